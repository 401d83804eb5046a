/-! LS: the start of the law. -/
theorem ilX4 : ∀ w ∈ wsX40, w ∈ wsL_law := fun _ h => List.mem_append_left _ (List.mem_append_left _ (List.mem_append_left _ (List.mem_append_left _ (List.mem_append_left _ (List.mem_append_left _ (List.mem_append_right _ h))))))
theorem ilX5 : ∀ w ∈ wsX50, w ∈ wsL_law := fun _ h => List.mem_append_left _ (List.mem_append_left _ (List.mem_append_left _ (List.mem_append_left _ (List.mem_append_left _ (List.mem_append_right _ h)))))
theorem hdX4_init : yX4_init.cls ≠ "java/lang/invoke/MethodHandle" ∧ yX4_init.cls ≠ "java/lang/invoke/VarHandle" ∧ (parseMethodDescriptor yX4_init.desc).map (fun d => d.parameters.length) = some 0 := by decide +kernel
theorem hdX5_init : yX5_init.cls ≠ "java/lang/invoke/MethodHandle" ∧ yX5_init.cls ≠ "java/lang/invoke/VarHandle" ∧ (parseMethodDescriptor yX5_init.desc).map (fun d => d.parameters.length) = some 0 := by decide +kernel

set_option maxHeartbeats 4000000 in
set_option maxRecDepth 100000 in
theorem law_start {K : zK} (C : Cx K room_1 RL cL_law wsL_law) (hnL : K.nL = 4) (hA : ∀ q, K.s.heap.size ≤ q → K.A q) (hE : eIni K.A K.s) (b L : Nat) (xs : Nat → Int32) (hLH : LH K b L xs) (hEnd : ∀ (H : Heap) (locs : List Loc) (ls : Array Slot), va_S K.A K.s.heap H locs → W K.p K.l K.e K.R K.s K.m K.args K.below K.meth K.c H locs 104 1616 K.Q (F0 K.m 655 ls [.int (nI 1)])) : Z K 0 0 [] [(0, .ref b)] 0 [] := by
  refine z_new C zc4 ilX4 (List.mem_of_getElem? (i := 0) rfl) (List.mem_of_getElem? (i := 1) rfl) (List.mem_of_getElem? (i := 2) rfl) hA [.null, .null, .null, .null, .null, .null, .null] (fun j hj => by rcases (show j = 0 ∨ j = 1 ∨ j = 2 ∨ j = 3 ∨ j = 4 ∨ j = 5 ∨ j = 6 by omega) with rfl | rfl | rfl | rfl | rfl | rfl | rfl <;> rfl) ⟨Nat.le_of_ble_eq_true rfl, Nat.le_of_ble_eq_true rfl⟩ dL_law_0 3 rfl (fun a4 => ?_)
  refine z_dup C rfl dL_law_3 4 rfl ?_
  refine z_callI (cs := []) C hA hE [.ref a4] (tX4_init K.l K.g a4) gL_law_X4_init rfl rfl rfl (List.mem_of_getElem? (i := 2) rfl) (List.mem_of_getElem? (i := 7) rfl) (List.mem_of_getElem? (i := 8) rfl) rfl hdX4_init ⟨Nat.le_of_ble_eq_true rfl, Nat.le_of_ble_eq_true rfl⟩ ⟨Nat.le_of_ble_eq_true rfl, Nat.le_of_ble_eq_true rfl⟩ rfl (Nat.le_of_ble_eq_true rfl) dL_law_4 7 rfl (fun u hu => ?_)
  obtain ⟨x, bd, tr, q, p, fb, h, ho, sb⟩ := u
  have hu : x 0 = a4 := hu
  subst hu
  refine z_astore_n C hnL [1, 0] [(0, .ref b), (1, .ref (x 0))] rfl rfl (Nat.le_of_ble_eq_true rfl) dL_law_7 8 rfl ?_
  refine z_new C zc5 ilX5 (List.mem_of_getElem? (i := 3) rfl) (List.mem_of_getElem? (i := 4) rfl) (List.mem_of_getElem? (i := 5) rfl) hA [.null, .null, .null, .int (nI 0), .null, .null, .null, .null, .null, .null, .int (nI 0), .int (nI 0), .null, .int (nI 0)] (fun j hj => by rcases (show j = 0 ∨ j = 1 ∨ j = 2 ∨ j = 3 ∨ j = 4 ∨ j = 5 ∨ j = 6 ∨ j = 7 ∨ j = 8 ∨ j = 9 ∨ j = 10 ∨ j = 11 ∨ j = 12 ∨ j = 13 by omega) with rfl | rfl | rfl | rfl | rfl | rfl | rfl | rfl | rfl | rfl | rfl | rfl | rfl | rfl <;> rfl) ⟨Nat.le_of_ble_eq_true rfl, Nat.le_of_ble_eq_true rfl⟩ dL_law_8 11 rfl (fun a5 => ?_)
  refine z_dup C rfl dL_law_11 12 rfl ?_
  refine z_callI C hA hE [.ref a5] (tX5_init K.l K.g a5) gL_law_X5_init rfl rfl rfl (List.mem_of_getElem? (i := 5) rfl) (List.mem_of_getElem? (i := 70) rfl) (List.mem_of_getElem? (i := 71) rfl) rfl hdX5_init ⟨Nat.le_of_ble_eq_true rfl, Nat.le_of_ble_eq_true rfl⟩ ⟨Nat.le_of_ble_eq_true rfl, Nat.le_of_ble_eq_true rfl⟩ rfl (Nat.le_of_ble_eq_true rfl) dL_law_12 15 rfl (fun y hu => ?_)
  have hu : y 0 = a5 := hu
  subst hu
  refine z_astore_n C hnL [1, 2, 0] [(0, .ref b), (1, .ref (x 0)), (2, .ref (y 0))] rfl rfl (Nat.le_of_ble_eq_true rfl) dL_law_15 16 rfl ?_
  refine z_iconst C (v := nI 0) rfl dL_law_16 17 rfl ?_
  refine z_istore_n C hnL [1, 2, 3, 0] [(0, .ref b), (1, .ref (x 0)), (2, .ref (y 0)), (3, .int (nI 0))] rfl rfl (Nat.le_of_ble_eq_true rfl) dL_law_17 18 rfl ?_
  refine z_widen 104 1616 (by decide) (by decide) ?_
  refine law_loop C hnL b x bd tr q p fb h ho sb y L xs hLH hEnd _ 0 rfl (Nat.zero_le _) (fun _ => false) fiS (fun _ _ => 0) 0 fiS (fun _ _ => 0) 0 (fun _ => 0) (fun _ => 0) (fun _ => 0) (fun _ => 0) (fun _ => 0) (fun _ => 0) (fun _ => 0) (fun _ => 0) 0 0 0 0 0 0 0 0 0 0 (fun _ => 0) 0 0 (nI 0) (nI 0) (nI 0) (nI 0) fiS (fun _ _ => 0) 0 0 0 (fun _ => fiS) (fun _ _ _ => 0) (fun _ => 0) (fun _ => fiS) (fun _ _ _ => 0) (fun _ => 0) fiA (fun _ => 0) (fun _ => 0) (fun _ => 0) (fun _ => 0) (fun _ => 0) (fun _ => 0) (fun _ => 0) 0 (fun _ => 0) 0 ?_
  exact ⟨GB_ini, ⟨fun _ _ => rfl, rfl, fun j hj => by omega⟩, IH_ini (by decide), fun k _ => Or.inr ⟨rfl, rfl⟩, IT_0⟩

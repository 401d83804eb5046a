/-! OB: the object's methods. -/
theorem un_e {α : Type} {f : Nat → α} {k j : Nat} {v : α} (h : k = j) : un f k v j = v := by
  subst h
  exact un_s
theorem PI_s2 {st : Nat → Nat} {r : Nat → Nat → Nat} {R n : Nat} {a0 a1 a2 a3 a4 a5 a6 a7 : Nat → Nat} {s1 s2 s3 s4 s5 s6 s7 s8 s9 : Nat} (hS : okS st) (hJ : okJ r n) (hn : n ≤ 12) (h : PI st r R n a0 a1 a2 a3 a4 a5 a6 a7 s1 s2 s3 s4 s5 s6 s7 s8 s9) : s2 ≤ 1000000 := by
  have hb := PI_bd hS hJ hn (Nat.le_refl n) h
  obtain ⟨hP, hA, e1, e2, -⟩ := h
  rw [e2]
  have := sm_le (f := a7) (B := 30000) n (fun i hi => by
    have := hb.1 i hi
    rw [(hA i hi).2.2.2.2.2.2]
    omega)
  omega
theorem PI_s6 {st : Nat → Nat} {r : Nat → Nat → Nat} {R n : Nat} {a0 a1 a2 a3 a4 a5 a6 a7 : Nat → Nat} {s1 s2 s3 s4 s5 s6 s7 s8 s9 : Nat} (hS : okS st) (hJ : okJ r n) (hn : n ≤ 12) (h : PI st r R n a0 a1 a2 a3 a4 a5 a6 a7 s1 s2 s3 s4 s5 s6 s7 s8 s9) : s6 ≤ 1000000 := by
  have hb := PP_bd hS hJ hn h
  obtain ⟨hP, hA, e1, e2, e3, e4, e5, e6, -⟩ := h
  rw [e6]
  have := sm_le (f := a3) (B := 30000) n (fun i hi => by
    have := hb i hi
    rw [(hA i hi).2.2.2.1]
    omega)
  omega
theorem leS_le (k : Nat) : leS k ≤ 4 := by
  unfold leS
  split <;> decide
theorem moS_le (k : Nat) : moS k ≤ 500 := by
  unfold moS
  split <;> decide
theorem okS_un {st : Nat → Nat} {k v : Nat} (h : okS st) (hk : k ≤ 6) (h1 : leS k ≤ v) (h2 : v ≤ moS k) : okS (un st k v) := by
  unfold okS at h ⊢
  rcases (show k = 0 ∨ k = 1 ∨ k = 2 ∨ k = 3 ∨ k = 4 ∨ k = 5 ∨ k = 6 by omega) with rfl | rfl | rfl | rfl | rfl | rfl | rfl <;> (simp only [leS, moS] at h1 h2; simp only [un, reduceIte, Nat.reduceEqDiff]; omega)
theorem mND_le {st : Nat → Nat} {r : Nat → Nat → Nat} {n : Nat} (hS : okS st) (hJ : okJ r n) : mND st r n ≤ 20 := mx_le n (fun j hj => ndj_le hS hJ hj)
theorem okJ_due {r : Nat → Nat → Nat} {n j w : Nat} (h : okJ r n) (hw : w ≤ 3000) : okJ (un r 3 (un (r 3) j w)) n := by
  intro i hi
  obtain ⟨h0, h1, h2, h3, h4⟩ := h i hi
  refine ⟨h0, h1, h2, h3, ?_⟩
  show un (r 3) j w i ≤ 3000
  unfold un
  split <;> omega
theorem okJ_le {r : Nat → Nat → Nat} {n f : Nat} (hf : f < 4) (h : okJ r n) : ∀ y, y < n → r f y ≤ 3000 := by
  intro y hy
  have := h y hy
  rcases (show f = 0 ∨ f = 1 ∨ f = 2 ∨ f = 3 by omega) with rfl | rfl | rfl | rfl <;> omega
theorem hdX0_arrange : yX0_arrange.cls = RX0 ∧ yX0_arrange.cls ≠ "java/lang/invoke/MethodHandle" ∧ yX0_arrange.cls ≠ "java/lang/invoke/VarHandle" ∧ (parseMethodDescriptor yX0_arrange.desc).map (fun d => d.parameters.length) = some 2 := by decide +kernel
theorem hdX0_exchange : yX0_exchange.cls = RX0 ∧ yX0_exchange.cls ≠ "java/lang/invoke/MethodHandle" ∧ yX0_exchange.cls ≠ "java/lang/invoke/VarHandle" ∧ (parseMethodDescriptor yX0_exchange.desc).map (fun d => d.parameters.length) = some 2 := by decide +kernel
theorem hdX0_hundredsOfAll : yX0_hundredsOfAll.cls = RX0 ∧ yX0_hundredsOfAll.cls ≠ "java/lang/invoke/MethodHandle" ∧ yX0_hundredsOfAll.cls ≠ "java/lang/invoke/VarHandle" ∧ (parseMethodDescriptor yX0_hundredsOfAll.desc).map (fun d => d.parameters.length) = some 0 := by decide +kernel
theorem hdX0_mostRacksNeeded : yX0_mostRacksNeeded.cls = RX0 ∧ yX0_mostRacksNeeded.cls ≠ "java/lang/invoke/MethodHandle" ∧ yX0_mostRacksNeeded.cls ≠ "java/lang/invoke/VarHandle" ∧ (parseMethodDescriptor yX0_mostRacksNeeded.desc).map (fun d => d.parameters.length) = some 1 := by decide +kernel
theorem hdX0_remove : yX0_remove.cls = RX0 ∧ yX0_remove.cls ≠ "java/lang/invoke/MethodHandle" ∧ yX0_remove.cls ≠ "java/lang/invoke/VarHandle" ∧ (parseMethodDescriptor yX0_remove.desc).map (fun d => d.parameters.length) = some 1 := by decide +kernel
theorem hdX1_remember : yX1_remember.cls = RX1 ∧ yX1_remember.cls ≠ "java/lang/invoke/MethodHandle" ∧ yX1_remember.cls ≠ "java/lang/invoke/VarHandle" ∧ (parseMethodDescriptor yX1_remember.desc).map (fun d => d.parameters.length) = some 1 := by decide +kernel
theorem hdX1_takeBack : yX1_takeBack.cls = RX1 ∧ yX1_takeBack.cls ≠ "java/lang/invoke/MethodHandle" ∧ yX1_takeBack.cls ≠ "java/lang/invoke/VarHandle" ∧ (parseMethodDescriptor yX1_takeBack.desc).map (fun d => d.parameters.length) = some 1 := by decide +kernel
theorem hdX2_parse : yX2_parse.cls = RX2 ∧ yX2_parse.cls ≠ "java/lang/invoke/MethodHandle" ∧ yX2_parse.cls ≠ "java/lang/invoke/VarHandle" ∧ (parseMethodDescriptor yX2_parse.desc).map (fun d => d.parameters.length) = some 0 := by decide +kernel
theorem hdX3_jobOnPress : yX3_jobOnPress.cls = RX3 ∧ yX3_jobOnPress.cls ≠ "java/lang/invoke/MethodHandle" ∧ yX3_jobOnPress.cls ≠ "java/lang/invoke/VarHandle" ∧ (parseMethodDescriptor yX3_jobOnPress.desc).map (fun d => d.parameters.length) = some 1 := by decide +kernel
theorem hdX3_lastOf : yX3_lastOf.cls = RX3 ∧ yX3_lastOf.cls ≠ "java/lang/invoke/MethodHandle" ∧ yX3_lastOf.cls ≠ "java/lang/invoke/VarHandle" ∧ (parseMethodDescriptor yX3_lastOf.desc).map (fun d => d.parameters.length) = some 1 := by decide +kernel
theorem hdX3_print : yX3_print.cls = RX3 ∧ yX3_print.cls ≠ "java/lang/invoke/MethodHandle" ∧ yX3_print.cls ≠ "java/lang/invoke/VarHandle" ∧ (parseMethodDescriptor yX3_print.desc).map (fun d => d.parameters.length) = some 2 := by decide +kernel
theorem hdX3_racksTaken : yX3_racksTaken.cls = RX3 ∧ yX3_racksTaken.cls ≠ "java/lang/invoke/MethodHandle" ∧ yX3_racksTaken.cls ≠ "java/lang/invoke/VarHandle" ∧ (parseMethodDescriptor yX3_racksTaken.desc).map (fun d => d.parameters.length) = some 1 := by decide +kernel
theorem hdX3_reached : yX3_reached.cls = RX3 ∧ yX3_reached.cls ≠ "java/lang/invoke/MethodHandle" ∧ yX3_reached.cls ≠ "java/lang/invoke/VarHandle" ∧ (parseMethodDescriptor yX3_reached.desc).map (fun d => d.parameters.length) = some 2 := by decide +kernel
theorem hdX4_isJob : yX4_isJob.cls = RX4 ∧ yX4_isJob.cls ≠ "java/lang/invoke/MethodHandle" ∧ yX4_isJob.cls ≠ "java/lang/invoke/VarHandle" ∧ (parseMethodDescriptor yX4_isJob.desc).map (fun d => d.parameters.length) = some 1 := by decide +kernel
theorem hdX4_lateSumOf : yX4_lateSumOf.cls = RX4 ∧ yX4_lateSumOf.cls ≠ "java/lang/invoke/MethodHandle" ∧ yX4_lateSumOf.cls ≠ "java/lang/invoke/VarHandle" ∧ (parseMethodDescriptor yX4_lateSumOf.desc).map (fun d => d.parameters.length) = some 1 := by decide +kernel
theorem iX4_isJob_X0 : ∀ w ∈ u_ws RX0 TX0 3, w ∈ wsX4_isJob := fun w h => (List.mem_cons_of_mem _ (List.mem_append_right _ h))
theorem iX4_isJob_X4 : ∀ w ∈ u_ws RX4 TX4 7, w ∈ wsX4_isJob := fun w h => (List.mem_cons_of_mem _ (List.mem_append_left _ (List.mem_append_right _ h)))
set_option maxHeartbeats 4000000 in
set_option maxRecDepth 100000 in
theorem tX4_isJob (l : Launch) (g : zG) (x bd tr q p h : Nat → Nat) (sb : Nat → Nat → Nat) (sv : Nat → Bool) (st : Nat → Nat) (r : Nat → Nat → Nat) (n : Nat) (v : Int32) (hn : n ≤ 12) : Met l yX4_isJob wsX4_isJob ({ frames := 1, cells := 0, slots := 0, locals := 22 } : Room) (zPre g [.ref (x 0), .int v] [wX g x bd tr q p h sb sv, wB g bd st r n]) (zQ g (fun _ : Unit => some (.int (bI (isJ v n))) ) (fun _ : Unit => True) (fun _ : Unit => [wX g x bd tr q p h sb sv, wB g bd st r n]) (zA [wX g x bd tr q p h sb sv, wB g bd st r n])) 0 0 (zA [wX g x bd tr q p h sb sv, wB g bd st r n]) := by
  refine z_entry (cc := cX4_isJob) (maxL := 2) (ret := (some .boolean)) (own := RX4) (by decide) rfl rfl (Nat.le_of_ble_eq_true rfl) [(0, .ref (x 0)), (1, .int v)] rfl ?_
  intro K hKl hKg hnL C hRx
  subst hKl
  subst hKg
  refine z_iload_n C 1 rfl rfl dX4_isJob_0 1 rfl ?_
  refine z_iconst C (v := nI 0) rfl dX4_isJob_1 2 rfl ?_
  refine z_aload_n C 0 rfl rfl dX4_isJob_2 3 rfl ?_
  refine z_get C zc4 iX4_isJob_X4 0 0 rfl rfl 0 (Nat.le_of_ble_eq_true rfl) (List.mem_of_getElem? (i := 1) rfl) (v := .ref (bd 0)) rfl dX4_isJob_3 6 rfl ?_
  refine z_get C zc0 iX4_isJob_X0 1 0 rfl rfl 2 (Nat.le_of_ble_eq_true rfl) (List.mem_of_getElem? (i := 2) rfl) (v := .int (nI n)) rfl dX4_isJob_6 9 rfl ?_
  refine z_iconst C (v := nI 1) rfl dX4_isJob_9 10 rfl ?_
  refine z_isubI C dX4_isJob_10 11 rfl ?_
  refine z_callP C [.int v, .int (nI 0), .int ((nI n) - (nI 1))] [] (tX4_within K.l K.g v (nI 0) ((nI n) - (nI 1)) ) gX4_isJob_X4_within rfl rfl rfl hdX4_within ⟨Nat.le_of_ble_eq_true rfl, Nat.le_of_ble_eq_true rfl⟩ ⟨Nat.zero_le _, Nat.zero_le _⟩ rfl rfl (Nat.le_of_ble_eq_true rfl) dX4_isJob_11 14 rfl (fun u9 hu9 => ?_)
  show Z K 0 0 [wX K.g x bd tr q p h sb sv, wB K.g bd st r n] [(0, .ref (x 0)), (1, .int v)] 14 [.int (bI (rg v.toInt (nI 0).toInt ((nI n) - (nI 1)).toInt))]
  exact z_bret C hRx dX4_isJob_14 () (by rw [show rg v.toInt (nI 0).toInt ((nI n) - (nI 1)).toInt = isJ v n from by unfold isJ; rw [nI_toInt (by decide), pk_sub_toInt (by omega) (by decide)]; rfl]) trivial rfl

theorem iX4_lateSumOf_X0 : ∀ w ∈ u_ws RX0 TX0 3, w ∈ wsX4_lateSumOf := fun w h => (List.mem_cons_of_mem _ (List.mem_append_left _ (List.mem_append_right _ h)))
theorem iX4_lateSumOf_X3 : ∀ w ∈ u_ws RX3 TX3 18, w ∈ wsX4_lateSumOf := fun w h => (List.mem_cons_of_mem _ (List.mem_append_right _ h))
theorem iX4_lateSumOf_X4 : ∀ w ∈ u_ws RX4 TX4 7, w ∈ wsX4_lateSumOf := fun w h => (List.mem_cons_of_mem _ (List.mem_append_left _ (List.mem_append_left _ (List.mem_append_right _ h))))
set_option maxHeartbeats 4000000 in
set_option maxRecDepth 100000 in
theorem tX4_lateSumOf (l : Launch) (g : zG) (x bd tr q p h : Nat → Nat) (sb : Nat → Nat → Nat) (sv : Nat → Bool) (a0 a1 a2 a3 a4 a5 a6 a7 : Nat → Nat) (s0 s1 s2 s3 s4 s5 s6 s7 s8 s9 : Nat) (o st : Nat → Nat) (r : Nat → Nat → Nat) (n : Nat) (hn : n ≤ 12) (hS : okS st) (hJ : okJ r n) (hR : okR st r n (st 5)) : Met l yX4_lateSumOf wsX4_lateSumOf ({ frames := 4, cells := 0, slots := 0, locals := 94 } : Room) (zPre g [.ref (x 0), .ref (o 0)] [wX g x bd tr q p h sb sv, wP g q a0 a1 a2 a3 a4 a5 a6 a7 s0 s1 s2 s3 s4 s5 s6 s7 s8 s9, wB g o st r n]) (zQ g (fun u : (Nat → Nat) × (Nat → Nat) × (Nat → Nat) × (Nat → Nat) × (Nat → Nat) × (Nat → Nat) × (Nat → Nat) × (Nat → Nat) × (Nat) × (Nat) × (Nat) × (Nat) × (Nat) × (Nat) × (Nat) × (Nat) × (Nat) => match u with | (c0, c1, c2, c3, c4, c5, c6, c7, d1, d2, d3, d4, d5, d6, d7, d8, d9) => some (.int (nI (LSm st r (st 5) n))) ) (fun u : (Nat → Nat) × (Nat → Nat) × (Nat → Nat) × (Nat → Nat) × (Nat → Nat) × (Nat → Nat) × (Nat → Nat) × (Nat → Nat) × (Nat) × (Nat) × (Nat) × (Nat) × (Nat) × (Nat) × (Nat) × (Nat) × (Nat) => match u with | (c0, c1, c2, c3, c4, c5, c6, c7, d1, d2, d3, d4, d5, d6, d7, d8, d9) => (LSm st r (st 5) n ≤ 1000000)) (fun u : (Nat → Nat) × (Nat → Nat) × (Nat → Nat) × (Nat → Nat) × (Nat → Nat) × (Nat → Nat) × (Nat → Nat) × (Nat → Nat) × (Nat) × (Nat) × (Nat) × (Nat) × (Nat) × (Nat) × (Nat) × (Nat) × (Nat) => match u with | (c0, c1, c2, c3, c4, c5, c6, c7, d1, d2, d3, d4, d5, d6, d7, d8, d9) => [wX g x bd tr q p h sb sv, wP g q c0 c1 c2 c3 c4 c5 c6 c7 n d1 d2 d3 d4 d5 d6 d7 d8 d9, wB g o st r n]) (zA [wX g x bd tr q p h sb sv, wP g q a0 a1 a2 a3 a4 a5 a6 a7 s0 s1 s2 s3 s4 s5 s6 s7 s8 s9, wB g o st r n])) 0 0 (zA [wX g x bd tr q p h sb sv, wP g q a0 a1 a2 a3 a4 a5 a6 a7 s0 s1 s2 s3 s4 s5 s6 s7 s8 s9, wB g o st r n]) := by
  refine z_entry (cc := cX4_lateSumOf) (maxL := 2) (ret := (some .int)) (own := RX4) (by decide) rfl rfl (Nat.le_of_ble_eq_true rfl) [(0, .ref (x 0)), (1, .ref (o 0))] rfl ?_
  intro K hKl hKg hnL C hRx
  subst hKl
  subst hKg
  refine z_aload_n C 0 rfl rfl dX4_lateSumOf_0 1 rfl ?_
  refine z_get C zc4 iX4_lateSumOf_X4 0 0 rfl rfl 2 (Nat.le_of_ble_eq_true rfl) (List.mem_of_getElem? (i := 1) rfl) (v := .ref (q 0)) rfl dX4_lateSumOf_1 4 rfl ?_
  refine z_aload_n C 1 rfl rfl dX4_lateSumOf_4 5 rfl ?_
  refine z_aload_n C 1 rfl rfl dX4_lateSumOf_5 6 rfl ?_
  refine z_get C zc0 iX4_lateSumOf_X0 2 0 rfl rfl 0 (Nat.le_of_ble_eq_true rfl) (List.mem_of_getElem? (i := 2) rfl) (v := .ref (o 1)) rfl dX4_lateSumOf_6 9 rfl ?_
  refine z_iconst C (v := nI 5) rfl dX4_lateSumOf_9 10 rfl ?_
  refine z_iald C (f := st) 2 1 rfl rfl (by omega) (by decide) dX4_lateSumOf_10 11 rfl ?_
  refine z_callV C [.ref (o 0), .int (nI (st 5))] [] (tX3_print K.l K.g q a0 a1 a2 a3 a4 a5 a6 a7 s0 s1 s2 s3 s4 s5 s6 s7 s8 s9 o st r n (st 5) hS hJ hn hR (by have := hS.2.2.2.2.2.2.2.1; omega)) gX4_lateSumOf_X3_print rfl rfl rfl hdX3_print ⟨Nat.le_of_ble_eq_true rfl, Nat.le_of_ble_eq_true rfl⟩ ⟨Nat.zero_le _, Nat.zero_le _⟩ 1 0 rfl rfl rfl [1, 2] rfl rfl (zlc (N := 3) rfl rfl) [0, 3, 4] rfl (by decide) (fun u : (Nat → Nat) × (Nat → Nat) × (Nat → Nat) × (Nat → Nat) × (Nat → Nat) × (Nat → Nat) × (Nat → Nat) × (Nat → Nat) × (Nat) × (Nat) × (Nat) × (Nat) × (Nat) × (Nat) × (Nat) × (Nat) × (Nat) => match u with | (c0, c1, c2, c3, c4, c5, c6, c7, d1, d2, d3, d4, d5, d6, d7, d8, d9) => [wX K.g x bd tr q p h sb sv, wP K.g q c0 c1 c2 c3 c4 c5 c6 c7 n d1 d2 d3 d4 d5 d6 d7 d8 d9, wB K.g o st r n]) (fun _ => rfl) rfl rfl (Nat.le_of_ble_eq_true rfl) dX4_lateSumOf_11 14 rfl (fun u9 hu9 => ?_)
  obtain ⟨c0, c1, c2, c3, c4, c5, c6, c7, d1, d2, d3, d4, d5, d6, d7, d8, d9⟩ := u9
  have hp := hu9
  have hp : PI st r (st 5) n c0 c1 c2 c3 c4 c5 c6 c7 d1 d2 d3 d4 d5 d6 d7 d8 d9 := hp
  show Z K 0 0 [wX K.g x bd tr q p h sb sv, wP K.g q c0 c1 c2 c3 c4 c5 c6 c7 n d1 d2 d3 d4 d5 d6 d7 d8 d9, wB K.g o st r n] [(0, .ref (x 0)), (1, .ref (o 0))] 14 []
  have hq := PI_all hp
  refine z_aload_n C 0 rfl rfl dX4_lateSumOf_14 15 rfl ?_
  refine z_get C zc4 iX4_lateSumOf_X4 0 0 rfl rfl 2 (Nat.le_of_ble_eq_true rfl) (List.mem_of_getElem? (i := 1) rfl) (v := .ref (q 0)) rfl dX4_lateSumOf_15 18 rfl ?_
  refine z_get C zc3 iX4_lateSumOf_X3 1 0 rfl rfl 10 (Nat.le_of_ble_eq_true rfl) (List.mem_of_getElem? (i := 3) rfl) (v := .int (nI d2)) rfl dX4_lateSumOf_18 21 rfl ?_
  exact z_iret C hRx dX4_lateSumOf_21 (c0, c1, c2, c3, c4, c5, c6, c7, d1, d2, d3, d4, d5, d6, d7, d8, d9) (congrArg (fun z => some (Value.int (nI z))) hq.2.2.2.1.symm) (by rw [← hq.2.2.2.1]; exact PI_s2 hS hJ hn hp) rfl

theorem iX4_lateSumIfExchanged_X4 : ∀ w ∈ u_ws RX4 TX4 7, w ∈ wsX4_lateSumIfExchanged := fun w h => (List.mem_cons_of_mem _ (List.mem_append_left _ (List.mem_append_left _ (List.mem_append_right _ h))))
set_option maxHeartbeats 4000000 in
set_option maxRecDepth 100000 in
theorem tX4_lateSumIfExchanged (l : Launch) (g : zG) (x bd tr q p h : Nat → Nat) (sb : Nat → Nat → Nat) (sv : Nat → Bool) (a0 a1 a2 a3 a4 a5 a6 a7 : Nat → Nat) (s0 s1 s2 s3 s4 s5 s6 s7 s8 s9 : Nat) (st : Nat → Nat) (r : Nat → Nat → Nat) (n f t : Nat) (hn : n ≤ 12) (hS : okS st) (hJ : okJ r n) (hR : okR st r n (st 5)) (hf : f < n) (ht : t < n) : Met l yX4_lateSumIfExchanged wsX4_lateSumIfExchanged ({ frames := 5, cells := 0, slots := 0, locals := 115 } : Room) (zPre g [.ref (x 0), .int (nI f), .int (nI t)] [wX g x bd tr q p h sb sv, wP g q a0 a1 a2 a3 a4 a5 a6 a7 s0 s1 s2 s3 s4 s5 s6 s7 s8 s9, wB g tr st r n]) (zQ g (fun u : (Nat → Nat) × (Nat → Nat) × (Nat → Nat) × (Nat → Nat) × (Nat → Nat) × (Nat → Nat) × (Nat → Nat) × (Nat → Nat) × (Nat) × (Nat) × (Nat) × (Nat) × (Nat) × (Nat) × (Nat) × (Nat) × (Nat) => match u with | (c0, c1, c2, c3, c4, c5, c6, c7, d1, d2, d3, d4, d5, d6, d7, d8, d9) => some (.int (nI (LSm st (fun k => swp (r k) f t) (st 5) n))) ) (fun u : (Nat → Nat) × (Nat → Nat) × (Nat → Nat) × (Nat → Nat) × (Nat → Nat) × (Nat → Nat) × (Nat → Nat) × (Nat → Nat) × (Nat) × (Nat) × (Nat) × (Nat) × (Nat) × (Nat) × (Nat) × (Nat) × (Nat) => match u with | (c0, c1, c2, c3, c4, c5, c6, c7, d1, d2, d3, d4, d5, d6, d7, d8, d9) => (LSm st (fun k => swp (r k) f t) (st 5) n ≤ 1000000)) (fun u : (Nat → Nat) × (Nat → Nat) × (Nat → Nat) × (Nat → Nat) × (Nat → Nat) × (Nat → Nat) × (Nat → Nat) × (Nat → Nat) × (Nat) × (Nat) × (Nat) × (Nat) × (Nat) × (Nat) × (Nat) × (Nat) × (Nat) => match u with | (c0, c1, c2, c3, c4, c5, c6, c7, d1, d2, d3, d4, d5, d6, d7, d8, d9) => [wX g x bd tr q p h sb sv, wP g q c0 c1 c2 c3 c4 c5 c6 c7 n d1 d2 d3 d4 d5 d6 d7 d8 d9, wB g tr st r n]) (zA [wX g x bd tr q p h sb sv, wP g q a0 a1 a2 a3 a4 a5 a6 a7 s0 s1 s2 s3 s4 s5 s6 s7 s8 s9, wB g tr st r n])) 0 0 (zA [wX g x bd tr q p h sb sv, wP g q a0 a1 a2 a3 a4 a5 a6 a7 s0 s1 s2 s3 s4 s5 s6 s7 s8 s9, wB g tr st r n]) := by
  refine z_entry (cc := cX4_lateSumIfExchanged) (maxL := 4) (ret := (some .int)) (own := RX4) (by decide) rfl rfl (Nat.le_of_ble_eq_true rfl) [(0, .ref (x 0)), (1, .int (nI f)), (2, .int (nI t))] rfl ?_
  intro K hKl hKg hnL C hRx
  subst hKl
  subst hKg
  refine z_aload_n C 0 rfl rfl dX4_lateSumIfExchanged_0 1 rfl ?_
  refine z_get C zc4 iX4_lateSumIfExchanged_X4 0 0 rfl rfl 1 (Nat.le_of_ble_eq_true rfl) (List.mem_of_getElem? (i := 1) rfl) (v := .ref (tr 0)) rfl dX4_lateSumIfExchanged_1 4 rfl ?_
  refine z_iload_n C 1 rfl rfl dX4_lateSumIfExchanged_4 5 rfl ?_
  refine z_iload_n C 2 rfl rfl dX4_lateSumIfExchanged_5 6 rfl ?_
  refine z_callV C [.int (nI f), .int (nI t)] [] (tX0_exchange K.l K.g tr st r n f t (by first | omega | assumption) (by first | omega | assumption)) gX4_lateSumIfExchanged_X0_exchange rfl rfl rfl hdX0_exchange ⟨Nat.le_of_ble_eq_true rfl, Nat.le_of_ble_eq_true rfl⟩ ⟨Nat.zero_le _, Nat.zero_le _⟩ 2 0 rfl rfl rfl [2] rfl rfl (zlc (N := 3) rfl rfl) [0, 1, 3] rfl (by decide) (fun _ : Unit => [wX K.g x bd tr q p h sb sv, wP K.g q a0 a1 a2 a3 a4 a5 a6 a7 s0 s1 s2 s3 s4 s5 s6 s7 s8 s9, wB K.g tr st (fun k => swp (r k) f t) n]) (fun _ => rfl) rfl rfl (Nat.le_of_ble_eq_true rfl) dX4_lateSumIfExchanged_6 9 rfl (fun u9 hu9 => ?_)
  show Z K 0 0 [wX K.g x bd tr q p h sb sv, wP K.g q a0 a1 a2 a3 a4 a5 a6 a7 s0 s1 s2 s3 s4 s5 s6 s7 s8 s9, wB K.g tr st (fun k => swp (r k) f t) n] [(0, .ref (x 0)), (1, .int (nI f)), (2, .int (nI t))] 9 []
  refine z_aload_n C 0 rfl rfl dX4_lateSumIfExchanged_9 10 rfl ?_
  refine z_aload_n C 0 rfl rfl dX4_lateSumIfExchanged_10 11 rfl ?_
  refine z_get C zc4 iX4_lateSumIfExchanged_X4 0 0 rfl rfl 1 (Nat.le_of_ble_eq_true rfl) (List.mem_of_getElem? (i := 1) rfl) (v := .ref (tr 0)) rfl dX4_lateSumIfExchanged_11 14 rfl ?_
  refine z_callV C [.ref (tr 0)] [] (tX4_lateSumOf K.l K.g x bd tr q p h sb sv a0 a1 a2 a3 a4 a5 a6 a7 s0 s1 s2 s3 s4 s5 s6 s7 s8 s9 tr st (fun k => swp (r k) f t) n hn hS (okJ_swp hf ht hJ) (okR_swp hf ht hR)) gX4_lateSumIfExchanged_X4_lateSumOf rfl rfl rfl hdX4_lateSumOf ⟨Nat.le_of_ble_eq_true rfl, Nat.le_of_ble_eq_true rfl⟩ ⟨Nat.zero_le _, Nat.zero_le _⟩ 0 0 rfl rfl rfl [0, 1, 2] rfl rfl (zlc (N := 3) rfl rfl) [3, 4, 5] rfl (by decide) (fun u : (Nat → Nat) × (Nat → Nat) × (Nat → Nat) × (Nat → Nat) × (Nat → Nat) × (Nat → Nat) × (Nat → Nat) × (Nat → Nat) × (Nat) × (Nat) × (Nat) × (Nat) × (Nat) × (Nat) × (Nat) × (Nat) × (Nat) => match u with | (c0, c1, c2, c3, c4, c5, c6, c7, d1, d2, d3, d4, d5, d6, d7, d8, d9) => [wX K.g x bd tr q p h sb sv, wP K.g q c0 c1 c2 c3 c4 c5 c6 c7 n d1 d2 d3 d4 d5 d6 d7 d8 d9, wB K.g tr st (fun k => swp (r k) f t) n]) (fun _ => rfl) rfl rfl (Nat.le_of_ble_eq_true rfl) dX4_lateSumIfExchanged_14 17 rfl (fun u9 hu9 => ?_)
  obtain ⟨c0, c1, c2, c3, c4, c5, c6, c7, d1, d2, d3, d4, d5, d6, d7, d8, d9⟩ := u9
  have hls := hu9
  have hls : LSm st (fun k => swp (r k) f t) (st 5) n ≤ 1000000 := hls
  show Z K 0 0 [wX K.g x bd tr q p h sb sv, wP K.g q c0 c1 c2 c3 c4 c5 c6 c7 n d1 d2 d3 d4 d5 d6 d7 d8 d9, wB K.g tr st (fun k => swp (r k) f t) n] [(0, .ref (x 0)), (1, .int (nI f)), (2, .int (nI t))] 17 [.int (nI (LSm st (fun k => swp (r k) f t) (st 5) n))]
  refine z_istore_n C hnL [1, 2, 3, 0] [(0, .ref (x 0)), (1, .int (nI f)), (2, .int (nI t)), (3, .int (nI (LSm st (fun k => swp (r k) f t) (st 5) n)))] rfl rfl (Nat.le_of_ble_eq_true rfl) dX4_lateSumIfExchanged_17 18 rfl ?_
  refine z_aload_n C 0 rfl rfl dX4_lateSumIfExchanged_18 19 rfl ?_
  refine z_get C zc4 iX4_lateSumIfExchanged_X4 0 0 rfl rfl 1 (Nat.le_of_ble_eq_true rfl) (List.mem_of_getElem? (i := 1) rfl) (v := .ref (tr 0)) rfl dX4_lateSumIfExchanged_19 22 rfl ?_
  refine z_iload_n C 1 rfl rfl dX4_lateSumIfExchanged_22 23 rfl ?_
  refine z_iload_n C 2 rfl rfl dX4_lateSumIfExchanged_23 24 rfl ?_
  refine z_callV C [.int (nI f), .int (nI t)] [] (tX0_exchange K.l K.g tr st (fun k => swp (r k) f t) n f t (by first | omega | assumption) (by first | omega | assumption)) gX4_lateSumIfExchanged_X0_exchange rfl rfl rfl hdX0_exchange ⟨Nat.le_of_ble_eq_true rfl, Nat.le_of_ble_eq_true rfl⟩ ⟨Nat.zero_le _, Nat.zero_le _⟩ 2 0 rfl rfl rfl [2] rfl rfl (zlc (N := 3) rfl rfl) [0, 1, 3] rfl (by decide) (fun _ : Unit => [wX K.g x bd tr q p h sb sv, wP K.g q c0 c1 c2 c3 c4 c5 c6 c7 n d1 d2 d3 d4 d5 d6 d7 d8 d9, wB K.g tr st (fun k => swp ((fun k => swp (r k) f t) k) f t) n]) (fun _ => rfl) rfl rfl (Nat.le_of_ble_eq_true rfl) dX4_lateSumIfExchanged_24 27 rfl (fun u9 hu9 => ?_)
  show Z K 0 0 [wX K.g x bd tr q p h sb sv, wP K.g q c0 c1 c2 c3 c4 c5 c6 c7 n d1 d2 d3 d4 d5 d6 d7 d8 d9, wB K.g tr st (fun k => swp ((fun k => swp (r k) f t) k) f t) n] [(0, .ref (x 0)), (1, .int (nI f)), (2, .int (nI t)), (3, .int (nI (LSm st (fun k => swp (r k) f t) (st 5) n)))] 27 []
  refine z_wB 2 rfl st r (fun _ _ => rfl) (by intro k hk y hy; simp only [swp_at]; (repeat' split); all_goals first | rfl | omega | (congr 1 <;> omega) | (exfalso; omega) | (subst_vars; first | rfl | (exfalso; omega) | (congr 1 <;> omega))) [wX K.g x bd tr q p h sb sv, wP K.g q c0 c1 c2 c3 c4 c5 c6 c7 n d1 d2 d3 d4 d5 d6 d7 d8 d9, wB K.g tr st r n] rfl ?_
  refine z_iload_n C 3 rfl rfl dX4_lateSumIfExchanged_27 28 rfl ?_
  exact z_iret C hRx dX4_lateSumIfExchanged_28 (c0, c1, c2, c3, c4, c5, c6, c7, d1, d2, d3, d4, d5, d6, d7, d8, d9) rfl hls rfl

theorem iX4_lateSumIfFirst_X4 : ∀ w ∈ u_ws RX4 TX4 7, w ∈ wsX4_lateSumIfFirst := fun w h => (List.mem_cons_of_mem _ (List.mem_append_left _ (List.mem_append_left _ (List.mem_append_right _ h))))
set_option maxHeartbeats 4000000 in
set_option maxRecDepth 100000 in
theorem tX4_lateSumIfFirst (l : Launch) (g : zG) (x bd tr q p h : Nat → Nat) (sb : Nat → Nat → Nat) (sv : Nat → Bool) (a0 a1 a2 a3 a4 a5 a6 a7 : Nat → Nat) (s0 s1 s2 s3 s4 s5 s6 s7 s8 s9 : Nat) (st : Nat → Nat) (r : Nat → Nat → Nat) (n f : Nat) (hn : n ≤ 12) (hS : okS st) (hJ : okJ r n) (hR : okR st r n (st 5)) (hf : f < n) : Met l yX4_lateSumIfFirst wsX4_lateSumIfFirst ({ frames := 5, cells := 0, slots := 0, locals := 115 } : Room) (zPre g [.ref (x 0), .int (nI f)] [wX g x bd tr q p h sb sv, wP g q a0 a1 a2 a3 a4 a5 a6 a7 s0 s1 s2 s3 s4 s5 s6 s7 s8 s9, wB g tr st r n]) (zQ g (fun u : (Nat → Nat) × (Nat → Nat) × (Nat → Nat) × (Nat → Nat) × (Nat → Nat) × (Nat → Nat) × (Nat → Nat) × (Nat → Nat) × (Nat) × (Nat) × (Nat) × (Nat) × (Nat) × (Nat) × (Nat) × (Nat) × (Nat) => match u with | (c0, c1, c2, c3, c4, c5, c6, c7, d1, d2, d3, d4, d5, d6, d7, d8, d9) => some (.int (nI (LSm st (fun k => shf (r k) f 0) (st 5) n))) ) (fun u : (Nat → Nat) × (Nat → Nat) × (Nat → Nat) × (Nat → Nat) × (Nat → Nat) × (Nat → Nat) × (Nat → Nat) × (Nat → Nat) × (Nat) × (Nat) × (Nat) × (Nat) × (Nat) × (Nat) × (Nat) × (Nat) × (Nat) => match u with | (c0, c1, c2, c3, c4, c5, c6, c7, d1, d2, d3, d4, d5, d6, d7, d8, d9) => (LSm st (fun k => shf (r k) f 0) (st 5) n ≤ 1000000)) (fun u : (Nat → Nat) × (Nat → Nat) × (Nat → Nat) × (Nat → Nat) × (Nat → Nat) × (Nat → Nat) × (Nat → Nat) × (Nat → Nat) × (Nat) × (Nat) × (Nat) × (Nat) × (Nat) × (Nat) × (Nat) × (Nat) × (Nat) => match u with | (c0, c1, c2, c3, c4, c5, c6, c7, d1, d2, d3, d4, d5, d6, d7, d8, d9) => [wX g x bd tr q p h sb sv, wP g q c0 c1 c2 c3 c4 c5 c6 c7 n d1 d2 d3 d4 d5 d6 d7 d8 d9, wB g tr st r n]) (zA [wX g x bd tr q p h sb sv, wP g q a0 a1 a2 a3 a4 a5 a6 a7 s0 s1 s2 s3 s4 s5 s6 s7 s8 s9, wB g tr st r n])) 0 0 (zA [wX g x bd tr q p h sb sv, wP g q a0 a1 a2 a3 a4 a5 a6 a7 s0 s1 s2 s3 s4 s5 s6 s7 s8 s9, wB g tr st r n]) := by
  refine z_entry (cc := cX4_lateSumIfFirst) (maxL := 3) (ret := (some .int)) (own := RX4) (by decide) rfl rfl (Nat.le_of_ble_eq_true rfl) [(0, .ref (x 0)), (1, .int (nI f))] rfl ?_
  intro K hKl hKg hnL C hRx
  subst hKl
  subst hKg
  refine z_aload_n C 0 rfl rfl dX4_lateSumIfFirst_0 1 rfl ?_
  refine z_get C zc4 iX4_lateSumIfFirst_X4 0 0 rfl rfl 1 (Nat.le_of_ble_eq_true rfl) (List.mem_of_getElem? (i := 1) rfl) (v := .ref (tr 0)) rfl dX4_lateSumIfFirst_1 4 rfl ?_
  refine z_iload_n C 1 rfl rfl dX4_lateSumIfFirst_4 5 rfl ?_
  refine z_iconst C (v := nI 0) rfl dX4_lateSumIfFirst_5 6 rfl ?_
  refine z_callV C [.int (nI f), .int (nI 0)] [] (tX0_shift K.l K.g tr st r n f 0 (by first | omega | assumption) (by first | omega | assumption)) gX4_lateSumIfFirst_X0_shift rfl rfl rfl hdX0_shift ⟨Nat.le_of_ble_eq_true rfl, Nat.le_of_ble_eq_true rfl⟩ ⟨Nat.zero_le _, Nat.zero_le _⟩ 2 0 rfl rfl rfl [2] rfl rfl (zlc (N := 3) rfl rfl) [0, 1, 3] rfl (by decide) (fun _ : Unit => [wX K.g x bd tr q p h sb sv, wP K.g q a0 a1 a2 a3 a4 a5 a6 a7 s0 s1 s2 s3 s4 s5 s6 s7 s8 s9, wB K.g tr st (fun k => shf (r k) f 0) n]) (fun _ => rfl) rfl rfl (Nat.le_of_ble_eq_true rfl) dX4_lateSumIfFirst_6 9 rfl (fun u9 hu9 => ?_)
  show Z K 0 0 [wX K.g x bd tr q p h sb sv, wP K.g q a0 a1 a2 a3 a4 a5 a6 a7 s0 s1 s2 s3 s4 s5 s6 s7 s8 s9, wB K.g tr st (fun k => shf (r k) f 0) n] [(0, .ref (x 0)), (1, .int (nI f))] 9 []
  refine z_aload_n C 0 rfl rfl dX4_lateSumIfFirst_9 10 rfl ?_
  refine z_aload_n C 0 rfl rfl dX4_lateSumIfFirst_10 11 rfl ?_
  refine z_get C zc4 iX4_lateSumIfFirst_X4 0 0 rfl rfl 1 (Nat.le_of_ble_eq_true rfl) (List.mem_of_getElem? (i := 1) rfl) (v := .ref (tr 0)) rfl dX4_lateSumIfFirst_11 14 rfl ?_
  refine z_callV C [.ref (tr 0)] [] (tX4_lateSumOf K.l K.g x bd tr q p h sb sv a0 a1 a2 a3 a4 a5 a6 a7 s0 s1 s2 s3 s4 s5 s6 s7 s8 s9 tr st (fun k => shf (r k) f 0) n hn hS (okJ_shf hf (by omega) hJ) (okR_shf hf (by omega) hR)) gX4_lateSumIfFirst_X4_lateSumOf rfl rfl rfl hdX4_lateSumOf ⟨Nat.le_of_ble_eq_true rfl, Nat.le_of_ble_eq_true rfl⟩ ⟨Nat.zero_le _, Nat.zero_le _⟩ 0 0 rfl rfl rfl [0, 1, 2] rfl rfl (zlc (N := 3) rfl rfl) [3, 4, 5] rfl (by decide) (fun u : (Nat → Nat) × (Nat → Nat) × (Nat → Nat) × (Nat → Nat) × (Nat → Nat) × (Nat → Nat) × (Nat → Nat) × (Nat → Nat) × (Nat) × (Nat) × (Nat) × (Nat) × (Nat) × (Nat) × (Nat) × (Nat) × (Nat) => match u with | (c0, c1, c2, c3, c4, c5, c6, c7, d1, d2, d3, d4, d5, d6, d7, d8, d9) => [wX K.g x bd tr q p h sb sv, wP K.g q c0 c1 c2 c3 c4 c5 c6 c7 n d1 d2 d3 d4 d5 d6 d7 d8 d9, wB K.g tr st (fun k => shf (r k) f 0) n]) (fun _ => rfl) rfl rfl (Nat.le_of_ble_eq_true rfl) dX4_lateSumIfFirst_14 17 rfl (fun u9 hu9 => ?_)
  obtain ⟨c0, c1, c2, c3, c4, c5, c6, c7, d1, d2, d3, d4, d5, d6, d7, d8, d9⟩ := u9
  have hls := hu9
  have hls : LSm st (fun k => shf (r k) f 0) (st 5) n ≤ 1000000 := hls
  show Z K 0 0 [wX K.g x bd tr q p h sb sv, wP K.g q c0 c1 c2 c3 c4 c5 c6 c7 n d1 d2 d3 d4 d5 d6 d7 d8 d9, wB K.g tr st (fun k => shf (r k) f 0) n] [(0, .ref (x 0)), (1, .int (nI f))] 17 [.int (nI (LSm st (fun k => shf (r k) f 0) (st 5) n))]
  refine z_istore_n C hnL [1, 2, 0] [(0, .ref (x 0)), (1, .int (nI f)), (2, .int (nI (LSm st (fun k => shf (r k) f 0) (st 5) n)))] rfl rfl (Nat.le_of_ble_eq_true rfl) dX4_lateSumIfFirst_17 18 rfl ?_
  refine z_aload_n C 0 rfl rfl dX4_lateSumIfFirst_18 19 rfl ?_
  refine z_get C zc4 iX4_lateSumIfFirst_X4 0 0 rfl rfl 1 (Nat.le_of_ble_eq_true rfl) (List.mem_of_getElem? (i := 1) rfl) (v := .ref (tr 0)) rfl dX4_lateSumIfFirst_19 22 rfl ?_
  refine z_iconst C (v := nI 0) rfl dX4_lateSumIfFirst_22 23 rfl ?_
  refine z_iload_n C 1 rfl rfl dX4_lateSumIfFirst_23 24 rfl ?_
  refine z_callV C [.int (nI 0), .int (nI f)] [] (tX0_shift K.l K.g tr st (fun k => shf (r k) f 0) n 0 f (by first | omega | assumption) (by first | omega | assumption)) gX4_lateSumIfFirst_X0_shift rfl rfl rfl hdX0_shift ⟨Nat.le_of_ble_eq_true rfl, Nat.le_of_ble_eq_true rfl⟩ ⟨Nat.zero_le _, Nat.zero_le _⟩ 2 0 rfl rfl rfl [2] rfl rfl (zlc (N := 3) rfl rfl) [0, 1, 3] rfl (by decide) (fun _ : Unit => [wX K.g x bd tr q p h sb sv, wP K.g q c0 c1 c2 c3 c4 c5 c6 c7 n d1 d2 d3 d4 d5 d6 d7 d8 d9, wB K.g tr st (fun k => shf ((fun k => shf (r k) f 0) k) 0 f) n]) (fun _ => rfl) rfl rfl (Nat.le_of_ble_eq_true rfl) dX4_lateSumIfFirst_24 27 rfl (fun u9 hu9 => ?_)
  show Z K 0 0 [wX K.g x bd tr q p h sb sv, wP K.g q c0 c1 c2 c3 c4 c5 c6 c7 n d1 d2 d3 d4 d5 d6 d7 d8 d9, wB K.g tr st (fun k => shf ((fun k => shf (r k) f 0) k) 0 f) n] [(0, .ref (x 0)), (1, .int (nI f)), (2, .int (nI (LSm st (fun k => shf (r k) f 0) (st 5) n)))] 27 []
  refine z_wB 2 rfl st r (fun _ _ => rfl) (by intro k hk y hy; simp only [shf_at]; (repeat' split); all_goals first | rfl | omega | (congr 1 <;> omega) | (exfalso; omega) | (subst_vars; first | rfl | (exfalso; omega) | (congr 1 <;> omega))) [wX K.g x bd tr q p h sb sv, wP K.g q c0 c1 c2 c3 c4 c5 c6 c7 n d1 d2 d3 d4 d5 d6 d7 d8 d9, wB K.g tr st r n] rfl ?_
  refine z_iload_n C 2 rfl rfl dX4_lateSumIfFirst_27 28 rfl ?_
  exact z_iret C hRx dX4_lateSumIfFirst_28 (c0, c1, c2, c3, c4, c5, c6, c7, d1, d2, d3, d4, d5, d6, d7, d8, d9) rfl hls rfl

set_option maxHeartbeats 4000000 in
set_option maxRecDepth 100000 in
theorem tX4_set_b1 (l : Launch) (g : zG) (x bd tr q p h : Nat → Nat) (sb : Nat → Nat → Nat) (sv : Nat → Bool) (a v : Int32) (hb : rg a.toInt (Int.ofNat 0) (Int.ofNat 6) = false) : Met l yX4_set wsX4_set ({ frames := 3, cells := 0, slots := 0, locals := 103 } : Room) (zPreE g eSet [.ref (x 0), .int a, .int v] [wX g x bd tr q p h sb sv]) (zQ g (fun _ : Unit => some (.int (-2)) ) (fun _ : Unit => True) (fun _ : Unit => [wX g x bd tr q p h sb sv]) (zA [wX g x bd tr q p h sb sv])) 0 0 (zA [wX g x bd tr q p h sb sv]) := by
  refine z_entryE (cc := cX4_set) (maxL := 6) (ret := (some .int)) (own := RX4) (by decide) rfl rfl (Nat.le_of_ble_eq_true rfl) [(0, .ref (x 0)), (1, .int a), (2, .int v)] rfl ?_
  intro K hKl hKg hnL C hRx hE
  subst hKl
  subst hKg
  refine z_iload_n C 1 rfl rfl dX4_set_0 1 rfl ?_
  refine z_iconst C (v := nI 0) rfl dX4_set_1 2 rfl ?_
  refine z_bipush C (v := nI 6) rfl dX4_set_2 4 rfl ?_
  refine z_callP C [.int a, .int (nI 0), .int (nI 6)] [] (tX4_withinN K.l K.g a 0 6 (by first | omega | assumption) (by first | omega | assumption)) gX4_set_X4_within rfl rfl rfl hdX4_within ⟨Nat.le_of_ble_eq_true rfl, Nat.le_of_ble_eq_true rfl⟩ ⟨Nat.zero_le _, Nat.zero_le _⟩ rfl rfl (Nat.le_of_ble_eq_true rfl) dX4_set_4 7 rfl (fun u9 hu9 => ?_)
  show Z K 0 0 [wX K.g x bd tr q p h sb sv] [(0, .ref (x 0)), (1, .int a), (2, .int v)] 7 [.int (bI (rg a.toInt (Int.ofNat 0) (Int.ofNat 6)))]
  refine z_ifb_eq C 27 dX4_set_7 (by decide) 10 rfl (fun c_1 => ?_) (fun c_1 => ?_)
  rotate_left
  · exfalso; rw [hb] at c_1; exact Bool.noConfusion c_1
  refine z_bipush C (v := (-2)) rfl dX4_set_27 29 rfl ?_
  exact z_iret C hRx dX4_set_29 () rfl trivial rfl

set_option maxHeartbeats 4000000 in
set_option maxRecDepth 100000 in
theorem tX4_set_b2 (l : Launch) (g : zG) (x bd tr q p h : Nat → Nat) (sb : Nat → Nat → Nat) (sv : Nat → Bool) (k : Nat) (v : Int32) (hk6 : k ≤ 6) (hb : rg v.toInt (Int.ofNat (leS k)) (Int.ofNat (moS k)) = false) : Met l yX4_set wsX4_set ({ frames := 3, cells := 0, slots := 0, locals := 103 } : Room) (zPreE g eSet [.ref (x 0), .int (nI k), .int v] [wX g x bd tr q p h sb sv]) (zQ g (fun _ : Unit => some (.int (-2)) ) (fun _ : Unit => True) (fun _ : Unit => [wX g x bd tr q p h sb sv]) (zA [wX g x bd tr q p h sb sv])) 0 0 (zA [wX g x bd tr q p h sb sv]) := by
  refine z_entryE (cc := cX4_set) (maxL := 6) (ret := (some .int)) (own := RX4) (by decide) rfl rfl (Nat.le_of_ble_eq_true rfl) [(0, .ref (x 0)), (1, .int (nI k)), (2, .int v)] rfl ?_
  intro K hKl hKg hnL C hRx hE
  subst hKl
  subst hKg
  obtain ⟨sa1, sa2, hs1, hs2⟩ := hE
  refine z_iload_n C 1 rfl rfl dX4_set_0 1 rfl ?_
  refine z_iconst C (v := nI 0) rfl dX4_set_1 2 rfl ?_
  refine z_bipush C (v := nI 6) rfl dX4_set_2 4 rfl ?_
  refine z_callP C [.int (nI k), .int (nI 0), .int (nI 6)] [] (tX4_withinN K.l K.g (nI k) 0 6 (by first | omega | assumption) (by first | omega | assumption)) gX4_set_X4_within rfl rfl rfl hdX4_within ⟨Nat.le_of_ble_eq_true rfl, Nat.le_of_ble_eq_true rfl⟩ ⟨Nat.zero_le _, Nat.zero_le _⟩ rfl rfl (Nat.le_of_ble_eq_true rfl) dX4_set_4 7 rfl (fun u9 hu9 => ?_)
  show Z K 0 0 [wX K.g x bd tr q p h sb sv] [(0, .ref (x 0)), (1, .int (nI k)), (2, .int v)] 7 [.int (bI (rg (nI k).toInt (Int.ofNat 0) (Int.ofNat 6)))]
  refine z_ifb_eq C 27 dX4_set_7 (by decide) 10 rfl (fun c_1 => ?_) (fun c_1 => ?_)
  · exfalso; rw [rgN_t (by omega) (by omega) (by omega)] at c_1; exact Bool.noConfusion c_1
  refine z_iload_n C 2 rfl rfl dX4_set_10 11 rfl ?_
  refine z_gets C hs1.1 (List.mem_of_getElem? (i := 1) rfl) dX4_set_11 14 rfl ?_
  refine z_iload_n C 1 rfl rfl dX4_set_14 15 rfl ?_
  refine z_sld C (f := leS) hs1.2.1 hs1.2.2.1 hs1.2.2.2 (by omega) (by decide) dX4_set_15 16 rfl ?_
  refine z_gets C hs2.1 (List.mem_of_getElem? (i := 2) rfl) dX4_set_16 19 rfl ?_
  refine z_iload_n C 1 rfl rfl dX4_set_19 20 rfl ?_
  refine z_sld C (f := moS) hs2.2.1 hs2.2.2.1 hs2.2.2.2 (by omega) (by decide) dX4_set_20 21 rfl ?_
  refine z_callP C [.int v, .int (nI (leS k)), .int (nI (moS k))] [] (tX4_withinN K.l K.g v (leS k) (moS k) (Nat.lt_of_le_of_lt (leS_le _) (by decide)) (Nat.lt_of_le_of_lt (moS_le _) (by decide))) gX4_set_X4_within rfl rfl rfl hdX4_within ⟨Nat.le_of_ble_eq_true rfl, Nat.le_of_ble_eq_true rfl⟩ ⟨Nat.zero_le _, Nat.zero_le _⟩ rfl rfl (Nat.le_of_ble_eq_true rfl) dX4_set_21 24 rfl (fun u9 hu9 => ?_)
  show Z K 0 0 [wX K.g x bd tr q p h sb sv] [(0, .ref (x 0)), (1, .int (nI k)), (2, .int v)] 24 [.int (bI (rg v.toInt (Int.ofNat (leS k)) (Int.ofNat (moS k))))]
  refine z_ifb_ne C 30 dX4_set_24 (by decide) 27 rfl (fun c_2 => ?_) (fun c_2 => ?_)
  · exfalso; rw [hb] at c_2; exact Bool.noConfusion c_2
  refine z_bipush C (v := (-2)) rfl dX4_set_27 29 rfl ?_
  exact z_iret C hRx dX4_set_29 () rfl trivial rfl

theorem iX4_set_X0 : ∀ w ∈ u_ws RX0 TX0 3, w ∈ wsX4_set := fun w h => (List.mem_cons_of_mem _ (List.mem_append_left _ (List.mem_append_right _ h)))
theorem iX4_set_X4 : ∀ w ∈ u_ws RX4 TX4 7, w ∈ wsX4_set := fun w h => (List.mem_cons_of_mem _ (List.mem_append_left _ (List.mem_append_left _ (List.mem_append_right _ h))))
set_option maxHeartbeats 4000000 in
set_option maxRecDepth 100000 in
theorem tX4_set_np (l : Launch) (g : zG) (x bd tr q p h : Nat → Nat) (sb : Nat → Nat → Nat) (sv : Nat → Bool) (st : Nat → Nat) (r : Nat → Nat → Nat) (n : Nat) (k v : Nat) (hn : n ≤ 12) (hS : okS st) (hJ : okJ r n) (hk6 : k ≤ 6) (hv1 : leS k ≤ v) (hv2 : v ≤ moS k) (hb : un st k v 5 < mND (un st k v) r n) : Met l yX4_set wsX4_set ({ frames := 3, cells := 0, slots := 0, locals := 103 } : Room) (zPreE g eSet [.ref (x 0), .int (nI k), .int (nI v)] [wX g x bd tr q p h sb sv, wB g bd st r n]) (zQ g (fun _ : Unit => some (.int (-5)) ) (fun _ : Unit => True) (fun _ : Unit => [wX g x bd tr q p h sb sv, wB g bd st r n]) (zA [wX g x bd tr q p h sb sv, wB g bd st r n])) 0 0 (zA [wX g x bd tr q p h sb sv, wB g bd st r n]) := by
  refine z_entryE (cc := cX4_set) (maxL := 6) (ret := (some .int)) (own := RX4) (by decide) rfl rfl (Nat.le_of_ble_eq_true rfl) [(0, .ref (x 0)), (1, .int (nI k)), (2, .int (nI v))] rfl ?_
  intro K hKl hKg hnL C hRx hE
  subst hKl
  subst hKg
  obtain ⟨sa1, sa2, hs1, hs2⟩ := hE
  have hS2 := okS_un hS hk6 hv1 hv2
  have hmb := mND_le (st := un st k v) hS2 hJ
  have h5b := hS2.2.2.2.2.2.2.2.1
  have hmv := moS_le k
  refine z_iload_n C 1 rfl rfl dX4_set_0 1 rfl ?_
  refine z_iconst C (v := nI 0) rfl dX4_set_1 2 rfl ?_
  refine z_bipush C (v := nI 6) rfl dX4_set_2 4 rfl ?_
  refine z_callP C [.int (nI k), .int (nI 0), .int (nI 6)] [] (tX4_withinN K.l K.g (nI k) 0 6 (by first | omega | assumption) (by first | omega | assumption)) gX4_set_X4_within rfl rfl rfl hdX4_within ⟨Nat.le_of_ble_eq_true rfl, Nat.le_of_ble_eq_true rfl⟩ ⟨Nat.zero_le _, Nat.zero_le _⟩ rfl rfl (Nat.le_of_ble_eq_true rfl) dX4_set_4 7 rfl (fun u9 hu9 => ?_)
  show Z K 0 0 [wX K.g x bd tr q p h sb sv, wB K.g bd st r n] [(0, .ref (x 0)), (1, .int (nI k)), (2, .int (nI v))] 7 [.int (bI (rg (nI k).toInt (Int.ofNat 0) (Int.ofNat 6)))]
  refine z_ifb_eq C 27 dX4_set_7 (by decide) 10 rfl (fun c_1 => ?_) (fun c_1 => ?_)
  · exfalso; rw [rgN_t (by omega) (by omega) (by omega)] at c_1; exact Bool.noConfusion c_1
  refine z_iload_n C 2 rfl rfl dX4_set_10 11 rfl ?_
  refine z_gets C hs1.1 (List.mem_of_getElem? (i := 1) rfl) dX4_set_11 14 rfl ?_
  refine z_iload_n C 1 rfl rfl dX4_set_14 15 rfl ?_
  refine z_sld C (f := leS) hs1.2.1 hs1.2.2.1 hs1.2.2.2 (by omega) (by decide) dX4_set_15 16 rfl ?_
  refine z_gets C hs2.1 (List.mem_of_getElem? (i := 2) rfl) dX4_set_16 19 rfl ?_
  refine z_iload_n C 1 rfl rfl dX4_set_19 20 rfl ?_
  refine z_sld C (f := moS) hs2.2.1 hs2.2.2.1 hs2.2.2.2 (by omega) (by decide) dX4_set_20 21 rfl ?_
  refine z_callP C [.int (nI v), .int (nI (leS k)), .int (nI (moS k))] [] (tX4_withinN K.l K.g (nI v) (leS k) (moS k) (Nat.lt_of_le_of_lt (leS_le _) (by decide)) (Nat.lt_of_le_of_lt (moS_le _) (by decide))) gX4_set_X4_within rfl rfl rfl hdX4_within ⟨Nat.le_of_ble_eq_true rfl, Nat.le_of_ble_eq_true rfl⟩ ⟨Nat.zero_le _, Nat.zero_le _⟩ rfl rfl (Nat.le_of_ble_eq_true rfl) dX4_set_21 24 rfl (fun u9 hu9 => ?_)
  show Z K 0 0 [wX K.g x bd tr q p h sb sv, wB K.g bd st r n] [(0, .ref (x 0)), (1, .int (nI k)), (2, .int (nI v))] 24 [.int (bI (rg (nI v).toInt (Int.ofNat (leS k)) (Int.ofNat (moS k))))]
  refine z_ifb_ne C 30 dX4_set_24 (by decide) 27 rfl (fun c_2 => ?_) (fun c_2 => ?_)
  rotate_left
  · exfalso; rw [rgN_t (by omega) (by omega) (by omega)] at c_2; exact Bool.noConfusion c_2
  refine z_iload_n C 1 rfl rfl dX4_set_30 31 rfl ?_
  refine z_iconst C (v := nI 5) rfl dX4_set_31 32 rfl ?_
  refine z_icmp_ne C (by omega) (by omega) 39 dX4_set_32 (by decide) 35 rfl (fun c_3 => ?_) (fun c_3 => ?_)
  · skip
    refine z_aload_n C 0 rfl rfl dX4_set_39 40 rfl ?_
    refine z_get C zc4 iX4_set_X4 0 0 rfl rfl 0 (Nat.le_of_ble_eq_true rfl) (List.mem_of_getElem? (i := 3) rfl) (v := .ref (bd 0)) rfl dX4_set_40 43 rfl ?_
    refine z_get C zc0 iX4_set_X0 1 0 rfl rfl 0 (Nat.le_of_ble_eq_true rfl) (List.mem_of_getElem? (i := 4) rfl) (v := .ref (bd 1)) rfl dX4_set_43 46 rfl ?_
    refine z_iconst C (v := nI 5) rfl dX4_set_46 47 rfl ?_
    refine z_iald C (f := st) 1 1 rfl rfl (by omega) (by decide) dX4_set_47 48 rfl ?_
    refine z_top (show nI (st 5) = nI (un st k v 5) from (by rw [un_n (show 5 ≠ k by omega)])) ?_
    refine z_istore_n C hnL [1, 2, 3, 0] [(0, .ref (x 0)), (1, .int (nI k)), (2, .int (nI v)), (3, .int (nI (un st k v 5)))] rfl rfl (Nat.le_of_ble_eq_true rfl) dX4_set_48 49 rfl ?_
    refine z_iload_n C 1 rfl rfl dX4_set_49 50 rfl ?_
    refine z_bipush C (v := nI 6) rfl dX4_set_50 52 rfl ?_
    refine z_icmp_ne C (by omega) (by omega) 59 dX4_set_52 (by decide) 55 rfl (fun c_4 => ?_) (fun c_4 => ?_)
    · skip
      refine z_aload_n C 0 rfl rfl dX4_set_59 60 rfl ?_
      refine z_get C zc4 iX4_set_X4 0 0 rfl rfl 0 (Nat.le_of_ble_eq_true rfl) (List.mem_of_getElem? (i := 3) rfl) (v := .ref (bd 0)) rfl dX4_set_60 63 rfl ?_
      refine z_get C zc0 iX4_set_X0 1 0 rfl rfl 0 (Nat.le_of_ble_eq_true rfl) (List.mem_of_getElem? (i := 4) rfl) (v := .ref (bd 1)) rfl dX4_set_63 66 rfl ?_
      refine z_bipush C (v := nI 6) rfl dX4_set_66 68 rfl ?_
      refine z_iald C (f := st) 1 1 rfl rfl (by omega) (by decide) dX4_set_68 69 rfl ?_
      refine z_top (show nI (st 6) = nI (un st k v 6) from (by rw [un_n (show 6 ≠ k by omega)])) ?_
      refine z_istore C hnL [1, 2, 3, 4, 0] [(0, .ref (x 0)), (1, .int (nI k)), (2, .int (nI v)), (3, .int (nI (un st k v 5))), (4, .int (nI (un st k v 6)))] rfl (Nat.le_of_ble_eq_true rfl) dX4_set_69 71 rfl ?_
      refine z_aload_n C 0 rfl rfl dX4_set_71 72 rfl ?_
      refine z_get C zc4 iX4_set_X4 0 0 rfl rfl 0 (Nat.le_of_ble_eq_true rfl) (List.mem_of_getElem? (i := 3) rfl) (v := .ref (bd 0)) rfl dX4_set_72 75 rfl ?_
      refine z_iload C 4 rfl dX4_set_75 77 rfl ?_
      refine z_callV C [.int (nI (un st k v 6))] [] (tX0_mostRacksNeeded K.l K.g bd st r n (un st k v 6) hS2.2.2.2.2.2.2.2.2.1 hS2.2.2.2.2.2.2.2.2.2 hn (fun y hy => (hJ y hy).2.2.2.1)) gX4_set_X0_mostRacksNeeded rfl rfl rfl hdX0_mostRacksNeeded ⟨Nat.le_of_ble_eq_true rfl, Nat.le_of_ble_eq_true rfl⟩ ⟨Nat.zero_le _, Nat.zero_le _⟩ 1 0 rfl rfl rfl [1] rfl rfl (zlc (N := 2) rfl rfl) [0, 2] rfl (by decide) (fun _ : Unit => [wX K.g x bd tr q p h sb sv, wB K.g bd st r n]) (fun _ => rfl) rfl rfl (Nat.le_of_ble_eq_true rfl) dX4_set_77 80 rfl (fun u9 hu9 => ?_)
      show Z K 0 0 [wX K.g x bd tr q p h sb sv, wB K.g bd st r n] [(0, .ref (x 0)), (1, .int (nI k)), (2, .int (nI v)), (3, .int (nI (un st k v 5))), (4, .int (nI (un st k v 6)))] 80 [.int (nI (mx (fun y => nd (un st k v 6) (r 2 y)) n))]
      refine z_top (show nI (mx (fun y => nd (un st k v 6) (r 2 y)) n) = nI (mND (un st k v) r n) from rfl) ?_
      refine z_iload_n C 3 rfl rfl dX4_set_80 81 rfl ?_
      refine z_icmp_le C (by omega) (by omega) 87 dX4_set_81 (by decide) 84 rfl (fun c_5 => ?_) (fun c_5 => ?_)
      · exfalso; omega
      refine z_bipush C (v := (-5)) rfl dX4_set_84 86 rfl ?_
      exact z_iret C hRx dX4_set_86 () rfl trivial rfl
    · skip
      refine z_iload_n C 2 rfl rfl dX4_set_55 56 rfl ?_
      refine z_goto C 69 dX4_set_56 (by decide) ?_
      refine z_top (show nI v = nI (un st k v 6) from (by rw [un_e (show k = 6 by omega)])) ?_
      refine z_istore C hnL [1, 2, 3, 4, 0] [(0, .ref (x 0)), (1, .int (nI k)), (2, .int (nI v)), (3, .int (nI (un st k v 5))), (4, .int (nI (un st k v 6)))] rfl (Nat.le_of_ble_eq_true rfl) dX4_set_69 71 rfl ?_
      refine z_aload_n C 0 rfl rfl dX4_set_71 72 rfl ?_
      refine z_get C zc4 iX4_set_X4 0 0 rfl rfl 0 (Nat.le_of_ble_eq_true rfl) (List.mem_of_getElem? (i := 3) rfl) (v := .ref (bd 0)) rfl dX4_set_72 75 rfl ?_
      refine z_iload C 4 rfl dX4_set_75 77 rfl ?_
      refine z_callV C [.int (nI (un st k v 6))] [] (tX0_mostRacksNeeded K.l K.g bd st r n (un st k v 6) hS2.2.2.2.2.2.2.2.2.1 hS2.2.2.2.2.2.2.2.2.2 hn (fun y hy => (hJ y hy).2.2.2.1)) gX4_set_X0_mostRacksNeeded rfl rfl rfl hdX0_mostRacksNeeded ⟨Nat.le_of_ble_eq_true rfl, Nat.le_of_ble_eq_true rfl⟩ ⟨Nat.zero_le _, Nat.zero_le _⟩ 1 0 rfl rfl rfl [1] rfl rfl (zlc (N := 2) rfl rfl) [0, 2] rfl (by decide) (fun _ : Unit => [wX K.g x bd tr q p h sb sv, wB K.g bd st r n]) (fun _ => rfl) rfl rfl (Nat.le_of_ble_eq_true rfl) dX4_set_77 80 rfl (fun u9 hu9 => ?_)
      show Z K 0 0 [wX K.g x bd tr q p h sb sv, wB K.g bd st r n] [(0, .ref (x 0)), (1, .int (nI k)), (2, .int (nI v)), (3, .int (nI (un st k v 5))), (4, .int (nI (un st k v 6)))] 80 [.int (nI (mx (fun y => nd (un st k v 6) (r 2 y)) n))]
      refine z_top (show nI (mx (fun y => nd (un st k v 6) (r 2 y)) n) = nI (mND (un st k v) r n) from rfl) ?_
      refine z_iload_n C 3 rfl rfl dX4_set_80 81 rfl ?_
      refine z_icmp_le C (by omega) (by omega) 87 dX4_set_81 (by decide) 84 rfl (fun c_6 => ?_) (fun c_6 => ?_)
      · exfalso; omega
      refine z_bipush C (v := (-5)) rfl dX4_set_84 86 rfl ?_
      exact z_iret C hRx dX4_set_86 () rfl trivial rfl
  · skip
    refine z_iload_n C 2 rfl rfl dX4_set_35 36 rfl ?_
    refine z_goto C 48 dX4_set_36 (by decide) ?_
    refine z_top (show nI v = nI (un st k v 5) from (by rw [un_e (show k = 5 by omega)])) ?_
    refine z_istore_n C hnL [1, 2, 3, 0] [(0, .ref (x 0)), (1, .int (nI k)), (2, .int (nI v)), (3, .int (nI (un st k v 5)))] rfl rfl (Nat.le_of_ble_eq_true rfl) dX4_set_48 49 rfl ?_
    refine z_iload_n C 1 rfl rfl dX4_set_49 50 rfl ?_
    refine z_bipush C (v := nI 6) rfl dX4_set_50 52 rfl ?_
    refine z_icmp_ne C (by omega) (by omega) 59 dX4_set_52 (by decide) 55 rfl (fun c_7 => ?_) (fun c_7 => ?_)
    · skip
      refine z_aload_n C 0 rfl rfl dX4_set_59 60 rfl ?_
      refine z_get C zc4 iX4_set_X4 0 0 rfl rfl 0 (Nat.le_of_ble_eq_true rfl) (List.mem_of_getElem? (i := 3) rfl) (v := .ref (bd 0)) rfl dX4_set_60 63 rfl ?_
      refine z_get C zc0 iX4_set_X0 1 0 rfl rfl 0 (Nat.le_of_ble_eq_true rfl) (List.mem_of_getElem? (i := 4) rfl) (v := .ref (bd 1)) rfl dX4_set_63 66 rfl ?_
      refine z_bipush C (v := nI 6) rfl dX4_set_66 68 rfl ?_
      refine z_iald C (f := st) 1 1 rfl rfl (by omega) (by decide) dX4_set_68 69 rfl ?_
      refine z_top (show nI (st 6) = nI (un st k v 6) from (by rw [un_n (show 6 ≠ k by omega)])) ?_
      refine z_istore C hnL [1, 2, 3, 4, 0] [(0, .ref (x 0)), (1, .int (nI k)), (2, .int (nI v)), (3, .int (nI (un st k v 5))), (4, .int (nI (un st k v 6)))] rfl (Nat.le_of_ble_eq_true rfl) dX4_set_69 71 rfl ?_
      refine z_aload_n C 0 rfl rfl dX4_set_71 72 rfl ?_
      refine z_get C zc4 iX4_set_X4 0 0 rfl rfl 0 (Nat.le_of_ble_eq_true rfl) (List.mem_of_getElem? (i := 3) rfl) (v := .ref (bd 0)) rfl dX4_set_72 75 rfl ?_
      refine z_iload C 4 rfl dX4_set_75 77 rfl ?_
      refine z_callV C [.int (nI (un st k v 6))] [] (tX0_mostRacksNeeded K.l K.g bd st r n (un st k v 6) hS2.2.2.2.2.2.2.2.2.1 hS2.2.2.2.2.2.2.2.2.2 hn (fun y hy => (hJ y hy).2.2.2.1)) gX4_set_X0_mostRacksNeeded rfl rfl rfl hdX0_mostRacksNeeded ⟨Nat.le_of_ble_eq_true rfl, Nat.le_of_ble_eq_true rfl⟩ ⟨Nat.zero_le _, Nat.zero_le _⟩ 1 0 rfl rfl rfl [1] rfl rfl (zlc (N := 2) rfl rfl) [0, 2] rfl (by decide) (fun _ : Unit => [wX K.g x bd tr q p h sb sv, wB K.g bd st r n]) (fun _ => rfl) rfl rfl (Nat.le_of_ble_eq_true rfl) dX4_set_77 80 rfl (fun u9 hu9 => ?_)
      show Z K 0 0 [wX K.g x bd tr q p h sb sv, wB K.g bd st r n] [(0, .ref (x 0)), (1, .int (nI k)), (2, .int (nI v)), (3, .int (nI (un st k v 5))), (4, .int (nI (un st k v 6)))] 80 [.int (nI (mx (fun y => nd (un st k v 6) (r 2 y)) n))]
      refine z_top (show nI (mx (fun y => nd (un st k v 6) (r 2 y)) n) = nI (mND (un st k v) r n) from rfl) ?_
      refine z_iload_n C 3 rfl rfl dX4_set_80 81 rfl ?_
      refine z_icmp_le C (by omega) (by omega) 87 dX4_set_81 (by decide) 84 rfl (fun c_8 => ?_) (fun c_8 => ?_)
      · exfalso; omega
      refine z_bipush C (v := (-5)) rfl dX4_set_84 86 rfl ?_
      exact z_iret C hRx dX4_set_86 () rfl trivial rfl
    · skip
      refine z_iload_n C 2 rfl rfl dX4_set_55 56 rfl ?_
      refine z_goto C 69 dX4_set_56 (by decide) ?_
      refine z_top (show nI v = nI (un st k v 6) from (by rw [un_e (show k = 6 by omega)])) ?_
      refine z_istore C hnL [1, 2, 3, 4, 0] [(0, .ref (x 0)), (1, .int (nI k)), (2, .int (nI v)), (3, .int (nI (un st k v 5))), (4, .int (nI (un st k v 6)))] rfl (Nat.le_of_ble_eq_true rfl) dX4_set_69 71 rfl ?_
      refine z_aload_n C 0 rfl rfl dX4_set_71 72 rfl ?_
      refine z_get C zc4 iX4_set_X4 0 0 rfl rfl 0 (Nat.le_of_ble_eq_true rfl) (List.mem_of_getElem? (i := 3) rfl) (v := .ref (bd 0)) rfl dX4_set_72 75 rfl ?_
      refine z_iload C 4 rfl dX4_set_75 77 rfl ?_
      refine z_callV C [.int (nI (un st k v 6))] [] (tX0_mostRacksNeeded K.l K.g bd st r n (un st k v 6) hS2.2.2.2.2.2.2.2.2.1 hS2.2.2.2.2.2.2.2.2.2 hn (fun y hy => (hJ y hy).2.2.2.1)) gX4_set_X0_mostRacksNeeded rfl rfl rfl hdX0_mostRacksNeeded ⟨Nat.le_of_ble_eq_true rfl, Nat.le_of_ble_eq_true rfl⟩ ⟨Nat.zero_le _, Nat.zero_le _⟩ 1 0 rfl rfl rfl [1] rfl rfl (zlc (N := 2) rfl rfl) [0, 2] rfl (by decide) (fun _ : Unit => [wX K.g x bd tr q p h sb sv, wB K.g bd st r n]) (fun _ => rfl) rfl rfl (Nat.le_of_ble_eq_true rfl) dX4_set_77 80 rfl (fun u9 hu9 => ?_)
      show Z K 0 0 [wX K.g x bd tr q p h sb sv, wB K.g bd st r n] [(0, .ref (x 0)), (1, .int (nI k)), (2, .int (nI v)), (3, .int (nI (un st k v 5))), (4, .int (nI (un st k v 6)))] 80 [.int (nI (mx (fun y => nd (un st k v 6) (r 2 y)) n))]
      refine z_top (show nI (mx (fun y => nd (un st k v 6) (r 2 y)) n) = nI (mND (un st k v) r n) from rfl) ?_
      refine z_iload_n C 3 rfl rfl dX4_set_80 81 rfl ?_
      refine z_icmp_le C (by omega) (by omega) 87 dX4_set_81 (by decide) 84 rfl (fun c_9 => ?_) (fun c_9 => ?_)
      · exfalso; omega
      refine z_bipush C (v := (-5)) rfl dX4_set_84 86 rfl ?_
      exact z_iret C hRx dX4_set_86 () rfl trivial rfl

set_option maxHeartbeats 4000000 in
set_option maxRecDepth 100000 in
theorem tX4_set_ok (l : Launch) (g : zG) (x bd tr q p h : Nat → Nat) (sb : Nat → Nat → Nat) (sv : Nat → Bool) (st : Nat → Nat) (r : Nat → Nat → Nat) (n : Nat) (ho hs : Nat → Nat → Nat) (hr : Nat → Nat → Nat → Nat) (hm : Nat → Nat) (kp nx : Nat) (k v : Nat) (hn : n ≤ 12) (hS : okS st) (hJ : okJ r n) (hk : kp ≤ 6) (hx : nx < 6) (hk6 : k ≤ 6) (hv1 : leS k ≤ v) (hv2 : v ≤ moS k) (hb : mND (un st k v) r n ≤ un st k v 5) : Met l yX4_set wsX4_set ({ frames := 3, cells := 0, slots := 0, locals := 103 } : Room) (zPreE g eSet [.ref (x 0), .int (nI k), .int (nI v)] [wX g x bd tr q p h sb sv, wB g bd st r n, wH g h ho kp nx, wB g (ho 0) (hs 0) (hr 0) (hm 0), wB g (ho 1) (hs 1) (hr 1) (hm 1), wB g (ho 2) (hs 2) (hr 2) (hm 2), wB g (ho 3) (hs 3) (hr 3) (hm 3), wB g (ho 4) (hs 4) (hr 4) (hm 4), wB g (ho 5) (hs 5) (hr 5) (hm 5)]) (zQ g (fun _ : Unit => some (.int (nI (st k))) ) (fun _ : Unit => True) (fun _ : Unit => [wX g x bd tr q p h sb sv, wB g bd (un st k v) r n, wH g h ho (min (kp + 1) 6) (if nx = 5 then 0 else nx + 1), wB g (ho 0) ((un hs nx st) 0) ((un hr nx r) 0) ((un hm nx n) 0), wB g (ho 1) ((un hs nx st) 1) ((un hr nx r) 1) ((un hm nx n) 1), wB g (ho 2) ((un hs nx st) 2) ((un hr nx r) 2) ((un hm nx n) 2), wB g (ho 3) ((un hs nx st) 3) ((un hr nx r) 3) ((un hm nx n) 3), wB g (ho 4) ((un hs nx st) 4) ((un hr nx r) 4) ((un hm nx n) 4), wB g (ho 5) ((un hs nx st) 5) ((un hr nx r) 5) ((un hm nx n) 5)]) (zA [wX g x bd tr q p h sb sv, wB g bd st r n, wH g h ho kp nx, wB g (ho 0) (hs 0) (hr 0) (hm 0), wB g (ho 1) (hs 1) (hr 1) (hm 1), wB g (ho 2) (hs 2) (hr 2) (hm 2), wB g (ho 3) (hs 3) (hr 3) (hm 3), wB g (ho 4) (hs 4) (hr 4) (hm 4), wB g (ho 5) (hs 5) (hr 5) (hm 5)])) 0 0 (zA [wX g x bd tr q p h sb sv, wB g bd st r n, wH g h ho kp nx, wB g (ho 0) (hs 0) (hr 0) (hm 0), wB g (ho 1) (hs 1) (hr 1) (hm 1), wB g (ho 2) (hs 2) (hr 2) (hm 2), wB g (ho 3) (hs 3) (hr 3) (hm 3), wB g (ho 4) (hs 4) (hr 4) (hm 4), wB g (ho 5) (hs 5) (hr 5) (hm 5)]) := by
  refine z_entryE (cc := cX4_set) (maxL := 6) (ret := (some .int)) (own := RX4) (by decide) rfl rfl (Nat.le_of_ble_eq_true rfl) [(0, .ref (x 0)), (1, .int (nI k)), (2, .int (nI v))] rfl ?_
  intro K hKl hKg hnL C hRx hE
  subst hKl
  subst hKg
  obtain ⟨sa1, sa2, hs1, hs2⟩ := hE
  have hS2 := okS_un hS hk6 hv1 hv2
  have hmb := mND_le (st := un st k v) hS2 hJ
  have h5b := hS2.2.2.2.2.2.2.2.1
  have hmv := moS_le k
  refine z_iload_n C 1 rfl rfl dX4_set_0 1 rfl ?_
  refine z_iconst C (v := nI 0) rfl dX4_set_1 2 rfl ?_
  refine z_bipush C (v := nI 6) rfl dX4_set_2 4 rfl ?_
  refine z_callP C [.int (nI k), .int (nI 0), .int (nI 6)] [] (tX4_withinN K.l K.g (nI k) 0 6 (by first | omega | assumption) (by first | omega | assumption)) gX4_set_X4_within rfl rfl rfl hdX4_within ⟨Nat.le_of_ble_eq_true rfl, Nat.le_of_ble_eq_true rfl⟩ ⟨Nat.zero_le _, Nat.zero_le _⟩ rfl rfl (Nat.le_of_ble_eq_true rfl) dX4_set_4 7 rfl (fun u9 hu9 => ?_)
  show Z K 0 0 [wX K.g x bd tr q p h sb sv, wB K.g bd st r n, wH K.g h ho kp nx, wB K.g (ho 0) (hs 0) (hr 0) (hm 0), wB K.g (ho 1) (hs 1) (hr 1) (hm 1), wB K.g (ho 2) (hs 2) (hr 2) (hm 2), wB K.g (ho 3) (hs 3) (hr 3) (hm 3), wB K.g (ho 4) (hs 4) (hr 4) (hm 4), wB K.g (ho 5) (hs 5) (hr 5) (hm 5)] [(0, .ref (x 0)), (1, .int (nI k)), (2, .int (nI v))] 7 [.int (bI (rg (nI k).toInt (Int.ofNat 0) (Int.ofNat 6)))]
  refine z_ifb_eq C 27 dX4_set_7 (by decide) 10 rfl (fun c_1 => ?_) (fun c_1 => ?_)
  · exfalso; rw [rgN_t (by omega) (by omega) (by omega)] at c_1; exact Bool.noConfusion c_1
  refine z_iload_n C 2 rfl rfl dX4_set_10 11 rfl ?_
  refine z_gets C hs1.1 (List.mem_of_getElem? (i := 1) rfl) dX4_set_11 14 rfl ?_
  refine z_iload_n C 1 rfl rfl dX4_set_14 15 rfl ?_
  refine z_sld C (f := leS) hs1.2.1 hs1.2.2.1 hs1.2.2.2 (by omega) (by decide) dX4_set_15 16 rfl ?_
  refine z_gets C hs2.1 (List.mem_of_getElem? (i := 2) rfl) dX4_set_16 19 rfl ?_
  refine z_iload_n C 1 rfl rfl dX4_set_19 20 rfl ?_
  refine z_sld C (f := moS) hs2.2.1 hs2.2.2.1 hs2.2.2.2 (by omega) (by decide) dX4_set_20 21 rfl ?_
  refine z_callP C [.int (nI v), .int (nI (leS k)), .int (nI (moS k))] [] (tX4_withinN K.l K.g (nI v) (leS k) (moS k) (Nat.lt_of_le_of_lt (leS_le _) (by decide)) (Nat.lt_of_le_of_lt (moS_le _) (by decide))) gX4_set_X4_within rfl rfl rfl hdX4_within ⟨Nat.le_of_ble_eq_true rfl, Nat.le_of_ble_eq_true rfl⟩ ⟨Nat.zero_le _, Nat.zero_le _⟩ rfl rfl (Nat.le_of_ble_eq_true rfl) dX4_set_21 24 rfl (fun u9 hu9 => ?_)
  show Z K 0 0 [wX K.g x bd tr q p h sb sv, wB K.g bd st r n, wH K.g h ho kp nx, wB K.g (ho 0) (hs 0) (hr 0) (hm 0), wB K.g (ho 1) (hs 1) (hr 1) (hm 1), wB K.g (ho 2) (hs 2) (hr 2) (hm 2), wB K.g (ho 3) (hs 3) (hr 3) (hm 3), wB K.g (ho 4) (hs 4) (hr 4) (hm 4), wB K.g (ho 5) (hs 5) (hr 5) (hm 5)] [(0, .ref (x 0)), (1, .int (nI k)), (2, .int (nI v))] 24 [.int (bI (rg (nI v).toInt (Int.ofNat (leS k)) (Int.ofNat (moS k))))]
  refine z_ifb_ne C 30 dX4_set_24 (by decide) 27 rfl (fun c_2 => ?_) (fun c_2 => ?_)
  rotate_left
  · exfalso; rw [rgN_t (by omega) (by omega) (by omega)] at c_2; exact Bool.noConfusion c_2
  refine z_iload_n C 1 rfl rfl dX4_set_30 31 rfl ?_
  refine z_iconst C (v := nI 5) rfl dX4_set_31 32 rfl ?_
  refine z_icmp_ne C (by omega) (by omega) 39 dX4_set_32 (by decide) 35 rfl (fun c_3 => ?_) (fun c_3 => ?_)
  · skip
    refine z_aload_n C 0 rfl rfl dX4_set_39 40 rfl ?_
    refine z_get C zc4 iX4_set_X4 0 0 rfl rfl 0 (Nat.le_of_ble_eq_true rfl) (List.mem_of_getElem? (i := 3) rfl) (v := .ref (bd 0)) rfl dX4_set_40 43 rfl ?_
    refine z_get C zc0 iX4_set_X0 1 0 rfl rfl 0 (Nat.le_of_ble_eq_true rfl) (List.mem_of_getElem? (i := 4) rfl) (v := .ref (bd 1)) rfl dX4_set_43 46 rfl ?_
    refine z_iconst C (v := nI 5) rfl dX4_set_46 47 rfl ?_
    refine z_iald C (f := st) 1 1 rfl rfl (by omega) (by decide) dX4_set_47 48 rfl ?_
    refine z_top (show nI (st 5) = nI (un st k v 5) from (by rw [un_n (show 5 ≠ k by omega)])) ?_
    refine z_istore_n C hnL [1, 2, 3, 0] [(0, .ref (x 0)), (1, .int (nI k)), (2, .int (nI v)), (3, .int (nI (un st k v 5)))] rfl rfl (Nat.le_of_ble_eq_true rfl) dX4_set_48 49 rfl ?_
    refine z_iload_n C 1 rfl rfl dX4_set_49 50 rfl ?_
    refine z_bipush C (v := nI 6) rfl dX4_set_50 52 rfl ?_
    refine z_icmp_ne C (by omega) (by omega) 59 dX4_set_52 (by decide) 55 rfl (fun c_4 => ?_) (fun c_4 => ?_)
    · skip
      refine z_aload_n C 0 rfl rfl dX4_set_59 60 rfl ?_
      refine z_get C zc4 iX4_set_X4 0 0 rfl rfl 0 (Nat.le_of_ble_eq_true rfl) (List.mem_of_getElem? (i := 3) rfl) (v := .ref (bd 0)) rfl dX4_set_60 63 rfl ?_
      refine z_get C zc0 iX4_set_X0 1 0 rfl rfl 0 (Nat.le_of_ble_eq_true rfl) (List.mem_of_getElem? (i := 4) rfl) (v := .ref (bd 1)) rfl dX4_set_63 66 rfl ?_
      refine z_bipush C (v := nI 6) rfl dX4_set_66 68 rfl ?_
      refine z_iald C (f := st) 1 1 rfl rfl (by omega) (by decide) dX4_set_68 69 rfl ?_
      refine z_top (show nI (st 6) = nI (un st k v 6) from (by rw [un_n (show 6 ≠ k by omega)])) ?_
      refine z_istore C hnL [1, 2, 3, 4, 0] [(0, .ref (x 0)), (1, .int (nI k)), (2, .int (nI v)), (3, .int (nI (un st k v 5))), (4, .int (nI (un st k v 6)))] rfl (Nat.le_of_ble_eq_true rfl) dX4_set_69 71 rfl ?_
      refine z_aload_n C 0 rfl rfl dX4_set_71 72 rfl ?_
      refine z_get C zc4 iX4_set_X4 0 0 rfl rfl 0 (Nat.le_of_ble_eq_true rfl) (List.mem_of_getElem? (i := 3) rfl) (v := .ref (bd 0)) rfl dX4_set_72 75 rfl ?_
      refine z_iload C 4 rfl dX4_set_75 77 rfl ?_
      refine z_callV C [.int (nI (un st k v 6))] [] (tX0_mostRacksNeeded K.l K.g bd st r n (un st k v 6) hS2.2.2.2.2.2.2.2.2.1 hS2.2.2.2.2.2.2.2.2.2 hn (fun y hy => (hJ y hy).2.2.2.1)) gX4_set_X0_mostRacksNeeded rfl rfl rfl hdX0_mostRacksNeeded ⟨Nat.le_of_ble_eq_true rfl, Nat.le_of_ble_eq_true rfl⟩ ⟨Nat.zero_le _, Nat.zero_le _⟩ 1 0 rfl rfl rfl [1] rfl rfl (zlc (N := 9) rfl rfl) [0, 9, 2, 3, 4, 5, 6, 7, 8] rfl (by decide) (fun _ : Unit => [wX K.g x bd tr q p h sb sv, wB K.g bd st r n, wH K.g h ho kp nx, wB K.g (ho 0) (hs 0) (hr 0) (hm 0), wB K.g (ho 1) (hs 1) (hr 1) (hm 1), wB K.g (ho 2) (hs 2) (hr 2) (hm 2), wB K.g (ho 3) (hs 3) (hr 3) (hm 3), wB K.g (ho 4) (hs 4) (hr 4) (hm 4), wB K.g (ho 5) (hs 5) (hr 5) (hm 5)]) (fun _ => rfl) rfl rfl (Nat.le_of_ble_eq_true rfl) dX4_set_77 80 rfl (fun u9 hu9 => ?_)
      show Z K 0 0 [wX K.g x bd tr q p h sb sv, wB K.g bd st r n, wH K.g h ho kp nx, wB K.g (ho 0) (hs 0) (hr 0) (hm 0), wB K.g (ho 1) (hs 1) (hr 1) (hm 1), wB K.g (ho 2) (hs 2) (hr 2) (hm 2), wB K.g (ho 3) (hs 3) (hr 3) (hm 3), wB K.g (ho 4) (hs 4) (hr 4) (hm 4), wB K.g (ho 5) (hs 5) (hr 5) (hm 5)] [(0, .ref (x 0)), (1, .int (nI k)), (2, .int (nI v)), (3, .int (nI (un st k v 5))), (4, .int (nI (un st k v 6)))] 80 [.int (nI (mx (fun y => nd (un st k v 6) (r 2 y)) n))]
      refine z_top (show nI (mx (fun y => nd (un st k v 6) (r 2 y)) n) = nI (mND (un st k v) r n) from rfl) ?_
      refine z_iload_n C 3 rfl rfl dX4_set_80 81 rfl ?_
      refine z_icmp_le C (by omega) (by omega) 87 dX4_set_81 (by decide) 84 rfl (fun c_5 => ?_) (fun c_5 => ?_)
      rotate_left
      · exfalso; omega
      refine z_aload_n C 0 rfl rfl dX4_set_87 88 rfl ?_
      refine z_get C zc4 iX4_set_X4 0 0 rfl rfl 0 (Nat.le_of_ble_eq_true rfl) (List.mem_of_getElem? (i := 3) rfl) (v := .ref (bd 0)) rfl dX4_set_88 91 rfl ?_
      refine z_get C zc0 iX4_set_X0 1 0 rfl rfl 0 (Nat.le_of_ble_eq_true rfl) (List.mem_of_getElem? (i := 4) rfl) (v := .ref (bd 1)) rfl dX4_set_91 94 rfl ?_
      refine z_iload_n C 1 rfl rfl dX4_set_94 95 rfl ?_
      refine z_iald C (f := st) 1 1 rfl rfl (by omega) (by decide) dX4_set_95 96 rfl ?_
      refine z_istore C hnL [1, 2, 3, 4, 5, 0] [(0, .ref (x 0)), (1, .int (nI k)), (2, .int (nI v)), (3, .int (nI (un st k v 5))), (4, .int (nI (un st k v 6))), (5, .int (nI (st k)))] rfl (Nat.le_of_ble_eq_true rfl) dX4_set_96 98 rfl ?_
      refine z_aload_n C 0 rfl rfl dX4_set_98 99 rfl ?_
      refine z_get C zc4 iX4_set_X4 0 0 rfl rfl 4 (Nat.le_of_ble_eq_true rfl) (List.mem_of_getElem? (i := 5) rfl) (v := .ref (h 0)) rfl dX4_set_99 102 rfl ?_
      refine z_aload_n C 0 rfl rfl dX4_set_102 103 rfl ?_
      refine z_get C zc4 iX4_set_X4 0 0 rfl rfl 0 (Nat.le_of_ble_eq_true rfl) (List.mem_of_getElem? (i := 3) rfl) (v := .ref (bd 0)) rfl dX4_set_103 106 rfl ?_
      refine z_callV C [.ref (bd 0)] [] (tX1_remember K.l K.g h ho hs hr hm kp nx bd st r n (by first | omega | assumption) (by first | omega | assumption)) gX4_set_X1_remember rfl rfl rfl hdX1_remember ⟨Nat.le_of_ble_eq_true rfl, Nat.le_of_ble_eq_true rfl⟩ ⟨Nat.zero_le _, Nat.zero_le _⟩ 2 0 rfl rfl rfl [2, 3, 4, 5, 6, 7, 8, 1] rfl rfl (zlc (N := 9) rfl rfl) [0, 16, 9, 10, 11, 12, 13, 14, 15] rfl (by decide) (fun _ : Unit => [wX K.g x bd tr q p h sb sv, wB K.g bd st r n, wH K.g h ho (min (kp + 1) 6) (if nx = 5 then 0 else nx + 1), wB K.g (ho 0) ((un hs nx st) 0) ((un hr nx r) 0) ((un hm nx n) 0), wB K.g (ho 1) ((un hs nx st) 1) ((un hr nx r) 1) ((un hm nx n) 1), wB K.g (ho 2) ((un hs nx st) 2) ((un hr nx r) 2) ((un hm nx n) 2), wB K.g (ho 3) ((un hs nx st) 3) ((un hr nx r) 3) ((un hm nx n) 3), wB K.g (ho 4) ((un hs nx st) 4) ((un hr nx r) 4) ((un hm nx n) 4), wB K.g (ho 5) ((un hs nx st) 5) ((un hr nx r) 5) ((un hm nx n) 5)]) (fun _ => rfl) rfl rfl (Nat.le_of_ble_eq_true rfl) dX4_set_106 109 rfl (fun u9 hu9 => ?_)
      show Z K 0 0 [wX K.g x bd tr q p h sb sv, wB K.g bd st r n, wH K.g h ho (min (kp + 1) 6) (if nx = 5 then 0 else nx + 1), wB K.g (ho 0) ((un hs nx st) 0) ((un hr nx r) 0) ((un hm nx n) 0), wB K.g (ho 1) ((un hs nx st) 1) ((un hr nx r) 1) ((un hm nx n) 1), wB K.g (ho 2) ((un hs nx st) 2) ((un hr nx r) 2) ((un hm nx n) 2), wB K.g (ho 3) ((un hs nx st) 3) ((un hr nx r) 3) ((un hm nx n) 3), wB K.g (ho 4) ((un hs nx st) 4) ((un hr nx r) 4) ((un hm nx n) 4), wB K.g (ho 5) ((un hs nx st) 5) ((un hr nx r) 5) ((un hm nx n) 5)] [(0, .ref (x 0)), (1, .int (nI k)), (2, .int (nI v)), (3, .int (nI (un st k v 5))), (4, .int (nI (un st k v 6))), (5, .int (nI (st k)))] 109 []
      refine z_aload_n C 0 rfl rfl dX4_set_109 110 rfl ?_
      refine z_get C zc4 iX4_set_X4 0 0 rfl rfl 0 (Nat.le_of_ble_eq_true rfl) (List.mem_of_getElem? (i := 3) rfl) (v := .ref (bd 0)) rfl dX4_set_110 113 rfl ?_
      refine z_get C zc0 iX4_set_X0 1 0 rfl rfl 0 (Nat.le_of_ble_eq_true rfl) (List.mem_of_getElem? (i := 4) rfl) (v := .ref (bd 1)) rfl dX4_set_113 116 rfl ?_
      refine z_iload_n C 1 rfl rfl dX4_set_116 117 rfl ?_
      refine z_iload_n C 2 rfl rfl dX4_set_117 118 rfl ?_
      refine z_iast C (f := st) 1 1 rfl rfl (by omega) (by decide) (wB K.g bd (un st k v) r n) rfl [wX K.g x bd tr q p h sb sv, wB K.g bd (un st k v) r n, wH K.g h ho (min (kp + 1) 6) (if nx = 5 then 0 else nx + 1), wB K.g (ho 0) ((un hs nx st) 0) ((un hr nx r) 0) ((un hm nx n) 0), wB K.g (ho 1) ((un hs nx st) 1) ((un hr nx r) 1) ((un hm nx n) 1), wB K.g (ho 2) ((un hs nx st) 2) ((un hr nx r) 2) ((un hm nx n) 2), wB K.g (ho 3) ((un hs nx st) 3) ((un hr nx r) 3) ((un hm nx n) 3), wB K.g (ho 4) ((un hs nx st) 4) ((un hr nx r) 4) ((un hm nx n) 4), wB K.g (ho 5) ((un hs nx st) 5) ((un hr nx r) 5) ((un hm nx n) 5)] rfl dX4_set_118 119 rfl ?_
      refine z_iload C 5 rfl dX4_set_119 121 rfl ?_
      exact z_iret C hRx dX4_set_121 () rfl trivial rfl
    · skip
      refine z_iload_n C 2 rfl rfl dX4_set_55 56 rfl ?_
      refine z_goto C 69 dX4_set_56 (by decide) ?_
      refine z_top (show nI v = nI (un st k v 6) from (by rw [un_e (show k = 6 by omega)])) ?_
      refine z_istore C hnL [1, 2, 3, 4, 0] [(0, .ref (x 0)), (1, .int (nI k)), (2, .int (nI v)), (3, .int (nI (un st k v 5))), (4, .int (nI (un st k v 6)))] rfl (Nat.le_of_ble_eq_true rfl) dX4_set_69 71 rfl ?_
      refine z_aload_n C 0 rfl rfl dX4_set_71 72 rfl ?_
      refine z_get C zc4 iX4_set_X4 0 0 rfl rfl 0 (Nat.le_of_ble_eq_true rfl) (List.mem_of_getElem? (i := 3) rfl) (v := .ref (bd 0)) rfl dX4_set_72 75 rfl ?_
      refine z_iload C 4 rfl dX4_set_75 77 rfl ?_
      refine z_callV C [.int (nI (un st k v 6))] [] (tX0_mostRacksNeeded K.l K.g bd st r n (un st k v 6) hS2.2.2.2.2.2.2.2.2.1 hS2.2.2.2.2.2.2.2.2.2 hn (fun y hy => (hJ y hy).2.2.2.1)) gX4_set_X0_mostRacksNeeded rfl rfl rfl hdX0_mostRacksNeeded ⟨Nat.le_of_ble_eq_true rfl, Nat.le_of_ble_eq_true rfl⟩ ⟨Nat.zero_le _, Nat.zero_le _⟩ 1 0 rfl rfl rfl [1] rfl rfl (zlc (N := 9) rfl rfl) [0, 9, 2, 3, 4, 5, 6, 7, 8] rfl (by decide) (fun _ : Unit => [wX K.g x bd tr q p h sb sv, wB K.g bd st r n, wH K.g h ho kp nx, wB K.g (ho 0) (hs 0) (hr 0) (hm 0), wB K.g (ho 1) (hs 1) (hr 1) (hm 1), wB K.g (ho 2) (hs 2) (hr 2) (hm 2), wB K.g (ho 3) (hs 3) (hr 3) (hm 3), wB K.g (ho 4) (hs 4) (hr 4) (hm 4), wB K.g (ho 5) (hs 5) (hr 5) (hm 5)]) (fun _ => rfl) rfl rfl (Nat.le_of_ble_eq_true rfl) dX4_set_77 80 rfl (fun u9 hu9 => ?_)
      show Z K 0 0 [wX K.g x bd tr q p h sb sv, wB K.g bd st r n, wH K.g h ho kp nx, wB K.g (ho 0) (hs 0) (hr 0) (hm 0), wB K.g (ho 1) (hs 1) (hr 1) (hm 1), wB K.g (ho 2) (hs 2) (hr 2) (hm 2), wB K.g (ho 3) (hs 3) (hr 3) (hm 3), wB K.g (ho 4) (hs 4) (hr 4) (hm 4), wB K.g (ho 5) (hs 5) (hr 5) (hm 5)] [(0, .ref (x 0)), (1, .int (nI k)), (2, .int (nI v)), (3, .int (nI (un st k v 5))), (4, .int (nI (un st k v 6)))] 80 [.int (nI (mx (fun y => nd (un st k v 6) (r 2 y)) n))]
      refine z_top (show nI (mx (fun y => nd (un st k v 6) (r 2 y)) n) = nI (mND (un st k v) r n) from rfl) ?_
      refine z_iload_n C 3 rfl rfl dX4_set_80 81 rfl ?_
      refine z_icmp_le C (by omega) (by omega) 87 dX4_set_81 (by decide) 84 rfl (fun c_6 => ?_) (fun c_6 => ?_)
      rotate_left
      · exfalso; omega
      refine z_aload_n C 0 rfl rfl dX4_set_87 88 rfl ?_
      refine z_get C zc4 iX4_set_X4 0 0 rfl rfl 0 (Nat.le_of_ble_eq_true rfl) (List.mem_of_getElem? (i := 3) rfl) (v := .ref (bd 0)) rfl dX4_set_88 91 rfl ?_
      refine z_get C zc0 iX4_set_X0 1 0 rfl rfl 0 (Nat.le_of_ble_eq_true rfl) (List.mem_of_getElem? (i := 4) rfl) (v := .ref (bd 1)) rfl dX4_set_91 94 rfl ?_
      refine z_iload_n C 1 rfl rfl dX4_set_94 95 rfl ?_
      refine z_iald C (f := st) 1 1 rfl rfl (by omega) (by decide) dX4_set_95 96 rfl ?_
      refine z_istore C hnL [1, 2, 3, 4, 5, 0] [(0, .ref (x 0)), (1, .int (nI k)), (2, .int (nI v)), (3, .int (nI (un st k v 5))), (4, .int (nI (un st k v 6))), (5, .int (nI (st k)))] rfl (Nat.le_of_ble_eq_true rfl) dX4_set_96 98 rfl ?_
      refine z_aload_n C 0 rfl rfl dX4_set_98 99 rfl ?_
      refine z_get C zc4 iX4_set_X4 0 0 rfl rfl 4 (Nat.le_of_ble_eq_true rfl) (List.mem_of_getElem? (i := 5) rfl) (v := .ref (h 0)) rfl dX4_set_99 102 rfl ?_
      refine z_aload_n C 0 rfl rfl dX4_set_102 103 rfl ?_
      refine z_get C zc4 iX4_set_X4 0 0 rfl rfl 0 (Nat.le_of_ble_eq_true rfl) (List.mem_of_getElem? (i := 3) rfl) (v := .ref (bd 0)) rfl dX4_set_103 106 rfl ?_
      refine z_callV C [.ref (bd 0)] [] (tX1_remember K.l K.g h ho hs hr hm kp nx bd st r n (by first | omega | assumption) (by first | omega | assumption)) gX4_set_X1_remember rfl rfl rfl hdX1_remember ⟨Nat.le_of_ble_eq_true rfl, Nat.le_of_ble_eq_true rfl⟩ ⟨Nat.zero_le _, Nat.zero_le _⟩ 2 0 rfl rfl rfl [2, 3, 4, 5, 6, 7, 8, 1] rfl rfl (zlc (N := 9) rfl rfl) [0, 16, 9, 10, 11, 12, 13, 14, 15] rfl (by decide) (fun _ : Unit => [wX K.g x bd tr q p h sb sv, wB K.g bd st r n, wH K.g h ho (min (kp + 1) 6) (if nx = 5 then 0 else nx + 1), wB K.g (ho 0) ((un hs nx st) 0) ((un hr nx r) 0) ((un hm nx n) 0), wB K.g (ho 1) ((un hs nx st) 1) ((un hr nx r) 1) ((un hm nx n) 1), wB K.g (ho 2) ((un hs nx st) 2) ((un hr nx r) 2) ((un hm nx n) 2), wB K.g (ho 3) ((un hs nx st) 3) ((un hr nx r) 3) ((un hm nx n) 3), wB K.g (ho 4) ((un hs nx st) 4) ((un hr nx r) 4) ((un hm nx n) 4), wB K.g (ho 5) ((un hs nx st) 5) ((un hr nx r) 5) ((un hm nx n) 5)]) (fun _ => rfl) rfl rfl (Nat.le_of_ble_eq_true rfl) dX4_set_106 109 rfl (fun u9 hu9 => ?_)
      show Z K 0 0 [wX K.g x bd tr q p h sb sv, wB K.g bd st r n, wH K.g h ho (min (kp + 1) 6) (if nx = 5 then 0 else nx + 1), wB K.g (ho 0) ((un hs nx st) 0) ((un hr nx r) 0) ((un hm nx n) 0), wB K.g (ho 1) ((un hs nx st) 1) ((un hr nx r) 1) ((un hm nx n) 1), wB K.g (ho 2) ((un hs nx st) 2) ((un hr nx r) 2) ((un hm nx n) 2), wB K.g (ho 3) ((un hs nx st) 3) ((un hr nx r) 3) ((un hm nx n) 3), wB K.g (ho 4) ((un hs nx st) 4) ((un hr nx r) 4) ((un hm nx n) 4), wB K.g (ho 5) ((un hs nx st) 5) ((un hr nx r) 5) ((un hm nx n) 5)] [(0, .ref (x 0)), (1, .int (nI k)), (2, .int (nI v)), (3, .int (nI (un st k v 5))), (4, .int (nI (un st k v 6))), (5, .int (nI (st k)))] 109 []
      refine z_aload_n C 0 rfl rfl dX4_set_109 110 rfl ?_
      refine z_get C zc4 iX4_set_X4 0 0 rfl rfl 0 (Nat.le_of_ble_eq_true rfl) (List.mem_of_getElem? (i := 3) rfl) (v := .ref (bd 0)) rfl dX4_set_110 113 rfl ?_
      refine z_get C zc0 iX4_set_X0 1 0 rfl rfl 0 (Nat.le_of_ble_eq_true rfl) (List.mem_of_getElem? (i := 4) rfl) (v := .ref (bd 1)) rfl dX4_set_113 116 rfl ?_
      refine z_iload_n C 1 rfl rfl dX4_set_116 117 rfl ?_
      refine z_iload_n C 2 rfl rfl dX4_set_117 118 rfl ?_
      refine z_iast C (f := st) 1 1 rfl rfl (by omega) (by decide) (wB K.g bd (un st k v) r n) rfl [wX K.g x bd tr q p h sb sv, wB K.g bd (un st k v) r n, wH K.g h ho (min (kp + 1) 6) (if nx = 5 then 0 else nx + 1), wB K.g (ho 0) ((un hs nx st) 0) ((un hr nx r) 0) ((un hm nx n) 0), wB K.g (ho 1) ((un hs nx st) 1) ((un hr nx r) 1) ((un hm nx n) 1), wB K.g (ho 2) ((un hs nx st) 2) ((un hr nx r) 2) ((un hm nx n) 2), wB K.g (ho 3) ((un hs nx st) 3) ((un hr nx r) 3) ((un hm nx n) 3), wB K.g (ho 4) ((un hs nx st) 4) ((un hr nx r) 4) ((un hm nx n) 4), wB K.g (ho 5) ((un hs nx st) 5) ((un hr nx r) 5) ((un hm nx n) 5)] rfl dX4_set_118 119 rfl ?_
      refine z_iload C 5 rfl dX4_set_119 121 rfl ?_
      exact z_iret C hRx dX4_set_121 () rfl trivial rfl
  · skip
    refine z_iload_n C 2 rfl rfl dX4_set_35 36 rfl ?_
    refine z_goto C 48 dX4_set_36 (by decide) ?_
    refine z_top (show nI v = nI (un st k v 5) from (by rw [un_e (show k = 5 by omega)])) ?_
    refine z_istore_n C hnL [1, 2, 3, 0] [(0, .ref (x 0)), (1, .int (nI k)), (2, .int (nI v)), (3, .int (nI (un st k v 5)))] rfl rfl (Nat.le_of_ble_eq_true rfl) dX4_set_48 49 rfl ?_
    refine z_iload_n C 1 rfl rfl dX4_set_49 50 rfl ?_
    refine z_bipush C (v := nI 6) rfl dX4_set_50 52 rfl ?_
    refine z_icmp_ne C (by omega) (by omega) 59 dX4_set_52 (by decide) 55 rfl (fun c_7 => ?_) (fun c_7 => ?_)
    · skip
      refine z_aload_n C 0 rfl rfl dX4_set_59 60 rfl ?_
      refine z_get C zc4 iX4_set_X4 0 0 rfl rfl 0 (Nat.le_of_ble_eq_true rfl) (List.mem_of_getElem? (i := 3) rfl) (v := .ref (bd 0)) rfl dX4_set_60 63 rfl ?_
      refine z_get C zc0 iX4_set_X0 1 0 rfl rfl 0 (Nat.le_of_ble_eq_true rfl) (List.mem_of_getElem? (i := 4) rfl) (v := .ref (bd 1)) rfl dX4_set_63 66 rfl ?_
      refine z_bipush C (v := nI 6) rfl dX4_set_66 68 rfl ?_
      refine z_iald C (f := st) 1 1 rfl rfl (by omega) (by decide) dX4_set_68 69 rfl ?_
      refine z_top (show nI (st 6) = nI (un st k v 6) from (by rw [un_n (show 6 ≠ k by omega)])) ?_
      refine z_istore C hnL [1, 2, 3, 4, 0] [(0, .ref (x 0)), (1, .int (nI k)), (2, .int (nI v)), (3, .int (nI (un st k v 5))), (4, .int (nI (un st k v 6)))] rfl (Nat.le_of_ble_eq_true rfl) dX4_set_69 71 rfl ?_
      refine z_aload_n C 0 rfl rfl dX4_set_71 72 rfl ?_
      refine z_get C zc4 iX4_set_X4 0 0 rfl rfl 0 (Nat.le_of_ble_eq_true rfl) (List.mem_of_getElem? (i := 3) rfl) (v := .ref (bd 0)) rfl dX4_set_72 75 rfl ?_
      refine z_iload C 4 rfl dX4_set_75 77 rfl ?_
      refine z_callV C [.int (nI (un st k v 6))] [] (tX0_mostRacksNeeded K.l K.g bd st r n (un st k v 6) hS2.2.2.2.2.2.2.2.2.1 hS2.2.2.2.2.2.2.2.2.2 hn (fun y hy => (hJ y hy).2.2.2.1)) gX4_set_X0_mostRacksNeeded rfl rfl rfl hdX0_mostRacksNeeded ⟨Nat.le_of_ble_eq_true rfl, Nat.le_of_ble_eq_true rfl⟩ ⟨Nat.zero_le _, Nat.zero_le _⟩ 1 0 rfl rfl rfl [1] rfl rfl (zlc (N := 9) rfl rfl) [0, 9, 2, 3, 4, 5, 6, 7, 8] rfl (by decide) (fun _ : Unit => [wX K.g x bd tr q p h sb sv, wB K.g bd st r n, wH K.g h ho kp nx, wB K.g (ho 0) (hs 0) (hr 0) (hm 0), wB K.g (ho 1) (hs 1) (hr 1) (hm 1), wB K.g (ho 2) (hs 2) (hr 2) (hm 2), wB K.g (ho 3) (hs 3) (hr 3) (hm 3), wB K.g (ho 4) (hs 4) (hr 4) (hm 4), wB K.g (ho 5) (hs 5) (hr 5) (hm 5)]) (fun _ => rfl) rfl rfl (Nat.le_of_ble_eq_true rfl) dX4_set_77 80 rfl (fun u9 hu9 => ?_)
      show Z K 0 0 [wX K.g x bd tr q p h sb sv, wB K.g bd st r n, wH K.g h ho kp nx, wB K.g (ho 0) (hs 0) (hr 0) (hm 0), wB K.g (ho 1) (hs 1) (hr 1) (hm 1), wB K.g (ho 2) (hs 2) (hr 2) (hm 2), wB K.g (ho 3) (hs 3) (hr 3) (hm 3), wB K.g (ho 4) (hs 4) (hr 4) (hm 4), wB K.g (ho 5) (hs 5) (hr 5) (hm 5)] [(0, .ref (x 0)), (1, .int (nI k)), (2, .int (nI v)), (3, .int (nI (un st k v 5))), (4, .int (nI (un st k v 6)))] 80 [.int (nI (mx (fun y => nd (un st k v 6) (r 2 y)) n))]
      refine z_top (show nI (mx (fun y => nd (un st k v 6) (r 2 y)) n) = nI (mND (un st k v) r n) from rfl) ?_
      refine z_iload_n C 3 rfl rfl dX4_set_80 81 rfl ?_
      refine z_icmp_le C (by omega) (by omega) 87 dX4_set_81 (by decide) 84 rfl (fun c_8 => ?_) (fun c_8 => ?_)
      rotate_left
      · exfalso; omega
      refine z_aload_n C 0 rfl rfl dX4_set_87 88 rfl ?_
      refine z_get C zc4 iX4_set_X4 0 0 rfl rfl 0 (Nat.le_of_ble_eq_true rfl) (List.mem_of_getElem? (i := 3) rfl) (v := .ref (bd 0)) rfl dX4_set_88 91 rfl ?_
      refine z_get C zc0 iX4_set_X0 1 0 rfl rfl 0 (Nat.le_of_ble_eq_true rfl) (List.mem_of_getElem? (i := 4) rfl) (v := .ref (bd 1)) rfl dX4_set_91 94 rfl ?_
      refine z_iload_n C 1 rfl rfl dX4_set_94 95 rfl ?_
      refine z_iald C (f := st) 1 1 rfl rfl (by omega) (by decide) dX4_set_95 96 rfl ?_
      refine z_istore C hnL [1, 2, 3, 4, 5, 0] [(0, .ref (x 0)), (1, .int (nI k)), (2, .int (nI v)), (3, .int (nI (un st k v 5))), (4, .int (nI (un st k v 6))), (5, .int (nI (st k)))] rfl (Nat.le_of_ble_eq_true rfl) dX4_set_96 98 rfl ?_
      refine z_aload_n C 0 rfl rfl dX4_set_98 99 rfl ?_
      refine z_get C zc4 iX4_set_X4 0 0 rfl rfl 4 (Nat.le_of_ble_eq_true rfl) (List.mem_of_getElem? (i := 5) rfl) (v := .ref (h 0)) rfl dX4_set_99 102 rfl ?_
      refine z_aload_n C 0 rfl rfl dX4_set_102 103 rfl ?_
      refine z_get C zc4 iX4_set_X4 0 0 rfl rfl 0 (Nat.le_of_ble_eq_true rfl) (List.mem_of_getElem? (i := 3) rfl) (v := .ref (bd 0)) rfl dX4_set_103 106 rfl ?_
      refine z_callV C [.ref (bd 0)] [] (tX1_remember K.l K.g h ho hs hr hm kp nx bd st r n (by first | omega | assumption) (by first | omega | assumption)) gX4_set_X1_remember rfl rfl rfl hdX1_remember ⟨Nat.le_of_ble_eq_true rfl, Nat.le_of_ble_eq_true rfl⟩ ⟨Nat.zero_le _, Nat.zero_le _⟩ 2 0 rfl rfl rfl [2, 3, 4, 5, 6, 7, 8, 1] rfl rfl (zlc (N := 9) rfl rfl) [0, 16, 9, 10, 11, 12, 13, 14, 15] rfl (by decide) (fun _ : Unit => [wX K.g x bd tr q p h sb sv, wB K.g bd st r n, wH K.g h ho (min (kp + 1) 6) (if nx = 5 then 0 else nx + 1), wB K.g (ho 0) ((un hs nx st) 0) ((un hr nx r) 0) ((un hm nx n) 0), wB K.g (ho 1) ((un hs nx st) 1) ((un hr nx r) 1) ((un hm nx n) 1), wB K.g (ho 2) ((un hs nx st) 2) ((un hr nx r) 2) ((un hm nx n) 2), wB K.g (ho 3) ((un hs nx st) 3) ((un hr nx r) 3) ((un hm nx n) 3), wB K.g (ho 4) ((un hs nx st) 4) ((un hr nx r) 4) ((un hm nx n) 4), wB K.g (ho 5) ((un hs nx st) 5) ((un hr nx r) 5) ((un hm nx n) 5)]) (fun _ => rfl) rfl rfl (Nat.le_of_ble_eq_true rfl) dX4_set_106 109 rfl (fun u9 hu9 => ?_)
      show Z K 0 0 [wX K.g x bd tr q p h sb sv, wB K.g bd st r n, wH K.g h ho (min (kp + 1) 6) (if nx = 5 then 0 else nx + 1), wB K.g (ho 0) ((un hs nx st) 0) ((un hr nx r) 0) ((un hm nx n) 0), wB K.g (ho 1) ((un hs nx st) 1) ((un hr nx r) 1) ((un hm nx n) 1), wB K.g (ho 2) ((un hs nx st) 2) ((un hr nx r) 2) ((un hm nx n) 2), wB K.g (ho 3) ((un hs nx st) 3) ((un hr nx r) 3) ((un hm nx n) 3), wB K.g (ho 4) ((un hs nx st) 4) ((un hr nx r) 4) ((un hm nx n) 4), wB K.g (ho 5) ((un hs nx st) 5) ((un hr nx r) 5) ((un hm nx n) 5)] [(0, .ref (x 0)), (1, .int (nI k)), (2, .int (nI v)), (3, .int (nI (un st k v 5))), (4, .int (nI (un st k v 6))), (5, .int (nI (st k)))] 109 []
      refine z_aload_n C 0 rfl rfl dX4_set_109 110 rfl ?_
      refine z_get C zc4 iX4_set_X4 0 0 rfl rfl 0 (Nat.le_of_ble_eq_true rfl) (List.mem_of_getElem? (i := 3) rfl) (v := .ref (bd 0)) rfl dX4_set_110 113 rfl ?_
      refine z_get C zc0 iX4_set_X0 1 0 rfl rfl 0 (Nat.le_of_ble_eq_true rfl) (List.mem_of_getElem? (i := 4) rfl) (v := .ref (bd 1)) rfl dX4_set_113 116 rfl ?_
      refine z_iload_n C 1 rfl rfl dX4_set_116 117 rfl ?_
      refine z_iload_n C 2 rfl rfl dX4_set_117 118 rfl ?_
      refine z_iast C (f := st) 1 1 rfl rfl (by omega) (by decide) (wB K.g bd (un st k v) r n) rfl [wX K.g x bd tr q p h sb sv, wB K.g bd (un st k v) r n, wH K.g h ho (min (kp + 1) 6) (if nx = 5 then 0 else nx + 1), wB K.g (ho 0) ((un hs nx st) 0) ((un hr nx r) 0) ((un hm nx n) 0), wB K.g (ho 1) ((un hs nx st) 1) ((un hr nx r) 1) ((un hm nx n) 1), wB K.g (ho 2) ((un hs nx st) 2) ((un hr nx r) 2) ((un hm nx n) 2), wB K.g (ho 3) ((un hs nx st) 3) ((un hr nx r) 3) ((un hm nx n) 3), wB K.g (ho 4) ((un hs nx st) 4) ((un hr nx r) 4) ((un hm nx n) 4), wB K.g (ho 5) ((un hs nx st) 5) ((un hr nx r) 5) ((un hm nx n) 5)] rfl dX4_set_118 119 rfl ?_
      refine z_iload C 5 rfl dX4_set_119 121 rfl ?_
      exact z_iret C hRx dX4_set_121 () rfl trivial rfl
    · skip
      refine z_iload_n C 2 rfl rfl dX4_set_55 56 rfl ?_
      refine z_goto C 69 dX4_set_56 (by decide) ?_
      refine z_top (show nI v = nI (un st k v 6) from (by rw [un_e (show k = 6 by omega)])) ?_
      refine z_istore C hnL [1, 2, 3, 4, 0] [(0, .ref (x 0)), (1, .int (nI k)), (2, .int (nI v)), (3, .int (nI (un st k v 5))), (4, .int (nI (un st k v 6)))] rfl (Nat.le_of_ble_eq_true rfl) dX4_set_69 71 rfl ?_
      refine z_aload_n C 0 rfl rfl dX4_set_71 72 rfl ?_
      refine z_get C zc4 iX4_set_X4 0 0 rfl rfl 0 (Nat.le_of_ble_eq_true rfl) (List.mem_of_getElem? (i := 3) rfl) (v := .ref (bd 0)) rfl dX4_set_72 75 rfl ?_
      refine z_iload C 4 rfl dX4_set_75 77 rfl ?_
      refine z_callV C [.int (nI (un st k v 6))] [] (tX0_mostRacksNeeded K.l K.g bd st r n (un st k v 6) hS2.2.2.2.2.2.2.2.2.1 hS2.2.2.2.2.2.2.2.2.2 hn (fun y hy => (hJ y hy).2.2.2.1)) gX4_set_X0_mostRacksNeeded rfl rfl rfl hdX0_mostRacksNeeded ⟨Nat.le_of_ble_eq_true rfl, Nat.le_of_ble_eq_true rfl⟩ ⟨Nat.zero_le _, Nat.zero_le _⟩ 1 0 rfl rfl rfl [1] rfl rfl (zlc (N := 9) rfl rfl) [0, 9, 2, 3, 4, 5, 6, 7, 8] rfl (by decide) (fun _ : Unit => [wX K.g x bd tr q p h sb sv, wB K.g bd st r n, wH K.g h ho kp nx, wB K.g (ho 0) (hs 0) (hr 0) (hm 0), wB K.g (ho 1) (hs 1) (hr 1) (hm 1), wB K.g (ho 2) (hs 2) (hr 2) (hm 2), wB K.g (ho 3) (hs 3) (hr 3) (hm 3), wB K.g (ho 4) (hs 4) (hr 4) (hm 4), wB K.g (ho 5) (hs 5) (hr 5) (hm 5)]) (fun _ => rfl) rfl rfl (Nat.le_of_ble_eq_true rfl) dX4_set_77 80 rfl (fun u9 hu9 => ?_)
      show Z K 0 0 [wX K.g x bd tr q p h sb sv, wB K.g bd st r n, wH K.g h ho kp nx, wB K.g (ho 0) (hs 0) (hr 0) (hm 0), wB K.g (ho 1) (hs 1) (hr 1) (hm 1), wB K.g (ho 2) (hs 2) (hr 2) (hm 2), wB K.g (ho 3) (hs 3) (hr 3) (hm 3), wB K.g (ho 4) (hs 4) (hr 4) (hm 4), wB K.g (ho 5) (hs 5) (hr 5) (hm 5)] [(0, .ref (x 0)), (1, .int (nI k)), (2, .int (nI v)), (3, .int (nI (un st k v 5))), (4, .int (nI (un st k v 6)))] 80 [.int (nI (mx (fun y => nd (un st k v 6) (r 2 y)) n))]
      refine z_top (show nI (mx (fun y => nd (un st k v 6) (r 2 y)) n) = nI (mND (un st k v) r n) from rfl) ?_
      refine z_iload_n C 3 rfl rfl dX4_set_80 81 rfl ?_
      refine z_icmp_le C (by omega) (by omega) 87 dX4_set_81 (by decide) 84 rfl (fun c_9 => ?_) (fun c_9 => ?_)
      rotate_left
      · exfalso; omega
      refine z_aload_n C 0 rfl rfl dX4_set_87 88 rfl ?_
      refine z_get C zc4 iX4_set_X4 0 0 rfl rfl 0 (Nat.le_of_ble_eq_true rfl) (List.mem_of_getElem? (i := 3) rfl) (v := .ref (bd 0)) rfl dX4_set_88 91 rfl ?_
      refine z_get C zc0 iX4_set_X0 1 0 rfl rfl 0 (Nat.le_of_ble_eq_true rfl) (List.mem_of_getElem? (i := 4) rfl) (v := .ref (bd 1)) rfl dX4_set_91 94 rfl ?_
      refine z_iload_n C 1 rfl rfl dX4_set_94 95 rfl ?_
      refine z_iald C (f := st) 1 1 rfl rfl (by omega) (by decide) dX4_set_95 96 rfl ?_
      refine z_istore C hnL [1, 2, 3, 4, 5, 0] [(0, .ref (x 0)), (1, .int (nI k)), (2, .int (nI v)), (3, .int (nI (un st k v 5))), (4, .int (nI (un st k v 6))), (5, .int (nI (st k)))] rfl (Nat.le_of_ble_eq_true rfl) dX4_set_96 98 rfl ?_
      refine z_aload_n C 0 rfl rfl dX4_set_98 99 rfl ?_
      refine z_get C zc4 iX4_set_X4 0 0 rfl rfl 4 (Nat.le_of_ble_eq_true rfl) (List.mem_of_getElem? (i := 5) rfl) (v := .ref (h 0)) rfl dX4_set_99 102 rfl ?_
      refine z_aload_n C 0 rfl rfl dX4_set_102 103 rfl ?_
      refine z_get C zc4 iX4_set_X4 0 0 rfl rfl 0 (Nat.le_of_ble_eq_true rfl) (List.mem_of_getElem? (i := 3) rfl) (v := .ref (bd 0)) rfl dX4_set_103 106 rfl ?_
      refine z_callV C [.ref (bd 0)] [] (tX1_remember K.l K.g h ho hs hr hm kp nx bd st r n (by first | omega | assumption) (by first | omega | assumption)) gX4_set_X1_remember rfl rfl rfl hdX1_remember ⟨Nat.le_of_ble_eq_true rfl, Nat.le_of_ble_eq_true rfl⟩ ⟨Nat.zero_le _, Nat.zero_le _⟩ 2 0 rfl rfl rfl [2, 3, 4, 5, 6, 7, 8, 1] rfl rfl (zlc (N := 9) rfl rfl) [0, 16, 9, 10, 11, 12, 13, 14, 15] rfl (by decide) (fun _ : Unit => [wX K.g x bd tr q p h sb sv, wB K.g bd st r n, wH K.g h ho (min (kp + 1) 6) (if nx = 5 then 0 else nx + 1), wB K.g (ho 0) ((un hs nx st) 0) ((un hr nx r) 0) ((un hm nx n) 0), wB K.g (ho 1) ((un hs nx st) 1) ((un hr nx r) 1) ((un hm nx n) 1), wB K.g (ho 2) ((un hs nx st) 2) ((un hr nx r) 2) ((un hm nx n) 2), wB K.g (ho 3) ((un hs nx st) 3) ((un hr nx r) 3) ((un hm nx n) 3), wB K.g (ho 4) ((un hs nx st) 4) ((un hr nx r) 4) ((un hm nx n) 4), wB K.g (ho 5) ((un hs nx st) 5) ((un hr nx r) 5) ((un hm nx n) 5)]) (fun _ => rfl) rfl rfl (Nat.le_of_ble_eq_true rfl) dX4_set_106 109 rfl (fun u9 hu9 => ?_)
      show Z K 0 0 [wX K.g x bd tr q p h sb sv, wB K.g bd st r n, wH K.g h ho (min (kp + 1) 6) (if nx = 5 then 0 else nx + 1), wB K.g (ho 0) ((un hs nx st) 0) ((un hr nx r) 0) ((un hm nx n) 0), wB K.g (ho 1) ((un hs nx st) 1) ((un hr nx r) 1) ((un hm nx n) 1), wB K.g (ho 2) ((un hs nx st) 2) ((un hr nx r) 2) ((un hm nx n) 2), wB K.g (ho 3) ((un hs nx st) 3) ((un hr nx r) 3) ((un hm nx n) 3), wB K.g (ho 4) ((un hs nx st) 4) ((un hr nx r) 4) ((un hm nx n) 4), wB K.g (ho 5) ((un hs nx st) 5) ((un hr nx r) 5) ((un hm nx n) 5)] [(0, .ref (x 0)), (1, .int (nI k)), (2, .int (nI v)), (3, .int (nI (un st k v 5))), (4, .int (nI (un st k v 6))), (5, .int (nI (st k)))] 109 []
      refine z_aload_n C 0 rfl rfl dX4_set_109 110 rfl ?_
      refine z_get C zc4 iX4_set_X4 0 0 rfl rfl 0 (Nat.le_of_ble_eq_true rfl) (List.mem_of_getElem? (i := 3) rfl) (v := .ref (bd 0)) rfl dX4_set_110 113 rfl ?_
      refine z_get C zc0 iX4_set_X0 1 0 rfl rfl 0 (Nat.le_of_ble_eq_true rfl) (List.mem_of_getElem? (i := 4) rfl) (v := .ref (bd 1)) rfl dX4_set_113 116 rfl ?_
      refine z_iload_n C 1 rfl rfl dX4_set_116 117 rfl ?_
      refine z_iload_n C 2 rfl rfl dX4_set_117 118 rfl ?_
      refine z_iast C (f := st) 1 1 rfl rfl (by omega) (by decide) (wB K.g bd (un st k v) r n) rfl [wX K.g x bd tr q p h sb sv, wB K.g bd (un st k v) r n, wH K.g h ho (min (kp + 1) 6) (if nx = 5 then 0 else nx + 1), wB K.g (ho 0) ((un hs nx st) 0) ((un hr nx r) 0) ((un hm nx n) 0), wB K.g (ho 1) ((un hs nx st) 1) ((un hr nx r) 1) ((un hm nx n) 1), wB K.g (ho 2) ((un hs nx st) 2) ((un hr nx r) 2) ((un hm nx n) 2), wB K.g (ho 3) ((un hs nx st) 3) ((un hr nx r) 3) ((un hm nx n) 3), wB K.g (ho 4) ((un hs nx st) 4) ((un hr nx r) 4) ((un hm nx n) 4), wB K.g (ho 5) ((un hs nx st) 5) ((un hr nx r) 5) ((un hm nx n) 5)] rfl dX4_set_118 119 rfl ?_
      refine z_iload C 5 rfl dX4_set_119 121 rfl ?_
      exact z_iret C hRx dX4_set_121 () rfl trivial rfl

set_option maxHeartbeats 4000000 in
set_option maxRecDepth 100000 in
theorem tX4_job_b (l : Launch) (g : zG) (x bd tr q p h : Nat → Nat) (sb : Nat → Nat → Nat) (sv : Nat → Bool) (a b c d : Int32) (hb : (rg a.toInt (Int.ofNat 0) (Int.ofNat 9) && (rg b.toInt (Int.ofNat 0) (Int.ofNat 9) && (rg c.toInt (Int.ofNat 1) (Int.ofNat 20) && rg d.toInt (Int.ofNat 0) (Int.ofNat 3000)))) = false) : Met l yX4_job wsX4_job ({ frames := 3, cells := 0, slots := 0, locals := 103 } : Room) (zPre g [.ref (x 0), .int a, .int b, .int c, .int d] [wX g x bd tr q p h sb sv]) (zQ g (fun _ : Unit => some (.int (-2)) ) (fun _ : Unit => True) (fun _ : Unit => [wX g x bd tr q p h sb sv]) (zA [wX g x bd tr q p h sb sv])) 0 0 (zA [wX g x bd tr q p h sb sv]) := by
  refine z_entry (cc := cX4_job) (maxL := 5) (ret := (some .int)) (own := RX4) (by decide) rfl rfl (Nat.le_of_ble_eq_true rfl) [(0, .ref (x 0)), (1, .int a), (2, .int b), (3, .int c), (4, .int d)] rfl ?_
  intro K hKl hKg hnL C hRx
  subst hKl
  subst hKg
  refine z_iload_n C 1 rfl rfl dX4_job_0 1 rfl ?_
  refine z_iconst C (v := nI 0) rfl dX4_job_1 2 rfl ?_
  refine z_bipush C (v := nI 9) rfl dX4_job_2 4 rfl ?_
  refine z_callP C [.int a, .int (nI 0), .int (nI 9)] [] (tX4_withinN K.l K.g a 0 9 (by first | omega | assumption) (by first | omega | assumption)) gX4_job_X4_within rfl rfl rfl hdX4_within ⟨Nat.le_of_ble_eq_true rfl, Nat.le_of_ble_eq_true rfl⟩ ⟨Nat.zero_le _, Nat.zero_le _⟩ rfl rfl (Nat.le_of_ble_eq_true rfl) dX4_job_4 7 rfl (fun u9 hu9 => ?_)
  show Z K 0 0 [wX K.g x bd tr q p h sb sv] [(0, .ref (x 0)), (1, .int a), (2, .int b), (3, .int c), (4, .int d)] 7 [.int (bI (rg a.toInt (Int.ofNat 0) (Int.ofNat 9)))]
  refine z_ifb_eq C 42 dX4_job_7 (by decide) 10 rfl (fun c_1 => ?_) (fun c_1 => ?_)
  · skip
    refine z_bipush C (v := (-2)) rfl dX4_job_42 44 rfl ?_
    exact z_iret C hRx dX4_job_44 () rfl trivial rfl
  · skip
    refine z_iload_n C 2 rfl rfl dX4_job_10 11 rfl ?_
    refine z_iconst C (v := nI 0) rfl dX4_job_11 12 rfl ?_
    refine z_bipush C (v := nI 9) rfl dX4_job_12 14 rfl ?_
    refine z_callP C [.int b, .int (nI 0), .int (nI 9)] [] (tX4_withinN K.l K.g b 0 9 (by first | omega | assumption) (by first | omega | assumption)) gX4_job_X4_within rfl rfl rfl hdX4_within ⟨Nat.le_of_ble_eq_true rfl, Nat.le_of_ble_eq_true rfl⟩ ⟨Nat.zero_le _, Nat.zero_le _⟩ rfl rfl (Nat.le_of_ble_eq_true rfl) dX4_job_14 17 rfl (fun u9 hu9 => ?_)
    show Z K 0 0 [wX K.g x bd tr q p h sb sv] [(0, .ref (x 0)), (1, .int a), (2, .int b), (3, .int c), (4, .int d)] 17 [.int (bI (rg b.toInt (Int.ofNat 0) (Int.ofNat 9)))]
    refine z_ifb_eq C 42 dX4_job_17 (by decide) 20 rfl (fun c_2 => ?_) (fun c_2 => ?_)
    · skip
      refine z_bipush C (v := (-2)) rfl dX4_job_42 44 rfl ?_
      exact z_iret C hRx dX4_job_44 () rfl trivial rfl
    · skip
      refine z_iload_n C 3 rfl rfl dX4_job_20 21 rfl ?_
      refine z_iconst C (v := nI 1) rfl dX4_job_21 22 rfl ?_
      refine z_bipush C (v := nI 20) rfl dX4_job_22 24 rfl ?_
      refine z_callP C [.int c, .int (nI 1), .int (nI 20)] [] (tX4_withinN K.l K.g c 1 20 (by first | omega | assumption) (by first | omega | assumption)) gX4_job_X4_within rfl rfl rfl hdX4_within ⟨Nat.le_of_ble_eq_true rfl, Nat.le_of_ble_eq_true rfl⟩ ⟨Nat.zero_le _, Nat.zero_le _⟩ rfl rfl (Nat.le_of_ble_eq_true rfl) dX4_job_24 27 rfl (fun u9 hu9 => ?_)
      show Z K 0 0 [wX K.g x bd tr q p h sb sv] [(0, .ref (x 0)), (1, .int a), (2, .int b), (3, .int c), (4, .int d)] 27 [.int (bI (rg c.toInt (Int.ofNat 1) (Int.ofNat 20)))]
      refine z_ifb_eq C 42 dX4_job_27 (by decide) 30 rfl (fun c_3 => ?_) (fun c_3 => ?_)
      · skip
        refine z_bipush C (v := (-2)) rfl dX4_job_42 44 rfl ?_
        exact z_iret C hRx dX4_job_44 () rfl trivial rfl
      · skip
        refine z_iload C 4 rfl dX4_job_30 32 rfl ?_
        refine z_iconst C (v := nI 0) rfl dX4_job_32 33 rfl ?_
        refine z_sipush C (v := nI 3000) rfl dX4_job_33 36 rfl ?_
        refine z_callP C [.int d, .int (nI 0), .int (nI 3000)] [] (tX4_withinN K.l K.g d 0 3000 (by first | omega | assumption) (by first | omega | assumption)) gX4_job_X4_within rfl rfl rfl hdX4_within ⟨Nat.le_of_ble_eq_true rfl, Nat.le_of_ble_eq_true rfl⟩ ⟨Nat.zero_le _, Nat.zero_le _⟩ rfl rfl (Nat.le_of_ble_eq_true rfl) dX4_job_36 39 rfl (fun u9 hu9 => ?_)
        show Z K 0 0 [wX K.g x bd tr q p h sb sv] [(0, .ref (x 0)), (1, .int a), (2, .int b), (3, .int c), (4, .int d)] 39 [.int (bI (rg d.toInt (Int.ofNat 0) (Int.ofNat 3000)))]
        refine z_ifb_ne C 45 dX4_job_39 (by decide) 42 rfl (fun c_4 => ?_) (fun c_4 => ?_)
        · exfalso; simp_all
        refine z_bipush C (v := (-2)) rfl dX4_job_42 44 rfl ?_
        exact z_iret C hRx dX4_job_44 () rfl trivial rfl

theorem iX4_job_X0 : ∀ w ∈ u_ws RX0 TX0 3, w ∈ wsX4_job := fun w h => (List.mem_cons_of_mem _ (List.mem_append_left _ (List.mem_append_right _ h)))
theorem iX4_job_X4 : ∀ w ∈ u_ws RX4 TX4 7, w ∈ wsX4_job := fun w h => (List.mem_cons_of_mem _ (List.mem_append_left _ (List.mem_append_left _ (List.mem_append_right _ h))))
set_option maxHeartbeats 4000000 in
set_option maxRecDepth 100000 in
theorem tX4_job_np (l : Launch) (g : zG) (x bd tr q p h : Nat → Nat) (sb : Nat → Nat → Nat) (sv : Nat → Bool) (st : Nat → Nat) (r : Nat → Nat → Nat) (n : Nat) (a b c d : Nat) (hS : okS st) (ha9 : a ≤ 9) (hb9 : b ≤ 9) (hc1 : 1 ≤ c) (hc2 : c ≤ 20) (hd9 : d ≤ 3000) (hb : st 5 < nd (st 6) c) : Met l yX4_job wsX4_job ({ frames := 3, cells := 0, slots := 0, locals := 103 } : Room) (zPre g [.ref (x 0), .int (nI a), .int (nI b), .int (nI c), .int (nI d)] [wX g x bd tr q p h sb sv, wB g bd st r n]) (zQ g (fun _ : Unit => some (.int (-5)) ) (fun _ : Unit => True) (fun _ : Unit => [wX g x bd tr q p h sb sv, wB g bd st r n]) (zA [wX g x bd tr q p h sb sv, wB g bd st r n])) 0 0 (zA [wX g x bd tr q p h sb sv, wB g bd st r n]) := by
  refine z_entry (cc := cX4_job) (maxL := 5) (ret := (some .int)) (own := RX4) (by decide) rfl rfl (Nat.le_of_ble_eq_true rfl) [(0, .ref (x 0)), (1, .int (nI a)), (2, .int (nI b)), (3, .int (nI c)), (4, .int (nI d))] rfl ?_
  intro K hKl hKg hnL C hRx
  subst hKl
  subst hKg
  have hnb := nd_le (h := c) hS.2.2.2.2.2.2.2.2.1
  have h5b := hS.2.2.2.2.2.2.2.1
  refine z_iload_n C 1 rfl rfl dX4_job_0 1 rfl ?_
  refine z_iconst C (v := nI 0) rfl dX4_job_1 2 rfl ?_
  refine z_bipush C (v := nI 9) rfl dX4_job_2 4 rfl ?_
  refine z_callP C [.int (nI a), .int (nI 0), .int (nI 9)] [] (tX4_withinN K.l K.g (nI a) 0 9 (by first | omega | assumption) (by first | omega | assumption)) gX4_job_X4_within rfl rfl rfl hdX4_within ⟨Nat.le_of_ble_eq_true rfl, Nat.le_of_ble_eq_true rfl⟩ ⟨Nat.zero_le _, Nat.zero_le _⟩ rfl rfl (Nat.le_of_ble_eq_true rfl) dX4_job_4 7 rfl (fun u9 hu9 => ?_)
  show Z K 0 0 [wX K.g x bd tr q p h sb sv, wB K.g bd st r n] [(0, .ref (x 0)), (1, .int (nI a)), (2, .int (nI b)), (3, .int (nI c)), (4, .int (nI d))] 7 [.int (bI (rg (nI a).toInt (Int.ofNat 0) (Int.ofNat 9)))]
  refine z_ifb_eq C 42 dX4_job_7 (by decide) 10 rfl (fun c_1 => ?_) (fun c_1 => ?_)
  · exfalso; rw [rgN_t (by omega) (by omega) (by omega)] at c_1; exact Bool.noConfusion c_1
  refine z_iload_n C 2 rfl rfl dX4_job_10 11 rfl ?_
  refine z_iconst C (v := nI 0) rfl dX4_job_11 12 rfl ?_
  refine z_bipush C (v := nI 9) rfl dX4_job_12 14 rfl ?_
  refine z_callP C [.int (nI b), .int (nI 0), .int (nI 9)] [] (tX4_withinN K.l K.g (nI b) 0 9 (by first | omega | assumption) (by first | omega | assumption)) gX4_job_X4_within rfl rfl rfl hdX4_within ⟨Nat.le_of_ble_eq_true rfl, Nat.le_of_ble_eq_true rfl⟩ ⟨Nat.zero_le _, Nat.zero_le _⟩ rfl rfl (Nat.le_of_ble_eq_true rfl) dX4_job_14 17 rfl (fun u9 hu9 => ?_)
  show Z K 0 0 [wX K.g x bd tr q p h sb sv, wB K.g bd st r n] [(0, .ref (x 0)), (1, .int (nI a)), (2, .int (nI b)), (3, .int (nI c)), (4, .int (nI d))] 17 [.int (bI (rg (nI b).toInt (Int.ofNat 0) (Int.ofNat 9)))]
  refine z_ifb_eq C 42 dX4_job_17 (by decide) 20 rfl (fun c_2 => ?_) (fun c_2 => ?_)
  · exfalso; rw [rgN_t (by omega) (by omega) (by omega)] at c_2; exact Bool.noConfusion c_2
  refine z_iload_n C 3 rfl rfl dX4_job_20 21 rfl ?_
  refine z_iconst C (v := nI 1) rfl dX4_job_21 22 rfl ?_
  refine z_bipush C (v := nI 20) rfl dX4_job_22 24 rfl ?_
  refine z_callP C [.int (nI c), .int (nI 1), .int (nI 20)] [] (tX4_withinN K.l K.g (nI c) 1 20 (by first | omega | assumption) (by first | omega | assumption)) gX4_job_X4_within rfl rfl rfl hdX4_within ⟨Nat.le_of_ble_eq_true rfl, Nat.le_of_ble_eq_true rfl⟩ ⟨Nat.zero_le _, Nat.zero_le _⟩ rfl rfl (Nat.le_of_ble_eq_true rfl) dX4_job_24 27 rfl (fun u9 hu9 => ?_)
  show Z K 0 0 [wX K.g x bd tr q p h sb sv, wB K.g bd st r n] [(0, .ref (x 0)), (1, .int (nI a)), (2, .int (nI b)), (3, .int (nI c)), (4, .int (nI d))] 27 [.int (bI (rg (nI c).toInt (Int.ofNat 1) (Int.ofNat 20)))]
  refine z_ifb_eq C 42 dX4_job_27 (by decide) 30 rfl (fun c_3 => ?_) (fun c_3 => ?_)
  · exfalso; rw [rgN_t (by omega) (by omega) (by omega)] at c_3; exact Bool.noConfusion c_3
  refine z_iload C 4 rfl dX4_job_30 32 rfl ?_
  refine z_iconst C (v := nI 0) rfl dX4_job_32 33 rfl ?_
  refine z_sipush C (v := nI 3000) rfl dX4_job_33 36 rfl ?_
  refine z_callP C [.int (nI d), .int (nI 0), .int (nI 3000)] [] (tX4_withinN K.l K.g (nI d) 0 3000 (by first | omega | assumption) (by first | omega | assumption)) gX4_job_X4_within rfl rfl rfl hdX4_within ⟨Nat.le_of_ble_eq_true rfl, Nat.le_of_ble_eq_true rfl⟩ ⟨Nat.zero_le _, Nat.zero_le _⟩ rfl rfl (Nat.le_of_ble_eq_true rfl) dX4_job_36 39 rfl (fun u9 hu9 => ?_)
  show Z K 0 0 [wX K.g x bd tr q p h sb sv, wB K.g bd st r n] [(0, .ref (x 0)), (1, .int (nI a)), (2, .int (nI b)), (3, .int (nI c)), (4, .int (nI d))] 39 [.int (bI (rg (nI d).toInt (Int.ofNat 0) (Int.ofNat 3000)))]
  refine z_ifb_ne C 45 dX4_job_39 (by decide) 42 rfl (fun c_4 => ?_) (fun c_4 => ?_)
  rotate_left
  · exfalso; rw [rgN_t (by omega) (by omega) (by omega)] at c_4; exact Bool.noConfusion c_4
  refine z_iload_n C 3 rfl rfl dX4_job_45 46 rfl ?_
  refine z_aload_n C 0 rfl rfl dX4_job_46 47 rfl ?_
  refine z_get C zc4 iX4_job_X4 0 0 rfl rfl 0 (Nat.le_of_ble_eq_true rfl) (List.mem_of_getElem? (i := 1) rfl) (v := .ref (bd 0)) rfl dX4_job_47 50 rfl ?_
  refine z_get C zc0 iX4_job_X0 1 0 rfl rfl 0 (Nat.le_of_ble_eq_true rfl) (List.mem_of_getElem? (i := 2) rfl) (v := .ref (bd 1)) rfl dX4_job_50 53 rfl ?_
  refine z_bipush C (v := nI 6) rfl dX4_job_53 55 rfl ?_
  refine z_iald C (f := st) 1 1 rfl rfl (by omega) (by decide) dX4_job_55 56 rfl ?_
  refine z_callP C [.int (nI c), .int (nI (st 6))] [] (tX4_racksFor K.l K.g c (st 6) hS.2.2.2.2.2.2.2.2.1 (by have := hS.2.2.2.2.2.2.2.2.2; omega) (by first | omega | assumption)) gX4_job_X4_racksFor rfl rfl rfl hdX4_racksFor ⟨Nat.le_of_ble_eq_true rfl, Nat.le_of_ble_eq_true rfl⟩ ⟨Nat.zero_le _, Nat.zero_le _⟩ rfl rfl (Nat.le_of_ble_eq_true rfl) dX4_job_56 59 rfl (fun u9 hu9 => ?_)
  show Z K 0 0 [wX K.g x bd tr q p h sb sv, wB K.g bd st r n] [(0, .ref (x 0)), (1, .int (nI a)), (2, .int (nI b)), (3, .int (nI c)), (4, .int (nI d))] 59 [.int (nI (nd (st 6) c))]
  refine z_aload_n C 0 rfl rfl dX4_job_59 60 rfl ?_
  refine z_get C zc4 iX4_job_X4 0 0 rfl rfl 0 (Nat.le_of_ble_eq_true rfl) (List.mem_of_getElem? (i := 1) rfl) (v := .ref (bd 0)) rfl dX4_job_60 63 rfl ?_
  refine z_get C zc0 iX4_job_X0 1 0 rfl rfl 0 (Nat.le_of_ble_eq_true rfl) (List.mem_of_getElem? (i := 2) rfl) (v := .ref (bd 1)) rfl dX4_job_63 66 rfl ?_
  refine z_iconst C (v := nI 5) rfl dX4_job_66 67 rfl ?_
  refine z_iald C (f := st) 1 1 rfl rfl (by omega) (by decide) dX4_job_67 68 rfl ?_
  refine z_icmp_le C (by omega) (by omega) 74 dX4_job_68 (by decide) 71 rfl (fun c_5 => ?_) (fun c_5 => ?_)
  · exfalso; omega
  refine z_bipush C (v := (-5)) rfl dX4_job_71 73 rfl ?_
  exact z_iret C hRx dX4_job_73 () rfl trivial rfl

set_option maxHeartbeats 4000000 in
set_option maxRecDepth 100000 in
theorem tX4_job_tm (l : Launch) (g : zG) (x bd tr q p h : Nat → Nat) (sb : Nat → Nat → Nat) (sv : Nat → Bool) (st : Nat → Nat) (r : Nat → Nat → Nat) (n : Nat) (a b c d : Nat) (hS : okS st) (ha9 : a ≤ 9) (hb9 : b ≤ 9) (hc1 : 1 ≤ c) (hc2 : c ≤ 20) (hd9 : d ≤ 3000) (hb : nd (st 6) c ≤ st 5) (hn : n = 12) : Met l yX4_job wsX4_job ({ frames := 3, cells := 0, slots := 0, locals := 103 } : Room) (zPre g [.ref (x 0), .int (nI a), .int (nI b), .int (nI c), .int (nI d)] [wX g x bd tr q p h sb sv, wB g bd st r n]) (zQ g (fun _ : Unit => some (.int (-4)) ) (fun _ : Unit => True) (fun _ : Unit => [wX g x bd tr q p h sb sv, wB g bd st r n]) (zA [wX g x bd tr q p h sb sv, wB g bd st r n])) 0 0 (zA [wX g x bd tr q p h sb sv, wB g bd st r n]) := by
  refine z_entry (cc := cX4_job) (maxL := 5) (ret := (some .int)) (own := RX4) (by decide) rfl rfl (Nat.le_of_ble_eq_true rfl) [(0, .ref (x 0)), (1, .int (nI a)), (2, .int (nI b)), (3, .int (nI c)), (4, .int (nI d))] rfl ?_
  intro K hKl hKg hnL C hRx
  subst hKl
  subst hKg
  have hnb := nd_le (h := c) hS.2.2.2.2.2.2.2.2.1
  have h5b := hS.2.2.2.2.2.2.2.1
  refine z_iload_n C 1 rfl rfl dX4_job_0 1 rfl ?_
  refine z_iconst C (v := nI 0) rfl dX4_job_1 2 rfl ?_
  refine z_bipush C (v := nI 9) rfl dX4_job_2 4 rfl ?_
  refine z_callP C [.int (nI a), .int (nI 0), .int (nI 9)] [] (tX4_withinN K.l K.g (nI a) 0 9 (by first | omega | assumption) (by first | omega | assumption)) gX4_job_X4_within rfl rfl rfl hdX4_within ⟨Nat.le_of_ble_eq_true rfl, Nat.le_of_ble_eq_true rfl⟩ ⟨Nat.zero_le _, Nat.zero_le _⟩ rfl rfl (Nat.le_of_ble_eq_true rfl) dX4_job_4 7 rfl (fun u9 hu9 => ?_)
  show Z K 0 0 [wX K.g x bd tr q p h sb sv, wB K.g bd st r n] [(0, .ref (x 0)), (1, .int (nI a)), (2, .int (nI b)), (3, .int (nI c)), (4, .int (nI d))] 7 [.int (bI (rg (nI a).toInt (Int.ofNat 0) (Int.ofNat 9)))]
  refine z_ifb_eq C 42 dX4_job_7 (by decide) 10 rfl (fun c_1 => ?_) (fun c_1 => ?_)
  · exfalso; rw [rgN_t (by omega) (by omega) (by omega)] at c_1; exact Bool.noConfusion c_1
  refine z_iload_n C 2 rfl rfl dX4_job_10 11 rfl ?_
  refine z_iconst C (v := nI 0) rfl dX4_job_11 12 rfl ?_
  refine z_bipush C (v := nI 9) rfl dX4_job_12 14 rfl ?_
  refine z_callP C [.int (nI b), .int (nI 0), .int (nI 9)] [] (tX4_withinN K.l K.g (nI b) 0 9 (by first | omega | assumption) (by first | omega | assumption)) gX4_job_X4_within rfl rfl rfl hdX4_within ⟨Nat.le_of_ble_eq_true rfl, Nat.le_of_ble_eq_true rfl⟩ ⟨Nat.zero_le _, Nat.zero_le _⟩ rfl rfl (Nat.le_of_ble_eq_true rfl) dX4_job_14 17 rfl (fun u9 hu9 => ?_)
  show Z K 0 0 [wX K.g x bd tr q p h sb sv, wB K.g bd st r n] [(0, .ref (x 0)), (1, .int (nI a)), (2, .int (nI b)), (3, .int (nI c)), (4, .int (nI d))] 17 [.int (bI (rg (nI b).toInt (Int.ofNat 0) (Int.ofNat 9)))]
  refine z_ifb_eq C 42 dX4_job_17 (by decide) 20 rfl (fun c_2 => ?_) (fun c_2 => ?_)
  · exfalso; rw [rgN_t (by omega) (by omega) (by omega)] at c_2; exact Bool.noConfusion c_2
  refine z_iload_n C 3 rfl rfl dX4_job_20 21 rfl ?_
  refine z_iconst C (v := nI 1) rfl dX4_job_21 22 rfl ?_
  refine z_bipush C (v := nI 20) rfl dX4_job_22 24 rfl ?_
  refine z_callP C [.int (nI c), .int (nI 1), .int (nI 20)] [] (tX4_withinN K.l K.g (nI c) 1 20 (by first | omega | assumption) (by first | omega | assumption)) gX4_job_X4_within rfl rfl rfl hdX4_within ⟨Nat.le_of_ble_eq_true rfl, Nat.le_of_ble_eq_true rfl⟩ ⟨Nat.zero_le _, Nat.zero_le _⟩ rfl rfl (Nat.le_of_ble_eq_true rfl) dX4_job_24 27 rfl (fun u9 hu9 => ?_)
  show Z K 0 0 [wX K.g x bd tr q p h sb sv, wB K.g bd st r n] [(0, .ref (x 0)), (1, .int (nI a)), (2, .int (nI b)), (3, .int (nI c)), (4, .int (nI d))] 27 [.int (bI (rg (nI c).toInt (Int.ofNat 1) (Int.ofNat 20)))]
  refine z_ifb_eq C 42 dX4_job_27 (by decide) 30 rfl (fun c_3 => ?_) (fun c_3 => ?_)
  · exfalso; rw [rgN_t (by omega) (by omega) (by omega)] at c_3; exact Bool.noConfusion c_3
  refine z_iload C 4 rfl dX4_job_30 32 rfl ?_
  refine z_iconst C (v := nI 0) rfl dX4_job_32 33 rfl ?_
  refine z_sipush C (v := nI 3000) rfl dX4_job_33 36 rfl ?_
  refine z_callP C [.int (nI d), .int (nI 0), .int (nI 3000)] [] (tX4_withinN K.l K.g (nI d) 0 3000 (by first | omega | assumption) (by first | omega | assumption)) gX4_job_X4_within rfl rfl rfl hdX4_within ⟨Nat.le_of_ble_eq_true rfl, Nat.le_of_ble_eq_true rfl⟩ ⟨Nat.zero_le _, Nat.zero_le _⟩ rfl rfl (Nat.le_of_ble_eq_true rfl) dX4_job_36 39 rfl (fun u9 hu9 => ?_)
  show Z K 0 0 [wX K.g x bd tr q p h sb sv, wB K.g bd st r n] [(0, .ref (x 0)), (1, .int (nI a)), (2, .int (nI b)), (3, .int (nI c)), (4, .int (nI d))] 39 [.int (bI (rg (nI d).toInt (Int.ofNat 0) (Int.ofNat 3000)))]
  refine z_ifb_ne C 45 dX4_job_39 (by decide) 42 rfl (fun c_4 => ?_) (fun c_4 => ?_)
  rotate_left
  · exfalso; rw [rgN_t (by omega) (by omega) (by omega)] at c_4; exact Bool.noConfusion c_4
  refine z_iload_n C 3 rfl rfl dX4_job_45 46 rfl ?_
  refine z_aload_n C 0 rfl rfl dX4_job_46 47 rfl ?_
  refine z_get C zc4 iX4_job_X4 0 0 rfl rfl 0 (Nat.le_of_ble_eq_true rfl) (List.mem_of_getElem? (i := 1) rfl) (v := .ref (bd 0)) rfl dX4_job_47 50 rfl ?_
  refine z_get C zc0 iX4_job_X0 1 0 rfl rfl 0 (Nat.le_of_ble_eq_true rfl) (List.mem_of_getElem? (i := 2) rfl) (v := .ref (bd 1)) rfl dX4_job_50 53 rfl ?_
  refine z_bipush C (v := nI 6) rfl dX4_job_53 55 rfl ?_
  refine z_iald C (f := st) 1 1 rfl rfl (by omega) (by decide) dX4_job_55 56 rfl ?_
  refine z_callP C [.int (nI c), .int (nI (st 6))] [] (tX4_racksFor K.l K.g c (st 6) hS.2.2.2.2.2.2.2.2.1 (by have := hS.2.2.2.2.2.2.2.2.2; omega) (by first | omega | assumption)) gX4_job_X4_racksFor rfl rfl rfl hdX4_racksFor ⟨Nat.le_of_ble_eq_true rfl, Nat.le_of_ble_eq_true rfl⟩ ⟨Nat.zero_le _, Nat.zero_le _⟩ rfl rfl (Nat.le_of_ble_eq_true rfl) dX4_job_56 59 rfl (fun u9 hu9 => ?_)
  show Z K 0 0 [wX K.g x bd tr q p h sb sv, wB K.g bd st r n] [(0, .ref (x 0)), (1, .int (nI a)), (2, .int (nI b)), (3, .int (nI c)), (4, .int (nI d))] 59 [.int (nI (nd (st 6) c))]
  refine z_aload_n C 0 rfl rfl dX4_job_59 60 rfl ?_
  refine z_get C zc4 iX4_job_X4 0 0 rfl rfl 0 (Nat.le_of_ble_eq_true rfl) (List.mem_of_getElem? (i := 1) rfl) (v := .ref (bd 0)) rfl dX4_job_60 63 rfl ?_
  refine z_get C zc0 iX4_job_X0 1 0 rfl rfl 0 (Nat.le_of_ble_eq_true rfl) (List.mem_of_getElem? (i := 2) rfl) (v := .ref (bd 1)) rfl dX4_job_63 66 rfl ?_
  refine z_iconst C (v := nI 5) rfl dX4_job_66 67 rfl ?_
  refine z_iald C (f := st) 1 1 rfl rfl (by omega) (by decide) dX4_job_67 68 rfl ?_
  refine z_icmp_le C (by omega) (by omega) 74 dX4_job_68 (by decide) 71 rfl (fun c_5 => ?_) (fun c_5 => ?_)
  rotate_left
  · exfalso; omega
  refine z_aload_n C 0 rfl rfl dX4_job_74 75 rfl ?_
  refine z_get C zc4 iX4_job_X4 0 0 rfl rfl 0 (Nat.le_of_ble_eq_true rfl) (List.mem_of_getElem? (i := 1) rfl) (v := .ref (bd 0)) rfl dX4_job_75 78 rfl ?_
  refine z_get C zc0 iX4_job_X0 1 0 rfl rfl 2 (Nat.le_of_ble_eq_true rfl) (List.mem_of_getElem? (i := 3) rfl) (v := .int (nI n)) rfl dX4_job_78 81 rfl ?_
  refine z_bipush C (v := nI 12) rfl dX4_job_81 83 rfl ?_
  refine z_icmp_lt C (by omega) (by omega) 89 dX4_job_83 (by decide) 86 rfl (fun c_6 => ?_) (fun c_6 => ?_)
  · exfalso; omega
  refine z_bipush C (v := (-4)) rfl dX4_job_86 88 rfl ?_
  exact z_iret C hRx dX4_job_88 () rfl trivial rfl

set_option maxHeartbeats 4000000 in
set_option maxRecDepth 100000 in
theorem tX4_job_ok (l : Launch) (g : zG) (x bd tr q p h : Nat → Nat) (sb : Nat → Nat → Nat) (sv : Nat → Bool) (st : Nat → Nat) (r : Nat → Nat → Nat) (n : Nat) (ho hs : Nat → Nat → Nat) (hr : Nat → Nat → Nat → Nat) (hm : Nat → Nat) (kp nx : Nat) (a b c d : Nat) (hS : okS st) (ha9 : a ≤ 9) (hb9 : b ≤ 9) (hc1 : 1 ≤ c) (hc2 : c ≤ 20) (hd9 : d ≤ 3000) (hk : kp ≤ 6) (hx : nx < 6) (hb : nd (st 6) c ≤ st 5) (hn : n < 12) : Met l yX4_job wsX4_job ({ frames := 3, cells := 0, slots := 0, locals := 103 } : Room) (zPre g [.ref (x 0), .int (nI a), .int (nI b), .int (nI c), .int (nI d)] [wX g x bd tr q p h sb sv, wB g bd st r n, wH g h ho kp nx, wB g (ho 0) (hs 0) (hr 0) (hm 0), wB g (ho 1) (hs 1) (hr 1) (hm 1), wB g (ho 2) (hs 2) (hr 2) (hm 2), wB g (ho 3) (hs 3) (hr 3) (hm 3), wB g (ho 4) (hs 4) (hr 4) (hm 4), wB g (ho 5) (hs 5) (hr 5) (hm 5)]) (zQ g (fun _ : Unit => some (.int (nI n)) ) (fun _ : Unit => True) (fun _ : Unit => [wX g x bd tr q p h sb sv, wB g bd st (apR r n a b c d) (n + 1), wH g h ho (min (kp + 1) 6) (if nx = 5 then 0 else nx + 1), wB g (ho 0) ((un hs nx st) 0) ((un hr nx r) 0) ((un hm nx n) 0), wB g (ho 1) ((un hs nx st) 1) ((un hr nx r) 1) ((un hm nx n) 1), wB g (ho 2) ((un hs nx st) 2) ((un hr nx r) 2) ((un hm nx n) 2), wB g (ho 3) ((un hs nx st) 3) ((un hr nx r) 3) ((un hm nx n) 3), wB g (ho 4) ((un hs nx st) 4) ((un hr nx r) 4) ((un hm nx n) 4), wB g (ho 5) ((un hs nx st) 5) ((un hr nx r) 5) ((un hm nx n) 5)]) (zA [wX g x bd tr q p h sb sv, wB g bd st r n, wH g h ho kp nx, wB g (ho 0) (hs 0) (hr 0) (hm 0), wB g (ho 1) (hs 1) (hr 1) (hm 1), wB g (ho 2) (hs 2) (hr 2) (hm 2), wB g (ho 3) (hs 3) (hr 3) (hm 3), wB g (ho 4) (hs 4) (hr 4) (hm 4), wB g (ho 5) (hs 5) (hr 5) (hm 5)])) 0 0 (zA [wX g x bd tr q p h sb sv, wB g bd st r n, wH g h ho kp nx, wB g (ho 0) (hs 0) (hr 0) (hm 0), wB g (ho 1) (hs 1) (hr 1) (hm 1), wB g (ho 2) (hs 2) (hr 2) (hm 2), wB g (ho 3) (hs 3) (hr 3) (hm 3), wB g (ho 4) (hs 4) (hr 4) (hm 4), wB g (ho 5) (hs 5) (hr 5) (hm 5)]) := by
  refine z_entry (cc := cX4_job) (maxL := 5) (ret := (some .int)) (own := RX4) (by decide) rfl rfl (Nat.le_of_ble_eq_true rfl) [(0, .ref (x 0)), (1, .int (nI a)), (2, .int (nI b)), (3, .int (nI c)), (4, .int (nI d))] rfl ?_
  intro K hKl hKg hnL C hRx
  subst hKl
  subst hKg
  have hnb := nd_le (h := c) hS.2.2.2.2.2.2.2.2.1
  have h5b := hS.2.2.2.2.2.2.2.1
  refine z_iload_n C 1 rfl rfl dX4_job_0 1 rfl ?_
  refine z_iconst C (v := nI 0) rfl dX4_job_1 2 rfl ?_
  refine z_bipush C (v := nI 9) rfl dX4_job_2 4 rfl ?_
  refine z_callP C [.int (nI a), .int (nI 0), .int (nI 9)] [] (tX4_withinN K.l K.g (nI a) 0 9 (by first | omega | assumption) (by first | omega | assumption)) gX4_job_X4_within rfl rfl rfl hdX4_within ⟨Nat.le_of_ble_eq_true rfl, Nat.le_of_ble_eq_true rfl⟩ ⟨Nat.zero_le _, Nat.zero_le _⟩ rfl rfl (Nat.le_of_ble_eq_true rfl) dX4_job_4 7 rfl (fun u9 hu9 => ?_)
  show Z K 0 0 [wX K.g x bd tr q p h sb sv, wB K.g bd st r n, wH K.g h ho kp nx, wB K.g (ho 0) (hs 0) (hr 0) (hm 0), wB K.g (ho 1) (hs 1) (hr 1) (hm 1), wB K.g (ho 2) (hs 2) (hr 2) (hm 2), wB K.g (ho 3) (hs 3) (hr 3) (hm 3), wB K.g (ho 4) (hs 4) (hr 4) (hm 4), wB K.g (ho 5) (hs 5) (hr 5) (hm 5)] [(0, .ref (x 0)), (1, .int (nI a)), (2, .int (nI b)), (3, .int (nI c)), (4, .int (nI d))] 7 [.int (bI (rg (nI a).toInt (Int.ofNat 0) (Int.ofNat 9)))]
  refine z_ifb_eq C 42 dX4_job_7 (by decide) 10 rfl (fun c_1 => ?_) (fun c_1 => ?_)
  · exfalso; rw [rgN_t (by omega) (by omega) (by omega)] at c_1; exact Bool.noConfusion c_1
  refine z_iload_n C 2 rfl rfl dX4_job_10 11 rfl ?_
  refine z_iconst C (v := nI 0) rfl dX4_job_11 12 rfl ?_
  refine z_bipush C (v := nI 9) rfl dX4_job_12 14 rfl ?_
  refine z_callP C [.int (nI b), .int (nI 0), .int (nI 9)] [] (tX4_withinN K.l K.g (nI b) 0 9 (by first | omega | assumption) (by first | omega | assumption)) gX4_job_X4_within rfl rfl rfl hdX4_within ⟨Nat.le_of_ble_eq_true rfl, Nat.le_of_ble_eq_true rfl⟩ ⟨Nat.zero_le _, Nat.zero_le _⟩ rfl rfl (Nat.le_of_ble_eq_true rfl) dX4_job_14 17 rfl (fun u9 hu9 => ?_)
  show Z K 0 0 [wX K.g x bd tr q p h sb sv, wB K.g bd st r n, wH K.g h ho kp nx, wB K.g (ho 0) (hs 0) (hr 0) (hm 0), wB K.g (ho 1) (hs 1) (hr 1) (hm 1), wB K.g (ho 2) (hs 2) (hr 2) (hm 2), wB K.g (ho 3) (hs 3) (hr 3) (hm 3), wB K.g (ho 4) (hs 4) (hr 4) (hm 4), wB K.g (ho 5) (hs 5) (hr 5) (hm 5)] [(0, .ref (x 0)), (1, .int (nI a)), (2, .int (nI b)), (3, .int (nI c)), (4, .int (nI d))] 17 [.int (bI (rg (nI b).toInt (Int.ofNat 0) (Int.ofNat 9)))]
  refine z_ifb_eq C 42 dX4_job_17 (by decide) 20 rfl (fun c_2 => ?_) (fun c_2 => ?_)
  · exfalso; rw [rgN_t (by omega) (by omega) (by omega)] at c_2; exact Bool.noConfusion c_2
  refine z_iload_n C 3 rfl rfl dX4_job_20 21 rfl ?_
  refine z_iconst C (v := nI 1) rfl dX4_job_21 22 rfl ?_
  refine z_bipush C (v := nI 20) rfl dX4_job_22 24 rfl ?_
  refine z_callP C [.int (nI c), .int (nI 1), .int (nI 20)] [] (tX4_withinN K.l K.g (nI c) 1 20 (by first | omega | assumption) (by first | omega | assumption)) gX4_job_X4_within rfl rfl rfl hdX4_within ⟨Nat.le_of_ble_eq_true rfl, Nat.le_of_ble_eq_true rfl⟩ ⟨Nat.zero_le _, Nat.zero_le _⟩ rfl rfl (Nat.le_of_ble_eq_true rfl) dX4_job_24 27 rfl (fun u9 hu9 => ?_)
  show Z K 0 0 [wX K.g x bd tr q p h sb sv, wB K.g bd st r n, wH K.g h ho kp nx, wB K.g (ho 0) (hs 0) (hr 0) (hm 0), wB K.g (ho 1) (hs 1) (hr 1) (hm 1), wB K.g (ho 2) (hs 2) (hr 2) (hm 2), wB K.g (ho 3) (hs 3) (hr 3) (hm 3), wB K.g (ho 4) (hs 4) (hr 4) (hm 4), wB K.g (ho 5) (hs 5) (hr 5) (hm 5)] [(0, .ref (x 0)), (1, .int (nI a)), (2, .int (nI b)), (3, .int (nI c)), (4, .int (nI d))] 27 [.int (bI (rg (nI c).toInt (Int.ofNat 1) (Int.ofNat 20)))]
  refine z_ifb_eq C 42 dX4_job_27 (by decide) 30 rfl (fun c_3 => ?_) (fun c_3 => ?_)
  · exfalso; rw [rgN_t (by omega) (by omega) (by omega)] at c_3; exact Bool.noConfusion c_3
  refine z_iload C 4 rfl dX4_job_30 32 rfl ?_
  refine z_iconst C (v := nI 0) rfl dX4_job_32 33 rfl ?_
  refine z_sipush C (v := nI 3000) rfl dX4_job_33 36 rfl ?_
  refine z_callP C [.int (nI d), .int (nI 0), .int (nI 3000)] [] (tX4_withinN K.l K.g (nI d) 0 3000 (by first | omega | assumption) (by first | omega | assumption)) gX4_job_X4_within rfl rfl rfl hdX4_within ⟨Nat.le_of_ble_eq_true rfl, Nat.le_of_ble_eq_true rfl⟩ ⟨Nat.zero_le _, Nat.zero_le _⟩ rfl rfl (Nat.le_of_ble_eq_true rfl) dX4_job_36 39 rfl (fun u9 hu9 => ?_)
  show Z K 0 0 [wX K.g x bd tr q p h sb sv, wB K.g bd st r n, wH K.g h ho kp nx, wB K.g (ho 0) (hs 0) (hr 0) (hm 0), wB K.g (ho 1) (hs 1) (hr 1) (hm 1), wB K.g (ho 2) (hs 2) (hr 2) (hm 2), wB K.g (ho 3) (hs 3) (hr 3) (hm 3), wB K.g (ho 4) (hs 4) (hr 4) (hm 4), wB K.g (ho 5) (hs 5) (hr 5) (hm 5)] [(0, .ref (x 0)), (1, .int (nI a)), (2, .int (nI b)), (3, .int (nI c)), (4, .int (nI d))] 39 [.int (bI (rg (nI d).toInt (Int.ofNat 0) (Int.ofNat 3000)))]
  refine z_ifb_ne C 45 dX4_job_39 (by decide) 42 rfl (fun c_4 => ?_) (fun c_4 => ?_)
  rotate_left
  · exfalso; rw [rgN_t (by omega) (by omega) (by omega)] at c_4; exact Bool.noConfusion c_4
  refine z_iload_n C 3 rfl rfl dX4_job_45 46 rfl ?_
  refine z_aload_n C 0 rfl rfl dX4_job_46 47 rfl ?_
  refine z_get C zc4 iX4_job_X4 0 0 rfl rfl 0 (Nat.le_of_ble_eq_true rfl) (List.mem_of_getElem? (i := 1) rfl) (v := .ref (bd 0)) rfl dX4_job_47 50 rfl ?_
  refine z_get C zc0 iX4_job_X0 1 0 rfl rfl 0 (Nat.le_of_ble_eq_true rfl) (List.mem_of_getElem? (i := 2) rfl) (v := .ref (bd 1)) rfl dX4_job_50 53 rfl ?_
  refine z_bipush C (v := nI 6) rfl dX4_job_53 55 rfl ?_
  refine z_iald C (f := st) 1 1 rfl rfl (by omega) (by decide) dX4_job_55 56 rfl ?_
  refine z_callP C [.int (nI c), .int (nI (st 6))] [] (tX4_racksFor K.l K.g c (st 6) hS.2.2.2.2.2.2.2.2.1 (by have := hS.2.2.2.2.2.2.2.2.2; omega) (by first | omega | assumption)) gX4_job_X4_racksFor rfl rfl rfl hdX4_racksFor ⟨Nat.le_of_ble_eq_true rfl, Nat.le_of_ble_eq_true rfl⟩ ⟨Nat.zero_le _, Nat.zero_le _⟩ rfl rfl (Nat.le_of_ble_eq_true rfl) dX4_job_56 59 rfl (fun u9 hu9 => ?_)
  show Z K 0 0 [wX K.g x bd tr q p h sb sv, wB K.g bd st r n, wH K.g h ho kp nx, wB K.g (ho 0) (hs 0) (hr 0) (hm 0), wB K.g (ho 1) (hs 1) (hr 1) (hm 1), wB K.g (ho 2) (hs 2) (hr 2) (hm 2), wB K.g (ho 3) (hs 3) (hr 3) (hm 3), wB K.g (ho 4) (hs 4) (hr 4) (hm 4), wB K.g (ho 5) (hs 5) (hr 5) (hm 5)] [(0, .ref (x 0)), (1, .int (nI a)), (2, .int (nI b)), (3, .int (nI c)), (4, .int (nI d))] 59 [.int (nI (nd (st 6) c))]
  refine z_aload_n C 0 rfl rfl dX4_job_59 60 rfl ?_
  refine z_get C zc4 iX4_job_X4 0 0 rfl rfl 0 (Nat.le_of_ble_eq_true rfl) (List.mem_of_getElem? (i := 1) rfl) (v := .ref (bd 0)) rfl dX4_job_60 63 rfl ?_
  refine z_get C zc0 iX4_job_X0 1 0 rfl rfl 0 (Nat.le_of_ble_eq_true rfl) (List.mem_of_getElem? (i := 2) rfl) (v := .ref (bd 1)) rfl dX4_job_63 66 rfl ?_
  refine z_iconst C (v := nI 5) rfl dX4_job_66 67 rfl ?_
  refine z_iald C (f := st) 1 1 rfl rfl (by omega) (by decide) dX4_job_67 68 rfl ?_
  refine z_icmp_le C (by omega) (by omega) 74 dX4_job_68 (by decide) 71 rfl (fun c_5 => ?_) (fun c_5 => ?_)
  rotate_left
  · exfalso; omega
  refine z_aload_n C 0 rfl rfl dX4_job_74 75 rfl ?_
  refine z_get C zc4 iX4_job_X4 0 0 rfl rfl 0 (Nat.le_of_ble_eq_true rfl) (List.mem_of_getElem? (i := 1) rfl) (v := .ref (bd 0)) rfl dX4_job_75 78 rfl ?_
  refine z_get C zc0 iX4_job_X0 1 0 rfl rfl 2 (Nat.le_of_ble_eq_true rfl) (List.mem_of_getElem? (i := 3) rfl) (v := .int (nI n)) rfl dX4_job_78 81 rfl ?_
  refine z_bipush C (v := nI 12) rfl dX4_job_81 83 rfl ?_
  refine z_icmp_lt C (by omega) (by omega) 89 dX4_job_83 (by decide) 86 rfl (fun c_6 => ?_) (fun c_6 => ?_)
  rotate_left
  · exfalso; omega
  refine z_aload_n C 0 rfl rfl dX4_job_89 90 rfl ?_
  refine z_get C zc4 iX4_job_X4 0 0 rfl rfl 4 (Nat.le_of_ble_eq_true rfl) (List.mem_of_getElem? (i := 4) rfl) (v := .ref (h 0)) rfl dX4_job_90 93 rfl ?_
  refine z_aload_n C 0 rfl rfl dX4_job_93 94 rfl ?_
  refine z_get C zc4 iX4_job_X4 0 0 rfl rfl 0 (Nat.le_of_ble_eq_true rfl) (List.mem_of_getElem? (i := 1) rfl) (v := .ref (bd 0)) rfl dX4_job_94 97 rfl ?_
  refine z_callV C [.ref (bd 0)] [] (tX1_remember K.l K.g h ho hs hr hm kp nx bd st r n (by first | omega | assumption) (by first | omega | assumption)) gX4_job_X1_remember rfl rfl rfl hdX1_remember ⟨Nat.le_of_ble_eq_true rfl, Nat.le_of_ble_eq_true rfl⟩ ⟨Nat.zero_le _, Nat.zero_le _⟩ 2 0 rfl rfl rfl [2, 3, 4, 5, 6, 7, 8, 1] rfl rfl (zlc (N := 9) rfl rfl) [0, 16, 9, 10, 11, 12, 13, 14, 15] rfl (by decide) (fun _ : Unit => [wX K.g x bd tr q p h sb sv, wB K.g bd st r n, wH K.g h ho (min (kp + 1) 6) (if nx = 5 then 0 else nx + 1), wB K.g (ho 0) ((un hs nx st) 0) ((un hr nx r) 0) ((un hm nx n) 0), wB K.g (ho 1) ((un hs nx st) 1) ((un hr nx r) 1) ((un hm nx n) 1), wB K.g (ho 2) ((un hs nx st) 2) ((un hr nx r) 2) ((un hm nx n) 2), wB K.g (ho 3) ((un hs nx st) 3) ((un hr nx r) 3) ((un hm nx n) 3), wB K.g (ho 4) ((un hs nx st) 4) ((un hr nx r) 4) ((un hm nx n) 4), wB K.g (ho 5) ((un hs nx st) 5) ((un hr nx r) 5) ((un hm nx n) 5)]) (fun _ => rfl) rfl rfl (Nat.le_of_ble_eq_true rfl) dX4_job_97 100 rfl (fun u9 hu9 => ?_)
  show Z K 0 0 [wX K.g x bd tr q p h sb sv, wB K.g bd st r n, wH K.g h ho (min (kp + 1) 6) (if nx = 5 then 0 else nx + 1), wB K.g (ho 0) ((un hs nx st) 0) ((un hr nx r) 0) ((un hm nx n) 0), wB K.g (ho 1) ((un hs nx st) 1) ((un hr nx r) 1) ((un hm nx n) 1), wB K.g (ho 2) ((un hs nx st) 2) ((un hr nx r) 2) ((un hm nx n) 2), wB K.g (ho 3) ((un hs nx st) 3) ((un hr nx r) 3) ((un hm nx n) 3), wB K.g (ho 4) ((un hs nx st) 4) ((un hr nx r) 4) ((un hm nx n) 4), wB K.g (ho 5) ((un hs nx st) 5) ((un hr nx r) 5) ((un hm nx n) 5)] [(0, .ref (x 0)), (1, .int (nI a)), (2, .int (nI b)), (3, .int (nI c)), (4, .int (nI d))] 100 []
  refine z_aload_n C 0 rfl rfl dX4_job_100 101 rfl ?_
  refine z_get C zc4 iX4_job_X4 0 0 rfl rfl 0 (Nat.le_of_ble_eq_true rfl) (List.mem_of_getElem? (i := 1) rfl) (v := .ref (bd 0)) rfl dX4_job_101 104 rfl ?_
  refine z_iload_n C 1 rfl rfl dX4_job_104 105 rfl ?_
  refine z_iload_n C 2 rfl rfl dX4_job_105 106 rfl ?_
  refine z_iload_n C 3 rfl rfl dX4_job_106 107 rfl ?_
  refine z_iload C 4 rfl dX4_job_107 109 rfl ?_
  refine z_callV C [.int (nI a), .int (nI b), .int (nI c), .int (nI d)] [] (tX0_append K.l K.g bd st r n a b c d (by first | omega | assumption)) gX4_job_X0_append rfl rfl rfl hdX0_append ⟨Nat.le_of_ble_eq_true rfl, Nat.le_of_ble_eq_true rfl⟩ ⟨Nat.zero_le _, Nat.zero_le _⟩ 1 0 rfl rfl rfl [1] rfl rfl (zlc (N := 9) rfl rfl) [0, 9, 2, 3, 4, 5, 6, 7, 8] rfl (by decide) (fun _ : Unit => [wX K.g x bd tr q p h sb sv, wB K.g bd st (apR r n a b c d) (n + 1), wH K.g h ho (min (kp + 1) 6) (if nx = 5 then 0 else nx + 1), wB K.g (ho 0) ((un hs nx st) 0) ((un hr nx r) 0) ((un hm nx n) 0), wB K.g (ho 1) ((un hs nx st) 1) ((un hr nx r) 1) ((un hm nx n) 1), wB K.g (ho 2) ((un hs nx st) 2) ((un hr nx r) 2) ((un hm nx n) 2), wB K.g (ho 3) ((un hs nx st) 3) ((un hr nx r) 3) ((un hm nx n) 3), wB K.g (ho 4) ((un hs nx st) 4) ((un hr nx r) 4) ((un hm nx n) 4), wB K.g (ho 5) ((un hs nx st) 5) ((un hr nx r) 5) ((un hm nx n) 5)]) (fun _ => rfl) rfl rfl (Nat.le_of_ble_eq_true rfl) dX4_job_109 112 rfl (fun u9 hu9 => ?_)
  show Z K 0 0 [wX K.g x bd tr q p h sb sv, wB K.g bd st (apR r n a b c d) (n + 1), wH K.g h ho (min (kp + 1) 6) (if nx = 5 then 0 else nx + 1), wB K.g (ho 0) ((un hs nx st) 0) ((un hr nx r) 0) ((un hm nx n) 0), wB K.g (ho 1) ((un hs nx st) 1) ((un hr nx r) 1) ((un hm nx n) 1), wB K.g (ho 2) ((un hs nx st) 2) ((un hr nx r) 2) ((un hm nx n) 2), wB K.g (ho 3) ((un hs nx st) 3) ((un hr nx r) 3) ((un hm nx n) 3), wB K.g (ho 4) ((un hs nx st) 4) ((un hr nx r) 4) ((un hm nx n) 4), wB K.g (ho 5) ((un hs nx st) 5) ((un hr nx r) 5) ((un hm nx n) 5)] [(0, .ref (x 0)), (1, .int (nI a)), (2, .int (nI b)), (3, .int (nI c)), (4, .int (nI d))] 112 []
  refine z_aload_n C 0 rfl rfl dX4_job_112 113 rfl ?_
  refine z_get C zc4 iX4_job_X4 0 0 rfl rfl 0 (Nat.le_of_ble_eq_true rfl) (List.mem_of_getElem? (i := 1) rfl) (v := .ref (bd 0)) rfl dX4_job_113 116 rfl ?_
  refine z_get C zc0 iX4_job_X0 1 0 rfl rfl 2 (Nat.le_of_ble_eq_true rfl) (List.mem_of_getElem? (i := 3) rfl) (v := .int (nI (n + 1))) rfl dX4_job_116 119 rfl ?_
  refine z_iconst C (v := nI 1) rfl dX4_job_119 120 rfl ?_
  refine z_isub C (by omega) dX4_job_120 121 rfl ?_
  exact z_iret C hRx dX4_job_121 () rfl trivial rfl

set_option maxHeartbeats 4000000 in
set_option maxRecDepth 100000 in
theorem tX4_drop_ns (l : Launch) (g : zG) (x bd tr q p h : Nat → Nat) (sb : Nat → Nat → Nat) (sv : Nat → Bool) (st : Nat → Nat) (r : Nat → Nat → Nat) (n : Nat) (v : Int32) (hn : n ≤ 12) (hb : isJ v n = false) : Met l yX4_drop wsX4_drop ({ frames := 3, cells := 0, slots := 0, locals := 103 } : Room) (zPre g [.ref (x 0), .int v] [wX g x bd tr q p h sb sv, wB g bd st r n]) (zQ g (fun _ : Unit => some (.int (-1)) ) (fun _ : Unit => True) (fun _ : Unit => [wX g x bd tr q p h sb sv, wB g bd st r n]) (zA [wX g x bd tr q p h sb sv, wB g bd st r n])) 0 0 (zA [wX g x bd tr q p h sb sv, wB g bd st r n]) := by
  refine z_entry (cc := cX4_drop) (maxL := 2) (ret := (some .int)) (own := RX4) (by decide) rfl rfl (Nat.le_of_ble_eq_true rfl) [(0, .ref (x 0)), (1, .int v)] rfl ?_
  intro K hKl hKg hnL C hRx
  subst hKl
  subst hKg
  refine z_aload_n C 0 rfl rfl dX4_drop_0 1 rfl ?_
  refine z_iload_n C 1 rfl rfl dX4_drop_1 2 rfl ?_
  refine z_callV C [.int v] [] (tX4_isJob K.l K.g x bd tr q p h sb sv st r n v (by first | omega | assumption)) gX4_drop_X4_isJob rfl rfl rfl hdX4_isJob ⟨Nat.le_of_ble_eq_true rfl, Nat.le_of_ble_eq_true rfl⟩ ⟨Nat.zero_le _, Nat.zero_le _⟩ 0 0 rfl rfl rfl [0, 1] rfl rfl (zlc (N := 2) rfl rfl) [2, 3] rfl (by decide) (fun _ : Unit => [wX K.g x bd tr q p h sb sv, wB K.g bd st r n]) (fun _ => rfl) rfl rfl (Nat.le_of_ble_eq_true rfl) dX4_drop_2 5 rfl (fun u9 hu9 => ?_)
  show Z K 0 0 [wX K.g x bd tr q p h sb sv, wB K.g bd st r n] [(0, .ref (x 0)), (1, .int v)] 5 [.int (bI (isJ v n))]
  refine z_ifb_ne C 10 dX4_drop_5 (by decide) 8 rfl (fun c_1 => ?_) (fun c_1 => ?_)
  · exfalso; rw [hb] at c_1; exact Bool.noConfusion c_1
  refine z_iconst C (v := (-1)) rfl dX4_drop_8 9 rfl ?_
  exact z_iret C hRx dX4_drop_9 () rfl trivial rfl

theorem iX4_drop_X0 : ∀ w ∈ u_ws RX0 TX0 3, w ∈ wsX4_drop := fun w h => (List.mem_cons_of_mem _ (List.mem_append_left _ (List.mem_append_right _ h)))
theorem iX4_drop_X4 : ∀ w ∈ u_ws RX4 TX4 7, w ∈ wsX4_drop := fun w h => (List.mem_cons_of_mem _ (List.mem_append_left _ (List.mem_append_left _ (List.mem_append_right _ h))))
set_option maxHeartbeats 4000000 in
set_option maxRecDepth 100000 in
theorem tX4_drop_ok (l : Launch) (g : zG) (x bd tr q p h : Nat → Nat) (sb : Nat → Nat → Nat) (sv : Nat → Bool) (st : Nat → Nat) (r : Nat → Nat → Nat) (n : Nat) (ho hs : Nat → Nat → Nat) (hr : Nat → Nat → Nat → Nat) (hm : Nat → Nat) (kp nx : Nat) (j : Nat) (hn : n ≤ 12) (hj : j < n) (hk : kp ≤ 6) (hx : nx < 6) : Met l yX4_drop wsX4_drop ({ frames := 3, cells := 0, slots := 0, locals := 103 } : Room) (zPre g [.ref (x 0), .int (nI j)] [wX g x bd tr q p h sb sv, wB g bd st r n, wH g h ho kp nx, wB g (ho 0) (hs 0) (hr 0) (hm 0), wB g (ho 1) (hs 1) (hr 1) (hm 1), wB g (ho 2) (hs 2) (hr 2) (hm 2), wB g (ho 3) (hs 3) (hr 3) (hm 3), wB g (ho 4) (hs 4) (hr 4) (hm 4), wB g (ho 5) (hs 5) (hr 5) (hm 5)]) (zQ g (fun _ : Unit => some (.int (nI (n - 1))) ) (fun _ : Unit => True) (fun _ : Unit => [wX g x bd tr q p h sb sv, wB g bd st (fun k => shf (r k) j (n - 1)) (n - 1), wH g h ho (min (kp + 1) 6) (if nx = 5 then 0 else nx + 1), wB g (ho 0) ((un hs nx st) 0) ((un hr nx r) 0) ((un hm nx n) 0), wB g (ho 1) ((un hs nx st) 1) ((un hr nx r) 1) ((un hm nx n) 1), wB g (ho 2) ((un hs nx st) 2) ((un hr nx r) 2) ((un hm nx n) 2), wB g (ho 3) ((un hs nx st) 3) ((un hr nx r) 3) ((un hm nx n) 3), wB g (ho 4) ((un hs nx st) 4) ((un hr nx r) 4) ((un hm nx n) 4), wB g (ho 5) ((un hs nx st) 5) ((un hr nx r) 5) ((un hm nx n) 5)]) (zA [wX g x bd tr q p h sb sv, wB g bd st r n, wH g h ho kp nx, wB g (ho 0) (hs 0) (hr 0) (hm 0), wB g (ho 1) (hs 1) (hr 1) (hm 1), wB g (ho 2) (hs 2) (hr 2) (hm 2), wB g (ho 3) (hs 3) (hr 3) (hm 3), wB g (ho 4) (hs 4) (hr 4) (hm 4), wB g (ho 5) (hs 5) (hr 5) (hm 5)])) 0 0 (zA [wX g x bd tr q p h sb sv, wB g bd st r n, wH g h ho kp nx, wB g (ho 0) (hs 0) (hr 0) (hm 0), wB g (ho 1) (hs 1) (hr 1) (hm 1), wB g (ho 2) (hs 2) (hr 2) (hm 2), wB g (ho 3) (hs 3) (hr 3) (hm 3), wB g (ho 4) (hs 4) (hr 4) (hm 4), wB g (ho 5) (hs 5) (hr 5) (hm 5)]) := by
  refine z_entry (cc := cX4_drop) (maxL := 2) (ret := (some .int)) (own := RX4) (by decide) rfl rfl (Nat.le_of_ble_eq_true rfl) [(0, .ref (x 0)), (1, .int (nI j))] rfl ?_
  intro K hKl hKg hnL C hRx
  subst hKl
  subst hKg
  refine z_aload_n C 0 rfl rfl dX4_drop_0 1 rfl ?_
  refine z_iload_n C 1 rfl rfl dX4_drop_1 2 rfl ?_
  refine z_callV C [.int (nI j)] [] (tX4_isJob K.l K.g x bd tr q p h sb sv st r n (nI j) (by first | omega | assumption)) gX4_drop_X4_isJob rfl rfl rfl hdX4_isJob ⟨Nat.le_of_ble_eq_true rfl, Nat.le_of_ble_eq_true rfl⟩ ⟨Nat.zero_le _, Nat.zero_le _⟩ 0 0 rfl rfl rfl [0, 1] rfl rfl (zlc (N := 9) rfl rfl) [9, 10, 2, 3, 4, 5, 6, 7, 8] rfl (by decide) (fun _ : Unit => [wX K.g x bd tr q p h sb sv, wB K.g bd st r n, wH K.g h ho kp nx, wB K.g (ho 0) (hs 0) (hr 0) (hm 0), wB K.g (ho 1) (hs 1) (hr 1) (hm 1), wB K.g (ho 2) (hs 2) (hr 2) (hm 2), wB K.g (ho 3) (hs 3) (hr 3) (hm 3), wB K.g (ho 4) (hs 4) (hr 4) (hm 4), wB K.g (ho 5) (hs 5) (hr 5) (hm 5)]) (fun _ => rfl) rfl rfl (Nat.le_of_ble_eq_true rfl) dX4_drop_2 5 rfl (fun u9 hu9 => ?_)
  show Z K 0 0 [wX K.g x bd tr q p h sb sv, wB K.g bd st r n, wH K.g h ho kp nx, wB K.g (ho 0) (hs 0) (hr 0) (hm 0), wB K.g (ho 1) (hs 1) (hr 1) (hm 1), wB K.g (ho 2) (hs 2) (hr 2) (hm 2), wB K.g (ho 3) (hs 3) (hr 3) (hm 3), wB K.g (ho 4) (hs 4) (hr 4) (hm 4), wB K.g (ho 5) (hs 5) (hr 5) (hm 5)] [(0, .ref (x 0)), (1, .int (nI j))] 5 [.int (bI (isJ (nI j) n))]
  refine z_ifb_ne C 10 dX4_drop_5 (by decide) 8 rfl (fun c_1 => ?_) (fun c_1 => ?_)
  rotate_left
  · exfalso; rw [isJ_t (by omega) (by omega)] at c_1; exact Bool.noConfusion c_1
  refine z_aload_n C 0 rfl rfl dX4_drop_10 11 rfl ?_
  refine z_get C zc4 iX4_drop_X4 0 0 rfl rfl 4 (Nat.le_of_ble_eq_true rfl) (List.mem_of_getElem? (i := 1) rfl) (v := .ref (h 0)) rfl dX4_drop_11 14 rfl ?_
  refine z_aload_n C 0 rfl rfl dX4_drop_14 15 rfl ?_
  refine z_get C zc4 iX4_drop_X4 0 0 rfl rfl 0 (Nat.le_of_ble_eq_true rfl) (List.mem_of_getElem? (i := 2) rfl) (v := .ref (bd 0)) rfl dX4_drop_15 18 rfl ?_
  refine z_callV C [.ref (bd 0)] [] (tX1_remember K.l K.g h ho hs hr hm kp nx bd st r n (by first | omega | assumption) (by first | omega | assumption)) gX4_drop_X1_remember rfl rfl rfl hdX1_remember ⟨Nat.le_of_ble_eq_true rfl, Nat.le_of_ble_eq_true rfl⟩ ⟨Nat.zero_le _, Nat.zero_le _⟩ 2 0 rfl rfl rfl [2, 3, 4, 5, 6, 7, 8, 1] rfl rfl (zlc (N := 9) rfl rfl) [0, 16, 9, 10, 11, 12, 13, 14, 15] rfl (by decide) (fun _ : Unit => [wX K.g x bd tr q p h sb sv, wB K.g bd st r n, wH K.g h ho (min (kp + 1) 6) (if nx = 5 then 0 else nx + 1), wB K.g (ho 0) ((un hs nx st) 0) ((un hr nx r) 0) ((un hm nx n) 0), wB K.g (ho 1) ((un hs nx st) 1) ((un hr nx r) 1) ((un hm nx n) 1), wB K.g (ho 2) ((un hs nx st) 2) ((un hr nx r) 2) ((un hm nx n) 2), wB K.g (ho 3) ((un hs nx st) 3) ((un hr nx r) 3) ((un hm nx n) 3), wB K.g (ho 4) ((un hs nx st) 4) ((un hr nx r) 4) ((un hm nx n) 4), wB K.g (ho 5) ((un hs nx st) 5) ((un hr nx r) 5) ((un hm nx n) 5)]) (fun _ => rfl) rfl rfl (Nat.le_of_ble_eq_true rfl) dX4_drop_18 21 rfl (fun u9 hu9 => ?_)
  show Z K 0 0 [wX K.g x bd tr q p h sb sv, wB K.g bd st r n, wH K.g h ho (min (kp + 1) 6) (if nx = 5 then 0 else nx + 1), wB K.g (ho 0) ((un hs nx st) 0) ((un hr nx r) 0) ((un hm nx n) 0), wB K.g (ho 1) ((un hs nx st) 1) ((un hr nx r) 1) ((un hm nx n) 1), wB K.g (ho 2) ((un hs nx st) 2) ((un hr nx r) 2) ((un hm nx n) 2), wB K.g (ho 3) ((un hs nx st) 3) ((un hr nx r) 3) ((un hm nx n) 3), wB K.g (ho 4) ((un hs nx st) 4) ((un hr nx r) 4) ((un hm nx n) 4), wB K.g (ho 5) ((un hs nx st) 5) ((un hr nx r) 5) ((un hm nx n) 5)] [(0, .ref (x 0)), (1, .int (nI j))] 21 []
  refine z_aload_n C 0 rfl rfl dX4_drop_21 22 rfl ?_
  refine z_get C zc4 iX4_drop_X4 0 0 rfl rfl 0 (Nat.le_of_ble_eq_true rfl) (List.mem_of_getElem? (i := 2) rfl) (v := .ref (bd 0)) rfl dX4_drop_22 25 rfl ?_
  refine z_iload_n C 1 rfl rfl dX4_drop_25 26 rfl ?_
  refine z_callV C [.int (nI j)] [] (tX0_remove K.l K.g bd st r n j (by first | omega | assumption) (by first | omega | assumption)) gX4_drop_X0_remove rfl rfl rfl hdX0_remove ⟨Nat.le_of_ble_eq_true rfl, Nat.le_of_ble_eq_true rfl⟩ ⟨Nat.zero_le _, Nat.zero_le _⟩ 1 0 rfl rfl rfl [1] rfl rfl (zlc (N := 9) rfl rfl) [0, 9, 2, 3, 4, 5, 6, 7, 8] rfl (by decide) (fun _ : Unit => [wX K.g x bd tr q p h sb sv, wB K.g bd st (fun k => shf (r k) j (n - 1)) (n - 1), wH K.g h ho (min (kp + 1) 6) (if nx = 5 then 0 else nx + 1), wB K.g (ho 0) ((un hs nx st) 0) ((un hr nx r) 0) ((un hm nx n) 0), wB K.g (ho 1) ((un hs nx st) 1) ((un hr nx r) 1) ((un hm nx n) 1), wB K.g (ho 2) ((un hs nx st) 2) ((un hr nx r) 2) ((un hm nx n) 2), wB K.g (ho 3) ((un hs nx st) 3) ((un hr nx r) 3) ((un hm nx n) 3), wB K.g (ho 4) ((un hs nx st) 4) ((un hr nx r) 4) ((un hm nx n) 4), wB K.g (ho 5) ((un hs nx st) 5) ((un hr nx r) 5) ((un hm nx n) 5)]) (fun _ => rfl) rfl rfl (Nat.le_of_ble_eq_true rfl) dX4_drop_26 29 rfl (fun u9 hu9 => ?_)
  show Z K 0 0 [wX K.g x bd tr q p h sb sv, wB K.g bd st (fun k => shf (r k) j (n - 1)) (n - 1), wH K.g h ho (min (kp + 1) 6) (if nx = 5 then 0 else nx + 1), wB K.g (ho 0) ((un hs nx st) 0) ((un hr nx r) 0) ((un hm nx n) 0), wB K.g (ho 1) ((un hs nx st) 1) ((un hr nx r) 1) ((un hm nx n) 1), wB K.g (ho 2) ((un hs nx st) 2) ((un hr nx r) 2) ((un hm nx n) 2), wB K.g (ho 3) ((un hs nx st) 3) ((un hr nx r) 3) ((un hm nx n) 3), wB K.g (ho 4) ((un hs nx st) 4) ((un hr nx r) 4) ((un hm nx n) 4), wB K.g (ho 5) ((un hs nx st) 5) ((un hr nx r) 5) ((un hm nx n) 5)] [(0, .ref (x 0)), (1, .int (nI j))] 29 []
  refine z_aload_n C 0 rfl rfl dX4_drop_29 30 rfl ?_
  refine z_get C zc4 iX4_drop_X4 0 0 rfl rfl 0 (Nat.le_of_ble_eq_true rfl) (List.mem_of_getElem? (i := 2) rfl) (v := .ref (bd 0)) rfl dX4_drop_30 33 rfl ?_
  refine z_get C zc0 iX4_drop_X0 1 0 rfl rfl 2 (Nat.le_of_ble_eq_true rfl) (List.mem_of_getElem? (i := 3) rfl) (v := .int (nI (n - 1))) rfl dX4_drop_33 36 rfl ?_
  exact z_iret C hRx dX4_drop_36 () rfl trivial rfl

set_option maxHeartbeats 4000000 in
set_option maxRecDepth 100000 in
theorem tX4_move_ns (l : Launch) (g : zG) (x bd tr q p h : Nat → Nat) (sb : Nat → Nat → Nat) (sv : Nat → Bool) (st : Nat → Nat) (r : Nat → Nat → Nat) (n : Nat) (v w : Int32) (hn : n ≤ 12) (hb : (isJ v n && isJ w n) = false) : Met l yX4_move wsX4_move ({ frames := 5, cells := 0, slots := 0, locals := 115 } : Room) (zPre g [.ref (x 0), .int v, .int w] [wX g x bd tr q p h sb sv, wB g bd st r n]) (zQ g (fun _ : Unit => some (.int (-1)) ) (fun _ : Unit => True) (fun _ : Unit => [wX g x bd tr q p h sb sv, wB g bd st r n]) (zA [wX g x bd tr q p h sb sv, wB g bd st r n])) 0 0 (zA [wX g x bd tr q p h sb sv, wB g bd st r n]) := by
  refine z_entry (cc := cX4_move) (maxL := 3) (ret := (some .int)) (own := RX4) (by decide) rfl rfl (Nat.le_of_ble_eq_true rfl) [(0, .ref (x 0)), (1, .int v), (2, .int w)] rfl ?_
  intro K hKl hKg hnL C hRx
  subst hKl
  subst hKg
  refine z_aload_n C 0 rfl rfl dX4_move_0 1 rfl ?_
  refine z_iload_n C 1 rfl rfl dX4_move_1 2 rfl ?_
  refine z_callV C [.int v] [] (tX4_isJob K.l K.g x bd tr q p h sb sv st r n v (by first | omega | assumption)) gX4_move_X4_isJob rfl rfl rfl hdX4_isJob ⟨Nat.le_of_ble_eq_true rfl, Nat.le_of_ble_eq_true rfl⟩ ⟨Nat.zero_le _, Nat.zero_le _⟩ 0 0 rfl rfl rfl [0, 1] rfl rfl (zlc (N := 2) rfl rfl) [2, 3] rfl (by decide) (fun _ : Unit => [wX K.g x bd tr q p h sb sv, wB K.g bd st r n]) (fun _ => rfl) rfl rfl (Nat.le_of_ble_eq_true rfl) dX4_move_2 5 rfl (fun u9 hu9 => ?_)
  show Z K 0 0 [wX K.g x bd tr q p h sb sv, wB K.g bd st r n] [(0, .ref (x 0)), (1, .int v), (2, .int w)] 5 [.int (bI (isJ v n))]
  refine z_ifb_eq C 16 dX4_move_5 (by decide) 8 rfl (fun c_1 => ?_) (fun c_1 => ?_)
  · skip
    refine z_iconst C (v := (-1)) rfl dX4_move_16 17 rfl ?_
    exact z_iret C hRx dX4_move_17 () rfl trivial rfl
  · skip
    refine z_aload_n C 0 rfl rfl dX4_move_8 9 rfl ?_
    refine z_iload_n C 2 rfl rfl dX4_move_9 10 rfl ?_
    refine z_callV C [.int w] [] (tX4_isJob K.l K.g x bd tr q p h sb sv st r n w (by first | omega | assumption)) gX4_move_X4_isJob rfl rfl rfl hdX4_isJob ⟨Nat.le_of_ble_eq_true rfl, Nat.le_of_ble_eq_true rfl⟩ ⟨Nat.zero_le _, Nat.zero_le _⟩ 0 0 rfl rfl rfl [0, 1] rfl rfl (zlc (N := 2) rfl rfl) [2, 3] rfl (by decide) (fun _ : Unit => [wX K.g x bd tr q p h sb sv, wB K.g bd st r n]) (fun _ => rfl) rfl rfl (Nat.le_of_ble_eq_true rfl) dX4_move_10 13 rfl (fun u9 hu9 => ?_)
    show Z K 0 0 [wX K.g x bd tr q p h sb sv, wB K.g bd st r n] [(0, .ref (x 0)), (1, .int v), (2, .int w)] 13 [.int (bI (isJ w n))]
    refine z_ifb_ne C 18 dX4_move_13 (by decide) 16 rfl (fun c_2 => ?_) (fun c_2 => ?_)
    · exfalso; simp_all
    refine z_iconst C (v := (-1)) rfl dX4_move_16 17 rfl ?_
    exact z_iret C hRx dX4_move_17 () rfl trivial rfl

theorem iX4_move_X4 : ∀ w ∈ u_ws RX4 TX4 7, w ∈ wsX4_move := fun w h => (List.mem_cons_of_mem _ (List.mem_append_left _ (List.mem_append_left _ (List.mem_append_left _ (List.mem_append_right _ h)))))
set_option maxHeartbeats 4000000 in
set_option maxRecDepth 100000 in
theorem tX4_move_ok (l : Launch) (g : zG) (x bd tr q p h : Nat → Nat) (sb : Nat → Nat → Nat) (sv : Nat → Bool) (a0 a1 a2 a3 a4 a5 a6 a7 : Nat → Nat) (s0 s1 s2 s3 s4 s5 s6 s7 s8 s9 : Nat) (st : Nat → Nat) (r : Nat → Nat → Nat) (n : Nat) (ho hs : Nat → Nat → Nat) (hr : Nat → Nat → Nat → Nat) (hm : Nat → Nat) (kp nx : Nat) (j w : Nat) (hn : n ≤ 12) (hS : okS st) (hJ : okJ r n) (hR : okR st r n (st 5)) (hj : j < n) (hw : w < n) (hk : kp ≤ 6) (hx : nx < 6) : Met l yX4_move wsX4_move ({ frames := 5, cells := 0, slots := 0, locals := 115 } : Room) (zPre g [.ref (x 0), .int (nI j), .int (nI w)] [wX g x bd tr q p h sb sv, wP g q a0 a1 a2 a3 a4 a5 a6 a7 s0 s1 s2 s3 s4 s5 s6 s7 s8 s9, wB g bd st r n, wH g h ho kp nx, wB g (ho 0) (hs 0) (hr 0) (hm 0), wB g (ho 1) (hs 1) (hr 1) (hm 1), wB g (ho 2) (hs 2) (hr 2) (hm 2), wB g (ho 3) (hs 3) (hr 3) (hm 3), wB g (ho 4) (hs 4) (hr 4) (hm 4), wB g (ho 5) (hs 5) (hr 5) (hm 5)]) (zQ g (fun u : (Nat → Nat) × (Nat → Nat) × (Nat → Nat) × (Nat → Nat) × (Nat → Nat) × (Nat → Nat) × (Nat → Nat) × (Nat → Nat) × (Nat) × (Nat) × (Nat) × (Nat) × (Nat) × (Nat) × (Nat) × (Nat) × (Nat) => match u with | (c0, c1, c2, c3, c4, c5, c6, c7, d1, d2, d3, d4, d5, d6, d7, d8, d9) => some (.int (nI (LSm st (fun k => shf (r k) j w) (st 5) n))) ) (fun u : (Nat → Nat) × (Nat → Nat) × (Nat → Nat) × (Nat → Nat) × (Nat → Nat) × (Nat → Nat) × (Nat → Nat) × (Nat → Nat) × (Nat) × (Nat) × (Nat) × (Nat) × (Nat) × (Nat) × (Nat) × (Nat) × (Nat) => match u with | (c0, c1, c2, c3, c4, c5, c6, c7, d1, d2, d3, d4, d5, d6, d7, d8, d9) => True) (fun u : (Nat → Nat) × (Nat → Nat) × (Nat → Nat) × (Nat → Nat) × (Nat → Nat) × (Nat → Nat) × (Nat → Nat) × (Nat → Nat) × (Nat) × (Nat) × (Nat) × (Nat) × (Nat) × (Nat) × (Nat) × (Nat) × (Nat) => match u with | (c0, c1, c2, c3, c4, c5, c6, c7, d1, d2, d3, d4, d5, d6, d7, d8, d9) => [wX g x bd tr q p h sb sv, wP g q c0 c1 c2 c3 c4 c5 c6 c7 n d1 d2 d3 d4 d5 d6 d7 d8 d9, wB g bd st (fun k => shf (r k) j w) n, wH g h ho (min (kp + 1) 6) (if nx = 5 then 0 else nx + 1), wB g (ho 0) ((un hs nx st) 0) ((un hr nx r) 0) ((un hm nx n) 0), wB g (ho 1) ((un hs nx st) 1) ((un hr nx r) 1) ((un hm nx n) 1), wB g (ho 2) ((un hs nx st) 2) ((un hr nx r) 2) ((un hm nx n) 2), wB g (ho 3) ((un hs nx st) 3) ((un hr nx r) 3) ((un hm nx n) 3), wB g (ho 4) ((un hs nx st) 4) ((un hr nx r) 4) ((un hm nx n) 4), wB g (ho 5) ((un hs nx st) 5) ((un hr nx r) 5) ((un hm nx n) 5)]) (zA [wX g x bd tr q p h sb sv, wP g q a0 a1 a2 a3 a4 a5 a6 a7 s0 s1 s2 s3 s4 s5 s6 s7 s8 s9, wB g bd st r n, wH g h ho kp nx, wB g (ho 0) (hs 0) (hr 0) (hm 0), wB g (ho 1) (hs 1) (hr 1) (hm 1), wB g (ho 2) (hs 2) (hr 2) (hm 2), wB g (ho 3) (hs 3) (hr 3) (hm 3), wB g (ho 4) (hs 4) (hr 4) (hm 4), wB g (ho 5) (hs 5) (hr 5) (hm 5)])) 0 0 (zA [wX g x bd tr q p h sb sv, wP g q a0 a1 a2 a3 a4 a5 a6 a7 s0 s1 s2 s3 s4 s5 s6 s7 s8 s9, wB g bd st r n, wH g h ho kp nx, wB g (ho 0) (hs 0) (hr 0) (hm 0), wB g (ho 1) (hs 1) (hr 1) (hm 1), wB g (ho 2) (hs 2) (hr 2) (hm 2), wB g (ho 3) (hs 3) (hr 3) (hm 3), wB g (ho 4) (hs 4) (hr 4) (hm 4), wB g (ho 5) (hs 5) (hr 5) (hm 5)]) := by
  refine z_entry (cc := cX4_move) (maxL := 3) (ret := (some .int)) (own := RX4) (by decide) rfl rfl (Nat.le_of_ble_eq_true rfl) [(0, .ref (x 0)), (1, .int (nI j)), (2, .int (nI w))] rfl ?_
  intro K hKl hKg hnL C hRx
  subst hKl
  subst hKg
  refine z_aload_n C 0 rfl rfl dX4_move_0 1 rfl ?_
  refine z_iload_n C 1 rfl rfl dX4_move_1 2 rfl ?_
  refine z_callV C [.int (nI j)] [] (tX4_isJob K.l K.g x bd tr q p h sb sv st r n (nI j) (by first | omega | assumption)) gX4_move_X4_isJob rfl rfl rfl hdX4_isJob ⟨Nat.le_of_ble_eq_true rfl, Nat.le_of_ble_eq_true rfl⟩ ⟨Nat.zero_le _, Nat.zero_le _⟩ 0 0 rfl rfl rfl [0, 2] rfl rfl (zlc (N := 10) rfl rfl) [10, 1, 11, 3, 4, 5, 6, 7, 8, 9] rfl (by decide) (fun _ : Unit => [wX K.g x bd tr q p h sb sv, wP K.g q a0 a1 a2 a3 a4 a5 a6 a7 s0 s1 s2 s3 s4 s5 s6 s7 s8 s9, wB K.g bd st r n, wH K.g h ho kp nx, wB K.g (ho 0) (hs 0) (hr 0) (hm 0), wB K.g (ho 1) (hs 1) (hr 1) (hm 1), wB K.g (ho 2) (hs 2) (hr 2) (hm 2), wB K.g (ho 3) (hs 3) (hr 3) (hm 3), wB K.g (ho 4) (hs 4) (hr 4) (hm 4), wB K.g (ho 5) (hs 5) (hr 5) (hm 5)]) (fun _ => rfl) rfl rfl (Nat.le_of_ble_eq_true rfl) dX4_move_2 5 rfl (fun u9 hu9 => ?_)
  show Z K 0 0 [wX K.g x bd tr q p h sb sv, wP K.g q a0 a1 a2 a3 a4 a5 a6 a7 s0 s1 s2 s3 s4 s5 s6 s7 s8 s9, wB K.g bd st r n, wH K.g h ho kp nx, wB K.g (ho 0) (hs 0) (hr 0) (hm 0), wB K.g (ho 1) (hs 1) (hr 1) (hm 1), wB K.g (ho 2) (hs 2) (hr 2) (hm 2), wB K.g (ho 3) (hs 3) (hr 3) (hm 3), wB K.g (ho 4) (hs 4) (hr 4) (hm 4), wB K.g (ho 5) (hs 5) (hr 5) (hm 5)] [(0, .ref (x 0)), (1, .int (nI j)), (2, .int (nI w))] 5 [.int (bI (isJ (nI j) n))]
  refine z_ifb_eq C 16 dX4_move_5 (by decide) 8 rfl (fun c_1 => ?_) (fun c_1 => ?_)
  · exfalso; rw [isJ_t (by omega) (by omega)] at c_1; exact Bool.noConfusion c_1
  refine z_aload_n C 0 rfl rfl dX4_move_8 9 rfl ?_
  refine z_iload_n C 2 rfl rfl dX4_move_9 10 rfl ?_
  refine z_callV C [.int (nI w)] [] (tX4_isJob K.l K.g x bd tr q p h sb sv st r n (nI w) (by first | omega | assumption)) gX4_move_X4_isJob rfl rfl rfl hdX4_isJob ⟨Nat.le_of_ble_eq_true rfl, Nat.le_of_ble_eq_true rfl⟩ ⟨Nat.zero_le _, Nat.zero_le _⟩ 0 0 rfl rfl rfl [0, 2] rfl rfl (zlc (N := 10) rfl rfl) [10, 1, 11, 3, 4, 5, 6, 7, 8, 9] rfl (by decide) (fun _ : Unit => [wX K.g x bd tr q p h sb sv, wP K.g q a0 a1 a2 a3 a4 a5 a6 a7 s0 s1 s2 s3 s4 s5 s6 s7 s8 s9, wB K.g bd st r n, wH K.g h ho kp nx, wB K.g (ho 0) (hs 0) (hr 0) (hm 0), wB K.g (ho 1) (hs 1) (hr 1) (hm 1), wB K.g (ho 2) (hs 2) (hr 2) (hm 2), wB K.g (ho 3) (hs 3) (hr 3) (hm 3), wB K.g (ho 4) (hs 4) (hr 4) (hm 4), wB K.g (ho 5) (hs 5) (hr 5) (hm 5)]) (fun _ => rfl) rfl rfl (Nat.le_of_ble_eq_true rfl) dX4_move_10 13 rfl (fun u9 hu9 => ?_)
  show Z K 0 0 [wX K.g x bd tr q p h sb sv, wP K.g q a0 a1 a2 a3 a4 a5 a6 a7 s0 s1 s2 s3 s4 s5 s6 s7 s8 s9, wB K.g bd st r n, wH K.g h ho kp nx, wB K.g (ho 0) (hs 0) (hr 0) (hm 0), wB K.g (ho 1) (hs 1) (hr 1) (hm 1), wB K.g (ho 2) (hs 2) (hr 2) (hm 2), wB K.g (ho 3) (hs 3) (hr 3) (hm 3), wB K.g (ho 4) (hs 4) (hr 4) (hm 4), wB K.g (ho 5) (hs 5) (hr 5) (hm 5)] [(0, .ref (x 0)), (1, .int (nI j)), (2, .int (nI w))] 13 [.int (bI (isJ (nI w) n))]
  refine z_ifb_ne C 18 dX4_move_13 (by decide) 16 rfl (fun c_2 => ?_) (fun c_2 => ?_)
  rotate_left
  · exfalso; rw [isJ_t (by omega) (by omega)] at c_2; exact Bool.noConfusion c_2
  refine z_aload_n C 0 rfl rfl dX4_move_18 19 rfl ?_
  refine z_get C zc4 iX4_move_X4 0 0 rfl rfl 4 (Nat.le_of_ble_eq_true rfl) (List.mem_of_getElem? (i := 1) rfl) (v := .ref (h 0)) rfl dX4_move_19 22 rfl ?_
  refine z_aload_n C 0 rfl rfl dX4_move_22 23 rfl ?_
  refine z_get C zc4 iX4_move_X4 0 0 rfl rfl 0 (Nat.le_of_ble_eq_true rfl) (List.mem_of_getElem? (i := 2) rfl) (v := .ref (bd 0)) rfl dX4_move_23 26 rfl ?_
  refine z_callV C [.ref (bd 0)] [] (tX1_remember K.l K.g h ho hs hr hm kp nx bd st r n (by first | omega | assumption) (by first | omega | assumption)) gX4_move_X1_remember rfl rfl rfl hdX1_remember ⟨Nat.le_of_ble_eq_true rfl, Nat.le_of_ble_eq_true rfl⟩ ⟨Nat.zero_le _, Nat.zero_le _⟩ 3 0 rfl rfl rfl [3, 4, 5, 6, 7, 8, 9, 2] rfl rfl (zlc (N := 10) rfl rfl) [0, 1, 17, 10, 11, 12, 13, 14, 15, 16] rfl (by decide) (fun _ : Unit => [wX K.g x bd tr q p h sb sv, wP K.g q a0 a1 a2 a3 a4 a5 a6 a7 s0 s1 s2 s3 s4 s5 s6 s7 s8 s9, wB K.g bd st r n, wH K.g h ho (min (kp + 1) 6) (if nx = 5 then 0 else nx + 1), wB K.g (ho 0) ((un hs nx st) 0) ((un hr nx r) 0) ((un hm nx n) 0), wB K.g (ho 1) ((un hs nx st) 1) ((un hr nx r) 1) ((un hm nx n) 1), wB K.g (ho 2) ((un hs nx st) 2) ((un hr nx r) 2) ((un hm nx n) 2), wB K.g (ho 3) ((un hs nx st) 3) ((un hr nx r) 3) ((un hm nx n) 3), wB K.g (ho 4) ((un hs nx st) 4) ((un hr nx r) 4) ((un hm nx n) 4), wB K.g (ho 5) ((un hs nx st) 5) ((un hr nx r) 5) ((un hm nx n) 5)]) (fun _ => rfl) rfl rfl (Nat.le_of_ble_eq_true rfl) dX4_move_26 29 rfl (fun u9 hu9 => ?_)
  show Z K 0 0 [wX K.g x bd tr q p h sb sv, wP K.g q a0 a1 a2 a3 a4 a5 a6 a7 s0 s1 s2 s3 s4 s5 s6 s7 s8 s9, wB K.g bd st r n, wH K.g h ho (min (kp + 1) 6) (if nx = 5 then 0 else nx + 1), wB K.g (ho 0) ((un hs nx st) 0) ((un hr nx r) 0) ((un hm nx n) 0), wB K.g (ho 1) ((un hs nx st) 1) ((un hr nx r) 1) ((un hm nx n) 1), wB K.g (ho 2) ((un hs nx st) 2) ((un hr nx r) 2) ((un hm nx n) 2), wB K.g (ho 3) ((un hs nx st) 3) ((un hr nx r) 3) ((un hm nx n) 3), wB K.g (ho 4) ((un hs nx st) 4) ((un hr nx r) 4) ((un hm nx n) 4), wB K.g (ho 5) ((un hs nx st) 5) ((un hr nx r) 5) ((un hm nx n) 5)] [(0, .ref (x 0)), (1, .int (nI j)), (2, .int (nI w))] 29 []
  refine z_aload_n C 0 rfl rfl dX4_move_29 30 rfl ?_
  refine z_get C zc4 iX4_move_X4 0 0 rfl rfl 0 (Nat.le_of_ble_eq_true rfl) (List.mem_of_getElem? (i := 2) rfl) (v := .ref (bd 0)) rfl dX4_move_30 33 rfl ?_
  refine z_iload_n C 1 rfl rfl dX4_move_33 34 rfl ?_
  refine z_iload_n C 2 rfl rfl dX4_move_34 35 rfl ?_
  refine z_callV C [.int (nI j), .int (nI w)] [] (tX0_shift K.l K.g bd st r n j w (by first | omega | assumption) (by first | omega | assumption)) gX4_move_X0_shift rfl rfl rfl hdX0_shift ⟨Nat.le_of_ble_eq_true rfl, Nat.le_of_ble_eq_true rfl⟩ ⟨Nat.zero_le _, Nat.zero_le _⟩ 2 0 rfl rfl rfl [2] rfl rfl (zlc (N := 10) rfl rfl) [0, 1, 10, 3, 4, 5, 6, 7, 8, 9] rfl (by decide) (fun _ : Unit => [wX K.g x bd tr q p h sb sv, wP K.g q a0 a1 a2 a3 a4 a5 a6 a7 s0 s1 s2 s3 s4 s5 s6 s7 s8 s9, wB K.g bd st (fun k => shf (r k) j w) n, wH K.g h ho (min (kp + 1) 6) (if nx = 5 then 0 else nx + 1), wB K.g (ho 0) ((un hs nx st) 0) ((un hr nx r) 0) ((un hm nx n) 0), wB K.g (ho 1) ((un hs nx st) 1) ((un hr nx r) 1) ((un hm nx n) 1), wB K.g (ho 2) ((un hs nx st) 2) ((un hr nx r) 2) ((un hm nx n) 2), wB K.g (ho 3) ((un hs nx st) 3) ((un hr nx r) 3) ((un hm nx n) 3), wB K.g (ho 4) ((un hs nx st) 4) ((un hr nx r) 4) ((un hm nx n) 4), wB K.g (ho 5) ((un hs nx st) 5) ((un hr nx r) 5) ((un hm nx n) 5)]) (fun _ => rfl) rfl rfl (Nat.le_of_ble_eq_true rfl) dX4_move_35 38 rfl (fun u9 hu9 => ?_)
  show Z K 0 0 [wX K.g x bd tr q p h sb sv, wP K.g q a0 a1 a2 a3 a4 a5 a6 a7 s0 s1 s2 s3 s4 s5 s6 s7 s8 s9, wB K.g bd st (fun k => shf (r k) j w) n, wH K.g h ho (min (kp + 1) 6) (if nx = 5 then 0 else nx + 1), wB K.g (ho 0) ((un hs nx st) 0) ((un hr nx r) 0) ((un hm nx n) 0), wB K.g (ho 1) ((un hs nx st) 1) ((un hr nx r) 1) ((un hm nx n) 1), wB K.g (ho 2) ((un hs nx st) 2) ((un hr nx r) 2) ((un hm nx n) 2), wB K.g (ho 3) ((un hs nx st) 3) ((un hr nx r) 3) ((un hm nx n) 3), wB K.g (ho 4) ((un hs nx st) 4) ((un hr nx r) 4) ((un hm nx n) 4), wB K.g (ho 5) ((un hs nx st) 5) ((un hr nx r) 5) ((un hm nx n) 5)] [(0, .ref (x 0)), (1, .int (nI j)), (2, .int (nI w))] 38 []
  refine z_aload_n C 0 rfl rfl dX4_move_38 39 rfl ?_
  refine z_aload_n C 0 rfl rfl dX4_move_39 40 rfl ?_
  refine z_get C zc4 iX4_move_X4 0 0 rfl rfl 0 (Nat.le_of_ble_eq_true rfl) (List.mem_of_getElem? (i := 2) rfl) (v := .ref (bd 0)) rfl dX4_move_40 43 rfl ?_
  refine z_callV C [.ref (bd 0)] [] (tX4_lateSumOf K.l K.g x bd tr q p h sb sv a0 a1 a2 a3 a4 a5 a6 a7 s0 s1 s2 s3 s4 s5 s6 s7 s8 s9 bd st (fun k => shf (r k) j w) n hn hS (okJ_shf hj hw hJ) (okR_shf hj hw hR)) gX4_move_X4_lateSumOf rfl rfl rfl hdX4_lateSumOf ⟨Nat.le_of_ble_eq_true rfl, Nat.le_of_ble_eq_true rfl⟩ ⟨Nat.zero_le _, Nat.zero_le _⟩ 0 0 rfl rfl rfl [0, 1, 2] rfl rfl (zlc (N := 10) rfl rfl) [10, 11, 12, 3, 4, 5, 6, 7, 8, 9] rfl (by decide) (fun u : (Nat → Nat) × (Nat → Nat) × (Nat → Nat) × (Nat → Nat) × (Nat → Nat) × (Nat → Nat) × (Nat → Nat) × (Nat → Nat) × (Nat) × (Nat) × (Nat) × (Nat) × (Nat) × (Nat) × (Nat) × (Nat) × (Nat) => match u with | (c0, c1, c2, c3, c4, c5, c6, c7, d1, d2, d3, d4, d5, d6, d7, d8, d9) => [wX K.g x bd tr q p h sb sv, wP K.g q c0 c1 c2 c3 c4 c5 c6 c7 n d1 d2 d3 d4 d5 d6 d7 d8 d9, wB K.g bd st (fun k => shf (r k) j w) n, wH K.g h ho (min (kp + 1) 6) (if nx = 5 then 0 else nx + 1), wB K.g (ho 0) ((un hs nx st) 0) ((un hr nx r) 0) ((un hm nx n) 0), wB K.g (ho 1) ((un hs nx st) 1) ((un hr nx r) 1) ((un hm nx n) 1), wB K.g (ho 2) ((un hs nx st) 2) ((un hr nx r) 2) ((un hm nx n) 2), wB K.g (ho 3) ((un hs nx st) 3) ((un hr nx r) 3) ((un hm nx n) 3), wB K.g (ho 4) ((un hs nx st) 4) ((un hr nx r) 4) ((un hm nx n) 4), wB K.g (ho 5) ((un hs nx st) 5) ((un hr nx r) 5) ((un hm nx n) 5)]) (fun _ => rfl) rfl rfl (Nat.le_of_ble_eq_true rfl) dX4_move_43 46 rfl (fun u9 hu9 => ?_)
  obtain ⟨c0, c1, c2, c3, c4, c5, c6, c7, d1, d2, d3, d4, d5, d6, d7, d8, d9⟩ := u9
  have hls_3 := hu9
  have hls_3 : LSm st (fun k => shf (r k) j w) (st 5) n ≤ 1000000 := hls_3
  show Z K 0 0 [wX K.g x bd tr q p h sb sv, wP K.g q c0 c1 c2 c3 c4 c5 c6 c7 n d1 d2 d3 d4 d5 d6 d7 d8 d9, wB K.g bd st (fun k => shf (r k) j w) n, wH K.g h ho (min (kp + 1) 6) (if nx = 5 then 0 else nx + 1), wB K.g (ho 0) ((un hs nx st) 0) ((un hr nx r) 0) ((un hm nx n) 0), wB K.g (ho 1) ((un hs nx st) 1) ((un hr nx r) 1) ((un hm nx n) 1), wB K.g (ho 2) ((un hs nx st) 2) ((un hr nx r) 2) ((un hm nx n) 2), wB K.g (ho 3) ((un hs nx st) 3) ((un hr nx r) 3) ((un hm nx n) 3), wB K.g (ho 4) ((un hs nx st) 4) ((un hr nx r) 4) ((un hm nx n) 4), wB K.g (ho 5) ((un hs nx st) 5) ((un hr nx r) 5) ((un hm nx n) 5)] [(0, .ref (x 0)), (1, .int (nI j)), (2, .int (nI w))] 46 [.int (nI (LSm st (fun k => shf (r k) j w) (st 5) n))]
  exact z_iret C hRx dX4_move_46 (c0, c1, c2, c3, c4, c5, c6, c7, d1, d2, d3, d4, d5, d6, d7, d8, d9) rfl trivial rfl

set_option maxHeartbeats 4000000 in
set_option maxRecDepth 100000 in
theorem tX4_due_ns (l : Launch) (g : zG) (x bd tr q p h : Nat → Nat) (sb : Nat → Nat → Nat) (sv : Nat → Bool) (st : Nat → Nat) (r : Nat → Nat → Nat) (n : Nat) (v w : Int32) (hn : n ≤ 12) (hb : isJ v n = false) : Met l yX4_due wsX4_due ({ frames := 4, cells := 0, slots := 0, locals := 103 } : Room) (zPre g [.ref (x 0), .int v, .int w] [wX g x bd tr q p h sb sv, wB g bd st r n]) (zQ g (fun _ : Unit => some (.int (-1)) ) (fun _ : Unit => True) (fun _ : Unit => [wX g x bd tr q p h sb sv, wB g bd st r n]) (zA [wX g x bd tr q p h sb sv, wB g bd st r n])) 0 0 (zA [wX g x bd tr q p h sb sv, wB g bd st r n]) := by
  refine z_entry (cc := cX4_due) (maxL := 3) (ret := (some .int)) (own := RX4) (by decide) rfl rfl (Nat.le_of_ble_eq_true rfl) [(0, .ref (x 0)), (1, .int v), (2, .int w)] rfl ?_
  intro K hKl hKg hnL C hRx
  subst hKl
  subst hKg
  refine z_aload_n C 0 rfl rfl dX4_due_0 1 rfl ?_
  refine z_iload_n C 1 rfl rfl dX4_due_1 2 rfl ?_
  refine z_callV C [.int v] [] (tX4_isJob K.l K.g x bd tr q p h sb sv st r n v (by first | omega | assumption)) gX4_due_X4_isJob rfl rfl rfl hdX4_isJob ⟨Nat.le_of_ble_eq_true rfl, Nat.le_of_ble_eq_true rfl⟩ ⟨Nat.zero_le _, Nat.zero_le _⟩ 0 0 rfl rfl rfl [0, 1] rfl rfl (zlc (N := 2) rfl rfl) [2, 3] rfl (by decide) (fun _ : Unit => [wX K.g x bd tr q p h sb sv, wB K.g bd st r n]) (fun _ => rfl) rfl rfl (Nat.le_of_ble_eq_true rfl) dX4_due_2 5 rfl (fun u9 hu9 => ?_)
  show Z K 0 0 [wX K.g x bd tr q p h sb sv, wB K.g bd st r n] [(0, .ref (x 0)), (1, .int v), (2, .int w)] 5 [.int (bI (isJ v n))]
  refine z_ifb_ne C 10 dX4_due_5 (by decide) 8 rfl (fun c_1 => ?_) (fun c_1 => ?_)
  · exfalso; rw [hb] at c_1; exact Bool.noConfusion c_1
  refine z_iconst C (v := (-1)) rfl dX4_due_8 9 rfl ?_
  exact z_iret C hRx dX4_due_9 () rfl trivial rfl

set_option maxHeartbeats 4000000 in
set_option maxRecDepth 100000 in
theorem tX4_due_bv (l : Launch) (g : zG) (x bd tr q p h : Nat → Nat) (sb : Nat → Nat → Nat) (sv : Nat → Bool) (st : Nat → Nat) (r : Nat → Nat → Nat) (n : Nat) (j : Nat) (w : Int32) (hn : n ≤ 12) (hj : j < n) (hb : rg w.toInt (Int.ofNat 0) (Int.ofNat 3000) = false) : Met l yX4_due wsX4_due ({ frames := 4, cells := 0, slots := 0, locals := 103 } : Room) (zPre g [.ref (x 0), .int (nI j), .int w] [wX g x bd tr q p h sb sv, wB g bd st r n]) (zQ g (fun _ : Unit => some (.int (-2)) ) (fun _ : Unit => True) (fun _ : Unit => [wX g x bd tr q p h sb sv, wB g bd st r n]) (zA [wX g x bd tr q p h sb sv, wB g bd st r n])) 0 0 (zA [wX g x bd tr q p h sb sv, wB g bd st r n]) := by
  refine z_entry (cc := cX4_due) (maxL := 3) (ret := (some .int)) (own := RX4) (by decide) rfl rfl (Nat.le_of_ble_eq_true rfl) [(0, .ref (x 0)), (1, .int (nI j)), (2, .int w)] rfl ?_
  intro K hKl hKg hnL C hRx
  subst hKl
  subst hKg
  refine z_aload_n C 0 rfl rfl dX4_due_0 1 rfl ?_
  refine z_iload_n C 1 rfl rfl dX4_due_1 2 rfl ?_
  refine z_callV C [.int (nI j)] [] (tX4_isJob K.l K.g x bd tr q p h sb sv st r n (nI j) (by first | omega | assumption)) gX4_due_X4_isJob rfl rfl rfl hdX4_isJob ⟨Nat.le_of_ble_eq_true rfl, Nat.le_of_ble_eq_true rfl⟩ ⟨Nat.zero_le _, Nat.zero_le _⟩ 0 0 rfl rfl rfl [0, 1] rfl rfl (zlc (N := 2) rfl rfl) [2, 3] rfl (by decide) (fun _ : Unit => [wX K.g x bd tr q p h sb sv, wB K.g bd st r n]) (fun _ => rfl) rfl rfl (Nat.le_of_ble_eq_true rfl) dX4_due_2 5 rfl (fun u9 hu9 => ?_)
  show Z K 0 0 [wX K.g x bd tr q p h sb sv, wB K.g bd st r n] [(0, .ref (x 0)), (1, .int (nI j)), (2, .int w)] 5 [.int (bI (isJ (nI j) n))]
  refine z_ifb_ne C 10 dX4_due_5 (by decide) 8 rfl (fun c_1 => ?_) (fun c_1 => ?_)
  rotate_left
  · exfalso; rw [isJ_t (by omega) (by omega)] at c_1; exact Bool.noConfusion c_1
  refine z_iload_n C 2 rfl rfl dX4_due_10 11 rfl ?_
  refine z_iconst C (v := nI 0) rfl dX4_due_11 12 rfl ?_
  refine z_sipush C (v := nI 3000) rfl dX4_due_12 15 rfl ?_
  refine z_callP C [.int w, .int (nI 0), .int (nI 3000)] [] (tX4_withinN K.l K.g w 0 3000 (by first | omega | assumption) (by first | omega | assumption)) gX4_due_X4_within rfl rfl rfl hdX4_within ⟨Nat.le_of_ble_eq_true rfl, Nat.le_of_ble_eq_true rfl⟩ ⟨Nat.zero_le _, Nat.zero_le _⟩ rfl rfl (Nat.le_of_ble_eq_true rfl) dX4_due_15 18 rfl (fun u9 hu9 => ?_)
  show Z K 0 0 [wX K.g x bd tr q p h sb sv, wB K.g bd st r n] [(0, .ref (x 0)), (1, .int (nI j)), (2, .int w)] 18 [.int (bI (rg w.toInt (Int.ofNat 0) (Int.ofNat 3000)))]
  refine z_ifb_ne C 24 dX4_due_18 (by decide) 21 rfl (fun c_2 => ?_) (fun c_2 => ?_)
  · exfalso; rw [hb] at c_2; exact Bool.noConfusion c_2
  refine z_bipush C (v := (-2)) rfl dX4_due_21 23 rfl ?_
  exact z_iret C hRx dX4_due_23 () rfl trivial rfl

theorem iX4_due_X0 : ∀ w ∈ u_ws RX0 TX0 3, w ∈ wsX4_due := fun w h => (List.mem_cons_of_mem _ (List.mem_append_left _ (List.mem_append_left _ (List.mem_append_right _ h))))
theorem iX4_due_X3 : ∀ w ∈ u_ws RX3 TX3 18, w ∈ wsX4_due := fun w h => (List.mem_cons_of_mem _ (List.mem_append_left _ (List.mem_append_right _ h)))
theorem iX4_due_X4 : ∀ w ∈ u_ws RX4 TX4 7, w ∈ wsX4_due := fun w h => (List.mem_cons_of_mem _ (List.mem_append_left _ (List.mem_append_left _ (List.mem_append_left _ (List.mem_append_right _ h)))))
set_option maxHeartbeats 4000000 in
set_option maxRecDepth 100000 in
theorem tX4_due_ok (l : Launch) (g : zG) (x bd tr q p h : Nat → Nat) (sb : Nat → Nat → Nat) (sv : Nat → Bool) (a0 a1 a2 a3 a4 a5 a6 a7 : Nat → Nat) (s0 s1 s2 s3 s4 s5 s6 s7 s8 s9 : Nat) (st : Nat → Nat) (r : Nat → Nat → Nat) (n : Nat) (ho hs : Nat → Nat → Nat) (hr : Nat → Nat → Nat → Nat) (hm : Nat → Nat) (kp nx : Nat) (j w : Nat) (hn : n ≤ 12) (hS : okS st) (hJ : okJ r n) (hR : okR st r n (st 5)) (hj : j < n) (hw : w ≤ 3000) (hk : kp ≤ 6) (hx : nx < 6) : Met l yX4_due wsX4_due ({ frames := 4, cells := 0, slots := 0, locals := 103 } : Room) (zPre g [.ref (x 0), .int (nI j), .int (nI w)] [wX g x bd tr q p h sb sv, wP g q a0 a1 a2 a3 a4 a5 a6 a7 s0 s1 s2 s3 s4 s5 s6 s7 s8 s9, wB g bd st r n, wH g h ho kp nx, wB g (ho 0) (hs 0) (hr 0) (hm 0), wB g (ho 1) (hs 1) (hr 1) (hm 1), wB g (ho 2) (hs 2) (hr 2) (hm 2), wB g (ho 3) (hs 3) (hr 3) (hm 3), wB g (ho 4) (hs 4) (hr 4) (hm 4), wB g (ho 5) (hs 5) (hr 5) (hm 5)]) (zQ g (fun u : (Nat → Nat) × (Nat → Nat) × (Nat → Nat) × (Nat → Nat) × (Nat → Nat) × (Nat → Nat) × (Nat → Nat) × (Nat → Nat) × (Nat) × (Nat) × (Nat) × (Nat) × (Nat) × (Nat) × (Nat) × (Nat) × (Nat) => match u with | (c0, c1, c2, c3, c4, c5, c6, c7, d1, d2, d3, d4, d5, d6, d7, d8, d9) => some (.int (nI (PL st (un r 3 (un (r 3) j w)) (st 5) n j))) ) (fun u : (Nat → Nat) × (Nat → Nat) × (Nat → Nat) × (Nat → Nat) × (Nat → Nat) × (Nat → Nat) × (Nat → Nat) × (Nat → Nat) × (Nat) × (Nat) × (Nat) × (Nat) × (Nat) × (Nat) × (Nat) × (Nat) × (Nat) => match u with | (c0, c1, c2, c3, c4, c5, c6, c7, d1, d2, d3, d4, d5, d6, d7, d8, d9) => True) (fun u : (Nat → Nat) × (Nat → Nat) × (Nat → Nat) × (Nat → Nat) × (Nat → Nat) × (Nat → Nat) × (Nat → Nat) × (Nat → Nat) × (Nat) × (Nat) × (Nat) × (Nat) × (Nat) × (Nat) × (Nat) × (Nat) × (Nat) => match u with | (c0, c1, c2, c3, c4, c5, c6, c7, d1, d2, d3, d4, d5, d6, d7, d8, d9) => [wX g x bd tr q p h sb sv, wP g q c0 c1 c2 c3 c4 c5 c6 c7 n d1 d2 d3 d4 d5 d6 d7 d8 d9, wB g bd st (un r 3 (un (r 3) j w)) n, wH g h ho (min (kp + 1) 6) (if nx = 5 then 0 else nx + 1), wB g (ho 0) ((un hs nx st) 0) ((un hr nx r) 0) ((un hm nx n) 0), wB g (ho 1) ((un hs nx st) 1) ((un hr nx r) 1) ((un hm nx n) 1), wB g (ho 2) ((un hs nx st) 2) ((un hr nx r) 2) ((un hm nx n) 2), wB g (ho 3) ((un hs nx st) 3) ((un hr nx r) 3) ((un hm nx n) 3), wB g (ho 4) ((un hs nx st) 4) ((un hr nx r) 4) ((un hm nx n) 4), wB g (ho 5) ((un hs nx st) 5) ((un hr nx r) 5) ((un hm nx n) 5)]) (zA [wX g x bd tr q p h sb sv, wP g q a0 a1 a2 a3 a4 a5 a6 a7 s0 s1 s2 s3 s4 s5 s6 s7 s8 s9, wB g bd st r n, wH g h ho kp nx, wB g (ho 0) (hs 0) (hr 0) (hm 0), wB g (ho 1) (hs 1) (hr 1) (hm 1), wB g (ho 2) (hs 2) (hr 2) (hm 2), wB g (ho 3) (hs 3) (hr 3) (hm 3), wB g (ho 4) (hs 4) (hr 4) (hm 4), wB g (ho 5) (hs 5) (hr 5) (hm 5)])) 0 0 (zA [wX g x bd tr q p h sb sv, wP g q a0 a1 a2 a3 a4 a5 a6 a7 s0 s1 s2 s3 s4 s5 s6 s7 s8 s9, wB g bd st r n, wH g h ho kp nx, wB g (ho 0) (hs 0) (hr 0) (hm 0), wB g (ho 1) (hs 1) (hr 1) (hm 1), wB g (ho 2) (hs 2) (hr 2) (hm 2), wB g (ho 3) (hs 3) (hr 3) (hm 3), wB g (ho 4) (hs 4) (hr 4) (hm 4), wB g (ho 5) (hs 5) (hr 5) (hm 5)]) := by
  refine z_entry (cc := cX4_due) (maxL := 3) (ret := (some .int)) (own := RX4) (by decide) rfl rfl (Nat.le_of_ble_eq_true rfl) [(0, .ref (x 0)), (1, .int (nI j)), (2, .int (nI w))] rfl ?_
  intro K hKl hKg hnL C hRx
  subst hKl
  subst hKg
  refine z_aload_n C 0 rfl rfl dX4_due_0 1 rfl ?_
  refine z_iload_n C 1 rfl rfl dX4_due_1 2 rfl ?_
  refine z_callV C [.int (nI j)] [] (tX4_isJob K.l K.g x bd tr q p h sb sv st r n (nI j) (by first | omega | assumption)) gX4_due_X4_isJob rfl rfl rfl hdX4_isJob ⟨Nat.le_of_ble_eq_true rfl, Nat.le_of_ble_eq_true rfl⟩ ⟨Nat.zero_le _, Nat.zero_le _⟩ 0 0 rfl rfl rfl [0, 2] rfl rfl (zlc (N := 10) rfl rfl) [10, 1, 11, 3, 4, 5, 6, 7, 8, 9] rfl (by decide) (fun _ : Unit => [wX K.g x bd tr q p h sb sv, wP K.g q a0 a1 a2 a3 a4 a5 a6 a7 s0 s1 s2 s3 s4 s5 s6 s7 s8 s9, wB K.g bd st r n, wH K.g h ho kp nx, wB K.g (ho 0) (hs 0) (hr 0) (hm 0), wB K.g (ho 1) (hs 1) (hr 1) (hm 1), wB K.g (ho 2) (hs 2) (hr 2) (hm 2), wB K.g (ho 3) (hs 3) (hr 3) (hm 3), wB K.g (ho 4) (hs 4) (hr 4) (hm 4), wB K.g (ho 5) (hs 5) (hr 5) (hm 5)]) (fun _ => rfl) rfl rfl (Nat.le_of_ble_eq_true rfl) dX4_due_2 5 rfl (fun u9 hu9 => ?_)
  show Z K 0 0 [wX K.g x bd tr q p h sb sv, wP K.g q a0 a1 a2 a3 a4 a5 a6 a7 s0 s1 s2 s3 s4 s5 s6 s7 s8 s9, wB K.g bd st r n, wH K.g h ho kp nx, wB K.g (ho 0) (hs 0) (hr 0) (hm 0), wB K.g (ho 1) (hs 1) (hr 1) (hm 1), wB K.g (ho 2) (hs 2) (hr 2) (hm 2), wB K.g (ho 3) (hs 3) (hr 3) (hm 3), wB K.g (ho 4) (hs 4) (hr 4) (hm 4), wB K.g (ho 5) (hs 5) (hr 5) (hm 5)] [(0, .ref (x 0)), (1, .int (nI j)), (2, .int (nI w))] 5 [.int (bI (isJ (nI j) n))]
  refine z_ifb_ne C 10 dX4_due_5 (by decide) 8 rfl (fun c_1 => ?_) (fun c_1 => ?_)
  rotate_left
  · exfalso; rw [isJ_t (by omega) (by omega)] at c_1; exact Bool.noConfusion c_1
  refine z_iload_n C 2 rfl rfl dX4_due_10 11 rfl ?_
  refine z_iconst C (v := nI 0) rfl dX4_due_11 12 rfl ?_
  refine z_sipush C (v := nI 3000) rfl dX4_due_12 15 rfl ?_
  refine z_callP C [.int (nI w), .int (nI 0), .int (nI 3000)] [] (tX4_withinN K.l K.g (nI w) 0 3000 (by first | omega | assumption) (by first | omega | assumption)) gX4_due_X4_within rfl rfl rfl hdX4_within ⟨Nat.le_of_ble_eq_true rfl, Nat.le_of_ble_eq_true rfl⟩ ⟨Nat.zero_le _, Nat.zero_le _⟩ rfl rfl (Nat.le_of_ble_eq_true rfl) dX4_due_15 18 rfl (fun u9 hu9 => ?_)
  show Z K 0 0 [wX K.g x bd tr q p h sb sv, wP K.g q a0 a1 a2 a3 a4 a5 a6 a7 s0 s1 s2 s3 s4 s5 s6 s7 s8 s9, wB K.g bd st r n, wH K.g h ho kp nx, wB K.g (ho 0) (hs 0) (hr 0) (hm 0), wB K.g (ho 1) (hs 1) (hr 1) (hm 1), wB K.g (ho 2) (hs 2) (hr 2) (hm 2), wB K.g (ho 3) (hs 3) (hr 3) (hm 3), wB K.g (ho 4) (hs 4) (hr 4) (hm 4), wB K.g (ho 5) (hs 5) (hr 5) (hm 5)] [(0, .ref (x 0)), (1, .int (nI j)), (2, .int (nI w))] 18 [.int (bI (rg (nI w).toInt (Int.ofNat 0) (Int.ofNat 3000)))]
  refine z_ifb_ne C 24 dX4_due_18 (by decide) 21 rfl (fun c_2 => ?_) (fun c_2 => ?_)
  rotate_left
  · exfalso; rw [rgN_t (by omega) (by omega) (by omega)] at c_2; exact Bool.noConfusion c_2
  refine z_aload_n C 0 rfl rfl dX4_due_24 25 rfl ?_
  refine z_get C zc4 iX4_due_X4 0 0 rfl rfl 4 (Nat.le_of_ble_eq_true rfl) (List.mem_of_getElem? (i := 1) rfl) (v := .ref (h 0)) rfl dX4_due_25 28 rfl ?_
  refine z_aload_n C 0 rfl rfl dX4_due_28 29 rfl ?_
  refine z_get C zc4 iX4_due_X4 0 0 rfl rfl 0 (Nat.le_of_ble_eq_true rfl) (List.mem_of_getElem? (i := 2) rfl) (v := .ref (bd 0)) rfl dX4_due_29 32 rfl ?_
  refine z_callV C [.ref (bd 0)] [] (tX1_remember K.l K.g h ho hs hr hm kp nx bd st r n (by first | omega | assumption) (by first | omega | assumption)) gX4_due_X1_remember rfl rfl rfl hdX1_remember ⟨Nat.le_of_ble_eq_true rfl, Nat.le_of_ble_eq_true rfl⟩ ⟨Nat.zero_le _, Nat.zero_le _⟩ 3 0 rfl rfl rfl [3, 4, 5, 6, 7, 8, 9, 2] rfl rfl (zlc (N := 10) rfl rfl) [0, 1, 17, 10, 11, 12, 13, 14, 15, 16] rfl (by decide) (fun _ : Unit => [wX K.g x bd tr q p h sb sv, wP K.g q a0 a1 a2 a3 a4 a5 a6 a7 s0 s1 s2 s3 s4 s5 s6 s7 s8 s9, wB K.g bd st r n, wH K.g h ho (min (kp + 1) 6) (if nx = 5 then 0 else nx + 1), wB K.g (ho 0) ((un hs nx st) 0) ((un hr nx r) 0) ((un hm nx n) 0), wB K.g (ho 1) ((un hs nx st) 1) ((un hr nx r) 1) ((un hm nx n) 1), wB K.g (ho 2) ((un hs nx st) 2) ((un hr nx r) 2) ((un hm nx n) 2), wB K.g (ho 3) ((un hs nx st) 3) ((un hr nx r) 3) ((un hm nx n) 3), wB K.g (ho 4) ((un hs nx st) 4) ((un hr nx r) 4) ((un hm nx n) 4), wB K.g (ho 5) ((un hs nx st) 5) ((un hr nx r) 5) ((un hm nx n) 5)]) (fun _ => rfl) rfl rfl (Nat.le_of_ble_eq_true rfl) dX4_due_32 35 rfl (fun u9 hu9 => ?_)
  show Z K 0 0 [wX K.g x bd tr q p h sb sv, wP K.g q a0 a1 a2 a3 a4 a5 a6 a7 s0 s1 s2 s3 s4 s5 s6 s7 s8 s9, wB K.g bd st r n, wH K.g h ho (min (kp + 1) 6) (if nx = 5 then 0 else nx + 1), wB K.g (ho 0) ((un hs nx st) 0) ((un hr nx r) 0) ((un hm nx n) 0), wB K.g (ho 1) ((un hs nx st) 1) ((un hr nx r) 1) ((un hm nx n) 1), wB K.g (ho 2) ((un hs nx st) 2) ((un hr nx r) 2) ((un hm nx n) 2), wB K.g (ho 3) ((un hs nx st) 3) ((un hr nx r) 3) ((un hm nx n) 3), wB K.g (ho 4) ((un hs nx st) 4) ((un hr nx r) 4) ((un hm nx n) 4), wB K.g (ho 5) ((un hs nx st) 5) ((un hr nx r) 5) ((un hm nx n) 5)] [(0, .ref (x 0)), (1, .int (nI j)), (2, .int (nI w))] 35 []
  refine z_aload_n C 0 rfl rfl dX4_due_35 36 rfl ?_
  refine z_get C zc4 iX4_due_X4 0 0 rfl rfl 0 (Nat.le_of_ble_eq_true rfl) (List.mem_of_getElem? (i := 2) rfl) (v := .ref (bd 0)) rfl dX4_due_36 39 rfl ?_
  refine z_get C zc0 iX4_due_X0 2 0 rfl rfl 1 (Nat.le_of_ble_eq_true rfl) (List.mem_of_getElem? (i := 3) rfl) (v := .ref (bd 2)) rfl dX4_due_39 42 rfl ?_
  refine z_iconst C (v := nI 3) rfl dX4_due_42 43 rfl ?_
  refine z_aald C (y := (bd 6)) 2 2 1 rfl rfl rfl rfl (by omega) (by decide) rfl dX4_due_43 44 rfl ?_
  refine z_iload_n C 1 rfl rfl dX4_due_44 45 rfl ?_
  refine z_iload_n C 2 rfl rfl dX4_due_45 46 rfl ?_
  refine z_iast C (f := (r 3)) 2 6 rfl rfl (by omega) (by decide) (wB K.g bd st (un r 3 (un (r 3) j w)) n) rfl [wX K.g x bd tr q p h sb sv, wP K.g q a0 a1 a2 a3 a4 a5 a6 a7 s0 s1 s2 s3 s4 s5 s6 s7 s8 s9, wB K.g bd st (un r 3 (un (r 3) j w)) n, wH K.g h ho (min (kp + 1) 6) (if nx = 5 then 0 else nx + 1), wB K.g (ho 0) ((un hs nx st) 0) ((un hr nx r) 0) ((un hm nx n) 0), wB K.g (ho 1) ((un hs nx st) 1) ((un hr nx r) 1) ((un hm nx n) 1), wB K.g (ho 2) ((un hs nx st) 2) ((un hr nx r) 2) ((un hm nx n) 2), wB K.g (ho 3) ((un hs nx st) 3) ((un hr nx r) 3) ((un hm nx n) 3), wB K.g (ho 4) ((un hs nx st) 4) ((un hr nx r) 4) ((un hm nx n) 4), wB K.g (ho 5) ((un hs nx st) 5) ((un hr nx r) 5) ((un hm nx n) 5)] rfl dX4_due_46 47 rfl ?_
  refine z_aload_n C 0 rfl rfl dX4_due_47 48 rfl ?_
  refine z_get C zc4 iX4_due_X4 0 0 rfl rfl 2 (Nat.le_of_ble_eq_true rfl) (List.mem_of_getElem? (i := 4) rfl) (v := .ref (q 0)) rfl dX4_due_48 51 rfl ?_
  refine z_aload_n C 0 rfl rfl dX4_due_51 52 rfl ?_
  refine z_get C zc4 iX4_due_X4 0 0 rfl rfl 0 (Nat.le_of_ble_eq_true rfl) (List.mem_of_getElem? (i := 2) rfl) (v := .ref (bd 0)) rfl dX4_due_52 55 rfl ?_
  refine z_aload_n C 0 rfl rfl dX4_due_55 56 rfl ?_
  refine z_get C zc4 iX4_due_X4 0 0 rfl rfl 0 (Nat.le_of_ble_eq_true rfl) (List.mem_of_getElem? (i := 2) rfl) (v := .ref (bd 0)) rfl dX4_due_56 59 rfl ?_
  refine z_get C zc0 iX4_due_X0 2 0 rfl rfl 0 (Nat.le_of_ble_eq_true rfl) (List.mem_of_getElem? (i := 5) rfl) (v := .ref (bd 1)) rfl dX4_due_59 62 rfl ?_
  refine z_iconst C (v := nI 5) rfl dX4_due_62 63 rfl ?_
  refine z_iald C (f := st) 2 1 rfl rfl (by omega) (by decide) dX4_due_63 64 rfl ?_
  refine z_callV C [.ref (bd 0), .int (nI (st 5))] [] (tX3_print K.l K.g q a0 a1 a2 a3 a4 a5 a6 a7 s0 s1 s2 s3 s4 s5 s6 s7 s8 s9 bd st (un r 3 (un (r 3) j w)) n (st 5) hS (okJ_due hJ hw) hn (fun i hi => hR i hi) (by have := hS.2.2.2.2.2.2.2.1; omega)) gX4_due_X3_print rfl rfl rfl hdX3_print ⟨Nat.le_of_ble_eq_true rfl, Nat.le_of_ble_eq_true rfl⟩ ⟨Nat.zero_le _, Nat.zero_le _⟩ 1 0 rfl rfl rfl [1, 2] rfl rfl (zlc (N := 10) rfl rfl) [0, 10, 11, 3, 4, 5, 6, 7, 8, 9] rfl (by decide) (fun u : (Nat → Nat) × (Nat → Nat) × (Nat → Nat) × (Nat → Nat) × (Nat → Nat) × (Nat → Nat) × (Nat → Nat) × (Nat → Nat) × (Nat) × (Nat) × (Nat) × (Nat) × (Nat) × (Nat) × (Nat) × (Nat) × (Nat) => match u with | (c0, c1, c2, c3, c4, c5, c6, c7, d1, d2, d3, d4, d5, d6, d7, d8, d9) => [wX K.g x bd tr q p h sb sv, wP K.g q c0 c1 c2 c3 c4 c5 c6 c7 n d1 d2 d3 d4 d5 d6 d7 d8 d9, wB K.g bd st (un r 3 (un (r 3) j w)) n, wH K.g h ho (min (kp + 1) 6) (if nx = 5 then 0 else nx + 1), wB K.g (ho 0) ((un hs nx st) 0) ((un hr nx r) 0) ((un hm nx n) 0), wB K.g (ho 1) ((un hs nx st) 1) ((un hr nx r) 1) ((un hm nx n) 1), wB K.g (ho 2) ((un hs nx st) 2) ((un hr nx r) 2) ((un hm nx n) 2), wB K.g (ho 3) ((un hs nx st) 3) ((un hr nx r) 3) ((un hm nx n) 3), wB K.g (ho 4) ((un hs nx st) 4) ((un hr nx r) 4) ((un hm nx n) 4), wB K.g (ho 5) ((un hs nx st) 5) ((un hr nx r) 5) ((un hm nx n) 5)]) (fun _ => rfl) rfl rfl (Nat.le_of_ble_eq_true rfl) dX4_due_64 67 rfl (fun u9 hu9 => ?_)
  obtain ⟨c0, c1, c2, c3, c4, c5, c6, c7, d1, d2, d3, d4, d5, d6, d7, d8, d9⟩ := u9
  have hp := hu9
  have hp : PI st (un r 3 (un (r 3) j w)) (st 5) n c0 c1 c2 c3 c4 c5 c6 c7 d1 d2 d3 d4 d5 d6 d7 d8 d9 := hp
  show Z K 0 0 [wX K.g x bd tr q p h sb sv, wP K.g q c0 c1 c2 c3 c4 c5 c6 c7 n d1 d2 d3 d4 d5 d6 d7 d8 d9, wB K.g bd st (un r 3 (un (r 3) j w)) n, wH K.g h ho (min (kp + 1) 6) (if nx = 5 then 0 else nx + 1), wB K.g (ho 0) ((un hs nx st) 0) ((un hr nx r) 0) ((un hm nx n) 0), wB K.g (ho 1) ((un hs nx st) 1) ((un hr nx r) 1) ((un hm nx n) 1), wB K.g (ho 2) ((un hs nx st) 2) ((un hr nx r) 2) ((un hm nx n) 2), wB K.g (ho 3) ((un hs nx st) 3) ((un hr nx r) 3) ((un hm nx n) 3), wB K.g (ho 4) ((un hs nx st) 4) ((un hr nx r) 4) ((un hm nx n) 4), wB K.g (ho 5) ((un hs nx st) 5) ((un hr nx r) 5) ((un hm nx n) 5)] [(0, .ref (x 0)), (1, .int (nI j)), (2, .int (nI w))] 67 []
  have hq := PI_all hp
  refine z_aload_n C 0 rfl rfl dX4_due_67 68 rfl ?_
  refine z_get C zc4 iX4_due_X4 0 0 rfl rfl 2 (Nat.le_of_ble_eq_true rfl) (List.mem_of_getElem? (i := 4) rfl) (v := .ref (q 0)) rfl dX4_due_68 71 rfl ?_
  refine z_get C zc3 iX4_due_X3 1 0 rfl rfl 7 (Nat.le_of_ble_eq_true rfl) (List.mem_of_getElem? (i := 6) rfl) (v := .ref (q 8)) rfl dX4_due_71 74 rfl ?_
  refine z_iload_n C 1 rfl rfl dX4_due_74 75 rfl ?_
  refine z_iald C (f := c7) 1 8 rfl rfl (by omega) (by decide) dX4_due_75 76 rfl ?_
  exact z_iret C hRx dX4_due_76 (c0, c1, c2, c3, c4, c5, c6, c7, d1, d2, d3, d4, d5, d6, d7, d8, d9) (congrArg (fun z => some (Value.int (nI z))) (hq.2.1 j hj).2.2.2.2.2.2.2.symm) trivial rfl

set_option maxHeartbeats 4000000 in
set_option maxRecDepth 100000 in
theorem tX4_order_bv (l : Launch) (g : zG) (x bd tr q p h : Nat → Nat) (sb : Nat → Nat → Nat) (sv : Nat → Bool) (v : Int32) (hb : rg v.toInt (Int.ofNat 0) (Int.ofNat 3) = false) : Met l yX4_order wsX4_order ({ frames := 3, cells := 0, slots := 0, locals := 108 } : Room) (zPreE g eOrd [.ref (x 0), .int v] [wX g x bd tr q p h sb sv]) (zQ g (fun _ : Unit => some (.int (-2)) ) (fun _ : Unit => True) (fun _ : Unit => [wX g x bd tr q p h sb sv]) (zA [wX g x bd tr q p h sb sv])) 0 0 (zA [wX g x bd tr q p h sb sv]) := by
  refine z_entryE (cc := cX4_order) (maxL := 3) (ret := (some .int)) (own := RX4) (by decide) rfl rfl (Nat.le_of_ble_eq_true rfl) [(0, .ref (x 0)), (1, .int v)] rfl ?_
  intro K hKl hKg hnL C hRx hE
  subst hKl
  subst hKg
  refine z_iload_n C 1 rfl rfl dX4_order_0 1 rfl ?_
  refine z_iconst C (v := nI 0) rfl dX4_order_1 2 rfl ?_
  refine z_iconst C (v := nI 3) rfl dX4_order_2 3 rfl ?_
  refine z_callP C [.int v, .int (nI 0), .int (nI 3)] [] (tX4_withinN K.l K.g v 0 3 (by first | omega | assumption) (by first | omega | assumption)) gX4_order_X4_within rfl rfl rfl hdX4_within ⟨Nat.le_of_ble_eq_true rfl, Nat.le_of_ble_eq_true rfl⟩ ⟨Nat.zero_le _, Nat.zero_le _⟩ rfl rfl (Nat.le_of_ble_eq_true rfl) dX4_order_3 6 rfl (fun u9 hu9 => ?_)
  show Z K 0 0 [wX K.g x bd tr q p h sb sv] [(0, .ref (x 0)), (1, .int v)] 6 [.int (bI (rg v.toInt (Int.ofNat 0) (Int.ofNat 3)))]
  refine z_ifb_ne C 12 dX4_order_6 (by decide) 9 rfl (fun c_1 => ?_) (fun c_1 => ?_)
  · exfalso; rw [hb] at c_1; exact Bool.noConfusion c_1
  refine z_bipush C (v := (-2)) rfl dX4_order_9 11 rfl ?_
  exact z_iret C hRx dX4_order_11 () rfl trivial rfl

theorem iX4_order_X4 : ∀ w ∈ u_ws RX4 TX4 7, w ∈ wsX4_order := fun w h => (List.mem_cons_of_mem _ (List.mem_append_left _ (List.mem_append_left _ (List.mem_append_right _ h))))
set_option maxHeartbeats 4000000 in
set_option maxRecDepth 100000 in
theorem tX4_order_ok (l : Launch) (g : zG) (x bd tr q p h : Nat → Nat) (sb : Nat → Nat → Nat) (sv : Nat → Bool) (st : Nat → Nat) (r : Nat → Nat → Nat) (n : Nat) (ts : Nat → Nat) (tq : Nat → Nat → Nat) (tn : Nat) (ho hs : Nat → Nat → Nat) (hr : Nat → Nat → Nat → Nat) (hm : Nat → Nat) (kp nx : Nat) (k : Nat) (hn : n ≤ 12) (hS : okS st) (hJ : okJ r n) (hR : okR st r n (st 5)) (hk3 : k ≤ 3) (hk : kp ≤ 6) (hx : nx < 6) : Met l yX4_order wsX4_order ({ frames := 3, cells := 0, slots := 0, locals := 108 } : Room) (zPreE g eOrd [.ref (x 0), .int (nI k)] [wX g x bd tr q p h sb sv, wB g bd st r n, wB g tr ts tq tn, wH g h ho kp nx, wB g (ho 0) (hs 0) (hr 0) (hm 0), wB g (ho 1) (hs 1) (hr 1) (hm 1), wB g (ho 2) (hs 2) (hr 2) (hm 2), wB g (ho 3) (hs 3) (hr 3) (hm 3), wB g (ho 4) (hs 4) (hr 4) (hm 4), wB g (ho 5) (hs 5) (hr 5) (hm 5)]) (zQ g (fun _ : Unit => some (.int (nI (ct (fun y => decide (plc (r (foR k)) n y ≠ y)) n))) ) (fun _ : Unit => True) (fun _ : Unit => [wX g x bd tr q p h sb sv, wB g bd st (arR r (plc (r (foR k)) n) n) n, wB g tr st (arR r (plc (r (foR k)) n) n) n, wH g h ho (min (kp + 1) 6) (if nx = 5 then 0 else nx + 1), wB g (ho 0) ((un hs nx st) 0) ((un hr nx r) 0) ((un hm nx n) 0), wB g (ho 1) ((un hs nx st) 1) ((un hr nx r) 1) ((un hm nx n) 1), wB g (ho 2) ((un hs nx st) 2) ((un hr nx r) 2) ((un hm nx n) 2), wB g (ho 3) ((un hs nx st) 3) ((un hr nx r) 3) ((un hm nx n) 3), wB g (ho 4) ((un hs nx st) 4) ((un hr nx r) 4) ((un hm nx n) 4), wB g (ho 5) ((un hs nx st) 5) ((un hr nx r) 5) ((un hm nx n) 5)]) (zA [wX g x bd tr q p h sb sv, wB g bd st r n, wB g tr ts tq tn, wH g h ho kp nx, wB g (ho 0) (hs 0) (hr 0) (hm 0), wB g (ho 1) (hs 1) (hr 1) (hm 1), wB g (ho 2) (hs 2) (hr 2) (hm 2), wB g (ho 3) (hs 3) (hr 3) (hm 3), wB g (ho 4) (hs 4) (hr 4) (hm 4), wB g (ho 5) (hs 5) (hr 5) (hm 5)])) 0 0 (zA [wX g x bd tr q p h sb sv, wB g bd st r n, wB g tr ts tq tn, wH g h ho kp nx, wB g (ho 0) (hs 0) (hr 0) (hm 0), wB g (ho 1) (hs 1) (hr 1) (hm 1), wB g (ho 2) (hs 2) (hr 2) (hm 2), wB g (ho 3) (hs 3) (hr 3) (hm 3), wB g (ho 4) (hs 4) (hr 4) (hm 4), wB g (ho 5) (hs 5) (hr 5) (hm 5)]) := by
  refine z_entryE (cc := cX4_order) (maxL := 3) (ret := (some .int)) (own := RX4) (by decide) rfl rfl (Nat.le_of_ble_eq_true rfl) [(0, .ref (x 0)), (1, .int (nI k))] rfl ?_
  intro K hKl hKg hnL C hRx hE
  subst hKl
  subst hKg
  obtain ⟨sa1, hs1⟩ := hE
  have hfo := foR_lt hk3
  refine z_iload_n C 1 rfl rfl dX4_order_0 1 rfl ?_
  refine z_iconst C (v := nI 0) rfl dX4_order_1 2 rfl ?_
  refine z_iconst C (v := nI 3) rfl dX4_order_2 3 rfl ?_
  refine z_callP C [.int (nI k), .int (nI 0), .int (nI 3)] [] (tX4_withinN K.l K.g (nI k) 0 3 (by first | omega | assumption) (by first | omega | assumption)) gX4_order_X4_within rfl rfl rfl hdX4_within ⟨Nat.le_of_ble_eq_true rfl, Nat.le_of_ble_eq_true rfl⟩ ⟨Nat.zero_le _, Nat.zero_le _⟩ rfl rfl (Nat.le_of_ble_eq_true rfl) dX4_order_3 6 rfl (fun u9 hu9 => ?_)
  show Z K 0 0 [wX K.g x bd tr q p h sb sv, wB K.g bd st r n, wB K.g tr ts tq tn, wH K.g h ho kp nx, wB K.g (ho 0) (hs 0) (hr 0) (hm 0), wB K.g (ho 1) (hs 1) (hr 1) (hm 1), wB K.g (ho 2) (hs 2) (hr 2) (hm 2), wB K.g (ho 3) (hs 3) (hr 3) (hm 3), wB K.g (ho 4) (hs 4) (hr 4) (hm 4), wB K.g (ho 5) (hs 5) (hr 5) (hm 5)] [(0, .ref (x 0)), (1, .int (nI k))] 6 [.int (bI (rg (nI k).toInt (Int.ofNat 0) (Int.ofNat 3)))]
  refine z_ifb_ne C 12 dX4_order_6 (by decide) 9 rfl (fun c_1 => ?_) (fun c_1 => ?_)
  rotate_left
  · exfalso; rw [rgN_t (by omega) (by omega) (by omega)] at c_1; exact Bool.noConfusion c_1
  refine z_aload_n C 0 rfl rfl dX4_order_12 13 rfl ?_
  refine z_get C zc4 iX4_order_X4 0 0 rfl rfl 4 (Nat.le_of_ble_eq_true rfl) (List.mem_of_getElem? (i := 1) rfl) (v := .ref (h 0)) rfl dX4_order_13 16 rfl ?_
  refine z_aload_n C 0 rfl rfl dX4_order_16 17 rfl ?_
  refine z_get C zc4 iX4_order_X4 0 0 rfl rfl 0 (Nat.le_of_ble_eq_true rfl) (List.mem_of_getElem? (i := 2) rfl) (v := .ref (bd 0)) rfl dX4_order_17 20 rfl ?_
  refine z_callV C [.ref (bd 0)] [] (tX1_remember K.l K.g h ho hs hr hm kp nx bd st r n (by first | omega | assumption) (by first | omega | assumption)) gX4_order_X1_remember rfl rfl rfl hdX1_remember ⟨Nat.le_of_ble_eq_true rfl, Nat.le_of_ble_eq_true rfl⟩ ⟨Nat.zero_le _, Nat.zero_le _⟩ 3 0 rfl rfl rfl [3, 4, 5, 6, 7, 8, 9, 1] rfl rfl (zlc (N := 10) rfl rfl) [0, 17, 2, 10, 11, 12, 13, 14, 15, 16] rfl (by decide) (fun _ : Unit => [wX K.g x bd tr q p h sb sv, wB K.g bd st r n, wB K.g tr ts tq tn, wH K.g h ho (min (kp + 1) 6) (if nx = 5 then 0 else nx + 1), wB K.g (ho 0) ((un hs nx st) 0) ((un hr nx r) 0) ((un hm nx n) 0), wB K.g (ho 1) ((un hs nx st) 1) ((un hr nx r) 1) ((un hm nx n) 1), wB K.g (ho 2) ((un hs nx st) 2) ((un hr nx r) 2) ((un hm nx n) 2), wB K.g (ho 3) ((un hs nx st) 3) ((un hr nx r) 3) ((un hm nx n) 3), wB K.g (ho 4) ((un hs nx st) 4) ((un hr nx r) 4) ((un hm nx n) 4), wB K.g (ho 5) ((un hs nx st) 5) ((un hr nx r) 5) ((un hm nx n) 5)]) (fun _ => rfl) rfl rfl (Nat.le_of_ble_eq_true rfl) dX4_order_20 23 rfl (fun u9 hu9 => ?_)
  show Z K 0 0 [wX K.g x bd tr q p h sb sv, wB K.g bd st r n, wB K.g tr ts tq tn, wH K.g h ho (min (kp + 1) 6) (if nx = 5 then 0 else nx + 1), wB K.g (ho 0) ((un hs nx st) 0) ((un hr nx r) 0) ((un hm nx n) 0), wB K.g (ho 1) ((un hs nx st) 1) ((un hr nx r) 1) ((un hm nx n) 1), wB K.g (ho 2) ((un hs nx st) 2) ((un hr nx r) 2) ((un hm nx n) 2), wB K.g (ho 3) ((un hs nx st) 3) ((un hr nx r) 3) ((un hm nx n) 3), wB K.g (ho 4) ((un hs nx st) 4) ((un hr nx r) 4) ((un hm nx n) 4), wB K.g (ho 5) ((un hs nx st) 5) ((un hr nx r) 5) ((un hm nx n) 5)] [(0, .ref (x 0)), (1, .int (nI k))] 23 []
  refine z_aload_n C 0 rfl rfl dX4_order_23 24 rfl ?_
  refine z_get C zc4 iX4_order_X4 0 0 rfl rfl 1 (Nat.le_of_ble_eq_true rfl) (List.mem_of_getElem? (i := 3) rfl) (v := .ref (tr 0)) rfl dX4_order_24 27 rfl ?_
  refine z_aload_n C 0 rfl rfl dX4_order_27 28 rfl ?_
  refine z_get C zc4 iX4_order_X4 0 0 rfl rfl 0 (Nat.le_of_ble_eq_true rfl) (List.mem_of_getElem? (i := 2) rfl) (v := .ref (bd 0)) rfl dX4_order_28 31 rfl ?_
  refine z_gets C hs1.1 (List.mem_of_getElem? (i := 4) rfl) dX4_order_31 34 rfl ?_
  refine z_iload_n C 1 rfl rfl dX4_order_34 35 rfl ?_
  refine z_sld C (f := foR) hs1.2.1 hs1.2.2.1 hs1.2.2.2 (by omega) (by decide) dX4_order_35 36 rfl ?_
  refine z_callV C [.ref (bd 0), .int (nI (foR k))] [] (tX0_arrange K.l K.g tr ts tq tn bd st r n (foR k) hfo hn (okJ_le hfo hJ)) gX4_order_X0_arrange rfl rfl rfl hdX0_arrange ⟨Nat.le_of_ble_eq_true rfl, Nat.le_of_ble_eq_true rfl⟩ ⟨Nat.zero_le _, Nat.zero_le _⟩ 2 0 rfl rfl rfl [2, 1] rfl rfl (zlc (N := 10) rfl rfl) [0, 11, 10, 3, 4, 5, 6, 7, 8, 9] rfl (by decide) (fun _ : Unit => [wX K.g x bd tr q p h sb sv, wB K.g bd st r n, wB K.g tr st (arR r (plc (r (foR k)) n) n) n, wH K.g h ho (min (kp + 1) 6) (if nx = 5 then 0 else nx + 1), wB K.g (ho 0) ((un hs nx st) 0) ((un hr nx r) 0) ((un hm nx n) 0), wB K.g (ho 1) ((un hs nx st) 1) ((un hr nx r) 1) ((un hm nx n) 1), wB K.g (ho 2) ((un hs nx st) 2) ((un hr nx r) 2) ((un hm nx n) 2), wB K.g (ho 3) ((un hs nx st) 3) ((un hr nx r) 3) ((un hm nx n) 3), wB K.g (ho 4) ((un hs nx st) 4) ((un hr nx r) 4) ((un hm nx n) 4), wB K.g (ho 5) ((un hs nx st) 5) ((un hr nx r) 5) ((un hm nx n) 5)]) (fun _ => rfl) rfl rfl (Nat.le_of_ble_eq_true rfl) dX4_order_36 39 rfl (fun u9 hu9 => ?_)
  show Z K 0 0 [wX K.g x bd tr q p h sb sv, wB K.g bd st r n, wB K.g tr st (arR r (plc (r (foR k)) n) n) n, wH K.g h ho (min (kp + 1) 6) (if nx = 5 then 0 else nx + 1), wB K.g (ho 0) ((un hs nx st) 0) ((un hr nx r) 0) ((un hm nx n) 0), wB K.g (ho 1) ((un hs nx st) 1) ((un hr nx r) 1) ((un hm nx n) 1), wB K.g (ho 2) ((un hs nx st) 2) ((un hr nx r) 2) ((un hm nx n) 2), wB K.g (ho 3) ((un hs nx st) 3) ((un hr nx r) 3) ((un hm nx n) 3), wB K.g (ho 4) ((un hs nx st) 4) ((un hr nx r) 4) ((un hm nx n) 4), wB K.g (ho 5) ((un hs nx st) 5) ((un hr nx r) 5) ((un hm nx n) 5)] [(0, .ref (x 0)), (1, .int (nI k))] 39 [.int (nI (ct (fun y => decide (plc (r (foR k)) n y ≠ y)) n))]
  refine z_istore_n C hnL [1, 2, 0] [(0, .ref (x 0)), (1, .int (nI k)), (2, .int (nI (ct (fun y => decide (plc (r (foR k)) n y ≠ y)) n)))] rfl rfl (Nat.le_of_ble_eq_true rfl) dX4_order_39 40 rfl ?_
  refine z_aload_n C 0 rfl rfl dX4_order_40 41 rfl ?_
  refine z_get C zc4 iX4_order_X4 0 0 rfl rfl 0 (Nat.le_of_ble_eq_true rfl) (List.mem_of_getElem? (i := 2) rfl) (v := .ref (bd 0)) rfl dX4_order_41 44 rfl ?_
  refine z_aload_n C 0 rfl rfl dX4_order_44 45 rfl ?_
  refine z_get C zc4 iX4_order_X4 0 0 rfl rfl 1 (Nat.le_of_ble_eq_true rfl) (List.mem_of_getElem? (i := 3) rfl) (v := .ref (tr 0)) rfl dX4_order_45 48 rfl ?_
  refine z_callV C [.ref (tr 0)] [] (tX0_copyFrom K.l K.g bd st r n tr st (arR r (plc (r (foR k)) n) n) n ) gX4_order_X0_copyFrom rfl rfl rfl hdX0_copyFrom ⟨Nat.le_of_ble_eq_true rfl, Nat.le_of_ble_eq_true rfl⟩ ⟨Nat.zero_le _, Nat.zero_le _⟩ 1 0 rfl rfl rfl [1, 2] rfl rfl (zlc (N := 10) rfl rfl) [0, 10, 11, 3, 4, 5, 6, 7, 8, 9] rfl (by decide) (fun _ : Unit => [wX K.g x bd tr q p h sb sv, wB K.g bd st (arR r (plc (r (foR k)) n) n) n, wB K.g tr st (arR r (plc (r (foR k)) n) n) n, wH K.g h ho (min (kp + 1) 6) (if nx = 5 then 0 else nx + 1), wB K.g (ho 0) ((un hs nx st) 0) ((un hr nx r) 0) ((un hm nx n) 0), wB K.g (ho 1) ((un hs nx st) 1) ((un hr nx r) 1) ((un hm nx n) 1), wB K.g (ho 2) ((un hs nx st) 2) ((un hr nx r) 2) ((un hm nx n) 2), wB K.g (ho 3) ((un hs nx st) 3) ((un hr nx r) 3) ((un hm nx n) 3), wB K.g (ho 4) ((un hs nx st) 4) ((un hr nx r) 4) ((un hm nx n) 4), wB K.g (ho 5) ((un hs nx st) 5) ((un hr nx r) 5) ((un hm nx n) 5)]) (fun _ => rfl) rfl rfl (Nat.le_of_ble_eq_true rfl) dX4_order_48 51 rfl (fun u9 hu9 => ?_)
  show Z K 0 0 [wX K.g x bd tr q p h sb sv, wB K.g bd st (arR r (plc (r (foR k)) n) n) n, wB K.g tr st (arR r (plc (r (foR k)) n) n) n, wH K.g h ho (min (kp + 1) 6) (if nx = 5 then 0 else nx + 1), wB K.g (ho 0) ((un hs nx st) 0) ((un hr nx r) 0) ((un hm nx n) 0), wB K.g (ho 1) ((un hs nx st) 1) ((un hr nx r) 1) ((un hm nx n) 1), wB K.g (ho 2) ((un hs nx st) 2) ((un hr nx r) 2) ((un hm nx n) 2), wB K.g (ho 3) ((un hs nx st) 3) ((un hr nx r) 3) ((un hm nx n) 3), wB K.g (ho 4) ((un hs nx st) 4) ((un hr nx r) 4) ((un hm nx n) 4), wB K.g (ho 5) ((un hs nx st) 5) ((un hr nx r) 5) ((un hm nx n) 5)] [(0, .ref (x 0)), (1, .int (nI k)), (2, .int (nI (ct (fun y => decide (plc (r (foR k)) n y ≠ y)) n)))] 51 []
  refine z_iload_n C 2 rfl rfl dX4_order_51 52 rfl ?_
  exact z_iret C hRx dX4_order_52 () rfl trivial rfl

set_option maxHeartbeats 4000000 in
set_option maxRecDepth 100000 in
theorem tX4_jobOf_ns (l : Launch) (g : zG) (x bd tr q p h : Nat → Nat) (sb : Nat → Nat → Nat) (sv : Nat → Bool) (st : Nat → Nat) (r : Nat → Nat → Nat) (n : Nat) (v w : Int32) (hn : n ≤ 12) (hb : isJ v n = false) : Met l yX4_jobOf wsX4_jobOf ({ frames := 4, cells := 0, slots := 0, locals := 94 } : Room) (zPre g [.ref (x 0), .int v, .int w] [wX g x bd tr q p h sb sv, wB g bd st r n]) (zQ g (fun _ : Unit => some (.int (-1)) ) (fun _ : Unit => True) (fun _ : Unit => [wX g x bd tr q p h sb sv, wB g bd st r n]) (zA [wX g x bd tr q p h sb sv, wB g bd st r n])) 0 0 (zA [wX g x bd tr q p h sb sv, wB g bd st r n]) := by
  refine z_entry (cc := cX4_jobOf) (maxL := 3) (ret := (some .int)) (own := RX4) (by decide) rfl rfl (Nat.le_of_ble_eq_true rfl) [(0, .ref (x 0)), (1, .int v), (2, .int w)] rfl ?_
  intro K hKl hKg hnL C hRx
  subst hKl
  subst hKg
  refine z_aload_n C 0 rfl rfl dX4_jobOf_0 1 rfl ?_
  refine z_iload_n C 1 rfl rfl dX4_jobOf_1 2 rfl ?_
  refine z_callV C [.int v] [] (tX4_isJob K.l K.g x bd tr q p h sb sv st r n v (by first | omega | assumption)) gX4_jobOf_X4_isJob rfl rfl rfl hdX4_isJob ⟨Nat.le_of_ble_eq_true rfl, Nat.le_of_ble_eq_true rfl⟩ ⟨Nat.zero_le _, Nat.zero_le _⟩ 0 0 rfl rfl rfl [0, 1] rfl rfl (zlc (N := 2) rfl rfl) [2, 3] rfl (by decide) (fun _ : Unit => [wX K.g x bd tr q p h sb sv, wB K.g bd st r n]) (fun _ => rfl) rfl rfl (Nat.le_of_ble_eq_true rfl) dX4_jobOf_2 5 rfl (fun u9 hu9 => ?_)
  show Z K 0 0 [wX K.g x bd tr q p h sb sv, wB K.g bd st r n] [(0, .ref (x 0)), (1, .int v), (2, .int w)] 5 [.int (bI (isJ v n))]
  refine z_ifb_ne C 10 dX4_jobOf_5 (by decide) 8 rfl (fun c_1 => ?_) (fun c_1 => ?_)
  · exfalso; rw [hb] at c_1; exact Bool.noConfusion c_1
  refine z_iconst C (v := (-1)) rfl dX4_jobOf_8 9 rfl ?_
  exact z_iret C hRx dX4_jobOf_9 () rfl trivial rfl

set_option maxHeartbeats 4000000 in
set_option maxRecDepth 100000 in
theorem tX4_jobOf_bv (l : Launch) (g : zG) (x bd tr q p h : Nat → Nat) (sb : Nat → Nat → Nat) (sv : Nat → Bool) (st : Nat → Nat) (r : Nat → Nat → Nat) (n : Nat) (j : Nat) (w : Int32) (hn : n ≤ 12) (hj : j < n) (hb : rg w.toInt (Int.ofNat 0) (Int.ofNat 11) = false) : Met l yX4_jobOf wsX4_jobOf ({ frames := 4, cells := 0, slots := 0, locals := 94 } : Room) (zPre g [.ref (x 0), .int (nI j), .int w] [wX g x bd tr q p h sb sv, wB g bd st r n]) (zQ g (fun _ : Unit => some (.int (-2)) ) (fun _ : Unit => True) (fun _ : Unit => [wX g x bd tr q p h sb sv, wB g bd st r n]) (zA [wX g x bd tr q p h sb sv, wB g bd st r n])) 0 0 (zA [wX g x bd tr q p h sb sv, wB g bd st r n]) := by
  refine z_entry (cc := cX4_jobOf) (maxL := 3) (ret := (some .int)) (own := RX4) (by decide) rfl rfl (Nat.le_of_ble_eq_true rfl) [(0, .ref (x 0)), (1, .int (nI j)), (2, .int w)] rfl ?_
  intro K hKl hKg hnL C hRx
  subst hKl
  subst hKg
  refine z_aload_n C 0 rfl rfl dX4_jobOf_0 1 rfl ?_
  refine z_iload_n C 1 rfl rfl dX4_jobOf_1 2 rfl ?_
  refine z_callV C [.int (nI j)] [] (tX4_isJob K.l K.g x bd tr q p h sb sv st r n (nI j) (by first | omega | assumption)) gX4_jobOf_X4_isJob rfl rfl rfl hdX4_isJob ⟨Nat.le_of_ble_eq_true rfl, Nat.le_of_ble_eq_true rfl⟩ ⟨Nat.zero_le _, Nat.zero_le _⟩ 0 0 rfl rfl rfl [0, 1] rfl rfl (zlc (N := 2) rfl rfl) [2, 3] rfl (by decide) (fun _ : Unit => [wX K.g x bd tr q p h sb sv, wB K.g bd st r n]) (fun _ => rfl) rfl rfl (Nat.le_of_ble_eq_true rfl) dX4_jobOf_2 5 rfl (fun u9 hu9 => ?_)
  show Z K 0 0 [wX K.g x bd tr q p h sb sv, wB K.g bd st r n] [(0, .ref (x 0)), (1, .int (nI j)), (2, .int w)] 5 [.int (bI (isJ (nI j) n))]
  refine z_ifb_ne C 10 dX4_jobOf_5 (by decide) 8 rfl (fun c_1 => ?_) (fun c_1 => ?_)
  rotate_left
  · exfalso; rw [isJ_t (by omega) (by omega)] at c_1; exact Bool.noConfusion c_1
  refine z_iload_n C 2 rfl rfl dX4_jobOf_10 11 rfl ?_
  refine z_iconst C (v := nI 0) rfl dX4_jobOf_11 12 rfl ?_
  refine z_bipush C (v := nI 11) rfl dX4_jobOf_12 14 rfl ?_
  refine z_callP C [.int w, .int (nI 0), .int (nI 11)] [] (tX4_withinN K.l K.g w 0 11 (by first | omega | assumption) (by first | omega | assumption)) gX4_jobOf_X4_within rfl rfl rfl hdX4_within ⟨Nat.le_of_ble_eq_true rfl, Nat.le_of_ble_eq_true rfl⟩ ⟨Nat.zero_le _, Nat.zero_le _⟩ rfl rfl (Nat.le_of_ble_eq_true rfl) dX4_jobOf_14 17 rfl (fun u9 hu9 => ?_)
  show Z K 0 0 [wX K.g x bd tr q p h sb sv, wB K.g bd st r n] [(0, .ref (x 0)), (1, .int (nI j)), (2, .int w)] 17 [.int (bI (rg w.toInt (Int.ofNat 0) (Int.ofNat 11)))]
  refine z_ifb_ne C 23 dX4_jobOf_17 (by decide) 20 rfl (fun c_2 => ?_) (fun c_2 => ?_)
  · exfalso; rw [hb] at c_2; exact Bool.noConfusion c_2
  refine z_bipush C (v := (-2)) rfl dX4_jobOf_20 22 rfl ?_
  exact z_iret C hRx dX4_jobOf_22 () rfl trivial rfl

theorem iX4_jobOf_X0 : ∀ w ∈ u_ws RX0 TX0 3, w ∈ wsX4_jobOf := fun w h => (List.mem_cons_of_mem _ (List.mem_append_left _ (List.mem_append_right _ h)))
theorem iX4_jobOf_X3 : ∀ w ∈ u_ws RX3 TX3 18, w ∈ wsX4_jobOf := fun w h => (List.mem_cons_of_mem _ (List.mem_append_right _ h))
theorem iX4_jobOf_X4 : ∀ w ∈ u_ws RX4 TX4 7, w ∈ wsX4_jobOf := fun w h => (List.mem_cons_of_mem _ (List.mem_append_left _ (List.mem_append_left _ (List.mem_append_right _ h))))
set_option maxHeartbeats 4000000 in
set_option maxRecDepth 100000 in
theorem tX4_jobOf_ok (l : Launch) (g : zG) (x bd tr q p h : Nat → Nat) (sb : Nat → Nat → Nat) (sv : Nat → Bool) (a0 a1 a2 a3 a4 a5 a6 a7 : Nat → Nat) (s0 s1 s2 s3 s4 s5 s6 s7 s8 s9 : Nat) (st : Nat → Nat) (r : Nat → Nat → Nat) (n : Nat) (j k : Nat) (hn : n ≤ 12) (hS : okS st) (hJ : okJ r n) (hR : okR st r n (st 5)) (hj : j < n) (hk : k ≤ 11) : Met l yX4_jobOf wsX4_jobOf ({ frames := 4, cells := 0, slots := 0, locals := 94 } : Room) (zPre g [.ref (x 0), .int (nI j), .int (nI k)] [wX g x bd tr q p h sb sv, wP g q a0 a1 a2 a3 a4 a5 a6 a7 s0 s1 s2 s3 s4 s5 s6 s7 s8 s9, wB g bd st r n]) (zQ g (fun u : (Nat → Nat) × (Nat → Nat) × (Nat → Nat) × (Nat → Nat) × (Nat → Nat) × (Nat → Nat) × (Nat → Nat) × (Nat → Nat) × (Nat) × (Nat) × (Nat) × (Nat) × (Nat) × (Nat) × (Nat) × (Nat) × (Nat) × (Nat) => match u with | (c0, c1, c2, c3, c4, c5, c6, c7, d1, d2, d3, d4, d5, d6, d7, d8, d9, d0) => some (.int (nI (JO st r n j k))) ) (fun u : (Nat → Nat) × (Nat → Nat) × (Nat → Nat) × (Nat → Nat) × (Nat → Nat) × (Nat → Nat) × (Nat → Nat) × (Nat → Nat) × (Nat) × (Nat) × (Nat) × (Nat) × (Nat) × (Nat) × (Nat) × (Nat) × (Nat) × (Nat) => match u with | (c0, c1, c2, c3, c4, c5, c6, c7, d1, d2, d3, d4, d5, d6, d7, d8, d9, d0) => True) (fun u : (Nat → Nat) × (Nat → Nat) × (Nat → Nat) × (Nat → Nat) × (Nat → Nat) × (Nat → Nat) × (Nat → Nat) × (Nat → Nat) × (Nat) × (Nat) × (Nat) × (Nat) × (Nat) × (Nat) × (Nat) × (Nat) × (Nat) × (Nat) => match u with | (c0, c1, c2, c3, c4, c5, c6, c7, d1, d2, d3, d4, d5, d6, d7, d8, d9, d0) => [wX g x bd tr q p h sb sv, wP g q c0 c1 c2 c3 c4 c5 c6 c7 d0 d1 d2 d3 d4 d5 d6 d7 d8 d9, wB g bd st r n]) (zA [wX g x bd tr q p h sb sv, wP g q a0 a1 a2 a3 a4 a5 a6 a7 s0 s1 s2 s3 s4 s5 s6 s7 s8 s9, wB g bd st r n])) 0 0 (zA [wX g x bd tr q p h sb sv, wP g q a0 a1 a2 a3 a4 a5 a6 a7 s0 s1 s2 s3 s4 s5 s6 s7 s8 s9, wB g bd st r n]) := by
  refine z_entry (cc := cX4_jobOf) (maxL := 3) (ret := (some .int)) (own := RX4) (by decide) rfl rfl (Nat.le_of_ble_eq_true rfl) [(0, .ref (x 0)), (1, .int (nI j)), (2, .int (nI k))] rfl ?_
  intro K hKl hKg hnL C hRx
  subst hKl
  subst hKg
  rcases (show k = 0 ∨ k = 1 ∨ k = 2 ∨ k = 3 ∨ k = 4 ∨ k = 5 ∨ k = 6 ∨ k = 7 ∨ k = 8 ∨ k = 9 ∨ k = 10 ∨ k = 11 by omega) with rfl | rfl | rfl | rfl | rfl | rfl | rfl | rfl | rfl | rfl | rfl | rfl
  · skip
    refine z_aload_n C 0 rfl rfl dX4_jobOf_0 1 rfl ?_
    refine z_iload_n C 1 rfl rfl dX4_jobOf_1 2 rfl ?_
    refine z_callV C [.int (nI j)] [] (tX4_isJob K.l K.g x bd tr q p h sb sv st r n (nI j) (by first | omega | assumption)) gX4_jobOf_X4_isJob rfl rfl rfl hdX4_isJob ⟨Nat.le_of_ble_eq_true rfl, Nat.le_of_ble_eq_true rfl⟩ ⟨Nat.zero_le _, Nat.zero_le _⟩ 0 0 rfl rfl rfl [0, 2] rfl rfl (zlc (N := 3) rfl rfl) [3, 1, 4] rfl (by decide) (fun _ : Unit => [wX K.g x bd tr q p h sb sv, wP K.g q a0 a1 a2 a3 a4 a5 a6 a7 s0 s1 s2 s3 s4 s5 s6 s7 s8 s9, wB K.g bd st r n]) (fun _ => rfl) rfl rfl (Nat.le_of_ble_eq_true rfl) dX4_jobOf_2 5 rfl (fun u9 hu9 => ?_)
    show Z K 0 0 [wX K.g x bd tr q p h sb sv, wP K.g q a0 a1 a2 a3 a4 a5 a6 a7 s0 s1 s2 s3 s4 s5 s6 s7 s8 s9, wB K.g bd st r n] [(0, .ref (x 0)), (1, .int (nI j)), (2, .int (nI 0))] 5 [.int (bI (isJ (nI j) n))]
    refine z_ifb_ne C 10 dX4_jobOf_5 (by decide) 8 rfl (fun c_1 => ?_) (fun c_1 => ?_)
    rotate_left
    · exfalso; rw [isJ_t (by omega) (by omega)] at c_1; exact Bool.noConfusion c_1
    refine z_iload_n C 2 rfl rfl dX4_jobOf_10 11 rfl ?_
    refine z_iconst C (v := nI 0) rfl dX4_jobOf_11 12 rfl ?_
    refine z_bipush C (v := nI 11) rfl dX4_jobOf_12 14 rfl ?_
    refine z_callP C [.int (nI 0), .int (nI 0), .int (nI 11)] [] (tX4_withinN K.l K.g (nI 0) 0 11 (by first | omega | assumption) (by first | omega | assumption)) gX4_jobOf_X4_within rfl rfl rfl hdX4_within ⟨Nat.le_of_ble_eq_true rfl, Nat.le_of_ble_eq_true rfl⟩ ⟨Nat.zero_le _, Nat.zero_le _⟩ rfl rfl (Nat.le_of_ble_eq_true rfl) dX4_jobOf_14 17 rfl (fun u9 hu9 => ?_)
    show Z K 0 0 [wX K.g x bd tr q p h sb sv, wP K.g q a0 a1 a2 a3 a4 a5 a6 a7 s0 s1 s2 s3 s4 s5 s6 s7 s8 s9, wB K.g bd st r n] [(0, .ref (x 0)), (1, .int (nI j)), (2, .int (nI 0))] 17 [.int (bI (rg (nI 0).toInt (Int.ofNat 0) (Int.ofNat 11)))]
    refine z_ifb_ne C 23 dX4_jobOf_17 (by decide) 20 rfl (fun c_2 => ?_) (fun c_2 => ?_)
    rotate_left
    · exfalso; rw [rgN_t (by omega) (by omega) (by omega)] at c_2; exact Bool.noConfusion c_2
    refine z_iload_n C 2 rfl rfl dX4_jobOf_23 24 rfl ?_
    refine z_iconst C (v := nI 4) rfl dX4_jobOf_24 25 rfl ?_
    refine z_icmp_ge C (by omega) (by omega) 40 dX4_jobOf_25 (by decide) 28 rfl (fun c_3 => ?_) (fun c_3 => ?_)
    · exfalso; omega
    refine z_aload_n C 0 rfl rfl dX4_jobOf_28 29 rfl ?_
    refine z_get C zc4 iX4_jobOf_X4 0 0 rfl rfl 0 (Nat.le_of_ble_eq_true rfl) (List.mem_of_getElem? (i := 1) rfl) (v := .ref (bd 0)) rfl dX4_jobOf_29 32 rfl ?_
    refine z_get C zc0 iX4_jobOf_X0 2 0 rfl rfl 1 (Nat.le_of_ble_eq_true rfl) (List.mem_of_getElem? (i := 2) rfl) (v := .ref (bd 2)) rfl dX4_jobOf_32 35 rfl ?_
    refine z_iload_n C 2 rfl rfl dX4_jobOf_35 36 rfl ?_
    refine z_aald C (y := (bd 3)) 2 2 1 rfl rfl rfl rfl (by omega) (by decide) rfl dX4_jobOf_36 37 rfl ?_
    refine z_iload_n C 1 rfl rfl dX4_jobOf_37 38 rfl ?_
    refine z_iald C (f := (r 0)) 2 3 rfl rfl (by omega) (by decide) dX4_jobOf_38 39 rfl ?_
    exact z_iret C hRx dX4_jobOf_39 (a0, a1, a2, a3, a4, a5, a6, a7, s1, s2, s3, s4, s5, s6, s7, s8, s9, s0) rfl trivial rfl
  · skip
    refine z_aload_n C 0 rfl rfl dX4_jobOf_0 1 rfl ?_
    refine z_iload_n C 1 rfl rfl dX4_jobOf_1 2 rfl ?_
    refine z_callV C [.int (nI j)] [] (tX4_isJob K.l K.g x bd tr q p h sb sv st r n (nI j) (by first | omega | assumption)) gX4_jobOf_X4_isJob rfl rfl rfl hdX4_isJob ⟨Nat.le_of_ble_eq_true rfl, Nat.le_of_ble_eq_true rfl⟩ ⟨Nat.zero_le _, Nat.zero_le _⟩ 0 0 rfl rfl rfl [0, 2] rfl rfl (zlc (N := 3) rfl rfl) [3, 1, 4] rfl (by decide) (fun _ : Unit => [wX K.g x bd tr q p h sb sv, wP K.g q a0 a1 a2 a3 a4 a5 a6 a7 s0 s1 s2 s3 s4 s5 s6 s7 s8 s9, wB K.g bd st r n]) (fun _ => rfl) rfl rfl (Nat.le_of_ble_eq_true rfl) dX4_jobOf_2 5 rfl (fun u9 hu9 => ?_)
    show Z K 0 0 [wX K.g x bd tr q p h sb sv, wP K.g q a0 a1 a2 a3 a4 a5 a6 a7 s0 s1 s2 s3 s4 s5 s6 s7 s8 s9, wB K.g bd st r n] [(0, .ref (x 0)), (1, .int (nI j)), (2, .int (nI 1))] 5 [.int (bI (isJ (nI j) n))]
    refine z_ifb_ne C 10 dX4_jobOf_5 (by decide) 8 rfl (fun c_4 => ?_) (fun c_4 => ?_)
    rotate_left
    · exfalso; rw [isJ_t (by omega) (by omega)] at c_4; exact Bool.noConfusion c_4
    refine z_iload_n C 2 rfl rfl dX4_jobOf_10 11 rfl ?_
    refine z_iconst C (v := nI 0) rfl dX4_jobOf_11 12 rfl ?_
    refine z_bipush C (v := nI 11) rfl dX4_jobOf_12 14 rfl ?_
    refine z_callP C [.int (nI 1), .int (nI 0), .int (nI 11)] [] (tX4_withinN K.l K.g (nI 1) 0 11 (by first | omega | assumption) (by first | omega | assumption)) gX4_jobOf_X4_within rfl rfl rfl hdX4_within ⟨Nat.le_of_ble_eq_true rfl, Nat.le_of_ble_eq_true rfl⟩ ⟨Nat.zero_le _, Nat.zero_le _⟩ rfl rfl (Nat.le_of_ble_eq_true rfl) dX4_jobOf_14 17 rfl (fun u9 hu9 => ?_)
    show Z K 0 0 [wX K.g x bd tr q p h sb sv, wP K.g q a0 a1 a2 a3 a4 a5 a6 a7 s0 s1 s2 s3 s4 s5 s6 s7 s8 s9, wB K.g bd st r n] [(0, .ref (x 0)), (1, .int (nI j)), (2, .int (nI 1))] 17 [.int (bI (rg (nI 1).toInt (Int.ofNat 0) (Int.ofNat 11)))]
    refine z_ifb_ne C 23 dX4_jobOf_17 (by decide) 20 rfl (fun c_5 => ?_) (fun c_5 => ?_)
    rotate_left
    · exfalso; rw [rgN_t (by omega) (by omega) (by omega)] at c_5; exact Bool.noConfusion c_5
    refine z_iload_n C 2 rfl rfl dX4_jobOf_23 24 rfl ?_
    refine z_iconst C (v := nI 4) rfl dX4_jobOf_24 25 rfl ?_
    refine z_icmp_ge C (by omega) (by omega) 40 dX4_jobOf_25 (by decide) 28 rfl (fun c_6 => ?_) (fun c_6 => ?_)
    · exfalso; omega
    refine z_aload_n C 0 rfl rfl dX4_jobOf_28 29 rfl ?_
    refine z_get C zc4 iX4_jobOf_X4 0 0 rfl rfl 0 (Nat.le_of_ble_eq_true rfl) (List.mem_of_getElem? (i := 1) rfl) (v := .ref (bd 0)) rfl dX4_jobOf_29 32 rfl ?_
    refine z_get C zc0 iX4_jobOf_X0 2 0 rfl rfl 1 (Nat.le_of_ble_eq_true rfl) (List.mem_of_getElem? (i := 2) rfl) (v := .ref (bd 2)) rfl dX4_jobOf_32 35 rfl ?_
    refine z_iload_n C 2 rfl rfl dX4_jobOf_35 36 rfl ?_
    refine z_aald C (y := (bd 4)) 2 2 1 rfl rfl rfl rfl (by omega) (by decide) rfl dX4_jobOf_36 37 rfl ?_
    refine z_iload_n C 1 rfl rfl dX4_jobOf_37 38 rfl ?_
    refine z_iald C (f := (r 1)) 2 4 rfl rfl (by omega) (by decide) dX4_jobOf_38 39 rfl ?_
    exact z_iret C hRx dX4_jobOf_39 (a0, a1, a2, a3, a4, a5, a6, a7, s1, s2, s3, s4, s5, s6, s7, s8, s9, s0) rfl trivial rfl
  · skip
    refine z_aload_n C 0 rfl rfl dX4_jobOf_0 1 rfl ?_
    refine z_iload_n C 1 rfl rfl dX4_jobOf_1 2 rfl ?_
    refine z_callV C [.int (nI j)] [] (tX4_isJob K.l K.g x bd tr q p h sb sv st r n (nI j) (by first | omega | assumption)) gX4_jobOf_X4_isJob rfl rfl rfl hdX4_isJob ⟨Nat.le_of_ble_eq_true rfl, Nat.le_of_ble_eq_true rfl⟩ ⟨Nat.zero_le _, Nat.zero_le _⟩ 0 0 rfl rfl rfl [0, 2] rfl rfl (zlc (N := 3) rfl rfl) [3, 1, 4] rfl (by decide) (fun _ : Unit => [wX K.g x bd tr q p h sb sv, wP K.g q a0 a1 a2 a3 a4 a5 a6 a7 s0 s1 s2 s3 s4 s5 s6 s7 s8 s9, wB K.g bd st r n]) (fun _ => rfl) rfl rfl (Nat.le_of_ble_eq_true rfl) dX4_jobOf_2 5 rfl (fun u9 hu9 => ?_)
    show Z K 0 0 [wX K.g x bd tr q p h sb sv, wP K.g q a0 a1 a2 a3 a4 a5 a6 a7 s0 s1 s2 s3 s4 s5 s6 s7 s8 s9, wB K.g bd st r n] [(0, .ref (x 0)), (1, .int (nI j)), (2, .int (nI 2))] 5 [.int (bI (isJ (nI j) n))]
    refine z_ifb_ne C 10 dX4_jobOf_5 (by decide) 8 rfl (fun c_7 => ?_) (fun c_7 => ?_)
    rotate_left
    · exfalso; rw [isJ_t (by omega) (by omega)] at c_7; exact Bool.noConfusion c_7
    refine z_iload_n C 2 rfl rfl dX4_jobOf_10 11 rfl ?_
    refine z_iconst C (v := nI 0) rfl dX4_jobOf_11 12 rfl ?_
    refine z_bipush C (v := nI 11) rfl dX4_jobOf_12 14 rfl ?_
    refine z_callP C [.int (nI 2), .int (nI 0), .int (nI 11)] [] (tX4_withinN K.l K.g (nI 2) 0 11 (by first | omega | assumption) (by first | omega | assumption)) gX4_jobOf_X4_within rfl rfl rfl hdX4_within ⟨Nat.le_of_ble_eq_true rfl, Nat.le_of_ble_eq_true rfl⟩ ⟨Nat.zero_le _, Nat.zero_le _⟩ rfl rfl (Nat.le_of_ble_eq_true rfl) dX4_jobOf_14 17 rfl (fun u9 hu9 => ?_)
    show Z K 0 0 [wX K.g x bd tr q p h sb sv, wP K.g q a0 a1 a2 a3 a4 a5 a6 a7 s0 s1 s2 s3 s4 s5 s6 s7 s8 s9, wB K.g bd st r n] [(0, .ref (x 0)), (1, .int (nI j)), (2, .int (nI 2))] 17 [.int (bI (rg (nI 2).toInt (Int.ofNat 0) (Int.ofNat 11)))]
    refine z_ifb_ne C 23 dX4_jobOf_17 (by decide) 20 rfl (fun c_8 => ?_) (fun c_8 => ?_)
    rotate_left
    · exfalso; rw [rgN_t (by omega) (by omega) (by omega)] at c_8; exact Bool.noConfusion c_8
    refine z_iload_n C 2 rfl rfl dX4_jobOf_23 24 rfl ?_
    refine z_iconst C (v := nI 4) rfl dX4_jobOf_24 25 rfl ?_
    refine z_icmp_ge C (by omega) (by omega) 40 dX4_jobOf_25 (by decide) 28 rfl (fun c_9 => ?_) (fun c_9 => ?_)
    · exfalso; omega
    refine z_aload_n C 0 rfl rfl dX4_jobOf_28 29 rfl ?_
    refine z_get C zc4 iX4_jobOf_X4 0 0 rfl rfl 0 (Nat.le_of_ble_eq_true rfl) (List.mem_of_getElem? (i := 1) rfl) (v := .ref (bd 0)) rfl dX4_jobOf_29 32 rfl ?_
    refine z_get C zc0 iX4_jobOf_X0 2 0 rfl rfl 1 (Nat.le_of_ble_eq_true rfl) (List.mem_of_getElem? (i := 2) rfl) (v := .ref (bd 2)) rfl dX4_jobOf_32 35 rfl ?_
    refine z_iload_n C 2 rfl rfl dX4_jobOf_35 36 rfl ?_
    refine z_aald C (y := (bd 5)) 2 2 1 rfl rfl rfl rfl (by omega) (by decide) rfl dX4_jobOf_36 37 rfl ?_
    refine z_iload_n C 1 rfl rfl dX4_jobOf_37 38 rfl ?_
    refine z_iald C (f := (r 2)) 2 5 rfl rfl (by omega) (by decide) dX4_jobOf_38 39 rfl ?_
    exact z_iret C hRx dX4_jobOf_39 (a0, a1, a2, a3, a4, a5, a6, a7, s1, s2, s3, s4, s5, s6, s7, s8, s9, s0) rfl trivial rfl
  · skip
    refine z_aload_n C 0 rfl rfl dX4_jobOf_0 1 rfl ?_
    refine z_iload_n C 1 rfl rfl dX4_jobOf_1 2 rfl ?_
    refine z_callV C [.int (nI j)] [] (tX4_isJob K.l K.g x bd tr q p h sb sv st r n (nI j) (by first | omega | assumption)) gX4_jobOf_X4_isJob rfl rfl rfl hdX4_isJob ⟨Nat.le_of_ble_eq_true rfl, Nat.le_of_ble_eq_true rfl⟩ ⟨Nat.zero_le _, Nat.zero_le _⟩ 0 0 rfl rfl rfl [0, 2] rfl rfl (zlc (N := 3) rfl rfl) [3, 1, 4] rfl (by decide) (fun _ : Unit => [wX K.g x bd tr q p h sb sv, wP K.g q a0 a1 a2 a3 a4 a5 a6 a7 s0 s1 s2 s3 s4 s5 s6 s7 s8 s9, wB K.g bd st r n]) (fun _ => rfl) rfl rfl (Nat.le_of_ble_eq_true rfl) dX4_jobOf_2 5 rfl (fun u9 hu9 => ?_)
    show Z K 0 0 [wX K.g x bd tr q p h sb sv, wP K.g q a0 a1 a2 a3 a4 a5 a6 a7 s0 s1 s2 s3 s4 s5 s6 s7 s8 s9, wB K.g bd st r n] [(0, .ref (x 0)), (1, .int (nI j)), (2, .int (nI 3))] 5 [.int (bI (isJ (nI j) n))]
    refine z_ifb_ne C 10 dX4_jobOf_5 (by decide) 8 rfl (fun c_10 => ?_) (fun c_10 => ?_)
    rotate_left
    · exfalso; rw [isJ_t (by omega) (by omega)] at c_10; exact Bool.noConfusion c_10
    refine z_iload_n C 2 rfl rfl dX4_jobOf_10 11 rfl ?_
    refine z_iconst C (v := nI 0) rfl dX4_jobOf_11 12 rfl ?_
    refine z_bipush C (v := nI 11) rfl dX4_jobOf_12 14 rfl ?_
    refine z_callP C [.int (nI 3), .int (nI 0), .int (nI 11)] [] (tX4_withinN K.l K.g (nI 3) 0 11 (by first | omega | assumption) (by first | omega | assumption)) gX4_jobOf_X4_within rfl rfl rfl hdX4_within ⟨Nat.le_of_ble_eq_true rfl, Nat.le_of_ble_eq_true rfl⟩ ⟨Nat.zero_le _, Nat.zero_le _⟩ rfl rfl (Nat.le_of_ble_eq_true rfl) dX4_jobOf_14 17 rfl (fun u9 hu9 => ?_)
    show Z K 0 0 [wX K.g x bd tr q p h sb sv, wP K.g q a0 a1 a2 a3 a4 a5 a6 a7 s0 s1 s2 s3 s4 s5 s6 s7 s8 s9, wB K.g bd st r n] [(0, .ref (x 0)), (1, .int (nI j)), (2, .int (nI 3))] 17 [.int (bI (rg (nI 3).toInt (Int.ofNat 0) (Int.ofNat 11)))]
    refine z_ifb_ne C 23 dX4_jobOf_17 (by decide) 20 rfl (fun c_11 => ?_) (fun c_11 => ?_)
    rotate_left
    · exfalso; rw [rgN_t (by omega) (by omega) (by omega)] at c_11; exact Bool.noConfusion c_11
    refine z_iload_n C 2 rfl rfl dX4_jobOf_23 24 rfl ?_
    refine z_iconst C (v := nI 4) rfl dX4_jobOf_24 25 rfl ?_
    refine z_icmp_ge C (by omega) (by omega) 40 dX4_jobOf_25 (by decide) 28 rfl (fun c_12 => ?_) (fun c_12 => ?_)
    · exfalso; omega
    refine z_aload_n C 0 rfl rfl dX4_jobOf_28 29 rfl ?_
    refine z_get C zc4 iX4_jobOf_X4 0 0 rfl rfl 0 (Nat.le_of_ble_eq_true rfl) (List.mem_of_getElem? (i := 1) rfl) (v := .ref (bd 0)) rfl dX4_jobOf_29 32 rfl ?_
    refine z_get C zc0 iX4_jobOf_X0 2 0 rfl rfl 1 (Nat.le_of_ble_eq_true rfl) (List.mem_of_getElem? (i := 2) rfl) (v := .ref (bd 2)) rfl dX4_jobOf_32 35 rfl ?_
    refine z_iload_n C 2 rfl rfl dX4_jobOf_35 36 rfl ?_
    refine z_aald C (y := (bd 6)) 2 2 1 rfl rfl rfl rfl (by omega) (by decide) rfl dX4_jobOf_36 37 rfl ?_
    refine z_iload_n C 1 rfl rfl dX4_jobOf_37 38 rfl ?_
    refine z_iald C (f := (r 3)) 2 6 rfl rfl (by omega) (by decide) dX4_jobOf_38 39 rfl ?_
    exact z_iret C hRx dX4_jobOf_39 (a0, a1, a2, a3, a4, a5, a6, a7, s1, s2, s3, s4, s5, s6, s7, s8, s9, s0) rfl trivial rfl
  · skip
    refine z_aload_n C 0 rfl rfl dX4_jobOf_0 1 rfl ?_
    refine z_iload_n C 1 rfl rfl dX4_jobOf_1 2 rfl ?_
    refine z_callV C [.int (nI j)] [] (tX4_isJob K.l K.g x bd tr q p h sb sv st r n (nI j) (by first | omega | assumption)) gX4_jobOf_X4_isJob rfl rfl rfl hdX4_isJob ⟨Nat.le_of_ble_eq_true rfl, Nat.le_of_ble_eq_true rfl⟩ ⟨Nat.zero_le _, Nat.zero_le _⟩ 0 0 rfl rfl rfl [0, 2] rfl rfl (zlc (N := 3) rfl rfl) [3, 1, 4] rfl (by decide) (fun _ : Unit => [wX K.g x bd tr q p h sb sv, wP K.g q a0 a1 a2 a3 a4 a5 a6 a7 s0 s1 s2 s3 s4 s5 s6 s7 s8 s9, wB K.g bd st r n]) (fun _ => rfl) rfl rfl (Nat.le_of_ble_eq_true rfl) dX4_jobOf_2 5 rfl (fun u9 hu9 => ?_)
    show Z K 0 0 [wX K.g x bd tr q p h sb sv, wP K.g q a0 a1 a2 a3 a4 a5 a6 a7 s0 s1 s2 s3 s4 s5 s6 s7 s8 s9, wB K.g bd st r n] [(0, .ref (x 0)), (1, .int (nI j)), (2, .int (nI 4))] 5 [.int (bI (isJ (nI j) n))]
    refine z_ifb_ne C 10 dX4_jobOf_5 (by decide) 8 rfl (fun c_13 => ?_) (fun c_13 => ?_)
    rotate_left
    · exfalso; rw [isJ_t (by omega) (by omega)] at c_13; exact Bool.noConfusion c_13
    refine z_iload_n C 2 rfl rfl dX4_jobOf_10 11 rfl ?_
    refine z_iconst C (v := nI 0) rfl dX4_jobOf_11 12 rfl ?_
    refine z_bipush C (v := nI 11) rfl dX4_jobOf_12 14 rfl ?_
    refine z_callP C [.int (nI 4), .int (nI 0), .int (nI 11)] [] (tX4_withinN K.l K.g (nI 4) 0 11 (by first | omega | assumption) (by first | omega | assumption)) gX4_jobOf_X4_within rfl rfl rfl hdX4_within ⟨Nat.le_of_ble_eq_true rfl, Nat.le_of_ble_eq_true rfl⟩ ⟨Nat.zero_le _, Nat.zero_le _⟩ rfl rfl (Nat.le_of_ble_eq_true rfl) dX4_jobOf_14 17 rfl (fun u9 hu9 => ?_)
    show Z K 0 0 [wX K.g x bd tr q p h sb sv, wP K.g q a0 a1 a2 a3 a4 a5 a6 a7 s0 s1 s2 s3 s4 s5 s6 s7 s8 s9, wB K.g bd st r n] [(0, .ref (x 0)), (1, .int (nI j)), (2, .int (nI 4))] 17 [.int (bI (rg (nI 4).toInt (Int.ofNat 0) (Int.ofNat 11)))]
    refine z_ifb_ne C 23 dX4_jobOf_17 (by decide) 20 rfl (fun c_14 => ?_) (fun c_14 => ?_)
    rotate_left
    · exfalso; rw [rgN_t (by omega) (by omega) (by omega)] at c_14; exact Bool.noConfusion c_14
    refine z_iload_n C 2 rfl rfl dX4_jobOf_23 24 rfl ?_
    refine z_iconst C (v := nI 4) rfl dX4_jobOf_24 25 rfl ?_
    refine z_icmp_ge C (by omega) (by omega) 40 dX4_jobOf_25 (by decide) 28 rfl (fun c_15 => ?_) (fun c_15 => ?_)
    rotate_left
    · exfalso; omega
    refine z_aload_n C 0 rfl rfl dX4_jobOf_40 41 rfl ?_
    refine z_get C zc4 iX4_jobOf_X4 0 0 rfl rfl 2 (Nat.le_of_ble_eq_true rfl) (List.mem_of_getElem? (i := 3) rfl) (v := .ref (q 0)) rfl dX4_jobOf_41 44 rfl ?_
    refine z_aload_n C 0 rfl rfl dX4_jobOf_44 45 rfl ?_
    refine z_get C zc4 iX4_jobOf_X4 0 0 rfl rfl 0 (Nat.le_of_ble_eq_true rfl) (List.mem_of_getElem? (i := 1) rfl) (v := .ref (bd 0)) rfl dX4_jobOf_45 48 rfl ?_
    refine z_aload_n C 0 rfl rfl dX4_jobOf_48 49 rfl ?_
    refine z_get C zc4 iX4_jobOf_X4 0 0 rfl rfl 0 (Nat.le_of_ble_eq_true rfl) (List.mem_of_getElem? (i := 1) rfl) (v := .ref (bd 0)) rfl dX4_jobOf_49 52 rfl ?_
    refine z_get C zc0 iX4_jobOf_X0 2 0 rfl rfl 0 (Nat.le_of_ble_eq_true rfl) (List.mem_of_getElem? (i := 4) rfl) (v := .ref (bd 1)) rfl dX4_jobOf_52 55 rfl ?_
    refine z_iconst C (v := nI 5) rfl dX4_jobOf_55 56 rfl ?_
    refine z_iald C (f := st) 2 1 rfl rfl (by omega) (by decide) dX4_jobOf_56 57 rfl ?_
    refine z_callV C [.ref (bd 0), .int (nI (st 5))] [] (tX3_print K.l K.g q a0 a1 a2 a3 a4 a5 a6 a7 s0 s1 s2 s3 s4 s5 s6 s7 s8 s9 bd st r n (st 5) hS hJ hn hR (by have := hS.2.2.2.2.2.2.2.1; omega)) gX4_jobOf_X3_print rfl rfl rfl hdX3_print ⟨Nat.le_of_ble_eq_true rfl, Nat.le_of_ble_eq_true rfl⟩ ⟨Nat.zero_le _, Nat.zero_le _⟩ 1 0 rfl rfl rfl [1, 2] rfl rfl (zlc (N := 3) rfl rfl) [0, 3, 4] rfl (by decide) (fun u : (Nat → Nat) × (Nat → Nat) × (Nat → Nat) × (Nat → Nat) × (Nat → Nat) × (Nat → Nat) × (Nat → Nat) × (Nat → Nat) × (Nat) × (Nat) × (Nat) × (Nat) × (Nat) × (Nat) × (Nat) × (Nat) × (Nat) => match u with | (c0, c1, c2, c3, c4, c5, c6, c7, d1, d2, d3, d4, d5, d6, d7, d8, d9) => [wX K.g x bd tr q p h sb sv, wP K.g q c0 c1 c2 c3 c4 c5 c6 c7 n d1 d2 d3 d4 d5 d6 d7 d8 d9, wB K.g bd st r n]) (fun _ => rfl) rfl rfl (Nat.le_of_ble_eq_true rfl) dX4_jobOf_57 60 rfl (fun u9 hu9 => ?_)
    obtain ⟨c0, c1, c2, c3, c4, c5, c6, c7, d1, d2, d3, d4, d5, d6, d7, d8, d9⟩ := u9
    have hp := hu9
    have hp : PI st r (st 5) n c0 c1 c2 c3 c4 c5 c6 c7 d1 d2 d3 d4 d5 d6 d7 d8 d9 := hp
    show Z K 0 0 [wX K.g x bd tr q p h sb sv, wP K.g q c0 c1 c2 c3 c4 c5 c6 c7 n d1 d2 d3 d4 d5 d6 d7 d8 d9, wB K.g bd st r n] [(0, .ref (x 0)), (1, .int (nI j)), (2, .int (nI 4))] 60 []
    have hq := PI_all hp
    refine z_iload_n C 2 rfl rfl dX4_jobOf_60 61 rfl ?_
    refine z_tab C (by decide) 104 dX4_jobOf_61 (by decide) (by decide) rfl (by decide) ?_
    refine z_aload_n C 0 rfl rfl dX4_jobOf_104 105 rfl ?_
    refine z_get C zc4 iX4_jobOf_X4 0 0 rfl rfl 2 (Nat.le_of_ble_eq_true rfl) (List.mem_of_getElem? (i := 3) rfl) (v := .ref (q 0)) rfl dX4_jobOf_105 108 rfl ?_
    refine z_get C zc3 iX4_jobOf_X3 1 0 rfl rfl 0 (Nat.le_of_ble_eq_true rfl) (List.mem_of_getElem? (i := 5) rfl) (v := .ref (q 1)) rfl dX4_jobOf_108 111 rfl ?_
    refine z_iload_n C 1 rfl rfl dX4_jobOf_111 112 rfl ?_
    refine z_iald C (f := c0) 1 1 rfl rfl (by omega) (by decide) dX4_jobOf_112 113 rfl ?_
    exact z_iret C hRx dX4_jobOf_113 (c0, c1, c2, c3, c4, c5, c6, c7, d1, d2, d3, d4, d5, d6, d7, d8, d9, n) (congrArg (fun z => some (Value.int (nI z))) (hq.2.1 j hj).1.symm) trivial rfl
  · skip
    refine z_aload_n C 0 rfl rfl dX4_jobOf_0 1 rfl ?_
    refine z_iload_n C 1 rfl rfl dX4_jobOf_1 2 rfl ?_
    refine z_callV C [.int (nI j)] [] (tX4_isJob K.l K.g x bd tr q p h sb sv st r n (nI j) (by first | omega | assumption)) gX4_jobOf_X4_isJob rfl rfl rfl hdX4_isJob ⟨Nat.le_of_ble_eq_true rfl, Nat.le_of_ble_eq_true rfl⟩ ⟨Nat.zero_le _, Nat.zero_le _⟩ 0 0 rfl rfl rfl [0, 2] rfl rfl (zlc (N := 3) rfl rfl) [3, 1, 4] rfl (by decide) (fun _ : Unit => [wX K.g x bd tr q p h sb sv, wP K.g q a0 a1 a2 a3 a4 a5 a6 a7 s0 s1 s2 s3 s4 s5 s6 s7 s8 s9, wB K.g bd st r n]) (fun _ => rfl) rfl rfl (Nat.le_of_ble_eq_true rfl) dX4_jobOf_2 5 rfl (fun u9 hu9 => ?_)
    show Z K 0 0 [wX K.g x bd tr q p h sb sv, wP K.g q a0 a1 a2 a3 a4 a5 a6 a7 s0 s1 s2 s3 s4 s5 s6 s7 s8 s9, wB K.g bd st r n] [(0, .ref (x 0)), (1, .int (nI j)), (2, .int (nI 5))] 5 [.int (bI (isJ (nI j) n))]
    refine z_ifb_ne C 10 dX4_jobOf_5 (by decide) 8 rfl (fun c_16 => ?_) (fun c_16 => ?_)
    rotate_left
    · exfalso; rw [isJ_t (by omega) (by omega)] at c_16; exact Bool.noConfusion c_16
    refine z_iload_n C 2 rfl rfl dX4_jobOf_10 11 rfl ?_
    refine z_iconst C (v := nI 0) rfl dX4_jobOf_11 12 rfl ?_
    refine z_bipush C (v := nI 11) rfl dX4_jobOf_12 14 rfl ?_
    refine z_callP C [.int (nI 5), .int (nI 0), .int (nI 11)] [] (tX4_withinN K.l K.g (nI 5) 0 11 (by first | omega | assumption) (by first | omega | assumption)) gX4_jobOf_X4_within rfl rfl rfl hdX4_within ⟨Nat.le_of_ble_eq_true rfl, Nat.le_of_ble_eq_true rfl⟩ ⟨Nat.zero_le _, Nat.zero_le _⟩ rfl rfl (Nat.le_of_ble_eq_true rfl) dX4_jobOf_14 17 rfl (fun u9 hu9 => ?_)
    show Z K 0 0 [wX K.g x bd tr q p h sb sv, wP K.g q a0 a1 a2 a3 a4 a5 a6 a7 s0 s1 s2 s3 s4 s5 s6 s7 s8 s9, wB K.g bd st r n] [(0, .ref (x 0)), (1, .int (nI j)), (2, .int (nI 5))] 17 [.int (bI (rg (nI 5).toInt (Int.ofNat 0) (Int.ofNat 11)))]
    refine z_ifb_ne C 23 dX4_jobOf_17 (by decide) 20 rfl (fun c_17 => ?_) (fun c_17 => ?_)
    rotate_left
    · exfalso; rw [rgN_t (by omega) (by omega) (by omega)] at c_17; exact Bool.noConfusion c_17
    refine z_iload_n C 2 rfl rfl dX4_jobOf_23 24 rfl ?_
    refine z_iconst C (v := nI 4) rfl dX4_jobOf_24 25 rfl ?_
    refine z_icmp_ge C (by omega) (by omega) 40 dX4_jobOf_25 (by decide) 28 rfl (fun c_18 => ?_) (fun c_18 => ?_)
    rotate_left
    · exfalso; omega
    refine z_aload_n C 0 rfl rfl dX4_jobOf_40 41 rfl ?_
    refine z_get C zc4 iX4_jobOf_X4 0 0 rfl rfl 2 (Nat.le_of_ble_eq_true rfl) (List.mem_of_getElem? (i := 3) rfl) (v := .ref (q 0)) rfl dX4_jobOf_41 44 rfl ?_
    refine z_aload_n C 0 rfl rfl dX4_jobOf_44 45 rfl ?_
    refine z_get C zc4 iX4_jobOf_X4 0 0 rfl rfl 0 (Nat.le_of_ble_eq_true rfl) (List.mem_of_getElem? (i := 1) rfl) (v := .ref (bd 0)) rfl dX4_jobOf_45 48 rfl ?_
    refine z_aload_n C 0 rfl rfl dX4_jobOf_48 49 rfl ?_
    refine z_get C zc4 iX4_jobOf_X4 0 0 rfl rfl 0 (Nat.le_of_ble_eq_true rfl) (List.mem_of_getElem? (i := 1) rfl) (v := .ref (bd 0)) rfl dX4_jobOf_49 52 rfl ?_
    refine z_get C zc0 iX4_jobOf_X0 2 0 rfl rfl 0 (Nat.le_of_ble_eq_true rfl) (List.mem_of_getElem? (i := 4) rfl) (v := .ref (bd 1)) rfl dX4_jobOf_52 55 rfl ?_
    refine z_iconst C (v := nI 5) rfl dX4_jobOf_55 56 rfl ?_
    refine z_iald C (f := st) 2 1 rfl rfl (by omega) (by decide) dX4_jobOf_56 57 rfl ?_
    refine z_callV C [.ref (bd 0), .int (nI (st 5))] [] (tX3_print K.l K.g q a0 a1 a2 a3 a4 a5 a6 a7 s0 s1 s2 s3 s4 s5 s6 s7 s8 s9 bd st r n (st 5) hS hJ hn hR (by have := hS.2.2.2.2.2.2.2.1; omega)) gX4_jobOf_X3_print rfl rfl rfl hdX3_print ⟨Nat.le_of_ble_eq_true rfl, Nat.le_of_ble_eq_true rfl⟩ ⟨Nat.zero_le _, Nat.zero_le _⟩ 1 0 rfl rfl rfl [1, 2] rfl rfl (zlc (N := 3) rfl rfl) [0, 3, 4] rfl (by decide) (fun u : (Nat → Nat) × (Nat → Nat) × (Nat → Nat) × (Nat → Nat) × (Nat → Nat) × (Nat → Nat) × (Nat → Nat) × (Nat → Nat) × (Nat) × (Nat) × (Nat) × (Nat) × (Nat) × (Nat) × (Nat) × (Nat) × (Nat) => match u with | (c0, c1, c2, c3, c4, c5, c6, c7, d1, d2, d3, d4, d5, d6, d7, d8, d9) => [wX K.g x bd tr q p h sb sv, wP K.g q c0 c1 c2 c3 c4 c5 c6 c7 n d1 d2 d3 d4 d5 d6 d7 d8 d9, wB K.g bd st r n]) (fun _ => rfl) rfl rfl (Nat.le_of_ble_eq_true rfl) dX4_jobOf_57 60 rfl (fun u9 hu9 => ?_)
    obtain ⟨c0, c1, c2, c3, c4, c5, c6, c7, d1, d2, d3, d4, d5, d6, d7, d8, d9⟩ := u9
    have hp := hu9
    have hp : PI st r (st 5) n c0 c1 c2 c3 c4 c5 c6 c7 d1 d2 d3 d4 d5 d6 d7 d8 d9 := hp
    show Z K 0 0 [wX K.g x bd tr q p h sb sv, wP K.g q c0 c1 c2 c3 c4 c5 c6 c7 n d1 d2 d3 d4 d5 d6 d7 d8 d9, wB K.g bd st r n] [(0, .ref (x 0)), (1, .int (nI j)), (2, .int (nI 5))] 60 []
    have hq := PI_all hp
    refine z_iload_n C 2 rfl rfl dX4_jobOf_60 61 rfl ?_
    refine z_tab C (by decide) 114 dX4_jobOf_61 (by decide) (by decide) rfl (by decide) ?_
    refine z_aload_n C 0 rfl rfl dX4_jobOf_114 115 rfl ?_
    refine z_get C zc4 iX4_jobOf_X4 0 0 rfl rfl 2 (Nat.le_of_ble_eq_true rfl) (List.mem_of_getElem? (i := 3) rfl) (v := .ref (q 0)) rfl dX4_jobOf_115 118 rfl ?_
    refine z_get C zc3 iX4_jobOf_X3 1 0 rfl rfl 4 (Nat.le_of_ble_eq_true rfl) (List.mem_of_getElem? (i := 6) rfl) (v := .ref (q 5)) rfl dX4_jobOf_118 121 rfl ?_
    refine z_iload_n C 1 rfl rfl dX4_jobOf_121 122 rfl ?_
    refine z_iald C (f := c4) 1 5 rfl rfl (by omega) (by decide) dX4_jobOf_122 123 rfl ?_
    exact z_iret C hRx dX4_jobOf_123 (c0, c1, c2, c3, c4, c5, c6, c7, d1, d2, d3, d4, d5, d6, d7, d8, d9, n) (congrArg (fun z => some (Value.int (nI z))) (hq.2.1 j hj).2.2.2.2.1.symm) trivial rfl
  · skip
    refine z_aload_n C 0 rfl rfl dX4_jobOf_0 1 rfl ?_
    refine z_iload_n C 1 rfl rfl dX4_jobOf_1 2 rfl ?_
    refine z_callV C [.int (nI j)] [] (tX4_isJob K.l K.g x bd tr q p h sb sv st r n (nI j) (by first | omega | assumption)) gX4_jobOf_X4_isJob rfl rfl rfl hdX4_isJob ⟨Nat.le_of_ble_eq_true rfl, Nat.le_of_ble_eq_true rfl⟩ ⟨Nat.zero_le _, Nat.zero_le _⟩ 0 0 rfl rfl rfl [0, 2] rfl rfl (zlc (N := 3) rfl rfl) [3, 1, 4] rfl (by decide) (fun _ : Unit => [wX K.g x bd tr q p h sb sv, wP K.g q a0 a1 a2 a3 a4 a5 a6 a7 s0 s1 s2 s3 s4 s5 s6 s7 s8 s9, wB K.g bd st r n]) (fun _ => rfl) rfl rfl (Nat.le_of_ble_eq_true rfl) dX4_jobOf_2 5 rfl (fun u9 hu9 => ?_)
    show Z K 0 0 [wX K.g x bd tr q p h sb sv, wP K.g q a0 a1 a2 a3 a4 a5 a6 a7 s0 s1 s2 s3 s4 s5 s6 s7 s8 s9, wB K.g bd st r n] [(0, .ref (x 0)), (1, .int (nI j)), (2, .int (nI 6))] 5 [.int (bI (isJ (nI j) n))]
    refine z_ifb_ne C 10 dX4_jobOf_5 (by decide) 8 rfl (fun c_19 => ?_) (fun c_19 => ?_)
    rotate_left
    · exfalso; rw [isJ_t (by omega) (by omega)] at c_19; exact Bool.noConfusion c_19
    refine z_iload_n C 2 rfl rfl dX4_jobOf_10 11 rfl ?_
    refine z_iconst C (v := nI 0) rfl dX4_jobOf_11 12 rfl ?_
    refine z_bipush C (v := nI 11) rfl dX4_jobOf_12 14 rfl ?_
    refine z_callP C [.int (nI 6), .int (nI 0), .int (nI 11)] [] (tX4_withinN K.l K.g (nI 6) 0 11 (by first | omega | assumption) (by first | omega | assumption)) gX4_jobOf_X4_within rfl rfl rfl hdX4_within ⟨Nat.le_of_ble_eq_true rfl, Nat.le_of_ble_eq_true rfl⟩ ⟨Nat.zero_le _, Nat.zero_le _⟩ rfl rfl (Nat.le_of_ble_eq_true rfl) dX4_jobOf_14 17 rfl (fun u9 hu9 => ?_)
    show Z K 0 0 [wX K.g x bd tr q p h sb sv, wP K.g q a0 a1 a2 a3 a4 a5 a6 a7 s0 s1 s2 s3 s4 s5 s6 s7 s8 s9, wB K.g bd st r n] [(0, .ref (x 0)), (1, .int (nI j)), (2, .int (nI 6))] 17 [.int (bI (rg (nI 6).toInt (Int.ofNat 0) (Int.ofNat 11)))]
    refine z_ifb_ne C 23 dX4_jobOf_17 (by decide) 20 rfl (fun c_20 => ?_) (fun c_20 => ?_)
    rotate_left
    · exfalso; rw [rgN_t (by omega) (by omega) (by omega)] at c_20; exact Bool.noConfusion c_20
    refine z_iload_n C 2 rfl rfl dX4_jobOf_23 24 rfl ?_
    refine z_iconst C (v := nI 4) rfl dX4_jobOf_24 25 rfl ?_
    refine z_icmp_ge C (by omega) (by omega) 40 dX4_jobOf_25 (by decide) 28 rfl (fun c_21 => ?_) (fun c_21 => ?_)
    rotate_left
    · exfalso; omega
    refine z_aload_n C 0 rfl rfl dX4_jobOf_40 41 rfl ?_
    refine z_get C zc4 iX4_jobOf_X4 0 0 rfl rfl 2 (Nat.le_of_ble_eq_true rfl) (List.mem_of_getElem? (i := 3) rfl) (v := .ref (q 0)) rfl dX4_jobOf_41 44 rfl ?_
    refine z_aload_n C 0 rfl rfl dX4_jobOf_44 45 rfl ?_
    refine z_get C zc4 iX4_jobOf_X4 0 0 rfl rfl 0 (Nat.le_of_ble_eq_true rfl) (List.mem_of_getElem? (i := 1) rfl) (v := .ref (bd 0)) rfl dX4_jobOf_45 48 rfl ?_
    refine z_aload_n C 0 rfl rfl dX4_jobOf_48 49 rfl ?_
    refine z_get C zc4 iX4_jobOf_X4 0 0 rfl rfl 0 (Nat.le_of_ble_eq_true rfl) (List.mem_of_getElem? (i := 1) rfl) (v := .ref (bd 0)) rfl dX4_jobOf_49 52 rfl ?_
    refine z_get C zc0 iX4_jobOf_X0 2 0 rfl rfl 0 (Nat.le_of_ble_eq_true rfl) (List.mem_of_getElem? (i := 4) rfl) (v := .ref (bd 1)) rfl dX4_jobOf_52 55 rfl ?_
    refine z_iconst C (v := nI 5) rfl dX4_jobOf_55 56 rfl ?_
    refine z_iald C (f := st) 2 1 rfl rfl (by omega) (by decide) dX4_jobOf_56 57 rfl ?_
    refine z_callV C [.ref (bd 0), .int (nI (st 5))] [] (tX3_print K.l K.g q a0 a1 a2 a3 a4 a5 a6 a7 s0 s1 s2 s3 s4 s5 s6 s7 s8 s9 bd st r n (st 5) hS hJ hn hR (by have := hS.2.2.2.2.2.2.2.1; omega)) gX4_jobOf_X3_print rfl rfl rfl hdX3_print ⟨Nat.le_of_ble_eq_true rfl, Nat.le_of_ble_eq_true rfl⟩ ⟨Nat.zero_le _, Nat.zero_le _⟩ 1 0 rfl rfl rfl [1, 2] rfl rfl (zlc (N := 3) rfl rfl) [0, 3, 4] rfl (by decide) (fun u : (Nat → Nat) × (Nat → Nat) × (Nat → Nat) × (Nat → Nat) × (Nat → Nat) × (Nat → Nat) × (Nat → Nat) × (Nat → Nat) × (Nat) × (Nat) × (Nat) × (Nat) × (Nat) × (Nat) × (Nat) × (Nat) × (Nat) => match u with | (c0, c1, c2, c3, c4, c5, c6, c7, d1, d2, d3, d4, d5, d6, d7, d8, d9) => [wX K.g x bd tr q p h sb sv, wP K.g q c0 c1 c2 c3 c4 c5 c6 c7 n d1 d2 d3 d4 d5 d6 d7 d8 d9, wB K.g bd st r n]) (fun _ => rfl) rfl rfl (Nat.le_of_ble_eq_true rfl) dX4_jobOf_57 60 rfl (fun u9 hu9 => ?_)
    obtain ⟨c0, c1, c2, c3, c4, c5, c6, c7, d1, d2, d3, d4, d5, d6, d7, d8, d9⟩ := u9
    have hp := hu9
    have hp : PI st r (st 5) n c0 c1 c2 c3 c4 c5 c6 c7 d1 d2 d3 d4 d5 d6 d7 d8 d9 := hp
    show Z K 0 0 [wX K.g x bd tr q p h sb sv, wP K.g q c0 c1 c2 c3 c4 c5 c6 c7 n d1 d2 d3 d4 d5 d6 d7 d8 d9, wB K.g bd st r n] [(0, .ref (x 0)), (1, .int (nI j)), (2, .int (nI 6))] 60 []
    have hq := PI_all hp
    refine z_iload_n C 2 rfl rfl dX4_jobOf_60 61 rfl ?_
    refine z_tab C (by decide) 124 dX4_jobOf_61 (by decide) (by decide) rfl (by decide) ?_
    refine z_aload_n C 0 rfl rfl dX4_jobOf_124 125 rfl ?_
    refine z_get C zc4 iX4_jobOf_X4 0 0 rfl rfl 2 (Nat.le_of_ble_eq_true rfl) (List.mem_of_getElem? (i := 3) rfl) (v := .ref (q 0)) rfl dX4_jobOf_125 128 rfl ?_
    refine z_get C zc3 iX4_jobOf_X3 1 0 rfl rfl 5 (Nat.le_of_ble_eq_true rfl) (List.mem_of_getElem? (i := 7) rfl) (v := .ref (q 6)) rfl dX4_jobOf_128 131 rfl ?_
    refine z_iload_n C 1 rfl rfl dX4_jobOf_131 132 rfl ?_
    refine z_iald C (f := c5) 1 6 rfl rfl (by omega) (by decide) dX4_jobOf_132 133 rfl ?_
    exact z_iret C hRx dX4_jobOf_133 (c0, c1, c2, c3, c4, c5, c6, c7, d1, d2, d3, d4, d5, d6, d7, d8, d9, n) (congrArg (fun z => some (Value.int (nI z))) (hq.2.1 j hj).2.2.2.2.2.1.symm) trivial rfl
  · skip
    refine z_aload_n C 0 rfl rfl dX4_jobOf_0 1 rfl ?_
    refine z_iload_n C 1 rfl rfl dX4_jobOf_1 2 rfl ?_
    refine z_callV C [.int (nI j)] [] (tX4_isJob K.l K.g x bd tr q p h sb sv st r n (nI j) (by first | omega | assumption)) gX4_jobOf_X4_isJob rfl rfl rfl hdX4_isJob ⟨Nat.le_of_ble_eq_true rfl, Nat.le_of_ble_eq_true rfl⟩ ⟨Nat.zero_le _, Nat.zero_le _⟩ 0 0 rfl rfl rfl [0, 2] rfl rfl (zlc (N := 3) rfl rfl) [3, 1, 4] rfl (by decide) (fun _ : Unit => [wX K.g x bd tr q p h sb sv, wP K.g q a0 a1 a2 a3 a4 a5 a6 a7 s0 s1 s2 s3 s4 s5 s6 s7 s8 s9, wB K.g bd st r n]) (fun _ => rfl) rfl rfl (Nat.le_of_ble_eq_true rfl) dX4_jobOf_2 5 rfl (fun u9 hu9 => ?_)
    show Z K 0 0 [wX K.g x bd tr q p h sb sv, wP K.g q a0 a1 a2 a3 a4 a5 a6 a7 s0 s1 s2 s3 s4 s5 s6 s7 s8 s9, wB K.g bd st r n] [(0, .ref (x 0)), (1, .int (nI j)), (2, .int (nI 7))] 5 [.int (bI (isJ (nI j) n))]
    refine z_ifb_ne C 10 dX4_jobOf_5 (by decide) 8 rfl (fun c_22 => ?_) (fun c_22 => ?_)
    rotate_left
    · exfalso; rw [isJ_t (by omega) (by omega)] at c_22; exact Bool.noConfusion c_22
    refine z_iload_n C 2 rfl rfl dX4_jobOf_10 11 rfl ?_
    refine z_iconst C (v := nI 0) rfl dX4_jobOf_11 12 rfl ?_
    refine z_bipush C (v := nI 11) rfl dX4_jobOf_12 14 rfl ?_
    refine z_callP C [.int (nI 7), .int (nI 0), .int (nI 11)] [] (tX4_withinN K.l K.g (nI 7) 0 11 (by first | omega | assumption) (by first | omega | assumption)) gX4_jobOf_X4_within rfl rfl rfl hdX4_within ⟨Nat.le_of_ble_eq_true rfl, Nat.le_of_ble_eq_true rfl⟩ ⟨Nat.zero_le _, Nat.zero_le _⟩ rfl rfl (Nat.le_of_ble_eq_true rfl) dX4_jobOf_14 17 rfl (fun u9 hu9 => ?_)
    show Z K 0 0 [wX K.g x bd tr q p h sb sv, wP K.g q a0 a1 a2 a3 a4 a5 a6 a7 s0 s1 s2 s3 s4 s5 s6 s7 s8 s9, wB K.g bd st r n] [(0, .ref (x 0)), (1, .int (nI j)), (2, .int (nI 7))] 17 [.int (bI (rg (nI 7).toInt (Int.ofNat 0) (Int.ofNat 11)))]
    refine z_ifb_ne C 23 dX4_jobOf_17 (by decide) 20 rfl (fun c_23 => ?_) (fun c_23 => ?_)
    rotate_left
    · exfalso; rw [rgN_t (by omega) (by omega) (by omega)] at c_23; exact Bool.noConfusion c_23
    refine z_iload_n C 2 rfl rfl dX4_jobOf_23 24 rfl ?_
    refine z_iconst C (v := nI 4) rfl dX4_jobOf_24 25 rfl ?_
    refine z_icmp_ge C (by omega) (by omega) 40 dX4_jobOf_25 (by decide) 28 rfl (fun c_24 => ?_) (fun c_24 => ?_)
    rotate_left
    · exfalso; omega
    refine z_aload_n C 0 rfl rfl dX4_jobOf_40 41 rfl ?_
    refine z_get C zc4 iX4_jobOf_X4 0 0 rfl rfl 2 (Nat.le_of_ble_eq_true rfl) (List.mem_of_getElem? (i := 3) rfl) (v := .ref (q 0)) rfl dX4_jobOf_41 44 rfl ?_
    refine z_aload_n C 0 rfl rfl dX4_jobOf_44 45 rfl ?_
    refine z_get C zc4 iX4_jobOf_X4 0 0 rfl rfl 0 (Nat.le_of_ble_eq_true rfl) (List.mem_of_getElem? (i := 1) rfl) (v := .ref (bd 0)) rfl dX4_jobOf_45 48 rfl ?_
    refine z_aload_n C 0 rfl rfl dX4_jobOf_48 49 rfl ?_
    refine z_get C zc4 iX4_jobOf_X4 0 0 rfl rfl 0 (Nat.le_of_ble_eq_true rfl) (List.mem_of_getElem? (i := 1) rfl) (v := .ref (bd 0)) rfl dX4_jobOf_49 52 rfl ?_
    refine z_get C zc0 iX4_jobOf_X0 2 0 rfl rfl 0 (Nat.le_of_ble_eq_true rfl) (List.mem_of_getElem? (i := 4) rfl) (v := .ref (bd 1)) rfl dX4_jobOf_52 55 rfl ?_
    refine z_iconst C (v := nI 5) rfl dX4_jobOf_55 56 rfl ?_
    refine z_iald C (f := st) 2 1 rfl rfl (by omega) (by decide) dX4_jobOf_56 57 rfl ?_
    refine z_callV C [.ref (bd 0), .int (nI (st 5))] [] (tX3_print K.l K.g q a0 a1 a2 a3 a4 a5 a6 a7 s0 s1 s2 s3 s4 s5 s6 s7 s8 s9 bd st r n (st 5) hS hJ hn hR (by have := hS.2.2.2.2.2.2.2.1; omega)) gX4_jobOf_X3_print rfl rfl rfl hdX3_print ⟨Nat.le_of_ble_eq_true rfl, Nat.le_of_ble_eq_true rfl⟩ ⟨Nat.zero_le _, Nat.zero_le _⟩ 1 0 rfl rfl rfl [1, 2] rfl rfl (zlc (N := 3) rfl rfl) [0, 3, 4] rfl (by decide) (fun u : (Nat → Nat) × (Nat → Nat) × (Nat → Nat) × (Nat → Nat) × (Nat → Nat) × (Nat → Nat) × (Nat → Nat) × (Nat → Nat) × (Nat) × (Nat) × (Nat) × (Nat) × (Nat) × (Nat) × (Nat) × (Nat) × (Nat) => match u with | (c0, c1, c2, c3, c4, c5, c6, c7, d1, d2, d3, d4, d5, d6, d7, d8, d9) => [wX K.g x bd tr q p h sb sv, wP K.g q c0 c1 c2 c3 c4 c5 c6 c7 n d1 d2 d3 d4 d5 d6 d7 d8 d9, wB K.g bd st r n]) (fun _ => rfl) rfl rfl (Nat.le_of_ble_eq_true rfl) dX4_jobOf_57 60 rfl (fun u9 hu9 => ?_)
    obtain ⟨c0, c1, c2, c3, c4, c5, c6, c7, d1, d2, d3, d4, d5, d6, d7, d8, d9⟩ := u9
    have hp := hu9
    have hp : PI st r (st 5) n c0 c1 c2 c3 c4 c5 c6 c7 d1 d2 d3 d4 d5 d6 d7 d8 d9 := hp
    show Z K 0 0 [wX K.g x bd tr q p h sb sv, wP K.g q c0 c1 c2 c3 c4 c5 c6 c7 n d1 d2 d3 d4 d5 d6 d7 d8 d9, wB K.g bd st r n] [(0, .ref (x 0)), (1, .int (nI j)), (2, .int (nI 7))] 60 []
    have hq := PI_all hp
    refine z_iload_n C 2 rfl rfl dX4_jobOf_60 61 rfl ?_
    refine z_tab C (by decide) 134 dX4_jobOf_61 (by decide) (by decide) rfl (by decide) ?_
    refine z_aload_n C 0 rfl rfl dX4_jobOf_134 135 rfl ?_
    refine z_get C zc4 iX4_jobOf_X4 0 0 rfl rfl 2 (Nat.le_of_ble_eq_true rfl) (List.mem_of_getElem? (i := 3) rfl) (v := .ref (q 0)) rfl dX4_jobOf_135 138 rfl ?_
    refine z_get C zc3 iX4_jobOf_X3 1 0 rfl rfl 6 (Nat.le_of_ble_eq_true rfl) (List.mem_of_getElem? (i := 8) rfl) (v := .ref (q 7)) rfl dX4_jobOf_138 141 rfl ?_
    refine z_iload_n C 1 rfl rfl dX4_jobOf_141 142 rfl ?_
    refine z_iald C (f := c6) 1 7 rfl rfl (by omega) (by decide) dX4_jobOf_142 143 rfl ?_
    exact z_iret C hRx dX4_jobOf_143 (c0, c1, c2, c3, c4, c5, c6, c7, d1, d2, d3, d4, d5, d6, d7, d8, d9, n) (congrArg (fun z => some (Value.int (nI z))) (hq.2.1 j hj).2.2.2.2.2.2.1.symm) trivial rfl
  · skip
    refine z_aload_n C 0 rfl rfl dX4_jobOf_0 1 rfl ?_
    refine z_iload_n C 1 rfl rfl dX4_jobOf_1 2 rfl ?_
    refine z_callV C [.int (nI j)] [] (tX4_isJob K.l K.g x bd tr q p h sb sv st r n (nI j) (by first | omega | assumption)) gX4_jobOf_X4_isJob rfl rfl rfl hdX4_isJob ⟨Nat.le_of_ble_eq_true rfl, Nat.le_of_ble_eq_true rfl⟩ ⟨Nat.zero_le _, Nat.zero_le _⟩ 0 0 rfl rfl rfl [0, 2] rfl rfl (zlc (N := 3) rfl rfl) [3, 1, 4] rfl (by decide) (fun _ : Unit => [wX K.g x bd tr q p h sb sv, wP K.g q a0 a1 a2 a3 a4 a5 a6 a7 s0 s1 s2 s3 s4 s5 s6 s7 s8 s9, wB K.g bd st r n]) (fun _ => rfl) rfl rfl (Nat.le_of_ble_eq_true rfl) dX4_jobOf_2 5 rfl (fun u9 hu9 => ?_)
    show Z K 0 0 [wX K.g x bd tr q p h sb sv, wP K.g q a0 a1 a2 a3 a4 a5 a6 a7 s0 s1 s2 s3 s4 s5 s6 s7 s8 s9, wB K.g bd st r n] [(0, .ref (x 0)), (1, .int (nI j)), (2, .int (nI 8))] 5 [.int (bI (isJ (nI j) n))]
    refine z_ifb_ne C 10 dX4_jobOf_5 (by decide) 8 rfl (fun c_25 => ?_) (fun c_25 => ?_)
    rotate_left
    · exfalso; rw [isJ_t (by omega) (by omega)] at c_25; exact Bool.noConfusion c_25
    refine z_iload_n C 2 rfl rfl dX4_jobOf_10 11 rfl ?_
    refine z_iconst C (v := nI 0) rfl dX4_jobOf_11 12 rfl ?_
    refine z_bipush C (v := nI 11) rfl dX4_jobOf_12 14 rfl ?_
    refine z_callP C [.int (nI 8), .int (nI 0), .int (nI 11)] [] (tX4_withinN K.l K.g (nI 8) 0 11 (by first | omega | assumption) (by first | omega | assumption)) gX4_jobOf_X4_within rfl rfl rfl hdX4_within ⟨Nat.le_of_ble_eq_true rfl, Nat.le_of_ble_eq_true rfl⟩ ⟨Nat.zero_le _, Nat.zero_le _⟩ rfl rfl (Nat.le_of_ble_eq_true rfl) dX4_jobOf_14 17 rfl (fun u9 hu9 => ?_)
    show Z K 0 0 [wX K.g x bd tr q p h sb sv, wP K.g q a0 a1 a2 a3 a4 a5 a6 a7 s0 s1 s2 s3 s4 s5 s6 s7 s8 s9, wB K.g bd st r n] [(0, .ref (x 0)), (1, .int (nI j)), (2, .int (nI 8))] 17 [.int (bI (rg (nI 8).toInt (Int.ofNat 0) (Int.ofNat 11)))]
    refine z_ifb_ne C 23 dX4_jobOf_17 (by decide) 20 rfl (fun c_26 => ?_) (fun c_26 => ?_)
    rotate_left
    · exfalso; rw [rgN_t (by omega) (by omega) (by omega)] at c_26; exact Bool.noConfusion c_26
    refine z_iload_n C 2 rfl rfl dX4_jobOf_23 24 rfl ?_
    refine z_iconst C (v := nI 4) rfl dX4_jobOf_24 25 rfl ?_
    refine z_icmp_ge C (by omega) (by omega) 40 dX4_jobOf_25 (by decide) 28 rfl (fun c_27 => ?_) (fun c_27 => ?_)
    rotate_left
    · exfalso; omega
    refine z_aload_n C 0 rfl rfl dX4_jobOf_40 41 rfl ?_
    refine z_get C zc4 iX4_jobOf_X4 0 0 rfl rfl 2 (Nat.le_of_ble_eq_true rfl) (List.mem_of_getElem? (i := 3) rfl) (v := .ref (q 0)) rfl dX4_jobOf_41 44 rfl ?_
    refine z_aload_n C 0 rfl rfl dX4_jobOf_44 45 rfl ?_
    refine z_get C zc4 iX4_jobOf_X4 0 0 rfl rfl 0 (Nat.le_of_ble_eq_true rfl) (List.mem_of_getElem? (i := 1) rfl) (v := .ref (bd 0)) rfl dX4_jobOf_45 48 rfl ?_
    refine z_aload_n C 0 rfl rfl dX4_jobOf_48 49 rfl ?_
    refine z_get C zc4 iX4_jobOf_X4 0 0 rfl rfl 0 (Nat.le_of_ble_eq_true rfl) (List.mem_of_getElem? (i := 1) rfl) (v := .ref (bd 0)) rfl dX4_jobOf_49 52 rfl ?_
    refine z_get C zc0 iX4_jobOf_X0 2 0 rfl rfl 0 (Nat.le_of_ble_eq_true rfl) (List.mem_of_getElem? (i := 4) rfl) (v := .ref (bd 1)) rfl dX4_jobOf_52 55 rfl ?_
    refine z_iconst C (v := nI 5) rfl dX4_jobOf_55 56 rfl ?_
    refine z_iald C (f := st) 2 1 rfl rfl (by omega) (by decide) dX4_jobOf_56 57 rfl ?_
    refine z_callV C [.ref (bd 0), .int (nI (st 5))] [] (tX3_print K.l K.g q a0 a1 a2 a3 a4 a5 a6 a7 s0 s1 s2 s3 s4 s5 s6 s7 s8 s9 bd st r n (st 5) hS hJ hn hR (by have := hS.2.2.2.2.2.2.2.1; omega)) gX4_jobOf_X3_print rfl rfl rfl hdX3_print ⟨Nat.le_of_ble_eq_true rfl, Nat.le_of_ble_eq_true rfl⟩ ⟨Nat.zero_le _, Nat.zero_le _⟩ 1 0 rfl rfl rfl [1, 2] rfl rfl (zlc (N := 3) rfl rfl) [0, 3, 4] rfl (by decide) (fun u : (Nat → Nat) × (Nat → Nat) × (Nat → Nat) × (Nat → Nat) × (Nat → Nat) × (Nat → Nat) × (Nat → Nat) × (Nat → Nat) × (Nat) × (Nat) × (Nat) × (Nat) × (Nat) × (Nat) × (Nat) × (Nat) × (Nat) => match u with | (c0, c1, c2, c3, c4, c5, c6, c7, d1, d2, d3, d4, d5, d6, d7, d8, d9) => [wX K.g x bd tr q p h sb sv, wP K.g q c0 c1 c2 c3 c4 c5 c6 c7 n d1 d2 d3 d4 d5 d6 d7 d8 d9, wB K.g bd st r n]) (fun _ => rfl) rfl rfl (Nat.le_of_ble_eq_true rfl) dX4_jobOf_57 60 rfl (fun u9 hu9 => ?_)
    obtain ⟨c0, c1, c2, c3, c4, c5, c6, c7, d1, d2, d3, d4, d5, d6, d7, d8, d9⟩ := u9
    have hp := hu9
    have hp : PI st r (st 5) n c0 c1 c2 c3 c4 c5 c6 c7 d1 d2 d3 d4 d5 d6 d7 d8 d9 := hp
    show Z K 0 0 [wX K.g x bd tr q p h sb sv, wP K.g q c0 c1 c2 c3 c4 c5 c6 c7 n d1 d2 d3 d4 d5 d6 d7 d8 d9, wB K.g bd st r n] [(0, .ref (x 0)), (1, .int (nI j)), (2, .int (nI 8))] 60 []
    have hq := PI_all hp
    refine z_iload_n C 2 rfl rfl dX4_jobOf_60 61 rfl ?_
    refine z_tab C (by decide) 144 dX4_jobOf_61 (by decide) (by decide) rfl (by decide) ?_
    refine z_aload_n C 0 rfl rfl dX4_jobOf_144 145 rfl ?_
    refine z_get C zc4 iX4_jobOf_X4 0 0 rfl rfl 2 (Nat.le_of_ble_eq_true rfl) (List.mem_of_getElem? (i := 3) rfl) (v := .ref (q 0)) rfl dX4_jobOf_145 148 rfl ?_
    refine z_get C zc3 iX4_jobOf_X3 1 0 rfl rfl 7 (Nat.le_of_ble_eq_true rfl) (List.mem_of_getElem? (i := 9) rfl) (v := .ref (q 8)) rfl dX4_jobOf_148 151 rfl ?_
    refine z_iload_n C 1 rfl rfl dX4_jobOf_151 152 rfl ?_
    refine z_iald C (f := c7) 1 8 rfl rfl (by omega) (by decide) dX4_jobOf_152 153 rfl ?_
    exact z_iret C hRx dX4_jobOf_153 (c0, c1, c2, c3, c4, c5, c6, c7, d1, d2, d3, d4, d5, d6, d7, d8, d9, n) (congrArg (fun z => some (Value.int (nI z))) (hq.2.1 j hj).2.2.2.2.2.2.2.symm) trivial rfl
  · skip
    refine z_aload_n C 0 rfl rfl dX4_jobOf_0 1 rfl ?_
    refine z_iload_n C 1 rfl rfl dX4_jobOf_1 2 rfl ?_
    refine z_callV C [.int (nI j)] [] (tX4_isJob K.l K.g x bd tr q p h sb sv st r n (nI j) (by first | omega | assumption)) gX4_jobOf_X4_isJob rfl rfl rfl hdX4_isJob ⟨Nat.le_of_ble_eq_true rfl, Nat.le_of_ble_eq_true rfl⟩ ⟨Nat.zero_le _, Nat.zero_le _⟩ 0 0 rfl rfl rfl [0, 2] rfl rfl (zlc (N := 3) rfl rfl) [3, 1, 4] rfl (by decide) (fun _ : Unit => [wX K.g x bd tr q p h sb sv, wP K.g q a0 a1 a2 a3 a4 a5 a6 a7 s0 s1 s2 s3 s4 s5 s6 s7 s8 s9, wB K.g bd st r n]) (fun _ => rfl) rfl rfl (Nat.le_of_ble_eq_true rfl) dX4_jobOf_2 5 rfl (fun u9 hu9 => ?_)
    show Z K 0 0 [wX K.g x bd tr q p h sb sv, wP K.g q a0 a1 a2 a3 a4 a5 a6 a7 s0 s1 s2 s3 s4 s5 s6 s7 s8 s9, wB K.g bd st r n] [(0, .ref (x 0)), (1, .int (nI j)), (2, .int (nI 9))] 5 [.int (bI (isJ (nI j) n))]
    refine z_ifb_ne C 10 dX4_jobOf_5 (by decide) 8 rfl (fun c_28 => ?_) (fun c_28 => ?_)
    rotate_left
    · exfalso; rw [isJ_t (by omega) (by omega)] at c_28; exact Bool.noConfusion c_28
    refine z_iload_n C 2 rfl rfl dX4_jobOf_10 11 rfl ?_
    refine z_iconst C (v := nI 0) rfl dX4_jobOf_11 12 rfl ?_
    refine z_bipush C (v := nI 11) rfl dX4_jobOf_12 14 rfl ?_
    refine z_callP C [.int (nI 9), .int (nI 0), .int (nI 11)] [] (tX4_withinN K.l K.g (nI 9) 0 11 (by first | omega | assumption) (by first | omega | assumption)) gX4_jobOf_X4_within rfl rfl rfl hdX4_within ⟨Nat.le_of_ble_eq_true rfl, Nat.le_of_ble_eq_true rfl⟩ ⟨Nat.zero_le _, Nat.zero_le _⟩ rfl rfl (Nat.le_of_ble_eq_true rfl) dX4_jobOf_14 17 rfl (fun u9 hu9 => ?_)
    show Z K 0 0 [wX K.g x bd tr q p h sb sv, wP K.g q a0 a1 a2 a3 a4 a5 a6 a7 s0 s1 s2 s3 s4 s5 s6 s7 s8 s9, wB K.g bd st r n] [(0, .ref (x 0)), (1, .int (nI j)), (2, .int (nI 9))] 17 [.int (bI (rg (nI 9).toInt (Int.ofNat 0) (Int.ofNat 11)))]
    refine z_ifb_ne C 23 dX4_jobOf_17 (by decide) 20 rfl (fun c_29 => ?_) (fun c_29 => ?_)
    rotate_left
    · exfalso; rw [rgN_t (by omega) (by omega) (by omega)] at c_29; exact Bool.noConfusion c_29
    refine z_iload_n C 2 rfl rfl dX4_jobOf_23 24 rfl ?_
    refine z_iconst C (v := nI 4) rfl dX4_jobOf_24 25 rfl ?_
    refine z_icmp_ge C (by omega) (by omega) 40 dX4_jobOf_25 (by decide) 28 rfl (fun c_30 => ?_) (fun c_30 => ?_)
    rotate_left
    · exfalso; omega
    refine z_aload_n C 0 rfl rfl dX4_jobOf_40 41 rfl ?_
    refine z_get C zc4 iX4_jobOf_X4 0 0 rfl rfl 2 (Nat.le_of_ble_eq_true rfl) (List.mem_of_getElem? (i := 3) rfl) (v := .ref (q 0)) rfl dX4_jobOf_41 44 rfl ?_
    refine z_aload_n C 0 rfl rfl dX4_jobOf_44 45 rfl ?_
    refine z_get C zc4 iX4_jobOf_X4 0 0 rfl rfl 0 (Nat.le_of_ble_eq_true rfl) (List.mem_of_getElem? (i := 1) rfl) (v := .ref (bd 0)) rfl dX4_jobOf_45 48 rfl ?_
    refine z_aload_n C 0 rfl rfl dX4_jobOf_48 49 rfl ?_
    refine z_get C zc4 iX4_jobOf_X4 0 0 rfl rfl 0 (Nat.le_of_ble_eq_true rfl) (List.mem_of_getElem? (i := 1) rfl) (v := .ref (bd 0)) rfl dX4_jobOf_49 52 rfl ?_
    refine z_get C zc0 iX4_jobOf_X0 2 0 rfl rfl 0 (Nat.le_of_ble_eq_true rfl) (List.mem_of_getElem? (i := 4) rfl) (v := .ref (bd 1)) rfl dX4_jobOf_52 55 rfl ?_
    refine z_iconst C (v := nI 5) rfl dX4_jobOf_55 56 rfl ?_
    refine z_iald C (f := st) 2 1 rfl rfl (by omega) (by decide) dX4_jobOf_56 57 rfl ?_
    refine z_callV C [.ref (bd 0), .int (nI (st 5))] [] (tX3_print K.l K.g q a0 a1 a2 a3 a4 a5 a6 a7 s0 s1 s2 s3 s4 s5 s6 s7 s8 s9 bd st r n (st 5) hS hJ hn hR (by have := hS.2.2.2.2.2.2.2.1; omega)) gX4_jobOf_X3_print rfl rfl rfl hdX3_print ⟨Nat.le_of_ble_eq_true rfl, Nat.le_of_ble_eq_true rfl⟩ ⟨Nat.zero_le _, Nat.zero_le _⟩ 1 0 rfl rfl rfl [1, 2] rfl rfl (zlc (N := 3) rfl rfl) [0, 3, 4] rfl (by decide) (fun u : (Nat → Nat) × (Nat → Nat) × (Nat → Nat) × (Nat → Nat) × (Nat → Nat) × (Nat → Nat) × (Nat → Nat) × (Nat → Nat) × (Nat) × (Nat) × (Nat) × (Nat) × (Nat) × (Nat) × (Nat) × (Nat) × (Nat) => match u with | (c0, c1, c2, c3, c4, c5, c6, c7, d1, d2, d3, d4, d5, d6, d7, d8, d9) => [wX K.g x bd tr q p h sb sv, wP K.g q c0 c1 c2 c3 c4 c5 c6 c7 n d1 d2 d3 d4 d5 d6 d7 d8 d9, wB K.g bd st r n]) (fun _ => rfl) rfl rfl (Nat.le_of_ble_eq_true rfl) dX4_jobOf_57 60 rfl (fun u9 hu9 => ?_)
    obtain ⟨c0, c1, c2, c3, c4, c5, c6, c7, d1, d2, d3, d4, d5, d6, d7, d8, d9⟩ := u9
    have hp := hu9
    have hp : PI st r (st 5) n c0 c1 c2 c3 c4 c5 c6 c7 d1 d2 d3 d4 d5 d6 d7 d8 d9 := hp
    show Z K 0 0 [wX K.g x bd tr q p h sb sv, wP K.g q c0 c1 c2 c3 c4 c5 c6 c7 n d1 d2 d3 d4 d5 d6 d7 d8 d9, wB K.g bd st r n] [(0, .ref (x 0)), (1, .int (nI j)), (2, .int (nI 9))] 60 []
    have hq := PI_all hp
    refine z_iload_n C 2 rfl rfl dX4_jobOf_60 61 rfl ?_
    refine z_tab C (by decide) 154 dX4_jobOf_61 (by decide) (by decide) rfl (by decide) ?_
    refine z_aload_n C 0 rfl rfl dX4_jobOf_154 155 rfl ?_
    refine z_get C zc4 iX4_jobOf_X4 0 0 rfl rfl 2 (Nat.le_of_ble_eq_true rfl) (List.mem_of_getElem? (i := 3) rfl) (v := .ref (q 0)) rfl dX4_jobOf_155 158 rfl ?_
    refine z_get C zc3 iX4_jobOf_X3 1 0 rfl rfl 3 (Nat.le_of_ble_eq_true rfl) (List.mem_of_getElem? (i := 10) rfl) (v := .ref (q 4)) rfl dX4_jobOf_158 161 rfl ?_
    refine z_iload_n C 1 rfl rfl dX4_jobOf_161 162 rfl ?_
    refine z_iald C (f := c3) 1 4 rfl rfl (by omega) (by decide) dX4_jobOf_162 163 rfl ?_
    exact z_iret C hRx dX4_jobOf_163 (c0, c1, c2, c3, c4, c5, c6, c7, d1, d2, d3, d4, d5, d6, d7, d8, d9, n) (congrArg (fun z => some (Value.int (nI z))) (hq.2.1 j hj).2.2.2.1.symm) trivial rfl
  · skip
    refine z_aload_n C 0 rfl rfl dX4_jobOf_0 1 rfl ?_
    refine z_iload_n C 1 rfl rfl dX4_jobOf_1 2 rfl ?_
    refine z_callV C [.int (nI j)] [] (tX4_isJob K.l K.g x bd tr q p h sb sv st r n (nI j) (by first | omega | assumption)) gX4_jobOf_X4_isJob rfl rfl rfl hdX4_isJob ⟨Nat.le_of_ble_eq_true rfl, Nat.le_of_ble_eq_true rfl⟩ ⟨Nat.zero_le _, Nat.zero_le _⟩ 0 0 rfl rfl rfl [0, 2] rfl rfl (zlc (N := 3) rfl rfl) [3, 1, 4] rfl (by decide) (fun _ : Unit => [wX K.g x bd tr q p h sb sv, wP K.g q a0 a1 a2 a3 a4 a5 a6 a7 s0 s1 s2 s3 s4 s5 s6 s7 s8 s9, wB K.g bd st r n]) (fun _ => rfl) rfl rfl (Nat.le_of_ble_eq_true rfl) dX4_jobOf_2 5 rfl (fun u9 hu9 => ?_)
    show Z K 0 0 [wX K.g x bd tr q p h sb sv, wP K.g q a0 a1 a2 a3 a4 a5 a6 a7 s0 s1 s2 s3 s4 s5 s6 s7 s8 s9, wB K.g bd st r n] [(0, .ref (x 0)), (1, .int (nI j)), (2, .int (nI 10))] 5 [.int (bI (isJ (nI j) n))]
    refine z_ifb_ne C 10 dX4_jobOf_5 (by decide) 8 rfl (fun c_31 => ?_) (fun c_31 => ?_)
    rotate_left
    · exfalso; rw [isJ_t (by omega) (by omega)] at c_31; exact Bool.noConfusion c_31
    refine z_iload_n C 2 rfl rfl dX4_jobOf_10 11 rfl ?_
    refine z_iconst C (v := nI 0) rfl dX4_jobOf_11 12 rfl ?_
    refine z_bipush C (v := nI 11) rfl dX4_jobOf_12 14 rfl ?_
    refine z_callP C [.int (nI 10), .int (nI 0), .int (nI 11)] [] (tX4_withinN K.l K.g (nI 10) 0 11 (by first | omega | assumption) (by first | omega | assumption)) gX4_jobOf_X4_within rfl rfl rfl hdX4_within ⟨Nat.le_of_ble_eq_true rfl, Nat.le_of_ble_eq_true rfl⟩ ⟨Nat.zero_le _, Nat.zero_le _⟩ rfl rfl (Nat.le_of_ble_eq_true rfl) dX4_jobOf_14 17 rfl (fun u9 hu9 => ?_)
    show Z K 0 0 [wX K.g x bd tr q p h sb sv, wP K.g q a0 a1 a2 a3 a4 a5 a6 a7 s0 s1 s2 s3 s4 s5 s6 s7 s8 s9, wB K.g bd st r n] [(0, .ref (x 0)), (1, .int (nI j)), (2, .int (nI 10))] 17 [.int (bI (rg (nI 10).toInt (Int.ofNat 0) (Int.ofNat 11)))]
    refine z_ifb_ne C 23 dX4_jobOf_17 (by decide) 20 rfl (fun c_32 => ?_) (fun c_32 => ?_)
    rotate_left
    · exfalso; rw [rgN_t (by omega) (by omega) (by omega)] at c_32; exact Bool.noConfusion c_32
    refine z_iload_n C 2 rfl rfl dX4_jobOf_23 24 rfl ?_
    refine z_iconst C (v := nI 4) rfl dX4_jobOf_24 25 rfl ?_
    refine z_icmp_ge C (by omega) (by omega) 40 dX4_jobOf_25 (by decide) 28 rfl (fun c_33 => ?_) (fun c_33 => ?_)
    rotate_left
    · exfalso; omega
    refine z_aload_n C 0 rfl rfl dX4_jobOf_40 41 rfl ?_
    refine z_get C zc4 iX4_jobOf_X4 0 0 rfl rfl 2 (Nat.le_of_ble_eq_true rfl) (List.mem_of_getElem? (i := 3) rfl) (v := .ref (q 0)) rfl dX4_jobOf_41 44 rfl ?_
    refine z_aload_n C 0 rfl rfl dX4_jobOf_44 45 rfl ?_
    refine z_get C zc4 iX4_jobOf_X4 0 0 rfl rfl 0 (Nat.le_of_ble_eq_true rfl) (List.mem_of_getElem? (i := 1) rfl) (v := .ref (bd 0)) rfl dX4_jobOf_45 48 rfl ?_
    refine z_aload_n C 0 rfl rfl dX4_jobOf_48 49 rfl ?_
    refine z_get C zc4 iX4_jobOf_X4 0 0 rfl rfl 0 (Nat.le_of_ble_eq_true rfl) (List.mem_of_getElem? (i := 1) rfl) (v := .ref (bd 0)) rfl dX4_jobOf_49 52 rfl ?_
    refine z_get C zc0 iX4_jobOf_X0 2 0 rfl rfl 0 (Nat.le_of_ble_eq_true rfl) (List.mem_of_getElem? (i := 4) rfl) (v := .ref (bd 1)) rfl dX4_jobOf_52 55 rfl ?_
    refine z_iconst C (v := nI 5) rfl dX4_jobOf_55 56 rfl ?_
    refine z_iald C (f := st) 2 1 rfl rfl (by omega) (by decide) dX4_jobOf_56 57 rfl ?_
    refine z_callV C [.ref (bd 0), .int (nI (st 5))] [] (tX3_print K.l K.g q a0 a1 a2 a3 a4 a5 a6 a7 s0 s1 s2 s3 s4 s5 s6 s7 s8 s9 bd st r n (st 5) hS hJ hn hR (by have := hS.2.2.2.2.2.2.2.1; omega)) gX4_jobOf_X3_print rfl rfl rfl hdX3_print ⟨Nat.le_of_ble_eq_true rfl, Nat.le_of_ble_eq_true rfl⟩ ⟨Nat.zero_le _, Nat.zero_le _⟩ 1 0 rfl rfl rfl [1, 2] rfl rfl (zlc (N := 3) rfl rfl) [0, 3, 4] rfl (by decide) (fun u : (Nat → Nat) × (Nat → Nat) × (Nat → Nat) × (Nat → Nat) × (Nat → Nat) × (Nat → Nat) × (Nat → Nat) × (Nat → Nat) × (Nat) × (Nat) × (Nat) × (Nat) × (Nat) × (Nat) × (Nat) × (Nat) × (Nat) => match u with | (c0, c1, c2, c3, c4, c5, c6, c7, d1, d2, d3, d4, d5, d6, d7, d8, d9) => [wX K.g x bd tr q p h sb sv, wP K.g q c0 c1 c2 c3 c4 c5 c6 c7 n d1 d2 d3 d4 d5 d6 d7 d8 d9, wB K.g bd st r n]) (fun _ => rfl) rfl rfl (Nat.le_of_ble_eq_true rfl) dX4_jobOf_57 60 rfl (fun u9 hu9 => ?_)
    obtain ⟨c0, c1, c2, c3, c4, c5, c6, c7, d1, d2, d3, d4, d5, d6, d7, d8, d9⟩ := u9
    have hp := hu9
    have hp : PI st r (st 5) n c0 c1 c2 c3 c4 c5 c6 c7 d1 d2 d3 d4 d5 d6 d7 d8 d9 := hp
    show Z K 0 0 [wX K.g x bd tr q p h sb sv, wP K.g q c0 c1 c2 c3 c4 c5 c6 c7 n d1 d2 d3 d4 d5 d6 d7 d8 d9, wB K.g bd st r n] [(0, .ref (x 0)), (1, .int (nI j)), (2, .int (nI 10))] 60 []
    have hq := PI_all hp
    refine z_iload_n C 2 rfl rfl dX4_jobOf_60 61 rfl ?_
    refine z_tab C (by decide) 164 dX4_jobOf_61 (by decide) (by decide) rfl (by decide) ?_
    refine z_aload_n C 0 rfl rfl dX4_jobOf_164 165 rfl ?_
    refine z_get C zc4 iX4_jobOf_X4 0 0 rfl rfl 2 (Nat.le_of_ble_eq_true rfl) (List.mem_of_getElem? (i := 3) rfl) (v := .ref (q 0)) rfl dX4_jobOf_165 168 rfl ?_
    refine z_get C zc3 iX4_jobOf_X3 1 0 rfl rfl 2 (Nat.le_of_ble_eq_true rfl) (List.mem_of_getElem? (i := 11) rfl) (v := .ref (q 3)) rfl dX4_jobOf_168 171 rfl ?_
    refine z_iload_n C 1 rfl rfl dX4_jobOf_171 172 rfl ?_
    refine z_iald C (f := c2) 1 3 rfl rfl (by omega) (by decide) dX4_jobOf_172 173 rfl ?_
    exact z_iret C hRx dX4_jobOf_173 (c0, c1, c2, c3, c4, c5, c6, c7, d1, d2, d3, d4, d5, d6, d7, d8, d9, n) (congrArg (fun z => some (Value.int (nI z))) (hq.2.1 j hj).2.2.1.symm) trivial rfl
  · skip
    refine z_aload_n C 0 rfl rfl dX4_jobOf_0 1 rfl ?_
    refine z_iload_n C 1 rfl rfl dX4_jobOf_1 2 rfl ?_
    refine z_callV C [.int (nI j)] [] (tX4_isJob K.l K.g x bd tr q p h sb sv st r n (nI j) (by first | omega | assumption)) gX4_jobOf_X4_isJob rfl rfl rfl hdX4_isJob ⟨Nat.le_of_ble_eq_true rfl, Nat.le_of_ble_eq_true rfl⟩ ⟨Nat.zero_le _, Nat.zero_le _⟩ 0 0 rfl rfl rfl [0, 2] rfl rfl (zlc (N := 3) rfl rfl) [3, 1, 4] rfl (by decide) (fun _ : Unit => [wX K.g x bd tr q p h sb sv, wP K.g q a0 a1 a2 a3 a4 a5 a6 a7 s0 s1 s2 s3 s4 s5 s6 s7 s8 s9, wB K.g bd st r n]) (fun _ => rfl) rfl rfl (Nat.le_of_ble_eq_true rfl) dX4_jobOf_2 5 rfl (fun u9 hu9 => ?_)
    show Z K 0 0 [wX K.g x bd tr q p h sb sv, wP K.g q a0 a1 a2 a3 a4 a5 a6 a7 s0 s1 s2 s3 s4 s5 s6 s7 s8 s9, wB K.g bd st r n] [(0, .ref (x 0)), (1, .int (nI j)), (2, .int (nI 11))] 5 [.int (bI (isJ (nI j) n))]
    refine z_ifb_ne C 10 dX4_jobOf_5 (by decide) 8 rfl (fun c_34 => ?_) (fun c_34 => ?_)
    rotate_left
    · exfalso; rw [isJ_t (by omega) (by omega)] at c_34; exact Bool.noConfusion c_34
    refine z_iload_n C 2 rfl rfl dX4_jobOf_10 11 rfl ?_
    refine z_iconst C (v := nI 0) rfl dX4_jobOf_11 12 rfl ?_
    refine z_bipush C (v := nI 11) rfl dX4_jobOf_12 14 rfl ?_
    refine z_callP C [.int (nI 11), .int (nI 0), .int (nI 11)] [] (tX4_withinN K.l K.g (nI 11) 0 11 (by first | omega | assumption) (by first | omega | assumption)) gX4_jobOf_X4_within rfl rfl rfl hdX4_within ⟨Nat.le_of_ble_eq_true rfl, Nat.le_of_ble_eq_true rfl⟩ ⟨Nat.zero_le _, Nat.zero_le _⟩ rfl rfl (Nat.le_of_ble_eq_true rfl) dX4_jobOf_14 17 rfl (fun u9 hu9 => ?_)
    show Z K 0 0 [wX K.g x bd tr q p h sb sv, wP K.g q a0 a1 a2 a3 a4 a5 a6 a7 s0 s1 s2 s3 s4 s5 s6 s7 s8 s9, wB K.g bd st r n] [(0, .ref (x 0)), (1, .int (nI j)), (2, .int (nI 11))] 17 [.int (bI (rg (nI 11).toInt (Int.ofNat 0) (Int.ofNat 11)))]
    refine z_ifb_ne C 23 dX4_jobOf_17 (by decide) 20 rfl (fun c_35 => ?_) (fun c_35 => ?_)
    rotate_left
    · exfalso; rw [rgN_t (by omega) (by omega) (by omega)] at c_35; exact Bool.noConfusion c_35
    refine z_iload_n C 2 rfl rfl dX4_jobOf_23 24 rfl ?_
    refine z_iconst C (v := nI 4) rfl dX4_jobOf_24 25 rfl ?_
    refine z_icmp_ge C (by omega) (by omega) 40 dX4_jobOf_25 (by decide) 28 rfl (fun c_36 => ?_) (fun c_36 => ?_)
    rotate_left
    · exfalso; omega
    refine z_aload_n C 0 rfl rfl dX4_jobOf_40 41 rfl ?_
    refine z_get C zc4 iX4_jobOf_X4 0 0 rfl rfl 2 (Nat.le_of_ble_eq_true rfl) (List.mem_of_getElem? (i := 3) rfl) (v := .ref (q 0)) rfl dX4_jobOf_41 44 rfl ?_
    refine z_aload_n C 0 rfl rfl dX4_jobOf_44 45 rfl ?_
    refine z_get C zc4 iX4_jobOf_X4 0 0 rfl rfl 0 (Nat.le_of_ble_eq_true rfl) (List.mem_of_getElem? (i := 1) rfl) (v := .ref (bd 0)) rfl dX4_jobOf_45 48 rfl ?_
    refine z_aload_n C 0 rfl rfl dX4_jobOf_48 49 rfl ?_
    refine z_get C zc4 iX4_jobOf_X4 0 0 rfl rfl 0 (Nat.le_of_ble_eq_true rfl) (List.mem_of_getElem? (i := 1) rfl) (v := .ref (bd 0)) rfl dX4_jobOf_49 52 rfl ?_
    refine z_get C zc0 iX4_jobOf_X0 2 0 rfl rfl 0 (Nat.le_of_ble_eq_true rfl) (List.mem_of_getElem? (i := 4) rfl) (v := .ref (bd 1)) rfl dX4_jobOf_52 55 rfl ?_
    refine z_iconst C (v := nI 5) rfl dX4_jobOf_55 56 rfl ?_
    refine z_iald C (f := st) 2 1 rfl rfl (by omega) (by decide) dX4_jobOf_56 57 rfl ?_
    refine z_callV C [.ref (bd 0), .int (nI (st 5))] [] (tX3_print K.l K.g q a0 a1 a2 a3 a4 a5 a6 a7 s0 s1 s2 s3 s4 s5 s6 s7 s8 s9 bd st r n (st 5) hS hJ hn hR (by have := hS.2.2.2.2.2.2.2.1; omega)) gX4_jobOf_X3_print rfl rfl rfl hdX3_print ⟨Nat.le_of_ble_eq_true rfl, Nat.le_of_ble_eq_true rfl⟩ ⟨Nat.zero_le _, Nat.zero_le _⟩ 1 0 rfl rfl rfl [1, 2] rfl rfl (zlc (N := 3) rfl rfl) [0, 3, 4] rfl (by decide) (fun u : (Nat → Nat) × (Nat → Nat) × (Nat → Nat) × (Nat → Nat) × (Nat → Nat) × (Nat → Nat) × (Nat → Nat) × (Nat → Nat) × (Nat) × (Nat) × (Nat) × (Nat) × (Nat) × (Nat) × (Nat) × (Nat) × (Nat) => match u with | (c0, c1, c2, c3, c4, c5, c6, c7, d1, d2, d3, d4, d5, d6, d7, d8, d9) => [wX K.g x bd tr q p h sb sv, wP K.g q c0 c1 c2 c3 c4 c5 c6 c7 n d1 d2 d3 d4 d5 d6 d7 d8 d9, wB K.g bd st r n]) (fun _ => rfl) rfl rfl (Nat.le_of_ble_eq_true rfl) dX4_jobOf_57 60 rfl (fun u9 hu9 => ?_)
    obtain ⟨c0, c1, c2, c3, c4, c5, c6, c7, d1, d2, d3, d4, d5, d6, d7, d8, d9⟩ := u9
    have hp := hu9
    have hp : PI st r (st 5) n c0 c1 c2 c3 c4 c5 c6 c7 d1 d2 d3 d4 d5 d6 d7 d8 d9 := hp
    show Z K 0 0 [wX K.g x bd tr q p h sb sv, wP K.g q c0 c1 c2 c3 c4 c5 c6 c7 n d1 d2 d3 d4 d5 d6 d7 d8 d9, wB K.g bd st r n] [(0, .ref (x 0)), (1, .int (nI j)), (2, .int (nI 11))] 60 []
    have hq := PI_all hp
    refine z_iload_n C 2 rfl rfl dX4_jobOf_60 61 rfl ?_
    refine z_tabO C 174 dX4_jobOf_61 (by decide) (by decide) ?_
    refine z_aload_n C 0 rfl rfl dX4_jobOf_174 175 rfl ?_
    refine z_get C zc4 iX4_jobOf_X4 0 0 rfl rfl 2 (Nat.le_of_ble_eq_true rfl) (List.mem_of_getElem? (i := 3) rfl) (v := .ref (q 0)) rfl dX4_jobOf_175 178 rfl ?_
    refine z_get C zc3 iX4_jobOf_X3 1 0 rfl rfl 1 (Nat.le_of_ble_eq_true rfl) (List.mem_of_getElem? (i := 12) rfl) (v := .ref (q 2)) rfl dX4_jobOf_178 181 rfl ?_
    refine z_iload_n C 1 rfl rfl dX4_jobOf_181 182 rfl ?_
    refine z_iald C (f := c1) 1 2 rfl rfl (by omega) (by decide) dX4_jobOf_182 183 rfl ?_
    exact z_iret C hRx dX4_jobOf_183 (c0, c1, c2, c3, c4, c5, c6, c7, d1, d2, d3, d4, d5, d6, d7, d8, d9, n) (congrArg (fun z => some (Value.int (nI z))) (hq.2.1 j hj).2.1.symm) trivial rfl

set_option maxHeartbeats 4000000 in
set_option maxRecDepth 100000 in
theorem tX4_count_bv (l : Launch) (g : zG) (x bd tr q p h : Nat → Nat) (sb : Nat → Nat → Nat) (sv : Nat → Bool) (w : Int32) (hb : rg w.toInt (Int.ofNat 0) (Int.ofNat 19) = false) : Met l yX4_count wsX4_count ({ frames := 4, cells := 0, slots := 0, locals := 94 } : Room) (zPre g [.ref (x 0), .int w] [wX g x bd tr q p h sb sv]) (zQ g (fun _ : Unit => some (.int (-2)) ) (fun _ : Unit => True) (fun _ : Unit => [wX g x bd tr q p h sb sv]) (zA [wX g x bd tr q p h sb sv])) 0 0 (zA [wX g x bd tr q p h sb sv]) := by
  refine z_entry (cc := cX4_count) (maxL := 2) (ret := (some .int)) (own := RX4) (by decide) rfl rfl (Nat.le_of_ble_eq_true rfl) [(0, .ref (x 0)), (1, .int w)] rfl ?_
  intro K hKl hKg hnL C hRx
  subst hKl
  subst hKg
  refine z_iload_n C 1 rfl rfl dX4_count_0 1 rfl ?_
  refine z_iconst C (v := nI 0) rfl dX4_count_1 2 rfl ?_
  refine z_bipush C (v := nI 19) rfl dX4_count_2 4 rfl ?_
  refine z_callP C [.int w, .int (nI 0), .int (nI 19)] [] (tX4_withinN K.l K.g w 0 19 (by first | omega | assumption) (by first | omega | assumption)) gX4_count_X4_within rfl rfl rfl hdX4_within ⟨Nat.le_of_ble_eq_true rfl, Nat.le_of_ble_eq_true rfl⟩ ⟨Nat.zero_le _, Nat.zero_le _⟩ rfl rfl (Nat.le_of_ble_eq_true rfl) dX4_count_4 7 rfl (fun u9 hu9 => ?_)
  show Z K 0 0 [wX K.g x bd tr q p h sb sv] [(0, .ref (x 0)), (1, .int w)] 7 [.int (bI (rg w.toInt (Int.ofNat 0) (Int.ofNat 19)))]
  refine z_ifb_ne C 13 dX4_count_7 (by decide) 10 rfl (fun c_1 => ?_) (fun c_1 => ?_)
  · exfalso; rw [hb] at c_1; exact Bool.noConfusion c_1
  refine z_bipush C (v := (-2)) rfl dX4_count_10 12 rfl ?_
  exact z_iret C hRx dX4_count_12 () rfl trivial rfl

theorem iX4_count_X0 : ∀ w ∈ u_ws RX0 TX0 3, w ∈ wsX4_count := fun w h => (List.mem_cons_of_mem _ (List.mem_append_left _ (List.mem_append_left _ (List.mem_append_left _ (List.mem_append_right _ h)))))
theorem iX4_count_X1 : ∀ w ∈ u_ws RX1 TX1 3, w ∈ wsX4_count := fun w h => (List.mem_cons_of_mem _ (List.mem_append_right _ h))
theorem iX4_count_X2 : ∀ w ∈ u_ws RX2 TX2 8, w ∈ wsX4_count := fun w h => (List.mem_cons_of_mem _ (List.mem_append_left _ (List.mem_append_right _ h)))
theorem iX4_count_X3 : ∀ w ∈ u_ws RX3 TX3 18, w ∈ wsX4_count := fun w h => (List.mem_cons_of_mem _ (List.mem_append_left _ (List.mem_append_left _ (List.mem_append_right _ h))))
theorem iX4_count_X4 : ∀ w ∈ u_ws RX4 TX4 7, w ∈ wsX4_count := fun w h => (List.mem_cons_of_mem _ (List.mem_append_left _ (List.mem_append_left _ (List.mem_append_left _ (List.mem_append_left _ (List.mem_append_right _ h))))))
set_option maxHeartbeats 4000000 in
set_option maxRecDepth 100000 in
theorem tX4_count_ok (l : Launch) (g : zG) (x bd tr q p h : Nat → Nat) (sb : Nat → Nat → Nat) (sv : Nat → Bool) (a0 a1 a2 a3 a4 a5 a6 a7 : Nat → Nat) (s0 s1 s2 s3 s4 s5 s6 s7 s8 s9 : Nat) (st : Nat → Nat) (r : Nat → Nat → Nat) (n : Nat) (fb tx : Nat → Nat) (len ex : Nat) (pl sh hu du : Int32) (ho : Nat → Nat → Nat) (kp nx : Nat) (k : Nat) (hn : n ≤ 12) (hS : okS st) (hJ : okJ r n) (hR : okR st r n (st 5)) (hk : k ≤ 19) : Met l yX4_count wsX4_count ({ frames := 4, cells := 0, slots := 0, locals := 94 } : Room) (zPre g [.ref (x 0), .int (nI k)] [wX g x bd tr q p h sb sv, wP g q a0 a1 a2 a3 a4 a5 a6 a7 s0 s1 s2 s3 s4 s5 s6 s7 s8 s9, wB g bd st r n, wPd g p fb tx len ex pl sh hu du, wH g h ho kp nx]) (zQ g (fun u : (Nat → Nat) × (Nat → Nat) × (Nat → Nat) × (Nat → Nat) × (Nat → Nat) × (Nat → Nat) × (Nat → Nat) × (Nat → Nat) × (Nat) × (Nat) × (Nat) × (Nat) × (Nat) × (Nat) × (Nat) × (Nat) × (Nat) × (Nat) => match u with | (c0, c1, c2, c3, c4, c5, c6, c7, d1, d2, d3, d4, d5, d6, d7, d8, d9, d0) => some (.int (nI (CN st r n len kp k))) ) (fun u : (Nat → Nat) × (Nat → Nat) × (Nat → Nat) × (Nat → Nat) × (Nat → Nat) × (Nat → Nat) × (Nat → Nat) × (Nat → Nat) × (Nat) × (Nat) × (Nat) × (Nat) × (Nat) × (Nat) × (Nat) × (Nat) × (Nat) × (Nat) => match u with | (c0, c1, c2, c3, c4, c5, c6, c7, d1, d2, d3, d4, d5, d6, d7, d8, d9, d0) => True) (fun u : (Nat → Nat) × (Nat → Nat) × (Nat → Nat) × (Nat → Nat) × (Nat → Nat) × (Nat → Nat) × (Nat → Nat) × (Nat → Nat) × (Nat) × (Nat) × (Nat) × (Nat) × (Nat) × (Nat) × (Nat) × (Nat) × (Nat) × (Nat) => match u with | (c0, c1, c2, c3, c4, c5, c6, c7, d1, d2, d3, d4, d5, d6, d7, d8, d9, d0) => [wX g x bd tr q p h sb sv, wP g q c0 c1 c2 c3 c4 c5 c6 c7 d0 d1 d2 d3 d4 d5 d6 d7 d8 d9, wB g bd st r n, wPd g p fb tx len ex pl sh hu du, wH g h ho kp nx]) (zA [wX g x bd tr q p h sb sv, wP g q a0 a1 a2 a3 a4 a5 a6 a7 s0 s1 s2 s3 s4 s5 s6 s7 s8 s9, wB g bd st r n, wPd g p fb tx len ex pl sh hu du, wH g h ho kp nx])) 0 0 (zA [wX g x bd tr q p h sb sv, wP g q a0 a1 a2 a3 a4 a5 a6 a7 s0 s1 s2 s3 s4 s5 s6 s7 s8 s9, wB g bd st r n, wPd g p fb tx len ex pl sh hu du, wH g h ho kp nx]) := by
  refine z_entry (cc := cX4_count) (maxL := 2) (ret := (some .int)) (own := RX4) (by decide) rfl rfl (Nat.le_of_ble_eq_true rfl) [(0, .ref (x 0)), (1, .int (nI k))] rfl ?_
  intro K hKl hKg hnL C hRx
  subst hKl
  subst hKg
  rcases (show k = 0 ∨ k = 1 ∨ k = 2 ∨ k = 3 ∨ k = 4 ∨ k = 5 ∨ k = 6 ∨ k = 7 ∨ k = 8 ∨ k = 9 ∨ k = 10 ∨ k = 11 ∨ k = 12 ∨ k = 13 ∨ k = 14 ∨ k = 15 ∨ k = 16 ∨ k = 17 ∨ k = 18 ∨ k = 19 by omega) with rfl | rfl | rfl | rfl | rfl | rfl | rfl | rfl | rfl | rfl | rfl | rfl | rfl | rfl | rfl | rfl | rfl | rfl | rfl | rfl
  · skip
    refine z_iload_n C 1 rfl rfl dX4_count_0 1 rfl ?_
    refine z_iconst C (v := nI 0) rfl dX4_count_1 2 rfl ?_
    refine z_bipush C (v := nI 19) rfl dX4_count_2 4 rfl ?_
    refine z_callP C [.int (nI 0), .int (nI 0), .int (nI 19)] [] (tX4_withinN K.l K.g (nI 0) 0 19 (by first | omega | assumption) (by first | omega | assumption)) gX4_count_X4_within rfl rfl rfl hdX4_within ⟨Nat.le_of_ble_eq_true rfl, Nat.le_of_ble_eq_true rfl⟩ ⟨Nat.zero_le _, Nat.zero_le _⟩ rfl rfl (Nat.le_of_ble_eq_true rfl) dX4_count_4 7 rfl (fun u9 hu9 => ?_)
    show Z K 0 0 [wX K.g x bd tr q p h sb sv, wP K.g q a0 a1 a2 a3 a4 a5 a6 a7 s0 s1 s2 s3 s4 s5 s6 s7 s8 s9, wB K.g bd st r n, wPd K.g p fb tx len ex pl sh hu du, wH K.g h ho kp nx] [(0, .ref (x 0)), (1, .int (nI 0))] 7 [.int (bI (rg (nI 0).toInt (Int.ofNat 0) (Int.ofNat 19)))]
    refine z_ifb_ne C 13 dX4_count_7 (by decide) 10 rfl (fun c_1 => ?_) (fun c_1 => ?_)
    rotate_left
    · exfalso; rw [rgN_t (by omega) (by omega) (by omega)] at c_1; exact Bool.noConfusion c_1
    refine z_iload_n C 1 rfl rfl dX4_count_13 14 rfl ?_
    refine z_bipush C (v := nI 7) rfl dX4_count_14 16 rfl ?_
    refine z_icmp_ge C (by omega) (by omega) 29 dX4_count_16 (by decide) 19 rfl (fun c_2 => ?_) (fun c_2 => ?_)
    · exfalso; omega
    refine z_aload_n C 0 rfl rfl dX4_count_19 20 rfl ?_
    refine z_get C zc4 iX4_count_X4 0 0 rfl rfl 0 (Nat.le_of_ble_eq_true rfl) (List.mem_of_getElem? (i := 1) rfl) (v := .ref (bd 0)) rfl dX4_count_20 23 rfl ?_
    refine z_get C zc0 iX4_count_X0 2 0 rfl rfl 0 (Nat.le_of_ble_eq_true rfl) (List.mem_of_getElem? (i := 2) rfl) (v := .ref (bd 1)) rfl dX4_count_23 26 rfl ?_
    refine z_iload_n C 1 rfl rfl dX4_count_26 27 rfl ?_
    refine z_iald C (f := st) 2 1 rfl rfl (by omega) (by decide) dX4_count_27 28 rfl ?_
    exact z_iret C hRx dX4_count_28 (a0, a1, a2, a3, a4, a5, a6, a7, s1, s2, s3, s4, s5, s6, s7, s8, s9, s0) rfl trivial rfl
  · skip
    refine z_iload_n C 1 rfl rfl dX4_count_0 1 rfl ?_
    refine z_iconst C (v := nI 0) rfl dX4_count_1 2 rfl ?_
    refine z_bipush C (v := nI 19) rfl dX4_count_2 4 rfl ?_
    refine z_callP C [.int (nI 1), .int (nI 0), .int (nI 19)] [] (tX4_withinN K.l K.g (nI 1) 0 19 (by first | omega | assumption) (by first | omega | assumption)) gX4_count_X4_within rfl rfl rfl hdX4_within ⟨Nat.le_of_ble_eq_true rfl, Nat.le_of_ble_eq_true rfl⟩ ⟨Nat.zero_le _, Nat.zero_le _⟩ rfl rfl (Nat.le_of_ble_eq_true rfl) dX4_count_4 7 rfl (fun u9 hu9 => ?_)
    show Z K 0 0 [wX K.g x bd tr q p h sb sv, wP K.g q a0 a1 a2 a3 a4 a5 a6 a7 s0 s1 s2 s3 s4 s5 s6 s7 s8 s9, wB K.g bd st r n, wPd K.g p fb tx len ex pl sh hu du, wH K.g h ho kp nx] [(0, .ref (x 0)), (1, .int (nI 1))] 7 [.int (bI (rg (nI 1).toInt (Int.ofNat 0) (Int.ofNat 19)))]
    refine z_ifb_ne C 13 dX4_count_7 (by decide) 10 rfl (fun c_3 => ?_) (fun c_3 => ?_)
    rotate_left
    · exfalso; rw [rgN_t (by omega) (by omega) (by omega)] at c_3; exact Bool.noConfusion c_3
    refine z_iload_n C 1 rfl rfl dX4_count_13 14 rfl ?_
    refine z_bipush C (v := nI 7) rfl dX4_count_14 16 rfl ?_
    refine z_icmp_ge C (by omega) (by omega) 29 dX4_count_16 (by decide) 19 rfl (fun c_4 => ?_) (fun c_4 => ?_)
    · exfalso; omega
    refine z_aload_n C 0 rfl rfl dX4_count_19 20 rfl ?_
    refine z_get C zc4 iX4_count_X4 0 0 rfl rfl 0 (Nat.le_of_ble_eq_true rfl) (List.mem_of_getElem? (i := 1) rfl) (v := .ref (bd 0)) rfl dX4_count_20 23 rfl ?_
    refine z_get C zc0 iX4_count_X0 2 0 rfl rfl 0 (Nat.le_of_ble_eq_true rfl) (List.mem_of_getElem? (i := 2) rfl) (v := .ref (bd 1)) rfl dX4_count_23 26 rfl ?_
    refine z_iload_n C 1 rfl rfl dX4_count_26 27 rfl ?_
    refine z_iald C (f := st) 2 1 rfl rfl (by omega) (by decide) dX4_count_27 28 rfl ?_
    exact z_iret C hRx dX4_count_28 (a0, a1, a2, a3, a4, a5, a6, a7, s1, s2, s3, s4, s5, s6, s7, s8, s9, s0) rfl trivial rfl
  · skip
    refine z_iload_n C 1 rfl rfl dX4_count_0 1 rfl ?_
    refine z_iconst C (v := nI 0) rfl dX4_count_1 2 rfl ?_
    refine z_bipush C (v := nI 19) rfl dX4_count_2 4 rfl ?_
    refine z_callP C [.int (nI 2), .int (nI 0), .int (nI 19)] [] (tX4_withinN K.l K.g (nI 2) 0 19 (by first | omega | assumption) (by first | omega | assumption)) gX4_count_X4_within rfl rfl rfl hdX4_within ⟨Nat.le_of_ble_eq_true rfl, Nat.le_of_ble_eq_true rfl⟩ ⟨Nat.zero_le _, Nat.zero_le _⟩ rfl rfl (Nat.le_of_ble_eq_true rfl) dX4_count_4 7 rfl (fun u9 hu9 => ?_)
    show Z K 0 0 [wX K.g x bd tr q p h sb sv, wP K.g q a0 a1 a2 a3 a4 a5 a6 a7 s0 s1 s2 s3 s4 s5 s6 s7 s8 s9, wB K.g bd st r n, wPd K.g p fb tx len ex pl sh hu du, wH K.g h ho kp nx] [(0, .ref (x 0)), (1, .int (nI 2))] 7 [.int (bI (rg (nI 2).toInt (Int.ofNat 0) (Int.ofNat 19)))]
    refine z_ifb_ne C 13 dX4_count_7 (by decide) 10 rfl (fun c_5 => ?_) (fun c_5 => ?_)
    rotate_left
    · exfalso; rw [rgN_t (by omega) (by omega) (by omega)] at c_5; exact Bool.noConfusion c_5
    refine z_iload_n C 1 rfl rfl dX4_count_13 14 rfl ?_
    refine z_bipush C (v := nI 7) rfl dX4_count_14 16 rfl ?_
    refine z_icmp_ge C (by omega) (by omega) 29 dX4_count_16 (by decide) 19 rfl (fun c_6 => ?_) (fun c_6 => ?_)
    · exfalso; omega
    refine z_aload_n C 0 rfl rfl dX4_count_19 20 rfl ?_
    refine z_get C zc4 iX4_count_X4 0 0 rfl rfl 0 (Nat.le_of_ble_eq_true rfl) (List.mem_of_getElem? (i := 1) rfl) (v := .ref (bd 0)) rfl dX4_count_20 23 rfl ?_
    refine z_get C zc0 iX4_count_X0 2 0 rfl rfl 0 (Nat.le_of_ble_eq_true rfl) (List.mem_of_getElem? (i := 2) rfl) (v := .ref (bd 1)) rfl dX4_count_23 26 rfl ?_
    refine z_iload_n C 1 rfl rfl dX4_count_26 27 rfl ?_
    refine z_iald C (f := st) 2 1 rfl rfl (by omega) (by decide) dX4_count_27 28 rfl ?_
    exact z_iret C hRx dX4_count_28 (a0, a1, a2, a3, a4, a5, a6, a7, s1, s2, s3, s4, s5, s6, s7, s8, s9, s0) rfl trivial rfl
  · skip
    refine z_iload_n C 1 rfl rfl dX4_count_0 1 rfl ?_
    refine z_iconst C (v := nI 0) rfl dX4_count_1 2 rfl ?_
    refine z_bipush C (v := nI 19) rfl dX4_count_2 4 rfl ?_
    refine z_callP C [.int (nI 3), .int (nI 0), .int (nI 19)] [] (tX4_withinN K.l K.g (nI 3) 0 19 (by first | omega | assumption) (by first | omega | assumption)) gX4_count_X4_within rfl rfl rfl hdX4_within ⟨Nat.le_of_ble_eq_true rfl, Nat.le_of_ble_eq_true rfl⟩ ⟨Nat.zero_le _, Nat.zero_le _⟩ rfl rfl (Nat.le_of_ble_eq_true rfl) dX4_count_4 7 rfl (fun u9 hu9 => ?_)
    show Z K 0 0 [wX K.g x bd tr q p h sb sv, wP K.g q a0 a1 a2 a3 a4 a5 a6 a7 s0 s1 s2 s3 s4 s5 s6 s7 s8 s9, wB K.g bd st r n, wPd K.g p fb tx len ex pl sh hu du, wH K.g h ho kp nx] [(0, .ref (x 0)), (1, .int (nI 3))] 7 [.int (bI (rg (nI 3).toInt (Int.ofNat 0) (Int.ofNat 19)))]
    refine z_ifb_ne C 13 dX4_count_7 (by decide) 10 rfl (fun c_7 => ?_) (fun c_7 => ?_)
    rotate_left
    · exfalso; rw [rgN_t (by omega) (by omega) (by omega)] at c_7; exact Bool.noConfusion c_7
    refine z_iload_n C 1 rfl rfl dX4_count_13 14 rfl ?_
    refine z_bipush C (v := nI 7) rfl dX4_count_14 16 rfl ?_
    refine z_icmp_ge C (by omega) (by omega) 29 dX4_count_16 (by decide) 19 rfl (fun c_8 => ?_) (fun c_8 => ?_)
    · exfalso; omega
    refine z_aload_n C 0 rfl rfl dX4_count_19 20 rfl ?_
    refine z_get C zc4 iX4_count_X4 0 0 rfl rfl 0 (Nat.le_of_ble_eq_true rfl) (List.mem_of_getElem? (i := 1) rfl) (v := .ref (bd 0)) rfl dX4_count_20 23 rfl ?_
    refine z_get C zc0 iX4_count_X0 2 0 rfl rfl 0 (Nat.le_of_ble_eq_true rfl) (List.mem_of_getElem? (i := 2) rfl) (v := .ref (bd 1)) rfl dX4_count_23 26 rfl ?_
    refine z_iload_n C 1 rfl rfl dX4_count_26 27 rfl ?_
    refine z_iald C (f := st) 2 1 rfl rfl (by omega) (by decide) dX4_count_27 28 rfl ?_
    exact z_iret C hRx dX4_count_28 (a0, a1, a2, a3, a4, a5, a6, a7, s1, s2, s3, s4, s5, s6, s7, s8, s9, s0) rfl trivial rfl
  · skip
    refine z_iload_n C 1 rfl rfl dX4_count_0 1 rfl ?_
    refine z_iconst C (v := nI 0) rfl dX4_count_1 2 rfl ?_
    refine z_bipush C (v := nI 19) rfl dX4_count_2 4 rfl ?_
    refine z_callP C [.int (nI 4), .int (nI 0), .int (nI 19)] [] (tX4_withinN K.l K.g (nI 4) 0 19 (by first | omega | assumption) (by first | omega | assumption)) gX4_count_X4_within rfl rfl rfl hdX4_within ⟨Nat.le_of_ble_eq_true rfl, Nat.le_of_ble_eq_true rfl⟩ ⟨Nat.zero_le _, Nat.zero_le _⟩ rfl rfl (Nat.le_of_ble_eq_true rfl) dX4_count_4 7 rfl (fun u9 hu9 => ?_)
    show Z K 0 0 [wX K.g x bd tr q p h sb sv, wP K.g q a0 a1 a2 a3 a4 a5 a6 a7 s0 s1 s2 s3 s4 s5 s6 s7 s8 s9, wB K.g bd st r n, wPd K.g p fb tx len ex pl sh hu du, wH K.g h ho kp nx] [(0, .ref (x 0)), (1, .int (nI 4))] 7 [.int (bI (rg (nI 4).toInt (Int.ofNat 0) (Int.ofNat 19)))]
    refine z_ifb_ne C 13 dX4_count_7 (by decide) 10 rfl (fun c_9 => ?_) (fun c_9 => ?_)
    rotate_left
    · exfalso; rw [rgN_t (by omega) (by omega) (by omega)] at c_9; exact Bool.noConfusion c_9
    refine z_iload_n C 1 rfl rfl dX4_count_13 14 rfl ?_
    refine z_bipush C (v := nI 7) rfl dX4_count_14 16 rfl ?_
    refine z_icmp_ge C (by omega) (by omega) 29 dX4_count_16 (by decide) 19 rfl (fun c_10 => ?_) (fun c_10 => ?_)
    · exfalso; omega
    refine z_aload_n C 0 rfl rfl dX4_count_19 20 rfl ?_
    refine z_get C zc4 iX4_count_X4 0 0 rfl rfl 0 (Nat.le_of_ble_eq_true rfl) (List.mem_of_getElem? (i := 1) rfl) (v := .ref (bd 0)) rfl dX4_count_20 23 rfl ?_
    refine z_get C zc0 iX4_count_X0 2 0 rfl rfl 0 (Nat.le_of_ble_eq_true rfl) (List.mem_of_getElem? (i := 2) rfl) (v := .ref (bd 1)) rfl dX4_count_23 26 rfl ?_
    refine z_iload_n C 1 rfl rfl dX4_count_26 27 rfl ?_
    refine z_iald C (f := st) 2 1 rfl rfl (by omega) (by decide) dX4_count_27 28 rfl ?_
    exact z_iret C hRx dX4_count_28 (a0, a1, a2, a3, a4, a5, a6, a7, s1, s2, s3, s4, s5, s6, s7, s8, s9, s0) rfl trivial rfl
  · skip
    refine z_iload_n C 1 rfl rfl dX4_count_0 1 rfl ?_
    refine z_iconst C (v := nI 0) rfl dX4_count_1 2 rfl ?_
    refine z_bipush C (v := nI 19) rfl dX4_count_2 4 rfl ?_
    refine z_callP C [.int (nI 5), .int (nI 0), .int (nI 19)] [] (tX4_withinN K.l K.g (nI 5) 0 19 (by first | omega | assumption) (by first | omega | assumption)) gX4_count_X4_within rfl rfl rfl hdX4_within ⟨Nat.le_of_ble_eq_true rfl, Nat.le_of_ble_eq_true rfl⟩ ⟨Nat.zero_le _, Nat.zero_le _⟩ rfl rfl (Nat.le_of_ble_eq_true rfl) dX4_count_4 7 rfl (fun u9 hu9 => ?_)
    show Z K 0 0 [wX K.g x bd tr q p h sb sv, wP K.g q a0 a1 a2 a3 a4 a5 a6 a7 s0 s1 s2 s3 s4 s5 s6 s7 s8 s9, wB K.g bd st r n, wPd K.g p fb tx len ex pl sh hu du, wH K.g h ho kp nx] [(0, .ref (x 0)), (1, .int (nI 5))] 7 [.int (bI (rg (nI 5).toInt (Int.ofNat 0) (Int.ofNat 19)))]
    refine z_ifb_ne C 13 dX4_count_7 (by decide) 10 rfl (fun c_11 => ?_) (fun c_11 => ?_)
    rotate_left
    · exfalso; rw [rgN_t (by omega) (by omega) (by omega)] at c_11; exact Bool.noConfusion c_11
    refine z_iload_n C 1 rfl rfl dX4_count_13 14 rfl ?_
    refine z_bipush C (v := nI 7) rfl dX4_count_14 16 rfl ?_
    refine z_icmp_ge C (by omega) (by omega) 29 dX4_count_16 (by decide) 19 rfl (fun c_12 => ?_) (fun c_12 => ?_)
    · exfalso; omega
    refine z_aload_n C 0 rfl rfl dX4_count_19 20 rfl ?_
    refine z_get C zc4 iX4_count_X4 0 0 rfl rfl 0 (Nat.le_of_ble_eq_true rfl) (List.mem_of_getElem? (i := 1) rfl) (v := .ref (bd 0)) rfl dX4_count_20 23 rfl ?_
    refine z_get C zc0 iX4_count_X0 2 0 rfl rfl 0 (Nat.le_of_ble_eq_true rfl) (List.mem_of_getElem? (i := 2) rfl) (v := .ref (bd 1)) rfl dX4_count_23 26 rfl ?_
    refine z_iload_n C 1 rfl rfl dX4_count_26 27 rfl ?_
    refine z_iald C (f := st) 2 1 rfl rfl (by omega) (by decide) dX4_count_27 28 rfl ?_
    exact z_iret C hRx dX4_count_28 (a0, a1, a2, a3, a4, a5, a6, a7, s1, s2, s3, s4, s5, s6, s7, s8, s9, s0) rfl trivial rfl
  · skip
    refine z_iload_n C 1 rfl rfl dX4_count_0 1 rfl ?_
    refine z_iconst C (v := nI 0) rfl dX4_count_1 2 rfl ?_
    refine z_bipush C (v := nI 19) rfl dX4_count_2 4 rfl ?_
    refine z_callP C [.int (nI 6), .int (nI 0), .int (nI 19)] [] (tX4_withinN K.l K.g (nI 6) 0 19 (by first | omega | assumption) (by first | omega | assumption)) gX4_count_X4_within rfl rfl rfl hdX4_within ⟨Nat.le_of_ble_eq_true rfl, Nat.le_of_ble_eq_true rfl⟩ ⟨Nat.zero_le _, Nat.zero_le _⟩ rfl rfl (Nat.le_of_ble_eq_true rfl) dX4_count_4 7 rfl (fun u9 hu9 => ?_)
    show Z K 0 0 [wX K.g x bd tr q p h sb sv, wP K.g q a0 a1 a2 a3 a4 a5 a6 a7 s0 s1 s2 s3 s4 s5 s6 s7 s8 s9, wB K.g bd st r n, wPd K.g p fb tx len ex pl sh hu du, wH K.g h ho kp nx] [(0, .ref (x 0)), (1, .int (nI 6))] 7 [.int (bI (rg (nI 6).toInt (Int.ofNat 0) (Int.ofNat 19)))]
    refine z_ifb_ne C 13 dX4_count_7 (by decide) 10 rfl (fun c_13 => ?_) (fun c_13 => ?_)
    rotate_left
    · exfalso; rw [rgN_t (by omega) (by omega) (by omega)] at c_13; exact Bool.noConfusion c_13
    refine z_iload_n C 1 rfl rfl dX4_count_13 14 rfl ?_
    refine z_bipush C (v := nI 7) rfl dX4_count_14 16 rfl ?_
    refine z_icmp_ge C (by omega) (by omega) 29 dX4_count_16 (by decide) 19 rfl (fun c_14 => ?_) (fun c_14 => ?_)
    · exfalso; omega
    refine z_aload_n C 0 rfl rfl dX4_count_19 20 rfl ?_
    refine z_get C zc4 iX4_count_X4 0 0 rfl rfl 0 (Nat.le_of_ble_eq_true rfl) (List.mem_of_getElem? (i := 1) rfl) (v := .ref (bd 0)) rfl dX4_count_20 23 rfl ?_
    refine z_get C zc0 iX4_count_X0 2 0 rfl rfl 0 (Nat.le_of_ble_eq_true rfl) (List.mem_of_getElem? (i := 2) rfl) (v := .ref (bd 1)) rfl dX4_count_23 26 rfl ?_
    refine z_iload_n C 1 rfl rfl dX4_count_26 27 rfl ?_
    refine z_iald C (f := st) 2 1 rfl rfl (by omega) (by decide) dX4_count_27 28 rfl ?_
    exact z_iret C hRx dX4_count_28 (a0, a1, a2, a3, a4, a5, a6, a7, s1, s2, s3, s4, s5, s6, s7, s8, s9, s0) rfl trivial rfl
  · skip
    refine z_iload_n C 1 rfl rfl dX4_count_0 1 rfl ?_
    refine z_iconst C (v := nI 0) rfl dX4_count_1 2 rfl ?_
    refine z_bipush C (v := nI 19) rfl dX4_count_2 4 rfl ?_
    refine z_callP C [.int (nI 7), .int (nI 0), .int (nI 19)] [] (tX4_withinN K.l K.g (nI 7) 0 19 (by first | omega | assumption) (by first | omega | assumption)) gX4_count_X4_within rfl rfl rfl hdX4_within ⟨Nat.le_of_ble_eq_true rfl, Nat.le_of_ble_eq_true rfl⟩ ⟨Nat.zero_le _, Nat.zero_le _⟩ rfl rfl (Nat.le_of_ble_eq_true rfl) dX4_count_4 7 rfl (fun u9 hu9 => ?_)
    show Z K 0 0 [wX K.g x bd tr q p h sb sv, wP K.g q a0 a1 a2 a3 a4 a5 a6 a7 s0 s1 s2 s3 s4 s5 s6 s7 s8 s9, wB K.g bd st r n, wPd K.g p fb tx len ex pl sh hu du, wH K.g h ho kp nx] [(0, .ref (x 0)), (1, .int (nI 7))] 7 [.int (bI (rg (nI 7).toInt (Int.ofNat 0) (Int.ofNat 19)))]
    refine z_ifb_ne C 13 dX4_count_7 (by decide) 10 rfl (fun c_15 => ?_) (fun c_15 => ?_)
    rotate_left
    · exfalso; rw [rgN_t (by omega) (by omega) (by omega)] at c_15; exact Bool.noConfusion c_15
    refine z_iload_n C 1 rfl rfl dX4_count_13 14 rfl ?_
    refine z_bipush C (v := nI 7) rfl dX4_count_14 16 rfl ?_
    refine z_icmp_ge C (by omega) (by omega) 29 dX4_count_16 (by decide) 19 rfl (fun c_16 => ?_) (fun c_16 => ?_)
    rotate_left
    · exfalso; omega
    refine z_aload_n C 0 rfl rfl dX4_count_29 30 rfl ?_
    refine z_get C zc4 iX4_count_X4 0 0 rfl rfl 2 (Nat.le_of_ble_eq_true rfl) (List.mem_of_getElem? (i := 3) rfl) (v := .ref (q 0)) rfl dX4_count_30 33 rfl ?_
    refine z_aload_n C 0 rfl rfl dX4_count_33 34 rfl ?_
    refine z_get C zc4 iX4_count_X4 0 0 rfl rfl 0 (Nat.le_of_ble_eq_true rfl) (List.mem_of_getElem? (i := 1) rfl) (v := .ref (bd 0)) rfl dX4_count_34 37 rfl ?_
    refine z_aload_n C 0 rfl rfl dX4_count_37 38 rfl ?_
    refine z_get C zc4 iX4_count_X4 0 0 rfl rfl 0 (Nat.le_of_ble_eq_true rfl) (List.mem_of_getElem? (i := 1) rfl) (v := .ref (bd 0)) rfl dX4_count_38 41 rfl ?_
    refine z_get C zc0 iX4_count_X0 2 0 rfl rfl 0 (Nat.le_of_ble_eq_true rfl) (List.mem_of_getElem? (i := 2) rfl) (v := .ref (bd 1)) rfl dX4_count_41 44 rfl ?_
    refine z_iconst C (v := nI 5) rfl dX4_count_44 45 rfl ?_
    refine z_iald C (f := st) 2 1 rfl rfl (by omega) (by decide) dX4_count_45 46 rfl ?_
    refine z_callV C [.ref (bd 0), .int (nI (st 5))] [] (tX3_print K.l K.g q a0 a1 a2 a3 a4 a5 a6 a7 s0 s1 s2 s3 s4 s5 s6 s7 s8 s9 bd st r n (st 5) hS hJ hn hR (by have := hS.2.2.2.2.2.2.2.1; omega)) gX4_count_X3_print rfl rfl rfl hdX3_print ⟨Nat.le_of_ble_eq_true rfl, Nat.le_of_ble_eq_true rfl⟩ ⟨Nat.zero_le _, Nat.zero_le _⟩ 1 0 rfl rfl rfl [1, 2] rfl rfl (zlc (N := 5) rfl rfl) [0, 5, 6, 3, 4] rfl (by decide) (fun u : (Nat → Nat) × (Nat → Nat) × (Nat → Nat) × (Nat → Nat) × (Nat → Nat) × (Nat → Nat) × (Nat → Nat) × (Nat → Nat) × (Nat) × (Nat) × (Nat) × (Nat) × (Nat) × (Nat) × (Nat) × (Nat) × (Nat) => match u with | (c0, c1, c2, c3, c4, c5, c6, c7, d1, d2, d3, d4, d5, d6, d7, d8, d9) => [wX K.g x bd tr q p h sb sv, wP K.g q c0 c1 c2 c3 c4 c5 c6 c7 n d1 d2 d3 d4 d5 d6 d7 d8 d9, wB K.g bd st r n, wPd K.g p fb tx len ex pl sh hu du, wH K.g h ho kp nx]) (fun _ => rfl) rfl rfl (Nat.le_of_ble_eq_true rfl) dX4_count_46 49 rfl (fun u9 hu9 => ?_)
    obtain ⟨c0, c1, c2, c3, c4, c5, c6, c7, d1, d2, d3, d4, d5, d6, d7, d8, d9⟩ := u9
    have hp := hu9
    have hp : PI st r (st 5) n c0 c1 c2 c3 c4 c5 c6 c7 d1 d2 d3 d4 d5 d6 d7 d8 d9 := hp
    show Z K 0 0 [wX K.g x bd tr q p h sb sv, wP K.g q c0 c1 c2 c3 c4 c5 c6 c7 n d1 d2 d3 d4 d5 d6 d7 d8 d9, wB K.g bd st r n, wPd K.g p fb tx len ex pl sh hu du, wH K.g h ho kp nx] [(0, .ref (x 0)), (1, .int (nI 7))] 49 []
    have hq := PI_all hp
    refine z_iload_n C 1 rfl rfl dX4_count_49 50 rfl ?_
    refine z_tab C (by decide) 112 dX4_count_50 (by decide) (by decide) rfl (by decide) ?_
    refine z_aload_n C 0 rfl rfl dX4_count_112 113 rfl ?_
    refine z_get C zc4 iX4_count_X4 0 0 rfl rfl 0 (Nat.le_of_ble_eq_true rfl) (List.mem_of_getElem? (i := 1) rfl) (v := .ref (bd 0)) rfl dX4_count_113 116 rfl ?_
    refine z_get C zc0 iX4_count_X0 2 0 rfl rfl 2 (Nat.le_of_ble_eq_true rfl) (List.mem_of_getElem? (i := 4) rfl) (v := .int (nI n)) rfl dX4_count_116 119 rfl ?_
    exact z_iret C hRx dX4_count_119 (c0, c1, c2, c3, c4, c5, c6, c7, d1, d2, d3, d4, d5, d6, d7, d8, d9, n) rfl trivial rfl
  · skip
    refine z_iload_n C 1 rfl rfl dX4_count_0 1 rfl ?_
    refine z_iconst C (v := nI 0) rfl dX4_count_1 2 rfl ?_
    refine z_bipush C (v := nI 19) rfl dX4_count_2 4 rfl ?_
    refine z_callP C [.int (nI 8), .int (nI 0), .int (nI 19)] [] (tX4_withinN K.l K.g (nI 8) 0 19 (by first | omega | assumption) (by first | omega | assumption)) gX4_count_X4_within rfl rfl rfl hdX4_within ⟨Nat.le_of_ble_eq_true rfl, Nat.le_of_ble_eq_true rfl⟩ ⟨Nat.zero_le _, Nat.zero_le _⟩ rfl rfl (Nat.le_of_ble_eq_true rfl) dX4_count_4 7 rfl (fun u9 hu9 => ?_)
    show Z K 0 0 [wX K.g x bd tr q p h sb sv, wP K.g q a0 a1 a2 a3 a4 a5 a6 a7 s0 s1 s2 s3 s4 s5 s6 s7 s8 s9, wB K.g bd st r n, wPd K.g p fb tx len ex pl sh hu du, wH K.g h ho kp nx] [(0, .ref (x 0)), (1, .int (nI 8))] 7 [.int (bI (rg (nI 8).toInt (Int.ofNat 0) (Int.ofNat 19)))]
    refine z_ifb_ne C 13 dX4_count_7 (by decide) 10 rfl (fun c_17 => ?_) (fun c_17 => ?_)
    rotate_left
    · exfalso; rw [rgN_t (by omega) (by omega) (by omega)] at c_17; exact Bool.noConfusion c_17
    refine z_iload_n C 1 rfl rfl dX4_count_13 14 rfl ?_
    refine z_bipush C (v := nI 7) rfl dX4_count_14 16 rfl ?_
    refine z_icmp_ge C (by omega) (by omega) 29 dX4_count_16 (by decide) 19 rfl (fun c_18 => ?_) (fun c_18 => ?_)
    rotate_left
    · exfalso; omega
    refine z_aload_n C 0 rfl rfl dX4_count_29 30 rfl ?_
    refine z_get C zc4 iX4_count_X4 0 0 rfl rfl 2 (Nat.le_of_ble_eq_true rfl) (List.mem_of_getElem? (i := 3) rfl) (v := .ref (q 0)) rfl dX4_count_30 33 rfl ?_
    refine z_aload_n C 0 rfl rfl dX4_count_33 34 rfl ?_
    refine z_get C zc4 iX4_count_X4 0 0 rfl rfl 0 (Nat.le_of_ble_eq_true rfl) (List.mem_of_getElem? (i := 1) rfl) (v := .ref (bd 0)) rfl dX4_count_34 37 rfl ?_
    refine z_aload_n C 0 rfl rfl dX4_count_37 38 rfl ?_
    refine z_get C zc4 iX4_count_X4 0 0 rfl rfl 0 (Nat.le_of_ble_eq_true rfl) (List.mem_of_getElem? (i := 1) rfl) (v := .ref (bd 0)) rfl dX4_count_38 41 rfl ?_
    refine z_get C zc0 iX4_count_X0 2 0 rfl rfl 0 (Nat.le_of_ble_eq_true rfl) (List.mem_of_getElem? (i := 2) rfl) (v := .ref (bd 1)) rfl dX4_count_41 44 rfl ?_
    refine z_iconst C (v := nI 5) rfl dX4_count_44 45 rfl ?_
    refine z_iald C (f := st) 2 1 rfl rfl (by omega) (by decide) dX4_count_45 46 rfl ?_
    refine z_callV C [.ref (bd 0), .int (nI (st 5))] [] (tX3_print K.l K.g q a0 a1 a2 a3 a4 a5 a6 a7 s0 s1 s2 s3 s4 s5 s6 s7 s8 s9 bd st r n (st 5) hS hJ hn hR (by have := hS.2.2.2.2.2.2.2.1; omega)) gX4_count_X3_print rfl rfl rfl hdX3_print ⟨Nat.le_of_ble_eq_true rfl, Nat.le_of_ble_eq_true rfl⟩ ⟨Nat.zero_le _, Nat.zero_le _⟩ 1 0 rfl rfl rfl [1, 2] rfl rfl (zlc (N := 5) rfl rfl) [0, 5, 6, 3, 4] rfl (by decide) (fun u : (Nat → Nat) × (Nat → Nat) × (Nat → Nat) × (Nat → Nat) × (Nat → Nat) × (Nat → Nat) × (Nat → Nat) × (Nat → Nat) × (Nat) × (Nat) × (Nat) × (Nat) × (Nat) × (Nat) × (Nat) × (Nat) × (Nat) => match u with | (c0, c1, c2, c3, c4, c5, c6, c7, d1, d2, d3, d4, d5, d6, d7, d8, d9) => [wX K.g x bd tr q p h sb sv, wP K.g q c0 c1 c2 c3 c4 c5 c6 c7 n d1 d2 d3 d4 d5 d6 d7 d8 d9, wB K.g bd st r n, wPd K.g p fb tx len ex pl sh hu du, wH K.g h ho kp nx]) (fun _ => rfl) rfl rfl (Nat.le_of_ble_eq_true rfl) dX4_count_46 49 rfl (fun u9 hu9 => ?_)
    obtain ⟨c0, c1, c2, c3, c4, c5, c6, c7, d1, d2, d3, d4, d5, d6, d7, d8, d9⟩ := u9
    have hp := hu9
    have hp : PI st r (st 5) n c0 c1 c2 c3 c4 c5 c6 c7 d1 d2 d3 d4 d5 d6 d7 d8 d9 := hp
    show Z K 0 0 [wX K.g x bd tr q p h sb sv, wP K.g q c0 c1 c2 c3 c4 c5 c6 c7 n d1 d2 d3 d4 d5 d6 d7 d8 d9, wB K.g bd st r n, wPd K.g p fb tx len ex pl sh hu du, wH K.g h ho kp nx] [(0, .ref (x 0)), (1, .int (nI 8))] 49 []
    have hq := PI_all hp
    refine z_iload_n C 1 rfl rfl dX4_count_49 50 rfl ?_
    refine z_tab C (by decide) 120 dX4_count_50 (by decide) (by decide) rfl (by decide) ?_
    refine z_aload_n C 0 rfl rfl dX4_count_120 121 rfl ?_
    refine z_get C zc4 iX4_count_X4 0 0 rfl rfl 0 (Nat.le_of_ble_eq_true rfl) (List.mem_of_getElem? (i := 1) rfl) (v := .ref (bd 0)) rfl dX4_count_121 124 rfl ?_
    refine z_callV C [] [] (tX0_hundredsOfAll K.l K.g bd st r n (by first | omega | assumption)) gX4_count_X0_hundredsOfAll rfl rfl rfl hdX0_hundredsOfAll ⟨Nat.le_of_ble_eq_true rfl, Nat.le_of_ble_eq_true rfl⟩ ⟨Nat.zero_le _, Nat.zero_le _⟩ 2 0 rfl rfl rfl [2] rfl rfl (zlc (N := 5) rfl rfl) [0, 1, 5, 3, 4] rfl (by decide) (fun _ : Unit => [wX K.g x bd tr q p h sb sv, wP K.g q c0 c1 c2 c3 c4 c5 c6 c7 n d1 d2 d3 d4 d5 d6 d7 d8 d9, wB K.g bd st r n, wPd K.g p fb tx len ex pl sh hu du, wH K.g h ho kp nx]) (fun _ => rfl) rfl rfl (Nat.le_of_ble_eq_true rfl) dX4_count_124 127 rfl (fun u9 hu9 => ?_)
    show Z K 0 0 [wX K.g x bd tr q p h sb sv, wP K.g q c0 c1 c2 c3 c4 c5 c6 c7 n d1 d2 d3 d4 d5 d6 d7 d8 d9, wB K.g bd st r n, wPd K.g p fb tx len ex pl sh hu du, wH K.g h ho kp nx] [(0, .ref (x 0)), (1, .int (nI 8))] 127 [.int (nI (sm (r 2) n))]
    exact z_iret C hRx dX4_count_127 (c0, c1, c2, c3, c4, c5, c6, c7, d1, d2, d3, d4, d5, d6, d7, d8, d9, n) rfl trivial rfl
  · skip
    refine z_iload_n C 1 rfl rfl dX4_count_0 1 rfl ?_
    refine z_iconst C (v := nI 0) rfl dX4_count_1 2 rfl ?_
    refine z_bipush C (v := nI 19) rfl dX4_count_2 4 rfl ?_
    refine z_callP C [.int (nI 9), .int (nI 0), .int (nI 19)] [] (tX4_withinN K.l K.g (nI 9) 0 19 (by first | omega | assumption) (by first | omega | assumption)) gX4_count_X4_within rfl rfl rfl hdX4_within ⟨Nat.le_of_ble_eq_true rfl, Nat.le_of_ble_eq_true rfl⟩ ⟨Nat.zero_le _, Nat.zero_le _⟩ rfl rfl (Nat.le_of_ble_eq_true rfl) dX4_count_4 7 rfl (fun u9 hu9 => ?_)
    show Z K 0 0 [wX K.g x bd tr q p h sb sv, wP K.g q a0 a1 a2 a3 a4 a5 a6 a7 s0 s1 s2 s3 s4 s5 s6 s7 s8 s9, wB K.g bd st r n, wPd K.g p fb tx len ex pl sh hu du, wH K.g h ho kp nx] [(0, .ref (x 0)), (1, .int (nI 9))] 7 [.int (bI (rg (nI 9).toInt (Int.ofNat 0) (Int.ofNat 19)))]
    refine z_ifb_ne C 13 dX4_count_7 (by decide) 10 rfl (fun c_19 => ?_) (fun c_19 => ?_)
    rotate_left
    · exfalso; rw [rgN_t (by omega) (by omega) (by omega)] at c_19; exact Bool.noConfusion c_19
    refine z_iload_n C 1 rfl rfl dX4_count_13 14 rfl ?_
    refine z_bipush C (v := nI 7) rfl dX4_count_14 16 rfl ?_
    refine z_icmp_ge C (by omega) (by omega) 29 dX4_count_16 (by decide) 19 rfl (fun c_20 => ?_) (fun c_20 => ?_)
    rotate_left
    · exfalso; omega
    refine z_aload_n C 0 rfl rfl dX4_count_29 30 rfl ?_
    refine z_get C zc4 iX4_count_X4 0 0 rfl rfl 2 (Nat.le_of_ble_eq_true rfl) (List.mem_of_getElem? (i := 3) rfl) (v := .ref (q 0)) rfl dX4_count_30 33 rfl ?_
    refine z_aload_n C 0 rfl rfl dX4_count_33 34 rfl ?_
    refine z_get C zc4 iX4_count_X4 0 0 rfl rfl 0 (Nat.le_of_ble_eq_true rfl) (List.mem_of_getElem? (i := 1) rfl) (v := .ref (bd 0)) rfl dX4_count_34 37 rfl ?_
    refine z_aload_n C 0 rfl rfl dX4_count_37 38 rfl ?_
    refine z_get C zc4 iX4_count_X4 0 0 rfl rfl 0 (Nat.le_of_ble_eq_true rfl) (List.mem_of_getElem? (i := 1) rfl) (v := .ref (bd 0)) rfl dX4_count_38 41 rfl ?_
    refine z_get C zc0 iX4_count_X0 2 0 rfl rfl 0 (Nat.le_of_ble_eq_true rfl) (List.mem_of_getElem? (i := 2) rfl) (v := .ref (bd 1)) rfl dX4_count_41 44 rfl ?_
    refine z_iconst C (v := nI 5) rfl dX4_count_44 45 rfl ?_
    refine z_iald C (f := st) 2 1 rfl rfl (by omega) (by decide) dX4_count_45 46 rfl ?_
    refine z_callV C [.ref (bd 0), .int (nI (st 5))] [] (tX3_print K.l K.g q a0 a1 a2 a3 a4 a5 a6 a7 s0 s1 s2 s3 s4 s5 s6 s7 s8 s9 bd st r n (st 5) hS hJ hn hR (by have := hS.2.2.2.2.2.2.2.1; omega)) gX4_count_X3_print rfl rfl rfl hdX3_print ⟨Nat.le_of_ble_eq_true rfl, Nat.le_of_ble_eq_true rfl⟩ ⟨Nat.zero_le _, Nat.zero_le _⟩ 1 0 rfl rfl rfl [1, 2] rfl rfl (zlc (N := 5) rfl rfl) [0, 5, 6, 3, 4] rfl (by decide) (fun u : (Nat → Nat) × (Nat → Nat) × (Nat → Nat) × (Nat → Nat) × (Nat → Nat) × (Nat → Nat) × (Nat → Nat) × (Nat → Nat) × (Nat) × (Nat) × (Nat) × (Nat) × (Nat) × (Nat) × (Nat) × (Nat) × (Nat) => match u with | (c0, c1, c2, c3, c4, c5, c6, c7, d1, d2, d3, d4, d5, d6, d7, d8, d9) => [wX K.g x bd tr q p h sb sv, wP K.g q c0 c1 c2 c3 c4 c5 c6 c7 n d1 d2 d3 d4 d5 d6 d7 d8 d9, wB K.g bd st r n, wPd K.g p fb tx len ex pl sh hu du, wH K.g h ho kp nx]) (fun _ => rfl) rfl rfl (Nat.le_of_ble_eq_true rfl) dX4_count_46 49 rfl (fun u9 hu9 => ?_)
    obtain ⟨c0, c1, c2, c3, c4, c5, c6, c7, d1, d2, d3, d4, d5, d6, d7, d8, d9⟩ := u9
    have hp := hu9
    have hp : PI st r (st 5) n c0 c1 c2 c3 c4 c5 c6 c7 d1 d2 d3 d4 d5 d6 d7 d8 d9 := hp
    show Z K 0 0 [wX K.g x bd tr q p h sb sv, wP K.g q c0 c1 c2 c3 c4 c5 c6 c7 n d1 d2 d3 d4 d5 d6 d7 d8 d9, wB K.g bd st r n, wPd K.g p fb tx len ex pl sh hu du, wH K.g h ho kp nx] [(0, .ref (x 0)), (1, .int (nI 9))] 49 []
    have hq := PI_all hp
    refine z_iload_n C 1 rfl rfl dX4_count_49 50 rfl ?_
    refine z_tab C (by decide) 128 dX4_count_50 (by decide) (by decide) rfl (by decide) ?_
    refine z_aload_n C 0 rfl rfl dX4_count_128 129 rfl ?_
    refine z_get C zc4 iX4_count_X4 0 0 rfl rfl 2 (Nat.le_of_ble_eq_true rfl) (List.mem_of_getElem? (i := 3) rfl) (v := .ref (q 0)) rfl dX4_count_129 132 rfl ?_
    refine z_aload_n C 0 rfl rfl dX4_count_132 133 rfl ?_
    refine z_get C zc4 iX4_count_X4 0 0 rfl rfl 2 (Nat.le_of_ble_eq_true rfl) (List.mem_of_getElem? (i := 3) rfl) (v := .ref (q 0)) rfl dX4_count_133 136 rfl ?_
    refine z_get C zc3 iX4_count_X3 1 0 rfl rfl 5 (Nat.le_of_ble_eq_true rfl) (List.mem_of_getElem? (i := 5) rfl) (v := .ref (q 6)) rfl dX4_count_136 139 rfl ?_
    refine z_callV C [.ref (q 6)] [] (tX3_lastOf_5 K.l K.g q c0 c1 c2 c3 c4 c5 c6 c7 n d1 d2 d3 d4 d5 d6 d7 d8 d9 (by first | omega | assumption)) gX4_count_X3_lastOf rfl rfl rfl hdX3_lastOf ⟨Nat.le_of_ble_eq_true rfl, Nat.le_of_ble_eq_true rfl⟩ ⟨Nat.zero_le _, Nat.zero_le _⟩ 1 0 rfl rfl rfl [1] rfl rfl (zlc (N := 5) rfl rfl) [0, 5, 2, 3, 4] rfl (by decide) (fun _ : Unit => [wX K.g x bd tr q p h sb sv, wP K.g q c0 c1 c2 c3 c4 c5 c6 c7 n d1 d2 d3 d4 d5 d6 d7 d8 d9, wB K.g bd st r n, wPd K.g p fb tx len ex pl sh hu du, wH K.g h ho kp nx]) (fun _ => rfl) rfl rfl (Nat.le_of_ble_eq_true rfl) dX4_count_139 142 rfl (fun u9 hu9 => ?_)
    show Z K 0 0 [wX K.g x bd tr q p h sb sv, wP K.g q c0 c1 c2 c3 c4 c5 c6 c7 n d1 d2 d3 d4 d5 d6 d7 d8 d9, wB K.g bd st r n, wPd K.g p fb tx len ex pl sh hu du, wH K.g h ho kp nx] [(0, .ref (x 0)), (1, .int (nI 9))] 142 [.int (nI (fre c5 n))]
    exact z_iret C hRx dX4_count_142 (c0, c1, c2, c3, c4, c5, c6, c7, d1, d2, d3, d4, d5, d6, d7, d8, d9, n) (congrArg (fun z => some (Value.int (nI z))) (fre_cg (fun i hi => (hq.2.1 i hi).2.2.2.2.2.1)).symm) trivial rfl
  · skip
    refine z_iload_n C 1 rfl rfl dX4_count_0 1 rfl ?_
    refine z_iconst C (v := nI 0) rfl dX4_count_1 2 rfl ?_
    refine z_bipush C (v := nI 19) rfl dX4_count_2 4 rfl ?_
    refine z_callP C [.int (nI 10), .int (nI 0), .int (nI 19)] [] (tX4_withinN K.l K.g (nI 10) 0 19 (by first | omega | assumption) (by first | omega | assumption)) gX4_count_X4_within rfl rfl rfl hdX4_within ⟨Nat.le_of_ble_eq_true rfl, Nat.le_of_ble_eq_true rfl⟩ ⟨Nat.zero_le _, Nat.zero_le _⟩ rfl rfl (Nat.le_of_ble_eq_true rfl) dX4_count_4 7 rfl (fun u9 hu9 => ?_)
    show Z K 0 0 [wX K.g x bd tr q p h sb sv, wP K.g q a0 a1 a2 a3 a4 a5 a6 a7 s0 s1 s2 s3 s4 s5 s6 s7 s8 s9, wB K.g bd st r n, wPd K.g p fb tx len ex pl sh hu du, wH K.g h ho kp nx] [(0, .ref (x 0)), (1, .int (nI 10))] 7 [.int (bI (rg (nI 10).toInt (Int.ofNat 0) (Int.ofNat 19)))]
    refine z_ifb_ne C 13 dX4_count_7 (by decide) 10 rfl (fun c_21 => ?_) (fun c_21 => ?_)
    rotate_left
    · exfalso; rw [rgN_t (by omega) (by omega) (by omega)] at c_21; exact Bool.noConfusion c_21
    refine z_iload_n C 1 rfl rfl dX4_count_13 14 rfl ?_
    refine z_bipush C (v := nI 7) rfl dX4_count_14 16 rfl ?_
    refine z_icmp_ge C (by omega) (by omega) 29 dX4_count_16 (by decide) 19 rfl (fun c_22 => ?_) (fun c_22 => ?_)
    rotate_left
    · exfalso; omega
    refine z_aload_n C 0 rfl rfl dX4_count_29 30 rfl ?_
    refine z_get C zc4 iX4_count_X4 0 0 rfl rfl 2 (Nat.le_of_ble_eq_true rfl) (List.mem_of_getElem? (i := 3) rfl) (v := .ref (q 0)) rfl dX4_count_30 33 rfl ?_
    refine z_aload_n C 0 rfl rfl dX4_count_33 34 rfl ?_
    refine z_get C zc4 iX4_count_X4 0 0 rfl rfl 0 (Nat.le_of_ble_eq_true rfl) (List.mem_of_getElem? (i := 1) rfl) (v := .ref (bd 0)) rfl dX4_count_34 37 rfl ?_
    refine z_aload_n C 0 rfl rfl dX4_count_37 38 rfl ?_
    refine z_get C zc4 iX4_count_X4 0 0 rfl rfl 0 (Nat.le_of_ble_eq_true rfl) (List.mem_of_getElem? (i := 1) rfl) (v := .ref (bd 0)) rfl dX4_count_38 41 rfl ?_
    refine z_get C zc0 iX4_count_X0 2 0 rfl rfl 0 (Nat.le_of_ble_eq_true rfl) (List.mem_of_getElem? (i := 2) rfl) (v := .ref (bd 1)) rfl dX4_count_41 44 rfl ?_
    refine z_iconst C (v := nI 5) rfl dX4_count_44 45 rfl ?_
    refine z_iald C (f := st) 2 1 rfl rfl (by omega) (by decide) dX4_count_45 46 rfl ?_
    refine z_callV C [.ref (bd 0), .int (nI (st 5))] [] (tX3_print K.l K.g q a0 a1 a2 a3 a4 a5 a6 a7 s0 s1 s2 s3 s4 s5 s6 s7 s8 s9 bd st r n (st 5) hS hJ hn hR (by have := hS.2.2.2.2.2.2.2.1; omega)) gX4_count_X3_print rfl rfl rfl hdX3_print ⟨Nat.le_of_ble_eq_true rfl, Nat.le_of_ble_eq_true rfl⟩ ⟨Nat.zero_le _, Nat.zero_le _⟩ 1 0 rfl rfl rfl [1, 2] rfl rfl (zlc (N := 5) rfl rfl) [0, 5, 6, 3, 4] rfl (by decide) (fun u : (Nat → Nat) × (Nat → Nat) × (Nat → Nat) × (Nat → Nat) × (Nat → Nat) × (Nat → Nat) × (Nat → Nat) × (Nat → Nat) × (Nat) × (Nat) × (Nat) × (Nat) × (Nat) × (Nat) × (Nat) × (Nat) × (Nat) => match u with | (c0, c1, c2, c3, c4, c5, c6, c7, d1, d2, d3, d4, d5, d6, d7, d8, d9) => [wX K.g x bd tr q p h sb sv, wP K.g q c0 c1 c2 c3 c4 c5 c6 c7 n d1 d2 d3 d4 d5 d6 d7 d8 d9, wB K.g bd st r n, wPd K.g p fb tx len ex pl sh hu du, wH K.g h ho kp nx]) (fun _ => rfl) rfl rfl (Nat.le_of_ble_eq_true rfl) dX4_count_46 49 rfl (fun u9 hu9 => ?_)
    obtain ⟨c0, c1, c2, c3, c4, c5, c6, c7, d1, d2, d3, d4, d5, d6, d7, d8, d9⟩ := u9
    have hp := hu9
    have hp : PI st r (st 5) n c0 c1 c2 c3 c4 c5 c6 c7 d1 d2 d3 d4 d5 d6 d7 d8 d9 := hp
    show Z K 0 0 [wX K.g x bd tr q p h sb sv, wP K.g q c0 c1 c2 c3 c4 c5 c6 c7 n d1 d2 d3 d4 d5 d6 d7 d8 d9, wB K.g bd st r n, wPd K.g p fb tx len ex pl sh hu du, wH K.g h ho kp nx] [(0, .ref (x 0)), (1, .int (nI 10))] 49 []
    have hq := PI_all hp
    refine z_iload_n C 1 rfl rfl dX4_count_49 50 rfl ?_
    refine z_tab C (by decide) 143 dX4_count_50 (by decide) (by decide) rfl (by decide) ?_
    refine z_aload_n C 0 rfl rfl dX4_count_143 144 rfl ?_
    refine z_get C zc4 iX4_count_X4 0 0 rfl rfl 2 (Nat.le_of_ble_eq_true rfl) (List.mem_of_getElem? (i := 3) rfl) (v := .ref (q 0)) rfl dX4_count_144 147 rfl ?_
    refine z_aload_n C 0 rfl rfl dX4_count_147 148 rfl ?_
    refine z_get C zc4 iX4_count_X4 0 0 rfl rfl 2 (Nat.le_of_ble_eq_true rfl) (List.mem_of_getElem? (i := 3) rfl) (v := .ref (q 0)) rfl dX4_count_148 151 rfl ?_
    refine z_get C zc3 iX4_count_X3 1 0 rfl rfl 6 (Nat.le_of_ble_eq_true rfl) (List.mem_of_getElem? (i := 6) rfl) (v := .ref (q 7)) rfl dX4_count_151 154 rfl ?_
    refine z_callV C [.ref (q 7)] [] (tX3_lastOf_6 K.l K.g q c0 c1 c2 c3 c4 c5 c6 c7 n d1 d2 d3 d4 d5 d6 d7 d8 d9 (by first | omega | assumption)) gX4_count_X3_lastOf rfl rfl rfl hdX3_lastOf ⟨Nat.le_of_ble_eq_true rfl, Nat.le_of_ble_eq_true rfl⟩ ⟨Nat.zero_le _, Nat.zero_le _⟩ 1 0 rfl rfl rfl [1] rfl rfl (zlc (N := 5) rfl rfl) [0, 5, 2, 3, 4] rfl (by decide) (fun _ : Unit => [wX K.g x bd tr q p h sb sv, wP K.g q c0 c1 c2 c3 c4 c5 c6 c7 n d1 d2 d3 d4 d5 d6 d7 d8 d9, wB K.g bd st r n, wPd K.g p fb tx len ex pl sh hu du, wH K.g h ho kp nx]) (fun _ => rfl) rfl rfl (Nat.le_of_ble_eq_true rfl) dX4_count_154 157 rfl (fun u9 hu9 => ?_)
    show Z K 0 0 [wX K.g x bd tr q p h sb sv, wP K.g q c0 c1 c2 c3 c4 c5 c6 c7 n d1 d2 d3 d4 d5 d6 d7 d8 d9, wB K.g bd st r n, wPd K.g p fb tx len ex pl sh hu du, wH K.g h ho kp nx] [(0, .ref (x 0)), (1, .int (nI 10))] 157 [.int (nI (fre c6 n))]
    exact z_iret C hRx dX4_count_157 (c0, c1, c2, c3, c4, c5, c6, c7, d1, d2, d3, d4, d5, d6, d7, d8, d9, n) (congrArg (fun z => some (Value.int (nI z))) (fre_cg (fun i hi => (hq.2.1 i hi).2.2.2.2.2.2.1)).symm) trivial rfl
  · skip
    refine z_iload_n C 1 rfl rfl dX4_count_0 1 rfl ?_
    refine z_iconst C (v := nI 0) rfl dX4_count_1 2 rfl ?_
    refine z_bipush C (v := nI 19) rfl dX4_count_2 4 rfl ?_
    refine z_callP C [.int (nI 11), .int (nI 0), .int (nI 19)] [] (tX4_withinN K.l K.g (nI 11) 0 19 (by first | omega | assumption) (by first | omega | assumption)) gX4_count_X4_within rfl rfl rfl hdX4_within ⟨Nat.le_of_ble_eq_true rfl, Nat.le_of_ble_eq_true rfl⟩ ⟨Nat.zero_le _, Nat.zero_le _⟩ rfl rfl (Nat.le_of_ble_eq_true rfl) dX4_count_4 7 rfl (fun u9 hu9 => ?_)
    show Z K 0 0 [wX K.g x bd tr q p h sb sv, wP K.g q a0 a1 a2 a3 a4 a5 a6 a7 s0 s1 s2 s3 s4 s5 s6 s7 s8 s9, wB K.g bd st r n, wPd K.g p fb tx len ex pl sh hu du, wH K.g h ho kp nx] [(0, .ref (x 0)), (1, .int (nI 11))] 7 [.int (bI (rg (nI 11).toInt (Int.ofNat 0) (Int.ofNat 19)))]
    refine z_ifb_ne C 13 dX4_count_7 (by decide) 10 rfl (fun c_23 => ?_) (fun c_23 => ?_)
    rotate_left
    · exfalso; rw [rgN_t (by omega) (by omega) (by omega)] at c_23; exact Bool.noConfusion c_23
    refine z_iload_n C 1 rfl rfl dX4_count_13 14 rfl ?_
    refine z_bipush C (v := nI 7) rfl dX4_count_14 16 rfl ?_
    refine z_icmp_ge C (by omega) (by omega) 29 dX4_count_16 (by decide) 19 rfl (fun c_24 => ?_) (fun c_24 => ?_)
    rotate_left
    · exfalso; omega
    refine z_aload_n C 0 rfl rfl dX4_count_29 30 rfl ?_
    refine z_get C zc4 iX4_count_X4 0 0 rfl rfl 2 (Nat.le_of_ble_eq_true rfl) (List.mem_of_getElem? (i := 3) rfl) (v := .ref (q 0)) rfl dX4_count_30 33 rfl ?_
    refine z_aload_n C 0 rfl rfl dX4_count_33 34 rfl ?_
    refine z_get C zc4 iX4_count_X4 0 0 rfl rfl 0 (Nat.le_of_ble_eq_true rfl) (List.mem_of_getElem? (i := 1) rfl) (v := .ref (bd 0)) rfl dX4_count_34 37 rfl ?_
    refine z_aload_n C 0 rfl rfl dX4_count_37 38 rfl ?_
    refine z_get C zc4 iX4_count_X4 0 0 rfl rfl 0 (Nat.le_of_ble_eq_true rfl) (List.mem_of_getElem? (i := 1) rfl) (v := .ref (bd 0)) rfl dX4_count_38 41 rfl ?_
    refine z_get C zc0 iX4_count_X0 2 0 rfl rfl 0 (Nat.le_of_ble_eq_true rfl) (List.mem_of_getElem? (i := 2) rfl) (v := .ref (bd 1)) rfl dX4_count_41 44 rfl ?_
    refine z_iconst C (v := nI 5) rfl dX4_count_44 45 rfl ?_
    refine z_iald C (f := st) 2 1 rfl rfl (by omega) (by decide) dX4_count_45 46 rfl ?_
    refine z_callV C [.ref (bd 0), .int (nI (st 5))] [] (tX3_print K.l K.g q a0 a1 a2 a3 a4 a5 a6 a7 s0 s1 s2 s3 s4 s5 s6 s7 s8 s9 bd st r n (st 5) hS hJ hn hR (by have := hS.2.2.2.2.2.2.2.1; omega)) gX4_count_X3_print rfl rfl rfl hdX3_print ⟨Nat.le_of_ble_eq_true rfl, Nat.le_of_ble_eq_true rfl⟩ ⟨Nat.zero_le _, Nat.zero_le _⟩ 1 0 rfl rfl rfl [1, 2] rfl rfl (zlc (N := 5) rfl rfl) [0, 5, 6, 3, 4] rfl (by decide) (fun u : (Nat → Nat) × (Nat → Nat) × (Nat → Nat) × (Nat → Nat) × (Nat → Nat) × (Nat → Nat) × (Nat → Nat) × (Nat → Nat) × (Nat) × (Nat) × (Nat) × (Nat) × (Nat) × (Nat) × (Nat) × (Nat) × (Nat) => match u with | (c0, c1, c2, c3, c4, c5, c6, c7, d1, d2, d3, d4, d5, d6, d7, d8, d9) => [wX K.g x bd tr q p h sb sv, wP K.g q c0 c1 c2 c3 c4 c5 c6 c7 n d1 d2 d3 d4 d5 d6 d7 d8 d9, wB K.g bd st r n, wPd K.g p fb tx len ex pl sh hu du, wH K.g h ho kp nx]) (fun _ => rfl) rfl rfl (Nat.le_of_ble_eq_true rfl) dX4_count_46 49 rfl (fun u9 hu9 => ?_)
    obtain ⟨c0, c1, c2, c3, c4, c5, c6, c7, d1, d2, d3, d4, d5, d6, d7, d8, d9⟩ := u9
    have hp := hu9
    have hp : PI st r (st 5) n c0 c1 c2 c3 c4 c5 c6 c7 d1 d2 d3 d4 d5 d6 d7 d8 d9 := hp
    show Z K 0 0 [wX K.g x bd tr q p h sb sv, wP K.g q c0 c1 c2 c3 c4 c5 c6 c7 n d1 d2 d3 d4 d5 d6 d7 d8 d9, wB K.g bd st r n, wPd K.g p fb tx len ex pl sh hu du, wH K.g h ho kp nx] [(0, .ref (x 0)), (1, .int (nI 11))] 49 []
    have hq := PI_all hp
    refine z_iload_n C 1 rfl rfl dX4_count_49 50 rfl ?_
    refine z_tab C (by decide) 158 dX4_count_50 (by decide) (by decide) rfl (by decide) ?_
    refine z_aload_n C 0 rfl rfl dX4_count_158 159 rfl ?_
    refine z_get C zc4 iX4_count_X4 0 0 rfl rfl 2 (Nat.le_of_ble_eq_true rfl) (List.mem_of_getElem? (i := 3) rfl) (v := .ref (q 0)) rfl dX4_count_159 162 rfl ?_
    refine z_get C zc3 iX4_count_X3 1 0 rfl rfl 9 (Nat.le_of_ble_eq_true rfl) (List.mem_of_getElem? (i := 7) rfl) (v := .int (nI d1)) rfl dX4_count_162 165 rfl ?_
    exact z_iret C hRx dX4_count_165 (c0, c1, c2, c3, c4, c5, c6, c7, d1, d2, d3, d4, d5, d6, d7, d8, d9, n) (congrArg (fun z => some (Value.int (nI z))) hq.2.2.1.symm) trivial rfl
  · skip
    refine z_iload_n C 1 rfl rfl dX4_count_0 1 rfl ?_
    refine z_iconst C (v := nI 0) rfl dX4_count_1 2 rfl ?_
    refine z_bipush C (v := nI 19) rfl dX4_count_2 4 rfl ?_
    refine z_callP C [.int (nI 12), .int (nI 0), .int (nI 19)] [] (tX4_withinN K.l K.g (nI 12) 0 19 (by first | omega | assumption) (by first | omega | assumption)) gX4_count_X4_within rfl rfl rfl hdX4_within ⟨Nat.le_of_ble_eq_true rfl, Nat.le_of_ble_eq_true rfl⟩ ⟨Nat.zero_le _, Nat.zero_le _⟩ rfl rfl (Nat.le_of_ble_eq_true rfl) dX4_count_4 7 rfl (fun u9 hu9 => ?_)
    show Z K 0 0 [wX K.g x bd tr q p h sb sv, wP K.g q a0 a1 a2 a3 a4 a5 a6 a7 s0 s1 s2 s3 s4 s5 s6 s7 s8 s9, wB K.g bd st r n, wPd K.g p fb tx len ex pl sh hu du, wH K.g h ho kp nx] [(0, .ref (x 0)), (1, .int (nI 12))] 7 [.int (bI (rg (nI 12).toInt (Int.ofNat 0) (Int.ofNat 19)))]
    refine z_ifb_ne C 13 dX4_count_7 (by decide) 10 rfl (fun c_25 => ?_) (fun c_25 => ?_)
    rotate_left
    · exfalso; rw [rgN_t (by omega) (by omega) (by omega)] at c_25; exact Bool.noConfusion c_25
    refine z_iload_n C 1 rfl rfl dX4_count_13 14 rfl ?_
    refine z_bipush C (v := nI 7) rfl dX4_count_14 16 rfl ?_
    refine z_icmp_ge C (by omega) (by omega) 29 dX4_count_16 (by decide) 19 rfl (fun c_26 => ?_) (fun c_26 => ?_)
    rotate_left
    · exfalso; omega
    refine z_aload_n C 0 rfl rfl dX4_count_29 30 rfl ?_
    refine z_get C zc4 iX4_count_X4 0 0 rfl rfl 2 (Nat.le_of_ble_eq_true rfl) (List.mem_of_getElem? (i := 3) rfl) (v := .ref (q 0)) rfl dX4_count_30 33 rfl ?_
    refine z_aload_n C 0 rfl rfl dX4_count_33 34 rfl ?_
    refine z_get C zc4 iX4_count_X4 0 0 rfl rfl 0 (Nat.le_of_ble_eq_true rfl) (List.mem_of_getElem? (i := 1) rfl) (v := .ref (bd 0)) rfl dX4_count_34 37 rfl ?_
    refine z_aload_n C 0 rfl rfl dX4_count_37 38 rfl ?_
    refine z_get C zc4 iX4_count_X4 0 0 rfl rfl 0 (Nat.le_of_ble_eq_true rfl) (List.mem_of_getElem? (i := 1) rfl) (v := .ref (bd 0)) rfl dX4_count_38 41 rfl ?_
    refine z_get C zc0 iX4_count_X0 2 0 rfl rfl 0 (Nat.le_of_ble_eq_true rfl) (List.mem_of_getElem? (i := 2) rfl) (v := .ref (bd 1)) rfl dX4_count_41 44 rfl ?_
    refine z_iconst C (v := nI 5) rfl dX4_count_44 45 rfl ?_
    refine z_iald C (f := st) 2 1 rfl rfl (by omega) (by decide) dX4_count_45 46 rfl ?_
    refine z_callV C [.ref (bd 0), .int (nI (st 5))] [] (tX3_print K.l K.g q a0 a1 a2 a3 a4 a5 a6 a7 s0 s1 s2 s3 s4 s5 s6 s7 s8 s9 bd st r n (st 5) hS hJ hn hR (by have := hS.2.2.2.2.2.2.2.1; omega)) gX4_count_X3_print rfl rfl rfl hdX3_print ⟨Nat.le_of_ble_eq_true rfl, Nat.le_of_ble_eq_true rfl⟩ ⟨Nat.zero_le _, Nat.zero_le _⟩ 1 0 rfl rfl rfl [1, 2] rfl rfl (zlc (N := 5) rfl rfl) [0, 5, 6, 3, 4] rfl (by decide) (fun u : (Nat → Nat) × (Nat → Nat) × (Nat → Nat) × (Nat → Nat) × (Nat → Nat) × (Nat → Nat) × (Nat → Nat) × (Nat → Nat) × (Nat) × (Nat) × (Nat) × (Nat) × (Nat) × (Nat) × (Nat) × (Nat) × (Nat) => match u with | (c0, c1, c2, c3, c4, c5, c6, c7, d1, d2, d3, d4, d5, d6, d7, d8, d9) => [wX K.g x bd tr q p h sb sv, wP K.g q c0 c1 c2 c3 c4 c5 c6 c7 n d1 d2 d3 d4 d5 d6 d7 d8 d9, wB K.g bd st r n, wPd K.g p fb tx len ex pl sh hu du, wH K.g h ho kp nx]) (fun _ => rfl) rfl rfl (Nat.le_of_ble_eq_true rfl) dX4_count_46 49 rfl (fun u9 hu9 => ?_)
    obtain ⟨c0, c1, c2, c3, c4, c5, c6, c7, d1, d2, d3, d4, d5, d6, d7, d8, d9⟩ := u9
    have hp := hu9
    have hp : PI st r (st 5) n c0 c1 c2 c3 c4 c5 c6 c7 d1 d2 d3 d4 d5 d6 d7 d8 d9 := hp
    show Z K 0 0 [wX K.g x bd tr q p h sb sv, wP K.g q c0 c1 c2 c3 c4 c5 c6 c7 n d1 d2 d3 d4 d5 d6 d7 d8 d9, wB K.g bd st r n, wPd K.g p fb tx len ex pl sh hu du, wH K.g h ho kp nx] [(0, .ref (x 0)), (1, .int (nI 12))] 49 []
    have hq := PI_all hp
    refine z_iload_n C 1 rfl rfl dX4_count_49 50 rfl ?_
    refine z_tab C (by decide) 166 dX4_count_50 (by decide) (by decide) rfl (by decide) ?_
    refine z_aload_n C 0 rfl rfl dX4_count_166 167 rfl ?_
    refine z_get C zc4 iX4_count_X4 0 0 rfl rfl 2 (Nat.le_of_ble_eq_true rfl) (List.mem_of_getElem? (i := 3) rfl) (v := .ref (q 0)) rfl dX4_count_167 170 rfl ?_
    refine z_get C zc3 iX4_count_X3 1 0 rfl rfl 10 (Nat.le_of_ble_eq_true rfl) (List.mem_of_getElem? (i := 8) rfl) (v := .int (nI d2)) rfl dX4_count_170 173 rfl ?_
    exact z_iret C hRx dX4_count_173 (c0, c1, c2, c3, c4, c5, c6, c7, d1, d2, d3, d4, d5, d6, d7, d8, d9, n) (congrArg (fun z => some (Value.int (nI z))) hq.2.2.2.1.symm) trivial rfl
  · skip
    refine z_iload_n C 1 rfl rfl dX4_count_0 1 rfl ?_
    refine z_iconst C (v := nI 0) rfl dX4_count_1 2 rfl ?_
    refine z_bipush C (v := nI 19) rfl dX4_count_2 4 rfl ?_
    refine z_callP C [.int (nI 13), .int (nI 0), .int (nI 19)] [] (tX4_withinN K.l K.g (nI 13) 0 19 (by first | omega | assumption) (by first | omega | assumption)) gX4_count_X4_within rfl rfl rfl hdX4_within ⟨Nat.le_of_ble_eq_true rfl, Nat.le_of_ble_eq_true rfl⟩ ⟨Nat.zero_le _, Nat.zero_le _⟩ rfl rfl (Nat.le_of_ble_eq_true rfl) dX4_count_4 7 rfl (fun u9 hu9 => ?_)
    show Z K 0 0 [wX K.g x bd tr q p h sb sv, wP K.g q a0 a1 a2 a3 a4 a5 a6 a7 s0 s1 s2 s3 s4 s5 s6 s7 s8 s9, wB K.g bd st r n, wPd K.g p fb tx len ex pl sh hu du, wH K.g h ho kp nx] [(0, .ref (x 0)), (1, .int (nI 13))] 7 [.int (bI (rg (nI 13).toInt (Int.ofNat 0) (Int.ofNat 19)))]
    refine z_ifb_ne C 13 dX4_count_7 (by decide) 10 rfl (fun c_27 => ?_) (fun c_27 => ?_)
    rotate_left
    · exfalso; rw [rgN_t (by omega) (by omega) (by omega)] at c_27; exact Bool.noConfusion c_27
    refine z_iload_n C 1 rfl rfl dX4_count_13 14 rfl ?_
    refine z_bipush C (v := nI 7) rfl dX4_count_14 16 rfl ?_
    refine z_icmp_ge C (by omega) (by omega) 29 dX4_count_16 (by decide) 19 rfl (fun c_28 => ?_) (fun c_28 => ?_)
    rotate_left
    · exfalso; omega
    refine z_aload_n C 0 rfl rfl dX4_count_29 30 rfl ?_
    refine z_get C zc4 iX4_count_X4 0 0 rfl rfl 2 (Nat.le_of_ble_eq_true rfl) (List.mem_of_getElem? (i := 3) rfl) (v := .ref (q 0)) rfl dX4_count_30 33 rfl ?_
    refine z_aload_n C 0 rfl rfl dX4_count_33 34 rfl ?_
    refine z_get C zc4 iX4_count_X4 0 0 rfl rfl 0 (Nat.le_of_ble_eq_true rfl) (List.mem_of_getElem? (i := 1) rfl) (v := .ref (bd 0)) rfl dX4_count_34 37 rfl ?_
    refine z_aload_n C 0 rfl rfl dX4_count_37 38 rfl ?_
    refine z_get C zc4 iX4_count_X4 0 0 rfl rfl 0 (Nat.le_of_ble_eq_true rfl) (List.mem_of_getElem? (i := 1) rfl) (v := .ref (bd 0)) rfl dX4_count_38 41 rfl ?_
    refine z_get C zc0 iX4_count_X0 2 0 rfl rfl 0 (Nat.le_of_ble_eq_true rfl) (List.mem_of_getElem? (i := 2) rfl) (v := .ref (bd 1)) rfl dX4_count_41 44 rfl ?_
    refine z_iconst C (v := nI 5) rfl dX4_count_44 45 rfl ?_
    refine z_iald C (f := st) 2 1 rfl rfl (by omega) (by decide) dX4_count_45 46 rfl ?_
    refine z_callV C [.ref (bd 0), .int (nI (st 5))] [] (tX3_print K.l K.g q a0 a1 a2 a3 a4 a5 a6 a7 s0 s1 s2 s3 s4 s5 s6 s7 s8 s9 bd st r n (st 5) hS hJ hn hR (by have := hS.2.2.2.2.2.2.2.1; omega)) gX4_count_X3_print rfl rfl rfl hdX3_print ⟨Nat.le_of_ble_eq_true rfl, Nat.le_of_ble_eq_true rfl⟩ ⟨Nat.zero_le _, Nat.zero_le _⟩ 1 0 rfl rfl rfl [1, 2] rfl rfl (zlc (N := 5) rfl rfl) [0, 5, 6, 3, 4] rfl (by decide) (fun u : (Nat → Nat) × (Nat → Nat) × (Nat → Nat) × (Nat → Nat) × (Nat → Nat) × (Nat → Nat) × (Nat → Nat) × (Nat → Nat) × (Nat) × (Nat) × (Nat) × (Nat) × (Nat) × (Nat) × (Nat) × (Nat) × (Nat) => match u with | (c0, c1, c2, c3, c4, c5, c6, c7, d1, d2, d3, d4, d5, d6, d7, d8, d9) => [wX K.g x bd tr q p h sb sv, wP K.g q c0 c1 c2 c3 c4 c5 c6 c7 n d1 d2 d3 d4 d5 d6 d7 d8 d9, wB K.g bd st r n, wPd K.g p fb tx len ex pl sh hu du, wH K.g h ho kp nx]) (fun _ => rfl) rfl rfl (Nat.le_of_ble_eq_true rfl) dX4_count_46 49 rfl (fun u9 hu9 => ?_)
    obtain ⟨c0, c1, c2, c3, c4, c5, c6, c7, d1, d2, d3, d4, d5, d6, d7, d8, d9⟩ := u9
    have hp := hu9
    have hp : PI st r (st 5) n c0 c1 c2 c3 c4 c5 c6 c7 d1 d2 d3 d4 d5 d6 d7 d8 d9 := hp
    show Z K 0 0 [wX K.g x bd tr q p h sb sv, wP K.g q c0 c1 c2 c3 c4 c5 c6 c7 n d1 d2 d3 d4 d5 d6 d7 d8 d9, wB K.g bd st r n, wPd K.g p fb tx len ex pl sh hu du, wH K.g h ho kp nx] [(0, .ref (x 0)), (1, .int (nI 13))] 49 []
    have hq := PI_all hp
    refine z_iload_n C 1 rfl rfl dX4_count_49 50 rfl ?_
    refine z_tab C (by decide) 174 dX4_count_50 (by decide) (by decide) rfl (by decide) ?_
    refine z_aload_n C 0 rfl rfl dX4_count_174 175 rfl ?_
    refine z_get C zc4 iX4_count_X4 0 0 rfl rfl 2 (Nat.le_of_ble_eq_true rfl) (List.mem_of_getElem? (i := 3) rfl) (v := .ref (q 0)) rfl dX4_count_175 178 rfl ?_
    refine z_get C zc3 iX4_count_X3 1 0 rfl rfl 11 (Nat.le_of_ble_eq_true rfl) (List.mem_of_getElem? (i := 9) rfl) (v := .int (nI d3)) rfl dX4_count_178 181 rfl ?_
    exact z_iret C hRx dX4_count_181 (c0, c1, c2, c3, c4, c5, c6, c7, d1, d2, d3, d4, d5, d6, d7, d8, d9, n) (congrArg (fun z => some (Value.int (nI z))) hq.2.2.2.2.1.symm) trivial rfl
  · skip
    refine z_iload_n C 1 rfl rfl dX4_count_0 1 rfl ?_
    refine z_iconst C (v := nI 0) rfl dX4_count_1 2 rfl ?_
    refine z_bipush C (v := nI 19) rfl dX4_count_2 4 rfl ?_
    refine z_callP C [.int (nI 14), .int (nI 0), .int (nI 19)] [] (tX4_withinN K.l K.g (nI 14) 0 19 (by first | omega | assumption) (by first | omega | assumption)) gX4_count_X4_within rfl rfl rfl hdX4_within ⟨Nat.le_of_ble_eq_true rfl, Nat.le_of_ble_eq_true rfl⟩ ⟨Nat.zero_le _, Nat.zero_le _⟩ rfl rfl (Nat.le_of_ble_eq_true rfl) dX4_count_4 7 rfl (fun u9 hu9 => ?_)
    show Z K 0 0 [wX K.g x bd tr q p h sb sv, wP K.g q a0 a1 a2 a3 a4 a5 a6 a7 s0 s1 s2 s3 s4 s5 s6 s7 s8 s9, wB K.g bd st r n, wPd K.g p fb tx len ex pl sh hu du, wH K.g h ho kp nx] [(0, .ref (x 0)), (1, .int (nI 14))] 7 [.int (bI (rg (nI 14).toInt (Int.ofNat 0) (Int.ofNat 19)))]
    refine z_ifb_ne C 13 dX4_count_7 (by decide) 10 rfl (fun c_29 => ?_) (fun c_29 => ?_)
    rotate_left
    · exfalso; rw [rgN_t (by omega) (by omega) (by omega)] at c_29; exact Bool.noConfusion c_29
    refine z_iload_n C 1 rfl rfl dX4_count_13 14 rfl ?_
    refine z_bipush C (v := nI 7) rfl dX4_count_14 16 rfl ?_
    refine z_icmp_ge C (by omega) (by omega) 29 dX4_count_16 (by decide) 19 rfl (fun c_30 => ?_) (fun c_30 => ?_)
    rotate_left
    · exfalso; omega
    refine z_aload_n C 0 rfl rfl dX4_count_29 30 rfl ?_
    refine z_get C zc4 iX4_count_X4 0 0 rfl rfl 2 (Nat.le_of_ble_eq_true rfl) (List.mem_of_getElem? (i := 3) rfl) (v := .ref (q 0)) rfl dX4_count_30 33 rfl ?_
    refine z_aload_n C 0 rfl rfl dX4_count_33 34 rfl ?_
    refine z_get C zc4 iX4_count_X4 0 0 rfl rfl 0 (Nat.le_of_ble_eq_true rfl) (List.mem_of_getElem? (i := 1) rfl) (v := .ref (bd 0)) rfl dX4_count_34 37 rfl ?_
    refine z_aload_n C 0 rfl rfl dX4_count_37 38 rfl ?_
    refine z_get C zc4 iX4_count_X4 0 0 rfl rfl 0 (Nat.le_of_ble_eq_true rfl) (List.mem_of_getElem? (i := 1) rfl) (v := .ref (bd 0)) rfl dX4_count_38 41 rfl ?_
    refine z_get C zc0 iX4_count_X0 2 0 rfl rfl 0 (Nat.le_of_ble_eq_true rfl) (List.mem_of_getElem? (i := 2) rfl) (v := .ref (bd 1)) rfl dX4_count_41 44 rfl ?_
    refine z_iconst C (v := nI 5) rfl dX4_count_44 45 rfl ?_
    refine z_iald C (f := st) 2 1 rfl rfl (by omega) (by decide) dX4_count_45 46 rfl ?_
    refine z_callV C [.ref (bd 0), .int (nI (st 5))] [] (tX3_print K.l K.g q a0 a1 a2 a3 a4 a5 a6 a7 s0 s1 s2 s3 s4 s5 s6 s7 s8 s9 bd st r n (st 5) hS hJ hn hR (by have := hS.2.2.2.2.2.2.2.1; omega)) gX4_count_X3_print rfl rfl rfl hdX3_print ⟨Nat.le_of_ble_eq_true rfl, Nat.le_of_ble_eq_true rfl⟩ ⟨Nat.zero_le _, Nat.zero_le _⟩ 1 0 rfl rfl rfl [1, 2] rfl rfl (zlc (N := 5) rfl rfl) [0, 5, 6, 3, 4] rfl (by decide) (fun u : (Nat → Nat) × (Nat → Nat) × (Nat → Nat) × (Nat → Nat) × (Nat → Nat) × (Nat → Nat) × (Nat → Nat) × (Nat → Nat) × (Nat) × (Nat) × (Nat) × (Nat) × (Nat) × (Nat) × (Nat) × (Nat) × (Nat) => match u with | (c0, c1, c2, c3, c4, c5, c6, c7, d1, d2, d3, d4, d5, d6, d7, d8, d9) => [wX K.g x bd tr q p h sb sv, wP K.g q c0 c1 c2 c3 c4 c5 c6 c7 n d1 d2 d3 d4 d5 d6 d7 d8 d9, wB K.g bd st r n, wPd K.g p fb tx len ex pl sh hu du, wH K.g h ho kp nx]) (fun _ => rfl) rfl rfl (Nat.le_of_ble_eq_true rfl) dX4_count_46 49 rfl (fun u9 hu9 => ?_)
    obtain ⟨c0, c1, c2, c3, c4, c5, c6, c7, d1, d2, d3, d4, d5, d6, d7, d8, d9⟩ := u9
    have hp := hu9
    have hp : PI st r (st 5) n c0 c1 c2 c3 c4 c5 c6 c7 d1 d2 d3 d4 d5 d6 d7 d8 d9 := hp
    show Z K 0 0 [wX K.g x bd tr q p h sb sv, wP K.g q c0 c1 c2 c3 c4 c5 c6 c7 n d1 d2 d3 d4 d5 d6 d7 d8 d9, wB K.g bd st r n, wPd K.g p fb tx len ex pl sh hu du, wH K.g h ho kp nx] [(0, .ref (x 0)), (1, .int (nI 14))] 49 []
    have hq := PI_all hp
    refine z_iload_n C 1 rfl rfl dX4_count_49 50 rfl ?_
    refine z_tab C (by decide) 182 dX4_count_50 (by decide) (by decide) rfl (by decide) ?_
    refine z_aload_n C 0 rfl rfl dX4_count_182 183 rfl ?_
    refine z_get C zc4 iX4_count_X4 0 0 rfl rfl 2 (Nat.le_of_ble_eq_true rfl) (List.mem_of_getElem? (i := 3) rfl) (v := .ref (q 0)) rfl dX4_count_183 186 rfl ?_
    refine z_get C zc3 iX4_count_X3 1 0 rfl rfl 12 (Nat.le_of_ble_eq_true rfl) (List.mem_of_getElem? (i := 10) rfl) (v := .int (nI d4)) rfl dX4_count_186 189 rfl ?_
    exact z_iret C hRx dX4_count_189 (c0, c1, c2, c3, c4, c5, c6, c7, d1, d2, d3, d4, d5, d6, d7, d8, d9, n) (congrArg (fun z => some (Value.int (nI z))) hq.2.2.2.2.2.1.symm) trivial rfl
  · skip
    refine z_iload_n C 1 rfl rfl dX4_count_0 1 rfl ?_
    refine z_iconst C (v := nI 0) rfl dX4_count_1 2 rfl ?_
    refine z_bipush C (v := nI 19) rfl dX4_count_2 4 rfl ?_
    refine z_callP C [.int (nI 15), .int (nI 0), .int (nI 19)] [] (tX4_withinN K.l K.g (nI 15) 0 19 (by first | omega | assumption) (by first | omega | assumption)) gX4_count_X4_within rfl rfl rfl hdX4_within ⟨Nat.le_of_ble_eq_true rfl, Nat.le_of_ble_eq_true rfl⟩ ⟨Nat.zero_le _, Nat.zero_le _⟩ rfl rfl (Nat.le_of_ble_eq_true rfl) dX4_count_4 7 rfl (fun u9 hu9 => ?_)
    show Z K 0 0 [wX K.g x bd tr q p h sb sv, wP K.g q a0 a1 a2 a3 a4 a5 a6 a7 s0 s1 s2 s3 s4 s5 s6 s7 s8 s9, wB K.g bd st r n, wPd K.g p fb tx len ex pl sh hu du, wH K.g h ho kp nx] [(0, .ref (x 0)), (1, .int (nI 15))] 7 [.int (bI (rg (nI 15).toInt (Int.ofNat 0) (Int.ofNat 19)))]
    refine z_ifb_ne C 13 dX4_count_7 (by decide) 10 rfl (fun c_31 => ?_) (fun c_31 => ?_)
    rotate_left
    · exfalso; rw [rgN_t (by omega) (by omega) (by omega)] at c_31; exact Bool.noConfusion c_31
    refine z_iload_n C 1 rfl rfl dX4_count_13 14 rfl ?_
    refine z_bipush C (v := nI 7) rfl dX4_count_14 16 rfl ?_
    refine z_icmp_ge C (by omega) (by omega) 29 dX4_count_16 (by decide) 19 rfl (fun c_32 => ?_) (fun c_32 => ?_)
    rotate_left
    · exfalso; omega
    refine z_aload_n C 0 rfl rfl dX4_count_29 30 rfl ?_
    refine z_get C zc4 iX4_count_X4 0 0 rfl rfl 2 (Nat.le_of_ble_eq_true rfl) (List.mem_of_getElem? (i := 3) rfl) (v := .ref (q 0)) rfl dX4_count_30 33 rfl ?_
    refine z_aload_n C 0 rfl rfl dX4_count_33 34 rfl ?_
    refine z_get C zc4 iX4_count_X4 0 0 rfl rfl 0 (Nat.le_of_ble_eq_true rfl) (List.mem_of_getElem? (i := 1) rfl) (v := .ref (bd 0)) rfl dX4_count_34 37 rfl ?_
    refine z_aload_n C 0 rfl rfl dX4_count_37 38 rfl ?_
    refine z_get C zc4 iX4_count_X4 0 0 rfl rfl 0 (Nat.le_of_ble_eq_true rfl) (List.mem_of_getElem? (i := 1) rfl) (v := .ref (bd 0)) rfl dX4_count_38 41 rfl ?_
    refine z_get C zc0 iX4_count_X0 2 0 rfl rfl 0 (Nat.le_of_ble_eq_true rfl) (List.mem_of_getElem? (i := 2) rfl) (v := .ref (bd 1)) rfl dX4_count_41 44 rfl ?_
    refine z_iconst C (v := nI 5) rfl dX4_count_44 45 rfl ?_
    refine z_iald C (f := st) 2 1 rfl rfl (by omega) (by decide) dX4_count_45 46 rfl ?_
    refine z_callV C [.ref (bd 0), .int (nI (st 5))] [] (tX3_print K.l K.g q a0 a1 a2 a3 a4 a5 a6 a7 s0 s1 s2 s3 s4 s5 s6 s7 s8 s9 bd st r n (st 5) hS hJ hn hR (by have := hS.2.2.2.2.2.2.2.1; omega)) gX4_count_X3_print rfl rfl rfl hdX3_print ⟨Nat.le_of_ble_eq_true rfl, Nat.le_of_ble_eq_true rfl⟩ ⟨Nat.zero_le _, Nat.zero_le _⟩ 1 0 rfl rfl rfl [1, 2] rfl rfl (zlc (N := 5) rfl rfl) [0, 5, 6, 3, 4] rfl (by decide) (fun u : (Nat → Nat) × (Nat → Nat) × (Nat → Nat) × (Nat → Nat) × (Nat → Nat) × (Nat → Nat) × (Nat → Nat) × (Nat → Nat) × (Nat) × (Nat) × (Nat) × (Nat) × (Nat) × (Nat) × (Nat) × (Nat) × (Nat) => match u with | (c0, c1, c2, c3, c4, c5, c6, c7, d1, d2, d3, d4, d5, d6, d7, d8, d9) => [wX K.g x bd tr q p h sb sv, wP K.g q c0 c1 c2 c3 c4 c5 c6 c7 n d1 d2 d3 d4 d5 d6 d7 d8 d9, wB K.g bd st r n, wPd K.g p fb tx len ex pl sh hu du, wH K.g h ho kp nx]) (fun _ => rfl) rfl rfl (Nat.le_of_ble_eq_true rfl) dX4_count_46 49 rfl (fun u9 hu9 => ?_)
    obtain ⟨c0, c1, c2, c3, c4, c5, c6, c7, d1, d2, d3, d4, d5, d6, d7, d8, d9⟩ := u9
    have hp := hu9
    have hp : PI st r (st 5) n c0 c1 c2 c3 c4 c5 c6 c7 d1 d2 d3 d4 d5 d6 d7 d8 d9 := hp
    show Z K 0 0 [wX K.g x bd tr q p h sb sv, wP K.g q c0 c1 c2 c3 c4 c5 c6 c7 n d1 d2 d3 d4 d5 d6 d7 d8 d9, wB K.g bd st r n, wPd K.g p fb tx len ex pl sh hu du, wH K.g h ho kp nx] [(0, .ref (x 0)), (1, .int (nI 15))] 49 []
    have hq := PI_all hp
    refine z_iload_n C 1 rfl rfl dX4_count_49 50 rfl ?_
    refine z_tab C (by decide) 190 dX4_count_50 (by decide) (by decide) rfl (by decide) ?_
    refine z_aload_n C 0 rfl rfl dX4_count_190 191 rfl ?_
    refine z_get C zc4 iX4_count_X4 0 0 rfl rfl 2 (Nat.le_of_ble_eq_true rfl) (List.mem_of_getElem? (i := 3) rfl) (v := .ref (q 0)) rfl dX4_count_191 194 rfl ?_
    refine z_get C zc3 iX4_count_X3 1 0 rfl rfl 13 (Nat.le_of_ble_eq_true rfl) (List.mem_of_getElem? (i := 11) rfl) (v := .int (nI d5)) rfl dX4_count_194 197 rfl ?_
    exact z_iret C hRx dX4_count_197 (c0, c1, c2, c3, c4, c5, c6, c7, d1, d2, d3, d4, d5, d6, d7, d8, d9, n) (congrArg (fun z => some (Value.int (nI z))) hq.2.2.2.2.2.2.1.symm) trivial rfl
  · skip
    refine z_iload_n C 1 rfl rfl dX4_count_0 1 rfl ?_
    refine z_iconst C (v := nI 0) rfl dX4_count_1 2 rfl ?_
    refine z_bipush C (v := nI 19) rfl dX4_count_2 4 rfl ?_
    refine z_callP C [.int (nI 16), .int (nI 0), .int (nI 19)] [] (tX4_withinN K.l K.g (nI 16) 0 19 (by first | omega | assumption) (by first | omega | assumption)) gX4_count_X4_within rfl rfl rfl hdX4_within ⟨Nat.le_of_ble_eq_true rfl, Nat.le_of_ble_eq_true rfl⟩ ⟨Nat.zero_le _, Nat.zero_le _⟩ rfl rfl (Nat.le_of_ble_eq_true rfl) dX4_count_4 7 rfl (fun u9 hu9 => ?_)
    show Z K 0 0 [wX K.g x bd tr q p h sb sv, wP K.g q a0 a1 a2 a3 a4 a5 a6 a7 s0 s1 s2 s3 s4 s5 s6 s7 s8 s9, wB K.g bd st r n, wPd K.g p fb tx len ex pl sh hu du, wH K.g h ho kp nx] [(0, .ref (x 0)), (1, .int (nI 16))] 7 [.int (bI (rg (nI 16).toInt (Int.ofNat 0) (Int.ofNat 19)))]
    refine z_ifb_ne C 13 dX4_count_7 (by decide) 10 rfl (fun c_33 => ?_) (fun c_33 => ?_)
    rotate_left
    · exfalso; rw [rgN_t (by omega) (by omega) (by omega)] at c_33; exact Bool.noConfusion c_33
    refine z_iload_n C 1 rfl rfl dX4_count_13 14 rfl ?_
    refine z_bipush C (v := nI 7) rfl dX4_count_14 16 rfl ?_
    refine z_icmp_ge C (by omega) (by omega) 29 dX4_count_16 (by decide) 19 rfl (fun c_34 => ?_) (fun c_34 => ?_)
    rotate_left
    · exfalso; omega
    refine z_aload_n C 0 rfl rfl dX4_count_29 30 rfl ?_
    refine z_get C zc4 iX4_count_X4 0 0 rfl rfl 2 (Nat.le_of_ble_eq_true rfl) (List.mem_of_getElem? (i := 3) rfl) (v := .ref (q 0)) rfl dX4_count_30 33 rfl ?_
    refine z_aload_n C 0 rfl rfl dX4_count_33 34 rfl ?_
    refine z_get C zc4 iX4_count_X4 0 0 rfl rfl 0 (Nat.le_of_ble_eq_true rfl) (List.mem_of_getElem? (i := 1) rfl) (v := .ref (bd 0)) rfl dX4_count_34 37 rfl ?_
    refine z_aload_n C 0 rfl rfl dX4_count_37 38 rfl ?_
    refine z_get C zc4 iX4_count_X4 0 0 rfl rfl 0 (Nat.le_of_ble_eq_true rfl) (List.mem_of_getElem? (i := 1) rfl) (v := .ref (bd 0)) rfl dX4_count_38 41 rfl ?_
    refine z_get C zc0 iX4_count_X0 2 0 rfl rfl 0 (Nat.le_of_ble_eq_true rfl) (List.mem_of_getElem? (i := 2) rfl) (v := .ref (bd 1)) rfl dX4_count_41 44 rfl ?_
    refine z_iconst C (v := nI 5) rfl dX4_count_44 45 rfl ?_
    refine z_iald C (f := st) 2 1 rfl rfl (by omega) (by decide) dX4_count_45 46 rfl ?_
    refine z_callV C [.ref (bd 0), .int (nI (st 5))] [] (tX3_print K.l K.g q a0 a1 a2 a3 a4 a5 a6 a7 s0 s1 s2 s3 s4 s5 s6 s7 s8 s9 bd st r n (st 5) hS hJ hn hR (by have := hS.2.2.2.2.2.2.2.1; omega)) gX4_count_X3_print rfl rfl rfl hdX3_print ⟨Nat.le_of_ble_eq_true rfl, Nat.le_of_ble_eq_true rfl⟩ ⟨Nat.zero_le _, Nat.zero_le _⟩ 1 0 rfl rfl rfl [1, 2] rfl rfl (zlc (N := 5) rfl rfl) [0, 5, 6, 3, 4] rfl (by decide) (fun u : (Nat → Nat) × (Nat → Nat) × (Nat → Nat) × (Nat → Nat) × (Nat → Nat) × (Nat → Nat) × (Nat → Nat) × (Nat → Nat) × (Nat) × (Nat) × (Nat) × (Nat) × (Nat) × (Nat) × (Nat) × (Nat) × (Nat) => match u with | (c0, c1, c2, c3, c4, c5, c6, c7, d1, d2, d3, d4, d5, d6, d7, d8, d9) => [wX K.g x bd tr q p h sb sv, wP K.g q c0 c1 c2 c3 c4 c5 c6 c7 n d1 d2 d3 d4 d5 d6 d7 d8 d9, wB K.g bd st r n, wPd K.g p fb tx len ex pl sh hu du, wH K.g h ho kp nx]) (fun _ => rfl) rfl rfl (Nat.le_of_ble_eq_true rfl) dX4_count_46 49 rfl (fun u9 hu9 => ?_)
    obtain ⟨c0, c1, c2, c3, c4, c5, c6, c7, d1, d2, d3, d4, d5, d6, d7, d8, d9⟩ := u9
    have hp := hu9
    have hp : PI st r (st 5) n c0 c1 c2 c3 c4 c5 c6 c7 d1 d2 d3 d4 d5 d6 d7 d8 d9 := hp
    show Z K 0 0 [wX K.g x bd tr q p h sb sv, wP K.g q c0 c1 c2 c3 c4 c5 c6 c7 n d1 d2 d3 d4 d5 d6 d7 d8 d9, wB K.g bd st r n, wPd K.g p fb tx len ex pl sh hu du, wH K.g h ho kp nx] [(0, .ref (x 0)), (1, .int (nI 16))] 49 []
    have hq := PI_all hp
    refine z_iload_n C 1 rfl rfl dX4_count_49 50 rfl ?_
    refine z_tab C (by decide) 198 dX4_count_50 (by decide) (by decide) rfl (by decide) ?_
    refine z_aload_n C 0 rfl rfl dX4_count_198 199 rfl ?_
    refine z_get C zc4 iX4_count_X4 0 0 rfl rfl 2 (Nat.le_of_ble_eq_true rfl) (List.mem_of_getElem? (i := 3) rfl) (v := .ref (q 0)) rfl dX4_count_199 202 rfl ?_
    refine z_get C zc3 iX4_count_X3 1 0 rfl rfl 14 (Nat.le_of_ble_eq_true rfl) (List.mem_of_getElem? (i := 12) rfl) (v := .int (nI d6)) rfl dX4_count_202 205 rfl ?_
    exact z_iret C hRx dX4_count_205 (c0, c1, c2, c3, c4, c5, c6, c7, d1, d2, d3, d4, d5, d6, d7, d8, d9, n) (congrArg (fun z => some (Value.int (nI z))) hq.2.2.2.2.2.2.2.1.symm) trivial rfl
  · skip
    refine z_iload_n C 1 rfl rfl dX4_count_0 1 rfl ?_
    refine z_iconst C (v := nI 0) rfl dX4_count_1 2 rfl ?_
    refine z_bipush C (v := nI 19) rfl dX4_count_2 4 rfl ?_
    refine z_callP C [.int (nI 17), .int (nI 0), .int (nI 19)] [] (tX4_withinN K.l K.g (nI 17) 0 19 (by first | omega | assumption) (by first | omega | assumption)) gX4_count_X4_within rfl rfl rfl hdX4_within ⟨Nat.le_of_ble_eq_true rfl, Nat.le_of_ble_eq_true rfl⟩ ⟨Nat.zero_le _, Nat.zero_le _⟩ rfl rfl (Nat.le_of_ble_eq_true rfl) dX4_count_4 7 rfl (fun u9 hu9 => ?_)
    show Z K 0 0 [wX K.g x bd tr q p h sb sv, wP K.g q a0 a1 a2 a3 a4 a5 a6 a7 s0 s1 s2 s3 s4 s5 s6 s7 s8 s9, wB K.g bd st r n, wPd K.g p fb tx len ex pl sh hu du, wH K.g h ho kp nx] [(0, .ref (x 0)), (1, .int (nI 17))] 7 [.int (bI (rg (nI 17).toInt (Int.ofNat 0) (Int.ofNat 19)))]
    refine z_ifb_ne C 13 dX4_count_7 (by decide) 10 rfl (fun c_35 => ?_) (fun c_35 => ?_)
    rotate_left
    · exfalso; rw [rgN_t (by omega) (by omega) (by omega)] at c_35; exact Bool.noConfusion c_35
    refine z_iload_n C 1 rfl rfl dX4_count_13 14 rfl ?_
    refine z_bipush C (v := nI 7) rfl dX4_count_14 16 rfl ?_
    refine z_icmp_ge C (by omega) (by omega) 29 dX4_count_16 (by decide) 19 rfl (fun c_36 => ?_) (fun c_36 => ?_)
    rotate_left
    · exfalso; omega
    refine z_aload_n C 0 rfl rfl dX4_count_29 30 rfl ?_
    refine z_get C zc4 iX4_count_X4 0 0 rfl rfl 2 (Nat.le_of_ble_eq_true rfl) (List.mem_of_getElem? (i := 3) rfl) (v := .ref (q 0)) rfl dX4_count_30 33 rfl ?_
    refine z_aload_n C 0 rfl rfl dX4_count_33 34 rfl ?_
    refine z_get C zc4 iX4_count_X4 0 0 rfl rfl 0 (Nat.le_of_ble_eq_true rfl) (List.mem_of_getElem? (i := 1) rfl) (v := .ref (bd 0)) rfl dX4_count_34 37 rfl ?_
    refine z_aload_n C 0 rfl rfl dX4_count_37 38 rfl ?_
    refine z_get C zc4 iX4_count_X4 0 0 rfl rfl 0 (Nat.le_of_ble_eq_true rfl) (List.mem_of_getElem? (i := 1) rfl) (v := .ref (bd 0)) rfl dX4_count_38 41 rfl ?_
    refine z_get C zc0 iX4_count_X0 2 0 rfl rfl 0 (Nat.le_of_ble_eq_true rfl) (List.mem_of_getElem? (i := 2) rfl) (v := .ref (bd 1)) rfl dX4_count_41 44 rfl ?_
    refine z_iconst C (v := nI 5) rfl dX4_count_44 45 rfl ?_
    refine z_iald C (f := st) 2 1 rfl rfl (by omega) (by decide) dX4_count_45 46 rfl ?_
    refine z_callV C [.ref (bd 0), .int (nI (st 5))] [] (tX3_print K.l K.g q a0 a1 a2 a3 a4 a5 a6 a7 s0 s1 s2 s3 s4 s5 s6 s7 s8 s9 bd st r n (st 5) hS hJ hn hR (by have := hS.2.2.2.2.2.2.2.1; omega)) gX4_count_X3_print rfl rfl rfl hdX3_print ⟨Nat.le_of_ble_eq_true rfl, Nat.le_of_ble_eq_true rfl⟩ ⟨Nat.zero_le _, Nat.zero_le _⟩ 1 0 rfl rfl rfl [1, 2] rfl rfl (zlc (N := 5) rfl rfl) [0, 5, 6, 3, 4] rfl (by decide) (fun u : (Nat → Nat) × (Nat → Nat) × (Nat → Nat) × (Nat → Nat) × (Nat → Nat) × (Nat → Nat) × (Nat → Nat) × (Nat → Nat) × (Nat) × (Nat) × (Nat) × (Nat) × (Nat) × (Nat) × (Nat) × (Nat) × (Nat) => match u with | (c0, c1, c2, c3, c4, c5, c6, c7, d1, d2, d3, d4, d5, d6, d7, d8, d9) => [wX K.g x bd tr q p h sb sv, wP K.g q c0 c1 c2 c3 c4 c5 c6 c7 n d1 d2 d3 d4 d5 d6 d7 d8 d9, wB K.g bd st r n, wPd K.g p fb tx len ex pl sh hu du, wH K.g h ho kp nx]) (fun _ => rfl) rfl rfl (Nat.le_of_ble_eq_true rfl) dX4_count_46 49 rfl (fun u9 hu9 => ?_)
    obtain ⟨c0, c1, c2, c3, c4, c5, c6, c7, d1, d2, d3, d4, d5, d6, d7, d8, d9⟩ := u9
    have hp := hu9
    have hp : PI st r (st 5) n c0 c1 c2 c3 c4 c5 c6 c7 d1 d2 d3 d4 d5 d6 d7 d8 d9 := hp
    show Z K 0 0 [wX K.g x bd tr q p h sb sv, wP K.g q c0 c1 c2 c3 c4 c5 c6 c7 n d1 d2 d3 d4 d5 d6 d7 d8 d9, wB K.g bd st r n, wPd K.g p fb tx len ex pl sh hu du, wH K.g h ho kp nx] [(0, .ref (x 0)), (1, .int (nI 17))] 49 []
    have hq := PI_all hp
    refine z_iload_n C 1 rfl rfl dX4_count_49 50 rfl ?_
    refine z_tab C (by decide) 206 dX4_count_50 (by decide) (by decide) rfl (by decide) ?_
    refine z_aload_n C 0 rfl rfl dX4_count_206 207 rfl ?_
    refine z_get C zc4 iX4_count_X4 0 0 rfl rfl 2 (Nat.le_of_ble_eq_true rfl) (List.mem_of_getElem? (i := 3) rfl) (v := .ref (q 0)) rfl dX4_count_207 210 rfl ?_
    refine z_get C zc3 iX4_count_X3 1 0 rfl rfl 15 (Nat.le_of_ble_eq_true rfl) (List.mem_of_getElem? (i := 13) rfl) (v := .int (nI d7)) rfl dX4_count_210 213 rfl ?_
    exact z_iret C hRx dX4_count_213 (c0, c1, c2, c3, c4, c5, c6, c7, d1, d2, d3, d4, d5, d6, d7, d8, d9, n) (congrArg (fun z => some (Value.int (nI z))) hq.2.2.2.2.2.2.2.2.symm) trivial rfl
  · skip
    refine z_iload_n C 1 rfl rfl dX4_count_0 1 rfl ?_
    refine z_iconst C (v := nI 0) rfl dX4_count_1 2 rfl ?_
    refine z_bipush C (v := nI 19) rfl dX4_count_2 4 rfl ?_
    refine z_callP C [.int (nI 18), .int (nI 0), .int (nI 19)] [] (tX4_withinN K.l K.g (nI 18) 0 19 (by first | omega | assumption) (by first | omega | assumption)) gX4_count_X4_within rfl rfl rfl hdX4_within ⟨Nat.le_of_ble_eq_true rfl, Nat.le_of_ble_eq_true rfl⟩ ⟨Nat.zero_le _, Nat.zero_le _⟩ rfl rfl (Nat.le_of_ble_eq_true rfl) dX4_count_4 7 rfl (fun u9 hu9 => ?_)
    show Z K 0 0 [wX K.g x bd tr q p h sb sv, wP K.g q a0 a1 a2 a3 a4 a5 a6 a7 s0 s1 s2 s3 s4 s5 s6 s7 s8 s9, wB K.g bd st r n, wPd K.g p fb tx len ex pl sh hu du, wH K.g h ho kp nx] [(0, .ref (x 0)), (1, .int (nI 18))] 7 [.int (bI (rg (nI 18).toInt (Int.ofNat 0) (Int.ofNat 19)))]
    refine z_ifb_ne C 13 dX4_count_7 (by decide) 10 rfl (fun c_37 => ?_) (fun c_37 => ?_)
    rotate_left
    · exfalso; rw [rgN_t (by omega) (by omega) (by omega)] at c_37; exact Bool.noConfusion c_37
    refine z_iload_n C 1 rfl rfl dX4_count_13 14 rfl ?_
    refine z_bipush C (v := nI 7) rfl dX4_count_14 16 rfl ?_
    refine z_icmp_ge C (by omega) (by omega) 29 dX4_count_16 (by decide) 19 rfl (fun c_38 => ?_) (fun c_38 => ?_)
    rotate_left
    · exfalso; omega
    refine z_aload_n C 0 rfl rfl dX4_count_29 30 rfl ?_
    refine z_get C zc4 iX4_count_X4 0 0 rfl rfl 2 (Nat.le_of_ble_eq_true rfl) (List.mem_of_getElem? (i := 3) rfl) (v := .ref (q 0)) rfl dX4_count_30 33 rfl ?_
    refine z_aload_n C 0 rfl rfl dX4_count_33 34 rfl ?_
    refine z_get C zc4 iX4_count_X4 0 0 rfl rfl 0 (Nat.le_of_ble_eq_true rfl) (List.mem_of_getElem? (i := 1) rfl) (v := .ref (bd 0)) rfl dX4_count_34 37 rfl ?_
    refine z_aload_n C 0 rfl rfl dX4_count_37 38 rfl ?_
    refine z_get C zc4 iX4_count_X4 0 0 rfl rfl 0 (Nat.le_of_ble_eq_true rfl) (List.mem_of_getElem? (i := 1) rfl) (v := .ref (bd 0)) rfl dX4_count_38 41 rfl ?_
    refine z_get C zc0 iX4_count_X0 2 0 rfl rfl 0 (Nat.le_of_ble_eq_true rfl) (List.mem_of_getElem? (i := 2) rfl) (v := .ref (bd 1)) rfl dX4_count_41 44 rfl ?_
    refine z_iconst C (v := nI 5) rfl dX4_count_44 45 rfl ?_
    refine z_iald C (f := st) 2 1 rfl rfl (by omega) (by decide) dX4_count_45 46 rfl ?_
    refine z_callV C [.ref (bd 0), .int (nI (st 5))] [] (tX3_print K.l K.g q a0 a1 a2 a3 a4 a5 a6 a7 s0 s1 s2 s3 s4 s5 s6 s7 s8 s9 bd st r n (st 5) hS hJ hn hR (by have := hS.2.2.2.2.2.2.2.1; omega)) gX4_count_X3_print rfl rfl rfl hdX3_print ⟨Nat.le_of_ble_eq_true rfl, Nat.le_of_ble_eq_true rfl⟩ ⟨Nat.zero_le _, Nat.zero_le _⟩ 1 0 rfl rfl rfl [1, 2] rfl rfl (zlc (N := 5) rfl rfl) [0, 5, 6, 3, 4] rfl (by decide) (fun u : (Nat → Nat) × (Nat → Nat) × (Nat → Nat) × (Nat → Nat) × (Nat → Nat) × (Nat → Nat) × (Nat → Nat) × (Nat → Nat) × (Nat) × (Nat) × (Nat) × (Nat) × (Nat) × (Nat) × (Nat) × (Nat) × (Nat) => match u with | (c0, c1, c2, c3, c4, c5, c6, c7, d1, d2, d3, d4, d5, d6, d7, d8, d9) => [wX K.g x bd tr q p h sb sv, wP K.g q c0 c1 c2 c3 c4 c5 c6 c7 n d1 d2 d3 d4 d5 d6 d7 d8 d9, wB K.g bd st r n, wPd K.g p fb tx len ex pl sh hu du, wH K.g h ho kp nx]) (fun _ => rfl) rfl rfl (Nat.le_of_ble_eq_true rfl) dX4_count_46 49 rfl (fun u9 hu9 => ?_)
    obtain ⟨c0, c1, c2, c3, c4, c5, c6, c7, d1, d2, d3, d4, d5, d6, d7, d8, d9⟩ := u9
    have hp := hu9
    have hp : PI st r (st 5) n c0 c1 c2 c3 c4 c5 c6 c7 d1 d2 d3 d4 d5 d6 d7 d8 d9 := hp
    show Z K 0 0 [wX K.g x bd tr q p h sb sv, wP K.g q c0 c1 c2 c3 c4 c5 c6 c7 n d1 d2 d3 d4 d5 d6 d7 d8 d9, wB K.g bd st r n, wPd K.g p fb tx len ex pl sh hu du, wH K.g h ho kp nx] [(0, .ref (x 0)), (1, .int (nI 18))] 49 []
    have hq := PI_all hp
    refine z_iload_n C 1 rfl rfl dX4_count_49 50 rfl ?_
    refine z_tab C (by decide) 214 dX4_count_50 (by decide) (by decide) rfl (by decide) ?_
    refine z_aload_n C 0 rfl rfl dX4_count_214 215 rfl ?_
    refine z_get C zc4 iX4_count_X4 0 0 rfl rfl 3 (Nat.le_of_ble_eq_true rfl) (List.mem_of_getElem? (i := 14) rfl) (v := .ref (p 0)) rfl dX4_count_215 218 rfl ?_
    refine z_get C zc2 iX4_count_X2 3 0 rfl rfl 1 (Nat.le_of_ble_eq_true rfl) (List.mem_of_getElem? (i := 15) rfl) (v := .int (nI len)) rfl dX4_count_218 221 rfl ?_
    exact z_iret C hRx dX4_count_221 (c0, c1, c2, c3, c4, c5, c6, c7, d1, d2, d3, d4, d5, d6, d7, d8, d9, n) rfl trivial rfl
  · skip
    refine z_iload_n C 1 rfl rfl dX4_count_0 1 rfl ?_
    refine z_iconst C (v := nI 0) rfl dX4_count_1 2 rfl ?_
    refine z_bipush C (v := nI 19) rfl dX4_count_2 4 rfl ?_
    refine z_callP C [.int (nI 19), .int (nI 0), .int (nI 19)] [] (tX4_withinN K.l K.g (nI 19) 0 19 (by first | omega | assumption) (by first | omega | assumption)) gX4_count_X4_within rfl rfl rfl hdX4_within ⟨Nat.le_of_ble_eq_true rfl, Nat.le_of_ble_eq_true rfl⟩ ⟨Nat.zero_le _, Nat.zero_le _⟩ rfl rfl (Nat.le_of_ble_eq_true rfl) dX4_count_4 7 rfl (fun u9 hu9 => ?_)
    show Z K 0 0 [wX K.g x bd tr q p h sb sv, wP K.g q a0 a1 a2 a3 a4 a5 a6 a7 s0 s1 s2 s3 s4 s5 s6 s7 s8 s9, wB K.g bd st r n, wPd K.g p fb tx len ex pl sh hu du, wH K.g h ho kp nx] [(0, .ref (x 0)), (1, .int (nI 19))] 7 [.int (bI (rg (nI 19).toInt (Int.ofNat 0) (Int.ofNat 19)))]
    refine z_ifb_ne C 13 dX4_count_7 (by decide) 10 rfl (fun c_39 => ?_) (fun c_39 => ?_)
    rotate_left
    · exfalso; rw [rgN_t (by omega) (by omega) (by omega)] at c_39; exact Bool.noConfusion c_39
    refine z_iload_n C 1 rfl rfl dX4_count_13 14 rfl ?_
    refine z_bipush C (v := nI 7) rfl dX4_count_14 16 rfl ?_
    refine z_icmp_ge C (by omega) (by omega) 29 dX4_count_16 (by decide) 19 rfl (fun c_40 => ?_) (fun c_40 => ?_)
    rotate_left
    · exfalso; omega
    refine z_aload_n C 0 rfl rfl dX4_count_29 30 rfl ?_
    refine z_get C zc4 iX4_count_X4 0 0 rfl rfl 2 (Nat.le_of_ble_eq_true rfl) (List.mem_of_getElem? (i := 3) rfl) (v := .ref (q 0)) rfl dX4_count_30 33 rfl ?_
    refine z_aload_n C 0 rfl rfl dX4_count_33 34 rfl ?_
    refine z_get C zc4 iX4_count_X4 0 0 rfl rfl 0 (Nat.le_of_ble_eq_true rfl) (List.mem_of_getElem? (i := 1) rfl) (v := .ref (bd 0)) rfl dX4_count_34 37 rfl ?_
    refine z_aload_n C 0 rfl rfl dX4_count_37 38 rfl ?_
    refine z_get C zc4 iX4_count_X4 0 0 rfl rfl 0 (Nat.le_of_ble_eq_true rfl) (List.mem_of_getElem? (i := 1) rfl) (v := .ref (bd 0)) rfl dX4_count_38 41 rfl ?_
    refine z_get C zc0 iX4_count_X0 2 0 rfl rfl 0 (Nat.le_of_ble_eq_true rfl) (List.mem_of_getElem? (i := 2) rfl) (v := .ref (bd 1)) rfl dX4_count_41 44 rfl ?_
    refine z_iconst C (v := nI 5) rfl dX4_count_44 45 rfl ?_
    refine z_iald C (f := st) 2 1 rfl rfl (by omega) (by decide) dX4_count_45 46 rfl ?_
    refine z_callV C [.ref (bd 0), .int (nI (st 5))] [] (tX3_print K.l K.g q a0 a1 a2 a3 a4 a5 a6 a7 s0 s1 s2 s3 s4 s5 s6 s7 s8 s9 bd st r n (st 5) hS hJ hn hR (by have := hS.2.2.2.2.2.2.2.1; omega)) gX4_count_X3_print rfl rfl rfl hdX3_print ⟨Nat.le_of_ble_eq_true rfl, Nat.le_of_ble_eq_true rfl⟩ ⟨Nat.zero_le _, Nat.zero_le _⟩ 1 0 rfl rfl rfl [1, 2] rfl rfl (zlc (N := 5) rfl rfl) [0, 5, 6, 3, 4] rfl (by decide) (fun u : (Nat → Nat) × (Nat → Nat) × (Nat → Nat) × (Nat → Nat) × (Nat → Nat) × (Nat → Nat) × (Nat → Nat) × (Nat → Nat) × (Nat) × (Nat) × (Nat) × (Nat) × (Nat) × (Nat) × (Nat) × (Nat) × (Nat) => match u with | (c0, c1, c2, c3, c4, c5, c6, c7, d1, d2, d3, d4, d5, d6, d7, d8, d9) => [wX K.g x bd tr q p h sb sv, wP K.g q c0 c1 c2 c3 c4 c5 c6 c7 n d1 d2 d3 d4 d5 d6 d7 d8 d9, wB K.g bd st r n, wPd K.g p fb tx len ex pl sh hu du, wH K.g h ho kp nx]) (fun _ => rfl) rfl rfl (Nat.le_of_ble_eq_true rfl) dX4_count_46 49 rfl (fun u9 hu9 => ?_)
    obtain ⟨c0, c1, c2, c3, c4, c5, c6, c7, d1, d2, d3, d4, d5, d6, d7, d8, d9⟩ := u9
    have hp := hu9
    have hp : PI st r (st 5) n c0 c1 c2 c3 c4 c5 c6 c7 d1 d2 d3 d4 d5 d6 d7 d8 d9 := hp
    show Z K 0 0 [wX K.g x bd tr q p h sb sv, wP K.g q c0 c1 c2 c3 c4 c5 c6 c7 n d1 d2 d3 d4 d5 d6 d7 d8 d9, wB K.g bd st r n, wPd K.g p fb tx len ex pl sh hu du, wH K.g h ho kp nx] [(0, .ref (x 0)), (1, .int (nI 19))] 49 []
    have hq := PI_all hp
    refine z_iload_n C 1 rfl rfl dX4_count_49 50 rfl ?_
    refine z_tabO C 222 dX4_count_50 (by decide) (by decide) ?_
    refine z_aload_n C 0 rfl rfl dX4_count_222 223 rfl ?_
    refine z_get C zc4 iX4_count_X4 0 0 rfl rfl 4 (Nat.le_of_ble_eq_true rfl) (List.mem_of_getElem? (i := 16) rfl) (v := .ref (h 0)) rfl dX4_count_223 226 rfl ?_
    refine z_get C zc1 iX4_count_X1 4 0 rfl rfl 0 (Nat.le_of_ble_eq_true rfl) (List.mem_of_getElem? (i := 17) rfl) (v := .int (nI kp)) rfl dX4_count_226 229 rfl ?_
    exact z_iret C hRx dX4_count_229 (c0, c1, c2, c3, c4, c5, c6, c7, d1, d2, d3, d4, d5, d6, d7, d8, d9, n) rfl trivial rfl

set_option maxHeartbeats 4000000 in
set_option maxRecDepth 100000 in
theorem tX4_at_bv (l : Launch) (g : zG) (x bd tr q p h : Nat → Nat) (sb : Nat → Nat → Nat) (sv : Nat → Bool) (v w : Int32) (hb : (rg v.toInt (Int.ofNat 0) (Int.ofNat 99999) && rg w.toInt (Int.ofNat 0) (Int.ofNat 3)) = false) : Met l yX4_at wsX4_at ({ frames := 4, cells := 0, slots := 0, locals := 94 } : Room) (zPre g [.ref (x 0), .int v, .int w] [wX g x bd tr q p h sb sv]) (zQ g (fun _ : Unit => some (.int (-2)) ) (fun _ : Unit => True) (fun _ : Unit => [wX g x bd tr q p h sb sv]) (zA [wX g x bd tr q p h sb sv])) 0 0 (zA [wX g x bd tr q p h sb sv]) := by
  refine z_entry (cc := cX4_at) (maxL := 3) (ret := (some .int)) (own := RX4) (by decide) rfl rfl (Nat.le_of_ble_eq_true rfl) [(0, .ref (x 0)), (1, .int v), (2, .int w)] rfl ?_
  intro K hKl hKg hnL C hRx
  subst hKl
  subst hKg
  refine z_iload_n C 1 rfl rfl dX4_at_0 1 rfl ?_
  refine z_iconst C (v := nI 0) rfl dX4_at_1 2 rfl ?_
  refine z_ldc C (v := nI 99999) (List.mem_of_getElem? (i := 1) rfl) dX4_at_2 4 rfl ?_
  refine z_callP C [.int v, .int (nI 0), .int (nI 99999)] [] (tX4_withinN K.l K.g v 0 99999 (by first | omega | assumption) (by first | omega | assumption)) gX4_at_X4_within rfl rfl rfl hdX4_within ⟨Nat.le_of_ble_eq_true rfl, Nat.le_of_ble_eq_true rfl⟩ ⟨Nat.zero_le _, Nat.zero_le _⟩ rfl rfl (Nat.le_of_ble_eq_true rfl) dX4_at_4 7 rfl (fun u9 hu9 => ?_)
  show Z K 0 0 [wX K.g x bd tr q p h sb sv] [(0, .ref (x 0)), (1, .int v), (2, .int w)] 7 [.int (bI (rg v.toInt (Int.ofNat 0) (Int.ofNat 99999)))]
  refine z_ifb_eq C 19 dX4_at_7 (by decide) 10 rfl (fun c_1 => ?_) (fun c_1 => ?_)
  · skip
    refine z_bipush C (v := (-2)) rfl dX4_at_19 21 rfl ?_
    exact z_iret C hRx dX4_at_21 () rfl trivial rfl
  · skip
    refine z_iload_n C 2 rfl rfl dX4_at_10 11 rfl ?_
    refine z_iconst C (v := nI 0) rfl dX4_at_11 12 rfl ?_
    refine z_iconst C (v := nI 3) rfl dX4_at_12 13 rfl ?_
    refine z_callP C [.int w, .int (nI 0), .int (nI 3)] [] (tX4_withinN K.l K.g w 0 3 (by first | omega | assumption) (by first | omega | assumption)) gX4_at_X4_within rfl rfl rfl hdX4_within ⟨Nat.le_of_ble_eq_true rfl, Nat.le_of_ble_eq_true rfl⟩ ⟨Nat.zero_le _, Nat.zero_le _⟩ rfl rfl (Nat.le_of_ble_eq_true rfl) dX4_at_13 16 rfl (fun u9 hu9 => ?_)
    show Z K 0 0 [wX K.g x bd tr q p h sb sv] [(0, .ref (x 0)), (1, .int v), (2, .int w)] 16 [.int (bI (rg w.toInt (Int.ofNat 0) (Int.ofNat 3)))]
    refine z_ifb_ne C 22 dX4_at_16 (by decide) 19 rfl (fun c_2 => ?_) (fun c_2 => ?_)
    · exfalso; simp_all
    refine z_bipush C (v := (-2)) rfl dX4_at_19 21 rfl ?_
    exact z_iret C hRx dX4_at_21 () rfl trivial rfl

theorem iX4_at_X0 : ∀ w ∈ u_ws RX0 TX0 3, w ∈ wsX4_at := fun w h => (List.mem_cons_of_mem _ (List.mem_append_left _ (List.mem_append_right _ h)))
theorem iX4_at_X3 : ∀ w ∈ u_ws RX3 TX3 18, w ∈ wsX4_at := fun w h => (List.mem_cons_of_mem _ (List.mem_append_right _ h))
theorem iX4_at_X4 : ∀ w ∈ u_ws RX4 TX4 7, w ∈ wsX4_at := fun w h => (List.mem_cons_of_mem _ (List.mem_append_left _ (List.mem_append_left _ (List.mem_append_right _ h))))
set_option maxHeartbeats 4000000 in
set_option maxRecDepth 100000 in
theorem tX4_at_ok (l : Launch) (g : zG) (x bd tr q p h : Nat → Nat) (sb : Nat → Nat → Nat) (sv : Nat → Bool) (a0 a1 a2 a3 a4 a5 a6 a7 : Nat → Nat) (s0 s1 s2 s3 s4 s5 s6 s7 s8 s9 : Nat) (st : Nat → Nat) (r : Nat → Nat → Nat) (n : Nat) (m k : Nat) (hn : n ≤ 12) (hS : okS st) (hJ : okJ r n) (hR : okR st r n (st 5)) (hm : m ≤ 99999) (hk : k ≤ 3) : Met l yX4_at wsX4_at ({ frames := 4, cells := 0, slots := 0, locals := 94 } : Room) (zPre g [.ref (x 0), .int (nI m), .int (nI k)] [wX g x bd tr q p h sb sv, wP g q a0 a1 a2 a3 a4 a5 a6 a7 s0 s1 s2 s3 s4 s5 s6 s7 s8 s9, wB g bd st r n]) (zQ g (fun u : (Nat → Nat) × (Nat → Nat) × (Nat → Nat) × (Nat → Nat) × (Nat → Nat) × (Nat → Nat) × (Nat → Nat) × (Nat → Nat) × (Nat) × (Nat) × (Nat) × (Nat) × (Nat) × (Nat) × (Nat) × (Nat) × (Nat) => match u with | (c0, c1, c2, c3, c4, c5, c6, c7, d1, d2, d3, d4, d5, d6, d7, d8, d9) => some (.int (AT st r n m k)) ) (fun u : (Nat → Nat) × (Nat → Nat) × (Nat → Nat) × (Nat → Nat) × (Nat → Nat) × (Nat → Nat) × (Nat → Nat) × (Nat → Nat) × (Nat) × (Nat) × (Nat) × (Nat) × (Nat) × (Nat) × (Nat) × (Nat) × (Nat) => match u with | (c0, c1, c2, c3, c4, c5, c6, c7, d1, d2, d3, d4, d5, d6, d7, d8, d9) => True) (fun u : (Nat → Nat) × (Nat → Nat) × (Nat → Nat) × (Nat → Nat) × (Nat → Nat) × (Nat → Nat) × (Nat → Nat) × (Nat → Nat) × (Nat) × (Nat) × (Nat) × (Nat) × (Nat) × (Nat) × (Nat) × (Nat) × (Nat) => match u with | (c0, c1, c2, c3, c4, c5, c6, c7, d1, d2, d3, d4, d5, d6, d7, d8, d9) => [wX g x bd tr q p h sb sv, wP g q c0 c1 c2 c3 c4 c5 c6 c7 n d1 d2 d3 d4 d5 d6 d7 d8 d9, wB g bd st r n]) (zA [wX g x bd tr q p h sb sv, wP g q a0 a1 a2 a3 a4 a5 a6 a7 s0 s1 s2 s3 s4 s5 s6 s7 s8 s9, wB g bd st r n])) 0 0 (zA [wX g x bd tr q p h sb sv, wP g q a0 a1 a2 a3 a4 a5 a6 a7 s0 s1 s2 s3 s4 s5 s6 s7 s8 s9, wB g bd st r n]) := by
  refine z_entry (cc := cX4_at) (maxL := 3) (ret := (some .int)) (own := RX4) (by decide) rfl rfl (Nat.le_of_ble_eq_true rfl) [(0, .ref (x 0)), (1, .int (nI m)), (2, .int (nI k))] rfl ?_
  intro K hKl hKg hnL C hRx
  subst hKl
  subst hKg
  rcases (show k = 0 ∨ k = 1 ∨ k = 2 ∨ k = 3 by omega) with rfl | rfl | rfl | rfl
  · skip
    refine z_iload_n C 1 rfl rfl dX4_at_0 1 rfl ?_
    refine z_iconst C (v := nI 0) rfl dX4_at_1 2 rfl ?_
    refine z_ldc C (v := nI 99999) (List.mem_of_getElem? (i := 1) rfl) dX4_at_2 4 rfl ?_
    refine z_callP C [.int (nI m), .int (nI 0), .int (nI 99999)] [] (tX4_withinN K.l K.g (nI m) 0 99999 (by first | omega | assumption) (by first | omega | assumption)) gX4_at_X4_within rfl rfl rfl hdX4_within ⟨Nat.le_of_ble_eq_true rfl, Nat.le_of_ble_eq_true rfl⟩ ⟨Nat.zero_le _, Nat.zero_le _⟩ rfl rfl (Nat.le_of_ble_eq_true rfl) dX4_at_4 7 rfl (fun u9 hu9 => ?_)
    show Z K 0 0 [wX K.g x bd tr q p h sb sv, wP K.g q a0 a1 a2 a3 a4 a5 a6 a7 s0 s1 s2 s3 s4 s5 s6 s7 s8 s9, wB K.g bd st r n] [(0, .ref (x 0)), (1, .int (nI m)), (2, .int (nI 0))] 7 [.int (bI (rg (nI m).toInt (Int.ofNat 0) (Int.ofNat 99999)))]
    refine z_ifb_eq C 19 dX4_at_7 (by decide) 10 rfl (fun c_1 => ?_) (fun c_1 => ?_)
    · exfalso; rw [rgN_t (by omega) (by omega) (by omega)] at c_1; exact Bool.noConfusion c_1
    refine z_iload_n C 2 rfl rfl dX4_at_10 11 rfl ?_
    refine z_iconst C (v := nI 0) rfl dX4_at_11 12 rfl ?_
    refine z_iconst C (v := nI 3) rfl dX4_at_12 13 rfl ?_
    refine z_callP C [.int (nI 0), .int (nI 0), .int (nI 3)] [] (tX4_withinN K.l K.g (nI 0) 0 3 (by first | omega | assumption) (by first | omega | assumption)) gX4_at_X4_within rfl rfl rfl hdX4_within ⟨Nat.le_of_ble_eq_true rfl, Nat.le_of_ble_eq_true rfl⟩ ⟨Nat.zero_le _, Nat.zero_le _⟩ rfl rfl (Nat.le_of_ble_eq_true rfl) dX4_at_13 16 rfl (fun u9 hu9 => ?_)
    show Z K 0 0 [wX K.g x bd tr q p h sb sv, wP K.g q a0 a1 a2 a3 a4 a5 a6 a7 s0 s1 s2 s3 s4 s5 s6 s7 s8 s9, wB K.g bd st r n] [(0, .ref (x 0)), (1, .int (nI m)), (2, .int (nI 0))] 16 [.int (bI (rg (nI 0).toInt (Int.ofNat 0) (Int.ofNat 3)))]
    refine z_ifb_ne C 22 dX4_at_16 (by decide) 19 rfl (fun c_2 => ?_) (fun c_2 => ?_)
    rotate_left
    · exfalso; rw [rgN_t (by omega) (by omega) (by omega)] at c_2; exact Bool.noConfusion c_2
    refine z_aload_n C 0 rfl rfl dX4_at_22 23 rfl ?_
    refine z_get C zc4 iX4_at_X4 0 0 rfl rfl 2 (Nat.le_of_ble_eq_true rfl) (List.mem_of_getElem? (i := 2) rfl) (v := .ref (q 0)) rfl dX4_at_23 26 rfl ?_
    refine z_aload_n C 0 rfl rfl dX4_at_26 27 rfl ?_
    refine z_get C zc4 iX4_at_X4 0 0 rfl rfl 0 (Nat.le_of_ble_eq_true rfl) (List.mem_of_getElem? (i := 3) rfl) (v := .ref (bd 0)) rfl dX4_at_27 30 rfl ?_
    refine z_aload_n C 0 rfl rfl dX4_at_30 31 rfl ?_
    refine z_get C zc4 iX4_at_X4 0 0 rfl rfl 0 (Nat.le_of_ble_eq_true rfl) (List.mem_of_getElem? (i := 3) rfl) (v := .ref (bd 0)) rfl dX4_at_31 34 rfl ?_
    refine z_get C zc0 iX4_at_X0 2 0 rfl rfl 0 (Nat.le_of_ble_eq_true rfl) (List.mem_of_getElem? (i := 4) rfl) (v := .ref (bd 1)) rfl dX4_at_34 37 rfl ?_
    refine z_iconst C (v := nI 5) rfl dX4_at_37 38 rfl ?_
    refine z_iald C (f := st) 2 1 rfl rfl (by omega) (by decide) dX4_at_38 39 rfl ?_
    refine z_callV C [.ref (bd 0), .int (nI (st 5))] [] (tX3_print K.l K.g q a0 a1 a2 a3 a4 a5 a6 a7 s0 s1 s2 s3 s4 s5 s6 s7 s8 s9 bd st r n (st 5) hS hJ hn hR (by have := hS.2.2.2.2.2.2.2.1; omega)) gX4_at_X3_print rfl rfl rfl hdX3_print ⟨Nat.le_of_ble_eq_true rfl, Nat.le_of_ble_eq_true rfl⟩ ⟨Nat.zero_le _, Nat.zero_le _⟩ 1 0 rfl rfl rfl [1, 2] rfl rfl (zlc (N := 3) rfl rfl) [0, 3, 4] rfl (by decide) (fun u : (Nat → Nat) × (Nat → Nat) × (Nat → Nat) × (Nat → Nat) × (Nat → Nat) × (Nat → Nat) × (Nat → Nat) × (Nat → Nat) × (Nat) × (Nat) × (Nat) × (Nat) × (Nat) × (Nat) × (Nat) × (Nat) × (Nat) => match u with | (c0, c1, c2, c3, c4, c5, c6, c7, d1, d2, d3, d4, d5, d6, d7, d8, d9) => [wX K.g x bd tr q p h sb sv, wP K.g q c0 c1 c2 c3 c4 c5 c6 c7 n d1 d2 d3 d4 d5 d6 d7 d8 d9, wB K.g bd st r n]) (fun _ => rfl) rfl rfl (Nat.le_of_ble_eq_true rfl) dX4_at_39 42 rfl (fun u9 hu9 => ?_)
    obtain ⟨c0, c1, c2, c3, c4, c5, c6, c7, d1, d2, d3, d4, d5, d6, d7, d8, d9⟩ := u9
    have hp := hu9
    have hp : PI st r (st 5) n c0 c1 c2 c3 c4 c5 c6 c7 d1 d2 d3 d4 d5 d6 d7 d8 d9 := hp
    show Z K 0 0 [wX K.g x bd tr q p h sb sv, wP K.g q c0 c1 c2 c3 c4 c5 c6 c7 n d1 d2 d3 d4 d5 d6 d7 d8 d9, wB K.g bd st r n] [(0, .ref (x 0)), (1, .int (nI m)), (2, .int (nI 0))] 42 []
    have hq := PI_all hp
    have hbd := PP_bd hS hJ hn hp
    refine z_iload_n C 2 rfl rfl dX4_at_42 43 rfl ?_
    refine z_tab C (by decide) 68 dX4_at_43 (by decide) (by decide) rfl (by decide) ?_
    refine z_aload_n C 0 rfl rfl dX4_at_68 69 rfl ?_
    refine z_get C zc4 iX4_at_X4 0 0 rfl rfl 2 (Nat.le_of_ble_eq_true rfl) (List.mem_of_getElem? (i := 2) rfl) (v := .ref (q 0)) rfl dX4_at_69 72 rfl ?_
    refine z_iload_n C 1 rfl rfl dX4_at_72 73 rfl ?_
    refine z_callV C [.int (nI m)] [] (tX3_jobOnPress K.l K.g q c0 c1 c2 c3 c4 c5 c6 c7 n d1 d2 d3 d4 d5 d6 d7 d8 d9 m (by first | omega | assumption) (by first | omega | assumption) (fun i hi => ⟨by have := hbd i hi; omega, by have := hbd i hi; omega⟩)) gX4_at_X3_jobOnPress rfl rfl rfl hdX3_jobOnPress ⟨Nat.le_of_ble_eq_true rfl, Nat.le_of_ble_eq_true rfl⟩ ⟨Nat.zero_le _, Nat.zero_le _⟩ 1 0 rfl rfl rfl [1] rfl rfl (zlc (N := 3) rfl rfl) [0, 3, 2] rfl (by decide) (fun _ : Unit => [wX K.g x bd tr q p h sb sv, wP K.g q c0 c1 c2 c3 c4 c5 c6 c7 n d1 d2 d3 d4 d5 d6 d7 d8 d9, wB K.g bd st r n]) (fun _ => rfl) rfl rfl (Nat.le_of_ble_eq_true rfl) dX4_at_73 76 rfl (fun u9 hu9 => ?_)
    show Z K 0 0 [wX K.g x bd tr q p h sb sv, wP K.g q c0 c1 c2 c3 c4 c5 c6 c7 n d1 d2 d3 d4 d5 d6 d7 d8 d9, wB K.g bd st r n] [(0, .ref (x 0)), (1, .int (nI m)), (2, .int (nI 0))] 76 [.int (jop c4 c5 m 0 n)]
    exact z_iret C hRx dX4_at_76 (c0, c1, c2, c3, c4, c5, c6, c7, d1, d2, d3, d4, d5, d6, d7, d8, d9) (congrArg (fun z => some (Value.int z)) (jop_cg n 0 (fun i _ hi => ⟨(hq.2.1 i (by omega)).2.2.2.2.1, (hq.2.1 i (by omega)).2.2.2.2.2.1⟩)).symm) trivial rfl
  · skip
    refine z_iload_n C 1 rfl rfl dX4_at_0 1 rfl ?_
    refine z_iconst C (v := nI 0) rfl dX4_at_1 2 rfl ?_
    refine z_ldc C (v := nI 99999) (List.mem_of_getElem? (i := 1) rfl) dX4_at_2 4 rfl ?_
    refine z_callP C [.int (nI m), .int (nI 0), .int (nI 99999)] [] (tX4_withinN K.l K.g (nI m) 0 99999 (by first | omega | assumption) (by first | omega | assumption)) gX4_at_X4_within rfl rfl rfl hdX4_within ⟨Nat.le_of_ble_eq_true rfl, Nat.le_of_ble_eq_true rfl⟩ ⟨Nat.zero_le _, Nat.zero_le _⟩ rfl rfl (Nat.le_of_ble_eq_true rfl) dX4_at_4 7 rfl (fun u9 hu9 => ?_)
    show Z K 0 0 [wX K.g x bd tr q p h sb sv, wP K.g q a0 a1 a2 a3 a4 a5 a6 a7 s0 s1 s2 s3 s4 s5 s6 s7 s8 s9, wB K.g bd st r n] [(0, .ref (x 0)), (1, .int (nI m)), (2, .int (nI 1))] 7 [.int (bI (rg (nI m).toInt (Int.ofNat 0) (Int.ofNat 99999)))]
    refine z_ifb_eq C 19 dX4_at_7 (by decide) 10 rfl (fun c_3 => ?_) (fun c_3 => ?_)
    · exfalso; rw [rgN_t (by omega) (by omega) (by omega)] at c_3; exact Bool.noConfusion c_3
    refine z_iload_n C 2 rfl rfl dX4_at_10 11 rfl ?_
    refine z_iconst C (v := nI 0) rfl dX4_at_11 12 rfl ?_
    refine z_iconst C (v := nI 3) rfl dX4_at_12 13 rfl ?_
    refine z_callP C [.int (nI 1), .int (nI 0), .int (nI 3)] [] (tX4_withinN K.l K.g (nI 1) 0 3 (by first | omega | assumption) (by first | omega | assumption)) gX4_at_X4_within rfl rfl rfl hdX4_within ⟨Nat.le_of_ble_eq_true rfl, Nat.le_of_ble_eq_true rfl⟩ ⟨Nat.zero_le _, Nat.zero_le _⟩ rfl rfl (Nat.le_of_ble_eq_true rfl) dX4_at_13 16 rfl (fun u9 hu9 => ?_)
    show Z K 0 0 [wX K.g x bd tr q p h sb sv, wP K.g q a0 a1 a2 a3 a4 a5 a6 a7 s0 s1 s2 s3 s4 s5 s6 s7 s8 s9, wB K.g bd st r n] [(0, .ref (x 0)), (1, .int (nI m)), (2, .int (nI 1))] 16 [.int (bI (rg (nI 1).toInt (Int.ofNat 0) (Int.ofNat 3)))]
    refine z_ifb_ne C 22 dX4_at_16 (by decide) 19 rfl (fun c_4 => ?_) (fun c_4 => ?_)
    rotate_left
    · exfalso; rw [rgN_t (by omega) (by omega) (by omega)] at c_4; exact Bool.noConfusion c_4
    refine z_aload_n C 0 rfl rfl dX4_at_22 23 rfl ?_
    refine z_get C zc4 iX4_at_X4 0 0 rfl rfl 2 (Nat.le_of_ble_eq_true rfl) (List.mem_of_getElem? (i := 2) rfl) (v := .ref (q 0)) rfl dX4_at_23 26 rfl ?_
    refine z_aload_n C 0 rfl rfl dX4_at_26 27 rfl ?_
    refine z_get C zc4 iX4_at_X4 0 0 rfl rfl 0 (Nat.le_of_ble_eq_true rfl) (List.mem_of_getElem? (i := 3) rfl) (v := .ref (bd 0)) rfl dX4_at_27 30 rfl ?_
    refine z_aload_n C 0 rfl rfl dX4_at_30 31 rfl ?_
    refine z_get C zc4 iX4_at_X4 0 0 rfl rfl 0 (Nat.le_of_ble_eq_true rfl) (List.mem_of_getElem? (i := 3) rfl) (v := .ref (bd 0)) rfl dX4_at_31 34 rfl ?_
    refine z_get C zc0 iX4_at_X0 2 0 rfl rfl 0 (Nat.le_of_ble_eq_true rfl) (List.mem_of_getElem? (i := 4) rfl) (v := .ref (bd 1)) rfl dX4_at_34 37 rfl ?_
    refine z_iconst C (v := nI 5) rfl dX4_at_37 38 rfl ?_
    refine z_iald C (f := st) 2 1 rfl rfl (by omega) (by decide) dX4_at_38 39 rfl ?_
    refine z_callV C [.ref (bd 0), .int (nI (st 5))] [] (tX3_print K.l K.g q a0 a1 a2 a3 a4 a5 a6 a7 s0 s1 s2 s3 s4 s5 s6 s7 s8 s9 bd st r n (st 5) hS hJ hn hR (by have := hS.2.2.2.2.2.2.2.1; omega)) gX4_at_X3_print rfl rfl rfl hdX3_print ⟨Nat.le_of_ble_eq_true rfl, Nat.le_of_ble_eq_true rfl⟩ ⟨Nat.zero_le _, Nat.zero_le _⟩ 1 0 rfl rfl rfl [1, 2] rfl rfl (zlc (N := 3) rfl rfl) [0, 3, 4] rfl (by decide) (fun u : (Nat → Nat) × (Nat → Nat) × (Nat → Nat) × (Nat → Nat) × (Nat → Nat) × (Nat → Nat) × (Nat → Nat) × (Nat → Nat) × (Nat) × (Nat) × (Nat) × (Nat) × (Nat) × (Nat) × (Nat) × (Nat) × (Nat) => match u with | (c0, c1, c2, c3, c4, c5, c6, c7, d1, d2, d3, d4, d5, d6, d7, d8, d9) => [wX K.g x bd tr q p h sb sv, wP K.g q c0 c1 c2 c3 c4 c5 c6 c7 n d1 d2 d3 d4 d5 d6 d7 d8 d9, wB K.g bd st r n]) (fun _ => rfl) rfl rfl (Nat.le_of_ble_eq_true rfl) dX4_at_39 42 rfl (fun u9 hu9 => ?_)
    obtain ⟨c0, c1, c2, c3, c4, c5, c6, c7, d1, d2, d3, d4, d5, d6, d7, d8, d9⟩ := u9
    have hp := hu9
    have hp : PI st r (st 5) n c0 c1 c2 c3 c4 c5 c6 c7 d1 d2 d3 d4 d5 d6 d7 d8 d9 := hp
    show Z K 0 0 [wX K.g x bd tr q p h sb sv, wP K.g q c0 c1 c2 c3 c4 c5 c6 c7 n d1 d2 d3 d4 d5 d6 d7 d8 d9, wB K.g bd st r n] [(0, .ref (x 0)), (1, .int (nI m)), (2, .int (nI 1))] 42 []
    have hq := PI_all hp
    have hbd := PP_bd hS hJ hn hp
    refine z_iload_n C 2 rfl rfl dX4_at_42 43 rfl ?_
    refine z_tab C (by decide) 77 dX4_at_43 (by decide) (by decide) rfl (by decide) ?_
    refine z_aload_n C 0 rfl rfl dX4_at_77 78 rfl ?_
    refine z_get C zc4 iX4_at_X4 0 0 rfl rfl 2 (Nat.le_of_ble_eq_true rfl) (List.mem_of_getElem? (i := 2) rfl) (v := .ref (q 0)) rfl dX4_at_78 81 rfl ?_
    refine z_iload_n C 1 rfl rfl dX4_at_81 82 rfl ?_
    refine z_callV C [.int (nI m)] [] (tX3_racksTaken K.l K.g q c0 c1 c2 c3 c4 c5 c6 c7 n d1 d2 d3 d4 d5 d6 d7 d8 d9 m (by first | omega | assumption) (by first | omega | assumption) (fun i hi => ⟨by have := hbd i hi; omega, by have := hbd i hi; omega⟩)) gX4_at_X3_racksTaken rfl rfl rfl hdX3_racksTaken ⟨Nat.le_of_ble_eq_true rfl, Nat.le_of_ble_eq_true rfl⟩ ⟨Nat.zero_le _, Nat.zero_le _⟩ 1 0 rfl rfl rfl [1] rfl rfl (zlc (N := 3) rfl rfl) [0, 3, 2] rfl (by decide) (fun _ : Unit => [wX K.g x bd tr q p h sb sv, wP K.g q c0 c1 c2 c3 c4 c5 c6 c7 n d1 d2 d3 d4 d5 d6 d7 d8 d9, wB K.g bd st r n]) (fun _ => rfl) rfl rfl (Nat.le_of_ble_eq_true rfl) dX4_at_82 85 rfl (fun u9 hu9 => ?_)
    show Z K 0 0 [wX K.g x bd tr q p h sb sv, wP K.g q c0 c1 c2 c3 c4 c5 c6 c7 n d1 d2 d3 d4 d5 d6 d7 d8 d9, wB K.g bd st r n] [(0, .ref (x 0)), (1, .int (nI m)), (2, .int (nI 1))] 85 [.int (nI (sm (fun i => if c5 i ≤ m ∧ m < c6 i then c0 i else 0) n))]
    exact z_iret C hRx dX4_at_85 (c0, c1, c2, c3, c4, c5, c6, c7, d1, d2, d3, d4, d5, d6, d7, d8, d9) (congrArg (fun z => some (Value.int (nI z))) (sm_cg n (fun i hi => by obtain ⟨e0, -, -, -, -, e5, e6, -⟩ := hq.2.1 i hi; rw [e0, e5, e6]; rfl)).symm) trivial rfl
  · skip
    refine z_iload_n C 1 rfl rfl dX4_at_0 1 rfl ?_
    refine z_iconst C (v := nI 0) rfl dX4_at_1 2 rfl ?_
    refine z_ldc C (v := nI 99999) (List.mem_of_getElem? (i := 1) rfl) dX4_at_2 4 rfl ?_
    refine z_callP C [.int (nI m), .int (nI 0), .int (nI 99999)] [] (tX4_withinN K.l K.g (nI m) 0 99999 (by first | omega | assumption) (by first | omega | assumption)) gX4_at_X4_within rfl rfl rfl hdX4_within ⟨Nat.le_of_ble_eq_true rfl, Nat.le_of_ble_eq_true rfl⟩ ⟨Nat.zero_le _, Nat.zero_le _⟩ rfl rfl (Nat.le_of_ble_eq_true rfl) dX4_at_4 7 rfl (fun u9 hu9 => ?_)
    show Z K 0 0 [wX K.g x bd tr q p h sb sv, wP K.g q a0 a1 a2 a3 a4 a5 a6 a7 s0 s1 s2 s3 s4 s5 s6 s7 s8 s9, wB K.g bd st r n] [(0, .ref (x 0)), (1, .int (nI m)), (2, .int (nI 2))] 7 [.int (bI (rg (nI m).toInt (Int.ofNat 0) (Int.ofNat 99999)))]
    refine z_ifb_eq C 19 dX4_at_7 (by decide) 10 rfl (fun c_5 => ?_) (fun c_5 => ?_)
    · exfalso; rw [rgN_t (by omega) (by omega) (by omega)] at c_5; exact Bool.noConfusion c_5
    refine z_iload_n C 2 rfl rfl dX4_at_10 11 rfl ?_
    refine z_iconst C (v := nI 0) rfl dX4_at_11 12 rfl ?_
    refine z_iconst C (v := nI 3) rfl dX4_at_12 13 rfl ?_
    refine z_callP C [.int (nI 2), .int (nI 0), .int (nI 3)] [] (tX4_withinN K.l K.g (nI 2) 0 3 (by first | omega | assumption) (by first | omega | assumption)) gX4_at_X4_within rfl rfl rfl hdX4_within ⟨Nat.le_of_ble_eq_true rfl, Nat.le_of_ble_eq_true rfl⟩ ⟨Nat.zero_le _, Nat.zero_le _⟩ rfl rfl (Nat.le_of_ble_eq_true rfl) dX4_at_13 16 rfl (fun u9 hu9 => ?_)
    show Z K 0 0 [wX K.g x bd tr q p h sb sv, wP K.g q a0 a1 a2 a3 a4 a5 a6 a7 s0 s1 s2 s3 s4 s5 s6 s7 s8 s9, wB K.g bd st r n] [(0, .ref (x 0)), (1, .int (nI m)), (2, .int (nI 2))] 16 [.int (bI (rg (nI 2).toInt (Int.ofNat 0) (Int.ofNat 3)))]
    refine z_ifb_ne C 22 dX4_at_16 (by decide) 19 rfl (fun c_6 => ?_) (fun c_6 => ?_)
    rotate_left
    · exfalso; rw [rgN_t (by omega) (by omega) (by omega)] at c_6; exact Bool.noConfusion c_6
    refine z_aload_n C 0 rfl rfl dX4_at_22 23 rfl ?_
    refine z_get C zc4 iX4_at_X4 0 0 rfl rfl 2 (Nat.le_of_ble_eq_true rfl) (List.mem_of_getElem? (i := 2) rfl) (v := .ref (q 0)) rfl dX4_at_23 26 rfl ?_
    refine z_aload_n C 0 rfl rfl dX4_at_26 27 rfl ?_
    refine z_get C zc4 iX4_at_X4 0 0 rfl rfl 0 (Nat.le_of_ble_eq_true rfl) (List.mem_of_getElem? (i := 3) rfl) (v := .ref (bd 0)) rfl dX4_at_27 30 rfl ?_
    refine z_aload_n C 0 rfl rfl dX4_at_30 31 rfl ?_
    refine z_get C zc4 iX4_at_X4 0 0 rfl rfl 0 (Nat.le_of_ble_eq_true rfl) (List.mem_of_getElem? (i := 3) rfl) (v := .ref (bd 0)) rfl dX4_at_31 34 rfl ?_
    refine z_get C zc0 iX4_at_X0 2 0 rfl rfl 0 (Nat.le_of_ble_eq_true rfl) (List.mem_of_getElem? (i := 4) rfl) (v := .ref (bd 1)) rfl dX4_at_34 37 rfl ?_
    refine z_iconst C (v := nI 5) rfl dX4_at_37 38 rfl ?_
    refine z_iald C (f := st) 2 1 rfl rfl (by omega) (by decide) dX4_at_38 39 rfl ?_
    refine z_callV C [.ref (bd 0), .int (nI (st 5))] [] (tX3_print K.l K.g q a0 a1 a2 a3 a4 a5 a6 a7 s0 s1 s2 s3 s4 s5 s6 s7 s8 s9 bd st r n (st 5) hS hJ hn hR (by have := hS.2.2.2.2.2.2.2.1; omega)) gX4_at_X3_print rfl rfl rfl hdX3_print ⟨Nat.le_of_ble_eq_true rfl, Nat.le_of_ble_eq_true rfl⟩ ⟨Nat.zero_le _, Nat.zero_le _⟩ 1 0 rfl rfl rfl [1, 2] rfl rfl (zlc (N := 3) rfl rfl) [0, 3, 4] rfl (by decide) (fun u : (Nat → Nat) × (Nat → Nat) × (Nat → Nat) × (Nat → Nat) × (Nat → Nat) × (Nat → Nat) × (Nat → Nat) × (Nat → Nat) × (Nat) × (Nat) × (Nat) × (Nat) × (Nat) × (Nat) × (Nat) × (Nat) × (Nat) => match u with | (c0, c1, c2, c3, c4, c5, c6, c7, d1, d2, d3, d4, d5, d6, d7, d8, d9) => [wX K.g x bd tr q p h sb sv, wP K.g q c0 c1 c2 c3 c4 c5 c6 c7 n d1 d2 d3 d4 d5 d6 d7 d8 d9, wB K.g bd st r n]) (fun _ => rfl) rfl rfl (Nat.le_of_ble_eq_true rfl) dX4_at_39 42 rfl (fun u9 hu9 => ?_)
    obtain ⟨c0, c1, c2, c3, c4, c5, c6, c7, d1, d2, d3, d4, d5, d6, d7, d8, d9⟩ := u9
    have hp := hu9
    have hp : PI st r (st 5) n c0 c1 c2 c3 c4 c5 c6 c7 d1 d2 d3 d4 d5 d6 d7 d8 d9 := hp
    show Z K 0 0 [wX K.g x bd tr q p h sb sv, wP K.g q c0 c1 c2 c3 c4 c5 c6 c7 n d1 d2 d3 d4 d5 d6 d7 d8 d9, wB K.g bd st r n] [(0, .ref (x 0)), (1, .int (nI m)), (2, .int (nI 2))] 42 []
    have hq := PI_all hp
    have hbd := PP_bd hS hJ hn hp
    refine z_iload_n C 2 rfl rfl dX4_at_42 43 rfl ?_
    refine z_tab C (by decide) 86 dX4_at_43 (by decide) (by decide) rfl (by decide) ?_
    refine z_aload_n C 0 rfl rfl dX4_at_86 87 rfl ?_
    refine z_get C zc4 iX4_at_X4 0 0 rfl rfl 2 (Nat.le_of_ble_eq_true rfl) (List.mem_of_getElem? (i := 2) rfl) (v := .ref (q 0)) rfl dX4_at_87 90 rfl ?_
    refine z_aload_n C 0 rfl rfl dX4_at_90 91 rfl ?_
    refine z_get C zc4 iX4_at_X4 0 0 rfl rfl 2 (Nat.le_of_ble_eq_true rfl) (List.mem_of_getElem? (i := 2) rfl) (v := .ref (q 0)) rfl dX4_at_91 94 rfl ?_
    refine z_get C zc3 iX4_at_X3 1 0 rfl rfl 5 (Nat.le_of_ble_eq_true rfl) (List.mem_of_getElem? (i := 5) rfl) (v := .ref (q 6)) rfl dX4_at_94 97 rfl ?_
    refine z_iload_n C 1 rfl rfl dX4_at_97 98 rfl ?_
    refine z_callV C [.ref (q 6), .int (nI m)] [] (tX3_reached_5 K.l K.g q c0 c1 c2 c3 c4 c5 c6 c7 n d1 d2 d3 d4 d5 d6 d7 d8 d9 m (by first | omega | assumption) (by first | omega | assumption) (fun i hi => by have := hbd i hi; omega)) gX4_at_X3_reached rfl rfl rfl hdX3_reached ⟨Nat.le_of_ble_eq_true rfl, Nat.le_of_ble_eq_true rfl⟩ ⟨Nat.zero_le _, Nat.zero_le _⟩ 1 0 rfl rfl rfl [1] rfl rfl (zlc (N := 3) rfl rfl) [0, 3, 2] rfl (by decide) (fun _ : Unit => [wX K.g x bd tr q p h sb sv, wP K.g q c0 c1 c2 c3 c4 c5 c6 c7 n d1 d2 d3 d4 d5 d6 d7 d8 d9, wB K.g bd st r n]) (fun _ => rfl) rfl rfl (Nat.le_of_ble_eq_true rfl) dX4_at_98 101 rfl (fun u9 hu9 => ?_)
    show Z K 0 0 [wX K.g x bd tr q p h sb sv, wP K.g q c0 c1 c2 c3 c4 c5 c6 c7 n d1 d2 d3 d4 d5 d6 d7 d8 d9, wB K.g bd st r n] [(0, .ref (x 0)), (1, .int (nI m)), (2, .int (nI 2))] 101 [.int (nI (ct (fun i => decide (c5 i ≤ m)) n))]
    exact z_iret C hRx dX4_at_101 (c0, c1, c2, c3, c4, c5, c6, c7, d1, d2, d3, d4, d5, d6, d7, d8, d9) (congrArg (fun z => some (Value.int (nI z))) (ct_cg n (fun i hi => by rw [(hq.2.1 i hi).2.2.2.2.2.1])).symm) trivial rfl
  · skip
    refine z_iload_n C 1 rfl rfl dX4_at_0 1 rfl ?_
    refine z_iconst C (v := nI 0) rfl dX4_at_1 2 rfl ?_
    refine z_ldc C (v := nI 99999) (List.mem_of_getElem? (i := 1) rfl) dX4_at_2 4 rfl ?_
    refine z_callP C [.int (nI m), .int (nI 0), .int (nI 99999)] [] (tX4_withinN K.l K.g (nI m) 0 99999 (by first | omega | assumption) (by first | omega | assumption)) gX4_at_X4_within rfl rfl rfl hdX4_within ⟨Nat.le_of_ble_eq_true rfl, Nat.le_of_ble_eq_true rfl⟩ ⟨Nat.zero_le _, Nat.zero_le _⟩ rfl rfl (Nat.le_of_ble_eq_true rfl) dX4_at_4 7 rfl (fun u9 hu9 => ?_)
    show Z K 0 0 [wX K.g x bd tr q p h sb sv, wP K.g q a0 a1 a2 a3 a4 a5 a6 a7 s0 s1 s2 s3 s4 s5 s6 s7 s8 s9, wB K.g bd st r n] [(0, .ref (x 0)), (1, .int (nI m)), (2, .int (nI 3))] 7 [.int (bI (rg (nI m).toInt (Int.ofNat 0) (Int.ofNat 99999)))]
    refine z_ifb_eq C 19 dX4_at_7 (by decide) 10 rfl (fun c_7 => ?_) (fun c_7 => ?_)
    · exfalso; rw [rgN_t (by omega) (by omega) (by omega)] at c_7; exact Bool.noConfusion c_7
    refine z_iload_n C 2 rfl rfl dX4_at_10 11 rfl ?_
    refine z_iconst C (v := nI 0) rfl dX4_at_11 12 rfl ?_
    refine z_iconst C (v := nI 3) rfl dX4_at_12 13 rfl ?_
    refine z_callP C [.int (nI 3), .int (nI 0), .int (nI 3)] [] (tX4_withinN K.l K.g (nI 3) 0 3 (by first | omega | assumption) (by first | omega | assumption)) gX4_at_X4_within rfl rfl rfl hdX4_within ⟨Nat.le_of_ble_eq_true rfl, Nat.le_of_ble_eq_true rfl⟩ ⟨Nat.zero_le _, Nat.zero_le _⟩ rfl rfl (Nat.le_of_ble_eq_true rfl) dX4_at_13 16 rfl (fun u9 hu9 => ?_)
    show Z K 0 0 [wX K.g x bd tr q p h sb sv, wP K.g q a0 a1 a2 a3 a4 a5 a6 a7 s0 s1 s2 s3 s4 s5 s6 s7 s8 s9, wB K.g bd st r n] [(0, .ref (x 0)), (1, .int (nI m)), (2, .int (nI 3))] 16 [.int (bI (rg (nI 3).toInt (Int.ofNat 0) (Int.ofNat 3)))]
    refine z_ifb_ne C 22 dX4_at_16 (by decide) 19 rfl (fun c_8 => ?_) (fun c_8 => ?_)
    rotate_left
    · exfalso; rw [rgN_t (by omega) (by omega) (by omega)] at c_8; exact Bool.noConfusion c_8
    refine z_aload_n C 0 rfl rfl dX4_at_22 23 rfl ?_
    refine z_get C zc4 iX4_at_X4 0 0 rfl rfl 2 (Nat.le_of_ble_eq_true rfl) (List.mem_of_getElem? (i := 2) rfl) (v := .ref (q 0)) rfl dX4_at_23 26 rfl ?_
    refine z_aload_n C 0 rfl rfl dX4_at_26 27 rfl ?_
    refine z_get C zc4 iX4_at_X4 0 0 rfl rfl 0 (Nat.le_of_ble_eq_true rfl) (List.mem_of_getElem? (i := 3) rfl) (v := .ref (bd 0)) rfl dX4_at_27 30 rfl ?_
    refine z_aload_n C 0 rfl rfl dX4_at_30 31 rfl ?_
    refine z_get C zc4 iX4_at_X4 0 0 rfl rfl 0 (Nat.le_of_ble_eq_true rfl) (List.mem_of_getElem? (i := 3) rfl) (v := .ref (bd 0)) rfl dX4_at_31 34 rfl ?_
    refine z_get C zc0 iX4_at_X0 2 0 rfl rfl 0 (Nat.le_of_ble_eq_true rfl) (List.mem_of_getElem? (i := 4) rfl) (v := .ref (bd 1)) rfl dX4_at_34 37 rfl ?_
    refine z_iconst C (v := nI 5) rfl dX4_at_37 38 rfl ?_
    refine z_iald C (f := st) 2 1 rfl rfl (by omega) (by decide) dX4_at_38 39 rfl ?_
    refine z_callV C [.ref (bd 0), .int (nI (st 5))] [] (tX3_print K.l K.g q a0 a1 a2 a3 a4 a5 a6 a7 s0 s1 s2 s3 s4 s5 s6 s7 s8 s9 bd st r n (st 5) hS hJ hn hR (by have := hS.2.2.2.2.2.2.2.1; omega)) gX4_at_X3_print rfl rfl rfl hdX3_print ⟨Nat.le_of_ble_eq_true rfl, Nat.le_of_ble_eq_true rfl⟩ ⟨Nat.zero_le _, Nat.zero_le _⟩ 1 0 rfl rfl rfl [1, 2] rfl rfl (zlc (N := 3) rfl rfl) [0, 3, 4] rfl (by decide) (fun u : (Nat → Nat) × (Nat → Nat) × (Nat → Nat) × (Nat → Nat) × (Nat → Nat) × (Nat → Nat) × (Nat → Nat) × (Nat → Nat) × (Nat) × (Nat) × (Nat) × (Nat) × (Nat) × (Nat) × (Nat) × (Nat) × (Nat) => match u with | (c0, c1, c2, c3, c4, c5, c6, c7, d1, d2, d3, d4, d5, d6, d7, d8, d9) => [wX K.g x bd tr q p h sb sv, wP K.g q c0 c1 c2 c3 c4 c5 c6 c7 n d1 d2 d3 d4 d5 d6 d7 d8 d9, wB K.g bd st r n]) (fun _ => rfl) rfl rfl (Nat.le_of_ble_eq_true rfl) dX4_at_39 42 rfl (fun u9 hu9 => ?_)
    obtain ⟨c0, c1, c2, c3, c4, c5, c6, c7, d1, d2, d3, d4, d5, d6, d7, d8, d9⟩ := u9
    have hp := hu9
    have hp : PI st r (st 5) n c0 c1 c2 c3 c4 c5 c6 c7 d1 d2 d3 d4 d5 d6 d7 d8 d9 := hp
    show Z K 0 0 [wX K.g x bd tr q p h sb sv, wP K.g q c0 c1 c2 c3 c4 c5 c6 c7 n d1 d2 d3 d4 d5 d6 d7 d8 d9, wB K.g bd st r n] [(0, .ref (x 0)), (1, .int (nI m)), (2, .int (nI 3))] 42 []
    have hq := PI_all hp
    have hbd := PP_bd hS hJ hn hp
    refine z_iload_n C 2 rfl rfl dX4_at_42 43 rfl ?_
    refine z_tabO C 102 dX4_at_43 (by decide) (by decide) ?_
    refine z_aload_n C 0 rfl rfl dX4_at_102 103 rfl ?_
    refine z_get C zc4 iX4_at_X4 0 0 rfl rfl 2 (Nat.le_of_ble_eq_true rfl) (List.mem_of_getElem? (i := 2) rfl) (v := .ref (q 0)) rfl dX4_at_103 106 rfl ?_
    refine z_aload_n C 0 rfl rfl dX4_at_106 107 rfl ?_
    refine z_get C zc4 iX4_at_X4 0 0 rfl rfl 2 (Nat.le_of_ble_eq_true rfl) (List.mem_of_getElem? (i := 2) rfl) (v := .ref (q 0)) rfl dX4_at_107 110 rfl ?_
    refine z_get C zc3 iX4_at_X3 1 0 rfl rfl 6 (Nat.le_of_ble_eq_true rfl) (List.mem_of_getElem? (i := 6) rfl) (v := .ref (q 7)) rfl dX4_at_110 113 rfl ?_
    refine z_iload_n C 1 rfl rfl dX4_at_113 114 rfl ?_
    refine z_callV C [.ref (q 7), .int (nI m)] [] (tX3_reached_6 K.l K.g q c0 c1 c2 c3 c4 c5 c6 c7 n d1 d2 d3 d4 d5 d6 d7 d8 d9 m (by first | omega | assumption) (by first | omega | assumption) (fun i hi => by have := hbd i hi; omega)) gX4_at_X3_reached rfl rfl rfl hdX3_reached ⟨Nat.le_of_ble_eq_true rfl, Nat.le_of_ble_eq_true rfl⟩ ⟨Nat.zero_le _, Nat.zero_le _⟩ 1 0 rfl rfl rfl [1] rfl rfl (zlc (N := 3) rfl rfl) [0, 3, 2] rfl (by decide) (fun _ : Unit => [wX K.g x bd tr q p h sb sv, wP K.g q c0 c1 c2 c3 c4 c5 c6 c7 n d1 d2 d3 d4 d5 d6 d7 d8 d9, wB K.g bd st r n]) (fun _ => rfl) rfl rfl (Nat.le_of_ble_eq_true rfl) dX4_at_114 117 rfl (fun u9 hu9 => ?_)
    show Z K 0 0 [wX K.g x bd tr q p h sb sv, wP K.g q c0 c1 c2 c3 c4 c5 c6 c7 n d1 d2 d3 d4 d5 d6 d7 d8 d9, wB K.g bd st r n] [(0, .ref (x 0)), (1, .int (nI m)), (2, .int (nI 3))] 117 [.int (nI (ct (fun i => decide (c6 i ≤ m)) n))]
    exact z_iret C hRx dX4_at_117 (c0, c1, c2, c3, c4, c5, c6, c7, d1, d2, d3, d4, d5, d6, d7, d8, d9) (congrArg (fun z => some (Value.int (nI z))) (ct_cg n (fun i hi => by rw [(hq.2.1 i hi).2.2.2.2.2.2.1])).symm) trivial rfl

set_option maxHeartbeats 4000000 in
set_option maxRecDepth 100000 in
theorem tX4_ifOrdered_bv (l : Launch) (g : zG) (x bd tr q p h : Nat → Nat) (sb : Nat → Nat → Nat) (sv : Nat → Bool) (v w : Int32) (hb : (rg v.toInt (Int.ofNat 0) (Int.ofNat 3) && rg w.toInt (Int.ofNat 0) (Int.ofNat 3)) = false) : Met l yX4_ifOrdered wsX4_ifOrdered ({ frames := 4, cells := 0, slots := 0, locals := 108 } : Room) (zPreE g eOrd [.ref (x 0), .int v, .int w] [wX g x bd tr q p h sb sv]) (zQ g (fun _ : Unit => some (.int (-2)) ) (fun _ : Unit => True) (fun _ : Unit => [wX g x bd tr q p h sb sv]) (zA [wX g x bd tr q p h sb sv])) 0 0 (zA [wX g x bd tr q p h sb sv]) := by
  refine z_entryE (cc := cX4_ifOrdered) (maxL := 3) (ret := (some .int)) (own := RX4) (by decide) rfl rfl (Nat.le_of_ble_eq_true rfl) [(0, .ref (x 0)), (1, .int v), (2, .int w)] rfl ?_
  intro K hKl hKg hnL C hRx hE
  subst hKl
  subst hKg
  refine z_iload_n C 1 rfl rfl dX4_ifOrdered_0 1 rfl ?_
  refine z_iconst C (v := nI 0) rfl dX4_ifOrdered_1 2 rfl ?_
  refine z_iconst C (v := nI 3) rfl dX4_ifOrdered_2 3 rfl ?_
  refine z_callP C [.int v, .int (nI 0), .int (nI 3)] [] (tX4_withinN K.l K.g v 0 3 (by first | omega | assumption) (by first | omega | assumption)) gX4_ifOrdered_X4_within rfl rfl rfl hdX4_within ⟨Nat.le_of_ble_eq_true rfl, Nat.le_of_ble_eq_true rfl⟩ ⟨Nat.zero_le _, Nat.zero_le _⟩ rfl rfl (Nat.le_of_ble_eq_true rfl) dX4_ifOrdered_3 6 rfl (fun u9 hu9 => ?_)
  show Z K 0 0 [wX K.g x bd tr q p h sb sv] [(0, .ref (x 0)), (1, .int v), (2, .int w)] 6 [.int (bI (rg v.toInt (Int.ofNat 0) (Int.ofNat 3)))]
  refine z_ifb_eq C 18 dX4_ifOrdered_6 (by decide) 9 rfl (fun c_1 => ?_) (fun c_1 => ?_)
  · skip
    refine z_bipush C (v := (-2)) rfl dX4_ifOrdered_18 20 rfl ?_
    exact z_iret C hRx dX4_ifOrdered_20 () rfl trivial rfl
  · skip
    refine z_iload_n C 2 rfl rfl dX4_ifOrdered_9 10 rfl ?_
    refine z_iconst C (v := nI 0) rfl dX4_ifOrdered_10 11 rfl ?_
    refine z_iconst C (v := nI 3) rfl dX4_ifOrdered_11 12 rfl ?_
    refine z_callP C [.int w, .int (nI 0), .int (nI 3)] [] (tX4_withinN K.l K.g w 0 3 (by first | omega | assumption) (by first | omega | assumption)) gX4_ifOrdered_X4_within rfl rfl rfl hdX4_within ⟨Nat.le_of_ble_eq_true rfl, Nat.le_of_ble_eq_true rfl⟩ ⟨Nat.zero_le _, Nat.zero_le _⟩ rfl rfl (Nat.le_of_ble_eq_true rfl) dX4_ifOrdered_12 15 rfl (fun u9 hu9 => ?_)
    show Z K 0 0 [wX K.g x bd tr q p h sb sv] [(0, .ref (x 0)), (1, .int v), (2, .int w)] 15 [.int (bI (rg w.toInt (Int.ofNat 0) (Int.ofNat 3)))]
    refine z_ifb_ne C 21 dX4_ifOrdered_15 (by decide) 18 rfl (fun c_2 => ?_) (fun c_2 => ?_)
    · exfalso; simp_all
    refine z_bipush C (v := (-2)) rfl dX4_ifOrdered_18 20 rfl ?_
    exact z_iret C hRx dX4_ifOrdered_20 () rfl trivial rfl

theorem iX4_ifOrdered_X0 : ∀ w ∈ u_ws RX0 TX0 3, w ∈ wsX4_ifOrdered := fun w h => (List.mem_cons_of_mem _ (List.mem_append_left _ (List.mem_append_right _ h)))
theorem iX4_ifOrdered_X3 : ∀ w ∈ u_ws RX3 TX3 18, w ∈ wsX4_ifOrdered := fun w h => (List.mem_cons_of_mem _ (List.mem_append_right _ h))
theorem iX4_ifOrdered_X4 : ∀ w ∈ u_ws RX4 TX4 7, w ∈ wsX4_ifOrdered := fun w h => (List.mem_cons_of_mem _ (List.mem_append_left _ (List.mem_append_left _ (List.mem_append_right _ h))))
set_option maxHeartbeats 4000000 in
set_option maxRecDepth 100000 in
theorem tX4_ifOrdered_ok (l : Launch) (g : zG) (x bd tr q p h : Nat → Nat) (sb : Nat → Nat → Nat) (sv : Nat → Bool) (a0 a1 a2 a3 a4 a5 a6 a7 : Nat → Nat) (s0 s1 s2 s3 s4 s5 s6 s7 s8 s9 : Nat) (st : Nat → Nat) (r : Nat → Nat → Nat) (n : Nat) (ts : Nat → Nat) (tq : Nat → Nat → Nat) (tn : Nat) (m k : Nat) (hn : n ≤ 12) (hS : okS st) (hJ : okJ r n) (hR : okR st r n (st 5)) (hm : m ≤ 3) (hk : k ≤ 3) : Met l yX4_ifOrdered wsX4_ifOrdered ({ frames := 4, cells := 0, slots := 0, locals := 108 } : Room) (zPreE g eOrd [.ref (x 0), .int (nI m), .int (nI k)] [wX g x bd tr q p h sb sv, wP g q a0 a1 a2 a3 a4 a5 a6 a7 s0 s1 s2 s3 s4 s5 s6 s7 s8 s9, wB g bd st r n, wB g tr ts tq tn]) (zQ g (fun u : (Nat → Nat) × (Nat → Nat) × (Nat → Nat) × (Nat → Nat) × (Nat → Nat) × (Nat → Nat) × (Nat → Nat) × (Nat → Nat) × (Nat) × (Nat) × (Nat) × (Nat) × (Nat) × (Nat) × (Nat) × (Nat) × (Nat) => match u with | (c0, c1, c2, c3, c4, c5, c6, c7, d1, d2, d3, d4, d5, d6, d7, d8, d9) => some (.int (nI (IO st (oR r (foR m) n) n k))) ) (fun u : (Nat → Nat) × (Nat → Nat) × (Nat → Nat) × (Nat → Nat) × (Nat → Nat) × (Nat → Nat) × (Nat → Nat) × (Nat → Nat) × (Nat) × (Nat) × (Nat) × (Nat) × (Nat) × (Nat) × (Nat) × (Nat) × (Nat) => match u with | (c0, c1, c2, c3, c4, c5, c6, c7, d1, d2, d3, d4, d5, d6, d7, d8, d9) => True) (fun u : (Nat → Nat) × (Nat → Nat) × (Nat → Nat) × (Nat → Nat) × (Nat → Nat) × (Nat → Nat) × (Nat → Nat) × (Nat → Nat) × (Nat) × (Nat) × (Nat) × (Nat) × (Nat) × (Nat) × (Nat) × (Nat) × (Nat) => match u with | (c0, c1, c2, c3, c4, c5, c6, c7, d1, d2, d3, d4, d5, d6, d7, d8, d9) => [wX g x bd tr q p h sb sv, wP g q c0 c1 c2 c3 c4 c5 c6 c7 n d1 d2 d3 d4 d5 d6 d7 d8 d9, wB g bd st r n, wB g tr st (arR r (plc (r (foR m)) n) n) n]) (zA [wX g x bd tr q p h sb sv, wP g q a0 a1 a2 a3 a4 a5 a6 a7 s0 s1 s2 s3 s4 s5 s6 s7 s8 s9, wB g bd st r n, wB g tr ts tq tn])) 0 0 (zA [wX g x bd tr q p h sb sv, wP g q a0 a1 a2 a3 a4 a5 a6 a7 s0 s1 s2 s3 s4 s5 s6 s7 s8 s9, wB g bd st r n, wB g tr ts tq tn]) := by
  refine z_entryE (cc := cX4_ifOrdered) (maxL := 3) (ret := (some .int)) (own := RX4) (by decide) rfl rfl (Nat.le_of_ble_eq_true rfl) [(0, .ref (x 0)), (1, .int (nI m)), (2, .int (nI k))] rfl ?_
  intro K hKl hKg hnL C hRx hE
  subst hKl
  subst hKg
  obtain ⟨sa1, hs1⟩ := hE
  have hfo := foR_lt hm
  rcases (show k = 0 ∨ k = 1 ∨ k = 2 ∨ k = 3 by omega) with rfl | rfl | rfl | rfl
  · skip
    refine z_iload_n C 1 rfl rfl dX4_ifOrdered_0 1 rfl ?_
    refine z_iconst C (v := nI 0) rfl dX4_ifOrdered_1 2 rfl ?_
    refine z_iconst C (v := nI 3) rfl dX4_ifOrdered_2 3 rfl ?_
    refine z_callP C [.int (nI m), .int (nI 0), .int (nI 3)] [] (tX4_withinN K.l K.g (nI m) 0 3 (by first | omega | assumption) (by first | omega | assumption)) gX4_ifOrdered_X4_within rfl rfl rfl hdX4_within ⟨Nat.le_of_ble_eq_true rfl, Nat.le_of_ble_eq_true rfl⟩ ⟨Nat.zero_le _, Nat.zero_le _⟩ rfl rfl (Nat.le_of_ble_eq_true rfl) dX4_ifOrdered_3 6 rfl (fun u9 hu9 => ?_)
    show Z K 0 0 [wX K.g x bd tr q p h sb sv, wP K.g q a0 a1 a2 a3 a4 a5 a6 a7 s0 s1 s2 s3 s4 s5 s6 s7 s8 s9, wB K.g bd st r n, wB K.g tr ts tq tn] [(0, .ref (x 0)), (1, .int (nI m)), (2, .int (nI 0))] 6 [.int (bI (rg (nI m).toInt (Int.ofNat 0) (Int.ofNat 3)))]
    refine z_ifb_eq C 18 dX4_ifOrdered_6 (by decide) 9 rfl (fun c_1 => ?_) (fun c_1 => ?_)
    · exfalso; rw [rgN_t (by omega) (by omega) (by omega)] at c_1; exact Bool.noConfusion c_1
    refine z_iload_n C 2 rfl rfl dX4_ifOrdered_9 10 rfl ?_
    refine z_iconst C (v := nI 0) rfl dX4_ifOrdered_10 11 rfl ?_
    refine z_iconst C (v := nI 3) rfl dX4_ifOrdered_11 12 rfl ?_
    refine z_callP C [.int (nI 0), .int (nI 0), .int (nI 3)] [] (tX4_withinN K.l K.g (nI 0) 0 3 (by first | omega | assumption) (by first | omega | assumption)) gX4_ifOrdered_X4_within rfl rfl rfl hdX4_within ⟨Nat.le_of_ble_eq_true rfl, Nat.le_of_ble_eq_true rfl⟩ ⟨Nat.zero_le _, Nat.zero_le _⟩ rfl rfl (Nat.le_of_ble_eq_true rfl) dX4_ifOrdered_12 15 rfl (fun u9 hu9 => ?_)
    show Z K 0 0 [wX K.g x bd tr q p h sb sv, wP K.g q a0 a1 a2 a3 a4 a5 a6 a7 s0 s1 s2 s3 s4 s5 s6 s7 s8 s9, wB K.g bd st r n, wB K.g tr ts tq tn] [(0, .ref (x 0)), (1, .int (nI m)), (2, .int (nI 0))] 15 [.int (bI (rg (nI 0).toInt (Int.ofNat 0) (Int.ofNat 3)))]
    refine z_ifb_ne C 21 dX4_ifOrdered_15 (by decide) 18 rfl (fun c_2 => ?_) (fun c_2 => ?_)
    rotate_left
    · exfalso; rw [rgN_t (by omega) (by omega) (by omega)] at c_2; exact Bool.noConfusion c_2
    refine z_aload_n C 0 rfl rfl dX4_ifOrdered_21 22 rfl ?_
    refine z_get C zc4 iX4_ifOrdered_X4 0 0 rfl rfl 1 (Nat.le_of_ble_eq_true rfl) (List.mem_of_getElem? (i := 1) rfl) (v := .ref (tr 0)) rfl dX4_ifOrdered_22 25 rfl ?_
    refine z_aload_n C 0 rfl rfl dX4_ifOrdered_25 26 rfl ?_
    refine z_get C zc4 iX4_ifOrdered_X4 0 0 rfl rfl 0 (Nat.le_of_ble_eq_true rfl) (List.mem_of_getElem? (i := 2) rfl) (v := .ref (bd 0)) rfl dX4_ifOrdered_26 29 rfl ?_
    refine z_gets C hs1.1 (List.mem_of_getElem? (i := 3) rfl) dX4_ifOrdered_29 32 rfl ?_
    refine z_iload_n C 1 rfl rfl dX4_ifOrdered_32 33 rfl ?_
    refine z_sld C (f := foR) hs1.2.1 hs1.2.2.1 hs1.2.2.2 (by omega) (by decide) dX4_ifOrdered_33 34 rfl ?_
    refine z_callV C [.ref (bd 0), .int (nI (foR m))] [] (tX0_arrange K.l K.g tr ts tq tn bd st r n (foR m) hfo hn (okJ_le hfo hJ)) gX4_ifOrdered_X0_arrange rfl rfl rfl hdX0_arrange ⟨Nat.le_of_ble_eq_true rfl, Nat.le_of_ble_eq_true rfl⟩ ⟨Nat.zero_le _, Nat.zero_le _⟩ 3 0 rfl rfl rfl [3, 2] rfl rfl (zlc (N := 4) rfl rfl) [0, 1, 5, 4] rfl (by decide) (fun _ : Unit => [wX K.g x bd tr q p h sb sv, wP K.g q a0 a1 a2 a3 a4 a5 a6 a7 s0 s1 s2 s3 s4 s5 s6 s7 s8 s9, wB K.g bd st r n, wB K.g tr st (arR r (plc (r (foR m)) n) n) n]) (fun _ => rfl) rfl rfl (Nat.le_of_ble_eq_true rfl) dX4_ifOrdered_34 37 rfl (fun u9 hu9 => ?_)
    show Z K 0 0 [wX K.g x bd tr q p h sb sv, wP K.g q a0 a1 a2 a3 a4 a5 a6 a7 s0 s1 s2 s3 s4 s5 s6 s7 s8 s9, wB K.g bd st r n, wB K.g tr st (arR r (plc (r (foR m)) n) n) n] [(0, .ref (x 0)), (1, .int (nI m)), (2, .int (nI 0))] 37 [.int (nI (ct (fun y => decide (plc (r (foR m)) n y ≠ y)) n))]
    refine z_pop C rfl dX4_ifOrdered_37 38 rfl ?_
    refine z_aload_n C 0 rfl rfl dX4_ifOrdered_38 39 rfl ?_
    refine z_get C zc4 iX4_ifOrdered_X4 0 0 rfl rfl 2 (Nat.le_of_ble_eq_true rfl) (List.mem_of_getElem? (i := 4) rfl) (v := .ref (q 0)) rfl dX4_ifOrdered_39 42 rfl ?_
    refine z_aload_n C 0 rfl rfl dX4_ifOrdered_42 43 rfl ?_
    refine z_get C zc4 iX4_ifOrdered_X4 0 0 rfl rfl 1 (Nat.le_of_ble_eq_true rfl) (List.mem_of_getElem? (i := 1) rfl) (v := .ref (tr 0)) rfl dX4_ifOrdered_43 46 rfl ?_
    refine z_aload_n C 0 rfl rfl dX4_ifOrdered_46 47 rfl ?_
    refine z_get C zc4 iX4_ifOrdered_X4 0 0 rfl rfl 1 (Nat.le_of_ble_eq_true rfl) (List.mem_of_getElem? (i := 1) rfl) (v := .ref (tr 0)) rfl dX4_ifOrdered_47 50 rfl ?_
    refine z_get C zc0 iX4_ifOrdered_X0 3 0 rfl rfl 0 (Nat.le_of_ble_eq_true rfl) (List.mem_of_getElem? (i := 5) rfl) (v := .ref (tr 1)) rfl dX4_ifOrdered_50 53 rfl ?_
    refine z_iconst C (v := nI 5) rfl dX4_ifOrdered_53 54 rfl ?_
    refine z_iald C (f := st) 3 1 rfl rfl (by omega) (by decide) dX4_ifOrdered_54 55 rfl ?_
    refine z_callV C [.ref (tr 0), .int (nI (st 5))] [] (tX3_print K.l K.g q a0 a1 a2 a3 a4 a5 a6 a7 s0 s1 s2 s3 s4 s5 s6 s7 s8 s9 tr st (arR r (plc (r (foR m)) n) n) n (st 5) hS (okJ_oR hJ) hn (okR_oR hR) (by have := hS.2.2.2.2.2.2.2.1; omega)) gX4_ifOrdered_X3_print rfl rfl rfl hdX3_print ⟨Nat.le_of_ble_eq_true rfl, Nat.le_of_ble_eq_true rfl⟩ ⟨Nat.zero_le _, Nat.zero_le _⟩ 1 0 rfl rfl rfl [1, 3] rfl rfl (zlc (N := 4) rfl rfl) [0, 4, 2, 5] rfl (by decide) (fun u : (Nat → Nat) × (Nat → Nat) × (Nat → Nat) × (Nat → Nat) × (Nat → Nat) × (Nat → Nat) × (Nat → Nat) × (Nat → Nat) × (Nat) × (Nat) × (Nat) × (Nat) × (Nat) × (Nat) × (Nat) × (Nat) × (Nat) => match u with | (c0, c1, c2, c3, c4, c5, c6, c7, d1, d2, d3, d4, d5, d6, d7, d8, d9) => [wX K.g x bd tr q p h sb sv, wP K.g q c0 c1 c2 c3 c4 c5 c6 c7 n d1 d2 d3 d4 d5 d6 d7 d8 d9, wB K.g bd st r n, wB K.g tr st (arR r (plc (r (foR m)) n) n) n]) (fun _ => rfl) rfl rfl (Nat.le_of_ble_eq_true rfl) dX4_ifOrdered_55 58 rfl (fun u9 hu9 => ?_)
    obtain ⟨c0, c1, c2, c3, c4, c5, c6, c7, d1, d2, d3, d4, d5, d6, d7, d8, d9⟩ := u9
    have hp := hu9
    have hp : PI st (arR r (plc (r (foR m)) n) n) (st 5) n c0 c1 c2 c3 c4 c5 c6 c7 d1 d2 d3 d4 d5 d6 d7 d8 d9 := hp
    show Z K 0 0 [wX K.g x bd tr q p h sb sv, wP K.g q c0 c1 c2 c3 c4 c5 c6 c7 n d1 d2 d3 d4 d5 d6 d7 d8 d9, wB K.g bd st r n, wB K.g tr st (arR r (plc (r (foR m)) n) n) n] [(0, .ref (x 0)), (1, .int (nI m)), (2, .int (nI 0))] 58 []
    have hq := PI_all hp
    refine z_iload_n C 2 rfl rfl dX4_ifOrdered_58 59 rfl ?_
    refine z_tab C (by decide) 84 dX4_ifOrdered_59 (by decide) (by decide) rfl (by decide) ?_
    refine z_aload_n C 0 rfl rfl dX4_ifOrdered_84 85 rfl ?_
    refine z_get C zc4 iX4_ifOrdered_X4 0 0 rfl rfl 2 (Nat.le_of_ble_eq_true rfl) (List.mem_of_getElem? (i := 4) rfl) (v := .ref (q 0)) rfl dX4_ifOrdered_85 88 rfl ?_
    refine z_aload_n C 0 rfl rfl dX4_ifOrdered_88 89 rfl ?_
    refine z_get C zc4 iX4_ifOrdered_X4 0 0 rfl rfl 2 (Nat.le_of_ble_eq_true rfl) (List.mem_of_getElem? (i := 4) rfl) (v := .ref (q 0)) rfl dX4_ifOrdered_89 92 rfl ?_
    refine z_get C zc3 iX4_ifOrdered_X3 1 0 rfl rfl 6 (Nat.le_of_ble_eq_true rfl) (List.mem_of_getElem? (i := 6) rfl) (v := .ref (q 7)) rfl dX4_ifOrdered_92 95 rfl ?_
    refine z_callV C [.ref (q 7)] [] (tX3_lastOf_6 K.l K.g q c0 c1 c2 c3 c4 c5 c6 c7 n d1 d2 d3 d4 d5 d6 d7 d8 d9 (by first | omega | assumption)) gX4_ifOrdered_X3_lastOf rfl rfl rfl hdX3_lastOf ⟨Nat.le_of_ble_eq_true rfl, Nat.le_of_ble_eq_true rfl⟩ ⟨Nat.zero_le _, Nat.zero_le _⟩ 1 0 rfl rfl rfl [1] rfl rfl (zlc (N := 4) rfl rfl) [0, 4, 2, 3] rfl (by decide) (fun _ : Unit => [wX K.g x bd tr q p h sb sv, wP K.g q c0 c1 c2 c3 c4 c5 c6 c7 n d1 d2 d3 d4 d5 d6 d7 d8 d9, wB K.g bd st r n, wB K.g tr st (arR r (plc (r (foR m)) n) n) n]) (fun _ => rfl) rfl rfl (Nat.le_of_ble_eq_true rfl) dX4_ifOrdered_95 98 rfl (fun u9 hu9 => ?_)
    show Z K 0 0 [wX K.g x bd tr q p h sb sv, wP K.g q c0 c1 c2 c3 c4 c5 c6 c7 n d1 d2 d3 d4 d5 d6 d7 d8 d9, wB K.g bd st r n, wB K.g tr st (arR r (plc (r (foR m)) n) n) n] [(0, .ref (x 0)), (1, .int (nI m)), (2, .int (nI 0))] 98 [.int (nI (fre c6 n))]
    exact z_iret C hRx dX4_ifOrdered_98 (c0, c1, c2, c3, c4, c5, c6, c7, d1, d2, d3, d4, d5, d6, d7, d8, d9) (congrArg (fun z => some (Value.int (nI z))) (fre_cg (fun i hi => (hq.2.1 i hi).2.2.2.2.2.2.1)).symm) trivial rfl
  · skip
    refine z_iload_n C 1 rfl rfl dX4_ifOrdered_0 1 rfl ?_
    refine z_iconst C (v := nI 0) rfl dX4_ifOrdered_1 2 rfl ?_
    refine z_iconst C (v := nI 3) rfl dX4_ifOrdered_2 3 rfl ?_
    refine z_callP C [.int (nI m), .int (nI 0), .int (nI 3)] [] (tX4_withinN K.l K.g (nI m) 0 3 (by first | omega | assumption) (by first | omega | assumption)) gX4_ifOrdered_X4_within rfl rfl rfl hdX4_within ⟨Nat.le_of_ble_eq_true rfl, Nat.le_of_ble_eq_true rfl⟩ ⟨Nat.zero_le _, Nat.zero_le _⟩ rfl rfl (Nat.le_of_ble_eq_true rfl) dX4_ifOrdered_3 6 rfl (fun u9 hu9 => ?_)
    show Z K 0 0 [wX K.g x bd tr q p h sb sv, wP K.g q a0 a1 a2 a3 a4 a5 a6 a7 s0 s1 s2 s3 s4 s5 s6 s7 s8 s9, wB K.g bd st r n, wB K.g tr ts tq tn] [(0, .ref (x 0)), (1, .int (nI m)), (2, .int (nI 1))] 6 [.int (bI (rg (nI m).toInt (Int.ofNat 0) (Int.ofNat 3)))]
    refine z_ifb_eq C 18 dX4_ifOrdered_6 (by decide) 9 rfl (fun c_3 => ?_) (fun c_3 => ?_)
    · exfalso; rw [rgN_t (by omega) (by omega) (by omega)] at c_3; exact Bool.noConfusion c_3
    refine z_iload_n C 2 rfl rfl dX4_ifOrdered_9 10 rfl ?_
    refine z_iconst C (v := nI 0) rfl dX4_ifOrdered_10 11 rfl ?_
    refine z_iconst C (v := nI 3) rfl dX4_ifOrdered_11 12 rfl ?_
    refine z_callP C [.int (nI 1), .int (nI 0), .int (nI 3)] [] (tX4_withinN K.l K.g (nI 1) 0 3 (by first | omega | assumption) (by first | omega | assumption)) gX4_ifOrdered_X4_within rfl rfl rfl hdX4_within ⟨Nat.le_of_ble_eq_true rfl, Nat.le_of_ble_eq_true rfl⟩ ⟨Nat.zero_le _, Nat.zero_le _⟩ rfl rfl (Nat.le_of_ble_eq_true rfl) dX4_ifOrdered_12 15 rfl (fun u9 hu9 => ?_)
    show Z K 0 0 [wX K.g x bd tr q p h sb sv, wP K.g q a0 a1 a2 a3 a4 a5 a6 a7 s0 s1 s2 s3 s4 s5 s6 s7 s8 s9, wB K.g bd st r n, wB K.g tr ts tq tn] [(0, .ref (x 0)), (1, .int (nI m)), (2, .int (nI 1))] 15 [.int (bI (rg (nI 1).toInt (Int.ofNat 0) (Int.ofNat 3)))]
    refine z_ifb_ne C 21 dX4_ifOrdered_15 (by decide) 18 rfl (fun c_4 => ?_) (fun c_4 => ?_)
    rotate_left
    · exfalso; rw [rgN_t (by omega) (by omega) (by omega)] at c_4; exact Bool.noConfusion c_4
    refine z_aload_n C 0 rfl rfl dX4_ifOrdered_21 22 rfl ?_
    refine z_get C zc4 iX4_ifOrdered_X4 0 0 rfl rfl 1 (Nat.le_of_ble_eq_true rfl) (List.mem_of_getElem? (i := 1) rfl) (v := .ref (tr 0)) rfl dX4_ifOrdered_22 25 rfl ?_
    refine z_aload_n C 0 rfl rfl dX4_ifOrdered_25 26 rfl ?_
    refine z_get C zc4 iX4_ifOrdered_X4 0 0 rfl rfl 0 (Nat.le_of_ble_eq_true rfl) (List.mem_of_getElem? (i := 2) rfl) (v := .ref (bd 0)) rfl dX4_ifOrdered_26 29 rfl ?_
    refine z_gets C hs1.1 (List.mem_of_getElem? (i := 3) rfl) dX4_ifOrdered_29 32 rfl ?_
    refine z_iload_n C 1 rfl rfl dX4_ifOrdered_32 33 rfl ?_
    refine z_sld C (f := foR) hs1.2.1 hs1.2.2.1 hs1.2.2.2 (by omega) (by decide) dX4_ifOrdered_33 34 rfl ?_
    refine z_callV C [.ref (bd 0), .int (nI (foR m))] [] (tX0_arrange K.l K.g tr ts tq tn bd st r n (foR m) hfo hn (okJ_le hfo hJ)) gX4_ifOrdered_X0_arrange rfl rfl rfl hdX0_arrange ⟨Nat.le_of_ble_eq_true rfl, Nat.le_of_ble_eq_true rfl⟩ ⟨Nat.zero_le _, Nat.zero_le _⟩ 3 0 rfl rfl rfl [3, 2] rfl rfl (zlc (N := 4) rfl rfl) [0, 1, 5, 4] rfl (by decide) (fun _ : Unit => [wX K.g x bd tr q p h sb sv, wP K.g q a0 a1 a2 a3 a4 a5 a6 a7 s0 s1 s2 s3 s4 s5 s6 s7 s8 s9, wB K.g bd st r n, wB K.g tr st (arR r (plc (r (foR m)) n) n) n]) (fun _ => rfl) rfl rfl (Nat.le_of_ble_eq_true rfl) dX4_ifOrdered_34 37 rfl (fun u9 hu9 => ?_)
    show Z K 0 0 [wX K.g x bd tr q p h sb sv, wP K.g q a0 a1 a2 a3 a4 a5 a6 a7 s0 s1 s2 s3 s4 s5 s6 s7 s8 s9, wB K.g bd st r n, wB K.g tr st (arR r (plc (r (foR m)) n) n) n] [(0, .ref (x 0)), (1, .int (nI m)), (2, .int (nI 1))] 37 [.int (nI (ct (fun y => decide (plc (r (foR m)) n y ≠ y)) n))]
    refine z_pop C rfl dX4_ifOrdered_37 38 rfl ?_
    refine z_aload_n C 0 rfl rfl dX4_ifOrdered_38 39 rfl ?_
    refine z_get C zc4 iX4_ifOrdered_X4 0 0 rfl rfl 2 (Nat.le_of_ble_eq_true rfl) (List.mem_of_getElem? (i := 4) rfl) (v := .ref (q 0)) rfl dX4_ifOrdered_39 42 rfl ?_
    refine z_aload_n C 0 rfl rfl dX4_ifOrdered_42 43 rfl ?_
    refine z_get C zc4 iX4_ifOrdered_X4 0 0 rfl rfl 1 (Nat.le_of_ble_eq_true rfl) (List.mem_of_getElem? (i := 1) rfl) (v := .ref (tr 0)) rfl dX4_ifOrdered_43 46 rfl ?_
    refine z_aload_n C 0 rfl rfl dX4_ifOrdered_46 47 rfl ?_
    refine z_get C zc4 iX4_ifOrdered_X4 0 0 rfl rfl 1 (Nat.le_of_ble_eq_true rfl) (List.mem_of_getElem? (i := 1) rfl) (v := .ref (tr 0)) rfl dX4_ifOrdered_47 50 rfl ?_
    refine z_get C zc0 iX4_ifOrdered_X0 3 0 rfl rfl 0 (Nat.le_of_ble_eq_true rfl) (List.mem_of_getElem? (i := 5) rfl) (v := .ref (tr 1)) rfl dX4_ifOrdered_50 53 rfl ?_
    refine z_iconst C (v := nI 5) rfl dX4_ifOrdered_53 54 rfl ?_
    refine z_iald C (f := st) 3 1 rfl rfl (by omega) (by decide) dX4_ifOrdered_54 55 rfl ?_
    refine z_callV C [.ref (tr 0), .int (nI (st 5))] [] (tX3_print K.l K.g q a0 a1 a2 a3 a4 a5 a6 a7 s0 s1 s2 s3 s4 s5 s6 s7 s8 s9 tr st (arR r (plc (r (foR m)) n) n) n (st 5) hS (okJ_oR hJ) hn (okR_oR hR) (by have := hS.2.2.2.2.2.2.2.1; omega)) gX4_ifOrdered_X3_print rfl rfl rfl hdX3_print ⟨Nat.le_of_ble_eq_true rfl, Nat.le_of_ble_eq_true rfl⟩ ⟨Nat.zero_le _, Nat.zero_le _⟩ 1 0 rfl rfl rfl [1, 3] rfl rfl (zlc (N := 4) rfl rfl) [0, 4, 2, 5] rfl (by decide) (fun u : (Nat → Nat) × (Nat → Nat) × (Nat → Nat) × (Nat → Nat) × (Nat → Nat) × (Nat → Nat) × (Nat → Nat) × (Nat → Nat) × (Nat) × (Nat) × (Nat) × (Nat) × (Nat) × (Nat) × (Nat) × (Nat) × (Nat) => match u with | (c0, c1, c2, c3, c4, c5, c6, c7, d1, d2, d3, d4, d5, d6, d7, d8, d9) => [wX K.g x bd tr q p h sb sv, wP K.g q c0 c1 c2 c3 c4 c5 c6 c7 n d1 d2 d3 d4 d5 d6 d7 d8 d9, wB K.g bd st r n, wB K.g tr st (arR r (plc (r (foR m)) n) n) n]) (fun _ => rfl) rfl rfl (Nat.le_of_ble_eq_true rfl) dX4_ifOrdered_55 58 rfl (fun u9 hu9 => ?_)
    obtain ⟨c0, c1, c2, c3, c4, c5, c6, c7, d1, d2, d3, d4, d5, d6, d7, d8, d9⟩ := u9
    have hp := hu9
    have hp : PI st (arR r (plc (r (foR m)) n) n) (st 5) n c0 c1 c2 c3 c4 c5 c6 c7 d1 d2 d3 d4 d5 d6 d7 d8 d9 := hp
    show Z K 0 0 [wX K.g x bd tr q p h sb sv, wP K.g q c0 c1 c2 c3 c4 c5 c6 c7 n d1 d2 d3 d4 d5 d6 d7 d8 d9, wB K.g bd st r n, wB K.g tr st (arR r (plc (r (foR m)) n) n) n] [(0, .ref (x 0)), (1, .int (nI m)), (2, .int (nI 1))] 58 []
    have hq := PI_all hp
    refine z_iload_n C 2 rfl rfl dX4_ifOrdered_58 59 rfl ?_
    refine z_tab C (by decide) 99 dX4_ifOrdered_59 (by decide) (by decide) rfl (by decide) ?_
    refine z_aload_n C 0 rfl rfl dX4_ifOrdered_99 100 rfl ?_
    refine z_get C zc4 iX4_ifOrdered_X4 0 0 rfl rfl 2 (Nat.le_of_ble_eq_true rfl) (List.mem_of_getElem? (i := 4) rfl) (v := .ref (q 0)) rfl dX4_ifOrdered_100 103 rfl ?_
    refine z_get C zc3 iX4_ifOrdered_X3 1 0 rfl rfl 10 (Nat.le_of_ble_eq_true rfl) (List.mem_of_getElem? (i := 7) rfl) (v := .int (nI d2)) rfl dX4_ifOrdered_103 106 rfl ?_
    exact z_iret C hRx dX4_ifOrdered_106 (c0, c1, c2, c3, c4, c5, c6, c7, d1, d2, d3, d4, d5, d6, d7, d8, d9) (congrArg (fun z => some (Value.int (nI z))) hq.2.2.2.1.symm) trivial rfl
  · skip
    refine z_iload_n C 1 rfl rfl dX4_ifOrdered_0 1 rfl ?_
    refine z_iconst C (v := nI 0) rfl dX4_ifOrdered_1 2 rfl ?_
    refine z_iconst C (v := nI 3) rfl dX4_ifOrdered_2 3 rfl ?_
    refine z_callP C [.int (nI m), .int (nI 0), .int (nI 3)] [] (tX4_withinN K.l K.g (nI m) 0 3 (by first | omega | assumption) (by first | omega | assumption)) gX4_ifOrdered_X4_within rfl rfl rfl hdX4_within ⟨Nat.le_of_ble_eq_true rfl, Nat.le_of_ble_eq_true rfl⟩ ⟨Nat.zero_le _, Nat.zero_le _⟩ rfl rfl (Nat.le_of_ble_eq_true rfl) dX4_ifOrdered_3 6 rfl (fun u9 hu9 => ?_)
    show Z K 0 0 [wX K.g x bd tr q p h sb sv, wP K.g q a0 a1 a2 a3 a4 a5 a6 a7 s0 s1 s2 s3 s4 s5 s6 s7 s8 s9, wB K.g bd st r n, wB K.g tr ts tq tn] [(0, .ref (x 0)), (1, .int (nI m)), (2, .int (nI 2))] 6 [.int (bI (rg (nI m).toInt (Int.ofNat 0) (Int.ofNat 3)))]
    refine z_ifb_eq C 18 dX4_ifOrdered_6 (by decide) 9 rfl (fun c_5 => ?_) (fun c_5 => ?_)
    · exfalso; rw [rgN_t (by omega) (by omega) (by omega)] at c_5; exact Bool.noConfusion c_5
    refine z_iload_n C 2 rfl rfl dX4_ifOrdered_9 10 rfl ?_
    refine z_iconst C (v := nI 0) rfl dX4_ifOrdered_10 11 rfl ?_
    refine z_iconst C (v := nI 3) rfl dX4_ifOrdered_11 12 rfl ?_
    refine z_callP C [.int (nI 2), .int (nI 0), .int (nI 3)] [] (tX4_withinN K.l K.g (nI 2) 0 3 (by first | omega | assumption) (by first | omega | assumption)) gX4_ifOrdered_X4_within rfl rfl rfl hdX4_within ⟨Nat.le_of_ble_eq_true rfl, Nat.le_of_ble_eq_true rfl⟩ ⟨Nat.zero_le _, Nat.zero_le _⟩ rfl rfl (Nat.le_of_ble_eq_true rfl) dX4_ifOrdered_12 15 rfl (fun u9 hu9 => ?_)
    show Z K 0 0 [wX K.g x bd tr q p h sb sv, wP K.g q a0 a1 a2 a3 a4 a5 a6 a7 s0 s1 s2 s3 s4 s5 s6 s7 s8 s9, wB K.g bd st r n, wB K.g tr ts tq tn] [(0, .ref (x 0)), (1, .int (nI m)), (2, .int (nI 2))] 15 [.int (bI (rg (nI 2).toInt (Int.ofNat 0) (Int.ofNat 3)))]
    refine z_ifb_ne C 21 dX4_ifOrdered_15 (by decide) 18 rfl (fun c_6 => ?_) (fun c_6 => ?_)
    rotate_left
    · exfalso; rw [rgN_t (by omega) (by omega) (by omega)] at c_6; exact Bool.noConfusion c_6
    refine z_aload_n C 0 rfl rfl dX4_ifOrdered_21 22 rfl ?_
    refine z_get C zc4 iX4_ifOrdered_X4 0 0 rfl rfl 1 (Nat.le_of_ble_eq_true rfl) (List.mem_of_getElem? (i := 1) rfl) (v := .ref (tr 0)) rfl dX4_ifOrdered_22 25 rfl ?_
    refine z_aload_n C 0 rfl rfl dX4_ifOrdered_25 26 rfl ?_
    refine z_get C zc4 iX4_ifOrdered_X4 0 0 rfl rfl 0 (Nat.le_of_ble_eq_true rfl) (List.mem_of_getElem? (i := 2) rfl) (v := .ref (bd 0)) rfl dX4_ifOrdered_26 29 rfl ?_
    refine z_gets C hs1.1 (List.mem_of_getElem? (i := 3) rfl) dX4_ifOrdered_29 32 rfl ?_
    refine z_iload_n C 1 rfl rfl dX4_ifOrdered_32 33 rfl ?_
    refine z_sld C (f := foR) hs1.2.1 hs1.2.2.1 hs1.2.2.2 (by omega) (by decide) dX4_ifOrdered_33 34 rfl ?_
    refine z_callV C [.ref (bd 0), .int (nI (foR m))] [] (tX0_arrange K.l K.g tr ts tq tn bd st r n (foR m) hfo hn (okJ_le hfo hJ)) gX4_ifOrdered_X0_arrange rfl rfl rfl hdX0_arrange ⟨Nat.le_of_ble_eq_true rfl, Nat.le_of_ble_eq_true rfl⟩ ⟨Nat.zero_le _, Nat.zero_le _⟩ 3 0 rfl rfl rfl [3, 2] rfl rfl (zlc (N := 4) rfl rfl) [0, 1, 5, 4] rfl (by decide) (fun _ : Unit => [wX K.g x bd tr q p h sb sv, wP K.g q a0 a1 a2 a3 a4 a5 a6 a7 s0 s1 s2 s3 s4 s5 s6 s7 s8 s9, wB K.g bd st r n, wB K.g tr st (arR r (plc (r (foR m)) n) n) n]) (fun _ => rfl) rfl rfl (Nat.le_of_ble_eq_true rfl) dX4_ifOrdered_34 37 rfl (fun u9 hu9 => ?_)
    show Z K 0 0 [wX K.g x bd tr q p h sb sv, wP K.g q a0 a1 a2 a3 a4 a5 a6 a7 s0 s1 s2 s3 s4 s5 s6 s7 s8 s9, wB K.g bd st r n, wB K.g tr st (arR r (plc (r (foR m)) n) n) n] [(0, .ref (x 0)), (1, .int (nI m)), (2, .int (nI 2))] 37 [.int (nI (ct (fun y => decide (plc (r (foR m)) n y ≠ y)) n))]
    refine z_pop C rfl dX4_ifOrdered_37 38 rfl ?_
    refine z_aload_n C 0 rfl rfl dX4_ifOrdered_38 39 rfl ?_
    refine z_get C zc4 iX4_ifOrdered_X4 0 0 rfl rfl 2 (Nat.le_of_ble_eq_true rfl) (List.mem_of_getElem? (i := 4) rfl) (v := .ref (q 0)) rfl dX4_ifOrdered_39 42 rfl ?_
    refine z_aload_n C 0 rfl rfl dX4_ifOrdered_42 43 rfl ?_
    refine z_get C zc4 iX4_ifOrdered_X4 0 0 rfl rfl 1 (Nat.le_of_ble_eq_true rfl) (List.mem_of_getElem? (i := 1) rfl) (v := .ref (tr 0)) rfl dX4_ifOrdered_43 46 rfl ?_
    refine z_aload_n C 0 rfl rfl dX4_ifOrdered_46 47 rfl ?_
    refine z_get C zc4 iX4_ifOrdered_X4 0 0 rfl rfl 1 (Nat.le_of_ble_eq_true rfl) (List.mem_of_getElem? (i := 1) rfl) (v := .ref (tr 0)) rfl dX4_ifOrdered_47 50 rfl ?_
    refine z_get C zc0 iX4_ifOrdered_X0 3 0 rfl rfl 0 (Nat.le_of_ble_eq_true rfl) (List.mem_of_getElem? (i := 5) rfl) (v := .ref (tr 1)) rfl dX4_ifOrdered_50 53 rfl ?_
    refine z_iconst C (v := nI 5) rfl dX4_ifOrdered_53 54 rfl ?_
    refine z_iald C (f := st) 3 1 rfl rfl (by omega) (by decide) dX4_ifOrdered_54 55 rfl ?_
    refine z_callV C [.ref (tr 0), .int (nI (st 5))] [] (tX3_print K.l K.g q a0 a1 a2 a3 a4 a5 a6 a7 s0 s1 s2 s3 s4 s5 s6 s7 s8 s9 tr st (arR r (plc (r (foR m)) n) n) n (st 5) hS (okJ_oR hJ) hn (okR_oR hR) (by have := hS.2.2.2.2.2.2.2.1; omega)) gX4_ifOrdered_X3_print rfl rfl rfl hdX3_print ⟨Nat.le_of_ble_eq_true rfl, Nat.le_of_ble_eq_true rfl⟩ ⟨Nat.zero_le _, Nat.zero_le _⟩ 1 0 rfl rfl rfl [1, 3] rfl rfl (zlc (N := 4) rfl rfl) [0, 4, 2, 5] rfl (by decide) (fun u : (Nat → Nat) × (Nat → Nat) × (Nat → Nat) × (Nat → Nat) × (Nat → Nat) × (Nat → Nat) × (Nat → Nat) × (Nat → Nat) × (Nat) × (Nat) × (Nat) × (Nat) × (Nat) × (Nat) × (Nat) × (Nat) × (Nat) => match u with | (c0, c1, c2, c3, c4, c5, c6, c7, d1, d2, d3, d4, d5, d6, d7, d8, d9) => [wX K.g x bd tr q p h sb sv, wP K.g q c0 c1 c2 c3 c4 c5 c6 c7 n d1 d2 d3 d4 d5 d6 d7 d8 d9, wB K.g bd st r n, wB K.g tr st (arR r (plc (r (foR m)) n) n) n]) (fun _ => rfl) rfl rfl (Nat.le_of_ble_eq_true rfl) dX4_ifOrdered_55 58 rfl (fun u9 hu9 => ?_)
    obtain ⟨c0, c1, c2, c3, c4, c5, c6, c7, d1, d2, d3, d4, d5, d6, d7, d8, d9⟩ := u9
    have hp := hu9
    have hp : PI st (arR r (plc (r (foR m)) n) n) (st 5) n c0 c1 c2 c3 c4 c5 c6 c7 d1 d2 d3 d4 d5 d6 d7 d8 d9 := hp
    show Z K 0 0 [wX K.g x bd tr q p h sb sv, wP K.g q c0 c1 c2 c3 c4 c5 c6 c7 n d1 d2 d3 d4 d5 d6 d7 d8 d9, wB K.g bd st r n, wB K.g tr st (arR r (plc (r (foR m)) n) n) n] [(0, .ref (x 0)), (1, .int (nI m)), (2, .int (nI 2))] 58 []
    have hq := PI_all hp
    refine z_iload_n C 2 rfl rfl dX4_ifOrdered_58 59 rfl ?_
    refine z_tab C (by decide) 107 dX4_ifOrdered_59 (by decide) (by decide) rfl (by decide) ?_
    refine z_aload_n C 0 rfl rfl dX4_ifOrdered_107 108 rfl ?_
    refine z_get C zc4 iX4_ifOrdered_X4 0 0 rfl rfl 2 (Nat.le_of_ble_eq_true rfl) (List.mem_of_getElem? (i := 4) rfl) (v := .ref (q 0)) rfl dX4_ifOrdered_108 111 rfl ?_
    refine z_get C zc3 iX4_ifOrdered_X3 1 0 rfl rfl 12 (Nat.le_of_ble_eq_true rfl) (List.mem_of_getElem? (i := 8) rfl) (v := .int (nI d4)) rfl dX4_ifOrdered_111 114 rfl ?_
    exact z_iret C hRx dX4_ifOrdered_114 (c0, c1, c2, c3, c4, c5, c6, c7, d1, d2, d3, d4, d5, d6, d7, d8, d9) (congrArg (fun z => some (Value.int (nI z))) hq.2.2.2.2.2.1.symm) trivial rfl
  · skip
    refine z_iload_n C 1 rfl rfl dX4_ifOrdered_0 1 rfl ?_
    refine z_iconst C (v := nI 0) rfl dX4_ifOrdered_1 2 rfl ?_
    refine z_iconst C (v := nI 3) rfl dX4_ifOrdered_2 3 rfl ?_
    refine z_callP C [.int (nI m), .int (nI 0), .int (nI 3)] [] (tX4_withinN K.l K.g (nI m) 0 3 (by first | omega | assumption) (by first | omega | assumption)) gX4_ifOrdered_X4_within rfl rfl rfl hdX4_within ⟨Nat.le_of_ble_eq_true rfl, Nat.le_of_ble_eq_true rfl⟩ ⟨Nat.zero_le _, Nat.zero_le _⟩ rfl rfl (Nat.le_of_ble_eq_true rfl) dX4_ifOrdered_3 6 rfl (fun u9 hu9 => ?_)
    show Z K 0 0 [wX K.g x bd tr q p h sb sv, wP K.g q a0 a1 a2 a3 a4 a5 a6 a7 s0 s1 s2 s3 s4 s5 s6 s7 s8 s9, wB K.g bd st r n, wB K.g tr ts tq tn] [(0, .ref (x 0)), (1, .int (nI m)), (2, .int (nI 3))] 6 [.int (bI (rg (nI m).toInt (Int.ofNat 0) (Int.ofNat 3)))]
    refine z_ifb_eq C 18 dX4_ifOrdered_6 (by decide) 9 rfl (fun c_7 => ?_) (fun c_7 => ?_)
    · exfalso; rw [rgN_t (by omega) (by omega) (by omega)] at c_7; exact Bool.noConfusion c_7
    refine z_iload_n C 2 rfl rfl dX4_ifOrdered_9 10 rfl ?_
    refine z_iconst C (v := nI 0) rfl dX4_ifOrdered_10 11 rfl ?_
    refine z_iconst C (v := nI 3) rfl dX4_ifOrdered_11 12 rfl ?_
    refine z_callP C [.int (nI 3), .int (nI 0), .int (nI 3)] [] (tX4_withinN K.l K.g (nI 3) 0 3 (by first | omega | assumption) (by first | omega | assumption)) gX4_ifOrdered_X4_within rfl rfl rfl hdX4_within ⟨Nat.le_of_ble_eq_true rfl, Nat.le_of_ble_eq_true rfl⟩ ⟨Nat.zero_le _, Nat.zero_le _⟩ rfl rfl (Nat.le_of_ble_eq_true rfl) dX4_ifOrdered_12 15 rfl (fun u9 hu9 => ?_)
    show Z K 0 0 [wX K.g x bd tr q p h sb sv, wP K.g q a0 a1 a2 a3 a4 a5 a6 a7 s0 s1 s2 s3 s4 s5 s6 s7 s8 s9, wB K.g bd st r n, wB K.g tr ts tq tn] [(0, .ref (x 0)), (1, .int (nI m)), (2, .int (nI 3))] 15 [.int (bI (rg (nI 3).toInt (Int.ofNat 0) (Int.ofNat 3)))]
    refine z_ifb_ne C 21 dX4_ifOrdered_15 (by decide) 18 rfl (fun c_8 => ?_) (fun c_8 => ?_)
    rotate_left
    · exfalso; rw [rgN_t (by omega) (by omega) (by omega)] at c_8; exact Bool.noConfusion c_8
    refine z_aload_n C 0 rfl rfl dX4_ifOrdered_21 22 rfl ?_
    refine z_get C zc4 iX4_ifOrdered_X4 0 0 rfl rfl 1 (Nat.le_of_ble_eq_true rfl) (List.mem_of_getElem? (i := 1) rfl) (v := .ref (tr 0)) rfl dX4_ifOrdered_22 25 rfl ?_
    refine z_aload_n C 0 rfl rfl dX4_ifOrdered_25 26 rfl ?_
    refine z_get C zc4 iX4_ifOrdered_X4 0 0 rfl rfl 0 (Nat.le_of_ble_eq_true rfl) (List.mem_of_getElem? (i := 2) rfl) (v := .ref (bd 0)) rfl dX4_ifOrdered_26 29 rfl ?_
    refine z_gets C hs1.1 (List.mem_of_getElem? (i := 3) rfl) dX4_ifOrdered_29 32 rfl ?_
    refine z_iload_n C 1 rfl rfl dX4_ifOrdered_32 33 rfl ?_
    refine z_sld C (f := foR) hs1.2.1 hs1.2.2.1 hs1.2.2.2 (by omega) (by decide) dX4_ifOrdered_33 34 rfl ?_
    refine z_callV C [.ref (bd 0), .int (nI (foR m))] [] (tX0_arrange K.l K.g tr ts tq tn bd st r n (foR m) hfo hn (okJ_le hfo hJ)) gX4_ifOrdered_X0_arrange rfl rfl rfl hdX0_arrange ⟨Nat.le_of_ble_eq_true rfl, Nat.le_of_ble_eq_true rfl⟩ ⟨Nat.zero_le _, Nat.zero_le _⟩ 3 0 rfl rfl rfl [3, 2] rfl rfl (zlc (N := 4) rfl rfl) [0, 1, 5, 4] rfl (by decide) (fun _ : Unit => [wX K.g x bd tr q p h sb sv, wP K.g q a0 a1 a2 a3 a4 a5 a6 a7 s0 s1 s2 s3 s4 s5 s6 s7 s8 s9, wB K.g bd st r n, wB K.g tr st (arR r (plc (r (foR m)) n) n) n]) (fun _ => rfl) rfl rfl (Nat.le_of_ble_eq_true rfl) dX4_ifOrdered_34 37 rfl (fun u9 hu9 => ?_)
    show Z K 0 0 [wX K.g x bd tr q p h sb sv, wP K.g q a0 a1 a2 a3 a4 a5 a6 a7 s0 s1 s2 s3 s4 s5 s6 s7 s8 s9, wB K.g bd st r n, wB K.g tr st (arR r (plc (r (foR m)) n) n) n] [(0, .ref (x 0)), (1, .int (nI m)), (2, .int (nI 3))] 37 [.int (nI (ct (fun y => decide (plc (r (foR m)) n y ≠ y)) n))]
    refine z_pop C rfl dX4_ifOrdered_37 38 rfl ?_
    refine z_aload_n C 0 rfl rfl dX4_ifOrdered_38 39 rfl ?_
    refine z_get C zc4 iX4_ifOrdered_X4 0 0 rfl rfl 2 (Nat.le_of_ble_eq_true rfl) (List.mem_of_getElem? (i := 4) rfl) (v := .ref (q 0)) rfl dX4_ifOrdered_39 42 rfl ?_
    refine z_aload_n C 0 rfl rfl dX4_ifOrdered_42 43 rfl ?_
    refine z_get C zc4 iX4_ifOrdered_X4 0 0 rfl rfl 1 (Nat.le_of_ble_eq_true rfl) (List.mem_of_getElem? (i := 1) rfl) (v := .ref (tr 0)) rfl dX4_ifOrdered_43 46 rfl ?_
    refine z_aload_n C 0 rfl rfl dX4_ifOrdered_46 47 rfl ?_
    refine z_get C zc4 iX4_ifOrdered_X4 0 0 rfl rfl 1 (Nat.le_of_ble_eq_true rfl) (List.mem_of_getElem? (i := 1) rfl) (v := .ref (tr 0)) rfl dX4_ifOrdered_47 50 rfl ?_
    refine z_get C zc0 iX4_ifOrdered_X0 3 0 rfl rfl 0 (Nat.le_of_ble_eq_true rfl) (List.mem_of_getElem? (i := 5) rfl) (v := .ref (tr 1)) rfl dX4_ifOrdered_50 53 rfl ?_
    refine z_iconst C (v := nI 5) rfl dX4_ifOrdered_53 54 rfl ?_
    refine z_iald C (f := st) 3 1 rfl rfl (by omega) (by decide) dX4_ifOrdered_54 55 rfl ?_
    refine z_callV C [.ref (tr 0), .int (nI (st 5))] [] (tX3_print K.l K.g q a0 a1 a2 a3 a4 a5 a6 a7 s0 s1 s2 s3 s4 s5 s6 s7 s8 s9 tr st (arR r (plc (r (foR m)) n) n) n (st 5) hS (okJ_oR hJ) hn (okR_oR hR) (by have := hS.2.2.2.2.2.2.2.1; omega)) gX4_ifOrdered_X3_print rfl rfl rfl hdX3_print ⟨Nat.le_of_ble_eq_true rfl, Nat.le_of_ble_eq_true rfl⟩ ⟨Nat.zero_le _, Nat.zero_le _⟩ 1 0 rfl rfl rfl [1, 3] rfl rfl (zlc (N := 4) rfl rfl) [0, 4, 2, 5] rfl (by decide) (fun u : (Nat → Nat) × (Nat → Nat) × (Nat → Nat) × (Nat → Nat) × (Nat → Nat) × (Nat → Nat) × (Nat → Nat) × (Nat → Nat) × (Nat) × (Nat) × (Nat) × (Nat) × (Nat) × (Nat) × (Nat) × (Nat) × (Nat) => match u with | (c0, c1, c2, c3, c4, c5, c6, c7, d1, d2, d3, d4, d5, d6, d7, d8, d9) => [wX K.g x bd tr q p h sb sv, wP K.g q c0 c1 c2 c3 c4 c5 c6 c7 n d1 d2 d3 d4 d5 d6 d7 d8 d9, wB K.g bd st r n, wB K.g tr st (arR r (plc (r (foR m)) n) n) n]) (fun _ => rfl) rfl rfl (Nat.le_of_ble_eq_true rfl) dX4_ifOrdered_55 58 rfl (fun u9 hu9 => ?_)
    obtain ⟨c0, c1, c2, c3, c4, c5, c6, c7, d1, d2, d3, d4, d5, d6, d7, d8, d9⟩ := u9
    have hp := hu9
    have hp : PI st (arR r (plc (r (foR m)) n) n) (st 5) n c0 c1 c2 c3 c4 c5 c6 c7 d1 d2 d3 d4 d5 d6 d7 d8 d9 := hp
    show Z K 0 0 [wX K.g x bd tr q p h sb sv, wP K.g q c0 c1 c2 c3 c4 c5 c6 c7 n d1 d2 d3 d4 d5 d6 d7 d8 d9, wB K.g bd st r n, wB K.g tr st (arR r (plc (r (foR m)) n) n) n] [(0, .ref (x 0)), (1, .int (nI m)), (2, .int (nI 3))] 58 []
    have hq := PI_all hp
    refine z_iload_n C 2 rfl rfl dX4_ifOrdered_58 59 rfl ?_
    refine z_tabO C 115 dX4_ifOrdered_59 (by decide) (by decide) ?_
    refine z_aload_n C 0 rfl rfl dX4_ifOrdered_115 116 rfl ?_
    refine z_get C zc4 iX4_ifOrdered_X4 0 0 rfl rfl 2 (Nat.le_of_ble_eq_true rfl) (List.mem_of_getElem? (i := 4) rfl) (v := .ref (q 0)) rfl dX4_ifOrdered_116 119 rfl ?_
    refine z_get C zc3 iX4_ifOrdered_X3 1 0 rfl rfl 13 (Nat.le_of_ble_eq_true rfl) (List.mem_of_getElem? (i := 9) rfl) (v := .int (nI d5)) rfl dX4_ifOrdered_119 122 rfl ?_
    exact z_iret C hRx dX4_ifOrdered_122 (c0, c1, c2, c3, c4, c5, c6, c7, d1, d2, d3, d4, d5, d6, d7, d8, d9) (congrArg (fun z => some (Value.int (nI z))) hq.2.2.2.2.2.2.1.symm) trivial rfl

theorem iX4_wipe_X2 : ∀ w ∈ u_ws RX2 TX2 8, w ∈ wsX4_wipe := fun w h => (List.mem_cons_of_mem _ (List.mem_append_right _ h))
theorem iX4_wipe_X4 : ∀ w ∈ u_ws RX4 TX4 7, w ∈ wsX4_wipe := fun w h => (List.mem_cons_of_mem _ (List.mem_append_left _ (List.mem_append_right _ h)))
set_option maxHeartbeats 4000000 in
set_option maxRecDepth 100000 in
theorem tX4_wipe (l : Launch) (g : zG) (x bd tr q p h : Nat → Nat) (sb : Nat → Nat → Nat) (sv : Nat → Bool) (fb tx : Nat → Nat) (len ex : Nat) (pl sh hu du : Int32) : Met l yX4_wipe wsX4_wipe ({ frames := 0, cells := 0, slots := 0, locals := 0 } : Room) (zPre g [.ref (x 0)] [wX g x bd tr q p h sb sv, wPd g p fb tx len ex pl sh hu du]) (zQ g (fun _ : Unit => some (.int (nI len)) ) (fun _ : Unit => True) (fun _ : Unit => [wX g x bd tr q p h sb sv, wPd g p fb tx 0 ex pl sh hu du]) (zA [wX g x bd tr q p h sb sv, wPd g p fb tx len ex pl sh hu du])) 0 0 (zA [wX g x bd tr q p h sb sv, wPd g p fb tx len ex pl sh hu du]) := by
  refine z_entry (cc := cX4_wipe) (maxL := 2) (ret := (some .int)) (own := RX4) (by decide) rfl rfl (Nat.le_of_ble_eq_true rfl) [(0, .ref (x 0))] rfl ?_
  intro K hKl hKg hnL C hRx
  subst hKl
  subst hKg
  refine z_aload_n C 0 rfl rfl dX4_wipe_0 1 rfl ?_
  refine z_get C zc4 iX4_wipe_X4 0 0 rfl rfl 3 (Nat.le_of_ble_eq_true rfl) (List.mem_of_getElem? (i := 1) rfl) (v := .ref (p 0)) rfl dX4_wipe_1 4 rfl ?_
  refine z_get C zc2 iX4_wipe_X2 1 0 rfl rfl 1 (Nat.le_of_ble_eq_true rfl) (List.mem_of_getElem? (i := 2) rfl) (v := .int (nI len)) rfl dX4_wipe_4 7 rfl ?_
  refine z_istore_n C hnL [1, 0] [(0, .ref (x 0)), (1, .int (nI len))] rfl rfl (Nat.le_of_ble_eq_true rfl) dX4_wipe_7 8 rfl ?_
  refine z_aload_n C 0 rfl rfl dX4_wipe_8 9 rfl ?_
  refine z_get C zc4 iX4_wipe_X4 0 0 rfl rfl 3 (Nat.le_of_ble_eq_true rfl) (List.mem_of_getElem? (i := 1) rfl) (v := .ref (p 0)) rfl dX4_wipe_9 12 rfl ?_
  refine z_iconst C (v := nI 0) rfl dX4_wipe_12 13 rfl ?_
  refine z_put C zc2 iX4_wipe_X2 1 0 rfl rfl 1 (Nat.le_of_ble_eq_true rfl) (List.mem_of_getElem? (i := 2) rfl) rfl rfl rfl (Nat.le_of_ble_eq_true rfl) (wPd K.g p fb tx 0 ex pl sh hu du) rfl [wX K.g x bd tr q p h sb sv, wPd K.g p fb tx 0 ex pl sh hu du] rfl dX4_wipe_13 16 rfl ?_
  refine z_iload_n C 1 rfl rfl dX4_wipe_16 17 rfl ?_
  exact z_iret C hRx dX4_wipe_17 () rfl trivial rfl

theorem iX4_fault_X4 : ∀ w ∈ u_ws RX4 TX4 7, w ∈ wsX4_fault := fun w h => (List.mem_cons_of_mem _ (List.mem_append_left _ (List.mem_append_left _ (List.mem_append_right _ h))))
set_option maxHeartbeats 4000000 in
set_option maxRecDepth 100000 in
theorem tX4_fault (l : Launch) (g : zG) (x bd tr q p h : Nat → Nat) (sb : Nat → Nat → Nat) (sv : Nat → Bool) (fb tx : Nat → Nat) (len ex : Nat) (pl sh hu du : Int32) (fs : Nat → Nat) (fr : Nat → Nat → Nat) (fn : Nat) (hl : len ≤ 60) (ht : ∀ i, i < len → tx i ≤ 126) : Met l yX4_fault wsX4_fault ({ frames := 6, cells := 0, slots := 0, locals := 131 } : Room) (zPre g [.ref (x 0)] [wX g x bd tr q p h sb sv, wPd g p fb tx len ex pl sh hu du, wB g fb fs fr fn]) (zQ g (fun u : (Int32) × (Nat) × (Int32) × (Int32) × (Int32) × (Int32) × (Nat) × (Nat → Nat → Nat) => match u with | (v, ex2, P2, S2, H2, D2, n2, r2) => some (.int v) ) (fun u : (Int32) × (Nat) × (Int32) × (Int32) × (Int32) × (Int32) × (Nat) × (Nat → Nat → Nat) => match u with | (v, ex2, P2, S2, H2, D2, n2, r2) => (PAR tx fr len v n2 r2)) (fun u : (Int32) × (Nat) × (Int32) × (Int32) × (Int32) × (Int32) × (Nat) × (Nat → Nat → Nat) => match u with | (v, ex2, P2, S2, H2, D2, n2, r2) => [wX g x bd tr q p h sb sv, wPd g p fb tx len ex2 P2 S2 H2 D2, wB g fb fs r2 n2]) (zA [wX g x bd tr q p h sb sv, wPd g p fb tx len ex pl sh hu du, wB g fb fs fr fn])) 0 0 (zA [wX g x bd tr q p h sb sv, wPd g p fb tx len ex pl sh hu du, wB g fb fs fr fn]) := by
  refine z_entry (cc := cX4_fault) (maxL := 1) (ret := (some .int)) (own := RX4) (by decide) rfl rfl (Nat.le_of_ble_eq_true rfl) [(0, .ref (x 0))] rfl ?_
  intro K hKl hKg hnL C hRx
  subst hKl
  subst hKg
  refine z_aload_n C 0 rfl rfl dX4_fault_0 1 rfl ?_
  refine z_get C zc4 iX4_fault_X4 0 0 rfl rfl 3 (Nat.le_of_ble_eq_true rfl) (List.mem_of_getElem? (i := 1) rfl) (v := .ref (p 0)) rfl dX4_fault_1 4 rfl ?_
  refine z_callV C [] [] (tX2_parse K.l K.g p fb tx len ex pl sh hu du fs fr fn (by first | omega | assumption) (by first | omega | assumption)) gX4_fault_X2_parse rfl rfl rfl hdX2_parse ⟨Nat.le_of_ble_eq_true rfl, Nat.le_of_ble_eq_true rfl⟩ ⟨Nat.zero_le _, Nat.zero_le _⟩ 1 0 rfl rfl rfl [1, 2] rfl rfl (zlc (N := 3) rfl rfl) [0, 3, 4] rfl (by decide) (fun u : (Int32) × (Nat) × (Int32) × (Int32) × (Int32) × (Int32) × (Nat) × (Nat → Nat → Nat) => match u with | (v, ex2, P2, S2, H2, D2, n2, r2) => [wX K.g x bd tr q p h sb sv, wPd K.g p fb tx len ex2 P2 S2 H2 D2, wB K.g fb fs r2 n2]) (fun _ => rfl) rfl rfl (Nat.le_of_ble_eq_true rfl) dX4_fault_4 7 rfl (fun u9 hu9 => ?_)
  obtain ⟨v, ex2, P2, S2, H2, D2, n2, r2⟩ := u9
  have hp := hu9
  have hp : PAR tx fr len v n2 r2 := hp
  show Z K 0 0 [wX K.g x bd tr q p h sb sv, wPd K.g p fb tx len ex2 P2 S2 H2 D2, wB K.g fb fs r2 n2] [(0, .ref (x 0))] 7 [.int v]
  exact z_iret C hRx dX4_fault_7 (v, ex2, P2, S2, H2, D2, n2, r2) rfl hp rfl

theorem iX4_undo_X1 : ∀ w ∈ u_ws RX1 TX1 3, w ∈ wsX4_undo := fun w h => (List.mem_cons_of_mem _ (List.mem_append_left _ (List.mem_append_right _ h)))
theorem iX4_undo_X4 : ∀ w ∈ u_ws RX4 TX4 7, w ∈ wsX4_undo := fun w h => (List.mem_cons_of_mem _ (List.mem_append_left _ (List.mem_append_left _ (List.mem_append_right _ h))))
set_option maxHeartbeats 4000000 in
set_option maxRecDepth 100000 in
theorem tX4_undo_np (l : Launch) (g : zG) (x bd tr q p h : Nat → Nat) (sb : Nat → Nat → Nat) (sv : Nat → Bool) (ho : Nat → Nat → Nat) (kp nx : Nat) (hk : kp = 0) : Met l yX4_undo wsX4_undo ({ frames := 3, cells := 0, slots := 0, locals := 103 } : Room) (zPre g [.ref (x 0)] [wX g x bd tr q p h sb sv, wH g h ho kp nx]) (zQ g (fun _ : Unit => some (.int (-5)) ) (fun _ : Unit => True) (fun _ : Unit => [wX g x bd tr q p h sb sv, wH g h ho kp nx]) (zA [wX g x bd tr q p h sb sv, wH g h ho kp nx])) 0 0 (zA [wX g x bd tr q p h sb sv, wH g h ho kp nx]) := by
  refine z_entry (cc := cX4_undo) (maxL := 1) (ret := (some .int)) (own := RX4) (by decide) rfl rfl (Nat.le_of_ble_eq_true rfl) [(0, .ref (x 0))] rfl ?_
  intro K hKl hKg hnL C hRx
  subst hKl
  subst hKg
  refine z_aload_n C 0 rfl rfl dX4_undo_0 1 rfl ?_
  refine z_get C zc4 iX4_undo_X4 0 0 rfl rfl 4 (Nat.le_of_ble_eq_true rfl) (List.mem_of_getElem? (i := 1) rfl) (v := .ref (h 0)) rfl dX4_undo_1 4 rfl ?_
  refine z_get C zc1 iX4_undo_X1 1 0 rfl rfl 0 (Nat.le_of_ble_eq_true rfl) (List.mem_of_getElem? (i := 2) rfl) (v := .int (nI kp)) rfl dX4_undo_4 7 rfl ?_
  refine z_if_ne C (by omega) 13 dX4_undo_7 (by decide) 10 rfl (fun c_1 => ?_) (fun c_1 => ?_)
  · exfalso; omega
  refine z_bipush C (v := (-5)) rfl dX4_undo_10 12 rfl ?_
  exact z_iret C hRx dX4_undo_12 () rfl trivial rfl

set_option maxHeartbeats 4000000 in
set_option maxRecDepth 100000 in
theorem tX4_undo_ok (l : Launch) (g : zG) (x bd tr q p h : Nat → Nat) (sb : Nat → Nat → Nat) (sv : Nat → Bool) (st : Nat → Nat) (r : Nat → Nat → Nat) (n : Nat) (ho hs : Nat → Nat → Nat) (hr : Nat → Nat → Nat → Nat) (hm : Nat → Nat) (kp nx : Nat) (hk : kp ≤ 6) (hx : nx < 6) (hk0 : 0 < kp) : Met l yX4_undo wsX4_undo ({ frames := 3, cells := 0, slots := 0, locals := 103 } : Room) (zPre g [.ref (x 0)] [wX g x bd tr q p h sb sv, wB g bd st r n, wH g h ho kp nx, wB g (ho 0) (hs 0) (hr 0) (hm 0), wB g (ho 1) (hs 1) (hr 1) (hm 1), wB g (ho 2) (hs 2) (hr 2) (hm 2), wB g (ho 3) (hs 3) (hr 3) (hm 3), wB g (ho 4) (hs 4) (hr 4) (hm 4), wB g (ho 5) (hs 5) (hr 5) (hm 5)]) (zQ g (fun _ : Unit => some (.int (nI (kp - 1))) ) (fun _ : Unit => True) (fun _ : Unit => [wX g x bd tr q p h sb sv, wB g bd (hs (bkx nx)) (hr (bkx nx)) (hm (bkx nx)), wH g h ho (kp - 1) (bkx nx), wB g (ho 0) (hs 0) (hr 0) (hm 0), wB g (ho 1) (hs 1) (hr 1) (hm 1), wB g (ho 2) (hs 2) (hr 2) (hm 2), wB g (ho 3) (hs 3) (hr 3) (hm 3), wB g (ho 4) (hs 4) (hr 4) (hm 4), wB g (ho 5) (hs 5) (hr 5) (hm 5)]) (zA [wX g x bd tr q p h sb sv, wB g bd st r n, wH g h ho kp nx, wB g (ho 0) (hs 0) (hr 0) (hm 0), wB g (ho 1) (hs 1) (hr 1) (hm 1), wB g (ho 2) (hs 2) (hr 2) (hm 2), wB g (ho 3) (hs 3) (hr 3) (hm 3), wB g (ho 4) (hs 4) (hr 4) (hm 4), wB g (ho 5) (hs 5) (hr 5) (hm 5)])) 0 0 (zA [wX g x bd tr q p h sb sv, wB g bd st r n, wH g h ho kp nx, wB g (ho 0) (hs 0) (hr 0) (hm 0), wB g (ho 1) (hs 1) (hr 1) (hm 1), wB g (ho 2) (hs 2) (hr 2) (hm 2), wB g (ho 3) (hs 3) (hr 3) (hm 3), wB g (ho 4) (hs 4) (hr 4) (hm 4), wB g (ho 5) (hs 5) (hr 5) (hm 5)]) := by
  refine z_entry (cc := cX4_undo) (maxL := 1) (ret := (some .int)) (own := RX4) (by decide) rfl rfl (Nat.le_of_ble_eq_true rfl) [(0, .ref (x 0))] rfl ?_
  intro K hKl hKg hnL C hRx
  subst hKl
  subst hKg
  refine z_aload_n C 0 rfl rfl dX4_undo_0 1 rfl ?_
  refine z_get C zc4 iX4_undo_X4 0 0 rfl rfl 4 (Nat.le_of_ble_eq_true rfl) (List.mem_of_getElem? (i := 1) rfl) (v := .ref (h 0)) rfl dX4_undo_1 4 rfl ?_
  refine z_get C zc1 iX4_undo_X1 2 0 rfl rfl 0 (Nat.le_of_ble_eq_true rfl) (List.mem_of_getElem? (i := 2) rfl) (v := .int (nI kp)) rfl dX4_undo_4 7 rfl ?_
  refine z_if_ne C (by omega) 13 dX4_undo_7 (by decide) 10 rfl (fun c_1 => ?_) (fun c_1 => ?_)
  rotate_left
  · exfalso; omega
  refine z_aload_n C 0 rfl rfl dX4_undo_13 14 rfl ?_
  refine z_get C zc4 iX4_undo_X4 0 0 rfl rfl 4 (Nat.le_of_ble_eq_true rfl) (List.mem_of_getElem? (i := 1) rfl) (v := .ref (h 0)) rfl dX4_undo_14 17 rfl ?_
  refine z_aload_n C 0 rfl rfl dX4_undo_17 18 rfl ?_
  refine z_get C zc4 iX4_undo_X4 0 0 rfl rfl 0 (Nat.le_of_ble_eq_true rfl) (List.mem_of_getElem? (i := 3) rfl) (v := .ref (bd 0)) rfl dX4_undo_18 21 rfl ?_
  refine z_callV C [.ref (bd 0)] [] (tX1_takeBack K.l K.g h ho hs hr hm kp nx bd st r n (by first | omega | assumption) (by first | omega | assumption) (by first | omega | assumption)) gX4_undo_X1_takeBack rfl rfl rfl hdX1_takeBack ⟨Nat.le_of_ble_eq_true rfl, Nat.le_of_ble_eq_true rfl⟩ ⟨Nat.zero_le _, Nat.zero_le _⟩ 2 0 rfl rfl rfl [2, 3, 4, 5, 6, 7, 8, 1] rfl rfl (zlc (N := 9) rfl rfl) [0, 16, 9, 10, 11, 12, 13, 14, 15] rfl (by decide) (fun _ : Unit => [wX K.g x bd tr q p h sb sv, wB K.g bd (hs (bkx nx)) (hr (bkx nx)) (hm (bkx nx)), wH K.g h ho (kp - 1) (bkx nx), wB K.g (ho 0) (hs 0) (hr 0) (hm 0), wB K.g (ho 1) (hs 1) (hr 1) (hm 1), wB K.g (ho 2) (hs 2) (hr 2) (hm 2), wB K.g (ho 3) (hs 3) (hr 3) (hm 3), wB K.g (ho 4) (hs 4) (hr 4) (hm 4), wB K.g (ho 5) (hs 5) (hr 5) (hm 5)]) (fun _ => rfl) rfl rfl (Nat.le_of_ble_eq_true rfl) dX4_undo_21 24 rfl (fun u9 hu9 => ?_)
  show Z K 0 0 [wX K.g x bd tr q p h sb sv, wB K.g bd (hs (bkx nx)) (hr (bkx nx)) (hm (bkx nx)), wH K.g h ho (kp - 1) (bkx nx), wB K.g (ho 0) (hs 0) (hr 0) (hm 0), wB K.g (ho 1) (hs 1) (hr 1) (hm 1), wB K.g (ho 2) (hs 2) (hr 2) (hm 2), wB K.g (ho 3) (hs 3) (hr 3) (hm 3), wB K.g (ho 4) (hs 4) (hr 4) (hm 4), wB K.g (ho 5) (hs 5) (hr 5) (hm 5)] [(0, .ref (x 0))] 24 []
  refine z_aload_n C 0 rfl rfl dX4_undo_24 25 rfl ?_
  refine z_get C zc4 iX4_undo_X4 0 0 rfl rfl 4 (Nat.le_of_ble_eq_true rfl) (List.mem_of_getElem? (i := 1) rfl) (v := .ref (h 0)) rfl dX4_undo_25 28 rfl ?_
  refine z_get C zc1 iX4_undo_X1 2 0 rfl rfl 0 (Nat.le_of_ble_eq_true rfl) (List.mem_of_getElem? (i := 2) rfl) (v := .int (nI (kp - 1))) rfl dX4_undo_28 31 rfl ?_
  exact z_iret C hRx dX4_undo_31 () rfl trivial rfl

set_option maxHeartbeats 4000000 in
set_option maxRecDepth 100000 in
theorem tX4_save_bv (l : Launch) (g : zG) (x bd tr q p h : Nat → Nat) (sb : Nat → Nat → Nat) (sv : Nat → Bool) (w : Int32) (hb : rg w.toInt (Int.ofNat 0) (Int.ofNat 1) = false) : Met l yX4_save wsX4_save ({ frames := 2, cells := 0, slots := 0, locals := 82 } : Room) (zPre g [.ref (x 0), .int w] [wX g x bd tr q p h sb sv]) (zQ g (fun _ : Unit => some (.int (-2)) ) (fun _ : Unit => True) (fun _ : Unit => [wX g x bd tr q p h sb sv]) (zA [wX g x bd tr q p h sb sv])) 0 0 (zA [wX g x bd tr q p h sb sv]) := by
  refine z_entry (cc := cX4_save) (maxL := 2) (ret := (some .int)) (own := RX4) (by decide) rfl rfl (Nat.le_of_ble_eq_true rfl) [(0, .ref (x 0)), (1, .int w)] rfl ?_
  intro K hKl hKg hnL C hRx
  subst hKl
  subst hKg
  refine z_iload_n C 1 rfl rfl dX4_save_0 1 rfl ?_
  refine z_iconst C (v := nI 0) rfl dX4_save_1 2 rfl ?_
  refine z_iconst C (v := nI 1) rfl dX4_save_2 3 rfl ?_
  refine z_callP C [.int w, .int (nI 0), .int (nI 1)] [] (tX4_withinN K.l K.g w 0 1 (by first | omega | assumption) (by first | omega | assumption)) gX4_save_X4_within rfl rfl rfl hdX4_within ⟨Nat.le_of_ble_eq_true rfl, Nat.le_of_ble_eq_true rfl⟩ ⟨Nat.zero_le _, Nat.zero_le _⟩ rfl rfl (Nat.le_of_ble_eq_true rfl) dX4_save_3 6 rfl (fun u9 hu9 => ?_)
  show Z K 0 0 [wX K.g x bd tr q p h sb sv] [(0, .ref (x 0)), (1, .int w)] 6 [.int (bI (rg w.toInt (Int.ofNat 0) (Int.ofNat 1)))]
  refine z_ifb_ne C 12 dX4_save_6 (by decide) 9 rfl (fun c_1 => ?_) (fun c_1 => ?_)
  · exfalso; rw [hb] at c_1; exact Bool.noConfusion c_1
  refine z_bipush C (v := (-2)) rfl dX4_save_9 11 rfl ?_
  exact z_iret C hRx dX4_save_11 () rfl trivial rfl

theorem iX4_save_X0 : ∀ w ∈ u_ws RX0 TX0 3, w ∈ wsX4_save := fun w h => (List.mem_cons_of_mem _ (List.mem_append_right _ h))
theorem iX4_save_X4 : ∀ w ∈ u_ws RX4 TX4 7, w ∈ wsX4_save := fun w h => (List.mem_cons_of_mem _ (List.mem_append_left _ (List.mem_append_right _ h)))
set_option maxHeartbeats 4000000 in
set_option maxRecDepth 100000 in
theorem tX4_save_ok (l : Launch) (g : zG) (x bd tr q p h : Nat → Nat) (sb : Nat → Nat → Nat) (sv : Nat → Bool) (st : Nat → Nat) (r : Nat → Nat → Nat) (n : Nat) (ss : Nat → Nat → Nat) (sr : Nat → Nat → Nat → Nat) (sn : Nat → Nat) (k : Nat) (hk : k ≤ 1) : Met l yX4_save wsX4_save ({ frames := 2, cells := 0, slots := 0, locals := 82 } : Room) (zPre g [.ref (x 0), .int (nI k)] [wX g x bd tr q p h sb sv, wB g bd st r n, wB g (sb 0) (ss 0) (sr 0) (sn 0), wB g (sb 1) (ss 1) (sr 1) (sn 1)]) (zQ g (fun _ : Unit => some (.int (nI n)) ) (fun _ : Unit => True) (fun _ : Unit => [wX g x bd tr q p h sb (un sv k true), wB g bd st r n, wB g (sb 0) ((un ss k st) 0) ((un sr k r) 0) ((un sn k n) 0), wB g (sb 1) ((un ss k st) 1) ((un sr k r) 1) ((un sn k n) 1)]) (zA [wX g x bd tr q p h sb sv, wB g bd st r n, wB g (sb 0) (ss 0) (sr 0) (sn 0), wB g (sb 1) (ss 1) (sr 1) (sn 1)])) 0 0 (zA [wX g x bd tr q p h sb sv, wB g bd st r n, wB g (sb 0) (ss 0) (sr 0) (sn 0), wB g (sb 1) (ss 1) (sr 1) (sn 1)]) := by
  refine z_entry (cc := cX4_save) (maxL := 2) (ret := (some .int)) (own := RX4) (by decide) rfl rfl (Nat.le_of_ble_eq_true rfl) [(0, .ref (x 0)), (1, .int (nI k))] rfl ?_
  intro K hKl hKg hnL C hRx
  subst hKl
  subst hKg
  rcases (show k = 0 ∨ k = 1 by omega) with rfl | rfl
  · skip
    refine z_iload_n C 1 rfl rfl dX4_save_0 1 rfl ?_
    refine z_iconst C (v := nI 0) rfl dX4_save_1 2 rfl ?_
    refine z_iconst C (v := nI 1) rfl dX4_save_2 3 rfl ?_
    refine z_callP C [.int (nI 0), .int (nI 0), .int (nI 1)] [] (tX4_withinN K.l K.g (nI 0) 0 1 (by first | omega | assumption) (by first | omega | assumption)) gX4_save_X4_within rfl rfl rfl hdX4_within ⟨Nat.le_of_ble_eq_true rfl, Nat.le_of_ble_eq_true rfl⟩ ⟨Nat.zero_le _, Nat.zero_le _⟩ rfl rfl (Nat.le_of_ble_eq_true rfl) dX4_save_3 6 rfl (fun u9 hu9 => ?_)
    show Z K 0 0 [wX K.g x bd tr q p h sb sv, wB K.g bd st r n, wB K.g (sb 0) (ss 0) (sr 0) (sn 0), wB K.g (sb 1) (ss 1) (sr 1) (sn 1)] [(0, .ref (x 0)), (1, .int (nI 0))] 6 [.int (bI (rg (nI 0).toInt (Int.ofNat 0) (Int.ofNat 1)))]
    refine z_ifb_ne C 12 dX4_save_6 (by decide) 9 rfl (fun c_1 => ?_) (fun c_1 => ?_)
    rotate_left
    · exfalso; rw [rgN_t (by omega) (by omega) (by omega)] at c_1; exact Bool.noConfusion c_1
    refine z_aload_n C 0 rfl rfl dX4_save_12 13 rfl ?_
    refine z_get C zc4 iX4_save_X4 0 0 rfl rfl 5 (Nat.le_of_ble_eq_true rfl) (List.mem_of_getElem? (i := 1) rfl) (v := .ref (x 1)) rfl dX4_save_13 16 rfl ?_
    refine z_iload_n C 1 rfl rfl dX4_save_16 17 rfl ?_
    refine z_aald C (y := ((sb 0) 0)) 0 1 2 rfl rfl rfl rfl (by omega) (by decide) rfl dX4_save_17 18 rfl ?_
    refine z_aload_n C 0 rfl rfl dX4_save_18 19 rfl ?_
    refine z_get C zc4 iX4_save_X4 0 0 rfl rfl 0 (Nat.le_of_ble_eq_true rfl) (List.mem_of_getElem? (i := 2) rfl) (v := .ref (bd 0)) rfl dX4_save_19 22 rfl ?_
    refine z_callV C [.ref (bd 0)] [] (tX0_copyFrom K.l K.g (sb 0) (ss 0) (sr 0) (sn 0) bd st r n ) gX4_save_X0_copyFrom rfl rfl rfl hdX0_copyFrom ⟨Nat.le_of_ble_eq_true rfl, Nat.le_of_ble_eq_true rfl⟩ ⟨Nat.zero_le _, Nat.zero_le _⟩ 2 0 rfl rfl rfl [2, 1] rfl rfl (zlc (N := 4) rfl rfl) [0, 5, 4, 3] rfl (by decide) (fun _ : Unit => [wX K.g x bd tr q p h sb sv, wB K.g bd st r n, wB K.g (sb 0) st r n, wB K.g (sb 1) (ss 1) (sr 1) (sn 1)]) (fun _ => rfl) rfl rfl (Nat.le_of_ble_eq_true rfl) dX4_save_22 25 rfl (fun u9 hu9 => ?_)
    show Z K 0 0 [wX K.g x bd tr q p h sb sv, wB K.g bd st r n, wB K.g (sb 0) st r n, wB K.g (sb 1) (ss 1) (sr 1) (sn 1)] [(0, .ref (x 0)), (1, .int (nI 0))] 25 []
    refine z_aload_n C 0 rfl rfl dX4_save_25 26 rfl ?_
    refine z_get C zc4 iX4_save_X4 0 0 rfl rfl 6 (Nat.le_of_ble_eq_true rfl) (List.mem_of_getElem? (i := 3) rfl) (v := .ref (x 2)) rfl dX4_save_26 29 rfl ?_
    refine z_iload_n C 1 rfl rfl dX4_save_29 30 rfl ?_
    refine z_iconst C (v := nI 1) rfl dX4_save_30 31 rfl ?_
    refine z_eq (st2 := [.int (bI true), .int (nI 0), .ref (x 2)]) ?_ rfl rfl rfl
    refine z_zast C (f := sv) 0 2 rfl rfl (by omega) (by decide) (wX K.g x bd tr q p h sb (un sv 0 true)) rfl [wX K.g x bd tr q p h sb (un sv 0 true), wB K.g bd st r n, wB K.g (sb 0) st r n, wB K.g (sb 1) (ss 1) (sr 1) (sn 1)] rfl dX4_save_31 32 rfl ?_
    refine z_aload_n C 0 rfl rfl dX4_save_32 33 rfl ?_
    refine z_get C zc4 iX4_save_X4 0 0 rfl rfl 0 (Nat.le_of_ble_eq_true rfl) (List.mem_of_getElem? (i := 2) rfl) (v := .ref (bd 0)) rfl dX4_save_33 36 rfl ?_
    refine z_get C zc0 iX4_save_X0 1 0 rfl rfl 2 (Nat.le_of_ble_eq_true rfl) (List.mem_of_getElem? (i := 4) rfl) (v := .int (nI n)) rfl dX4_save_36 39 rfl ?_
    exact z_iret C hRx dX4_save_39 () rfl trivial rfl
  · skip
    refine z_iload_n C 1 rfl rfl dX4_save_0 1 rfl ?_
    refine z_iconst C (v := nI 0) rfl dX4_save_1 2 rfl ?_
    refine z_iconst C (v := nI 1) rfl dX4_save_2 3 rfl ?_
    refine z_callP C [.int (nI 1), .int (nI 0), .int (nI 1)] [] (tX4_withinN K.l K.g (nI 1) 0 1 (by first | omega | assumption) (by first | omega | assumption)) gX4_save_X4_within rfl rfl rfl hdX4_within ⟨Nat.le_of_ble_eq_true rfl, Nat.le_of_ble_eq_true rfl⟩ ⟨Nat.zero_le _, Nat.zero_le _⟩ rfl rfl (Nat.le_of_ble_eq_true rfl) dX4_save_3 6 rfl (fun u9 hu9 => ?_)
    show Z K 0 0 [wX K.g x bd tr q p h sb sv, wB K.g bd st r n, wB K.g (sb 0) (ss 0) (sr 0) (sn 0), wB K.g (sb 1) (ss 1) (sr 1) (sn 1)] [(0, .ref (x 0)), (1, .int (nI 1))] 6 [.int (bI (rg (nI 1).toInt (Int.ofNat 0) (Int.ofNat 1)))]
    refine z_ifb_ne C 12 dX4_save_6 (by decide) 9 rfl (fun c_2 => ?_) (fun c_2 => ?_)
    rotate_left
    · exfalso; rw [rgN_t (by omega) (by omega) (by omega)] at c_2; exact Bool.noConfusion c_2
    refine z_aload_n C 0 rfl rfl dX4_save_12 13 rfl ?_
    refine z_get C zc4 iX4_save_X4 0 0 rfl rfl 5 (Nat.le_of_ble_eq_true rfl) (List.mem_of_getElem? (i := 1) rfl) (v := .ref (x 1)) rfl dX4_save_13 16 rfl ?_
    refine z_iload_n C 1 rfl rfl dX4_save_16 17 rfl ?_
    refine z_aald C (y := ((sb 1) 0)) 0 1 2 rfl rfl rfl rfl (by omega) (by decide) rfl dX4_save_17 18 rfl ?_
    refine z_aload_n C 0 rfl rfl dX4_save_18 19 rfl ?_
    refine z_get C zc4 iX4_save_X4 0 0 rfl rfl 0 (Nat.le_of_ble_eq_true rfl) (List.mem_of_getElem? (i := 2) rfl) (v := .ref (bd 0)) rfl dX4_save_19 22 rfl ?_
    refine z_callV C [.ref (bd 0)] [] (tX0_copyFrom K.l K.g (sb 1) (ss 1) (sr 1) (sn 1) bd st r n ) gX4_save_X0_copyFrom rfl rfl rfl hdX0_copyFrom ⟨Nat.le_of_ble_eq_true rfl, Nat.le_of_ble_eq_true rfl⟩ ⟨Nat.zero_le _, Nat.zero_le _⟩ 3 0 rfl rfl rfl [3, 1] rfl rfl (zlc (N := 4) rfl rfl) [0, 5, 2, 4] rfl (by decide) (fun _ : Unit => [wX K.g x bd tr q p h sb sv, wB K.g bd st r n, wB K.g (sb 0) (ss 0) (sr 0) (sn 0), wB K.g (sb 1) st r n]) (fun _ => rfl) rfl rfl (Nat.le_of_ble_eq_true rfl) dX4_save_22 25 rfl (fun u9 hu9 => ?_)
    show Z K 0 0 [wX K.g x bd tr q p h sb sv, wB K.g bd st r n, wB K.g (sb 0) (ss 0) (sr 0) (sn 0), wB K.g (sb 1) st r n] [(0, .ref (x 0)), (1, .int (nI 1))] 25 []
    refine z_aload_n C 0 rfl rfl dX4_save_25 26 rfl ?_
    refine z_get C zc4 iX4_save_X4 0 0 rfl rfl 6 (Nat.le_of_ble_eq_true rfl) (List.mem_of_getElem? (i := 3) rfl) (v := .ref (x 2)) rfl dX4_save_26 29 rfl ?_
    refine z_iload_n C 1 rfl rfl dX4_save_29 30 rfl ?_
    refine z_iconst C (v := nI 1) rfl dX4_save_30 31 rfl ?_
    refine z_eq (st2 := [.int (bI true), .int (nI 1), .ref (x 2)]) ?_ rfl rfl rfl
    refine z_zast C (f := sv) 0 2 rfl rfl (by omega) (by decide) (wX K.g x bd tr q p h sb (un sv 1 true)) rfl [wX K.g x bd tr q p h sb (un sv 1 true), wB K.g bd st r n, wB K.g (sb 0) (ss 0) (sr 0) (sn 0), wB K.g (sb 1) st r n] rfl dX4_save_31 32 rfl ?_
    refine z_aload_n C 0 rfl rfl dX4_save_32 33 rfl ?_
    refine z_get C zc4 iX4_save_X4 0 0 rfl rfl 0 (Nat.le_of_ble_eq_true rfl) (List.mem_of_getElem? (i := 2) rfl) (v := .ref (bd 0)) rfl dX4_save_33 36 rfl ?_
    refine z_get C zc0 iX4_save_X0 1 0 rfl rfl 2 (Nat.le_of_ble_eq_true rfl) (List.mem_of_getElem? (i := 4) rfl) (v := .int (nI n)) rfl dX4_save_36 39 rfl ?_
    exact z_iret C hRx dX4_save_39 () rfl trivial rfl

set_option maxHeartbeats 4000000 in
set_option maxRecDepth 100000 in
theorem tX4_restore_bv (l : Launch) (g : zG) (x bd tr q p h : Nat → Nat) (sb : Nat → Nat → Nat) (sv : Nat → Bool) (w : Int32) (hb : rg w.toInt (Int.ofNat 0) (Int.ofNat 1) = false) : Met l yX4_restore wsX4_restore ({ frames := 3, cells := 0, slots := 0, locals := 103 } : Room) (zPre g [.ref (x 0), .int w] [wX g x bd tr q p h sb sv]) (zQ g (fun _ : Unit => some (.int (-2)) ) (fun _ : Unit => True) (fun _ : Unit => [wX g x bd tr q p h sb sv]) (zA [wX g x bd tr q p h sb sv])) 0 0 (zA [wX g x bd tr q p h sb sv]) := by
  refine z_entry (cc := cX4_restore) (maxL := 2) (ret := (some .int)) (own := RX4) (by decide) rfl rfl (Nat.le_of_ble_eq_true rfl) [(0, .ref (x 0)), (1, .int w)] rfl ?_
  intro K hKl hKg hnL C hRx
  subst hKl
  subst hKg
  refine z_iload_n C 1 rfl rfl dX4_restore_0 1 rfl ?_
  refine z_iconst C (v := nI 0) rfl dX4_restore_1 2 rfl ?_
  refine z_iconst C (v := nI 1) rfl dX4_restore_2 3 rfl ?_
  refine z_callP C [.int w, .int (nI 0), .int (nI 1)] [] (tX4_withinN K.l K.g w 0 1 (by first | omega | assumption) (by first | omega | assumption)) gX4_restore_X4_within rfl rfl rfl hdX4_within ⟨Nat.le_of_ble_eq_true rfl, Nat.le_of_ble_eq_true rfl⟩ ⟨Nat.zero_le _, Nat.zero_le _⟩ rfl rfl (Nat.le_of_ble_eq_true rfl) dX4_restore_3 6 rfl (fun u9 hu9 => ?_)
  show Z K 0 0 [wX K.g x bd tr q p h sb sv] [(0, .ref (x 0)), (1, .int w)] 6 [.int (bI (rg w.toInt (Int.ofNat 0) (Int.ofNat 1)))]
  refine z_ifb_ne C 12 dX4_restore_6 (by decide) 9 rfl (fun c_1 => ?_) (fun c_1 => ?_)
  · exfalso; rw [hb] at c_1; exact Bool.noConfusion c_1
  refine z_bipush C (v := (-2)) rfl dX4_restore_9 11 rfl ?_
  exact z_iret C hRx dX4_restore_11 () rfl trivial rfl

theorem iX4_restore_X4 : ∀ w ∈ u_ws RX4 TX4 7, w ∈ wsX4_restore := fun w h => (List.mem_cons_of_mem _ (List.mem_append_left _ (List.mem_append_left _ (List.mem_append_right _ h))))
set_option maxHeartbeats 4000000 in
set_option maxRecDepth 100000 in
theorem tX4_restore_np (l : Launch) (g : zG) (x bd tr q p h : Nat → Nat) (sb : Nat → Nat → Nat) (sv : Nat → Bool) (k : Nat) (hk : k ≤ 1) (hb : sv k = false) : Met l yX4_restore wsX4_restore ({ frames := 3, cells := 0, slots := 0, locals := 103 } : Room) (zPre g [.ref (x 0), .int (nI k)] [wX g x bd tr q p h sb sv]) (zQ g (fun _ : Unit => some (.int (-5)) ) (fun _ : Unit => True) (fun _ : Unit => [wX g x bd tr q p h sb sv]) (zA [wX g x bd tr q p h sb sv])) 0 0 (zA [wX g x bd tr q p h sb sv]) := by
  refine z_entry (cc := cX4_restore) (maxL := 2) (ret := (some .int)) (own := RX4) (by decide) rfl rfl (Nat.le_of_ble_eq_true rfl) [(0, .ref (x 0)), (1, .int (nI k))] rfl ?_
  intro K hKl hKg hnL C hRx
  subst hKl
  subst hKg
  refine z_iload_n C 1 rfl rfl dX4_restore_0 1 rfl ?_
  refine z_iconst C (v := nI 0) rfl dX4_restore_1 2 rfl ?_
  refine z_iconst C (v := nI 1) rfl dX4_restore_2 3 rfl ?_
  refine z_callP C [.int (nI k), .int (nI 0), .int (nI 1)] [] (tX4_withinN K.l K.g (nI k) 0 1 (by first | omega | assumption) (by first | omega | assumption)) gX4_restore_X4_within rfl rfl rfl hdX4_within ⟨Nat.le_of_ble_eq_true rfl, Nat.le_of_ble_eq_true rfl⟩ ⟨Nat.zero_le _, Nat.zero_le _⟩ rfl rfl (Nat.le_of_ble_eq_true rfl) dX4_restore_3 6 rfl (fun u9 hu9 => ?_)
  show Z K 0 0 [wX K.g x bd tr q p h sb sv] [(0, .ref (x 0)), (1, .int (nI k))] 6 [.int (bI (rg (nI k).toInt (Int.ofNat 0) (Int.ofNat 1)))]
  refine z_ifb_ne C 12 dX4_restore_6 (by decide) 9 rfl (fun c_1 => ?_) (fun c_1 => ?_)
  rotate_left
  · exfalso; rw [rgN_t (by omega) (by omega) (by omega)] at c_1; exact Bool.noConfusion c_1
  refine z_aload_n C 0 rfl rfl dX4_restore_12 13 rfl ?_
  refine z_get C zc4 iX4_restore_X4 0 0 rfl rfl 6 (Nat.le_of_ble_eq_true rfl) (List.mem_of_getElem? (i := 1) rfl) (v := .ref (x 2)) rfl dX4_restore_13 16 rfl ?_
  refine z_iload_n C 1 rfl rfl dX4_restore_16 17 rfl ?_
  refine z_zald C (f := sv) 0 2 rfl rfl (by omega) (by decide) dX4_restore_17 18 rfl ?_
  refine z_ifb_ne C 24 dX4_restore_18 (by decide) 21 rfl (fun c_2 => ?_) (fun c_2 => ?_)
  · exfalso; rw [hb] at c_2; exact Bool.noConfusion c_2
  refine z_bipush C (v := (-5)) rfl dX4_restore_21 23 rfl ?_
  exact z_iret C hRx dX4_restore_23 () rfl trivial rfl

theorem iX4_restore_X0 : ∀ w ∈ u_ws RX0 TX0 3, w ∈ wsX4_restore := fun w h => (List.mem_cons_of_mem _ (List.mem_append_left _ (List.mem_append_right _ h)))
set_option maxHeartbeats 4000000 in
set_option maxRecDepth 100000 in
theorem tX4_restore_ok (l : Launch) (g : zG) (x bd tr q p h : Nat → Nat) (sb : Nat → Nat → Nat) (sv : Nat → Bool) (st : Nat → Nat) (r : Nat → Nat → Nat) (n : Nat) (ss : Nat → Nat → Nat) (sr : Nat → Nat → Nat → Nat) (sn : Nat → Nat) (ho hs : Nat → Nat → Nat) (hr : Nat → Nat → Nat → Nat) (hm : Nat → Nat) (kp nx : Nat) (k : Nat) (hk : kp ≤ 6) (hx : nx < 6) (hk1 : k ≤ 1) (hb : sv k = true) : Met l yX4_restore wsX4_restore ({ frames := 3, cells := 0, slots := 0, locals := 103 } : Room) (zPre g [.ref (x 0), .int (nI k)] [wX g x bd tr q p h sb sv, wB g bd st r n, wB g (sb 0) (ss 0) (sr 0) (sn 0), wB g (sb 1) (ss 1) (sr 1) (sn 1), wH g h ho kp nx, wB g (ho 0) (hs 0) (hr 0) (hm 0), wB g (ho 1) (hs 1) (hr 1) (hm 1), wB g (ho 2) (hs 2) (hr 2) (hm 2), wB g (ho 3) (hs 3) (hr 3) (hm 3), wB g (ho 4) (hs 4) (hr 4) (hm 4), wB g (ho 5) (hs 5) (hr 5) (hm 5)]) (zQ g (fun _ : Unit => some (.int (nI (sn k))) ) (fun _ : Unit => True) (fun _ : Unit => [wX g x bd tr q p h sb sv, wB g bd (ss k) (sr k) (sn k), wB g (sb 0) (ss 0) (sr 0) (sn 0), wB g (sb 1) (ss 1) (sr 1) (sn 1), wH g h ho (min (kp + 1) 6) (if nx = 5 then 0 else nx + 1), wB g (ho 0) ((un hs nx st) 0) ((un hr nx r) 0) ((un hm nx n) 0), wB g (ho 1) ((un hs nx st) 1) ((un hr nx r) 1) ((un hm nx n) 1), wB g (ho 2) ((un hs nx st) 2) ((un hr nx r) 2) ((un hm nx n) 2), wB g (ho 3) ((un hs nx st) 3) ((un hr nx r) 3) ((un hm nx n) 3), wB g (ho 4) ((un hs nx st) 4) ((un hr nx r) 4) ((un hm nx n) 4), wB g (ho 5) ((un hs nx st) 5) ((un hr nx r) 5) ((un hm nx n) 5)]) (zA [wX g x bd tr q p h sb sv, wB g bd st r n, wB g (sb 0) (ss 0) (sr 0) (sn 0), wB g (sb 1) (ss 1) (sr 1) (sn 1), wH g h ho kp nx, wB g (ho 0) (hs 0) (hr 0) (hm 0), wB g (ho 1) (hs 1) (hr 1) (hm 1), wB g (ho 2) (hs 2) (hr 2) (hm 2), wB g (ho 3) (hs 3) (hr 3) (hm 3), wB g (ho 4) (hs 4) (hr 4) (hm 4), wB g (ho 5) (hs 5) (hr 5) (hm 5)])) 0 0 (zA [wX g x bd tr q p h sb sv, wB g bd st r n, wB g (sb 0) (ss 0) (sr 0) (sn 0), wB g (sb 1) (ss 1) (sr 1) (sn 1), wH g h ho kp nx, wB g (ho 0) (hs 0) (hr 0) (hm 0), wB g (ho 1) (hs 1) (hr 1) (hm 1), wB g (ho 2) (hs 2) (hr 2) (hm 2), wB g (ho 3) (hs 3) (hr 3) (hm 3), wB g (ho 4) (hs 4) (hr 4) (hm 4), wB g (ho 5) (hs 5) (hr 5) (hm 5)]) := by
  refine z_entry (cc := cX4_restore) (maxL := 2) (ret := (some .int)) (own := RX4) (by decide) rfl rfl (Nat.le_of_ble_eq_true rfl) [(0, .ref (x 0)), (1, .int (nI k))] rfl ?_
  intro K hKl hKg hnL C hRx
  subst hKl
  subst hKg
  rcases (show k = 0 ∨ k = 1 by omega) with rfl | rfl
  · skip
    refine z_iload_n C 1 rfl rfl dX4_restore_0 1 rfl ?_
    refine z_iconst C (v := nI 0) rfl dX4_restore_1 2 rfl ?_
    refine z_iconst C (v := nI 1) rfl dX4_restore_2 3 rfl ?_
    refine z_callP C [.int (nI 0), .int (nI 0), .int (nI 1)] [] (tX4_withinN K.l K.g (nI 0) 0 1 (by first | omega | assumption) (by first | omega | assumption)) gX4_restore_X4_within rfl rfl rfl hdX4_within ⟨Nat.le_of_ble_eq_true rfl, Nat.le_of_ble_eq_true rfl⟩ ⟨Nat.zero_le _, Nat.zero_le _⟩ rfl rfl (Nat.le_of_ble_eq_true rfl) dX4_restore_3 6 rfl (fun u9 hu9 => ?_)
    show Z K 0 0 [wX K.g x bd tr q p h sb sv, wB K.g bd st r n, wB K.g (sb 0) (ss 0) (sr 0) (sn 0), wB K.g (sb 1) (ss 1) (sr 1) (sn 1), wH K.g h ho kp nx, wB K.g (ho 0) (hs 0) (hr 0) (hm 0), wB K.g (ho 1) (hs 1) (hr 1) (hm 1), wB K.g (ho 2) (hs 2) (hr 2) (hm 2), wB K.g (ho 3) (hs 3) (hr 3) (hm 3), wB K.g (ho 4) (hs 4) (hr 4) (hm 4), wB K.g (ho 5) (hs 5) (hr 5) (hm 5)] [(0, .ref (x 0)), (1, .int (nI 0))] 6 [.int (bI (rg (nI 0).toInt (Int.ofNat 0) (Int.ofNat 1)))]
    refine z_ifb_ne C 12 dX4_restore_6 (by decide) 9 rfl (fun c_1 => ?_) (fun c_1 => ?_)
    rotate_left
    · exfalso; rw [rgN_t (by omega) (by omega) (by omega)] at c_1; exact Bool.noConfusion c_1
    refine z_aload_n C 0 rfl rfl dX4_restore_12 13 rfl ?_
    refine z_get C zc4 iX4_restore_X4 0 0 rfl rfl 6 (Nat.le_of_ble_eq_true rfl) (List.mem_of_getElem? (i := 1) rfl) (v := .ref (x 2)) rfl dX4_restore_13 16 rfl ?_
    refine z_iload_n C 1 rfl rfl dX4_restore_16 17 rfl ?_
    refine z_zald C (f := sv) 0 2 rfl rfl (by omega) (by decide) dX4_restore_17 18 rfl ?_
    refine z_ifb_ne C 24 dX4_restore_18 (by decide) 21 rfl (fun c_2 => ?_) (fun c_2 => ?_)
    rotate_left
    · exfalso; rw [hb] at c_2; exact Bool.noConfusion c_2
    refine z_aload_n C 0 rfl rfl dX4_restore_24 25 rfl ?_
    refine z_get C zc4 iX4_restore_X4 0 0 rfl rfl 4 (Nat.le_of_ble_eq_true rfl) (List.mem_of_getElem? (i := 2) rfl) (v := .ref (h 0)) rfl dX4_restore_25 28 rfl ?_
    refine z_aload_n C 0 rfl rfl dX4_restore_28 29 rfl ?_
    refine z_get C zc4 iX4_restore_X4 0 0 rfl rfl 0 (Nat.le_of_ble_eq_true rfl) (List.mem_of_getElem? (i := 3) rfl) (v := .ref (bd 0)) rfl dX4_restore_29 32 rfl ?_
    refine z_callV C [.ref (bd 0)] [] (tX1_remember K.l K.g h ho hs hr hm kp nx bd st r n (by first | omega | assumption) (by first | omega | assumption)) gX4_restore_X1_remember rfl rfl rfl hdX1_remember ⟨Nat.le_of_ble_eq_true rfl, Nat.le_of_ble_eq_true rfl⟩ ⟨Nat.zero_le _, Nat.zero_le _⟩ 4 0 rfl rfl rfl [4, 5, 6, 7, 8, 9, 10, 1] rfl rfl (zlc (N := 11) rfl rfl) [0, 18, 2, 3, 11, 12, 13, 14, 15, 16, 17] rfl (by decide) (fun _ : Unit => [wX K.g x bd tr q p h sb sv, wB K.g bd st r n, wB K.g (sb 0) (ss 0) (sr 0) (sn 0), wB K.g (sb 1) (ss 1) (sr 1) (sn 1), wH K.g h ho (min (kp + 1) 6) (if nx = 5 then 0 else nx + 1), wB K.g (ho 0) ((un hs nx st) 0) ((un hr nx r) 0) ((un hm nx n) 0), wB K.g (ho 1) ((un hs nx st) 1) ((un hr nx r) 1) ((un hm nx n) 1), wB K.g (ho 2) ((un hs nx st) 2) ((un hr nx r) 2) ((un hm nx n) 2), wB K.g (ho 3) ((un hs nx st) 3) ((un hr nx r) 3) ((un hm nx n) 3), wB K.g (ho 4) ((un hs nx st) 4) ((un hr nx r) 4) ((un hm nx n) 4), wB K.g (ho 5) ((un hs nx st) 5) ((un hr nx r) 5) ((un hm nx n) 5)]) (fun _ => rfl) rfl rfl (Nat.le_of_ble_eq_true rfl) dX4_restore_32 35 rfl (fun u9 hu9 => ?_)
    show Z K 0 0 [wX K.g x bd tr q p h sb sv, wB K.g bd st r n, wB K.g (sb 0) (ss 0) (sr 0) (sn 0), wB K.g (sb 1) (ss 1) (sr 1) (sn 1), wH K.g h ho (min (kp + 1) 6) (if nx = 5 then 0 else nx + 1), wB K.g (ho 0) ((un hs nx st) 0) ((un hr nx r) 0) ((un hm nx n) 0), wB K.g (ho 1) ((un hs nx st) 1) ((un hr nx r) 1) ((un hm nx n) 1), wB K.g (ho 2) ((un hs nx st) 2) ((un hr nx r) 2) ((un hm nx n) 2), wB K.g (ho 3) ((un hs nx st) 3) ((un hr nx r) 3) ((un hm nx n) 3), wB K.g (ho 4) ((un hs nx st) 4) ((un hr nx r) 4) ((un hm nx n) 4), wB K.g (ho 5) ((un hs nx st) 5) ((un hr nx r) 5) ((un hm nx n) 5)] [(0, .ref (x 0)), (1, .int (nI 0))] 35 []
    refine z_aload_n C 0 rfl rfl dX4_restore_35 36 rfl ?_
    refine z_get C zc4 iX4_restore_X4 0 0 rfl rfl 0 (Nat.le_of_ble_eq_true rfl) (List.mem_of_getElem? (i := 3) rfl) (v := .ref (bd 0)) rfl dX4_restore_36 39 rfl ?_
    refine z_aload_n C 0 rfl rfl dX4_restore_39 40 rfl ?_
    refine z_get C zc4 iX4_restore_X4 0 0 rfl rfl 5 (Nat.le_of_ble_eq_true rfl) (List.mem_of_getElem? (i := 4) rfl) (v := .ref (x 1)) rfl dX4_restore_40 43 rfl ?_
    refine z_iload_n C 1 rfl rfl dX4_restore_43 44 rfl ?_
    refine z_aald C (y := ((sb 0) 0)) 0 1 2 rfl rfl rfl rfl (by omega) (by decide) rfl dX4_restore_44 45 rfl ?_
    refine z_callV C [.ref ((sb 0) 0)] [] (tX0_copyFrom K.l K.g bd st r n (sb 0) (ss 0) (sr 0) (sn 0) ) gX4_restore_X0_copyFrom rfl rfl rfl hdX0_copyFrom ⟨Nat.le_of_ble_eq_true rfl, Nat.le_of_ble_eq_true rfl⟩ ⟨Nat.zero_le _, Nat.zero_le _⟩ 1 0 rfl rfl rfl [1, 2] rfl rfl (zlc (N := 11) rfl rfl) [0, 11, 12, 3, 4, 5, 6, 7, 8, 9, 10] rfl (by decide) (fun _ : Unit => [wX K.g x bd tr q p h sb sv, wB K.g bd (ss 0) (sr 0) (sn 0), wB K.g (sb 0) (ss 0) (sr 0) (sn 0), wB K.g (sb 1) (ss 1) (sr 1) (sn 1), wH K.g h ho (min (kp + 1) 6) (if nx = 5 then 0 else nx + 1), wB K.g (ho 0) ((un hs nx st) 0) ((un hr nx r) 0) ((un hm nx n) 0), wB K.g (ho 1) ((un hs nx st) 1) ((un hr nx r) 1) ((un hm nx n) 1), wB K.g (ho 2) ((un hs nx st) 2) ((un hr nx r) 2) ((un hm nx n) 2), wB K.g (ho 3) ((un hs nx st) 3) ((un hr nx r) 3) ((un hm nx n) 3), wB K.g (ho 4) ((un hs nx st) 4) ((un hr nx r) 4) ((un hm nx n) 4), wB K.g (ho 5) ((un hs nx st) 5) ((un hr nx r) 5) ((un hm nx n) 5)]) (fun _ => rfl) rfl rfl (Nat.le_of_ble_eq_true rfl) dX4_restore_45 48 rfl (fun u9 hu9 => ?_)
    show Z K 0 0 [wX K.g x bd tr q p h sb sv, wB K.g bd (ss 0) (sr 0) (sn 0), wB K.g (sb 0) (ss 0) (sr 0) (sn 0), wB K.g (sb 1) (ss 1) (sr 1) (sn 1), wH K.g h ho (min (kp + 1) 6) (if nx = 5 then 0 else nx + 1), wB K.g (ho 0) ((un hs nx st) 0) ((un hr nx r) 0) ((un hm nx n) 0), wB K.g (ho 1) ((un hs nx st) 1) ((un hr nx r) 1) ((un hm nx n) 1), wB K.g (ho 2) ((un hs nx st) 2) ((un hr nx r) 2) ((un hm nx n) 2), wB K.g (ho 3) ((un hs nx st) 3) ((un hr nx r) 3) ((un hm nx n) 3), wB K.g (ho 4) ((un hs nx st) 4) ((un hr nx r) 4) ((un hm nx n) 4), wB K.g (ho 5) ((un hs nx st) 5) ((un hr nx r) 5) ((un hm nx n) 5)] [(0, .ref (x 0)), (1, .int (nI 0))] 48 []
    refine z_aload_n C 0 rfl rfl dX4_restore_48 49 rfl ?_
    refine z_get C zc4 iX4_restore_X4 0 0 rfl rfl 0 (Nat.le_of_ble_eq_true rfl) (List.mem_of_getElem? (i := 3) rfl) (v := .ref (bd 0)) rfl dX4_restore_49 52 rfl ?_
    refine z_get C zc0 iX4_restore_X0 1 0 rfl rfl 2 (Nat.le_of_ble_eq_true rfl) (List.mem_of_getElem? (i := 5) rfl) (v := .int (nI (sn 0))) rfl dX4_restore_52 55 rfl ?_
    exact z_iret C hRx dX4_restore_55 () rfl trivial rfl
  · skip
    refine z_iload_n C 1 rfl rfl dX4_restore_0 1 rfl ?_
    refine z_iconst C (v := nI 0) rfl dX4_restore_1 2 rfl ?_
    refine z_iconst C (v := nI 1) rfl dX4_restore_2 3 rfl ?_
    refine z_callP C [.int (nI 1), .int (nI 0), .int (nI 1)] [] (tX4_withinN K.l K.g (nI 1) 0 1 (by first | omega | assumption) (by first | omega | assumption)) gX4_restore_X4_within rfl rfl rfl hdX4_within ⟨Nat.le_of_ble_eq_true rfl, Nat.le_of_ble_eq_true rfl⟩ ⟨Nat.zero_le _, Nat.zero_le _⟩ rfl rfl (Nat.le_of_ble_eq_true rfl) dX4_restore_3 6 rfl (fun u9 hu9 => ?_)
    show Z K 0 0 [wX K.g x bd tr q p h sb sv, wB K.g bd st r n, wB K.g (sb 0) (ss 0) (sr 0) (sn 0), wB K.g (sb 1) (ss 1) (sr 1) (sn 1), wH K.g h ho kp nx, wB K.g (ho 0) (hs 0) (hr 0) (hm 0), wB K.g (ho 1) (hs 1) (hr 1) (hm 1), wB K.g (ho 2) (hs 2) (hr 2) (hm 2), wB K.g (ho 3) (hs 3) (hr 3) (hm 3), wB K.g (ho 4) (hs 4) (hr 4) (hm 4), wB K.g (ho 5) (hs 5) (hr 5) (hm 5)] [(0, .ref (x 0)), (1, .int (nI 1))] 6 [.int (bI (rg (nI 1).toInt (Int.ofNat 0) (Int.ofNat 1)))]
    refine z_ifb_ne C 12 dX4_restore_6 (by decide) 9 rfl (fun c_3 => ?_) (fun c_3 => ?_)
    rotate_left
    · exfalso; rw [rgN_t (by omega) (by omega) (by omega)] at c_3; exact Bool.noConfusion c_3
    refine z_aload_n C 0 rfl rfl dX4_restore_12 13 rfl ?_
    refine z_get C zc4 iX4_restore_X4 0 0 rfl rfl 6 (Nat.le_of_ble_eq_true rfl) (List.mem_of_getElem? (i := 1) rfl) (v := .ref (x 2)) rfl dX4_restore_13 16 rfl ?_
    refine z_iload_n C 1 rfl rfl dX4_restore_16 17 rfl ?_
    refine z_zald C (f := sv) 0 2 rfl rfl (by omega) (by decide) dX4_restore_17 18 rfl ?_
    refine z_ifb_ne C 24 dX4_restore_18 (by decide) 21 rfl (fun c_4 => ?_) (fun c_4 => ?_)
    rotate_left
    · exfalso; rw [hb] at c_4; exact Bool.noConfusion c_4
    refine z_aload_n C 0 rfl rfl dX4_restore_24 25 rfl ?_
    refine z_get C zc4 iX4_restore_X4 0 0 rfl rfl 4 (Nat.le_of_ble_eq_true rfl) (List.mem_of_getElem? (i := 2) rfl) (v := .ref (h 0)) rfl dX4_restore_25 28 rfl ?_
    refine z_aload_n C 0 rfl rfl dX4_restore_28 29 rfl ?_
    refine z_get C zc4 iX4_restore_X4 0 0 rfl rfl 0 (Nat.le_of_ble_eq_true rfl) (List.mem_of_getElem? (i := 3) rfl) (v := .ref (bd 0)) rfl dX4_restore_29 32 rfl ?_
    refine z_callV C [.ref (bd 0)] [] (tX1_remember K.l K.g h ho hs hr hm kp nx bd st r n (by first | omega | assumption) (by first | omega | assumption)) gX4_restore_X1_remember rfl rfl rfl hdX1_remember ⟨Nat.le_of_ble_eq_true rfl, Nat.le_of_ble_eq_true rfl⟩ ⟨Nat.zero_le _, Nat.zero_le _⟩ 4 0 rfl rfl rfl [4, 5, 6, 7, 8, 9, 10, 1] rfl rfl (zlc (N := 11) rfl rfl) [0, 18, 2, 3, 11, 12, 13, 14, 15, 16, 17] rfl (by decide) (fun _ : Unit => [wX K.g x bd tr q p h sb sv, wB K.g bd st r n, wB K.g (sb 0) (ss 0) (sr 0) (sn 0), wB K.g (sb 1) (ss 1) (sr 1) (sn 1), wH K.g h ho (min (kp + 1) 6) (if nx = 5 then 0 else nx + 1), wB K.g (ho 0) ((un hs nx st) 0) ((un hr nx r) 0) ((un hm nx n) 0), wB K.g (ho 1) ((un hs nx st) 1) ((un hr nx r) 1) ((un hm nx n) 1), wB K.g (ho 2) ((un hs nx st) 2) ((un hr nx r) 2) ((un hm nx n) 2), wB K.g (ho 3) ((un hs nx st) 3) ((un hr nx r) 3) ((un hm nx n) 3), wB K.g (ho 4) ((un hs nx st) 4) ((un hr nx r) 4) ((un hm nx n) 4), wB K.g (ho 5) ((un hs nx st) 5) ((un hr nx r) 5) ((un hm nx n) 5)]) (fun _ => rfl) rfl rfl (Nat.le_of_ble_eq_true rfl) dX4_restore_32 35 rfl (fun u9 hu9 => ?_)
    show Z K 0 0 [wX K.g x bd tr q p h sb sv, wB K.g bd st r n, wB K.g (sb 0) (ss 0) (sr 0) (sn 0), wB K.g (sb 1) (ss 1) (sr 1) (sn 1), wH K.g h ho (min (kp + 1) 6) (if nx = 5 then 0 else nx + 1), wB K.g (ho 0) ((un hs nx st) 0) ((un hr nx r) 0) ((un hm nx n) 0), wB K.g (ho 1) ((un hs nx st) 1) ((un hr nx r) 1) ((un hm nx n) 1), wB K.g (ho 2) ((un hs nx st) 2) ((un hr nx r) 2) ((un hm nx n) 2), wB K.g (ho 3) ((un hs nx st) 3) ((un hr nx r) 3) ((un hm nx n) 3), wB K.g (ho 4) ((un hs nx st) 4) ((un hr nx r) 4) ((un hm nx n) 4), wB K.g (ho 5) ((un hs nx st) 5) ((un hr nx r) 5) ((un hm nx n) 5)] [(0, .ref (x 0)), (1, .int (nI 1))] 35 []
    refine z_aload_n C 0 rfl rfl dX4_restore_35 36 rfl ?_
    refine z_get C zc4 iX4_restore_X4 0 0 rfl rfl 0 (Nat.le_of_ble_eq_true rfl) (List.mem_of_getElem? (i := 3) rfl) (v := .ref (bd 0)) rfl dX4_restore_36 39 rfl ?_
    refine z_aload_n C 0 rfl rfl dX4_restore_39 40 rfl ?_
    refine z_get C zc4 iX4_restore_X4 0 0 rfl rfl 5 (Nat.le_of_ble_eq_true rfl) (List.mem_of_getElem? (i := 4) rfl) (v := .ref (x 1)) rfl dX4_restore_40 43 rfl ?_
    refine z_iload_n C 1 rfl rfl dX4_restore_43 44 rfl ?_
    refine z_aald C (y := ((sb 1) 0)) 0 1 2 rfl rfl rfl rfl (by omega) (by decide) rfl dX4_restore_44 45 rfl ?_
    refine z_callV C [.ref ((sb 1) 0)] [] (tX0_copyFrom K.l K.g bd st r n (sb 1) (ss 1) (sr 1) (sn 1) ) gX4_restore_X0_copyFrom rfl rfl rfl hdX0_copyFrom ⟨Nat.le_of_ble_eq_true rfl, Nat.le_of_ble_eq_true rfl⟩ ⟨Nat.zero_le _, Nat.zero_le _⟩ 1 0 rfl rfl rfl [1, 3] rfl rfl (zlc (N := 11) rfl rfl) [0, 11, 2, 12, 4, 5, 6, 7, 8, 9, 10] rfl (by decide) (fun _ : Unit => [wX K.g x bd tr q p h sb sv, wB K.g bd (ss 1) (sr 1) (sn 1), wB K.g (sb 0) (ss 0) (sr 0) (sn 0), wB K.g (sb 1) (ss 1) (sr 1) (sn 1), wH K.g h ho (min (kp + 1) 6) (if nx = 5 then 0 else nx + 1), wB K.g (ho 0) ((un hs nx st) 0) ((un hr nx r) 0) ((un hm nx n) 0), wB K.g (ho 1) ((un hs nx st) 1) ((un hr nx r) 1) ((un hm nx n) 1), wB K.g (ho 2) ((un hs nx st) 2) ((un hr nx r) 2) ((un hm nx n) 2), wB K.g (ho 3) ((un hs nx st) 3) ((un hr nx r) 3) ((un hm nx n) 3), wB K.g (ho 4) ((un hs nx st) 4) ((un hr nx r) 4) ((un hm nx n) 4), wB K.g (ho 5) ((un hs nx st) 5) ((un hr nx r) 5) ((un hm nx n) 5)]) (fun _ => rfl) rfl rfl (Nat.le_of_ble_eq_true rfl) dX4_restore_45 48 rfl (fun u9 hu9 => ?_)
    show Z K 0 0 [wX K.g x bd tr q p h sb sv, wB K.g bd (ss 1) (sr 1) (sn 1), wB K.g (sb 0) (ss 0) (sr 0) (sn 0), wB K.g (sb 1) (ss 1) (sr 1) (sn 1), wH K.g h ho (min (kp + 1) 6) (if nx = 5 then 0 else nx + 1), wB K.g (ho 0) ((un hs nx st) 0) ((un hr nx r) 0) ((un hm nx n) 0), wB K.g (ho 1) ((un hs nx st) 1) ((un hr nx r) 1) ((un hm nx n) 1), wB K.g (ho 2) ((un hs nx st) 2) ((un hr nx r) 2) ((un hm nx n) 2), wB K.g (ho 3) ((un hs nx st) 3) ((un hr nx r) 3) ((un hm nx n) 3), wB K.g (ho 4) ((un hs nx st) 4) ((un hr nx r) 4) ((un hm nx n) 4), wB K.g (ho 5) ((un hs nx st) 5) ((un hr nx r) 5) ((un hm nx n) 5)] [(0, .ref (x 0)), (1, .int (nI 1))] 48 []
    refine z_aload_n C 0 rfl rfl dX4_restore_48 49 rfl ?_
    refine z_get C zc4 iX4_restore_X4 0 0 rfl rfl 0 (Nat.le_of_ble_eq_true rfl) (List.mem_of_getElem? (i := 3) rfl) (v := .ref (bd 0)) rfl dX4_restore_49 52 rfl ?_
    refine z_get C zc0 iX4_restore_X0 1 0 rfl rfl 2 (Nat.le_of_ble_eq_true rfl) (List.mem_of_getElem? (i := 5) rfl) (v := .int (nI (sn 1))) rfl dX4_restore_52 55 rfl ?_
    exact z_iret C hRx dX4_restore_55 () rfl trivial rfl

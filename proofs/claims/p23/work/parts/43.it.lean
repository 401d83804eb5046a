/-! IT: isTyped. -/
theorem NUMT_lt {tx : Nat → Nat} {a v b : Nat} (h : NUMT tx a v b) : a < b := by
  rcases h with ⟨h1, h2, h3⟩ | ⟨h1, h2, h3, h4, h5⟩ | ⟨h1, h2, h3, h4, h5, h6⟩ | ⟨h1, h2, h3, h4, h5, h6, h7⟩ <;> omega
theorem TYP_mk {s t1 t2 t3 t4 : Nat → Nat} {l1 l2 l3 l4 pl sh hu du : Nat} (k1 : ∀ i, i < 0 + 1 → t1 i = un s 0 112 i) (n1 : NUMT t1 (0 + 1) pl l1) (k2 : ∀ i, i < l1 + 1 → t2 i = un t1 l1 115 i) (n2 : NUMT t2 (l1 + 1) sh l2) (k3 : ∀ i, i < l2 + 1 → t3 i = un t2 l2 110 i) (n3 : NUMT t3 (l2 + 1) hu l3) (k4 : ∀ i, i < l3 + 1 → t4 i = un t3 l3 100 i) (n4 : NUMT t4 (l3 + 1) du l4) : TYP t4 l4 pl sh hu du := by
  have a1 := NUMT_lt n1
  have a2 := NUMT_lt n2
  have a3 := NUMT_lt n3
  have e4 : ∀ i, i < l3 → t4 i = t3 i := fun i hi => by rw [k4 i (by omega), un_n (by omega)]
  have e3 : ∀ i, i < l2 → t3 i = t2 i := fun i hi => by rw [k3 i (by omega), un_n (by omega)]
  have e2 : ∀ i, i < l1 → t2 i = t1 i := fun i hi => by rw [k2 i (by omega), un_n (by omega)]
  refine ⟨l1, l2, l3, ?_, NUMT_cg n1 (fun i hi => by rw [e4 i (by omega), e3 i (by omega), e2 i hi]), ?_, NUMT_cg n2 (fun i hi => by rw [e4 i (by omega), e3 i hi]), ?_, NUMT_cg n3 e4, ?_, n4⟩
  · rw [e4 0 (by omega), e3 0 (by omega), e2 0 (by omega), k1 0 (by omega), un_s]
  · rw [e4 l1 (by omega), e3 l1 (by omega), k2 l1 (by omega), un_s]
  · rw [e4 l2 (by omega), k3 l2 (by omega), un_s]
  · rw [k4 l3 (by omega), un_s]
theorem hdL_number : yL_number.cls ≠ "java/lang/invoke/MethodHandle" ∧ yL_number.cls ≠ "java/lang/invoke/VarHandle" ∧ (parseMethodDescriptor yL_number.desc).map (fun d => d.parameters.length) = some 2 := by decide +kernel
theorem hdX4_fault : yX4_fault.cls = RX4 ∧ yX4_fault.cls ≠ "java/lang/invoke/MethodHandle" ∧ yX4_fault.cls ≠ "java/lang/invoke/VarHandle" ∧ (parseMethodDescriptor yX4_fault.desc).map (fun d => d.parameters.length) = some 0 := by decide +kernel
theorem hdX4_wipe : yX4_wipe.cls = RX4 ∧ yX4_wipe.cls ≠ "java/lang/invoke/MethodHandle" ∧ yX4_wipe.cls ≠ "java/lang/invoke/VarHandle" ∧ (parseMethodDescriptor yX4_wipe.desc).map (fun d => d.parameters.length) = some 0 := by decide +kernel
set_option maxHeartbeats 4000000 in
set_option maxRecDepth 100000 in
theorem tL_isTyped (l : Launch) (g : zG) (x : Nat → Nat) (a : oA) (S : oS) (J : oJ) (b c d e : Nat) (hI : INV S) (q1 : b ≤ 9) (q2 : c ≤ 9) (q3 : 1 ≤ d) (q4 : d ≤ 20) (q5 : e ≤ 3000) : Met l yL_isTyped wsL_isTyped ({ frames := 7, cells := 0, slots := 0, locals := 151 } : Room) (zPre g [.ref (x 0), .int (nI b), .int (nI c), .int (nI d), .int (nI e)] [wO g x a S J]) (zQ g (fun u : (oJ) × (Nat → Nat) × (Nat) => match u with | (J2, tx2, len2) => some (.int (bI true)) ) (fun u : (oJ) × (Nat → Nat) × (Nat) => match u with | (J2, tx2, len2) => (TYP tx2 len2 b c d e) ∧ (IT tx2 len2)) (fun u : (oJ) × (Nat → Nat) × (Nat) => match u with | (J2, tx2, len2) => [wO g x a (uPad S tx2 len2) J2]) (zA [wO g x a S J])) 0 0 (zA [wO g x a S J]) := by
  refine z_entry (cc := cL_isTyped) (maxL := 5) (ret := (some .boolean)) (own := RL) (by decide) rfl rfl (Nat.le_of_ble_eq_true rfl) [(0, .ref (x 0)), (1, .int (nI b)), (2, .int (nI c)), (3, .int (nI d)), (4, .int (nI e))] rfl ?_
  intro K hKl hKg hnL C hRx
  subst hKl
  subst hKg
  have hl9 : sLen S ≤ 60 := hI.2.2.2.2.2.1
  have hT0 : IT (sTx S) 0 := IT_0
  refine z_aload_n C 0 rfl rfl dL_isTyped_0 1 rfl ?_
  refine z_callV C [] [] (tO_wipe K.l K.g x a S J (by first | omega | assumption)) gL_isTyped_X4_wipe rfl rfl rfl hdX4_wipe ⟨Nat.le_of_ble_eq_true rfl, Nat.le_of_ble_eq_true rfl⟩ ⟨Nat.zero_le _, Nat.zero_le _⟩ 0 0 rfl rfl rfl [0] rfl rfl (zlc (N := 1) rfl rfl) [1] rfl (by decide) (fun J2 : oJ => [wO K.g x a (uPad S (sTx S) 0) J2]) (fun _ => rfl) rfl rfl (Nat.le_of_ble_eq_true rfl) dL_isTyped_1 4 rfl (fun u9 hu9 => ?_)
  obtain ⟨J2_1, rfl⟩ : ∃ z, z = u9 := ⟨_, rfl⟩
  show Z K 0 0 [wO K.g x a (uPad S (sTx S) 0) J2_1] [(0, .ref (x 0)), (1, .int (nI b)), (2, .int (nI c)), (3, .int (nI d)), (4, .int (nI e))] 4 [.int (nI (sLen S))]
  refine z_if_lt C (by omega) 93 dL_isTyped_4 (by decide) 7 rfl (fun c_2 => ?_) (fun c_2 => ?_)
  · exfalso; omega
  refine z_aload_n C 0 rfl rfl dL_isTyped_7 8 rfl ?_
  refine z_ldc2 C (v := lN 112) (List.mem_of_getElem? (i := 1) rfl) dL_isTyped_8 11 rfl ?_
  have hT_3 := IT_un hT0 (w := 112) (by omega) (by omega)
  refine z_callV C [.long (lN 112)] [] (tO_put1 K.l K.g x a S J2_1 (sTx S) 0 112 (INV_pad hI hT0) (by omega) (by omega) (by omega)) gL_isTyped_X4_put rfl rfl rfl hdX4_put ⟨Nat.le_of_ble_eq_true rfl, Nat.le_of_ble_eq_true rfl⟩ ⟨Nat.zero_le _, Nat.zero_le _⟩ 0 0 rfl rfl rfl [0] rfl rfl (zlc (N := 1) rfl rfl) [1] rfl (by decide) (fun J2 : oJ => [wO K.g x a (uPad S (un (sTx S) 0 112) (0 + 1)) J2]) (fun _ => rfl) rfl rfl (Nat.le_of_ble_eq_true rfl) dL_isTyped_11 14 rfl (fun u9 hu9 => ?_)
  obtain ⟨J2_4, rfl⟩ : ∃ z, z = u9 := ⟨_, rfl⟩
  show Z K 0 0 [wO K.g x a (uPad S (un (sTx S) 0 112) (0 + 1)) J2_4] [(0, .ref (x 0)), (1, .int (nI b)), (2, .int (nI c)), (3, .int (nI d)), (4, .int (nI e))] 14 [.int (nI (0 + 1))]
  refine z_if_le C (by omega) 93 dL_isTyped_14 (by decide) 17 rfl (fun c_5 => ?_) (fun c_5 => ?_)
  · exfalso; omega
  refine z_aload_n C 0 rfl rfl dL_isTyped_17 18 rfl ?_
  refine z_iload_n C 1 rfl rfl dL_isTyped_18 19 rfl ?_
  refine z_callS C [.ref (x 0), .int (nI b)] [] (tL_number K.l K.g x a S J2_4 (un (sTx S) 0 112) (0 + 1) b hI hT_3 (by omega) (by omega)) gL_isTyped_L_number rfl rfl rfl hdL_number ⟨Nat.le_of_ble_eq_true rfl, Nat.le_of_ble_eq_true rfl⟩ ⟨Nat.zero_le _, Nat.zero_le _⟩ [0] rfl rfl (zlc (N := 1) rfl rfl) [1] rfl (by decide) (fun u : (oJ) × (Nat → Nat) × (Nat) => match u with | (J2, tx2, len2) => [wO K.g x a (uPad S tx2 len2) J2]) (fun _ => rfl) rfl rfl (Nat.le_of_ble_eq_true rfl) dL_isTyped_19 22 rfl (fun u9 hu9 => ?_)
  obtain ⟨K1, t1, l1⟩ := u9
  obtain ⟨k1, n1, hT1, m1⟩ := hu9
  have k1 : ∀ i, i < (0 + 1) → t1 i = (un (sTx S) 0 112) i := k1
  have n1 : NUMT t1 (0 + 1) b l1 := n1
  have hT1 : IT t1 l1 := hT1
  have m1 : l1 ≤ (0 + 1) + 4 := m1
  show Z K 0 0 [wO K.g x a (uPad S t1 l1) K1] [(0, .ref (x 0)), (1, .int (nI b)), (2, .int (nI c)), (3, .int (nI d)), (4, .int (nI e))] 22 [.int (bI true)]
  refine z_ifb_eq C 93 dL_isTyped_22 (by decide) 25 rfl (fun c_6 => ?_) (fun c_6 => ?_)
  · exfalso; exact absurd c_6 (by decide)
  refine z_aload_n C 0 rfl rfl dL_isTyped_25 26 rfl ?_
  refine z_ldc2 C (v := lN 115) (List.mem_of_getElem? (i := 2) rfl) dL_isTyped_26 29 rfl ?_
  have hT_7 := IT_un hT1 (w := 115) (by omega) (by omega)
  refine z_callV C [.long (lN 115)] [] (tO_put1 K.l K.g x a S K1 t1 l1 115 (INV_pad hI hT1) (by omega) (by omega) (by omega)) gL_isTyped_X4_put rfl rfl rfl hdX4_put ⟨Nat.le_of_ble_eq_true rfl, Nat.le_of_ble_eq_true rfl⟩ ⟨Nat.zero_le _, Nat.zero_le _⟩ 0 0 rfl rfl rfl [0] rfl rfl (zlc (N := 1) rfl rfl) [1] rfl (by decide) (fun J2 : oJ => [wO K.g x a (uPad S (un t1 l1 115) (l1 + 1)) J2]) (fun _ => rfl) rfl rfl (Nat.le_of_ble_eq_true rfl) dL_isTyped_29 32 rfl (fun u9 hu9 => ?_)
  obtain ⟨J2_8, rfl⟩ : ∃ z, z = u9 := ⟨_, rfl⟩
  show Z K 0 0 [wO K.g x a (uPad S (un t1 l1 115) (l1 + 1)) J2_8] [(0, .ref (x 0)), (1, .int (nI b)), (2, .int (nI c)), (3, .int (nI d)), (4, .int (nI e))] 32 [.int (nI (l1 + 1))]
  refine z_if_le C (by omega) 93 dL_isTyped_32 (by decide) 35 rfl (fun c_9 => ?_) (fun c_9 => ?_)
  · exfalso; omega
  refine z_aload_n C 0 rfl rfl dL_isTyped_35 36 rfl ?_
  refine z_iload_n C 2 rfl rfl dL_isTyped_36 37 rfl ?_
  refine z_callS C [.ref (x 0), .int (nI c)] [] (tL_number K.l K.g x a S J2_8 (un t1 l1 115) (l1 + 1) c hI hT_7 (by omega) (by omega)) gL_isTyped_L_number rfl rfl rfl hdL_number ⟨Nat.le_of_ble_eq_true rfl, Nat.le_of_ble_eq_true rfl⟩ ⟨Nat.zero_le _, Nat.zero_le _⟩ [0] rfl rfl (zlc (N := 1) rfl rfl) [1] rfl (by decide) (fun u : (oJ) × (Nat → Nat) × (Nat) => match u with | (J2, tx2, len2) => [wO K.g x a (uPad S tx2 len2) J2]) (fun _ => rfl) rfl rfl (Nat.le_of_ble_eq_true rfl) dL_isTyped_37 40 rfl (fun u9 hu9 => ?_)
  obtain ⟨K2, t2, l2⟩ := u9
  obtain ⟨k2, n2, hT2, m2⟩ := hu9
  have k2 : ∀ i, i < (l1 + 1) → t2 i = (un t1 l1 115) i := k2
  have n2 : NUMT t2 (l1 + 1) c l2 := n2
  have hT2 : IT t2 l2 := hT2
  have m2 : l2 ≤ (l1 + 1) + 4 := m2
  show Z K 0 0 [wO K.g x a (uPad S t2 l2) K2] [(0, .ref (x 0)), (1, .int (nI b)), (2, .int (nI c)), (3, .int (nI d)), (4, .int (nI e))] 40 [.int (bI true)]
  refine z_ifb_eq C 93 dL_isTyped_40 (by decide) 43 rfl (fun c_10 => ?_) (fun c_10 => ?_)
  · exfalso; exact absurd c_10 (by decide)
  refine z_aload_n C 0 rfl rfl dL_isTyped_43 44 rfl ?_
  refine z_ldc2 C (v := lN 110) (List.mem_of_getElem? (i := 3) rfl) dL_isTyped_44 47 rfl ?_
  have hT_11 := IT_un hT2 (w := 110) (by omega) (by omega)
  refine z_callV C [.long (lN 110)] [] (tO_put1 K.l K.g x a S K2 t2 l2 110 (INV_pad hI hT2) (by omega) (by omega) (by omega)) gL_isTyped_X4_put rfl rfl rfl hdX4_put ⟨Nat.le_of_ble_eq_true rfl, Nat.le_of_ble_eq_true rfl⟩ ⟨Nat.zero_le _, Nat.zero_le _⟩ 0 0 rfl rfl rfl [0] rfl rfl (zlc (N := 1) rfl rfl) [1] rfl (by decide) (fun J2 : oJ => [wO K.g x a (uPad S (un t2 l2 110) (l2 + 1)) J2]) (fun _ => rfl) rfl rfl (Nat.le_of_ble_eq_true rfl) dL_isTyped_47 50 rfl (fun u9 hu9 => ?_)
  obtain ⟨J2_12, rfl⟩ : ∃ z, z = u9 := ⟨_, rfl⟩
  show Z K 0 0 [wO K.g x a (uPad S (un t2 l2 110) (l2 + 1)) J2_12] [(0, .ref (x 0)), (1, .int (nI b)), (2, .int (nI c)), (3, .int (nI d)), (4, .int (nI e))] 50 [.int (nI (l2 + 1))]
  refine z_if_le C (by omega) 93 dL_isTyped_50 (by decide) 53 rfl (fun c_13 => ?_) (fun c_13 => ?_)
  · exfalso; omega
  refine z_aload_n C 0 rfl rfl dL_isTyped_53 54 rfl ?_
  refine z_iload_n C 3 rfl rfl dL_isTyped_54 55 rfl ?_
  refine z_callS C [.ref (x 0), .int (nI d)] [] (tL_number K.l K.g x a S J2_12 (un t2 l2 110) (l2 + 1) d hI hT_11 (by omega) (by omega)) gL_isTyped_L_number rfl rfl rfl hdL_number ⟨Nat.le_of_ble_eq_true rfl, Nat.le_of_ble_eq_true rfl⟩ ⟨Nat.zero_le _, Nat.zero_le _⟩ [0] rfl rfl (zlc (N := 1) rfl rfl) [1] rfl (by decide) (fun u : (oJ) × (Nat → Nat) × (Nat) => match u with | (J2, tx2, len2) => [wO K.g x a (uPad S tx2 len2) J2]) (fun _ => rfl) rfl rfl (Nat.le_of_ble_eq_true rfl) dL_isTyped_55 58 rfl (fun u9 hu9 => ?_)
  obtain ⟨K3, t3, l3⟩ := u9
  obtain ⟨k3, n3, hT3, m3⟩ := hu9
  have k3 : ∀ i, i < (l2 + 1) → t3 i = (un t2 l2 110) i := k3
  have n3 : NUMT t3 (l2 + 1) d l3 := n3
  have hT3 : IT t3 l3 := hT3
  have m3 : l3 ≤ (l2 + 1) + 4 := m3
  show Z K 0 0 [wO K.g x a (uPad S t3 l3) K3] [(0, .ref (x 0)), (1, .int (nI b)), (2, .int (nI c)), (3, .int (nI d)), (4, .int (nI e))] 58 [.int (bI true)]
  refine z_ifb_eq C 93 dL_isTyped_58 (by decide) 61 rfl (fun c_14 => ?_) (fun c_14 => ?_)
  · exfalso; exact absurd c_14 (by decide)
  refine z_aload_n C 0 rfl rfl dL_isTyped_61 62 rfl ?_
  refine z_ldc2 C (v := lN 100) (List.mem_of_getElem? (i := 4) rfl) dL_isTyped_62 65 rfl ?_
  have hT_15 := IT_un hT3 (w := 100) (by omega) (by omega)
  refine z_callV C [.long (lN 100)] [] (tO_put1 K.l K.g x a S K3 t3 l3 100 (INV_pad hI hT3) (by omega) (by omega) (by omega)) gL_isTyped_X4_put rfl rfl rfl hdX4_put ⟨Nat.le_of_ble_eq_true rfl, Nat.le_of_ble_eq_true rfl⟩ ⟨Nat.zero_le _, Nat.zero_le _⟩ 0 0 rfl rfl rfl [0] rfl rfl (zlc (N := 1) rfl rfl) [1] rfl (by decide) (fun J2 : oJ => [wO K.g x a (uPad S (un t3 l3 100) (l3 + 1)) J2]) (fun _ => rfl) rfl rfl (Nat.le_of_ble_eq_true rfl) dL_isTyped_65 68 rfl (fun u9 hu9 => ?_)
  obtain ⟨J2_16, rfl⟩ : ∃ z, z = u9 := ⟨_, rfl⟩
  show Z K 0 0 [wO K.g x a (uPad S (un t3 l3 100) (l3 + 1)) J2_16] [(0, .ref (x 0)), (1, .int (nI b)), (2, .int (nI c)), (3, .int (nI d)), (4, .int (nI e))] 68 [.int (nI (l3 + 1))]
  refine z_if_le C (by omega) 93 dL_isTyped_68 (by decide) 71 rfl (fun c_17 => ?_) (fun c_17 => ?_)
  · exfalso; omega
  refine z_aload_n C 0 rfl rfl dL_isTyped_71 72 rfl ?_
  refine z_iload C 4 rfl dL_isTyped_72 74 rfl ?_
  refine z_callS C [.ref (x 0), .int (nI e)] [] (tL_number K.l K.g x a S J2_16 (un t3 l3 100) (l3 + 1) e hI hT_15 (by omega) (by omega)) gL_isTyped_L_number rfl rfl rfl hdL_number ⟨Nat.le_of_ble_eq_true rfl, Nat.le_of_ble_eq_true rfl⟩ ⟨Nat.zero_le _, Nat.zero_le _⟩ [0] rfl rfl (zlc (N := 1) rfl rfl) [1] rfl (by decide) (fun u : (oJ) × (Nat → Nat) × (Nat) => match u with | (J2, tx2, len2) => [wO K.g x a (uPad S tx2 len2) J2]) (fun _ => rfl) rfl rfl (Nat.le_of_ble_eq_true rfl) dL_isTyped_74 77 rfl (fun u9 hu9 => ?_)
  obtain ⟨K4, t4, l4⟩ := u9
  obtain ⟨k4, n4, hT4, m4⟩ := hu9
  have k4 : ∀ i, i < (l3 + 1) → t4 i = (un t3 l3 100) i := k4
  have n4 : NUMT t4 (l3 + 1) e l4 := n4
  have hT4 : IT t4 l4 := hT4
  have m4 : l4 ≤ (l3 + 1) + 4 := m4
  show Z K 0 0 [wO K.g x a (uPad S t4 l4) K4] [(0, .ref (x 0)), (1, .int (nI b)), (2, .int (nI c)), (3, .int (nI d)), (4, .int (nI e))] 77 [.int (bI true)]
  refine z_ifb_eq C 93 dL_isTyped_77 (by decide) 80 rfl (fun c_18 => ?_) (fun c_18 => ?_)
  · exfalso; exact absurd c_18 (by decide)
  refine z_aload_n C 0 rfl rfl dL_isTyped_80 81 rfl ?_
  have hTy := TYP_mk k1 n1 k2 n2 k3 n3 k4 n4
  refine z_callV C [] [] (tO_fault K.l K.g x a (uPad S t4 l4) K4 b c d e (INV_pad hI hT4) hTy (by first | omega | assumption) (by first | omega | assumption) (by first | omega | assumption) (by first | omega | assumption) (by first | omega | assumption)) gL_isTyped_X4_fault rfl rfl rfl hdX4_fault ⟨Nat.le_of_ble_eq_true rfl, Nat.le_of_ble_eq_true rfl⟩ ⟨Nat.zero_le _, Nat.zero_le _⟩ 0 0 rfl rfl rfl [0] rfl rfl (zlc (N := 1) rfl rfl) [1] rfl (by decide) (fun J2 : oJ => [wO K.g x a (uPad S t4 l4) J2]) (fun _ => rfl) rfl rfl (Nat.le_of_ble_eq_true rfl) dL_isTyped_81 84 rfl (fun u9 hu9 => ?_)
  obtain ⟨J2_19, rfl⟩ : ∃ z, z = u9 := ⟨_, rfl⟩
  show Z K 0 0 [wO K.g x a (uPad S t4 l4) J2_19] [(0, .ref (x 0)), (1, .int (nI b)), (2, .int (nI c)), (3, .int (nI d)), (4, .int (nI e))] 84 [.int (-6)]
  refine z_bipush C (v := (-6)) rfl dL_isTyped_84 86 rfl ?_
  refine z_icmpI_ne C 93 dL_isTyped_86 (by decide) 89 rfl (fun c_20 => absurd (show ((-6) : Int32) = (-6) from rfl) c_20) (fun c_20 => ?_)
  refine z_iconst C (v := nI 1) rfl dL_isTyped_89 90 rfl ?_
  refine z_goto C 94 dL_isTyped_90 (by decide) ?_
  refine z_eq (st2 := [.int (bI true)]) ?_ rfl rfl rfl
  exact z_bret C hRx dL_isTyped_94 (J2_19, t4, l4) rfl (⟨hTy, hT4⟩) rfl

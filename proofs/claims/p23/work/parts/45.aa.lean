/-! AA: areAlike. -/
theorem d_BE2 {st st' : Nat → Nat} {r r' : Nat → Nat → Nat} {n : Nat} (hs : dS st st') (hr : dR r r' n) (hS : okS st) (hJ : okJ r n) (hR : okR st r n (st 5)) (hn : n ≤ 12) : tw (BE st r n 2) = BE st' r' n 2 := by
  have h := d_beO hs hr hR n (Nat.le_refl n)
  have hb := beO_le hS hJ hR hn n (Nat.le_refl n)
  unfold BE
  rw [h.2]
  by_cases q : (beO st r n n).2.1 = (-6)
  · rw [if_pos q, if_pos q]
    exact tw_neg (by decide)
  · rw [if_neg q, if_neg q]
    show tw (nI (beO st r n n).1) = nI (beO st' r' n n).1
    rw [h.1]
    exact tw_nI (by omega)
theorem mbT {mb : Nat} {c : Bool} (h : (mb = 1 ∧ c = true) ∨ (mb = 0 ∧ c = false)) (e : mb ≠ 0) : c = true := h.elim (fun z => z.2) (fun z => absurd z.1 e)
theorem mbF {mb : Nat} {c : Bool} (h : (mb = 1 ∧ c = true) ∨ (mb = 0 ∧ c = false)) (e : mb = 0) : c = false := h.elim (fun z => absurd (z.1.symm.trans e) (by decide)) (fun z => z.2)
theorem d_CNt {S T : oS} {k : Nat} (h : REL S T 6) (hI : INV S) (hk : k < 18) (e : cMin k = true) : 2 * CN (sSt S) (sR S) (sN S) (sLen S) (sKp S) k = CN (sSt T) (sR T) (sN T) (sLen T) (sKp T) k := by
  obtain ⟨⟨hN, hds, hdr⟩, -⟩ := h
  rw [hN, d_CN (len := sLen S) (kp := sKp S) hds hdr hI.1.2.2.2 hk, if_pos e]
theorem d_CNf {S T : oS} {k : Nat} (h : REL S T 6) (hI : INV S) (hk : k < 18) (e : cMin k = false) : CN (sSt S) (sR S) (sN S) (sLen S) (sKp S) k = CN (sSt T) (sR T) (sN T) (sLen T) (sKp T) k := by
  obtain ⟨⟨hN, hds, hdr⟩, -⟩ := h
  rw [hN, d_CN (len := sLen S) (kp := sKp S) hds hdr hI.1.2.2.2 hk, if_neg (by rw [e]; decide)]
theorem d_JOt {S T : oS} {j k : Nat} (h : REL S T 6) (hI : INV S) (hj : j < sN S) (hk : k ≤ 11) (e : jMin k = true) : 2 * JO (sSt S) (sR S) (sN S) j k = JO (sSt T) (sR T) (sN T) j k := by
  obtain ⟨⟨hN, hds, hdr⟩, -⟩ := h
  rw [hN, d_JO hds hdr hI.1.2.2.2 hj hk, if_pos e]
theorem d_JOf {S T : oS} {j k : Nat} (h : REL S T 6) (hI : INV S) (hj : j < sN S) (hk : k ≤ 11) (e : jMin k = false) : JO (sSt S) (sR S) (sN S) j k = JO (sSt T) (sR T) (sN T) j k := by
  obtain ⟨⟨hN, hds, hdr⟩, -⟩ := h
  rw [hN, d_JO hds hdr hI.1.2.2.2 hj hk, if_neg (by rw [e]; decide)]
theorem hdL_twice : yL_twice.cls ≠ "java/lang/invoke/MethodHandle" ∧ yL_twice.cls ≠ "java/lang/invoke/VarHandle" ∧ (parseMethodDescriptor yL_twice.desc).map (fun d => d.parameters.length) = some 1 := by decide +kernel
theorem hdX4_bestExchange : yX4_bestExchange.cls = RX4 ∧ yX4_bestExchange.cls ≠ "java/lang/invoke/MethodHandle" ∧ yX4_bestExchange.cls ≠ "java/lang/invoke/VarHandle" ∧ (parseMethodDescriptor yX4_bestExchange.desc).map (fun d => d.parameters.length) = some 1 := by decide +kernel
theorem hdX4_bestFirst : yX4_bestFirst.cls = RX4 ∧ yX4_bestFirst.cls ≠ "java/lang/invoke/MethodHandle" ∧ yX4_bestFirst.cls ≠ "java/lang/invoke/VarHandle" ∧ (parseMethodDescriptor yX4_bestFirst.desc).map (fun d => d.parameters.length) = some 0 := by decide +kernel
theorem hdX4_ifOrdered : yX4_ifOrdered.cls = RX4 ∧ yX4_ifOrdered.cls ≠ "java/lang/invoke/MethodHandle" ∧ yX4_ifOrdered.cls ≠ "java/lang/invoke/VarHandle" ∧ (parseMethodDescriptor yX4_ifOrdered.desc).map (fun d => d.parameters.length) = some 2 := by decide +kernel
set_option maxHeartbeats 4000000 in
set_option maxRecDepth 100000 in
theorem tL_areAlike (l : Launch) (g : zG) (x : Nat → Nat) (a : oA) (S : oS) (J : oJ) (y : Nat → Nat) (b : oA) (T : oS) (Jp : oJ) (hI : INV S) (hIT : INV T) (hRel : REL S T 6) : Met l yL_areAlike wsL_areAlike ({ frames := 7, cells := 0, slots := 0, locals := 165 } : Room) (zPreE g eAll [.ref (x 0), .ref (y 0)] [wO g x a S J, wO g y b T Jp]) (zQ g (fun u : (oJ) × (oJ) => match u with | (J2, J3) => some (.int (bI true)) ) (fun u : (oJ) × (oJ) => match u with | (J2, J3) => True) (fun u : (oJ) × (oJ) => match u with | (J2, J3) => [wO g x a S J2, wO g y b T J3]) (zA [wO g x a S J, wO g y b T Jp])) 0 0 (zA [wO g x a S J, wO g y b T Jp]) := by
  refine z_entryE (cc := cL_areAlike) (maxL := 6) (ret := (some .boolean)) (own := RL) (by decide) rfl rfl (Nat.le_of_ble_eq_true rfl) [(0, .ref (x 0)), (1, .ref (y 0))] rfl ?_
  intro K hKl hKg hnL C hRx hE
  subst hKl
  subst hKg
  obtain ⟨heSet, heOrd⟩ := hE
  obtain ⟨hn, hS, hJ, hR⟩ := id hI.1
  obtain ⟨⟨hN, hds, hdr⟩, hkp, hnx, hhi, hsl⟩ := id hRel
  refine z_aload_n C 0 rfl rfl dL_areAlike_0 1 rfl ?_
  refine z_callV C [] [] (tO_bestFirst K.l K.g x a S J hI) gL_areAlike_X4_bestFirst rfl rfl rfl hdX4_bestFirst ⟨Nat.le_of_ble_eq_true rfl, Nat.le_of_ble_eq_true rfl⟩ ⟨Nat.zero_le _, Nat.zero_le _⟩ 0 0 rfl rfl rfl [0] rfl rfl (zlc (N := 2) rfl rfl) [2, 1] rfl (by decide) (fun J2 : oJ => [wO K.g x a S J2, wO K.g y b T Jp]) (fun _ => rfl) rfl rfl (Nat.le_of_ble_eq_true rfl) dL_areAlike_1 4 rfl (fun u9 hu9 => ?_)
  obtain ⟨J2_1, rfl⟩ : ∃ z, z = u9 := ⟨_, rfl⟩
  show Z K 0 0 [wO K.g x a S J2_1, wO K.g y b T Jp] [(0, .ref (x 0)), (1, .ref (y 0))] 4 [.int ((bfO (sSt S) (sR S) (sN S) (sN S)).1)]
  refine z_aload_n C 1 rfl rfl dL_areAlike_4 5 rfl ?_
  refine z_callV C [] [.int ((bfO (sSt S) (sR S) (sN S) (sN S)).1)] (tO_bestFirst K.l K.g y b T Jp hIT) gL_areAlike_X4_bestFirst rfl rfl rfl hdX4_bestFirst ⟨Nat.le_of_ble_eq_true rfl, Nat.le_of_ble_eq_true rfl⟩ ⟨Nat.zero_le _, Nat.zero_le _⟩ 1 0 rfl rfl rfl [1] rfl rfl (zlc (N := 2) rfl rfl) [0, 2] rfl (by decide) (fun J2 : oJ => [wO K.g x a S J2_1, wO K.g y b T J2]) (fun _ => rfl) rfl rfl (Nat.le_of_ble_eq_true rfl) dL_areAlike_5 8 rfl (fun u9 hu9 => ?_)
  obtain ⟨J2_2, rfl⟩ : ∃ z, z = u9 := ⟨_, rfl⟩
  show Z K 0 0 [wO K.g x a S J2_1, wO K.g y b T J2_2] [(0, .ref (x 0)), (1, .ref (y 0))] 8 [.int ((bfO (sSt T) (sR T) (sN T) (sN T)).1), .int ((bfO (sSt S) (sR S) (sN S) (sN S)).1)]
  refine z_icmpI_ne C 68 dL_areAlike_8 (by decide) 11 rfl (fun c_3 => absurd (show ((bfO (sSt S) (sR S) (sN S) (sN S)).1 : Int32) = (bfO (sSt T) (sR T) (sN T) (sN T)).1 from (by rw [hN]; exact ((d_bfO hds hdr hR (sN S) (Nat.le_refl _)).1).symm)) c_3) (fun c_3 => ?_)
  refine z_aload_n C 0 rfl rfl dL_areAlike_11 12 rfl ?_
  refine z_callVE (E := eSet) (fun _ _ _ e e2 h => eSet.same e e2 h) (fun _ _ _ hS9 hW9 hAB => eSet.later heSet hS9 hW9 hAB) C [] [] (tO_leastRacks K.l K.g x a S J2_1 hI) gL_areAlike_X4_leastRacks rfl rfl rfl hdX4_leastRacks ⟨Nat.le_of_ble_eq_true rfl, Nat.le_of_ble_eq_true rfl⟩ ⟨Nat.zero_le _, Nat.zero_le _⟩ 0 0 rfl rfl rfl [0] rfl rfl (zlc (N := 2) rfl rfl) [2, 1] rfl (by decide) (fun J2 : oJ => [wO K.g x a S J2, wO K.g y b T J2_2]) (fun _ => rfl) rfl rfl (Nat.le_of_ble_eq_true rfl) dL_areAlike_12 15 rfl (fun u9 hu9 => ?_)
  obtain ⟨J2_4, rfl⟩ : ∃ z, z = u9 := ⟨_, rfl⟩
  show Z K 0 0 [wO K.g x a S J2_4, wO K.g y b T J2_2] [(0, .ref (x 0)), (1, .ref (y 0))] 15 [.int (lrF (sSt S) (sR S) (sN S) 4 17)]
  refine z_aload_n C 1 rfl rfl dL_areAlike_15 16 rfl ?_
  refine z_callVE (E := eSet) (fun _ _ _ e e2 h => eSet.same e e2 h) (fun _ _ _ hS9 hW9 hAB => eSet.later heSet hS9 hW9 hAB) C [] [.int (lrF (sSt S) (sR S) (sN S) 4 17)] (tO_leastRacks K.l K.g y b T J2_2 hIT) gL_areAlike_X4_leastRacks rfl rfl rfl hdX4_leastRacks ⟨Nat.le_of_ble_eq_true rfl, Nat.le_of_ble_eq_true rfl⟩ ⟨Nat.zero_le _, Nat.zero_le _⟩ 1 0 rfl rfl rfl [1] rfl rfl (zlc (N := 2) rfl rfl) [0, 2] rfl (by decide) (fun J2 : oJ => [wO K.g x a S J2_4, wO K.g y b T J2]) (fun _ => rfl) rfl rfl (Nat.le_of_ble_eq_true rfl) dL_areAlike_16 19 rfl (fun u9 hu9 => ?_)
  obtain ⟨J2_5, rfl⟩ : ∃ z, z = u9 := ⟨_, rfl⟩
  show Z K 0 0 [wO K.g x a S J2_4, wO K.g y b T J2_5] [(0, .ref (x 0)), (1, .ref (y 0))] 19 [.int (lrF (sSt T) (sR T) (sN T) 4 17), .int (lrF (sSt S) (sR S) (sN S) 4 17)]
  refine z_icmpI_ne C 68 dL_areAlike_19 (by decide) 22 rfl (fun c_6 => absurd (show (lrF (sSt S) (sR S) (sN S) 4 17 : Int32) = lrF (sSt T) (sR T) (sN T) 4 17 from (by rw [hN]; exact (d_lrF hds hdr 17 4).symm)) c_6) (fun c_6 => ?_)
  refine z_aload_n C 0 rfl rfl dL_areAlike_22 23 rfl ?_
  refine z_iconst C (v := nI 0) rfl dL_areAlike_23 24 rfl ?_
  refine z_callV C [.int (nI 0)] [] (tO_bestExchange K.l K.g x a S J2_4 0 hI (by first | omega | assumption)) gL_areAlike_X4_bestExchange rfl rfl rfl hdX4_bestExchange ⟨Nat.le_of_ble_eq_true rfl, Nat.le_of_ble_eq_true rfl⟩ ⟨Nat.zero_le _, Nat.zero_le _⟩ 0 0 rfl rfl rfl [0] rfl rfl (zlc (N := 2) rfl rfl) [2, 1] rfl (by decide) (fun J2 : oJ => [wO K.g x a S J2, wO K.g y b T J2_5]) (fun _ => rfl) rfl rfl (Nat.le_of_ble_eq_true rfl) dL_areAlike_24 27 rfl (fun u9 hu9 => ?_)
  obtain ⟨J2_7, rfl⟩ : ∃ z, z = u9 := ⟨_, rfl⟩
  show Z K 0 0 [wO K.g x a S J2_7, wO K.g y b T J2_5] [(0, .ref (x 0)), (1, .ref (y 0))] 27 [.int (BE (sSt S) (sR S) (sN S) 0)]
  refine z_aload_n C 1 rfl rfl dL_areAlike_27 28 rfl ?_
  refine z_iconst C (v := nI 0) rfl dL_areAlike_28 29 rfl ?_
  refine z_callV C [.int (nI 0)] [.int (BE (sSt S) (sR S) (sN S) 0)] (tO_bestExchange K.l K.g y b T J2_5 0 hIT (by first | omega | assumption)) gL_areAlike_X4_bestExchange rfl rfl rfl hdX4_bestExchange ⟨Nat.le_of_ble_eq_true rfl, Nat.le_of_ble_eq_true rfl⟩ ⟨Nat.zero_le _, Nat.zero_le _⟩ 1 0 rfl rfl rfl [1] rfl rfl (zlc (N := 2) rfl rfl) [0, 2] rfl (by decide) (fun J2 : oJ => [wO K.g x a S J2_7, wO K.g y b T J2]) (fun _ => rfl) rfl rfl (Nat.le_of_ble_eq_true rfl) dL_areAlike_29 32 rfl (fun u9 hu9 => ?_)
  obtain ⟨J2_8, rfl⟩ : ∃ z, z = u9 := ⟨_, rfl⟩
  show Z K 0 0 [wO K.g x a S J2_7, wO K.g y b T J2_8] [(0, .ref (x 0)), (1, .ref (y 0))] 32 [.int (BE (sSt T) (sR T) (sN T) 0), .int (BE (sSt S) (sR S) (sN S) 0)]
  refine z_icmpI_ne C 68 dL_areAlike_32 (by decide) 35 rfl (fun c_9 => absurd (show (BE (sSt S) (sR S) (sN S) 0 : Int32) = BE (sSt T) (sR T) (sN T) 0 from (by rw [hN]; exact (d_BE hds hdr hR (by decide)).symm)) c_9) (fun c_9 => ?_)
  refine z_aload_n C 0 rfl rfl dL_areAlike_35 36 rfl ?_
  refine z_iconst C (v := nI 1) rfl dL_areAlike_36 37 rfl ?_
  refine z_callV C [.int (nI 1)] [] (tO_bestExchange K.l K.g x a S J2_7 1 hI (by first | omega | assumption)) gL_areAlike_X4_bestExchange rfl rfl rfl hdX4_bestExchange ⟨Nat.le_of_ble_eq_true rfl, Nat.le_of_ble_eq_true rfl⟩ ⟨Nat.zero_le _, Nat.zero_le _⟩ 0 0 rfl rfl rfl [0] rfl rfl (zlc (N := 2) rfl rfl) [2, 1] rfl (by decide) (fun J2 : oJ => [wO K.g x a S J2, wO K.g y b T J2_8]) (fun _ => rfl) rfl rfl (Nat.le_of_ble_eq_true rfl) dL_areAlike_37 40 rfl (fun u9 hu9 => ?_)
  obtain ⟨J2_10, rfl⟩ : ∃ z, z = u9 := ⟨_, rfl⟩
  show Z K 0 0 [wO K.g x a S J2_10, wO K.g y b T J2_8] [(0, .ref (x 0)), (1, .ref (y 0))] 40 [.int (BE (sSt S) (sR S) (sN S) 1)]
  refine z_aload_n C 1 rfl rfl dL_areAlike_40 41 rfl ?_
  refine z_iconst C (v := nI 1) rfl dL_areAlike_41 42 rfl ?_
  refine z_callV C [.int (nI 1)] [.int (BE (sSt S) (sR S) (sN S) 1)] (tO_bestExchange K.l K.g y b T J2_8 1 hIT (by first | omega | assumption)) gL_areAlike_X4_bestExchange rfl rfl rfl hdX4_bestExchange ⟨Nat.le_of_ble_eq_true rfl, Nat.le_of_ble_eq_true rfl⟩ ⟨Nat.zero_le _, Nat.zero_le _⟩ 1 0 rfl rfl rfl [1] rfl rfl (zlc (N := 2) rfl rfl) [0, 2] rfl (by decide) (fun J2 : oJ => [wO K.g x a S J2_10, wO K.g y b T J2]) (fun _ => rfl) rfl rfl (Nat.le_of_ble_eq_true rfl) dL_areAlike_42 45 rfl (fun u9 hu9 => ?_)
  obtain ⟨J2_11, rfl⟩ : ∃ z, z = u9 := ⟨_, rfl⟩
  show Z K 0 0 [wO K.g x a S J2_10, wO K.g y b T J2_11] [(0, .ref (x 0)), (1, .ref (y 0))] 45 [.int (BE (sSt T) (sR T) (sN T) 1), .int (BE (sSt S) (sR S) (sN S) 1)]
  refine z_icmpI_ne C 68 dL_areAlike_45 (by decide) 48 rfl (fun c_12 => absurd (show (BE (sSt S) (sR S) (sN S) 1 : Int32) = BE (sSt T) (sR T) (sN T) 1 from (by rw [hN]; exact (d_BE hds hdr hR (by decide)).symm)) c_12) (fun c_12 => ?_)
  refine z_aload_n C 0 rfl rfl dL_areAlike_48 49 rfl ?_
  refine z_iconst C (v := nI 2) rfl dL_areAlike_49 50 rfl ?_
  refine z_callV C [.int (nI 2)] [] (tO_bestExchange K.l K.g x a S J2_10 2 hI (by first | omega | assumption)) gL_areAlike_X4_bestExchange rfl rfl rfl hdX4_bestExchange ⟨Nat.le_of_ble_eq_true rfl, Nat.le_of_ble_eq_true rfl⟩ ⟨Nat.zero_le _, Nat.zero_le _⟩ 0 0 rfl rfl rfl [0] rfl rfl (zlc (N := 2) rfl rfl) [2, 1] rfl (by decide) (fun J2 : oJ => [wO K.g x a S J2, wO K.g y b T J2_11]) (fun _ => rfl) rfl rfl (Nat.le_of_ble_eq_true rfl) dL_areAlike_50 53 rfl (fun u9 hu9 => ?_)
  obtain ⟨J2_13, rfl⟩ : ∃ z, z = u9 := ⟨_, rfl⟩
  show Z K 0 0 [wO K.g x a S J2_13, wO K.g y b T J2_11] [(0, .ref (x 0)), (1, .ref (y 0))] 53 [.int (BE (sSt S) (sR S) (sN S) 2)]
  refine z_callP C [.int (BE (sSt S) (sR S) (sN S) 2)] [] (tL_twice K.l K.g (BE (sSt S) (sR S) (sN S) 2) ) gL_areAlike_L_twice rfl rfl rfl hdL_twice ⟨Nat.le_of_ble_eq_true rfl, Nat.le_of_ble_eq_true rfl⟩ ⟨Nat.zero_le _, Nat.zero_le _⟩ rfl rfl (Nat.le_of_ble_eq_true rfl) dL_areAlike_53 56 rfl (fun u9 hu9 => ?_)
  show Z K 0 0 [wO K.g x a S J2_13, wO K.g y b T J2_11] [(0, .ref (x 0)), (1, .ref (y 0))] 56 [.int (tw (BE (sSt S) (sR S) (sN S) 2))]
  refine z_aload_n C 1 rfl rfl dL_areAlike_56 57 rfl ?_
  refine z_iconst C (v := nI 2) rfl dL_areAlike_57 58 rfl ?_
  refine z_callV C [.int (nI 2)] [.int (tw (BE (sSt S) (sR S) (sN S) 2))] (tO_bestExchange K.l K.g y b T J2_11 2 hIT (by first | omega | assumption)) gL_areAlike_X4_bestExchange rfl rfl rfl hdX4_bestExchange ⟨Nat.le_of_ble_eq_true rfl, Nat.le_of_ble_eq_true rfl⟩ ⟨Nat.zero_le _, Nat.zero_le _⟩ 1 0 rfl rfl rfl [1] rfl rfl (zlc (N := 2) rfl rfl) [0, 2] rfl (by decide) (fun J2 : oJ => [wO K.g x a S J2_13, wO K.g y b T J2]) (fun _ => rfl) rfl rfl (Nat.le_of_ble_eq_true rfl) dL_areAlike_58 61 rfl (fun u9 hu9 => ?_)
  obtain ⟨J2_14, rfl⟩ : ∃ z, z = u9 := ⟨_, rfl⟩
  show Z K 0 0 [wO K.g x a S J2_13, wO K.g y b T J2_14] [(0, .ref (x 0)), (1, .ref (y 0))] 61 [.int (BE (sSt T) (sR T) (sN T) 2), .int (tw (BE (sSt S) (sR S) (sN S) 2))]
  refine z_icmpI_ne C 68 dL_areAlike_61 (by decide) 64 rfl (fun c_15 => absurd (show (tw (BE (sSt S) (sR S) (sN S) 2) : Int32) = BE (sSt T) (sR T) (sN T) 2 from (by rw [hN]; exact d_BE2 hds hdr hS hJ hR hn)) c_15) (fun c_15 => ?_)
  refine z_iconst C (v := nI 1) rfl dL_areAlike_64 65 rfl ?_
  refine z_goto C 69 dL_areAlike_65 (by decide) ?_
  refine z_istore_n C hnL [1, 2, 0] [(0, .ref (x 0)), (1, .ref (y 0)), (2, .int (nI 1))] rfl rfl (Nat.le_of_ble_eq_true rfl) dL_areAlike_69 70 rfl ?_
  refine z_iconst C (v := nI 0) rfl dL_areAlike_70 71 rfl ?_
  refine z_istore_n C hnL [1, 2, 3, 0] [(0, .ref (x 0)), (1, .ref (y 0)), (2, .int (nI 1)), (3, .int (nI 0))] rfl rfl (Nat.le_of_ble_eq_true rfl) dL_areAlike_71 72 rfl ?_
  have loop72 : ∀ (mu : Nat) (k : Nat) (J : oJ) (Jp : oJ), mu = 18 - k → k ≤ 18 → Z K 0 0 [wO K.g x a S J, wO K.g y b T Jp] [(0, .ref (x 0)), (1, .ref (y 0)), (2, .int (nI 1)), (3, .int (nI k))] 72 [] := by
    refine z_ind (fun mu ih72 => ?_)
    intro k J Jp hmu72 hk
    refine z_iload_n C 3 rfl rfl dL_areAlike_72 73 rfl ?_
    refine z_bipush C (v := nI 18) rfl dL_areAlike_73 75 rfl ?_
    refine z_icmp_ge C (by omega) (by omega) 170 dL_areAlike_75 (by decide) 78 rfl (fun c_16 => ?_) (fun c_16 => ?_)
    · skip
      refine z_iconst C (v := nI 0) rfl dL_areAlike_170 171 rfl ?_
      refine z_istore_n C hnL [1, 2, 3, 0] [(0, .ref (x 0)), (1, .ref (y 0)), (2, .int (nI 1)), (3, .int (nI 0))] rfl rfl (Nat.le_of_ble_eq_true rfl) dL_areAlike_171 172 rfl ?_
      have loop172 : ∀ (mu : Nat) (k : Nat) (J : oJ) (Jp : oJ), mu = 12 * sN S - k → k ≤ 12 * sN S → Z K 0 0 [wO K.g x a S J, wO K.g y b T Jp] [(0, .ref (x 0)), (1, .ref (y 0)), (2, .int (nI 1)), (3, .int (nI k))] 172 [] := by
        refine z_ind (fun mu ih172 => ?_)
        intro k J Jp hmu172 hk
        refine z_iload_n C 3 rfl rfl dL_areAlike_172 173 rfl ?_
        refine z_bipush C (v := nI 12) rfl dL_areAlike_173 175 rfl ?_
        refine z_aload_n C 0 rfl rfl dL_areAlike_175 176 rfl ?_
        refine z_bipush C (v := nI 7) rfl dL_areAlike_176 178 rfl ?_
        refine z_callV C [.int (nI 7)] [.int (nI 12), .int (nI k)] (tO_count K.l K.g x a S J 7 hI (by first | omega | assumption)) gL_areAlike_X4_count rfl rfl rfl hdX4_count ⟨Nat.le_of_ble_eq_true rfl, Nat.le_of_ble_eq_true rfl⟩ ⟨Nat.zero_le _, Nat.zero_le _⟩ 0 0 rfl rfl rfl [0] rfl rfl (zlc (N := 2) rfl rfl) [2, 1] rfl (by decide) (fun J2 : oJ => [wO K.g x a S J2, wO K.g y b T Jp]) (fun _ => rfl) rfl rfl (Nat.le_of_ble_eq_true rfl) dL_areAlike_178 181 rfl (fun u9 hu9 => ?_)
        obtain ⟨J2_17, rfl⟩ : ∃ z, z = u9 := ⟨_, rfl⟩
        show Z K 0 0 [wO K.g x a S J2_17, wO K.g y b T Jp] [(0, .ref (x 0)), (1, .ref (y 0)), (2, .int (nI 1)), (3, .int (nI k))] 181 [.int (nI (CN (sSt S) (sR S) (sN S) (sLen S) (sKp S) 7)), .int (nI 12), .int (nI k)]
        refine z_top (show (nI (CN (sSt S) (sR S) (sN S) (sLen S) (sKp S) 7) : Int32) = nI (sN S) from rfl) ?_
        refine z_imul C dL_areAlike_181 182 rfl ?_
        refine z_icmp_ge C (by omega) (by omega) 267 dL_areAlike_182 (by decide) 185 rfl (fun c_18 => ?_) (fun c_18 => ?_)
        · skip
          refine z_iconst C (v := nI 0) rfl dL_areAlike_267 268 rfl ?_
          refine z_istore_n C hnL [1, 2, 3, 0] [(0, .ref (x 0)), (1, .ref (y 0)), (2, .int (nI 1)), (3, .int (nI 0))] rfl rfl (Nat.le_of_ble_eq_true rfl) dL_areAlike_268 269 rfl ?_
          have loop269 : ∀ (mu : Nat) (k : Nat) (J : oJ) (Jp : oJ), mu = 4 - k → k ≤ 4 → Z K 0 0 [wO K.g x a S J, wO K.g y b T Jp] [(0, .ref (x 0)), (1, .ref (y 0)), (2, .int (nI 1)), (3, .int (nI k))] 269 [] := by
            refine z_ind (fun mu ih269 => ?_)
            intro k J Jp hmu269 hk
            refine z_iload_n C 3 rfl rfl dL_areAlike_269 270 rfl ?_
            refine z_iconst C (v := nI 4) rfl dL_areAlike_270 271 rfl ?_
            refine z_icmp_ge C (by omega) (by omega) 356 dL_areAlike_271 (by decide) 274 rfl (fun c_19 => ?_) (fun c_19 => ?_)
            · skip
              refine z_iload_n C 2 rfl rfl dL_areAlike_356 357 rfl ?_
              refine z_eq (st2 := [.int (bI true)]) ?_ rfl rfl rfl
              exact z_bret C hRx dL_areAlike_357 (J, Jp) rfl trivial rfl
            · skip
              refine z_iload_n C 2 rfl rfl dL_areAlike_274 275 rfl ?_
              refine z_if_eq C (by omega) 348 dL_areAlike_275 (by decide) 278 rfl (fun c_20 => ?_) (fun c_20 => ?_)
              · exfalso; omega
              refine z_iconst C (v := nI 2) rfl dL_areAlike_278 279 rfl ?_
              refine z_aload_n C 0 rfl rfl dL_areAlike_279 280 rfl ?_
              refine z_iload_n C 3 rfl rfl dL_areAlike_280 281 rfl ?_
              refine z_iconst C (v := nI 0) rfl dL_areAlike_281 282 rfl ?_
              refine z_callVE (E := eOrd) (fun _ _ _ e e2 h => eOrd.same e e2 h) (fun _ _ _ hS9 hW9 hAB => eOrd.later heOrd hS9 hW9 hAB) C [.int (nI k), .int (nI 0)] [.int (nI 2)] (tO_ifOrdered K.l K.g x a S J k 0 hI (by first | omega | assumption) (by first | omega | assumption)) gL_areAlike_X4_ifOrdered rfl rfl rfl hdX4_ifOrdered ⟨Nat.le_of_ble_eq_true rfl, Nat.le_of_ble_eq_true rfl⟩ ⟨Nat.zero_le _, Nat.zero_le _⟩ 0 0 rfl rfl rfl [0] rfl rfl (zlc (N := 2) rfl rfl) [2, 1] rfl (by decide) (fun J2 : oJ => [wO K.g x a S J2, wO K.g y b T Jp]) (fun _ => rfl) rfl rfl (Nat.le_of_ble_eq_true rfl) dL_areAlike_282 285 rfl (fun u9 hu9 => ?_)
              obtain ⟨J2_21, rfl⟩ : ∃ z, z = u9 := ⟨_, rfl⟩
              show Z K 0 0 [wO K.g x a S J2_21, wO K.g y b T Jp] [(0, .ref (x 0)), (1, .ref (y 0)), (2, .int (nI 1)), (3, .int (nI k))] 285 [.int (nI (IO (sSt S) (oR (sR S) (foR k) (sN S)) (sN S) 0)), .int (nI 2)]
              refine z_imul C dL_areAlike_285 286 rfl ?_
              refine z_aload_n C 1 rfl rfl dL_areAlike_286 287 rfl ?_
              refine z_iload_n C 3 rfl rfl dL_areAlike_287 288 rfl ?_
              refine z_iconst C (v := nI 0) rfl dL_areAlike_288 289 rfl ?_
              refine z_callVE (E := eOrd) (fun _ _ _ e e2 h => eOrd.same e e2 h) (fun _ _ _ hS9 hW9 hAB => eOrd.later heOrd hS9 hW9 hAB) C [.int (nI k), .int (nI 0)] [.int (nI (2 * (IO (sSt S) (oR (sR S) (foR k) (sN S)) (sN S) 0)))] (tO_ifOrdered K.l K.g y b T Jp k 0 hIT (by first | omega | assumption) (by first | omega | assumption)) gL_areAlike_X4_ifOrdered rfl rfl rfl hdX4_ifOrdered ⟨Nat.le_of_ble_eq_true rfl, Nat.le_of_ble_eq_true rfl⟩ ⟨Nat.zero_le _, Nat.zero_le _⟩ 1 0 rfl rfl rfl [1] rfl rfl (zlc (N := 2) rfl rfl) [0, 2] rfl (by decide) (fun J2 : oJ => [wO K.g x a S J2_21, wO K.g y b T J2]) (fun _ => rfl) rfl rfl (Nat.le_of_ble_eq_true rfl) dL_areAlike_289 292 rfl (fun u9 hu9 => ?_)
              obtain ⟨J2_22, rfl⟩ : ∃ z, z = u9 := ⟨_, rfl⟩
              show Z K 0 0 [wO K.g x a S J2_21, wO K.g y b T J2_22] [(0, .ref (x 0)), (1, .ref (y 0)), (2, .int (nI 1)), (3, .int (nI k))] 292 [.int (nI (IO (sSt T) (oR (sR T) (foR k) (sN T)) (sN T) 0)), .int (nI (2 * (IO (sSt S) (oR (sR S) (foR k) (sN S)) (sN S) 0)))]
              refine z_icmpI_ne C 348 dL_areAlike_292 (by decide) 295 rfl (fun c_23 => absurd (show (nI (2 * (IO (sSt S) (oR (sR S) (foR k) (sN S)) (sN S) 0)) : Int32) = nI (IO (sSt T) (oR (sR T) (foR k) (sN T)) (sN T) 0) from (congrArg nI (by rw [hN]; exact (d_IO (f := foR k) (k := 0) hds hdr hR (foR_lt (show k ≤ 3 by omega)) (by decide)).symm))) c_23) (fun c_23 => ?_)
              refine z_iconst C (v := nI 2) rfl dL_areAlike_295 296 rfl ?_
              refine z_aload_n C 0 rfl rfl dL_areAlike_296 297 rfl ?_
              refine z_iload_n C 3 rfl rfl dL_areAlike_297 298 rfl ?_
              refine z_iconst C (v := nI 1) rfl dL_areAlike_298 299 rfl ?_
              refine z_callVE (E := eOrd) (fun _ _ _ e e2 h => eOrd.same e e2 h) (fun _ _ _ hS9 hW9 hAB => eOrd.later heOrd hS9 hW9 hAB) C [.int (nI k), .int (nI 1)] [.int (nI 2)] (tO_ifOrdered K.l K.g x a S J2_21 k 1 hI (by first | omega | assumption) (by first | omega | assumption)) gL_areAlike_X4_ifOrdered rfl rfl rfl hdX4_ifOrdered ⟨Nat.le_of_ble_eq_true rfl, Nat.le_of_ble_eq_true rfl⟩ ⟨Nat.zero_le _, Nat.zero_le _⟩ 0 0 rfl rfl rfl [0] rfl rfl (zlc (N := 2) rfl rfl) [2, 1] rfl (by decide) (fun J2 : oJ => [wO K.g x a S J2, wO K.g y b T J2_22]) (fun _ => rfl) rfl rfl (Nat.le_of_ble_eq_true rfl) dL_areAlike_299 302 rfl (fun u9 hu9 => ?_)
              obtain ⟨J2_24, rfl⟩ : ∃ z, z = u9 := ⟨_, rfl⟩
              show Z K 0 0 [wO K.g x a S J2_24, wO K.g y b T J2_22] [(0, .ref (x 0)), (1, .ref (y 0)), (2, .int (nI 1)), (3, .int (nI k))] 302 [.int (nI (IO (sSt S) (oR (sR S) (foR k) (sN S)) (sN S) 1)), .int (nI 2)]
              refine z_imul C dL_areAlike_302 303 rfl ?_
              refine z_aload_n C 1 rfl rfl dL_areAlike_303 304 rfl ?_
              refine z_iload_n C 3 rfl rfl dL_areAlike_304 305 rfl ?_
              refine z_iconst C (v := nI 1) rfl dL_areAlike_305 306 rfl ?_
              refine z_callVE (E := eOrd) (fun _ _ _ e e2 h => eOrd.same e e2 h) (fun _ _ _ hS9 hW9 hAB => eOrd.later heOrd hS9 hW9 hAB) C [.int (nI k), .int (nI 1)] [.int (nI (2 * (IO (sSt S) (oR (sR S) (foR k) (sN S)) (sN S) 1)))] (tO_ifOrdered K.l K.g y b T J2_22 k 1 hIT (by first | omega | assumption) (by first | omega | assumption)) gL_areAlike_X4_ifOrdered rfl rfl rfl hdX4_ifOrdered ⟨Nat.le_of_ble_eq_true rfl, Nat.le_of_ble_eq_true rfl⟩ ⟨Nat.zero_le _, Nat.zero_le _⟩ 1 0 rfl rfl rfl [1] rfl rfl (zlc (N := 2) rfl rfl) [0, 2] rfl (by decide) (fun J2 : oJ => [wO K.g x a S J2_24, wO K.g y b T J2]) (fun _ => rfl) rfl rfl (Nat.le_of_ble_eq_true rfl) dL_areAlike_306 309 rfl (fun u9 hu9 => ?_)
              obtain ⟨J2_25, rfl⟩ : ∃ z, z = u9 := ⟨_, rfl⟩
              show Z K 0 0 [wO K.g x a S J2_24, wO K.g y b T J2_25] [(0, .ref (x 0)), (1, .ref (y 0)), (2, .int (nI 1)), (3, .int (nI k))] 309 [.int (nI (IO (sSt T) (oR (sR T) (foR k) (sN T)) (sN T) 1)), .int (nI (2 * (IO (sSt S) (oR (sR S) (foR k) (sN S)) (sN S) 1)))]
              refine z_icmpI_ne C 348 dL_areAlike_309 (by decide) 312 rfl (fun c_26 => absurd (show (nI (2 * (IO (sSt S) (oR (sR S) (foR k) (sN S)) (sN S) 1)) : Int32) = nI (IO (sSt T) (oR (sR T) (foR k) (sN T)) (sN T) 1) from (congrArg nI (by rw [hN]; exact (d_IO (f := foR k) (k := 1) hds hdr hR (foR_lt (show k ≤ 3 by omega)) (by decide)).symm))) c_26) (fun c_26 => ?_)
              refine z_iconst C (v := nI 2) rfl dL_areAlike_312 313 rfl ?_
              refine z_aload_n C 0 rfl rfl dL_areAlike_313 314 rfl ?_
              refine z_iload_n C 3 rfl rfl dL_areAlike_314 315 rfl ?_
              refine z_iconst C (v := nI 2) rfl dL_areAlike_315 316 rfl ?_
              refine z_callVE (E := eOrd) (fun _ _ _ e e2 h => eOrd.same e e2 h) (fun _ _ _ hS9 hW9 hAB => eOrd.later heOrd hS9 hW9 hAB) C [.int (nI k), .int (nI 2)] [.int (nI 2)] (tO_ifOrdered K.l K.g x a S J2_24 k 2 hI (by first | omega | assumption) (by first | omega | assumption)) gL_areAlike_X4_ifOrdered rfl rfl rfl hdX4_ifOrdered ⟨Nat.le_of_ble_eq_true rfl, Nat.le_of_ble_eq_true rfl⟩ ⟨Nat.zero_le _, Nat.zero_le _⟩ 0 0 rfl rfl rfl [0] rfl rfl (zlc (N := 2) rfl rfl) [2, 1] rfl (by decide) (fun J2 : oJ => [wO K.g x a S J2, wO K.g y b T J2_25]) (fun _ => rfl) rfl rfl (Nat.le_of_ble_eq_true rfl) dL_areAlike_316 319 rfl (fun u9 hu9 => ?_)
              obtain ⟨J2_27, rfl⟩ : ∃ z, z = u9 := ⟨_, rfl⟩
              show Z K 0 0 [wO K.g x a S J2_27, wO K.g y b T J2_25] [(0, .ref (x 0)), (1, .ref (y 0)), (2, .int (nI 1)), (3, .int (nI k))] 319 [.int (nI (IO (sSt S) (oR (sR S) (foR k) (sN S)) (sN S) 2)), .int (nI 2)]
              refine z_imul C dL_areAlike_319 320 rfl ?_
              refine z_aload_n C 1 rfl rfl dL_areAlike_320 321 rfl ?_
              refine z_iload_n C 3 rfl rfl dL_areAlike_321 322 rfl ?_
              refine z_iconst C (v := nI 2) rfl dL_areAlike_322 323 rfl ?_
              refine z_callVE (E := eOrd) (fun _ _ _ e e2 h => eOrd.same e e2 h) (fun _ _ _ hS9 hW9 hAB => eOrd.later heOrd hS9 hW9 hAB) C [.int (nI k), .int (nI 2)] [.int (nI (2 * (IO (sSt S) (oR (sR S) (foR k) (sN S)) (sN S) 2)))] (tO_ifOrdered K.l K.g y b T J2_25 k 2 hIT (by first | omega | assumption) (by first | omega | assumption)) gL_areAlike_X4_ifOrdered rfl rfl rfl hdX4_ifOrdered ⟨Nat.le_of_ble_eq_true rfl, Nat.le_of_ble_eq_true rfl⟩ ⟨Nat.zero_le _, Nat.zero_le _⟩ 1 0 rfl rfl rfl [1] rfl rfl (zlc (N := 2) rfl rfl) [0, 2] rfl (by decide) (fun J2 : oJ => [wO K.g x a S J2_27, wO K.g y b T J2]) (fun _ => rfl) rfl rfl (Nat.le_of_ble_eq_true rfl) dL_areAlike_323 326 rfl (fun u9 hu9 => ?_)
              obtain ⟨J2_28, rfl⟩ : ∃ z, z = u9 := ⟨_, rfl⟩
              show Z K 0 0 [wO K.g x a S J2_27, wO K.g y b T J2_28] [(0, .ref (x 0)), (1, .ref (y 0)), (2, .int (nI 1)), (3, .int (nI k))] 326 [.int (nI (IO (sSt T) (oR (sR T) (foR k) (sN T)) (sN T) 2)), .int (nI (2 * (IO (sSt S) (oR (sR S) (foR k) (sN S)) (sN S) 2)))]
              refine z_icmpI_ne C 348 dL_areAlike_326 (by decide) 329 rfl (fun c_29 => absurd (show (nI (2 * (IO (sSt S) (oR (sR S) (foR k) (sN S)) (sN S) 2)) : Int32) = nI (IO (sSt T) (oR (sR T) (foR k) (sN T)) (sN T) 2) from (congrArg nI (by rw [hN]; exact (d_IO (f := foR k) (k := 2) hds hdr hR (foR_lt (show k ≤ 3 by omega)) (by decide)).symm))) c_29) (fun c_29 => ?_)
              refine z_aload_n C 0 rfl rfl dL_areAlike_329 330 rfl ?_
              refine z_iload_n C 3 rfl rfl dL_areAlike_330 331 rfl ?_
              refine z_iconst C (v := nI 3) rfl dL_areAlike_331 332 rfl ?_
              refine z_callVE (E := eOrd) (fun _ _ _ e e2 h => eOrd.same e e2 h) (fun _ _ _ hS9 hW9 hAB => eOrd.later heOrd hS9 hW9 hAB) C [.int (nI k), .int (nI 3)] [] (tO_ifOrdered K.l K.g x a S J2_27 k 3 hI (by first | omega | assumption) (by first | omega | assumption)) gL_areAlike_X4_ifOrdered rfl rfl rfl hdX4_ifOrdered ⟨Nat.le_of_ble_eq_true rfl, Nat.le_of_ble_eq_true rfl⟩ ⟨Nat.zero_le _, Nat.zero_le _⟩ 0 0 rfl rfl rfl [0] rfl rfl (zlc (N := 2) rfl rfl) [2, 1] rfl (by decide) (fun J2 : oJ => [wO K.g x a S J2, wO K.g y b T J2_28]) (fun _ => rfl) rfl rfl (Nat.le_of_ble_eq_true rfl) dL_areAlike_332 335 rfl (fun u9 hu9 => ?_)
              obtain ⟨J2_30, rfl⟩ : ∃ z, z = u9 := ⟨_, rfl⟩
              show Z K 0 0 [wO K.g x a S J2_30, wO K.g y b T J2_28] [(0, .ref (x 0)), (1, .ref (y 0)), (2, .int (nI 1)), (3, .int (nI k))] 335 [.int (nI (IO (sSt S) (oR (sR S) (foR k) (sN S)) (sN S) 3))]
              refine z_aload_n C 1 rfl rfl dL_areAlike_335 336 rfl ?_
              refine z_iload_n C 3 rfl rfl dL_areAlike_336 337 rfl ?_
              refine z_iconst C (v := nI 3) rfl dL_areAlike_337 338 rfl ?_
              refine z_callVE (E := eOrd) (fun _ _ _ e e2 h => eOrd.same e e2 h) (fun _ _ _ hS9 hW9 hAB => eOrd.later heOrd hS9 hW9 hAB) C [.int (nI k), .int (nI 3)] [.int (nI (IO (sSt S) (oR (sR S) (foR k) (sN S)) (sN S) 3))] (tO_ifOrdered K.l K.g y b T J2_28 k 3 hIT (by first | omega | assumption) (by first | omega | assumption)) gL_areAlike_X4_ifOrdered rfl rfl rfl hdX4_ifOrdered ⟨Nat.le_of_ble_eq_true rfl, Nat.le_of_ble_eq_true rfl⟩ ⟨Nat.zero_le _, Nat.zero_le _⟩ 1 0 rfl rfl rfl [1] rfl rfl (zlc (N := 2) rfl rfl) [0, 2] rfl (by decide) (fun J2 : oJ => [wO K.g x a S J2_30, wO K.g y b T J2]) (fun _ => rfl) rfl rfl (Nat.le_of_ble_eq_true rfl) dL_areAlike_338 341 rfl (fun u9 hu9 => ?_)
              obtain ⟨J2_31, rfl⟩ : ∃ z, z = u9 := ⟨_, rfl⟩
              show Z K 0 0 [wO K.g x a S J2_30, wO K.g y b T J2_31] [(0, .ref (x 0)), (1, .ref (y 0)), (2, .int (nI 1)), (3, .int (nI k))] 341 [.int (nI (IO (sSt T) (oR (sR T) (foR k) (sN T)) (sN T) 3)), .int (nI (IO (sSt S) (oR (sR S) (foR k) (sN S)) (sN S) 3))]
              refine z_icmpI_ne C 348 dL_areAlike_341 (by decide) 344 rfl (fun c_32 => absurd (show (nI (IO (sSt S) (oR (sR S) (foR k) (sN S)) (sN S) 3) : Int32) = nI (IO (sSt T) (oR (sR T) (foR k) (sN T)) (sN T) 3) from (congrArg nI (by rw [hN]; exact (d_IO (f := foR k) (k := 3) hds hdr hR (foR_lt (show k ≤ 3 by omega)) (by decide)).symm))) c_32) (fun c_32 => ?_)
              refine z_iconst C (v := nI 1) rfl dL_areAlike_344 345 rfl ?_
              refine z_goto C 349 dL_areAlike_345 (by decide) ?_
              refine z_istore_n C hnL [1, 2, 0, 3] [(0, .ref (x 0)), (1, .ref (y 0)), (2, .int (nI 1)), (3, .int (nI k))] rfl rfl (Nat.le_of_ble_eq_true rfl) dL_areAlike_349 350 rfl ?_
              refine z_iinc C hnL 3 rfl (v := (nI (k + 1))) (nI_1 _) [1, 2, 3, 0] [(0, .ref (x 0)), (1, .ref (y 0)), (2, .int (nI 1)), (3, .int (nI (k + 1)))] rfl (Nat.le_of_ble_eq_true rfl) dL_areAlike_350 353 rfl ?_
              refine z_goto C 269 dL_areAlike_353 (by decide) ?_
              exact ih269 _ (by omega) (k + 1) J2_30 J2_31 rfl (by omega)
          exact loop269 _ 0 J2_17 Jp rfl (by omega)
        · skip
          have jn2 : ∀ (mb : Nat), ((mb = 1 ∧ jMin (k % 12) = true) ∨ (mb = 0 ∧ jMin (k % 12) = false)) → Z K 0 0 [wO K.g x a S J2_17, wO K.g y b T Jp] [(0, .ref (x 0)), (1, .ref (y 0)), (2, .int (nI 1)), (3, .int (nI k))] 206 [.int (nI mb)] := by
            intro mb hmb
            refine z_istore C hnL [1, 2, 3, 4, 0] [(0, .ref (x 0)), (1, .ref (y 0)), (2, .int (nI 1)), (3, .int (nI k)), (4, .int (nI mb))] rfl (Nat.le_of_ble_eq_true rfl) dL_areAlike_206 208 rfl ?_
            refine z_aload_n C 0 rfl rfl dL_areAlike_208 209 rfl ?_
            refine z_iload_n C 3 rfl rfl dL_areAlike_209 210 rfl ?_
            refine z_bipush C (v := nI 12) rfl dL_areAlike_210 212 rfl ?_
            refine z_idiv C (by omega) (by omega) (by omega) dL_areAlike_212 213 rfl ?_
            refine z_iload_n C 3 rfl rfl dL_areAlike_213 214 rfl ?_
            refine z_bipush C (v := nI 12) rfl dL_areAlike_214 216 rfl ?_
            refine z_irem C (by omega) (by omega) (by omega) dL_areAlike_216 217 rfl ?_
            refine z_callV C [.int (nI (k / 12)), .int (nI (k % 12))] [] (tO_jobOf K.l K.g x a S J2_17 (k / 12) (k % 12) hI (by omega) (by omega)) gL_areAlike_X4_jobOf rfl rfl rfl hdX4_jobOf ⟨Nat.le_of_ble_eq_true rfl, Nat.le_of_ble_eq_true rfl⟩ ⟨Nat.zero_le _, Nat.zero_le _⟩ 0 0 rfl rfl rfl [0] rfl rfl (zlc (N := 2) rfl rfl) [2, 1] rfl (by decide) (fun J2 : oJ => [wO K.g x a S J2, wO K.g y b T Jp]) (fun _ => rfl) rfl rfl (Nat.le_of_ble_eq_true rfl) dL_areAlike_217 220 rfl (fun u9 hu9 => ?_)
            obtain ⟨J2_33, rfl⟩ : ∃ z, z = u9 := ⟨_, rfl⟩
            show Z K 0 0 [wO K.g x a S J2_33, wO K.g y b T Jp] [(0, .ref (x 0)), (1, .ref (y 0)), (2, .int (nI 1)), (3, .int (nI k)), (4, .int (nI mb))] 220 [.int (nI (JO (sSt S) (sR S) (sN S) (k / 12) (k % 12)))]
            refine z_nm (fun x_34 ex_34 => ?_)
            refine z_istore C hnL [1, 2, 3, 4, 5, 0] [(0, .ref (x 0)), (1, .ref (y 0)), (2, .int (nI 1)), (3, .int (nI k)), (4, .int (nI mb)), (5, .int (nI x_34))] rfl (Nat.le_of_ble_eq_true rfl) dL_areAlike_220 222 rfl ?_
            refine z_iload_n C 2 rfl rfl dL_areAlike_222 223 rfl ?_
            refine z_if_eq C (by omega) 259 dL_areAlike_223 (by decide) 226 rfl (fun c_35 => ?_) (fun c_35 => ?_)
            · exfalso; omega
            have jnw : ∀ (v : Nat), (v = JO (sSt T) (sR T) (sN T) (k / 12) (k % 12)) → Z K 0 0 [wO K.g x a S J2_33, wO K.g y b T Jp] [(0, .ref (x 0)), (1, .ref (y 0)), (2, .int (nI 1)), (3, .int (nI k)), (4, .int (nI mb)), (5, .int (nI x_34))] 240 [.int (nI v)] := by
              intro v hv
              refine z_aload_n C 1 rfl rfl dL_areAlike_240 241 rfl ?_
              refine z_iload_n C 3 rfl rfl dL_areAlike_241 242 rfl ?_
              refine z_bipush C (v := nI 12) rfl dL_areAlike_242 244 rfl ?_
              refine z_idiv C (by omega) (by omega) (by omega) dL_areAlike_244 245 rfl ?_
              refine z_iload_n C 3 rfl rfl dL_areAlike_245 246 rfl ?_
              refine z_bipush C (v := nI 12) rfl dL_areAlike_246 248 rfl ?_
              refine z_irem C (by omega) (by omega) (by omega) dL_areAlike_248 249 rfl ?_
              refine z_callV C [.int (nI (k / 12)), .int (nI (k % 12))] [.int (nI v)] (tO_jobOf K.l K.g y b T Jp (k / 12) (k % 12) hIT (by omega) (by omega)) gL_areAlike_X4_jobOf rfl rfl rfl hdX4_jobOf ⟨Nat.le_of_ble_eq_true rfl, Nat.le_of_ble_eq_true rfl⟩ ⟨Nat.zero_le _, Nat.zero_le _⟩ 1 0 rfl rfl rfl [1] rfl rfl (zlc (N := 2) rfl rfl) [0, 2] rfl (by decide) (fun J2 : oJ => [wO K.g x a S J2_33, wO K.g y b T J2]) (fun _ => rfl) rfl rfl (Nat.le_of_ble_eq_true rfl) dL_areAlike_249 252 rfl (fun u9 hu9 => ?_)
              obtain ⟨J2_36, rfl⟩ : ∃ z, z = u9 := ⟨_, rfl⟩
              show Z K 0 0 [wO K.g x a S J2_33, wO K.g y b T J2_36] [(0, .ref (x 0)), (1, .ref (y 0)), (2, .int (nI 1)), (3, .int (nI k)), (4, .int (nI mb)), (5, .int (nI x_34))] 252 [.int (nI (JO (sSt T) (sR T) (sN T) (k / 12) (k % 12))), .int (nI v)]
              refine z_icmpI_ne C 259 dL_areAlike_252 (by decide) 255 rfl (fun c_37 => absurd (show (nI v : Int32) = nI (JO (sSt T) (sR T) (sN T) (k / 12) (k % 12)) from (congrArg nI hv)) c_37) (fun c_37 => ?_)
              refine z_iconst C (v := nI 1) rfl dL_areAlike_255 256 rfl ?_
              refine z_goto C 260 dL_areAlike_256 (by decide) ?_
              refine z_istore_n C hnL [1, 2, 0, 3, 4, 5] [(0, .ref (x 0)), (1, .ref (y 0)), (2, .int (nI 1)), (3, .int (nI k)), (4, .int (nI mb)), (5, .int (nI x_34))] rfl rfl (Nat.le_of_ble_eq_true rfl) dL_areAlike_260 261 rfl ?_
              refine z_iinc C hnL 3 rfl (v := (nI (k + 1))) (nI_1 _) [1, 2, 3, 0, 4, 5] [(0, .ref (x 0)), (1, .ref (y 0)), (2, .int (nI 1)), (3, .int (nI (k + 1))), (4, .int (nI mb)), (5, .int (nI x_34))] rfl (Nat.le_of_ble_eq_true rfl) dL_areAlike_261 264 rfl ?_
              refine z_goto C 172 dL_areAlike_264 (by decide) ?_
              refine z_lv [0, 1, 2, 3] [(0, .ref (x 0)), (1, .ref (y 0)), (2, .int (nI 1)), (3, .int (nI (k + 1)))] rfl ?_
              exact ih172 _ (by omega) (k + 1) J2_33 J2_36 rfl (by omega)
            refine z_iload C 4 rfl dL_areAlike_226 228 rfl ?_
            refine z_if_eq C (by omega) 238 dL_areAlike_228 (by decide) 231 rfl (fun c_38 => ?_) (fun c_38 => ?_)
            · skip
              refine z_iload C 5 rfl dL_areAlike_238 240 rfl ?_
              exact jnw x_34 (by rw [ex_34]; exact d_JOf hRel hI (by omega) (by omega) (mbF hmb (by omega)))
            · skip
              refine z_iconst C (v := nI 2) rfl dL_areAlike_231 232 rfl ?_
              refine z_iload C 5 rfl dL_areAlike_232 234 rfl ?_
              refine z_imul C dL_areAlike_234 235 rfl ?_
              refine z_goto C 240 dL_areAlike_235 (by decide) ?_
              exact jnw (2 * x_34) (by rw [ex_34]; exact d_JOt hRel hI (by omega) (by omega) (mbT hmb (by omega)))
          refine z_iload_n C 3 rfl rfl dL_areAlike_185 186 rfl ?_
          refine z_bipush C (v := nI 12) rfl dL_areAlike_186 188 rfl ?_
          refine z_irem C (by omega) (by omega) (by omega) dL_areAlike_188 189 rfl ?_
          refine z_iconst C (v := nI 3) rfl dL_areAlike_189 190 rfl ?_
          refine z_icmp_eq C (by omega) (by omega) 201 dL_areAlike_190 (by decide) 193 rfl (fun c_39 => ?_) (fun c_39 => ?_)
          · skip
            refine z_iconst C (v := nI 1) rfl dL_areAlike_201 202 rfl ?_
            refine z_goto C 206 dL_areAlike_202 (by decide) ?_
            exact jn2 1 (Or.inl ⟨rfl, decide_eq_true (by omega)⟩)
          · skip
            refine z_iload_n C 3 rfl rfl dL_areAlike_193 194 rfl ?_
            refine z_bipush C (v := nI 12) rfl dL_areAlike_194 196 rfl ?_
            refine z_irem C (by omega) (by omega) (by omega) dL_areAlike_196 197 rfl ?_
            refine z_iconst C (v := nI 4) rfl dL_areAlike_197 198 rfl ?_
            refine z_icmp_le C (by omega) (by omega) 205 dL_areAlike_198 (by decide) 201 rfl (fun c_40 => ?_) (fun c_40 => ?_)
            · skip
              refine z_iconst C (v := nI 0) rfl dL_areAlike_205 206 rfl ?_
              exact jn2 0 (Or.inr ⟨rfl, decide_eq_false (by omega)⟩)
            · skip
              refine z_iconst C (v := nI 1) rfl dL_areAlike_201 202 rfl ?_
              refine z_goto C 206 dL_areAlike_202 (by decide) ?_
              exact jn2 1 (Or.inl ⟨rfl, decide_eq_true (by omega)⟩)
      exact loop172 _ 0 J Jp rfl (by omega)
    · skip
      have jn1 : ∀ (mb : Nat), ((mb = 1 ∧ cMin k = true) ∨ (mb = 0 ∧ cMin k = false)) → Z K 0 0 [wO K.g x a S J, wO K.g y b T Jp] [(0, .ref (x 0)), (1, .ref (y 0)), (2, .int (nI 1)), (3, .int (nI k))] 124 [.int (nI mb)] := by
        intro mb hmb
        refine z_istore C hnL [1, 2, 3, 4, 0] [(0, .ref (x 0)), (1, .ref (y 0)), (2, .int (nI 1)), (3, .int (nI k)), (4, .int (nI mb))] rfl (Nat.le_of_ble_eq_true rfl) dL_areAlike_124 126 rfl ?_
        refine z_iload_n C 2 rfl rfl dL_areAlike_126 127 rfl ?_
        refine z_if_eq C (by omega) 162 dL_areAlike_127 (by decide) 130 rfl (fun c_41 => ?_) (fun c_41 => ?_)
        · exfalso; omega
        have jnv : ∀ (v : Nat) (J9 : oJ), (v = CN (sSt T) (sR T) (sN T) (sLen T) (sKp T) k) → Z K 0 0 [wO K.g x a S J9, wO K.g y b T Jp] [(0, .ref (x 0)), (1, .ref (y 0)), (2, .int (nI 1)), (3, .int (nI k)), (4, .int (nI mb))] 150 [.int (nI v)] := by
          intro v J9 hv
          refine z_aload_n C 1 rfl rfl dL_areAlike_150 151 rfl ?_
          refine z_iload_n C 3 rfl rfl dL_areAlike_151 152 rfl ?_
          refine z_callV C [.int (nI k)] [.int (nI v)] (tO_count K.l K.g y b T Jp k hIT (by first | omega | assumption)) gL_areAlike_X4_count rfl rfl rfl hdX4_count ⟨Nat.le_of_ble_eq_true rfl, Nat.le_of_ble_eq_true rfl⟩ ⟨Nat.zero_le _, Nat.zero_le _⟩ 1 0 rfl rfl rfl [1] rfl rfl (zlc (N := 2) rfl rfl) [0, 2] rfl (by decide) (fun J2 : oJ => [wO K.g x a S J9, wO K.g y b T J2]) (fun _ => rfl) rfl rfl (Nat.le_of_ble_eq_true rfl) dL_areAlike_152 155 rfl (fun u9 hu9 => ?_)
          obtain ⟨J2_42, rfl⟩ : ∃ z, z = u9 := ⟨_, rfl⟩
          show Z K 0 0 [wO K.g x a S J9, wO K.g y b T J2_42] [(0, .ref (x 0)), (1, .ref (y 0)), (2, .int (nI 1)), (3, .int (nI k)), (4, .int (nI mb))] 155 [.int (nI (CN (sSt T) (sR T) (sN T) (sLen T) (sKp T) k)), .int (nI v)]
          refine z_icmpI_ne C 162 dL_areAlike_155 (by decide) 158 rfl (fun c_43 => absurd (show (nI v : Int32) = nI (CN (sSt T) (sR T) (sN T) (sLen T) (sKp T) k) from (congrArg nI hv)) c_43) (fun c_43 => ?_)
          refine z_iconst C (v := nI 1) rfl dL_areAlike_158 159 rfl ?_
          refine z_goto C 163 dL_areAlike_159 (by decide) ?_
          refine z_istore_n C hnL [1, 2, 0, 3, 4] [(0, .ref (x 0)), (1, .ref (y 0)), (2, .int (nI 1)), (3, .int (nI k)), (4, .int (nI mb))] rfl rfl (Nat.le_of_ble_eq_true rfl) dL_areAlike_163 164 rfl ?_
          refine z_iinc C hnL 3 rfl (v := (nI (k + 1))) (nI_1 _) [1, 2, 3, 0, 4] [(0, .ref (x 0)), (1, .ref (y 0)), (2, .int (nI 1)), (3, .int (nI (k + 1))), (4, .int (nI mb))] rfl (Nat.le_of_ble_eq_true rfl) dL_areAlike_164 167 rfl ?_
          refine z_goto C 72 dL_areAlike_167 (by decide) ?_
          refine z_lv [0, 1, 2, 3] [(0, .ref (x 0)), (1, .ref (y 0)), (2, .int (nI 1)), (3, .int (nI (k + 1)))] rfl ?_
          exact ih72 _ (by omega) (k + 1) J9 J2_42 rfl (by omega)
        refine z_iload C 4 rfl dL_areAlike_130 132 rfl ?_
        refine z_if_eq C (by omega) 145 dL_areAlike_132 (by decide) 135 rfl (fun c_44 => ?_) (fun c_44 => ?_)
        · skip
          refine z_aload_n C 0 rfl rfl dL_areAlike_145 146 rfl ?_
          refine z_iload_n C 3 rfl rfl dL_areAlike_146 147 rfl ?_
          refine z_callV C [.int (nI k)] [] (tO_count K.l K.g x a S J k hI (by first | omega | assumption)) gL_areAlike_X4_count rfl rfl rfl hdX4_count ⟨Nat.le_of_ble_eq_true rfl, Nat.le_of_ble_eq_true rfl⟩ ⟨Nat.zero_le _, Nat.zero_le _⟩ 0 0 rfl rfl rfl [0] rfl rfl (zlc (N := 2) rfl rfl) [2, 1] rfl (by decide) (fun J2 : oJ => [wO K.g x a S J2, wO K.g y b T Jp]) (fun _ => rfl) rfl rfl (Nat.le_of_ble_eq_true rfl) dL_areAlike_147 150 rfl (fun u9 hu9 => ?_)
          obtain ⟨J2_45, rfl⟩ : ∃ z, z = u9 := ⟨_, rfl⟩
          show Z K 0 0 [wO K.g x a S J2_45, wO K.g y b T Jp] [(0, .ref (x 0)), (1, .ref (y 0)), (2, .int (nI 1)), (3, .int (nI k)), (4, .int (nI mb))] 150 [.int (nI (CN (sSt S) (sR S) (sN S) (sLen S) (sKp S) k))]
          exact jnv (CN (sSt S) (sR S) (sN S) (sLen S) (sKp S) k) J2_45 (d_CNf hRel hI (by omega) (mbF hmb (by omega)))
        · skip
          refine z_iconst C (v := nI 2) rfl dL_areAlike_135 136 rfl ?_
          refine z_aload_n C 0 rfl rfl dL_areAlike_136 137 rfl ?_
          refine z_iload_n C 3 rfl rfl dL_areAlike_137 138 rfl ?_
          refine z_callV C [.int (nI k)] [.int (nI 2)] (tO_count K.l K.g x a S J k hI (by first | omega | assumption)) gL_areAlike_X4_count rfl rfl rfl hdX4_count ⟨Nat.le_of_ble_eq_true rfl, Nat.le_of_ble_eq_true rfl⟩ ⟨Nat.zero_le _, Nat.zero_le _⟩ 0 0 rfl rfl rfl [0] rfl rfl (zlc (N := 2) rfl rfl) [2, 1] rfl (by decide) (fun J2 : oJ => [wO K.g x a S J2, wO K.g y b T Jp]) (fun _ => rfl) rfl rfl (Nat.le_of_ble_eq_true rfl) dL_areAlike_138 141 rfl (fun u9 hu9 => ?_)
          obtain ⟨J2_46, rfl⟩ : ∃ z, z = u9 := ⟨_, rfl⟩
          show Z K 0 0 [wO K.g x a S J2_46, wO K.g y b T Jp] [(0, .ref (x 0)), (1, .ref (y 0)), (2, .int (nI 1)), (3, .int (nI k)), (4, .int (nI mb))] 141 [.int (nI (CN (sSt S) (sR S) (sN S) (sLen S) (sKp S) k)), .int (nI 2)]
          refine z_imul C dL_areAlike_141 142 rfl ?_
          refine z_goto C 150 dL_areAlike_142 (by decide) ?_
          exact jnv (2 * (CN (sSt S) (sR S) (sN S) (sLen S) (sKp S) k)) J2_46 (d_CNt hRel hI (by omega) (mbT hmb (by omega)))
      refine z_iload_n C 3 rfl rfl dL_areAlike_78 79 rfl ?_
      refine z_iconst C (v := nI 5) rfl dL_areAlike_79 80 rfl ?_
      refine z_icmp_lt C (by omega) (by omega) 119 dL_areAlike_80 (by decide) 83 rfl (fun c_47 => ?_) (fun c_47 => ?_)
      · skip
        refine z_iconst C (v := nI 1) rfl dL_areAlike_119 120 rfl ?_
        refine z_goto C 124 dL_areAlike_120 (by decide) ?_
        exact jn1 1 (Or.inl ⟨rfl, decide_eq_true (by omega)⟩)
      · skip
        refine z_iload_n C 3 rfl rfl dL_areAlike_83 84 rfl ?_
        refine z_bipush C (v := nI 9) rfl dL_areAlike_84 86 rfl ?_
        refine z_icmp_eq C (by omega) (by omega) 119 dL_areAlike_86 (by decide) 89 rfl (fun c_48 => ?_) (fun c_48 => ?_)
        · skip
          refine z_iconst C (v := nI 1) rfl dL_areAlike_119 120 rfl ?_
          refine z_goto C 124 dL_areAlike_120 (by decide) ?_
          exact jn1 1 (Or.inl ⟨rfl, decide_eq_true (by omega)⟩)
        · skip
          refine z_iload_n C 3 rfl rfl dL_areAlike_89 90 rfl ?_
          refine z_bipush C (v := nI 10) rfl dL_areAlike_90 92 rfl ?_
          refine z_icmp_eq C (by omega) (by omega) 119 dL_areAlike_92 (by decide) 95 rfl (fun c_49 => ?_) (fun c_49 => ?_)
          · skip
            refine z_iconst C (v := nI 1) rfl dL_areAlike_119 120 rfl ?_
            refine z_goto C 124 dL_areAlike_120 (by decide) ?_
            exact jn1 1 (Or.inl ⟨rfl, decide_eq_true (by omega)⟩)
          · skip
            refine z_iload_n C 3 rfl rfl dL_areAlike_95 96 rfl ?_
            refine z_bipush C (v := nI 12) rfl dL_areAlike_96 98 rfl ?_
            refine z_icmp_eq C (by omega) (by omega) 119 dL_areAlike_98 (by decide) 101 rfl (fun c_50 => ?_) (fun c_50 => ?_)
            · skip
              refine z_iconst C (v := nI 1) rfl dL_areAlike_119 120 rfl ?_
              refine z_goto C 124 dL_areAlike_120 (by decide) ?_
              exact jn1 1 (Or.inl ⟨rfl, decide_eq_true (by omega)⟩)
            · skip
              refine z_iload_n C 3 rfl rfl dL_areAlike_101 102 rfl ?_
              refine z_bipush C (v := nI 13) rfl dL_areAlike_102 104 rfl ?_
              refine z_icmp_eq C (by omega) (by omega) 119 dL_areAlike_104 (by decide) 107 rfl (fun c_51 => ?_) (fun c_51 => ?_)
              · skip
                refine z_iconst C (v := nI 1) rfl dL_areAlike_119 120 rfl ?_
                refine z_goto C 124 dL_areAlike_120 (by decide) ?_
                exact jn1 1 (Or.inl ⟨rfl, decide_eq_true (by omega)⟩)
              · skip
                refine z_iload_n C 3 rfl rfl dL_areAlike_107 108 rfl ?_
                refine z_bipush C (v := nI 14) rfl dL_areAlike_108 110 rfl ?_
                refine z_icmp_eq C (by omega) (by omega) 119 dL_areAlike_110 (by decide) 113 rfl (fun c_52 => ?_) (fun c_52 => ?_)
                · skip
                  refine z_iconst C (v := nI 1) rfl dL_areAlike_119 120 rfl ?_
                  refine z_goto C 124 dL_areAlike_120 (by decide) ?_
                  exact jn1 1 (Or.inl ⟨rfl, decide_eq_true (by omega)⟩)
                · skip
                  refine z_iload_n C 3 rfl rfl dL_areAlike_113 114 rfl ?_
                  refine z_bipush C (v := nI 16) rfl dL_areAlike_114 116 rfl ?_
                  refine z_icmp_ne C (by omega) (by omega) 123 dL_areAlike_116 (by decide) 119 rfl (fun c_53 => ?_) (fun c_53 => ?_)
                  · skip
                    refine z_iconst C (v := nI 0) rfl dL_areAlike_123 124 rfl ?_
                    exact jn1 0 (Or.inr ⟨rfl, decide_eq_false (by omega)⟩)
                  · skip
                    refine z_iconst C (v := nI 1) rfl dL_areAlike_119 120 rfl ?_
                    refine z_goto C 124 dL_areAlike_120 (by decide) ?_
                    exact jn1 1 (Or.inl ⟨rfl, decide_eq_true (by omega)⟩)
  exact loop72 _ 0 J2_13 J2_14 rfl (by omega)

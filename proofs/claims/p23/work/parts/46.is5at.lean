/-! IS: at -/
set_option maxHeartbeats 4000000 in
set_option maxRecDepth 100000 in
theorem is_at {K : zK} {A : Nat → Prop} (C : Cx K ({ frames := 8, cells := 0, slots := 0, locals := 175 } : Room) RL cL_isStep wsL_isStep) (hnL : K.nL = 17) (x : Nat → Nat) (a : oA) (S : oS) (J : oJ) (y : Nat → Nat) (b : oA) (T : oS) (Jp : oJ) (v w z : Int32) (jb pl sh hu du : Nat) (hRx : RS K x a y b A) (hE : eAll K.A K.s) (hI : INV S) (hIT : INV T) (hRel : REL S T 6) (hjb : (sN S = 0 ∧ jb = 0) ∨ jb < sN S) (hpl : pl ≤ 3) (hsh : sh ≤ 9) (hu1 : 1 ≤ hu) (hu2 : hu ≤ 20) (hdu : du ≤ 1500) : Z K 0 0 [wO K.g x a S J, wO K.g y b T Jp] [(0, .ref (x 0)), (1, .ref (y 0)), (2, .int v), (3, .int w), (4, .int z), (5, .int (nI (sN S))), (6, .int (nI jb)), (7, .int (nI pl)), (8, .int (nI sh)), (9, .int (nI hu)), (10, .int (nI du))] 935 [] := by
  have heAll := hE
  obtain ⟨heSet, heOrd⟩ := hE
  obtain ⟨hn, hS, hJ, hR⟩ := id hI.1
  obtain ⟨⟨hN, hds, hdr⟩, hkp, hnx, hhi, hsl⟩ := id hRel
  have h5b := hS.2.2.2.2.2.2.2.1
  have h6b := hS.2.2.2.2.2.2.2.2
  refine z_iload_n C 3 rfl rfl dL_isStep_935 936 rfl ?_
  refine z_sipush C (v := nI 3000) rfl dL_isStep_936 939 rfl ?_
  refine z_callP C [.int w, .int (nI 3000)] [] (tL_up K.l K.g w 3000 (by decide) (by decide)) gL_isStep_L_up rfl rfl rfl hdL_up ⟨Nat.le_of_ble_eq_true rfl, Nat.le_of_ble_eq_true rfl⟩ ⟨Nat.zero_le _, Nat.zero_le _⟩ rfl rfl (Nat.le_of_ble_eq_true rfl) dL_isStep_939 942 rfl (fun u9 hu9 => ?_)
  show Z K 0 0 [wO K.g x a S J, wO K.g y b T Jp] [(0, .ref (x 0)), (1, .ref (y 0)), (2, .int v), (3, .int w), (4, .int z), (5, .int (nI (sN S))), (6, .int (nI jb)), (7, .int (nI pl)), (8, .int (nI sh)), (9, .int (nI hu)), (10, .int (nI du))] 942 [.int (nI (upN w 3000))]
  refine z_nm (fun mi emi => ?_)
  have hu_mi : mi < 3000 := by rw [emi]; exact upN_lt (by decide)
  refine z_istore C hnL [1, 2, 3, 4, 5, 6, 7, 8, 9, 10, 11, 0] [(0, .ref (x 0)), (1, .ref (y 0)), (2, .int v), (3, .int w), (4, .int z), (5, .int (nI (sN S))), (6, .int (nI jb)), (7, .int (nI pl)), (8, .int (nI sh)), (9, .int (nI hu)), (10, .int (nI du)), (11, .int (nI mi))] rfl (Nat.le_of_ble_eq_true rfl) dL_isStep_942 944 rfl ?_
  refine z_iconst C (v := nI 1) rfl dL_isStep_944 945 rfl ?_
  refine z_istore C hnL [1, 2, 3, 4, 5, 6, 7, 8, 9, 10, 11, 12, 0] [(0, .ref (x 0)), (1, .ref (y 0)), (2, .int v), (3, .int w), (4, .int z), (5, .int (nI (sN S))), (6, .int (nI jb)), (7, .int (nI pl)), (8, .int (nI sh)), (9, .int (nI hu)), (10, .int (nI du)), (11, .int (nI mi)), (12, .int (nI 1))] rfl (Nat.le_of_ble_eq_true rfl) dL_isStep_945 947 rfl ?_
  refine z_iconst C (v := nI 0) rfl dL_isStep_947 948 rfl ?_
  refine z_istore C hnL [1, 2, 3, 4, 5, 6, 7, 8, 9, 10, 11, 12, 13, 0] [(0, .ref (x 0)), (1, .ref (y 0)), (2, .int v), (3, .int w), (4, .int z), (5, .int (nI (sN S))), (6, .int (nI jb)), (7, .int (nI pl)), (8, .int (nI sh)), (9, .int (nI hu)), (10, .int (nI du)), (11, .int (nI mi)), (12, .int (nI 1)), (13, .int (nI 0))] rfl (Nat.le_of_ble_eq_true rfl) dL_isStep_948 950 rfl ?_
  have loop950 : ∀ (mu : Nat) (k : Nat) (J8 : oJ) (J9 : oJ), mu = 4 - k → k ≤ 4 → Z K 0 0 [wO K.g x a S J8, wO K.g y b T J9] [(0, .ref (x 0)), (1, .ref (y 0)), (2, .int v), (3, .int w), (4, .int z), (5, .int (nI (sN S))), (6, .int (nI jb)), (7, .int (nI pl)), (8, .int (nI sh)), (9, .int (nI hu)), (10, .int (nI du)), (11, .int (nI mi)), (12, .int (nI 1)), (13, .int (nI k))] 950 [] := by
    refine z_ind (fun mu ih950 => ?_)
    intro k J8 J9 hmu950 hk4
    refine z_iload C 13 rfl dL_isStep_950 952 rfl ?_
    refine z_iconst C (v := nI 4) rfl dL_isStep_952 953 rfl ?_
    refine z_icmp_ge C (by omega) (by omega) 1023 dL_isStep_953 (by decide) 956 rfl (fun c_1 => ?_) (fun c_1 => ?_)
    · skip
      refine z_iload C 12 rfl dL_isStep_1023 1025 rfl ?_
      refine z_eq (st2 := [.int (bI true)]) ?_ rfl rfl rfl
      exact z_bret C hRx dL_isStep_1025 (S, J8, T, J9) rfl (⟨hI, hIT, hRel⟩) rfl
    · skip
      refine z_iload C 12 rfl dL_isStep_956 958 rfl ?_
      refine z_if_eq C (by omega) 1014 dL_isStep_958 (by decide) 961 rfl (fun c_2 => ?_) (fun c_2 => ?_)
      · exfalso; omega
      refine z_aload_n C 0 rfl rfl dL_isStep_961 962 rfl ?_
      refine z_iload C 11 rfl dL_isStep_962 964 rfl ?_
      refine z_iload C 13 rfl dL_isStep_964 966 rfl ?_
      refine z_callV C [.int (nI mi), .int (nI k)] [] (tO_at K.l K.g x a S J8 mi k hI (by omega) (by omega)) gL_isStep_X4_at rfl rfl rfl hdX4_at ⟨Nat.le_of_ble_eq_true rfl, Nat.le_of_ble_eq_true rfl⟩ ⟨Nat.zero_le _, Nat.zero_le _⟩ 0 0 rfl rfl rfl [0] rfl rfl (zlc (N := 2) rfl rfl) [2, 1] rfl (by decide) (fun J2 : oJ => [wO K.g x a S J2, wO K.g y b T J9]) (fun _ => rfl) rfl rfl (Nat.le_of_ble_eq_true rfl) dL_isStep_966 969 rfl (fun u9 hu9 => ?_)
      obtain ⟨J2_3, rfl⟩ : ∃ z, z = u9 := ⟨_, rfl⟩
      show Z K 0 0 [wO K.g x a S J2_3, wO K.g y b T J9] [(0, .ref (x 0)), (1, .ref (y 0)), (2, .int v), (3, .int w), (4, .int z), (5, .int (nI (sN S))), (6, .int (nI jb)), (7, .int (nI pl)), (8, .int (nI sh)), (9, .int (nI hu)), (10, .int (nI du)), (11, .int (nI mi)), (12, .int (nI 1)), (13, .int (nI k))] 969 [.int (AT (sSt S) (sR S) (sN S) mi k)]
      refine z_aload_n C 1 rfl rfl dL_isStep_969 970 rfl ?_
      refine z_iconst C (v := nI 2) rfl dL_isStep_970 971 rfl ?_
      refine z_iload C 11 rfl dL_isStep_971 973 rfl ?_
      refine z_imul C dL_isStep_973 974 rfl ?_
      refine z_iload C 13 rfl dL_isStep_974 976 rfl ?_
      refine z_callV C [.int (nI (2 * mi)), .int (nI k)] [.int (AT (sSt S) (sR S) (sN S) mi k)] (tO_at K.l K.g y b T J9 (2 * mi) k hIT (by omega) (by omega)) gL_isStep_X4_at rfl rfl rfl hdX4_at ⟨Nat.le_of_ble_eq_true rfl, Nat.le_of_ble_eq_true rfl⟩ ⟨Nat.zero_le _, Nat.zero_le _⟩ 1 0 rfl rfl rfl [1] rfl rfl (zlc (N := 2) rfl rfl) [0, 2] rfl (by decide) (fun J2 : oJ => [wO K.g x a S J2_3, wO K.g y b T J2]) (fun _ => rfl) rfl rfl (Nat.le_of_ble_eq_true rfl) dL_isStep_976 979 rfl (fun u9 hu9 => ?_)
      obtain ⟨J2_4, rfl⟩ : ∃ z, z = u9 := ⟨_, rfl⟩
      show Z K 0 0 [wO K.g x a S J2_3, wO K.g y b T J2_4] [(0, .ref (x 0)), (1, .ref (y 0)), (2, .int v), (3, .int w), (4, .int z), (5, .int (nI (sN S))), (6, .int (nI jb)), (7, .int (nI pl)), (8, .int (nI sh)), (9, .int (nI hu)), (10, .int (nI du)), (11, .int (nI mi)), (12, .int (nI 1)), (13, .int (nI k))] 979 [.int (AT (sSt T) (sR T) (sN T) (2 * mi) k), .int (AT (sSt S) (sR S) (sN S) mi k)]
      refine z_icmpI_ne C 1014 dL_isStep_979 (by decide) 982 rfl (fun c_5 => absurd (show (AT (sSt S) (sR S) (sN S) mi k : Int32) = AT (sSt T) (sR T) (sN T) (2 * mi) k from (by rw [hN]; exact (d_AT (b := 0) hds hdr hR (by decide) (by omega) (fun _ => rfl)).symm)) c_5) (fun c_5 => ?_)
      refine z_iload C 13 rfl dL_isStep_982 984 rfl ?_
      refine z_if_eq C (by omega) 1010 dL_isStep_984 (by decide) 987 rfl (fun c_6 => ?_) (fun c_6 => ?_)
      · skip
        refine z_iconst C (v := nI 1) rfl dL_isStep_1010 1011 rfl ?_
        refine z_goto C 1015 dL_isStep_1011 (by decide) ?_
        refine z_istore C hnL [1, 2, 3, 4, 5, 6, 7, 8, 9, 10, 11, 12, 0, 13] [(0, .ref (x 0)), (1, .ref (y 0)), (2, .int v), (3, .int w), (4, .int z), (5, .int (nI (sN S))), (6, .int (nI jb)), (7, .int (nI pl)), (8, .int (nI sh)), (9, .int (nI hu)), (10, .int (nI du)), (11, .int (nI mi)), (12, .int (nI 1)), (13, .int (nI k))] rfl (Nat.le_of_ble_eq_true rfl) dL_isStep_1015 1017 rfl ?_
        refine z_iinc C hnL 13 rfl (v := (nI (k + 1))) (nI_1 _) [1, 2, 3, 4, 5, 6, 7, 8, 9, 10, 11, 12, 13, 0] [(0, .ref (x 0)), (1, .ref (y 0)), (2, .int v), (3, .int w), (4, .int z), (5, .int (nI (sN S))), (6, .int (nI jb)), (7, .int (nI pl)), (8, .int (nI sh)), (9, .int (nI hu)), (10, .int (nI du)), (11, .int (nI mi)), (12, .int (nI 1)), (13, .int (nI (k + 1)))] rfl (Nat.le_of_ble_eq_true rfl) dL_isStep_1017 1020 rfl ?_
        refine z_goto C 950 dL_isStep_1020 (by decide) ?_
        exact ih950 _ (by omega) (k + 1) J2_3 J2_4 rfl (by omega)
      · skip
        refine z_aload_n C 0 rfl rfl dL_isStep_987 988 rfl ?_
        refine z_iload C 11 rfl dL_isStep_988 990 rfl ?_
        refine z_iload C 13 rfl dL_isStep_990 992 rfl ?_
        refine z_callV C [.int (nI mi), .int (nI k)] [] (tO_at K.l K.g x a S J2_3 mi k hI (by omega) (by omega)) gL_isStep_X4_at rfl rfl rfl hdX4_at ⟨Nat.le_of_ble_eq_true rfl, Nat.le_of_ble_eq_true rfl⟩ ⟨Nat.zero_le _, Nat.zero_le _⟩ 0 0 rfl rfl rfl [0] rfl rfl (zlc (N := 2) rfl rfl) [2, 1] rfl (by decide) (fun J2 : oJ => [wO K.g x a S J2, wO K.g y b T J2_4]) (fun _ => rfl) rfl rfl (Nat.le_of_ble_eq_true rfl) dL_isStep_992 995 rfl (fun u9 hu9 => ?_)
        obtain ⟨J2_7, rfl⟩ : ∃ z, z = u9 := ⟨_, rfl⟩
        show Z K 0 0 [wO K.g x a S J2_7, wO K.g y b T J2_4] [(0, .ref (x 0)), (1, .ref (y 0)), (2, .int v), (3, .int w), (4, .int z), (5, .int (nI (sN S))), (6, .int (nI jb)), (7, .int (nI pl)), (8, .int (nI sh)), (9, .int (nI hu)), (10, .int (nI du)), (11, .int (nI mi)), (12, .int (nI 1)), (13, .int (nI k))] 995 [.int (AT (sSt S) (sR S) (sN S) mi k)]
        refine z_aload_n C 1 rfl rfl dL_isStep_995 996 rfl ?_
        refine z_iconst C (v := nI 2) rfl dL_isStep_996 997 rfl ?_
        refine z_iload C 11 rfl dL_isStep_997 999 rfl ?_
        refine z_imul C dL_isStep_999 1000 rfl ?_
        refine z_iconst C (v := nI 1) rfl dL_isStep_1000 1001 rfl ?_
        refine z_iadd C dL_isStep_1001 1002 rfl ?_
        refine z_iload C 13 rfl dL_isStep_1002 1004 rfl ?_
        refine z_callV C [.int (nI ((2 * mi) + 1)), .int (nI k)] [.int (AT (sSt S) (sR S) (sN S) mi k)] (tO_at K.l K.g y b T J2_4 ((2 * mi) + 1) k hIT (by omega) (by omega)) gL_isStep_X4_at rfl rfl rfl hdX4_at ⟨Nat.le_of_ble_eq_true rfl, Nat.le_of_ble_eq_true rfl⟩ ⟨Nat.zero_le _, Nat.zero_le _⟩ 1 0 rfl rfl rfl [1] rfl rfl (zlc (N := 2) rfl rfl) [0, 2] rfl (by decide) (fun J2 : oJ => [wO K.g x a S J2_7, wO K.g y b T J2]) (fun _ => rfl) rfl rfl (Nat.le_of_ble_eq_true rfl) dL_isStep_1004 1007 rfl (fun u9 hu9 => ?_)
        obtain ⟨J2_8, rfl⟩ : ∃ z, z = u9 := ⟨_, rfl⟩
        show Z K 0 0 [wO K.g x a S J2_7, wO K.g y b T J2_8] [(0, .ref (x 0)), (1, .ref (y 0)), (2, .int v), (3, .int w), (4, .int z), (5, .int (nI (sN S))), (6, .int (nI jb)), (7, .int (nI pl)), (8, .int (nI sh)), (9, .int (nI hu)), (10, .int (nI du)), (11, .int (nI mi)), (12, .int (nI 1)), (13, .int (nI k))] 1007 [.int (AT (sSt T) (sR T) (sN T) ((2 * mi) + 1) k), .int (AT (sSt S) (sR S) (sN S) mi k)]
        refine z_icmpI_ne C 1014 dL_isStep_1007 (by decide) 1010 rfl (fun c_9 => absurd (show (AT (sSt S) (sR S) (sN S) mi k : Int32) = AT (sSt T) (sR T) (sN T) ((2 * mi) + 1) k from (by rw [hN]; exact (d_AT (b := 1) hds hdr hR (by decide) (by omega) (fun h => by omega)).symm)) c_9) (fun c_9 => ?_)
        refine z_iconst C (v := nI 1) rfl dL_isStep_1010 1011 rfl ?_
        refine z_goto C 1015 dL_isStep_1011 (by decide) ?_
        refine z_istore C hnL [1, 2, 3, 4, 5, 6, 7, 8, 9, 10, 11, 12, 0, 13] [(0, .ref (x 0)), (1, .ref (y 0)), (2, .int v), (3, .int w), (4, .int z), (5, .int (nI (sN S))), (6, .int (nI jb)), (7, .int (nI pl)), (8, .int (nI sh)), (9, .int (nI hu)), (10, .int (nI du)), (11, .int (nI mi)), (12, .int (nI 1)), (13, .int (nI k))] rfl (Nat.le_of_ble_eq_true rfl) dL_isStep_1015 1017 rfl ?_
        refine z_iinc C hnL 13 rfl (v := (nI (k + 1))) (nI_1 _) [1, 2, 3, 4, 5, 6, 7, 8, 9, 10, 11, 12, 13, 0] [(0, .ref (x 0)), (1, .ref (y 0)), (2, .int v), (3, .int w), (4, .int z), (5, .int (nI (sN S))), (6, .int (nI jb)), (7, .int (nI pl)), (8, .int (nI sh)), (9, .int (nI hu)), (10, .int (nI du)), (11, .int (nI mi)), (12, .int (nI 1)), (13, .int (nI (k + 1)))] rfl (Nat.le_of_ble_eq_true rfl) dL_isStep_1017 1020 rfl ?_
        refine z_goto C 950 dL_isStep_1020 (by decide) ?_
        exact ih950 _ (by omega) (k + 1) J2_7 J2_8 rfl (by omega)
  exact loop950 _ 0 J Jp rfl (by omega)

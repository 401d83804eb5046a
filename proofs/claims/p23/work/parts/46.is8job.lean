/-! IS: job -/
set_option maxHeartbeats 4000000 in
set_option maxRecDepth 100000 in
theorem is_job {K : zK} {A : Nat → Prop} (C : Cx K ({ frames := 8, cells := 0, slots := 0, locals := 175 } : Room) RL cL_isStep wsL_isStep) (hnL : K.nL = 17) (x : Nat → Nat) (a : oA) (S : oS) (J : oJ) (y : Nat → Nat) (b : oA) (T : oS) (Jp : oJ) (v w z : Int32) (jb pl sh hu du : Nat) (hRx : RS K x a y b A) (hE : eAll K.A K.s) (hI : INV S) (hIT : INV T) (hRel : REL S T 6) (hjb : (sN S = 0 ∧ jb = 0) ∨ jb < sN S) (hpl : pl ≤ 3) (hsh : sh ≤ 9) (hu1 : 1 ≤ hu) (hu2 : hu ≤ 20) (hdu : du ≤ 1500) : Z K 0 0 [wO K.g x a S J, wO K.g y b T Jp] [(0, .ref (x 0)), (1, .ref (y 0)), (2, .int v), (3, .int w), (4, .int z), (5, .int (nI (sN S))), (6, .int (nI jb)), (7, .int (nI pl)), (8, .int (nI sh)), (9, .int (nI hu)), (10, .int (nI du))] 1026 [] := by
  have heAll := hE
  obtain ⟨heSet, heOrd⟩ := hE
  obtain ⟨hn, hS, hJ, hR⟩ := id hI.1
  obtain ⟨⟨hN, hds, hdr⟩, hkp, hnx, hhi, hsl⟩ := id hRel
  have h5b := hS.2.2.2.2.2.2.2.1
  have h6b := hS.2.2.2.2.2.2.2.2
  have hna := nd_alt (show 0 < sSt S 6 by omega) hu1
  have hnl := nd_le (h := hu) (show 0 < sSt S 6 by omega)
  by_cases hq0 : sSt S 5 < nd (sSt S 6) hu
  · skip
    refine z_aload_n C 0 rfl rfl dL_isStep_1026 1027 rfl ?_
    refine z_iload C 7 rfl dL_isStep_1027 1029 rfl ?_
    refine z_iload C 8 rfl dL_isStep_1029 1031 rfl ?_
    refine z_iload C 9 rfl dL_isStep_1031 1033 rfl ?_
    refine z_iload C 10 rfl dL_isStep_1033 1035 rfl ?_
    refine z_callV C [.int (nI pl), .int (nI sh), .int (nI hu), .int (nI du)] [] (tO_job_np K.l K.g x a S J pl sh hu du hI (by omega) (by omega) hu1 hu2 (by omega) hq0) gL_isStep_X4_job rfl rfl rfl hdX4_job ⟨Nat.le_of_ble_eq_true rfl, Nat.le_of_ble_eq_true rfl⟩ ⟨Nat.zero_le _, Nat.zero_le _⟩ 0 0 rfl rfl rfl [0] rfl rfl (zlc (N := 2) rfl rfl) [2, 1] rfl (by decide) (fun J2 : oJ => [wO K.g x a S J2, wO K.g y b T Jp]) (fun _ => rfl) rfl rfl (Nat.le_of_ble_eq_true rfl) dL_isStep_1035 1038 rfl (fun u9 hu9 => ?_)
    obtain ⟨J2_1, rfl⟩ : ∃ z, z = u9 := ⟨_, rfl⟩
    show Z K 0 0 [wO K.g x a S J2_1, wO K.g y b T Jp] [(0, .ref (x 0)), (1, .ref (y 0)), (2, .int v), (3, .int w), (4, .int z), (5, .int (nI (sN S))), (6, .int (nI jb)), (7, .int (nI pl)), (8, .int (nI sh)), (9, .int (nI hu)), (10, .int (nI du))] 1038 [.int (-5)]
    refine z_istore C hnL [1, 2, 3, 4, 5, 6, 7, 8, 9, 10, 11, 0] [(0, .ref (x 0)), (1, .ref (y 0)), (2, .int v), (3, .int w), (4, .int z), (5, .int (nI (sN S))), (6, .int (nI jb)), (7, .int (nI pl)), (8, .int (nI sh)), (9, .int (nI hu)), (10, .int (nI du)), (11, .int (-5))] rfl (Nat.le_of_ble_eq_true rfl) dL_isStep_1038 1040 rfl ?_
    refine z_iload C 9 rfl dL_isStep_1040 1042 rfl ?_
    refine z_iconst C (v := nI 1) rfl dL_isStep_1042 1043 rfl ?_
    refine z_isub C (by omega) dL_isStep_1043 1044 rfl ?_
    refine z_aload_n C 0 rfl rfl dL_isStep_1044 1045 rfl ?_
    refine z_bipush C (v := nI 6) rfl dL_isStep_1045 1047 rfl ?_
    refine z_callV C [.int (nI 6)] [.int (nI (hu - 1))] (tO_count K.l K.g x a S J2_1 6 hI (by first | omega | assumption)) gL_isStep_X4_count rfl rfl rfl hdX4_count ⟨Nat.le_of_ble_eq_true rfl, Nat.le_of_ble_eq_true rfl⟩ ⟨Nat.zero_le _, Nat.zero_le _⟩ 0 0 rfl rfl rfl [0] rfl rfl (zlc (N := 2) rfl rfl) [2, 1] rfl (by decide) (fun J2 : oJ => [wO K.g x a S J2, wO K.g y b T Jp]) (fun _ => rfl) rfl rfl (Nat.le_of_ble_eq_true rfl) dL_isStep_1047 1050 rfl (fun u9 hu9 => ?_)
    obtain ⟨J2_2, rfl⟩ : ∃ z, z = u9 := ⟨_, rfl⟩
    show Z K 0 0 [wO K.g x a S J2_2, wO K.g y b T Jp] [(0, .ref (x 0)), (1, .ref (y 0)), (2, .int v), (3, .int w), (4, .int z), (5, .int (nI (sN S))), (6, .int (nI jb)), (7, .int (nI pl)), (8, .int (nI sh)), (9, .int (nI hu)), (10, .int (nI du)), (11, .int (-5))] 1050 [.int (nI (CN (sSt S) (sR S) (sN S) (sLen S) (sKp S) 6)), .int (nI (hu - 1))]
    refine z_top (show (nI (CN (sSt S) (sR S) (sN S) (sLen S) (sKp S) 6) : Int32) = nI (sSt S 6) from rfl) ?_
    refine z_idiv C (by omega) (by omega) (by omega) dL_isStep_1050 1051 rfl ?_
    refine z_iconst C (v := nI 1) rfl dL_isStep_1051 1052 rfl ?_
    refine z_iadd C dL_isStep_1052 1053 rfl ?_
    refine z_nm (fun x_3 ex_3 => ?_)
    refine z_istore C hnL [1, 2, 3, 4, 5, 6, 7, 8, 9, 10, 11, 12, 0] [(0, .ref (x 0)), (1, .ref (y 0)), (2, .int v), (3, .int w), (4, .int z), (5, .int (nI (sN S))), (6, .int (nI jb)), (7, .int (nI pl)), (8, .int (nI sh)), (9, .int (nI hu)), (10, .int (nI du)), (11, .int (-5)), (12, .int (nI x_3))] rfl (Nat.le_of_ble_eq_true rfl) dL_isStep_1053 1055 rfl ?_
    refine z_iload C 11 rfl dL_isStep_1055 1057 rfl ?_
    refine z_aload_n C 1 rfl rfl dL_isStep_1057 1058 rfl ?_
    refine z_iload C 7 rfl dL_isStep_1058 1060 rfl ?_
    refine z_iload C 8 rfl dL_isStep_1060 1062 rfl ?_
    refine z_iload C 9 rfl dL_isStep_1062 1064 rfl ?_
    refine z_iconst C (v := nI 2) rfl dL_isStep_1064 1065 rfl ?_
    refine z_iload C 10 rfl dL_isStep_1065 1067 rfl ?_
    refine z_imul C dL_isStep_1067 1068 rfl ?_
    refine z_callV C [.int (nI pl), .int (nI sh), .int (nI hu), .int (nI (2 * du))] [.int (-5)] (tO_job_np K.l K.g y b T Jp pl sh hu (2 * du) hIT (by omega) (by omega) hu1 hu2 (by omega) (by rw [hds.2.1, hds.2.2]; exact hq0)) gL_isStep_X4_job rfl rfl rfl hdX4_job ⟨Nat.le_of_ble_eq_true rfl, Nat.le_of_ble_eq_true rfl⟩ ⟨Nat.zero_le _, Nat.zero_le _⟩ 1 0 rfl rfl rfl [1] rfl rfl (zlc (N := 2) rfl rfl) [0, 2] rfl (by decide) (fun J2 : oJ => [wO K.g x a S J2_2, wO K.g y b T J2]) (fun _ => rfl) rfl rfl (Nat.le_of_ble_eq_true rfl) dL_isStep_1068 1071 rfl (fun u9 hu9 => ?_)
    obtain ⟨J2_4, rfl⟩ : ∃ z, z = u9 := ⟨_, rfl⟩
    show Z K 0 0 [wO K.g x a S J2_2, wO K.g y b T J2_4] [(0, .ref (x 0)), (1, .ref (y 0)), (2, .int v), (3, .int w), (4, .int z), (5, .int (nI (sN S))), (6, .int (nI jb)), (7, .int (nI pl)), (8, .int (nI sh)), (9, .int (nI hu)), (10, .int (nI du)), (11, .int (-5)), (12, .int (nI x_3))] 1071 [.int (-5), .int (-5)]
    refine z_icmpI_ne C 1112 dL_isStep_1071 (by decide) 1074 rfl (fun c_5 => absurd (show ((-5) : Int32) = (-5) from rfl) c_5) (fun c_5 => ?_)
    refine z_iload C 11 rfl dL_isStep_1074 1076 rfl ?_
    refine z_iload C 12 rfl dL_isStep_1076 1078 rfl ?_
    refine z_aload_n C 0 rfl rfl dL_isStep_1078 1079 rfl ?_
    refine z_iconst C (v := nI 5) rfl dL_isStep_1079 1080 rfl ?_
    refine z_callV C [.int (nI 5)] [.int (nI x_3), .int (-5)] (tO_count K.l K.g x a S J2_2 5 hI (by first | omega | assumption)) gL_isStep_X4_count rfl rfl rfl hdX4_count ⟨Nat.le_of_ble_eq_true rfl, Nat.le_of_ble_eq_true rfl⟩ ⟨Nat.zero_le _, Nat.zero_le _⟩ 0 0 rfl rfl rfl [0] rfl rfl (zlc (N := 2) rfl rfl) [2, 1] rfl (by decide) (fun J2 : oJ => [wO K.g x a S J2, wO K.g y b T J2_4]) (fun _ => rfl) rfl rfl (Nat.le_of_ble_eq_true rfl) dL_isStep_1080 1083 rfl (fun u9 hu9 => ?_)
    obtain ⟨J2_6, rfl⟩ : ∃ z, z = u9 := ⟨_, rfl⟩
    show Z K 0 0 [wO K.g x a S J2_6, wO K.g y b T J2_4] [(0, .ref (x 0)), (1, .ref (y 0)), (2, .int v), (3, .int w), (4, .int z), (5, .int (nI (sN S))), (6, .int (nI jb)), (7, .int (nI pl)), (8, .int (nI sh)), (9, .int (nI hu)), (10, .int (nI du)), (11, .int (-5)), (12, .int (nI x_3))] 1083 [.int (nI (CN (sSt S) (sR S) (sN S) (sLen S) (sKp S) 5)), .int (nI x_3), .int (-5)]
    refine z_top (show (nI (CN (sSt S) (sR S) (sN S) (sLen S) (sKp S) 5) : Int32) = nI (sSt S 5) from rfl) ?_
    refine z_icmp_le C (by omega) (by omega) 1091 dL_isStep_1083 (by decide) 1086 rfl (fun c_7 => ?_) (fun c_7 => ?_)
    · exfalso; omega
    refine z_bipush C (v := (-5)) rfl dL_isStep_1086 1088 rfl ?_
    refine z_goto C 1105 dL_isStep_1088 (by decide) ?_
    refine z_icmpI_ne C 1112 dL_isStep_1105 (by decide) 1108 rfl (fun c_8 => absurd (show ((-5) : Int32) = (-5) from rfl) c_8) (fun c_8 => ?_)
    refine z_iconst C (v := nI 1) rfl dL_isStep_1108 1109 rfl ?_
    refine z_goto C 1113 dL_isStep_1109 (by decide) ?_
    refine z_eq (st2 := [.int (bI true)]) ?_ rfl rfl rfl
    exact z_bret C hRx dL_isStep_1113 (S, J2_6, T, J2_4) rfl (⟨hI, hIT, hRel⟩) rfl
  · skip
    by_cases hq1 : sN S = 12
    · skip
      refine z_aload_n C 0 rfl rfl dL_isStep_1026 1027 rfl ?_
      refine z_iload C 7 rfl dL_isStep_1027 1029 rfl ?_
      refine z_iload C 8 rfl dL_isStep_1029 1031 rfl ?_
      refine z_iload C 9 rfl dL_isStep_1031 1033 rfl ?_
      refine z_iload C 10 rfl dL_isStep_1033 1035 rfl ?_
      refine z_callV C [.int (nI pl), .int (nI sh), .int (nI hu), .int (nI du)] [] (tO_job_tm K.l K.g x a S J pl sh hu du hI (by omega) (by omega) hu1 hu2 (by omega) (Nat.le_of_not_lt hq0) (by omega)) gL_isStep_X4_job rfl rfl rfl hdX4_job ⟨Nat.le_of_ble_eq_true rfl, Nat.le_of_ble_eq_true rfl⟩ ⟨Nat.zero_le _, Nat.zero_le _⟩ 0 0 rfl rfl rfl [0] rfl rfl (zlc (N := 2) rfl rfl) [2, 1] rfl (by decide) (fun J2 : oJ => [wO K.g x a S J2, wO K.g y b T Jp]) (fun _ => rfl) rfl rfl (Nat.le_of_ble_eq_true rfl) dL_isStep_1035 1038 rfl (fun u9 hu9 => ?_)
      obtain ⟨J2_9, rfl⟩ : ∃ z, z = u9 := ⟨_, rfl⟩
      show Z K 0 0 [wO K.g x a S J2_9, wO K.g y b T Jp] [(0, .ref (x 0)), (1, .ref (y 0)), (2, .int v), (3, .int w), (4, .int z), (5, .int (nI (sN S))), (6, .int (nI jb)), (7, .int (nI pl)), (8, .int (nI sh)), (9, .int (nI hu)), (10, .int (nI du))] 1038 [.int (-4)]
      refine z_istore C hnL [1, 2, 3, 4, 5, 6, 7, 8, 9, 10, 11, 0] [(0, .ref (x 0)), (1, .ref (y 0)), (2, .int v), (3, .int w), (4, .int z), (5, .int (nI (sN S))), (6, .int (nI jb)), (7, .int (nI pl)), (8, .int (nI sh)), (9, .int (nI hu)), (10, .int (nI du)), (11, .int (-4))] rfl (Nat.le_of_ble_eq_true rfl) dL_isStep_1038 1040 rfl ?_
      refine z_iload C 9 rfl dL_isStep_1040 1042 rfl ?_
      refine z_iconst C (v := nI 1) rfl dL_isStep_1042 1043 rfl ?_
      refine z_isub C (by omega) dL_isStep_1043 1044 rfl ?_
      refine z_aload_n C 0 rfl rfl dL_isStep_1044 1045 rfl ?_
      refine z_bipush C (v := nI 6) rfl dL_isStep_1045 1047 rfl ?_
      refine z_callV C [.int (nI 6)] [.int (nI (hu - 1))] (tO_count K.l K.g x a S J2_9 6 hI (by first | omega | assumption)) gL_isStep_X4_count rfl rfl rfl hdX4_count ⟨Nat.le_of_ble_eq_true rfl, Nat.le_of_ble_eq_true rfl⟩ ⟨Nat.zero_le _, Nat.zero_le _⟩ 0 0 rfl rfl rfl [0] rfl rfl (zlc (N := 2) rfl rfl) [2, 1] rfl (by decide) (fun J2 : oJ => [wO K.g x a S J2, wO K.g y b T Jp]) (fun _ => rfl) rfl rfl (Nat.le_of_ble_eq_true rfl) dL_isStep_1047 1050 rfl (fun u9 hu9 => ?_)
      obtain ⟨J2_10, rfl⟩ : ∃ z, z = u9 := ⟨_, rfl⟩
      show Z K 0 0 [wO K.g x a S J2_10, wO K.g y b T Jp] [(0, .ref (x 0)), (1, .ref (y 0)), (2, .int v), (3, .int w), (4, .int z), (5, .int (nI (sN S))), (6, .int (nI jb)), (7, .int (nI pl)), (8, .int (nI sh)), (9, .int (nI hu)), (10, .int (nI du)), (11, .int (-4))] 1050 [.int (nI (CN (sSt S) (sR S) (sN S) (sLen S) (sKp S) 6)), .int (nI (hu - 1))]
      refine z_top (show (nI (CN (sSt S) (sR S) (sN S) (sLen S) (sKp S) 6) : Int32) = nI (sSt S 6) from rfl) ?_
      refine z_idiv C (by omega) (by omega) (by omega) dL_isStep_1050 1051 rfl ?_
      refine z_iconst C (v := nI 1) rfl dL_isStep_1051 1052 rfl ?_
      refine z_iadd C dL_isStep_1052 1053 rfl ?_
      refine z_nm (fun x_11 ex_11 => ?_)
      refine z_istore C hnL [1, 2, 3, 4, 5, 6, 7, 8, 9, 10, 11, 12, 0] [(0, .ref (x 0)), (1, .ref (y 0)), (2, .int v), (3, .int w), (4, .int z), (5, .int (nI (sN S))), (6, .int (nI jb)), (7, .int (nI pl)), (8, .int (nI sh)), (9, .int (nI hu)), (10, .int (nI du)), (11, .int (-4)), (12, .int (nI x_11))] rfl (Nat.le_of_ble_eq_true rfl) dL_isStep_1053 1055 rfl ?_
      refine z_iload C 11 rfl dL_isStep_1055 1057 rfl ?_
      refine z_aload_n C 1 rfl rfl dL_isStep_1057 1058 rfl ?_
      refine z_iload C 7 rfl dL_isStep_1058 1060 rfl ?_
      refine z_iload C 8 rfl dL_isStep_1060 1062 rfl ?_
      refine z_iload C 9 rfl dL_isStep_1062 1064 rfl ?_
      refine z_iconst C (v := nI 2) rfl dL_isStep_1064 1065 rfl ?_
      refine z_iload C 10 rfl dL_isStep_1065 1067 rfl ?_
      refine z_imul C dL_isStep_1067 1068 rfl ?_
      refine z_callV C [.int (nI pl), .int (nI sh), .int (nI hu), .int (nI (2 * du))] [.int (-4)] (tO_job_tm K.l K.g y b T Jp pl sh hu (2 * du) hIT (by omega) (by omega) hu1 hu2 (by omega) (by rw [hds.2.1, hds.2.2]; exact Nat.le_of_not_lt hq0) (by omega)) gL_isStep_X4_job rfl rfl rfl hdX4_job ⟨Nat.le_of_ble_eq_true rfl, Nat.le_of_ble_eq_true rfl⟩ ⟨Nat.zero_le _, Nat.zero_le _⟩ 1 0 rfl rfl rfl [1] rfl rfl (zlc (N := 2) rfl rfl) [0, 2] rfl (by decide) (fun J2 : oJ => [wO K.g x a S J2_10, wO K.g y b T J2]) (fun _ => rfl) rfl rfl (Nat.le_of_ble_eq_true rfl) dL_isStep_1068 1071 rfl (fun u9 hu9 => ?_)
      obtain ⟨J2_12, rfl⟩ : ∃ z, z = u9 := ⟨_, rfl⟩
      show Z K 0 0 [wO K.g x a S J2_10, wO K.g y b T J2_12] [(0, .ref (x 0)), (1, .ref (y 0)), (2, .int v), (3, .int w), (4, .int z), (5, .int (nI (sN S))), (6, .int (nI jb)), (7, .int (nI pl)), (8, .int (nI sh)), (9, .int (nI hu)), (10, .int (nI du)), (11, .int (-4)), (12, .int (nI x_11))] 1071 [.int (-4), .int (-4)]
      refine z_icmpI_ne C 1112 dL_isStep_1071 (by decide) 1074 rfl (fun c_13 => absurd (show ((-4) : Int32) = (-4) from rfl) c_13) (fun c_13 => ?_)
      refine z_iload C 11 rfl dL_isStep_1074 1076 rfl ?_
      refine z_iload C 12 rfl dL_isStep_1076 1078 rfl ?_
      refine z_aload_n C 0 rfl rfl dL_isStep_1078 1079 rfl ?_
      refine z_iconst C (v := nI 5) rfl dL_isStep_1079 1080 rfl ?_
      refine z_callV C [.int (nI 5)] [.int (nI x_11), .int (-4)] (tO_count K.l K.g x a S J2_10 5 hI (by first | omega | assumption)) gL_isStep_X4_count rfl rfl rfl hdX4_count ⟨Nat.le_of_ble_eq_true rfl, Nat.le_of_ble_eq_true rfl⟩ ⟨Nat.zero_le _, Nat.zero_le _⟩ 0 0 rfl rfl rfl [0] rfl rfl (zlc (N := 2) rfl rfl) [2, 1] rfl (by decide) (fun J2 : oJ => [wO K.g x a S J2, wO K.g y b T J2_12]) (fun _ => rfl) rfl rfl (Nat.le_of_ble_eq_true rfl) dL_isStep_1080 1083 rfl (fun u9 hu9 => ?_)
      obtain ⟨J2_14, rfl⟩ : ∃ z, z = u9 := ⟨_, rfl⟩
      show Z K 0 0 [wO K.g x a S J2_14, wO K.g y b T J2_12] [(0, .ref (x 0)), (1, .ref (y 0)), (2, .int v), (3, .int w), (4, .int z), (5, .int (nI (sN S))), (6, .int (nI jb)), (7, .int (nI pl)), (8, .int (nI sh)), (9, .int (nI hu)), (10, .int (nI du)), (11, .int (-4)), (12, .int (nI x_11))] 1083 [.int (nI (CN (sSt S) (sR S) (sN S) (sLen S) (sKp S) 5)), .int (nI x_11), .int (-4)]
      refine z_top (show (nI (CN (sSt S) (sR S) (sN S) (sLen S) (sKp S) 5) : Int32) = nI (sSt S 5) from rfl) ?_
      refine z_icmp_le C (by omega) (by omega) 1091 dL_isStep_1083 (by decide) 1086 rfl (fun c_15 => ?_) (fun c_15 => ?_)
      rotate_left
      · exfalso; omega
      refine z_iload C 5 rfl dL_isStep_1091 1093 rfl ?_
      refine z_bipush C (v := nI 12) rfl dL_isStep_1093 1095 rfl ?_
      refine z_icmp_ne C (by omega) (by omega) 1103 dL_isStep_1095 (by decide) 1098 rfl (fun c_16 => ?_) (fun c_16 => ?_)
      · exfalso; omega
      refine z_bipush C (v := (-4)) rfl dL_isStep_1098 1100 rfl ?_
      refine z_goto C 1105 dL_isStep_1100 (by decide) ?_
      refine z_icmpI_ne C 1112 dL_isStep_1105 (by decide) 1108 rfl (fun c_17 => absurd (show ((-4) : Int32) = (-4) from rfl) c_17) (fun c_17 => ?_)
      refine z_iconst C (v := nI 1) rfl dL_isStep_1108 1109 rfl ?_
      refine z_goto C 1113 dL_isStep_1109 (by decide) ?_
      refine z_eq (st2 := [.int (bI true)]) ?_ rfl rfl rfl
      exact z_bret C hRx dL_isStep_1113 (S, J2_14, T, J2_12) rfl (⟨hI, hIT, hRel⟩) rfl
    · skip
      refine z_aload_n C 0 rfl rfl dL_isStep_1026 1027 rfl ?_
      refine z_iload C 7 rfl dL_isStep_1027 1029 rfl ?_
      refine z_iload C 8 rfl dL_isStep_1029 1031 rfl ?_
      refine z_iload C 9 rfl dL_isStep_1031 1033 rfl ?_
      refine z_iload C 10 rfl dL_isStep_1033 1035 rfl ?_
      refine z_callV C [.int (nI pl), .int (nI sh), .int (nI hu), .int (nI du)] [] (tO_job_ok K.l K.g x a S J pl sh hu du hI (by omega) (by omega) hu1 hu2 (by omega) (Nat.le_of_not_lt hq0) (by omega)) gL_isStep_X4_job rfl rfl rfl hdX4_job ⟨Nat.le_of_ble_eq_true rfl, Nat.le_of_ble_eq_true rfl⟩ ⟨Nat.zero_le _, Nat.zero_le _⟩ 0 0 rfl rfl rfl [0] rfl rfl (zlc (N := 2) rfl rfl) [2, 1] rfl (by decide) (fun J2 : oJ => [wO K.g x a (uPush S (sSt S) (apR (sR S) (sN S) pl sh hu du) (sN S + 1)) J2, wO K.g y b T Jp]) (fun _ => rfl) rfl rfl (Nat.le_of_ble_eq_true rfl) dL_isStep_1035 1038 rfl (fun u9 hu9 => ?_)
      obtain ⟨J2_18, rfl⟩ : ∃ z, z = u9 := ⟨_, rfl⟩
      show Z K 0 0 [wO K.g x a (uPush S (sSt S) (apR (sR S) (sN S) pl sh hu du) (sN S + 1)) J2_18, wO K.g y b T Jp] [(0, .ref (x 0)), (1, .ref (y 0)), (2, .int v), (3, .int w), (4, .int z), (5, .int (nI (sN S))), (6, .int (nI jb)), (7, .int (nI pl)), (8, .int (nI sh)), (9, .int (nI hu)), (10, .int (nI du))] 1038 [.int (nI (sN S))]
      refine z_nm (fun told etold => ?_)
      have hI2 : INV (uPush S (sSt S) (apR (sR S) (sN S) pl sh hu du) (sN S + 1)) := INV_push hI (GB_ap hI.1 (show sN S < 12 by omega) (show pl ≤ 9 by omega) hsh hu1 hu2 (show du ≤ 3000 by omega) (Nat.le_of_not_lt hq0))
      refine z_istore C hnL [1, 2, 3, 4, 5, 6, 7, 8, 9, 10, 11, 0] [(0, .ref (x 0)), (1, .ref (y 0)), (2, .int v), (3, .int w), (4, .int z), (5, .int (nI (sN S))), (6, .int (nI jb)), (7, .int (nI pl)), (8, .int (nI sh)), (9, .int (nI hu)), (10, .int (nI du)), (11, .int (nI told))] rfl (Nat.le_of_ble_eq_true rfl) dL_isStep_1038 1040 rfl ?_
      refine z_iload C 9 rfl dL_isStep_1040 1042 rfl ?_
      refine z_iconst C (v := nI 1) rfl dL_isStep_1042 1043 rfl ?_
      refine z_isub C (by omega) dL_isStep_1043 1044 rfl ?_
      refine z_aload_n C 0 rfl rfl dL_isStep_1044 1045 rfl ?_
      refine z_bipush C (v := nI 6) rfl dL_isStep_1045 1047 rfl ?_
      refine z_callV C [.int (nI 6)] [.int (nI (hu - 1))] (tO_count K.l K.g x a (uPush S (sSt S) (apR (sR S) (sN S) pl sh hu du) (sN S + 1)) J2_18 6 hI2 (by first | omega | assumption)) gL_isStep_X4_count rfl rfl rfl hdX4_count ⟨Nat.le_of_ble_eq_true rfl, Nat.le_of_ble_eq_true rfl⟩ ⟨Nat.zero_le _, Nat.zero_le _⟩ 0 0 rfl rfl rfl [0] rfl rfl (zlc (N := 2) rfl rfl) [2, 1] rfl (by decide) (fun J2 : oJ => [wO K.g x a (uPush S (sSt S) (apR (sR S) (sN S) pl sh hu du) (sN S + 1)) J2, wO K.g y b T Jp]) (fun _ => rfl) rfl rfl (Nat.le_of_ble_eq_true rfl) dL_isStep_1047 1050 rfl (fun u9 hu9 => ?_)
      obtain ⟨J2_19, rfl⟩ : ∃ z, z = u9 := ⟨_, rfl⟩
      show Z K 0 0 [wO K.g x a (uPush S (sSt S) (apR (sR S) (sN S) pl sh hu du) (sN S + 1)) J2_19, wO K.g y b T Jp] [(0, .ref (x 0)), (1, .ref (y 0)), (2, .int v), (3, .int w), (4, .int z), (5, .int (nI (sN S))), (6, .int (nI jb)), (7, .int (nI pl)), (8, .int (nI sh)), (9, .int (nI hu)), (10, .int (nI du)), (11, .int (nI told))] 1050 [.int (nI (CN (sSt (uPush S (sSt S) (apR (sR S) (sN S) pl sh hu du) (sN S + 1))) (sR (uPush S (sSt S) (apR (sR S) (sN S) pl sh hu du) (sN S + 1))) (sN (uPush S (sSt S) (apR (sR S) (sN S) pl sh hu du) (sN S + 1))) (sLen (uPush S (sSt S) (apR (sR S) (sN S) pl sh hu du) (sN S + 1))) (sKp (uPush S (sSt S) (apR (sR S) (sN S) pl sh hu du) (sN S + 1))) 6)), .int (nI (hu - 1))]
      refine z_top (show (nI (CN (sSt (uPush S (sSt S) (apR (sR S) (sN S) pl sh hu du) (sN S + 1))) (sR (uPush S (sSt S) (apR (sR S) (sN S) pl sh hu du) (sN S + 1))) (sN (uPush S (sSt S) (apR (sR S) (sN S) pl sh hu du) (sN S + 1))) (sLen (uPush S (sSt S) (apR (sR S) (sN S) pl sh hu du) (sN S + 1))) (sKp (uPush S (sSt S) (apR (sR S) (sN S) pl sh hu du) (sN S + 1))) 6) : Int32) = nI (sSt S 6) from rfl) ?_
      refine z_idiv C (by omega) (by omega) (by omega) dL_isStep_1050 1051 rfl ?_
      refine z_iconst C (v := nI 1) rfl dL_isStep_1051 1052 rfl ?_
      refine z_iadd C dL_isStep_1052 1053 rfl ?_
      refine z_nm (fun x_20 ex_20 => ?_)
      refine z_istore C hnL [1, 2, 3, 4, 5, 6, 7, 8, 9, 10, 11, 12, 0] [(0, .ref (x 0)), (1, .ref (y 0)), (2, .int v), (3, .int w), (4, .int z), (5, .int (nI (sN S))), (6, .int (nI jb)), (7, .int (nI pl)), (8, .int (nI sh)), (9, .int (nI hu)), (10, .int (nI du)), (11, .int (nI told)), (12, .int (nI x_20))] rfl (Nat.le_of_ble_eq_true rfl) dL_isStep_1053 1055 rfl ?_
      refine z_iload C 11 rfl dL_isStep_1055 1057 rfl ?_
      refine z_aload_n C 1 rfl rfl dL_isStep_1057 1058 rfl ?_
      refine z_iload C 7 rfl dL_isStep_1058 1060 rfl ?_
      refine z_iload C 8 rfl dL_isStep_1060 1062 rfl ?_
      refine z_iload C 9 rfl dL_isStep_1062 1064 rfl ?_
      refine z_iconst C (v := nI 2) rfl dL_isStep_1064 1065 rfl ?_
      refine z_iload C 10 rfl dL_isStep_1065 1067 rfl ?_
      refine z_imul C dL_isStep_1067 1068 rfl ?_
      refine z_callV C [.int (nI pl), .int (nI sh), .int (nI hu), .int (nI (2 * du))] [.int (nI told)] (tO_job_ok K.l K.g y b T Jp pl sh hu (2 * du) hIT (by omega) (by omega) hu1 hu2 (by omega) (by rw [hds.2.1, hds.2.2]; exact Nat.le_of_not_lt hq0) (by omega)) gL_isStep_X4_job rfl rfl rfl hdX4_job ⟨Nat.le_of_ble_eq_true rfl, Nat.le_of_ble_eq_true rfl⟩ ⟨Nat.zero_le _, Nat.zero_le _⟩ 1 0 rfl rfl rfl [1] rfl rfl (zlc (N := 2) rfl rfl) [0, 2] rfl (by decide) (fun J2 : oJ => [wO K.g x a (uPush S (sSt S) (apR (sR S) (sN S) pl sh hu du) (sN S + 1)) J2_19, wO K.g y b (uPush T (sSt T) (apR (sR T) (sN T) pl sh hu (2 * du)) (sN T + 1)) J2]) (fun _ => rfl) rfl rfl (Nat.le_of_ble_eq_true rfl) dL_isStep_1068 1071 rfl (fun u9 hu9 => ?_)
      obtain ⟨J2_21, rfl⟩ : ∃ z, z = u9 := ⟨_, rfl⟩
      show Z K 0 0 [wO K.g x a (uPush S (sSt S) (apR (sR S) (sN S) pl sh hu du) (sN S + 1)) J2_19, wO K.g y b (uPush T (sSt T) (apR (sR T) (sN T) pl sh hu (2 * du)) (sN T + 1)) J2_21] [(0, .ref (x 0)), (1, .ref (y 0)), (2, .int v), (3, .int w), (4, .int z), (5, .int (nI (sN S))), (6, .int (nI jb)), (7, .int (nI pl)), (8, .int (nI sh)), (9, .int (nI hu)), (10, .int (nI du)), (11, .int (nI told)), (12, .int (nI x_20))] 1071 [.int (nI (sN T)), .int (nI told)]
      have hIT2 := INV_push hIT (GB_ap hIT.1 (show sN T < 12 by omega) (show pl ≤ 9 by omega) hsh hu1 hu2 (show 2 * du ≤ 3000 by omega) (by rw [hds.2.1, hds.2.2]; exact Nat.le_of_not_lt hq0))
      have hRel2 := REL_push6 hI hRel (DB_ap (pl := pl) (sh := sh) (hu := hu) (du := du) ⟨hN, hds, hdr⟩)
      refine z_icmpI_ne C 1112 dL_isStep_1071 (by decide) 1074 rfl (fun c_22 => absurd (show (nI told : Int32) = nI (sN T) from (congrArg nI (by omega))) c_22) (fun c_22 => ?_)
      refine z_iload C 11 rfl dL_isStep_1074 1076 rfl ?_
      refine z_iload C 12 rfl dL_isStep_1076 1078 rfl ?_
      refine z_aload_n C 0 rfl rfl dL_isStep_1078 1079 rfl ?_
      refine z_iconst C (v := nI 5) rfl dL_isStep_1079 1080 rfl ?_
      refine z_callV C [.int (nI 5)] [.int (nI x_20), .int (nI told)] (tO_count K.l K.g x a (uPush S (sSt S) (apR (sR S) (sN S) pl sh hu du) (sN S + 1)) J2_19 5 hI2 (by first | omega | assumption)) gL_isStep_X4_count rfl rfl rfl hdX4_count ⟨Nat.le_of_ble_eq_true rfl, Nat.le_of_ble_eq_true rfl⟩ ⟨Nat.zero_le _, Nat.zero_le _⟩ 0 0 rfl rfl rfl [0] rfl rfl (zlc (N := 2) rfl rfl) [2, 1] rfl (by decide) (fun J2 : oJ => [wO K.g x a (uPush S (sSt S) (apR (sR S) (sN S) pl sh hu du) (sN S + 1)) J2, wO K.g y b (uPush T (sSt T) (apR (sR T) (sN T) pl sh hu (2 * du)) (sN T + 1)) J2_21]) (fun _ => rfl) rfl rfl (Nat.le_of_ble_eq_true rfl) dL_isStep_1080 1083 rfl (fun u9 hu9 => ?_)
      obtain ⟨J2_23, rfl⟩ : ∃ z, z = u9 := ⟨_, rfl⟩
      show Z K 0 0 [wO K.g x a (uPush S (sSt S) (apR (sR S) (sN S) pl sh hu du) (sN S + 1)) J2_23, wO K.g y b (uPush T (sSt T) (apR (sR T) (sN T) pl sh hu (2 * du)) (sN T + 1)) J2_21] [(0, .ref (x 0)), (1, .ref (y 0)), (2, .int v), (3, .int w), (4, .int z), (5, .int (nI (sN S))), (6, .int (nI jb)), (7, .int (nI pl)), (8, .int (nI sh)), (9, .int (nI hu)), (10, .int (nI du)), (11, .int (nI told)), (12, .int (nI x_20))] 1083 [.int (nI (CN (sSt (uPush S (sSt S) (apR (sR S) (sN S) pl sh hu du) (sN S + 1))) (sR (uPush S (sSt S) (apR (sR S) (sN S) pl sh hu du) (sN S + 1))) (sN (uPush S (sSt S) (apR (sR S) (sN S) pl sh hu du) (sN S + 1))) (sLen (uPush S (sSt S) (apR (sR S) (sN S) pl sh hu du) (sN S + 1))) (sKp (uPush S (sSt S) (apR (sR S) (sN S) pl sh hu du) (sN S + 1))) 5)), .int (nI x_20), .int (nI told)]
      refine z_top (show (nI (CN (sSt (uPush S (sSt S) (apR (sR S) (sN S) pl sh hu du) (sN S + 1))) (sR (uPush S (sSt S) (apR (sR S) (sN S) pl sh hu du) (sN S + 1))) (sN (uPush S (sSt S) (apR (sR S) (sN S) pl sh hu du) (sN S + 1))) (sLen (uPush S (sSt S) (apR (sR S) (sN S) pl sh hu du) (sN S + 1))) (sKp (uPush S (sSt S) (apR (sR S) (sN S) pl sh hu du) (sN S + 1))) 5) : Int32) = nI (sSt S 5) from rfl) ?_
      refine z_icmp_le C (by omega) (by omega) 1091 dL_isStep_1083 (by decide) 1086 rfl (fun c_24 => ?_) (fun c_24 => ?_)
      rotate_left
      · exfalso; omega
      refine z_iload C 5 rfl dL_isStep_1091 1093 rfl ?_
      refine z_bipush C (v := nI 12) rfl dL_isStep_1093 1095 rfl ?_
      refine z_icmp_ne C (by omega) (by omega) 1103 dL_isStep_1095 (by decide) 1098 rfl (fun c_25 => ?_) (fun c_25 => ?_)
      rotate_left
      · exfalso; omega
      refine z_iload C 5 rfl dL_isStep_1103 1105 rfl ?_
      refine z_icmpI_ne C 1112 dL_isStep_1105 (by decide) 1108 rfl (fun c_26 => absurd (show (nI told : Int32) = nI (sN S) from (congrArg nI (by omega))) c_26) (fun c_26 => ?_)
      refine z_iconst C (v := nI 1) rfl dL_isStep_1108 1109 rfl ?_
      refine z_goto C 1113 dL_isStep_1109 (by decide) ?_
      refine z_eq (st2 := [.int (bI true)]) ?_ rfl rfl rfl
      exact z_bret C hRx dL_isStep_1113 (uPush S (sSt S) (apR (sR S) (sN S) pl sh hu du) (sN S + 1), J2_23, uPush T (sSt T) (apR (sR T) (sN T) pl sh hu (2 * du)) (sN T + 1), J2_21) rfl (⟨hI2, hIT2, hRel2⟩) rfl

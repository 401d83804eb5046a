/-! IS: save -/
set_option maxHeartbeats 4000000 in
set_option maxRecDepth 100000 in
theorem is_save {K : zK} {A : Nat → Prop} (C : Cx K ({ frames := 8, cells := 0, slots := 0, locals := 175 } : Room) RL cL_isStep wsL_isStep) (hnL : K.nL = 17) (x : Nat → Nat) (a : oA) (S : oS) (J : oJ) (y : Nat → Nat) (b : oA) (T : oS) (Jp : oJ) (v w z : Int32) (jb pl sh hu du : Nat) (hRx : RS K x a y b A) (hE : eAll K.A K.s) (hI : INV S) (hIT : INV T) (hRel : REL S T 6) (hjb : (sN S = 0 ∧ jb = 0) ∨ jb < sN S) (hpl : pl ≤ 3) (hsh : sh ≤ 9) (hu1 : 1 ≤ hu) (hu2 : hu ≤ 20) (hdu : du ≤ 1500) : Z K 0 0 [wO K.g x a S J, wO K.g y b T Jp] [(0, .ref (x 0)), (1, .ref (y 0)), (2, .int v), (3, .int w), (4, .int z), (5, .int (nI (sN S))), (6, .int (nI jb)), (7, .int (nI pl)), (8, .int (nI sh)), (9, .int (nI hu)), (10, .int (nI du))] 867 [] := by
  have heAll := hE
  obtain ⟨heSet, heOrd⟩ := hE
  obtain ⟨hn, hS, hJ, hR⟩ := id hI.1
  obtain ⟨⟨hN, hds, hdr⟩, hkp, hnx, hhi, hsl⟩ := id hRel
  have h5b := hS.2.2.2.2.2.2.2.1
  have h6b := hS.2.2.2.2.2.2.2.2
  have hz2 : upN z 2 < 2 := upN_lt (by decide)
  refine z_iload_n C 3 rfl rfl dL_isStep_867 868 rfl ?_
  refine z_iconst C (v := nI 2) rfl dL_isStep_868 869 rfl ?_
  refine z_callP C [.int w, .int (nI 2)] [] (tL_up K.l K.g w 2 (by decide) (by decide)) gL_isStep_L_up rfl rfl rfl hdL_up ⟨Nat.le_of_ble_eq_true rfl, Nat.le_of_ble_eq_true rfl⟩ ⟨Nat.zero_le _, Nat.zero_le _⟩ rfl rfl (Nat.le_of_ble_eq_true rfl) dL_isStep_869 872 rfl (fun u9 hu9 => ?_)
  show Z K 0 0 [wO K.g x a S J, wO K.g y b T Jp] [(0, .ref (x 0)), (1, .ref (y 0)), (2, .int v), (3, .int w), (4, .int z), (5, .int (nI (sN S))), (6, .int (nI jb)), (7, .int (nI pl)), (8, .int (nI sh)), (9, .int (nI hu)), (10, .int (nI du))] 872 [.int (nI (upN w 2))]
  refine z_nm (fun u1 eu1 => ?_)
  have hu_u1 : u1 < 2 := by rw [eu1]; exact upN_lt (by decide)
  refine z_if_ne C (by omega) 906 dL_isStep_872 (by decide) 875 rfl (fun c_1 => ?_) (fun c_1 => ?_)
  · skip
    refine z_aload_n C 0 rfl rfl dL_isStep_906 907 rfl ?_
    refine z_iload C 4 rfl dL_isStep_907 909 rfl ?_
    refine z_iconst C (v := nI 2) rfl dL_isStep_909 910 rfl ?_
    refine z_callP C [.int z, .int (nI 2)] [.ref (x 0)] (tL_up K.l K.g z 2 (by decide) (by decide)) gL_isStep_L_up rfl rfl rfl hdL_up ⟨Nat.le_of_ble_eq_true rfl, Nat.le_of_ble_eq_true rfl⟩ ⟨Nat.zero_le _, Nat.zero_le _⟩ rfl rfl (Nat.le_of_ble_eq_true rfl) dL_isStep_910 913 rfl (fun u9 hu9 => ?_)
    show Z K 0 0 [wO K.g x a S J, wO K.g y b T Jp] [(0, .ref (x 0)), (1, .ref (y 0)), (2, .int v), (3, .int w), (4, .int z), (5, .int (nI (sN S))), (6, .int (nI jb)), (7, .int (nI pl)), (8, .int (nI sh)), (9, .int (nI hu)), (10, .int (nI du))] 913 [.int (nI (upN z 2)), .ref (x 0)]
    refine z_callV C [.int (nI (upN z 2))] [] (tO_restore K.l K.g x a S J (upN z 2) hI (by omega) (hsl _ hz2).1) gL_isStep_X4_restore rfl rfl rfl hdX4_restore ⟨Nat.le_of_ble_eq_true rfl, Nat.le_of_ble_eq_true rfl⟩ ⟨Nat.zero_le _, Nat.zero_le _⟩ 0 0 rfl rfl rfl [0] rfl rfl (zlc (N := 2) rfl rfl) [2, 1] rfl (by decide) (fun J2 : oJ => [wO K.g x a (uPush S (sSs S (upN z 2)) (sSr S (upN z 2)) (sSn S (upN z 2))) J2, wO K.g y b T Jp]) (fun _ => rfl) rfl rfl (Nat.le_of_ble_eq_true rfl) dL_isStep_913 916 rfl (fun u9 hu9 => ?_)
    obtain ⟨J2_2, rfl⟩ : ∃ z, z = u9 := ⟨_, rfl⟩
    show Z K 0 0 [wO K.g x a (uPush S (sSs S (upN z 2)) (sSr S (upN z 2)) (sSn S (upN z 2))) J2_2, wO K.g y b T Jp] [(0, .ref (x 0)), (1, .ref (y 0)), (2, .int v), (3, .int w), (4, .int z), (5, .int (nI (sN S))), (6, .int (nI jb)), (7, .int (nI pl)), (8, .int (nI sh)), (9, .int (nI hu)), (10, .int (nI du))] 916 [.int (nI ((sSn S) (upN z 2)))]
    refine z_aload_n C 1 rfl rfl dL_isStep_916 917 rfl ?_
    refine z_iload C 4 rfl dL_isStep_917 919 rfl ?_
    refine z_iconst C (v := nI 2) rfl dL_isStep_919 920 rfl ?_
    refine z_callP C [.int z, .int (nI 2)] [.ref (y 0), .int (nI ((sSn S) (upN z 2)))] (tL_up K.l K.g z 2 (by decide) (by decide)) gL_isStep_L_up rfl rfl rfl hdL_up ⟨Nat.le_of_ble_eq_true rfl, Nat.le_of_ble_eq_true rfl⟩ ⟨Nat.zero_le _, Nat.zero_le _⟩ rfl rfl (Nat.le_of_ble_eq_true rfl) dL_isStep_920 923 rfl (fun u9 hu9 => ?_)
    show Z K 0 0 [wO K.g x a (uPush S (sSs S (upN z 2)) (sSr S (upN z 2)) (sSn S (upN z 2))) J2_2, wO K.g y b T Jp] [(0, .ref (x 0)), (1, .ref (y 0)), (2, .int v), (3, .int w), (4, .int z), (5, .int (nI (sN S))), (6, .int (nI jb)), (7, .int (nI pl)), (8, .int (nI sh)), (9, .int (nI hu)), (10, .int (nI du))] 923 [.int (nI (upN z 2)), .ref (y 0), .int (nI ((sSn S) (upN z 2)))]
    refine z_callV C [.int (nI (upN z 2))] [.int (nI ((sSn S) (upN z 2)))] (tO_restore K.l K.g y b T Jp (upN z 2) hIT (by omega) (hsl _ hz2).2.1) gL_isStep_X4_restore rfl rfl rfl hdX4_restore ⟨Nat.le_of_ble_eq_true rfl, Nat.le_of_ble_eq_true rfl⟩ ⟨Nat.zero_le _, Nat.zero_le _⟩ 1 0 rfl rfl rfl [1] rfl rfl (zlc (N := 2) rfl rfl) [0, 2] rfl (by decide) (fun J2 : oJ => [wO K.g x a (uPush S (sSs S (upN z 2)) (sSr S (upN z 2)) (sSn S (upN z 2))) J2_2, wO K.g y b (uPush T (sSs T (upN z 2)) (sSr T (upN z 2)) (sSn T (upN z 2))) J2]) (fun _ => rfl) rfl rfl (Nat.le_of_ble_eq_true rfl) dL_isStep_923 926 rfl (fun u9 hu9 => ?_)
    obtain ⟨J2_3, rfl⟩ : ∃ z, z = u9 := ⟨_, rfl⟩
    show Z K 0 0 [wO K.g x a (uPush S (sSs S (upN z 2)) (sSr S (upN z 2)) (sSn S (upN z 2))) J2_2, wO K.g y b (uPush T (sSs T (upN z 2)) (sSr T (upN z 2)) (sSn T (upN z 2))) J2_3] [(0, .ref (x 0)), (1, .ref (y 0)), (2, .int v), (3, .int w), (4, .int z), (5, .int (nI (sN S))), (6, .int (nI jb)), (7, .int (nI pl)), (8, .int (nI sh)), (9, .int (nI hu)), (10, .int (nI du))] 926 [.int (nI ((sSn T) (upN z 2))), .int (nI ((sSn S) (upN z 2)))]
    have hI2 := INV_push hI (hI.2.2.2.2.1 _ hz2 (hsl _ hz2).1)
    have hIT2 := INV_push hIT (hIT.2.2.2.2.1 _ hz2 (hsl _ hz2).2.1)
    have hRel2 := REL_push6 hI hRel (hsl _ hz2).2.2
    refine z_icmpI_ne C 933 dL_isStep_926 (by decide) 929 rfl (fun c_4 => absurd (show (nI ((sSn S) (upN z 2)) : Int32) = nI ((sSn T) (upN z 2)) from (congrArg nI (hsl _ hz2).2.2.1.symm)) c_4) (fun c_4 => ?_)
    refine z_iconst C (v := nI 1) rfl dL_isStep_929 930 rfl ?_
    refine z_goto C 934 dL_isStep_930 (by decide) ?_
    refine z_eq (st2 := [.int (bI true)]) ?_ rfl rfl rfl
    exact z_bret C hRx dL_isStep_934 (uPush S (sSs S (upN z 2)) (sSr S (upN z 2)) (sSn S (upN z 2)), J2_2, uPush T (sSs T (upN z 2)) (sSr T (upN z 2)) (sSn T (upN z 2)), J2_3) rfl (⟨hI2, hIT2, hRel2⟩) rfl
  · skip
    refine z_aload_n C 0 rfl rfl dL_isStep_875 876 rfl ?_
    refine z_iload C 4 rfl dL_isStep_876 878 rfl ?_
    refine z_iconst C (v := nI 2) rfl dL_isStep_878 879 rfl ?_
    refine z_callP C [.int z, .int (nI 2)] [.ref (x 0)] (tL_up K.l K.g z 2 (by decide) (by decide)) gL_isStep_L_up rfl rfl rfl hdL_up ⟨Nat.le_of_ble_eq_true rfl, Nat.le_of_ble_eq_true rfl⟩ ⟨Nat.zero_le _, Nat.zero_le _⟩ rfl rfl (Nat.le_of_ble_eq_true rfl) dL_isStep_879 882 rfl (fun u9 hu9 => ?_)
    show Z K 0 0 [wO K.g x a S J, wO K.g y b T Jp] [(0, .ref (x 0)), (1, .ref (y 0)), (2, .int v), (3, .int w), (4, .int z), (5, .int (nI (sN S))), (6, .int (nI jb)), (7, .int (nI pl)), (8, .int (nI sh)), (9, .int (nI hu)), (10, .int (nI du))] 882 [.int (nI (upN z 2)), .ref (x 0)]
    refine z_callV C [.int (nI (upN z 2))] [] (tO_save K.l K.g x a S J (upN z 2) hI (by omega)) gL_isStep_X4_save rfl rfl rfl hdX4_save ⟨Nat.le_of_ble_eq_true rfl, Nat.le_of_ble_eq_true rfl⟩ ⟨Nat.zero_le _, Nat.zero_le _⟩ 0 0 rfl rfl rfl [0] rfl rfl (zlc (N := 2) rfl rfl) [2, 1] rfl (by decide) (fun J2 : oJ => [wO K.g x a (uSave S (upN z 2)) J2, wO K.g y b T Jp]) (fun _ => rfl) rfl rfl (Nat.le_of_ble_eq_true rfl) dL_isStep_882 885 rfl (fun u9 hu9 => ?_)
    obtain ⟨J2_5, rfl⟩ : ∃ z, z = u9 := ⟨_, rfl⟩
    show Z K 0 0 [wO K.g x a (uSave S (upN z 2)) J2_5, wO K.g y b T Jp] [(0, .ref (x 0)), (1, .ref (y 0)), (2, .int v), (3, .int w), (4, .int z), (5, .int (nI (sN S))), (6, .int (nI jb)), (7, .int (nI pl)), (8, .int (nI sh)), (9, .int (nI hu)), (10, .int (nI du))] 885 [.int (nI (sN S))]
    refine z_aload_n C 1 rfl rfl dL_isStep_885 886 rfl ?_
    refine z_iload C 4 rfl dL_isStep_886 888 rfl ?_
    refine z_iconst C (v := nI 2) rfl dL_isStep_888 889 rfl ?_
    refine z_callP C [.int z, .int (nI 2)] [.ref (y 0), .int (nI (sN S))] (tL_up K.l K.g z 2 (by decide) (by decide)) gL_isStep_L_up rfl rfl rfl hdL_up ⟨Nat.le_of_ble_eq_true rfl, Nat.le_of_ble_eq_true rfl⟩ ⟨Nat.zero_le _, Nat.zero_le _⟩ rfl rfl (Nat.le_of_ble_eq_true rfl) dL_isStep_889 892 rfl (fun u9 hu9 => ?_)
    show Z K 0 0 [wO K.g x a (uSave S (upN z 2)) J2_5, wO K.g y b T Jp] [(0, .ref (x 0)), (1, .ref (y 0)), (2, .int v), (3, .int w), (4, .int z), (5, .int (nI (sN S))), (6, .int (nI jb)), (7, .int (nI pl)), (8, .int (nI sh)), (9, .int (nI hu)), (10, .int (nI du))] 892 [.int (nI (upN z 2)), .ref (y 0), .int (nI (sN S))]
    refine z_callV C [.int (nI (upN z 2))] [.int (nI (sN S))] (tO_save K.l K.g y b T Jp (upN z 2) hIT (by omega)) gL_isStep_X4_save rfl rfl rfl hdX4_save ⟨Nat.le_of_ble_eq_true rfl, Nat.le_of_ble_eq_true rfl⟩ ⟨Nat.zero_le _, Nat.zero_le _⟩ 1 0 rfl rfl rfl [1] rfl rfl (zlc (N := 2) rfl rfl) [0, 2] rfl (by decide) (fun J2 : oJ => [wO K.g x a (uSave S (upN z 2)) J2_5, wO K.g y b (uSave T (upN z 2)) J2]) (fun _ => rfl) rfl rfl (Nat.le_of_ble_eq_true rfl) dL_isStep_892 895 rfl (fun u9 hu9 => ?_)
    obtain ⟨J2_6, rfl⟩ : ∃ z, z = u9 := ⟨_, rfl⟩
    show Z K 0 0 [wO K.g x a (uSave S (upN z 2)) J2_5, wO K.g y b (uSave T (upN z 2)) J2_6] [(0, .ref (x 0)), (1, .ref (y 0)), (2, .int v), (3, .int w), (4, .int z), (5, .int (nI (sN S))), (6, .int (nI jb)), (7, .int (nI pl)), (8, .int (nI sh)), (9, .int (nI hu)), (10, .int (nI du))] 895 [.int (nI (sN T)), .int (nI (sN S))]
    have hI2 := INV_save hI (upN z 2)
    have hIT2 := INV_save hIT (upN z 2)
    have hRel2 := REL_save hRel (upN z 2)
    refine z_icmpI_ne C 902 dL_isStep_895 (by decide) 898 rfl (fun c_7 => absurd (show (nI (sN S) : Int32) = nI (sN T) from (congrArg nI (by omega))) c_7) (fun c_7 => ?_)
    refine z_iconst C (v := nI 1) rfl dL_isStep_898 899 rfl ?_
    refine z_goto C 934 dL_isStep_899 (by decide) ?_
    refine z_eq (st2 := [.int (bI true)]) ?_ rfl rfl rfl
    exact z_bret C hRx dL_isStep_934 (uSave S (upN z 2), J2_5, uSave T (upN z 2), J2_6) rfl (⟨hI2, hIT2, hRel2⟩) rfl

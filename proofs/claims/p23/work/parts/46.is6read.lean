/-! IS: read -/
set_option maxHeartbeats 4000000 in
set_option maxRecDepth 100000 in
theorem is_read {K : zK} {A : Nat → Prop} (C : Cx K ({ frames := 8, cells := 0, slots := 0, locals := 175 } : Room) RL cL_isStep wsL_isStep) (hnL : K.nL = 17) (x : Nat → Nat) (a : oA) (S : oS) (J : oJ) (y : Nat → Nat) (b : oA) (T : oS) (Jp : oJ) (v w z : Int32) (jb pl sh hu du : Nat) (hRx : RS K x a y b A) (hE : eAll K.A K.s) (hI : INV S) (hIT : INV T) (hRel : REL S T 6) (hjb : (sN S = 0 ∧ jb = 0) ∨ jb < sN S) (hpl : pl ≤ 3) (hsh : sh ≤ 9) (hu1 : 1 ≤ hu) (hu2 : hu ≤ 20) (hdu : du ≤ 1500) : Z K 0 0 [wO K.g x a S J, wO K.g y b T Jp] [(0, .ref (x 0)), (1, .ref (y 0)), (2, .int v), (3, .int w), (4, .int z), (5, .int (nI (sN S))), (6, .int (nI jb)), (7, .int (nI pl)), (8, .int (nI sh)), (9, .int (nI hu)), (10, .int (nI du))] 736 [] := by
  have heAll := hE
  obtain ⟨heSet, heOrd⟩ := hE
  obtain ⟨hn, hS, hJ, hR⟩ := id hI.1
  obtain ⟨⟨hN, hds, hdr⟩, hkp, hnx, hhi, hsl⟩ := id hRel
  have h5b := hS.2.2.2.2.2.2.2.1
  have h6b := hS.2.2.2.2.2.2.2.2
  refine z_aload_n C 0 rfl rfl dL_isStep_736 737 rfl ?_
  refine z_iload C 7 rfl dL_isStep_737 739 rfl ?_
  refine z_iload C 8 rfl dL_isStep_739 741 rfl ?_
  refine z_iload C 9 rfl dL_isStep_741 743 rfl ?_
  refine z_iload C 10 rfl dL_isStep_743 745 rfl ?_
  refine z_callS C [.ref (x 0), .int (nI pl), .int (nI sh), .int (nI hu), .int (nI du)] [] (tL_isTyped K.l K.g x a S J pl sh hu du hI (by omega) (by omega) (by omega) (by omega) (by omega)) gL_isStep_L_isTyped rfl rfl rfl hdL_isTyped ⟨Nat.le_of_ble_eq_true rfl, Nat.le_of_ble_eq_true rfl⟩ ⟨Nat.zero_le _, Nat.zero_le _⟩ [0] rfl rfl (zlc (N := 2) rfl rfl) [2, 1] rfl (by decide) (fun u : (oJ) × (Nat → Nat) × (Nat) => match u with | (J2, tx2, len2) => [wO K.g x a (uPad S tx2 len2) J2, wO K.g y b T Jp]) (fun _ => rfl) rfl rfl (Nat.le_of_ble_eq_true rfl) dL_isStep_745 748 rfl (fun u9 hu9 => ?_)
  obtain ⟨J2_1, t1, l1⟩ := u9
  obtain ⟨hTy1, hT1⟩ := hu9
  have hTy1 : TYP t1 l1 pl sh hu du := hTy1
  have hT1 : IT t1 l1 := hT1
  show Z K 0 0 [wO K.g x a (uPad S t1 l1) J2_1, wO K.g y b T Jp] [(0, .ref (x 0)), (1, .ref (y 0)), (2, .int v), (3, .int w), (4, .int z), (5, .int (nI (sN S))), (6, .int (nI jb)), (7, .int (nI pl)), (8, .int (nI sh)), (9, .int (nI hu)), (10, .int (nI du))] 748 [.int (bI true)]
  refine z_ifb_eq C 772 dL_isStep_748 (by decide) 751 rfl (fun c_2 => ?_) (fun c_2 => ?_)
  · exfalso; exact absurd c_2 (by decide)
  refine z_aload_n C 1 rfl rfl dL_isStep_751 752 rfl ?_
  refine z_iload C 7 rfl dL_isStep_752 754 rfl ?_
  refine z_iload C 8 rfl dL_isStep_754 756 rfl ?_
  refine z_iload C 9 rfl dL_isStep_756 758 rfl ?_
  refine z_iconst C (v := nI 2) rfl dL_isStep_758 759 rfl ?_
  refine z_iload C 10 rfl dL_isStep_759 761 rfl ?_
  refine z_imul C dL_isStep_761 762 rfl ?_
  refine z_callS C [.ref (y 0), .int (nI pl), .int (nI sh), .int (nI hu), .int (nI (2 * du))] [] (tL_isTyped K.l K.g y b T Jp pl sh hu (2 * du) hIT (by omega) (by omega) (by omega) (by omega) (by omega)) gL_isStep_L_isTyped rfl rfl rfl hdL_isTyped ⟨Nat.le_of_ble_eq_true rfl, Nat.le_of_ble_eq_true rfl⟩ ⟨Nat.zero_le _, Nat.zero_le _⟩ [1] rfl rfl (zlc (N := 2) rfl rfl) [0, 2] rfl (by decide) (fun u : (oJ) × (Nat → Nat) × (Nat) => match u with | (J2, tx2, len2) => [wO K.g x a (uPad S t1 l1) J2_1, wO K.g y b (uPad T tx2 len2) J2]) (fun _ => rfl) rfl rfl (Nat.le_of_ble_eq_true rfl) dL_isStep_762 765 rfl (fun u9 hu9 => ?_)
  obtain ⟨J2_3, t2, l2⟩ := u9
  obtain ⟨hTy2, hT3⟩ := hu9
  have hTy2 : TYP t2 l2 pl sh hu (2 * du) := hTy2
  have hT3 : IT t2 l2 := hT3
  show Z K 0 0 [wO K.g x a (uPad S t1 l1) J2_1, wO K.g y b (uPad T t2 l2) J2_3] [(0, .ref (x 0)), (1, .ref (y 0)), (2, .int v), (3, .int w), (4, .int z), (5, .int (nI (sN S))), (6, .int (nI jb)), (7, .int (nI pl)), (8, .int (nI sh)), (9, .int (nI hu)), (10, .int (nI du))] 765 [.int (bI true)]
  refine z_ifb_eq C 772 dL_isStep_765 (by decide) 768 rfl (fun c_4 => ?_) (fun c_4 => ?_)
  · exfalso; exact absurd c_4 (by decide)
  refine z_iconst C (v := nI 1) rfl dL_isStep_768 769 rfl ?_
  refine z_goto C 773 dL_isStep_769 (by decide) ?_
  refine z_istore C hnL [1, 2, 3, 4, 5, 6, 7, 8, 9, 10, 11, 0] [(0, .ref (x 0)), (1, .ref (y 0)), (2, .int v), (3, .int w), (4, .int z), (5, .int (nI (sN S))), (6, .int (nI jb)), (7, .int (nI pl)), (8, .int (nI sh)), (9, .int (nI hu)), (10, .int (nI du)), (11, .int (nI 1))] rfl (Nat.le_of_ble_eq_true rfl) dL_isStep_773 775 rfl ?_
  by_cases hq0 : sSt S 5 < nd (sSt S 6) hu
  · skip
    refine z_aload_n C 0 rfl rfl dL_isStep_775 776 rfl ?_
    refine z_callV C [] [] (tO_read_np K.l K.g x a (uPad S t1 l1) J2_1 pl sh hu du (INV_pad hI hT1) hTy1 (by omega) (by omega) (by omega) (by omega) (by omega) hq0) gL_isStep_X4_read rfl rfl rfl hdX4_read ⟨Nat.le_of_ble_eq_true rfl, Nat.le_of_ble_eq_true rfl⟩ ⟨Nat.zero_le _, Nat.zero_le _⟩ 0 0 rfl rfl rfl [0] rfl rfl (zlc (N := 2) rfl rfl) [2, 1] rfl (by decide) (fun J2 : oJ => [wO K.g x a (uPad S t1 l1) J2, wO K.g y b (uPad T t2 l2) J2_3]) (fun _ => rfl) rfl rfl (Nat.le_of_ble_eq_true rfl) dL_isStep_776 779 rfl (fun u9 hu9 => ?_)
    obtain ⟨J2_5, rfl⟩ : ∃ z, z = u9 := ⟨_, rfl⟩
    show Z K 0 0 [wO K.g x a (uPad S t1 l1) J2_5, wO K.g y b (uPad T t2 l2) J2_3] [(0, .ref (x 0)), (1, .ref (y 0)), (2, .int v), (3, .int w), (4, .int z), (5, .int (nI (sN S))), (6, .int (nI jb)), (7, .int (nI pl)), (8, .int (nI sh)), (9, .int (nI hu)), (10, .int (nI du)), (11, .int (nI 1))] 779 [.int (-5)]
    refine z_istore C hnL [1, 2, 3, 4, 5, 6, 7, 8, 9, 10, 11, 12, 0] [(0, .ref (x 0)), (1, .ref (y 0)), (2, .int v), (3, .int w), (4, .int z), (5, .int (nI (sN S))), (6, .int (nI jb)), (7, .int (nI pl)), (8, .int (nI sh)), (9, .int (nI hu)), (10, .int (nI du)), (11, .int (nI 1)), (12, .int (-5))] rfl (Nat.le_of_ble_eq_true rfl) dL_isStep_779 781 rfl ?_
    refine z_iload C 11 rfl dL_isStep_781 783 rfl ?_
    refine z_if_eq C (by omega) 839 dL_isStep_783 (by decide) 786 rfl (fun c_6 => ?_) (fun c_6 => ?_)
    · exfalso; omega
    refine z_iload C 12 rfl dL_isStep_786 788 rfl ?_
    refine z_aload_n C 1 rfl rfl dL_isStep_788 789 rfl ?_
    refine z_callV C [] [.int (-5)] (tO_read_np K.l K.g y b (uPad T t2 l2) J2_3 pl sh hu (2 * du) (INV_pad hIT hT3) hTy2 (by omega) (by omega) (by omega) (by omega) (by omega) (show sSt T 5 < nd (sSt T 6) hu by rw [hds.2.1, hds.2.2]; exact hq0)) gL_isStep_X4_read rfl rfl rfl hdX4_read ⟨Nat.le_of_ble_eq_true rfl, Nat.le_of_ble_eq_true rfl⟩ ⟨Nat.zero_le _, Nat.zero_le _⟩ 1 0 rfl rfl rfl [1] rfl rfl (zlc (N := 2) rfl rfl) [0, 2] rfl (by decide) (fun J2 : oJ => [wO K.g x a (uPad S t1 l1) J2_5, wO K.g y b (uPad T t2 l2) J2]) (fun _ => rfl) rfl rfl (Nat.le_of_ble_eq_true rfl) dL_isStep_789 792 rfl (fun u9 hu9 => ?_)
    obtain ⟨J2_7, rfl⟩ : ∃ z, z = u9 := ⟨_, rfl⟩
    show Z K 0 0 [wO K.g x a (uPad S t1 l1) J2_5, wO K.g y b (uPad T t2 l2) J2_7] [(0, .ref (x 0)), (1, .ref (y 0)), (2, .int v), (3, .int w), (4, .int z), (5, .int (nI (sN S))), (6, .int (nI jb)), (7, .int (nI pl)), (8, .int (nI sh)), (9, .int (nI hu)), (10, .int (nI du)), (11, .int (nI 1)), (12, .int (-5))] 792 [.int (-5), .int (-5)]
    refine z_icmpI_ne C 839 dL_isStep_792 (by decide) 795 rfl (fun c_8 => absurd (show ((-5) : Int32) = (-5) from rfl) c_8) (fun c_8 => ?_)
    refine z_iload C 12 rfl dL_isStep_795 797 rfl ?_
    refine z_ifI_ge C 814 dL_isStep_797 (by decide) 800 rfl (fun c_9 => ?_) (fun c_9 => ?_)
    · exfalso; exact absurd c_9 (by decide)
    refine z_aload_n C 0 rfl rfl dL_isStep_800 801 rfl ?_
    refine z_bipush C (v := nI 7) rfl dL_isStep_801 803 rfl ?_
    refine z_callV C [.int (nI 7)] [] (tO_count K.l K.g x a (uPad S t1 l1) J2_5 7 (INV_pad hI hT1) (by first | omega | assumption)) gL_isStep_X4_count rfl rfl rfl hdX4_count ⟨Nat.le_of_ble_eq_true rfl, Nat.le_of_ble_eq_true rfl⟩ ⟨Nat.zero_le _, Nat.zero_le _⟩ 0 0 rfl rfl rfl [0] rfl rfl (zlc (N := 2) rfl rfl) [2, 1] rfl (by decide) (fun J2 : oJ => [wO K.g x a (uPad S t1 l1) J2, wO K.g y b (uPad T t2 l2) J2_7]) (fun _ => rfl) rfl rfl (Nat.le_of_ble_eq_true rfl) dL_isStep_803 806 rfl (fun u9 hu9 => ?_)
    obtain ⟨J2_10, rfl⟩ : ∃ z, z = u9 := ⟨_, rfl⟩
    show Z K 0 0 [wO K.g x a (uPad S t1 l1) J2_10, wO K.g y b (uPad T t2 l2) J2_7] [(0, .ref (x 0)), (1, .ref (y 0)), (2, .int v), (3, .int w), (4, .int z), (5, .int (nI (sN S))), (6, .int (nI jb)), (7, .int (nI pl)), (8, .int (nI sh)), (9, .int (nI hu)), (10, .int (nI du)), (11, .int (nI 1)), (12, .int (-5))] 806 [.int (nI (CN (sSt (uPad S t1 l1)) (sR (uPad S t1 l1)) (sN (uPad S t1 l1)) (sLen (uPad S t1 l1)) (sKp (uPad S t1 l1)) 7))]
    refine z_top (show (nI (CN (sSt (uPad S t1 l1)) (sR (uPad S t1 l1)) (sN (uPad S t1 l1)) (sLen (uPad S t1 l1)) (sKp (uPad S t1 l1)) 7) : Int32) = nI (sN S) from rfl) ?_
    refine z_iload C 5 rfl dL_isStep_806 808 rfl ?_
    refine z_icmpI_ne C 839 dL_isStep_808 (by decide) 811 rfl (fun c_11 => absurd (show (nI (sN S) : Int32) = nI (sN S) from rfl) c_11) (fun c_11 => ?_)
    refine z_goto C 835 dL_isStep_811 (by decide) ?_
    refine z_iconst C (v := nI 1) rfl dL_isStep_835 836 rfl ?_
    refine z_goto C 840 dL_isStep_836 (by decide) ?_
    refine z_eq (st2 := [.int (bI true)]) ?_ rfl rfl rfl
    exact z_bret C hRx dL_isStep_840 (uPad S t1 l1, J2_10, uPad T t2 l2, J2_7) rfl (⟨INV_pad hI hT1, INV_pad hIT hT3, hRel⟩) rfl
  · skip
    by_cases hq1 : 12 < sN S + 1
    · skip
      refine z_aload_n C 0 rfl rfl dL_isStep_775 776 rfl ?_
      refine z_callV C [] [] (tO_read_tm K.l K.g x a (uPad S t1 l1) J2_1 pl sh hu du (INV_pad hI hT1) hTy1 (by omega) (by omega) (by omega) (by omega) (by omega) (Nat.le_of_not_lt hq0) hq1) gL_isStep_X4_read rfl rfl rfl hdX4_read ⟨Nat.le_of_ble_eq_true rfl, Nat.le_of_ble_eq_true rfl⟩ ⟨Nat.zero_le _, Nat.zero_le _⟩ 0 0 rfl rfl rfl [0] rfl rfl (zlc (N := 2) rfl rfl) [2, 1] rfl (by decide) (fun J2 : oJ => [wO K.g x a (uPad S t1 l1) J2, wO K.g y b (uPad T t2 l2) J2_3]) (fun _ => rfl) rfl rfl (Nat.le_of_ble_eq_true rfl) dL_isStep_776 779 rfl (fun u9 hu9 => ?_)
      obtain ⟨J2_12, rfl⟩ : ∃ z, z = u9 := ⟨_, rfl⟩
      show Z K 0 0 [wO K.g x a (uPad S t1 l1) J2_12, wO K.g y b (uPad T t2 l2) J2_3] [(0, .ref (x 0)), (1, .ref (y 0)), (2, .int v), (3, .int w), (4, .int z), (5, .int (nI (sN S))), (6, .int (nI jb)), (7, .int (nI pl)), (8, .int (nI sh)), (9, .int (nI hu)), (10, .int (nI du)), (11, .int (nI 1))] 779 [.int (-4)]
      refine z_istore C hnL [1, 2, 3, 4, 5, 6, 7, 8, 9, 10, 11, 12, 0] [(0, .ref (x 0)), (1, .ref (y 0)), (2, .int v), (3, .int w), (4, .int z), (5, .int (nI (sN S))), (6, .int (nI jb)), (7, .int (nI pl)), (8, .int (nI sh)), (9, .int (nI hu)), (10, .int (nI du)), (11, .int (nI 1)), (12, .int (-4))] rfl (Nat.le_of_ble_eq_true rfl) dL_isStep_779 781 rfl ?_
      refine z_iload C 11 rfl dL_isStep_781 783 rfl ?_
      refine z_if_eq C (by omega) 839 dL_isStep_783 (by decide) 786 rfl (fun c_13 => ?_) (fun c_13 => ?_)
      · exfalso; omega
      refine z_iload C 12 rfl dL_isStep_786 788 rfl ?_
      refine z_aload_n C 1 rfl rfl dL_isStep_788 789 rfl ?_
      refine z_callV C [] [.int (-4)] (tO_read_tm K.l K.g y b (uPad T t2 l2) J2_3 pl sh hu (2 * du) (INV_pad hIT hT3) hTy2 (by omega) (by omega) (by omega) (by omega) (by omega) (show nd (sSt T 6) hu ≤ sSt T 5 by rw [hds.2.1, hds.2.2]; exact Nat.le_of_not_lt hq0) (show 12 < sN T + 1 by rw [hN]; exact hq1)) gL_isStep_X4_read rfl rfl rfl hdX4_read ⟨Nat.le_of_ble_eq_true rfl, Nat.le_of_ble_eq_true rfl⟩ ⟨Nat.zero_le _, Nat.zero_le _⟩ 1 0 rfl rfl rfl [1] rfl rfl (zlc (N := 2) rfl rfl) [0, 2] rfl (by decide) (fun J2 : oJ => [wO K.g x a (uPad S t1 l1) J2_12, wO K.g y b (uPad T t2 l2) J2]) (fun _ => rfl) rfl rfl (Nat.le_of_ble_eq_true rfl) dL_isStep_789 792 rfl (fun u9 hu9 => ?_)
      obtain ⟨J2_14, rfl⟩ : ∃ z, z = u9 := ⟨_, rfl⟩
      show Z K 0 0 [wO K.g x a (uPad S t1 l1) J2_12, wO K.g y b (uPad T t2 l2) J2_14] [(0, .ref (x 0)), (1, .ref (y 0)), (2, .int v), (3, .int w), (4, .int z), (5, .int (nI (sN S))), (6, .int (nI jb)), (7, .int (nI pl)), (8, .int (nI sh)), (9, .int (nI hu)), (10, .int (nI du)), (11, .int (nI 1)), (12, .int (-4))] 792 [.int (-4), .int (-4)]
      refine z_icmpI_ne C 839 dL_isStep_792 (by decide) 795 rfl (fun c_15 => absurd (show ((-4) : Int32) = (-4) from rfl) c_15) (fun c_15 => ?_)
      refine z_iload C 12 rfl dL_isStep_795 797 rfl ?_
      refine z_ifI_ge C 814 dL_isStep_797 (by decide) 800 rfl (fun c_16 => ?_) (fun c_16 => ?_)
      · exfalso; exact absurd c_16 (by decide)
      refine z_aload_n C 0 rfl rfl dL_isStep_800 801 rfl ?_
      refine z_bipush C (v := nI 7) rfl dL_isStep_801 803 rfl ?_
      refine z_callV C [.int (nI 7)] [] (tO_count K.l K.g x a (uPad S t1 l1) J2_12 7 (INV_pad hI hT1) (by first | omega | assumption)) gL_isStep_X4_count rfl rfl rfl hdX4_count ⟨Nat.le_of_ble_eq_true rfl, Nat.le_of_ble_eq_true rfl⟩ ⟨Nat.zero_le _, Nat.zero_le _⟩ 0 0 rfl rfl rfl [0] rfl rfl (zlc (N := 2) rfl rfl) [2, 1] rfl (by decide) (fun J2 : oJ => [wO K.g x a (uPad S t1 l1) J2, wO K.g y b (uPad T t2 l2) J2_14]) (fun _ => rfl) rfl rfl (Nat.le_of_ble_eq_true rfl) dL_isStep_803 806 rfl (fun u9 hu9 => ?_)
      obtain ⟨J2_17, rfl⟩ : ∃ z, z = u9 := ⟨_, rfl⟩
      show Z K 0 0 [wO K.g x a (uPad S t1 l1) J2_17, wO K.g y b (uPad T t2 l2) J2_14] [(0, .ref (x 0)), (1, .ref (y 0)), (2, .int v), (3, .int w), (4, .int z), (5, .int (nI (sN S))), (6, .int (nI jb)), (7, .int (nI pl)), (8, .int (nI sh)), (9, .int (nI hu)), (10, .int (nI du)), (11, .int (nI 1)), (12, .int (-4))] 806 [.int (nI (CN (sSt (uPad S t1 l1)) (sR (uPad S t1 l1)) (sN (uPad S t1 l1)) (sLen (uPad S t1 l1)) (sKp (uPad S t1 l1)) 7))]
      refine z_top (show (nI (CN (sSt (uPad S t1 l1)) (sR (uPad S t1 l1)) (sN (uPad S t1 l1)) (sLen (uPad S t1 l1)) (sKp (uPad S t1 l1)) 7) : Int32) = nI (sN S) from rfl) ?_
      refine z_iload C 5 rfl dL_isStep_806 808 rfl ?_
      refine z_icmpI_ne C 839 dL_isStep_808 (by decide) 811 rfl (fun c_18 => absurd (show (nI (sN S) : Int32) = nI (sN S) from rfl) c_18) (fun c_18 => ?_)
      refine z_goto C 835 dL_isStep_811 (by decide) ?_
      refine z_iconst C (v := nI 1) rfl dL_isStep_835 836 rfl ?_
      refine z_goto C 840 dL_isStep_836 (by decide) ?_
      refine z_eq (st2 := [.int (bI true)]) ?_ rfl rfl rfl
      exact z_bret C hRx dL_isStep_840 (uPad S t1 l1, J2_17, uPad T t2 l2, J2_14) rfl (⟨INV_pad hI hT1, INV_pad hIT hT3, hRel⟩) rfl
    · skip
      refine z_aload_n C 0 rfl rfl dL_isStep_775 776 rfl ?_
      refine z_callV C [] [] (tO_read_ok K.l K.g x a (uPad S t1 l1) J2_1 pl sh hu du (INV_pad hI hT1) hTy1 (by omega) (by omega) (by omega) (by omega) (by omega) (Nat.le_of_not_lt hq0) (Nat.le_of_not_lt hq1)) gL_isStep_X4_read rfl rfl rfl hdX4_read ⟨Nat.le_of_ble_eq_true rfl, Nat.le_of_ble_eq_true rfl⟩ ⟨Nat.zero_le _, Nat.zero_le _⟩ 0 0 rfl rfl rfl [0] rfl rfl (zlc (N := 2) rfl rfl) [2, 1] rfl (by decide) (fun J2 : oJ => [wO K.g x a (uPad (uPush (uPad S t1 l1) (sSt (uPad S t1 l1)) (apR (sR (uPad S t1 l1)) (sN (uPad S t1 l1)) pl sh hu du) (sN (uPad S t1 l1) + 1)) (sTx (uPad S t1 l1)) 0) J2, wO K.g y b (uPad T t2 l2) J2_3]) (fun _ => rfl) rfl rfl (Nat.le_of_ble_eq_true rfl) dL_isStep_776 779 rfl (fun u9 hu9 => ?_)
      obtain ⟨J2_19, rfl⟩ : ∃ z, z = u9 := ⟨_, rfl⟩
      show Z K 0 0 [wO K.g x a (uPad (uPush (uPad S t1 l1) (sSt (uPad S t1 l1)) (apR (sR (uPad S t1 l1)) (sN (uPad S t1 l1)) pl sh hu du) (sN (uPad S t1 l1) + 1)) (sTx (uPad S t1 l1)) 0) J2_19, wO K.g y b (uPad T t2 l2) J2_3] [(0, .ref (x 0)), (1, .ref (y 0)), (2, .int v), (3, .int w), (4, .int z), (5, .int (nI (sN S))), (6, .int (nI jb)), (7, .int (nI pl)), (8, .int (nI sh)), (9, .int (nI hu)), (10, .int (nI du)), (11, .int (nI 1))] 779 [.int (nI (sN (uPad S t1 l1) + 1))]
      refine z_top (show (nI (sN (uPad S t1 l1) + 1) : Int32) = nI (sN S + 1) from rfl) ?_
      refine z_nm (fun told etold => ?_)
      have hG2 := GB_ap hI.1 (show sN S < 12 by omega) (show pl ≤ 9 by omega) hsh hu1 hu2 (show du ≤ 3000 by omega) (Nat.le_of_not_lt hq0)
      have hI2 := INV_pad (INV_push (INV_pad hI hT1) hG2) (IT_0 (tx := sTx (uPad S t1 l1)))
      refine z_istore C hnL [1, 2, 3, 4, 5, 6, 7, 8, 9, 10, 11, 12, 0] [(0, .ref (x 0)), (1, .ref (y 0)), (2, .int v), (3, .int w), (4, .int z), (5, .int (nI (sN S))), (6, .int (nI jb)), (7, .int (nI pl)), (8, .int (nI sh)), (9, .int (nI hu)), (10, .int (nI du)), (11, .int (nI 1)), (12, .int (nI told))] rfl (Nat.le_of_ble_eq_true rfl) dL_isStep_779 781 rfl ?_
      refine z_iload C 11 rfl dL_isStep_781 783 rfl ?_
      refine z_if_eq C (by omega) 839 dL_isStep_783 (by decide) 786 rfl (fun c_20 => ?_) (fun c_20 => ?_)
      · exfalso; omega
      refine z_iload C 12 rfl dL_isStep_786 788 rfl ?_
      refine z_aload_n C 1 rfl rfl dL_isStep_788 789 rfl ?_
      refine z_callV C [] [.int (nI told)] (tO_read_ok K.l K.g y b (uPad T t2 l2) J2_3 pl sh hu (2 * du) (INV_pad hIT hT3) hTy2 (by omega) (by omega) (by omega) (by omega) (by omega) (show nd (sSt T 6) hu ≤ sSt T 5 by rw [hds.2.1, hds.2.2]; exact Nat.le_of_not_lt hq0) (show sN T + 1 ≤ 12 by rw [hN]; exact Nat.le_of_not_lt hq1)) gL_isStep_X4_read rfl rfl rfl hdX4_read ⟨Nat.le_of_ble_eq_true rfl, Nat.le_of_ble_eq_true rfl⟩ ⟨Nat.zero_le _, Nat.zero_le _⟩ 1 0 rfl rfl rfl [1] rfl rfl (zlc (N := 2) rfl rfl) [0, 2] rfl (by decide) (fun J2 : oJ => [wO K.g x a (uPad (uPush (uPad S t1 l1) (sSt (uPad S t1 l1)) (apR (sR (uPad S t1 l1)) (sN (uPad S t1 l1)) pl sh hu du) (sN (uPad S t1 l1) + 1)) (sTx (uPad S t1 l1)) 0) J2_19, wO K.g y b (uPad (uPush (uPad T t2 l2) (sSt (uPad T t2 l2)) (apR (sR (uPad T t2 l2)) (sN (uPad T t2 l2)) pl sh hu (2 * du)) (sN (uPad T t2 l2) + 1)) (sTx (uPad T t2 l2)) 0) J2]) (fun _ => rfl) rfl rfl (Nat.le_of_ble_eq_true rfl) dL_isStep_789 792 rfl (fun u9 hu9 => ?_)
      obtain ⟨J2_21, rfl⟩ : ∃ z, z = u9 := ⟨_, rfl⟩
      show Z K 0 0 [wO K.g x a (uPad (uPush (uPad S t1 l1) (sSt (uPad S t1 l1)) (apR (sR (uPad S t1 l1)) (sN (uPad S t1 l1)) pl sh hu du) (sN (uPad S t1 l1) + 1)) (sTx (uPad S t1 l1)) 0) J2_19, wO K.g y b (uPad (uPush (uPad T t2 l2) (sSt (uPad T t2 l2)) (apR (sR (uPad T t2 l2)) (sN (uPad T t2 l2)) pl sh hu (2 * du)) (sN (uPad T t2 l2) + 1)) (sTx (uPad T t2 l2)) 0) J2_21] [(0, .ref (x 0)), (1, .ref (y 0)), (2, .int v), (3, .int w), (4, .int z), (5, .int (nI (sN S))), (6, .int (nI jb)), (7, .int (nI pl)), (8, .int (nI sh)), (9, .int (nI hu)), (10, .int (nI du)), (11, .int (nI 1)), (12, .int (nI told))] 792 [.int (nI (sN (uPad T t2 l2) + 1)), .int (nI told)]
      refine z_top (show (nI (sN (uPad T t2 l2) + 1) : Int32) = nI (sN T + 1) from rfl) ?_
      have hG3 := GB_ap hIT.1 (show sN T < 12 by omega) (show pl ≤ 9 by omega) hsh hu1 hu2 (show 2 * du ≤ 3000 by omega) (show nd (sSt T 6) hu ≤ sSt T 5 by rw [hds.2.1, hds.2.2]; exact Nat.le_of_not_lt hq0)
      have hIT2 := INV_pad (INV_push (INV_pad hIT hT3) hG3) (IT_0 (tx := sTx (uPad T t2 l2)))
      have hRel2 := REL_push6 (S := uPad S t1 l1) (T := uPad T t2 l2) (INV_pad hI hT1) hRel (DB_ap (pl := pl) (sh := sh) (hu := hu) (du := du) ⟨hN, hds, hdr⟩)
      refine z_icmpI_ne C 839 dL_isStep_792 (by decide) 795 rfl (fun c_22 => absurd (show (nI told : Int32) = nI (sN T + 1) from (congrArg nI (by omega))) c_22) (fun c_22 => ?_)
      refine z_iload C 12 rfl dL_isStep_795 797 rfl ?_
      refine z_if_ge C (by omega) 814 dL_isStep_797 (by decide) 800 rfl (fun c_23 => ?_) (fun c_23 => ?_)
      rotate_left
      · exfalso; omega
      refine z_iload C 12 rfl dL_isStep_814 816 rfl ?_
      refine z_iload C 5 rfl dL_isStep_816 818 rfl ?_
      refine z_iconst C (v := nI 1) rfl dL_isStep_818 819 rfl ?_
      refine z_iadd C dL_isStep_819 820 rfl ?_
      refine z_icmpI_ne C 839 dL_isStep_820 (by decide) 823 rfl (fun c_24 => absurd (show (nI told : Int32) = nI ((sN S) + 1) from (congrArg nI (by omega))) c_24) (fun c_24 => ?_)
      refine z_aload_n C 0 rfl rfl dL_isStep_823 824 rfl ?_
      refine z_iload C 5 rfl dL_isStep_824 826 rfl ?_
      refine z_iconst C (v := nI 2) rfl dL_isStep_826 827 rfl ?_
      refine z_callV C [.int (nI (sN S)), .int (nI 2)] [] (tO_jobOf K.l K.g x a (uPad (uPush (uPad S t1 l1) (sSt (uPad S t1 l1)) (apR (sR (uPad S t1 l1)) (sN (uPad S t1 l1)) pl sh hu du) (sN (uPad S t1 l1) + 1)) (sTx (uPad S t1 l1)) 0) J2_19 (sN S) 2 hI2 (Nat.lt_succ_self _) (by decide)) gL_isStep_X4_jobOf rfl rfl rfl hdX4_jobOf ⟨Nat.le_of_ble_eq_true rfl, Nat.le_of_ble_eq_true rfl⟩ ⟨Nat.zero_le _, Nat.zero_le _⟩ 0 0 rfl rfl rfl [0] rfl rfl (zlc (N := 2) rfl rfl) [2, 1] rfl (by decide) (fun J2 : oJ => [wO K.g x a (uPad (uPush (uPad S t1 l1) (sSt (uPad S t1 l1)) (apR (sR (uPad S t1 l1)) (sN (uPad S t1 l1)) pl sh hu du) (sN (uPad S t1 l1) + 1)) (sTx (uPad S t1 l1)) 0) J2, wO K.g y b (uPad (uPush (uPad T t2 l2) (sSt (uPad T t2 l2)) (apR (sR (uPad T t2 l2)) (sN (uPad T t2 l2)) pl sh hu (2 * du)) (sN (uPad T t2 l2) + 1)) (sTx (uPad T t2 l2)) 0) J2_21]) (fun _ => rfl) rfl rfl (Nat.le_of_ble_eq_true rfl) dL_isStep_827 830 rfl (fun u9 hu9 => ?_)
      obtain ⟨J2_25, rfl⟩ : ∃ z, z = u9 := ⟨_, rfl⟩
      show Z K 0 0 [wO K.g x a (uPad (uPush (uPad S t1 l1) (sSt (uPad S t1 l1)) (apR (sR (uPad S t1 l1)) (sN (uPad S t1 l1)) pl sh hu du) (sN (uPad S t1 l1) + 1)) (sTx (uPad S t1 l1)) 0) J2_25, wO K.g y b (uPad (uPush (uPad T t2 l2) (sSt (uPad T t2 l2)) (apR (sR (uPad T t2 l2)) (sN (uPad T t2 l2)) pl sh hu (2 * du)) (sN (uPad T t2 l2) + 1)) (sTx (uPad T t2 l2)) 0) J2_21] [(0, .ref (x 0)), (1, .ref (y 0)), (2, .int v), (3, .int w), (4, .int z), (5, .int (nI (sN S))), (6, .int (nI jb)), (7, .int (nI pl)), (8, .int (nI sh)), (9, .int (nI hu)), (10, .int (nI du)), (11, .int (nI 1)), (12, .int (nI told))] 830 [.int (nI (JO (sSt (uPad (uPush (uPad S t1 l1) (sSt (uPad S t1 l1)) (apR (sR (uPad S t1 l1)) (sN (uPad S t1 l1)) pl sh hu du) (sN (uPad S t1 l1) + 1)) (sTx (uPad S t1 l1)) 0)) (sR (uPad (uPush (uPad S t1 l1) (sSt (uPad S t1 l1)) (apR (sR (uPad S t1 l1)) (sN (uPad S t1 l1)) pl sh hu du) (sN (uPad S t1 l1) + 1)) (sTx (uPad S t1 l1)) 0)) (sN (uPad (uPush (uPad S t1 l1) (sSt (uPad S t1 l1)) (apR (sR (uPad S t1 l1)) (sN (uPad S t1 l1)) pl sh hu du) (sN (uPad S t1 l1) + 1)) (sTx (uPad S t1 l1)) 0)) (sN S) 2))]
      refine z_top (show (nI (JO (sSt (uPad (uPush (uPad S t1 l1) (sSt (uPad S t1 l1)) (apR (sR (uPad S t1 l1)) (sN (uPad S t1 l1)) pl sh hu du) (sN (uPad S t1 l1) + 1)) (sTx (uPad S t1 l1)) 0)) (sR (uPad (uPush (uPad S t1 l1) (sSt (uPad S t1 l1)) (apR (sR (uPad S t1 l1)) (sN (uPad S t1 l1)) pl sh hu du) (sN (uPad S t1 l1) + 1)) (sTx (uPad S t1 l1)) 0)) (sN (uPad (uPush (uPad S t1 l1) (sSt (uPad S t1 l1)) (apR (sR (uPad S t1 l1)) (sN (uPad S t1 l1)) pl sh hu du) (sN (uPad S t1 l1) + 1)) (sTx (uPad S t1 l1)) 0)) (sN S) 2) : Int32) = nI hu from (congrArg nI (show un (sR S 2) (sN S) hu (sN S) = hu from un_s))) ?_
      refine z_iload C 9 rfl dL_isStep_830 832 rfl ?_
      refine z_icmpI_ne C 839 dL_isStep_832 (by decide) 835 rfl (fun c_26 => absurd (show (nI hu : Int32) = nI hu from rfl) c_26) (fun c_26 => ?_)
      refine z_iconst C (v := nI 1) rfl dL_isStep_835 836 rfl ?_
      refine z_goto C 840 dL_isStep_836 (by decide) ?_
      refine z_eq (st2 := [.int (bI true)]) ?_ rfl rfl rfl
      exact z_bret C hRx dL_isStep_840 (uPad (uPush (uPad S t1 l1) (sSt (uPad S t1 l1)) (apR (sR (uPad S t1 l1)) (sN (uPad S t1 l1)) pl sh hu du) (sN (uPad S t1 l1) + 1)) (sTx (uPad S t1 l1)) 0, J2_25, uPad (uPush (uPad T t2 l2) (sSt (uPad T t2 l2)) (apR (sR (uPad T t2 l2)) (sN (uPad T t2 l2)) pl sh hu (2 * du)) (sN (uPad T t2 l2) + 1)) (sTx (uPad T t2 l2)) 0, J2_21) rfl (⟨hI2, hIT2, hRel2⟩) rfl

/-! IS: order -/
set_option maxHeartbeats 4000000 in
set_option maxRecDepth 100000 in
theorem is_order {K : zK} {A : Nat → Prop} (C : Cx K ({ frames := 8, cells := 0, slots := 0, locals := 175 } : Room) RL cL_isStep wsL_isStep) (hnL : K.nL = 17) (x : Nat → Nat) (a : oA) (S : oS) (J : oJ) (y : Nat → Nat) (b : oA) (T : oS) (Jp : oJ) (v w z : Int32) (jb pl sh hu du : Nat) (hRx : RS K x a y b A) (hE : eAll K.A K.s) (hI : INV S) (hIT : INV T) (hRel : REL S T 6) (hjb : (sN S = 0 ∧ jb = 0) ∨ jb < sN S) (hpl : pl ≤ 3) (hsh : sh ≤ 9) (hu1 : 1 ≤ hu) (hu2 : hu ≤ 20) (hdu : du ≤ 1500) : Z K 0 0 [wO K.g x a S J, wO K.g y b T Jp] [(0, .ref (x 0)), (1, .ref (y 0)), (2, .int v), (3, .int w), (4, .int z), (5, .int (nI (sN S))), (6, .int (nI jb)), (7, .int (nI pl)), (8, .int (nI sh)), (9, .int (nI hu)), (10, .int (nI du))] 585 [] := by
  have heAll := hE
  obtain ⟨heSet, heOrd⟩ := hE
  obtain ⟨hn, hS, hJ, hR⟩ := id hI.1
  obtain ⟨⟨hN, hds, hdr⟩, hkp, hnx, hhi, hsl⟩ := id hRel
  have h5b := hS.2.2.2.2.2.2.2.1
  have h6b := hS.2.2.2.2.2.2.2.2
  refine z_iload C 4 rfl dL_isStep_585 587 rfl ?_
  refine z_iconst C (v := nI 4) rfl dL_isStep_587 588 rfl ?_
  refine z_callP C [.int z, .int (nI 4)] [] (tL_up K.l K.g z 4 (by decide) (by decide)) gL_isStep_L_up rfl rfl rfl hdL_up ⟨Nat.le_of_ble_eq_true rfl, Nat.le_of_ble_eq_true rfl⟩ ⟨Nat.zero_le _, Nat.zero_le _⟩ rfl rfl (Nat.le_of_ble_eq_true rfl) dL_isStep_588 591 rfl (fun u9 hu9 => ?_)
  show Z K 0 0 [wO K.g x a S J, wO K.g y b T Jp] [(0, .ref (x 0)), (1, .ref (y 0)), (2, .int v), (3, .int w), (4, .int z), (5, .int (nI (sN S))), (6, .int (nI jb)), (7, .int (nI pl)), (8, .int (nI sh)), (9, .int (nI hu)), (10, .int (nI du))] 591 [.int (nI (upN z 4))]
  refine z_nm (fun ru eru => ?_)
  have hu_ru : ru < 4 := by rw [eru]; exact upN_lt (by decide)
  have hfo := foR_lt (show ru ≤ 3 by omega)
  refine z_istore C hnL [1, 2, 3, 4, 5, 6, 7, 8, 9, 10, 11, 0] [(0, .ref (x 0)), (1, .ref (y 0)), (2, .int v), (3, .int w), (4, .int z), (5, .int (nI (sN S))), (6, .int (nI jb)), (7, .int (nI pl)), (8, .int (nI sh)), (9, .int (nI hu)), (10, .int (nI du)), (11, .int (nI ru))] rfl (Nat.le_of_ble_eq_true rfl) dL_isStep_591 593 rfl ?_
  have jno : ∀ (ke : Nat), (ke = foR ru) → Z K 0 0 [wO K.g x a S J, wO K.g y b T Jp] [(0, .ref (x 0)), (1, .ref (y 0)), (2, .int v), (3, .int w), (4, .int z), (5, .int (nI (sN S))), (6, .int (nI jb)), (7, .int (nI pl)), (8, .int (nI sh)), (9, .int (nI hu)), (10, .int (nI du)), (11, .int (nI ru))] 623 [.int (nI ke)] := by
    intro ke hke
    refine z_istore C hnL [1, 2, 3, 4, 5, 6, 7, 8, 9, 10, 11, 12, 0] [(0, .ref (x 0)), (1, .ref (y 0)), (2, .int v), (3, .int w), (4, .int z), (5, .int (nI (sN S))), (6, .int (nI jb)), (7, .int (nI pl)), (8, .int (nI sh)), (9, .int (nI hu)), (10, .int (nI du)), (11, .int (nI ru)), (12, .int (nI ke))] rfl (Nat.le_of_ble_eq_true rfl) dL_isStep_623 625 rfl ?_
    refine z_aload_n C 0 rfl rfl dL_isStep_625 626 rfl ?_
    refine z_iload C 11 rfl dL_isStep_626 628 rfl ?_
    refine z_iconst C (v := nI 1) rfl dL_isStep_628 629 rfl ?_
    refine z_callVE (E := eOrd) (fun _ _ _ e e2 h => eOrd.same e e2 h) (fun _ _ _ hS9 hW9 hAB => eOrd.later heOrd hS9 hW9 hAB) C [.int (nI ru), .int (nI 1)] [] (tO_ifOrdered K.l K.g x a S J ru 1 hI (by omega) (by decide)) gL_isStep_X4_ifOrdered rfl rfl rfl hdX4_ifOrdered ⟨Nat.le_of_ble_eq_true rfl, Nat.le_of_ble_eq_true rfl⟩ ⟨Nat.zero_le _, Nat.zero_le _⟩ 0 0 rfl rfl rfl [0] rfl rfl (zlc (N := 2) rfl rfl) [2, 1] rfl (by decide) (fun J2 : oJ => [wO K.g x a S J2, wO K.g y b T Jp]) (fun _ => rfl) rfl rfl (Nat.le_of_ble_eq_true rfl) dL_isStep_629 632 rfl (fun u9 hu9 => ?_)
    obtain ⟨J2_1, rfl⟩ : ∃ z, z = u9 := ⟨_, rfl⟩
    show Z K 0 0 [wO K.g x a S J2_1, wO K.g y b T Jp] [(0, .ref (x 0)), (1, .ref (y 0)), (2, .int v), (3, .int w), (4, .int z), (5, .int (nI (sN S))), (6, .int (nI jb)), (7, .int (nI pl)), (8, .int (nI sh)), (9, .int (nI hu)), (10, .int (nI du)), (11, .int (nI ru)), (12, .int (nI ke))] 632 [.int (nI (IO (sSt S) (oR (sR S) (foR ru) (sN S)) (sN S) 1))]
    refine z_top (show (nI (IO (sSt S) (oR (sR S) (foR ru) (sN S)) (sN S) 1) : Int32) = nI (LSm (sSt S) (oR (sR S) (foR ru) (sN S)) (sSt S 5) (sN S)) from rfl) ?_
    refine z_nm (fun lt elt => ?_)
    refine z_istore C hnL [1, 2, 3, 4, 5, 6, 7, 8, 9, 10, 11, 12, 13, 0] [(0, .ref (x 0)), (1, .ref (y 0)), (2, .int v), (3, .int w), (4, .int z), (5, .int (nI (sN S))), (6, .int (nI jb)), (7, .int (nI pl)), (8, .int (nI sh)), (9, .int (nI hu)), (10, .int (nI du)), (11, .int (nI ru)), (12, .int (nI ke)), (13, .int (nI lt))] rfl (Nat.le_of_ble_eq_true rfl) dL_isStep_632 634 rfl ?_
    refine z_aload_n C 0 rfl rfl dL_isStep_634 635 rfl ?_
    refine z_iload C 11 rfl dL_isStep_635 637 rfl ?_
    refine z_callVE (E := eOrd) (fun _ _ _ e e2 h => eOrd.same e e2 h) (fun _ _ _ hS9 hW9 hAB => eOrd.later heOrd hS9 hW9 hAB) C [.int (nI ru)] [] (tO_order K.l K.g x a S J2_1 ru hI (by omega)) gL_isStep_X4_order rfl rfl rfl hdX4_order ⟨Nat.le_of_ble_eq_true rfl, Nat.le_of_ble_eq_true rfl⟩ ⟨Nat.zero_le _, Nat.zero_le _⟩ 0 0 rfl rfl rfl [0] rfl rfl (zlc (N := 2) rfl rfl) [2, 1] rfl (by decide) (fun J2 : oJ => [wO K.g x a (uPush S (sSt S) (oR (sR S) (foR ru) (sN S)) (sN S)) J2, wO K.g y b T Jp]) (fun _ => rfl) rfl rfl (Nat.le_of_ble_eq_true rfl) dL_isStep_637 640 rfl (fun u9 hu9 => ?_)
    obtain ⟨J2_2, rfl⟩ : ∃ z, z = u9 := ⟨_, rfl⟩
    show Z K 0 0 [wO K.g x a (uPush S (sSt S) (oR (sR S) (foR ru) (sN S)) (sN S)) J2_2, wO K.g y b T Jp] [(0, .ref (x 0)), (1, .ref (y 0)), (2, .int v), (3, .int w), (4, .int z), (5, .int (nI (sN S))), (6, .int (nI jb)), (7, .int (nI pl)), (8, .int (nI sh)), (9, .int (nI hu)), (10, .int (nI du)), (11, .int (nI ru)), (12, .int (nI ke)), (13, .int (nI lt))] 640 [.int (nI (ct (fun y => decide (plc ((sR S) (foR ru)) (sN S) y ≠ y)) (sN S)))]
    refine z_top (show (nI (ct (fun y => decide (plc ((sR S) (foR ru)) (sN S) y ≠ y)) (sN S)) : Int32) = nI (ct (fun q => decide (plc (sR S (foR ru)) (sN S) q ≠ q)) (sN S)) from rfl) ?_
    refine z_nm (fun told etold => ?_)
    have hne1 : told ≠ 1 := by rw [etold]; exact od_ne1 _ _
    have hto : told ≤ sN S := by rw [etold]; exact ct_le _ _
    have hI2 : INV (uPush S (sSt S) (oR (sR S) (foR ru) (sN S)) (sN S)) := INV_push hI ⟨hn, hS, okJ_oR hJ, okR_oR hR⟩
    refine z_istore C hnL [1, 2, 3, 4, 5, 6, 7, 8, 9, 10, 11, 12, 13, 14, 0] [(0, .ref (x 0)), (1, .ref (y 0)), (2, .int v), (3, .int w), (4, .int z), (5, .int (nI (sN S))), (6, .int (nI jb)), (7, .int (nI pl)), (8, .int (nI sh)), (9, .int (nI hu)), (10, .int (nI du)), (11, .int (nI ru)), (12, .int (nI ke)), (13, .int (nI lt)), (14, .int (nI told))] rfl (Nat.le_of_ble_eq_true rfl) dL_isStep_640 642 rfl ?_
    refine z_iload C 14 rfl dL_isStep_642 644 rfl ?_
    refine z_aload_n C 1 rfl rfl dL_isStep_644 645 rfl ?_
    refine z_iload C 11 rfl dL_isStep_645 647 rfl ?_
    refine z_callVE (E := eOrd) (fun _ _ _ e e2 h => eOrd.same e e2 h) (fun _ _ _ hS9 hW9 hAB => eOrd.later heOrd hS9 hW9 hAB) C [.int (nI ru)] [.int (nI told)] (tO_order K.l K.g y b T Jp ru hIT (by omega)) gL_isStep_X4_order rfl rfl rfl hdX4_order ⟨Nat.le_of_ble_eq_true rfl, Nat.le_of_ble_eq_true rfl⟩ ⟨Nat.zero_le _, Nat.zero_le _⟩ 1 0 rfl rfl rfl [1] rfl rfl (zlc (N := 2) rfl rfl) [0, 2] rfl (by decide) (fun J2 : oJ => [wO K.g x a (uPush S (sSt S) (oR (sR S) (foR ru) (sN S)) (sN S)) J2_2, wO K.g y b (uPush T (sSt T) (oR (sR T) (foR ru) (sN T)) (sN T)) J2]) (fun _ => rfl) rfl rfl (Nat.le_of_ble_eq_true rfl) dL_isStep_647 650 rfl (fun u9 hu9 => ?_)
    obtain ⟨J2_3, rfl⟩ : ∃ z, z = u9 := ⟨_, rfl⟩
    show Z K 0 0 [wO K.g x a (uPush S (sSt S) (oR (sR S) (foR ru) (sN S)) (sN S)) J2_2, wO K.g y b (uPush T (sSt T) (oR (sR T) (foR ru) (sN T)) (sN T)) J2_3] [(0, .ref (x 0)), (1, .ref (y 0)), (2, .int v), (3, .int w), (4, .int z), (5, .int (nI (sN S))), (6, .int (nI jb)), (7, .int (nI pl)), (8, .int (nI sh)), (9, .int (nI hu)), (10, .int (nI du)), (11, .int (nI ru)), (12, .int (nI ke)), (13, .int (nI lt)), (14, .int (nI told))] 650 [.int (nI (ct (fun y => decide (plc ((sR T) (foR ru)) (sN T) y ≠ y)) (sN T))), .int (nI told)]
    refine z_top (show (nI (ct (fun y => decide (plc ((sR T) (foR ru)) (sN T) y ≠ y)) (sN T)) : Int32) = nI (ct (fun q => decide (plc (sR T (foR ru)) (sN T) q ≠ q)) (sN T)) from rfl) ?_
    have hIT2 := INV_push hIT ⟨hIT.1.1, hIT.1.2.1, okJ_oR (f := foR ru) hIT.1.2.2.1, okR_oR (f := foR ru) hIT.1.2.2.2⟩
    have hRel2 := REL_push6 (r := oR (sR S) (foR ru) (sN S)) (r' := oR (sR T) (foR ru) (sN T)) hI hRel ⟨hN, hds, by rw [hN]; exact dR_oR hfo hdr⟩
    refine z_icmpI_ne C 681 dL_isStep_650 (by decide) 653 rfl (fun c_4 => absurd (show (nI told : Int32) = nI (ct (fun q => decide (plc (sR T (foR ru)) (sN T) q ≠ q)) (sN T)) from (congrArg nI (by rw [etold, hN]; exact ct_cg (sN S) (fun q hq => by show decide (plc (sR S (foR ru)) (sN S) q ≠ q) = decide (plc (sR T (foR ru)) (sN S) q ≠ q); rw [d_plc hfo hdr hq])))) c_4) (fun c_4 => ?_)
    refine z_aload_n C 0 rfl rfl dL_isStep_653 654 rfl ?_
    refine z_bipush C (v := nI 12) rfl dL_isStep_654 656 rfl ?_
    refine z_callV C [.int (nI 12)] [] (tO_count K.l K.g x a (uPush S (sSt S) (oR (sR S) (foR ru) (sN S)) (sN S)) J2_2 12 hI2 (by first | omega | assumption)) gL_isStep_X4_count rfl rfl rfl hdX4_count ⟨Nat.le_of_ble_eq_true rfl, Nat.le_of_ble_eq_true rfl⟩ ⟨Nat.zero_le _, Nat.zero_le _⟩ 0 0 rfl rfl rfl [0] rfl rfl (zlc (N := 2) rfl rfl) [2, 1] rfl (by decide) (fun J2 : oJ => [wO K.g x a (uPush S (sSt S) (oR (sR S) (foR ru) (sN S)) (sN S)) J2, wO K.g y b (uPush T (sSt T) (oR (sR T) (foR ru) (sN T)) (sN T)) J2_3]) (fun _ => rfl) rfl rfl (Nat.le_of_ble_eq_true rfl) dL_isStep_656 659 rfl (fun u9 hu9 => ?_)
    obtain ⟨J2_5, rfl⟩ : ∃ z, z = u9 := ⟨_, rfl⟩
    show Z K 0 0 [wO K.g x a (uPush S (sSt S) (oR (sR S) (foR ru) (sN S)) (sN S)) J2_5, wO K.g y b (uPush T (sSt T) (oR (sR T) (foR ru) (sN T)) (sN T)) J2_3] [(0, .ref (x 0)), (1, .ref (y 0)), (2, .int v), (3, .int w), (4, .int z), (5, .int (nI (sN S))), (6, .int (nI jb)), (7, .int (nI pl)), (8, .int (nI sh)), (9, .int (nI hu)), (10, .int (nI du)), (11, .int (nI ru)), (12, .int (nI ke)), (13, .int (nI lt)), (14, .int (nI told))] 659 [.int (nI (CN (sSt (uPush S (sSt S) (oR (sR S) (foR ru) (sN S)) (sN S))) (sR (uPush S (sSt S) (oR (sR S) (foR ru) (sN S)) (sN S))) (sN (uPush S (sSt S) (oR (sR S) (foR ru) (sN S)) (sN S))) (sLen (uPush S (sSt S) (oR (sR S) (foR ru) (sN S)) (sN S))) (sKp (uPush S (sSt S) (oR (sR S) (foR ru) (sN S)) (sN S))) 12))]
    refine z_top (show (nI (CN (sSt (uPush S (sSt S) (oR (sR S) (foR ru) (sN S)) (sN S))) (sR (uPush S (sSt S) (oR (sR S) (foR ru) (sN S)) (sN S))) (sN (uPush S (sSt S) (oR (sR S) (foR ru) (sN S)) (sN S))) (sLen (uPush S (sSt S) (oR (sR S) (foR ru) (sN S)) (sN S))) (sKp (uPush S (sSt S) (oR (sR S) (foR ru) (sN S)) (sN S))) 12) : Int32) = nI lt from (congrArg nI (by rw [elt]; rfl))) ?_
    refine z_iload C 13 rfl dL_isStep_659 661 rfl ?_
    refine z_icmpI_ne C 681 dL_isStep_661 (by decide) 664 rfl (fun c_6 => absurd (show (nI lt : Int32) = nI lt from rfl) c_6) (fun c_6 => ?_)
    refine z_iload C 14 rfl dL_isStep_664 666 rfl ?_
    refine z_iconst C (v := nI 1) rfl dL_isStep_666 667 rfl ?_
    refine z_icmp_eq C (by omega) (by omega) 681 dL_isStep_667 (by decide) 670 rfl (fun c_7 => ?_) (fun c_7 => ?_)
    · exfalso; exact absurd c_7 hne1
    refine z_iload C 14 rfl dL_isStep_670 672 rfl ?_
    refine z_iload C 5 rfl dL_isStep_672 674 rfl ?_
    refine z_icmp_gt C (by omega) (by omega) 681 dL_isStep_674 (by decide) 677 rfl (fun c_8 => ?_) (fun c_8 => ?_)
    · exfalso; omega
    refine z_iconst C (v := nI 1) rfl dL_isStep_677 678 rfl ?_
    refine z_goto C 682 dL_isStep_678 (by decide) ?_
    refine z_istore C hnL [1, 2, 3, 4, 5, 6, 7, 8, 9, 10, 11, 12, 13, 14, 15, 0] [(0, .ref (x 0)), (1, .ref (y 0)), (2, .int v), (3, .int w), (4, .int z), (5, .int (nI (sN S))), (6, .int (nI jb)), (7, .int (nI pl)), (8, .int (nI sh)), (9, .int (nI hu)), (10, .int (nI du)), (11, .int (nI ru)), (12, .int (nI ke)), (13, .int (nI lt)), (14, .int (nI told)), (15, .int (nI 1))] rfl (Nat.le_of_ble_eq_true rfl) dL_isStep_682 684 rfl ?_
    refine z_iconst C (v := nI 1) rfl dL_isStep_684 685 rfl ?_
    refine z_istore C hnL [1, 2, 3, 4, 5, 6, 7, 8, 9, 10, 11, 12, 13, 14, 15, 16, 0] [(0, .ref (x 0)), (1, .ref (y 0)), (2, .int v), (3, .int w), (4, .int z), (5, .int (nI (sN S))), (6, .int (nI jb)), (7, .int (nI pl)), (8, .int (nI sh)), (9, .int (nI hu)), (10, .int (nI du)), (11, .int (nI ru)), (12, .int (nI ke)), (13, .int (nI lt)), (14, .int (nI told)), (15, .int (nI 1)), (16, .int (nI 1))] rfl (Nat.le_of_ble_eq_true rfl) dL_isStep_685 687 rfl ?_
    have loop687 : ∀ (mu : Nat) (j : Nat) (J9 : oJ), mu = sN S - j → 1 ≤ j → j ≤ 13 → Z K 0 0 [wO K.g x a (uPush S (sSt S) (oR (sR S) (foR ru) (sN S)) (sN S)) J9, wO K.g y b (uPush T (sSt T) (oR (sR T) (foR ru) (sN T)) (sN T)) J2_3] [(0, .ref (x 0)), (1, .ref (y 0)), (2, .int v), (3, .int w), (4, .int z), (5, .int (nI (sN S))), (6, .int (nI jb)), (7, .int (nI pl)), (8, .int (nI sh)), (9, .int (nI hu)), (10, .int (nI du)), (11, .int (nI ru)), (12, .int (nI ke)), (13, .int (nI lt)), (14, .int (nI told)), (15, .int (nI 1)), (16, .int (nI j))] 687 [] := by
      refine z_ind (fun mu ih687 => ?_)
      intro j J9 hmu687 hj1 hj3
      refine z_iload C 16 rfl dL_isStep_687 689 rfl ?_
      refine z_iload C 5 rfl dL_isStep_689 691 rfl ?_
      refine z_icmp_ge C (by omega) (by omega) 733 dL_isStep_691 (by decide) 694 rfl (fun c_9 => ?_) (fun c_9 => ?_)
      · skip
        refine z_iload C 15 rfl dL_isStep_733 735 rfl ?_
        refine z_eq (st2 := [.int (bI true)]) ?_ rfl rfl rfl
        exact z_bret C hRx dL_isStep_735 (uPush S (sSt S) (oR (sR S) (foR ru) (sN S)) (sN S), J9, uPush T (sSt T) (oR (sR T) (foR ru) (sN T)) (sN T), J2_3) rfl (⟨hI2, hIT2, hRel2⟩) rfl
      · skip
        refine z_iload C 15 rfl dL_isStep_694 696 rfl ?_
        refine z_if_eq C (by omega) 724 dL_isStep_696 (by decide) 699 rfl (fun c_10 => ?_) (fun c_10 => ?_)
        · exfalso; omega
        refine z_aload_n C 0 rfl rfl dL_isStep_699 700 rfl ?_
        refine z_iload C 16 rfl dL_isStep_700 702 rfl ?_
        refine z_iconst C (v := nI 1) rfl dL_isStep_702 703 rfl ?_
        refine z_isub C (by omega) dL_isStep_703 704 rfl ?_
        refine z_iload C 12 rfl dL_isStep_704 706 rfl ?_
        refine z_callV C [.int (nI (j - 1)), .int (nI ke)] [] (tO_jobOf K.l K.g x a (uPush S (sSt S) (oR (sR S) (foR ru) (sN S)) (sN S)) J9 (j - 1) ke hI2 (show j - 1 < sN S by omega) (by omega)) gL_isStep_X4_jobOf rfl rfl rfl hdX4_jobOf ⟨Nat.le_of_ble_eq_true rfl, Nat.le_of_ble_eq_true rfl⟩ ⟨Nat.zero_le _, Nat.zero_le _⟩ 0 0 rfl rfl rfl [0] rfl rfl (zlc (N := 2) rfl rfl) [2, 1] rfl (by decide) (fun J2 : oJ => [wO K.g x a (uPush S (sSt S) (oR (sR S) (foR ru) (sN S)) (sN S)) J2, wO K.g y b (uPush T (sSt T) (oR (sR T) (foR ru) (sN T)) (sN T)) J2_3]) (fun _ => rfl) rfl rfl (Nat.le_of_ble_eq_true rfl) dL_isStep_706 709 rfl (fun u9 hu9 => ?_)
        obtain ⟨J2_11, rfl⟩ : ∃ z, z = u9 := ⟨_, rfl⟩
        show Z K 0 0 [wO K.g x a (uPush S (sSt S) (oR (sR S) (foR ru) (sN S)) (sN S)) J2_11, wO K.g y b (uPush T (sSt T) (oR (sR T) (foR ru) (sN T)) (sN T)) J2_3] [(0, .ref (x 0)), (1, .ref (y 0)), (2, .int v), (3, .int w), (4, .int z), (5, .int (nI (sN S))), (6, .int (nI jb)), (7, .int (nI pl)), (8, .int (nI sh)), (9, .int (nI hu)), (10, .int (nI du)), (11, .int (nI ru)), (12, .int (nI ke)), (13, .int (nI lt)), (14, .int (nI told)), (15, .int (nI 1)), (16, .int (nI j))] 709 [.int (nI (JO (sSt (uPush S (sSt S) (oR (sR S) (foR ru) (sN S)) (sN S))) (sR (uPush S (sSt S) (oR (sR S) (foR ru) (sN S)) (sN S))) (sN (uPush S (sSt S) (oR (sR S) (foR ru) (sN S)) (sN S))) (j - 1) ke))]
        refine z_top (show (nI (JO (sSt (uPush S (sSt S) (oR (sR S) (foR ru) (sN S)) (sN S))) (sR (uPush S (sSt S) (oR (sR S) (foR ru) (sN S)) (sN S))) (sN (uPush S (sSt S) (oR (sR S) (foR ru) (sN S)) (sN S))) (j - 1) ke) : Int32) = nI (oR (sR S) (foR ru) (sN S) ke (j - 1)) from (congrArg nI (JO_r (by omega)))) ?_
        refine z_nm (fun o1 eo1 => ?_)
        have hb_o1 : o1 ≤ 3000 := by rw [eo1, hke]; exact okJ_le hfo (okJ_oR hJ) _ (by omega)
        refine z_aload_n C 0 rfl rfl dL_isStep_709 710 rfl ?_
        refine z_iload C 16 rfl dL_isStep_710 712 rfl ?_
        refine z_iload C 12 rfl dL_isStep_712 714 rfl ?_
        refine z_callV C [.int (nI j), .int (nI ke)] [.int (nI o1)] (tO_jobOf K.l K.g x a (uPush S (sSt S) (oR (sR S) (foR ru) (sN S)) (sN S)) J2_11 j ke hI2 (show j < sN S by omega) (by omega)) gL_isStep_X4_jobOf rfl rfl rfl hdX4_jobOf ⟨Nat.le_of_ble_eq_true rfl, Nat.le_of_ble_eq_true rfl⟩ ⟨Nat.zero_le _, Nat.zero_le _⟩ 0 0 rfl rfl rfl [0] rfl rfl (zlc (N := 2) rfl rfl) [2, 1] rfl (by decide) (fun J2 : oJ => [wO K.g x a (uPush S (sSt S) (oR (sR S) (foR ru) (sN S)) (sN S)) J2, wO K.g y b (uPush T (sSt T) (oR (sR T) (foR ru) (sN T)) (sN T)) J2_3]) (fun _ => rfl) rfl rfl (Nat.le_of_ble_eq_true rfl) dL_isStep_714 717 rfl (fun u9 hu9 => ?_)
        obtain ⟨J2_12, rfl⟩ : ∃ z, z = u9 := ⟨_, rfl⟩
        show Z K 0 0 [wO K.g x a (uPush S (sSt S) (oR (sR S) (foR ru) (sN S)) (sN S)) J2_12, wO K.g y b (uPush T (sSt T) (oR (sR T) (foR ru) (sN T)) (sN T)) J2_3] [(0, .ref (x 0)), (1, .ref (y 0)), (2, .int v), (3, .int w), (4, .int z), (5, .int (nI (sN S))), (6, .int (nI jb)), (7, .int (nI pl)), (8, .int (nI sh)), (9, .int (nI hu)), (10, .int (nI du)), (11, .int (nI ru)), (12, .int (nI ke)), (13, .int (nI lt)), (14, .int (nI told)), (15, .int (nI 1)), (16, .int (nI j))] 717 [.int (nI (JO (sSt (uPush S (sSt S) (oR (sR S) (foR ru) (sN S)) (sN S))) (sR (uPush S (sSt S) (oR (sR S) (foR ru) (sN S)) (sN S))) (sN (uPush S (sSt S) (oR (sR S) (foR ru) (sN S)) (sN S))) j ke)), .int (nI o1)]
        refine z_top (show (nI (JO (sSt (uPush S (sSt S) (oR (sR S) (foR ru) (sN S)) (sN S))) (sR (uPush S (sSt S) (oR (sR S) (foR ru) (sN S)) (sN S))) (sN (uPush S (sSt S) (oR (sR S) (foR ru) (sN S)) (sN S))) j ke) : Int32) = nI (oR (sR S) (foR ru) (sN S) ke j) from (congrArg nI (JO_r (by omega)))) ?_
        refine z_nm (fun o2 eo2 => ?_)
        have hb_o2 : o2 ≤ 3000 := by rw [eo2, hke]; exact okJ_le hfo (okJ_oR hJ) _ (by omega)
        have hle : o1 ≤ o2 := by rw [eo1, eo2, hke]; exact od_up (by omega) (by omega)
        refine z_icmp_gt C (by omega) (by omega) 724 dL_isStep_717 (by decide) 720 rfl (fun c_13 => ?_) (fun c_13 => ?_)
        · exfalso; omega
        refine z_iconst C (v := nI 1) rfl dL_isStep_720 721 rfl ?_
        refine z_goto C 725 dL_isStep_721 (by decide) ?_
        refine z_istore C hnL [1, 2, 3, 4, 5, 6, 7, 8, 9, 10, 11, 12, 13, 14, 15, 0, 16] [(0, .ref (x 0)), (1, .ref (y 0)), (2, .int v), (3, .int w), (4, .int z), (5, .int (nI (sN S))), (6, .int (nI jb)), (7, .int (nI pl)), (8, .int (nI sh)), (9, .int (nI hu)), (10, .int (nI du)), (11, .int (nI ru)), (12, .int (nI ke)), (13, .int (nI lt)), (14, .int (nI told)), (15, .int (nI 1)), (16, .int (nI j))] rfl (Nat.le_of_ble_eq_true rfl) dL_isStep_725 727 rfl ?_
        refine z_iinc C hnL 16 rfl (v := (nI (j + 1))) (nI_1 _) [1, 2, 3, 4, 5, 6, 7, 8, 9, 10, 11, 12, 13, 14, 15, 16, 0] [(0, .ref (x 0)), (1, .ref (y 0)), (2, .int v), (3, .int w), (4, .int z), (5, .int (nI (sN S))), (6, .int (nI jb)), (7, .int (nI pl)), (8, .int (nI sh)), (9, .int (nI hu)), (10, .int (nI du)), (11, .int (nI ru)), (12, .int (nI ke)), (13, .int (nI lt)), (14, .int (nI told)), (15, .int (nI 1)), (16, .int (nI (j + 1)))] rfl (Nat.le_of_ble_eq_true rfl) dL_isStep_727 730 rfl ?_
        refine z_goto C 687 dL_isStep_730 (by decide) ?_
        exact ih687 _ (by omega) (j + 1) J2_12 rfl (by omega) (by omega)
    exact loop687 _ 1 J2_5 rfl (by omega) (by omega)
  refine z_iload C 11 rfl dL_isStep_593 595 rfl ?_
  refine z_if_ne C (by omega) 602 dL_isStep_595 (by decide) 598 rfl (fun c_14 => ?_) (fun c_14 => ?_)
  · skip
    refine z_iload C 11 rfl dL_isStep_602 604 rfl ?_
    refine z_iconst C (v := nI 1) rfl dL_isStep_604 605 rfl ?_
    refine z_icmp_ne C (by omega) (by omega) 612 dL_isStep_605 (by decide) 608 rfl (fun c_15 => ?_) (fun c_15 => ?_)
    · skip
      refine z_iload C 11 rfl dL_isStep_612 614 rfl ?_
      refine z_iconst C (v := nI 2) rfl dL_isStep_614 615 rfl ?_
      refine z_icmp_ne C (by omega) (by omega) 622 dL_isStep_615 (by decide) 618 rfl (fun c_16 => ?_) (fun c_16 => ?_)
      · skip
        refine z_iconst C (v := nI 2) rfl dL_isStep_622 623 rfl ?_
        exact jno 2 (by rw [show ru = 3 by omega]; rfl)
      · skip
        refine z_iconst C (v := nI 0) rfl dL_isStep_618 619 rfl ?_
        refine z_goto C 623 dL_isStep_619 (by decide) ?_
        exact jno 0 (by rw [show ru = 2 by omega]; rfl)
    · skip
      refine z_iconst C (v := nI 1) rfl dL_isStep_608 609 rfl ?_
      refine z_goto C 623 dL_isStep_609 (by decide) ?_
      exact jno 1 (by rw [show ru = 1 by omega]; rfl)
  · skip
    refine z_iconst C (v := nI 3) rfl dL_isStep_598 599 rfl ?_
    refine z_goto C 623 dL_isStep_599 (by decide) ?_
    exact jno 3 (by rw [show ru = 0 by omega]; rfl)

/-! IS: undo -/
set_option maxHeartbeats 4000000 in
set_option maxRecDepth 100000 in
theorem is_undo {K : zK} {A : Nat → Prop} (C : Cx K ({ frames := 8, cells := 0, slots := 0, locals := 175 } : Room) RL cL_isStep wsL_isStep) (hnL : K.nL = 17) (x : Nat → Nat) (a : oA) (S : oS) (J : oJ) (y : Nat → Nat) (b : oA) (T : oS) (Jp : oJ) (v w z : Int32) (jb pl sh hu du : Nat) (hRx : RS K x a y b A) (hE : eAll K.A K.s) (hI : INV S) (hIT : INV T) (hRel : REL S T 6) (hjb : (sN S = 0 ∧ jb = 0) ∨ jb < sN S) (hpl : pl ≤ 3) (hsh : sh ≤ 9) (hu1 : 1 ≤ hu) (hu2 : hu ≤ 20) (hdu : du ≤ 1500) : Z K 0 0 [wO K.g x a S J, wO K.g y b T Jp] [(0, .ref (x 0)), (1, .ref (y 0)), (2, .int v), (3, .int w), (4, .int z), (5, .int (nI (sN S))), (6, .int (nI jb)), (7, .int (nI pl)), (8, .int (nI sh)), (9, .int (nI hu)), (10, .int (nI du))] 841 [] := by
  have heAll := hE
  obtain ⟨heSet, heOrd⟩ := hE
  obtain ⟨hn, hS, hJ, hR⟩ := id hI.1
  obtain ⟨⟨hN, hds, hdr⟩, hkp, hnx, hhi, hsl⟩ := id hRel
  have h5b := hS.2.2.2.2.2.2.2.1
  have h6b := hS.2.2.2.2.2.2.2.2
  have hk6 : sKp S ≤ 6 := hI.2.1
  refine z_aload_n C 0 rfl rfl dL_isStep_841 842 rfl ?_
  refine z_bipush C (v := nI 19) rfl dL_isStep_842 844 rfl ?_
  refine z_callV C [.int (nI 19)] [] (tO_count K.l K.g x a S J 19 hI (by first | omega | assumption)) gL_isStep_X4_count rfl rfl rfl hdX4_count ⟨Nat.le_of_ble_eq_true rfl, Nat.le_of_ble_eq_true rfl⟩ ⟨Nat.zero_le _, Nat.zero_le _⟩ 0 0 rfl rfl rfl [0] rfl rfl (zlc (N := 2) rfl rfl) [2, 1] rfl (by decide) (fun J2 : oJ => [wO K.g x a S J2, wO K.g y b T Jp]) (fun _ => rfl) rfl rfl (Nat.le_of_ble_eq_true rfl) dL_isStep_844 847 rfl (fun u9 hu9 => ?_)
  obtain ⟨J2_1, rfl⟩ : ∃ z, z = u9 := ⟨_, rfl⟩
  show Z K 0 0 [wO K.g x a S J2_1, wO K.g y b T Jp] [(0, .ref (x 0)), (1, .ref (y 0)), (2, .int v), (3, .int w), (4, .int z), (5, .int (nI (sN S))), (6, .int (nI jb)), (7, .int (nI pl)), (8, .int (nI sh)), (9, .int (nI hu)), (10, .int (nI du))] 847 [.int (nI (CN (sSt S) (sR S) (sN S) (sLen S) (sKp S) 19))]
  refine z_top (show (nI (CN (sSt S) (sR S) (sN S) (sLen S) (sKp S) 19) : Int32) = nI (sKp S) from rfl) ?_
  refine z_if_eq C (by omega) 861 dL_isStep_847 (by decide) 850 rfl (fun c_2 => ?_) (fun c_2 => ?_)
  · skip
    refine z_iconst C (v := nI 1) rfl dL_isStep_861 862 rfl ?_
    refine z_goto C 866 dL_isStep_862 (by decide) ?_
    refine z_eq (st2 := [.int (bI true)]) ?_ rfl rfl rfl
    exact z_bret C hRx dL_isStep_866 (S, J2_1, T, Jp) rfl (⟨hI, hIT, hRel⟩) rfl
  · skip
    refine z_aload_n C 0 rfl rfl dL_isStep_850 851 rfl ?_
    refine z_callV C [] [] (tO_undo K.l K.g x a S J2_1 hI (by omega)) gL_isStep_X4_undo rfl rfl rfl hdX4_undo ⟨Nat.le_of_ble_eq_true rfl, Nat.le_of_ble_eq_true rfl⟩ ⟨Nat.zero_le _, Nat.zero_le _⟩ 0 0 rfl rfl rfl [0] rfl rfl (zlc (N := 2) rfl rfl) [2, 1] rfl (by decide) (fun J2 : oJ => [wO K.g x a (uPop S) J2, wO K.g y b T Jp]) (fun _ => rfl) rfl rfl (Nat.le_of_ble_eq_true rfl) dL_isStep_851 854 rfl (fun u9 hu9 => ?_)
    obtain ⟨J2_3, rfl⟩ : ∃ z, z = u9 := ⟨_, rfl⟩
    show Z K 0 0 [wO K.g x a (uPop S) J2_3, wO K.g y b T Jp] [(0, .ref (x 0)), (1, .ref (y 0)), (2, .int v), (3, .int w), (4, .int z), (5, .int (nI (sN S))), (6, .int (nI jb)), (7, .int (nI pl)), (8, .int (nI sh)), (9, .int (nI hu)), (10, .int (nI du))] 854 [.int (nI ((sKp S) - 1))]
    refine z_aload_n C 1 rfl rfl dL_isStep_854 855 rfl ?_
    refine z_callV C [] [.int (nI ((sKp S) - 1))] (tO_undo K.l K.g y b T Jp hIT (by omega)) gL_isStep_X4_undo rfl rfl rfl hdX4_undo ⟨Nat.le_of_ble_eq_true rfl, Nat.le_of_ble_eq_true rfl⟩ ⟨Nat.zero_le _, Nat.zero_le _⟩ 1 0 rfl rfl rfl [1] rfl rfl (zlc (N := 2) rfl rfl) [0, 2] rfl (by decide) (fun J2 : oJ => [wO K.g x a (uPop S) J2_3, wO K.g y b (uPop T) J2]) (fun _ => rfl) rfl rfl (Nat.le_of_ble_eq_true rfl) dL_isStep_855 858 rfl (fun u9 hu9 => ?_)
    obtain ⟨J2_4, rfl⟩ : ∃ z, z = u9 := ⟨_, rfl⟩
    show Z K 0 0 [wO K.g x a (uPop S) J2_3, wO K.g y b (uPop T) J2_4] [(0, .ref (x 0)), (1, .ref (y 0)), (2, .int v), (3, .int w), (4, .int z), (5, .int (nI (sN S))), (6, .int (nI jb)), (7, .int (nI pl)), (8, .int (nI sh)), (9, .int (nI hu)), (10, .int (nI du))] 858 [.int (nI ((sKp T) - 1)), .int (nI ((sKp S) - 1))]
    have hI2 := INV_pop hI (by omega)
    have hIT2 := INV_pop hIT (by omega)
    have hRel2 := REL_pop hI hRel (by omega)
    refine z_icmpI_ne C 865 dL_isStep_858 (by decide) 861 rfl (fun c_5 => absurd (show (nI ((sKp S) - 1) : Int32) = nI ((sKp T) - 1) from (congrArg nI (by omega))) c_5) (fun c_5 => ?_)
    refine z_iconst C (v := nI 1) rfl dL_isStep_861 862 rfl ?_
    refine z_goto C 866 dL_isStep_862 (by decide) ?_
    refine z_eq (st2 := [.int (bI true)]) ?_ rfl rfl rfl
    exact z_bret C hRx dL_isStep_866 (uPop S, J2_3, uPop T, J2_4) rfl (⟨hI2, hIT2, hRel2⟩) rfl

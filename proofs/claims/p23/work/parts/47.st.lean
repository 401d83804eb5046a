/-! IS: isStep. -/

set_option maxHeartbeats 4000000 in
set_option maxRecDepth 100000 in
theorem tL_isStep (l : Launch) (g : zG) (x : Nat → Nat) (a : oA) (S : oS) (J : oJ) (y : Nat → Nat) (b : oA) (T : oS) (Jp : oJ) (v w : Int32) (hI : INV S) (hIT : INV T) (hRel : REL S T 6) : Met l yL_isStep wsL_isStep ({ frames := 8, cells := 0, slots := 0, locals := 175 } : Room) (zPreE g eAll [.ref (x 0), .ref (y 0), .int v, .int w] [wO g x a S J, wO g y b T Jp]) (zQ g (fun u : (oS) × (oJ) × (oS) × (oJ) => match u with | (S2, J2, T2, J3) => some (.int (bI true)) ) (fun u : (oS) × (oJ) × (oS) × (oJ) => match u with | (S2, J2, T2, J3) => (INV S2) ∧ (INV T2) ∧ (REL S2 T2 6)) (fun u : (oS) × (oJ) × (oS) × (oJ) => match u with | (S2, J2, T2, J3) => [wO g x a S2 J2, wO g y b T2 J3]) (zA [wO g x a S J, wO g y b T Jp])) 0 0 (zA [wO g x a S J, wO g y b T Jp]) := by
  refine z_entryE (cc := cL_isStep) (maxL := 17) (ret := (some .boolean)) (own := RL) (by decide) rfl rfl (Nat.le_of_ble_eq_true rfl) [(0, .ref (x 0)), (1, .ref (y 0)), (2, .int v), (3, .int w)] rfl ?_
  intro K hKl hKg hnL C hRx hE
  subst hKl
  subst hKg
  have hE0 := hE
  obtain ⟨heSet, heOrd⟩ := hE
  obtain ⟨hn, hS, hJ, hR⟩ := id hI.1
  obtain ⟨⟨hN, hds, hdr⟩, hkp, hnx, hhi, hsl⟩ := id hRel
  refine z_iload_n C 2 rfl rfl dL_isStep_0 1 rfl ?_
  refine z_iconst C (v := nI 4) rfl dL_isStep_1 2 rfl ?_
  refine z_ishr C dL_isStep_2 3 rfl ?_
  refine z_istore C hnL [1, 2, 3, 4, 0] [(0, .ref (x 0)), (1, .ref (y 0)), (2, .int v), (3, .int w), (4, .int (v >>> (nI 4 &&& 31)))] rfl (Nat.le_of_ble_eq_true rfl) dL_isStep_3 5 rfl ?_
  refine z_aload_n C 0 rfl rfl dL_isStep_5 6 rfl ?_
  refine z_bipush C (v := nI 7) rfl dL_isStep_6 8 rfl ?_
  refine z_callV C [.int (nI 7)] [] (tO_count K.l K.g x a S J 7 hI (by first | omega | assumption)) gL_isStep_X4_count rfl rfl rfl hdX4_count ⟨Nat.le_of_ble_eq_true rfl, Nat.le_of_ble_eq_true rfl⟩ ⟨Nat.zero_le _, Nat.zero_le _⟩ 0 0 rfl rfl rfl [0] rfl rfl (zlc (N := 2) rfl rfl) [2, 1] rfl (by decide) (fun J2 : oJ => [wO K.g x a S J2, wO K.g y b T Jp]) (fun _ => rfl) rfl rfl (Nat.le_of_ble_eq_true rfl) dL_isStep_8 11 rfl (fun u9 hu9 => ?_)
  obtain ⟨J2_1, rfl⟩ : ∃ z, z = u9 := ⟨_, rfl⟩
  show Z K 0 0 [wO K.g x a S J2_1, wO K.g y b T Jp] [(0, .ref (x 0)), (1, .ref (y 0)), (2, .int v), (3, .int w), (4, .int (v >>> (nI 4 &&& 31)))] 11 [.int (nI (CN (sSt S) (sR S) (sN S) (sLen S) (sKp S) 7))]
  refine z_top (show (nI (CN (sSt S) (sR S) (sN S) (sLen S) (sKp S) 7) : Int32) = nI (sN S) from rfl) ?_
  refine z_istore C hnL [1, 2, 3, 4, 5, 0] [(0, .ref (x 0)), (1, .ref (y 0)), (2, .int v), (3, .int w), (4, .int (v >>> (nI 4 &&& 31))), (5, .int (nI (sN S)))] rfl (Nat.le_of_ble_eq_true rfl) dL_isStep_11 13 rfl ?_
  refine z_iload C 5 rfl dL_isStep_13 15 rfl ?_
  have jnj : ∀ (jb : Nat), ((sN S = 0 ∧ jb = 0) ∨ jb < sN S) → Z K 0 0 [wO K.g x a S J2_1, wO K.g y b T Jp] [(0, .ref (x 0)), (1, .ref (y 0)), (2, .int v), (3, .int w), (4, .int (v >>> (nI 4 &&& 31))), (5, .int (nI (sN S)))] 29 [.int (nI jb)] := by
    intro jb hjb
    refine z_istore C hnL [1, 2, 3, 4, 5, 6, 0] [(0, .ref (x 0)), (1, .ref (y 0)), (2, .int v), (3, .int w), (4, .int (v >>> (nI 4 &&& 31))), (5, .int (nI (sN S))), (6, .int (nI jb))] rfl (Nat.le_of_ble_eq_true rfl) dL_isStep_29 31 rfl ?_
    refine z_iload C 4 rfl dL_isStep_31 33 rfl ?_
    refine z_iconst C (v := nI 4) rfl dL_isStep_33 34 rfl ?_
    refine z_callP C [.int (v >>> (nI 4 &&& 31)), .int (nI 4)] [] (tL_up K.l K.g (v >>> (nI 4 &&& 31)) 4 (by decide) (by decide)) gL_isStep_L_up rfl rfl rfl hdL_up ⟨Nat.le_of_ble_eq_true rfl, Nat.le_of_ble_eq_true rfl⟩ ⟨Nat.zero_le _, Nat.zero_le _⟩ rfl rfl (Nat.le_of_ble_eq_true rfl) dL_isStep_34 37 rfl (fun u9 hu9 => ?_)
    show Z K 0 0 [wO K.g x a S J2_1, wO K.g y b T Jp] [(0, .ref (x 0)), (1, .ref (y 0)), (2, .int v), (3, .int w), (4, .int (v >>> (nI 4 &&& 31))), (5, .int (nI (sN S))), (6, .int (nI jb))] 37 [.int (nI (upN (v >>> (nI 4 &&& 31)) 4))]
    refine z_nm (fun pl0 epl0 => ?_)
    have hu_pl0 : pl0 < 4 := by rw [epl0]; exact upN_lt (by decide)
    refine z_istore C hnL [1, 2, 3, 4, 5, 6, 7, 0] [(0, .ref (x 0)), (1, .ref (y 0)), (2, .int v), (3, .int w), (4, .int (v >>> (nI 4 &&& 31))), (5, .int (nI (sN S))), (6, .int (nI jb)), (7, .int (nI pl0))] rfl (Nat.le_of_ble_eq_true rfl) dL_isStep_37 39 rfl ?_
    refine z_iload C 4 rfl dL_isStep_39 41 rfl ?_
    refine z_iconst C (v := nI 3) rfl dL_isStep_41 42 rfl ?_
    refine z_ishr C dL_isStep_42 43 rfl ?_
    refine z_bipush C (v := nI 10) rfl dL_isStep_43 45 rfl ?_
    refine z_callP C [.int ((v >>> (nI 4 &&& 31)) >>> (nI 3 &&& 31)), .int (nI 10)] [] (tL_up K.l K.g ((v >>> (nI 4 &&& 31)) >>> (nI 3 &&& 31)) 10 (by decide) (by decide)) gL_isStep_L_up rfl rfl rfl hdL_up ⟨Nat.le_of_ble_eq_true rfl, Nat.le_of_ble_eq_true rfl⟩ ⟨Nat.zero_le _, Nat.zero_le _⟩ rfl rfl (Nat.le_of_ble_eq_true rfl) dL_isStep_45 48 rfl (fun u9 hu9 => ?_)
    show Z K 0 0 [wO K.g x a S J2_1, wO K.g y b T Jp] [(0, .ref (x 0)), (1, .ref (y 0)), (2, .int v), (3, .int w), (4, .int (v >>> (nI 4 &&& 31))), (5, .int (nI (sN S))), (6, .int (nI jb)), (7, .int (nI pl0))] 48 [.int (nI (upN ((v >>> (nI 4 &&& 31)) >>> (nI 3 &&& 31)) 10))]
    refine z_nm (fun sh0 esh0 => ?_)
    have hu_sh0 : sh0 < 10 := by rw [esh0]; exact upN_lt (by decide)
    refine z_istore C hnL [1, 2, 3, 4, 5, 6, 7, 8, 0] [(0, .ref (x 0)), (1, .ref (y 0)), (2, .int v), (3, .int w), (4, .int (v >>> (nI 4 &&& 31))), (5, .int (nI (sN S))), (6, .int (nI jb)), (7, .int (nI pl0)), (8, .int (nI sh0))] rfl (Nat.le_of_ble_eq_true rfl) dL_isStep_48 50 rfl ?_
    refine z_iconst C (v := nI 1) rfl dL_isStep_50 51 rfl ?_
    refine z_iload_n C 3 rfl rfl dL_isStep_51 52 rfl ?_
    refine z_bipush C (v := nI 20) rfl dL_isStep_52 54 rfl ?_
    refine z_callP C [.int w, .int (nI 20)] [.int (nI 1)] (tL_up K.l K.g w 20 (by decide) (by decide)) gL_isStep_L_up rfl rfl rfl hdL_up ⟨Nat.le_of_ble_eq_true rfl, Nat.le_of_ble_eq_true rfl⟩ ⟨Nat.zero_le _, Nat.zero_le _⟩ rfl rfl (Nat.le_of_ble_eq_true rfl) dL_isStep_54 57 rfl (fun u9 hu9 => ?_)
    show Z K 0 0 [wO K.g x a S J2_1, wO K.g y b T Jp] [(0, .ref (x 0)), (1, .ref (y 0)), (2, .int v), (3, .int w), (4, .int (v >>> (nI 4 &&& 31))), (5, .int (nI (sN S))), (6, .int (nI jb)), (7, .int (nI pl0)), (8, .int (nI sh0))] 57 [.int (nI (upN w 20)), .int (nI 1)]
    refine z_nm (fun hu0 ehu0 => ?_)
    have hu_hu0 : hu0 < 20 := by rw [ehu0]; exact upN_lt (by decide)
    refine z_iadd C dL_isStep_57 58 rfl ?_
    refine z_nm (fun x_2 ex_2 => ?_)
    refine z_istore C hnL [1, 2, 3, 4, 5, 6, 7, 8, 9, 0] [(0, .ref (x 0)), (1, .ref (y 0)), (2, .int v), (3, .int w), (4, .int (v >>> (nI 4 &&& 31))), (5, .int (nI (sN S))), (6, .int (nI jb)), (7, .int (nI pl0)), (8, .int (nI sh0)), (9, .int (nI x_2))] rfl (Nat.le_of_ble_eq_true rfl) dL_isStep_58 60 rfl ?_
    refine z_iload_n C 3 rfl rfl dL_isStep_60 61 rfl ?_
    refine z_iconst C (v := nI 5) rfl dL_isStep_61 62 rfl ?_
    refine z_ishr C dL_isStep_62 63 rfl ?_
    refine z_iload C 4 rfl dL_isStep_63 65 rfl ?_
    refine z_bipush C (v := nI 7) rfl dL_isStep_65 67 rfl ?_
    refine z_ishr C dL_isStep_67 68 rfl ?_
    refine z_iconst C (v := nI 2) rfl dL_isStep_68 69 rfl ?_
    refine z_callP C [.int ((v >>> (nI 4 &&& 31)) >>> (nI 7 &&& 31)), .int (nI 2)] [.int (w >>> (nI 5 &&& 31))] (tL_up K.l K.g ((v >>> (nI 4 &&& 31)) >>> (nI 7 &&& 31)) 2 (by decide) (by decide)) gL_isStep_L_up rfl rfl rfl hdL_up ⟨Nat.le_of_ble_eq_true rfl, Nat.le_of_ble_eq_true rfl⟩ ⟨Nat.zero_le _, Nat.zero_le _⟩ rfl rfl (Nat.le_of_ble_eq_true rfl) dL_isStep_69 72 rfl (fun u9 hu9 => ?_)
    show Z K 0 0 [wO K.g x a S J2_1, wO K.g y b T Jp] [(0, .ref (x 0)), (1, .ref (y 0)), (2, .int v), (3, .int w), (4, .int (v >>> (nI 4 &&& 31))), (5, .int (nI (sN S))), (6, .int (nI jb)), (7, .int (nI pl0)), (8, .int (nI sh0)), (9, .int (nI x_2))] 72 [.int (nI (upN ((v >>> (nI 4 &&& 31)) >>> (nI 7 &&& 31)) 2)), .int (w >>> (nI 5 &&& 31))]
    refine z_nm (fun u2 eu2 => ?_)
    have hu_u2 : u2 < 2 := by rw [eu2]; exact upN_lt (by decide)
    have jnl : ∀ (lim : Nat), (0 < lim) → (lim ≤ 1501) → Z K 0 0 [wO K.g x a S J2_1, wO K.g y b T Jp] [(0, .ref (x 0)), (1, .ref (y 0)), (2, .int v), (3, .int w), (4, .int (v >>> (nI 4 &&& 31))), (5, .int (nI (sN S))), (6, .int (nI jb)), (7, .int (nI pl0)), (8, .int (nI sh0)), (9, .int (nI x_2))] 84 [.int (nI lim), .int (w >>> (nI 5 &&& 31))] := by
      intro lim hl0 hl1
      refine z_callP C [.int (w >>> (nI 5 &&& 31)), .int (nI lim)] [] (tL_up K.l K.g (w >>> (nI 5 &&& 31)) lim (by omega) (by omega)) gL_isStep_L_up rfl rfl rfl hdL_up ⟨Nat.le_of_ble_eq_true rfl, Nat.le_of_ble_eq_true rfl⟩ ⟨Nat.zero_le _, Nat.zero_le _⟩ rfl rfl (Nat.le_of_ble_eq_true rfl) dL_isStep_84 87 rfl (fun u9 hu9 => ?_)
      show Z K 0 0 [wO K.g x a S J2_1, wO K.g y b T Jp] [(0, .ref (x 0)), (1, .ref (y 0)), (2, .int v), (3, .int w), (4, .int (v >>> (nI 4 &&& 31))), (5, .int (nI (sN S))), (6, .int (nI jb)), (7, .int (nI pl0)), (8, .int (nI sh0)), (9, .int (nI x_2))] 87 [.int (nI (upN (w >>> (nI 5 &&& 31)) lim))]
      refine z_nm (fun du0 edu0 => ?_)
      have hu_du0 : du0 < lim := by rw [edu0]; exact upN_lt (by omega)
      refine z_istore C hnL [1, 2, 3, 4, 5, 6, 7, 8, 9, 10, 0] [(0, .ref (x 0)), (1, .ref (y 0)), (2, .int v), (3, .int w), (4, .int (v >>> (nI 4 &&& 31))), (5, .int (nI (sN S))), (6, .int (nI jb)), (7, .int (nI pl0)), (8, .int (nI sh0)), (9, .int (nI x_2)), (10, .int (nI du0))] rfl (Nat.le_of_ble_eq_true rfl) dL_isStep_87 89 rfl ?_
      refine z_iload_n C 2 rfl rfl dL_isStep_89 90 rfl ?_
      refine z_bipush C (v := nI 16) rfl dL_isStep_90 92 rfl ?_
      refine z_callP C [.int v, .int (nI 16)] [] (tL_up K.l K.g v 16 (by decide) (by decide)) gL_isStep_L_up rfl rfl rfl hdL_up ⟨Nat.le_of_ble_eq_true rfl, Nat.le_of_ble_eq_true rfl⟩ ⟨Nat.zero_le _, Nat.zero_le _⟩ rfl rfl (Nat.le_of_ble_eq_true rfl) dL_isStep_92 95 rfl (fun u9 hu9 => ?_)
      show Z K 0 0 [wO K.g x a S J2_1, wO K.g y b T Jp] [(0, .ref (x 0)), (1, .ref (y 0)), (2, .int v), (3, .int w), (4, .int (v >>> (nI 4 &&& 31))), (5, .int (nI (sN S))), (6, .int (nI jb)), (7, .int (nI pl0)), (8, .int (nI sh0)), (9, .int (nI x_2)), (10, .int (nI du0))] 95 [.int (nI (upN v 16))]
      refine z_nm (fun sw esw => ?_)
      have hu_sw : sw < 16 := by rw [esw]; exact upN_lt (by decide)
      rcases (show sw = 0 ∨ sw = 1 ∨ sw = 2 ∨ sw = 3 ∨ sw = 4 ∨ sw = 5 ∨ sw = 6 ∨ sw = 7 ∨ sw = 8 ∨ sw = 9 ∨ sw = 10 ∨ 11 ≤ sw by omega) with rfl | rfl | rfl | rfl | rfl | rfl | rfl | rfl | rfl | rfl | rfl | h11
      · refine z_tab C (by decide) 152 dL_isStep_95 (by decide) (by decide) rfl (by decide) ?_
        exact is_set C hnL x a S J2_1 y b T Jp v w (v >>> (nI 4 &&& 31)) jb pl0 sh0 x_2 du0 hRx hE0 hI hIT hRel (by omega) (by omega) (by omega) (by omega) (by omega) (by omega)
      · refine z_tab C (by decide) 152 dL_isStep_95 (by decide) (by decide) rfl (by decide) ?_
        exact is_set C hnL x a S J2_1 y b T Jp v w (v >>> (nI 4 &&& 31)) jb pl0 sh0 x_2 du0 hRx hE0 hI hIT hRel (by omega) (by omega) (by omega) (by omega) (by omega) (by omega)
      · refine z_tab C (by decide) 353 dL_isStep_95 (by decide) (by decide) rfl (by decide) ?_
        exact is_drop C hnL x a S J2_1 y b T Jp v w (v >>> (nI 4 &&& 31)) jb pl0 sh0 x_2 du0 hRx hE0 hI hIT hRel (by omega) (by omega) (by omega) (by omega) (by omega) (by omega)
      · refine z_tab C (by decide) 396 dL_isStep_95 (by decide) (by decide) rfl (by decide) ?_
        exact is_move C hnL x a S J2_1 y b T Jp v w (v >>> (nI 4 &&& 31)) jb pl0 sh0 x_2 du0 hRx hE0 hI hIT hRel (by omega) (by omega) (by omega) (by omega) (by omega) (by omega)
      · refine z_tab C (by decide) 396 dL_isStep_95 (by decide) (by decide) rfl (by decide) ?_
        exact is_move C hnL x a S J2_1 y b T Jp v w (v >>> (nI 4 &&& 31)) jb pl0 sh0 x_2 du0 hRx hE0 hI hIT hRel (by omega) (by omega) (by omega) (by omega) (by omega) (by omega)
      · refine z_tab C (by decide) 512 dL_isStep_95 (by decide) (by decide) rfl (by decide) ?_
        exact is_due C hnL x a S J2_1 y b T Jp v w (v >>> (nI 4 &&& 31)) jb pl0 sh0 x_2 du0 hRx hE0 hI hIT hRel (by omega) (by omega) (by omega) (by omega) (by omega) (by omega)
      · refine z_tab C (by decide) 585 dL_isStep_95 (by decide) (by decide) rfl (by decide) ?_
        exact is_order C hnL x a S J2_1 y b T Jp v w (v >>> (nI 4 &&& 31)) jb pl0 sh0 x_2 du0 hRx hE0 hI hIT hRel (by omega) (by omega) (by omega) (by omega) (by omega) (by omega)
      · refine z_tab C (by decide) 736 dL_isStep_95 (by decide) (by decide) rfl (by decide) ?_
        exact is_read C hnL x a S J2_1 y b T Jp v w (v >>> (nI 4 &&& 31)) jb pl0 sh0 x_2 du0 hRx hE0 hI hIT hRel (by omega) (by omega) (by omega) (by omega) (by omega) (by omega)
      · refine z_tab C (by decide) 841 dL_isStep_95 (by decide) (by decide) rfl (by decide) ?_
        exact is_undo C hnL x a S J2_1 y b T Jp v w (v >>> (nI 4 &&& 31)) jb pl0 sh0 x_2 du0 hRx hE0 hI hIT hRel (by omega) (by omega) (by omega) (by omega) (by omega) (by omega)
      · refine z_tab C (by decide) 867 dL_isStep_95 (by decide) (by decide) rfl (by decide) ?_
        exact is_save C hnL x a S J2_1 y b T Jp v w (v >>> (nI 4 &&& 31)) jb pl0 sh0 x_2 du0 hRx hE0 hI hIT hRel (by omega) (by omega) (by omega) (by omega) (by omega) (by omega)
      · refine z_tab C (by decide) 935 dL_isStep_95 (by decide) (by decide) rfl (by decide) ?_
        exact is_at C hnL x a S J2_1 y b T Jp v w (v >>> (nI 4 &&& 31)) jb pl0 sh0 x_2 du0 hRx hE0 hI hIT hRel (by omega) (by omega) (by omega) (by omega) (by omega) (by omega)
      · refine z_tabO C 1026 dL_isStep_95 (Or.inr (by rw [nI_toInt (by omega)]; omega)) (by decide) ?_
        exact is_job C hnL x a S J2_1 y b T Jp v w (v >>> (nI 4 &&& 31)) jb pl0 sh0 x_2 du0 hRx hE0 hI hIT hRel (by omega) (by omega) (by omega) (by omega) (by omega) (by omega)
    refine z_if_ne C (by omega) 81 dL_isStep_72 (by decide) 75 rfl (fun c_3 => ?_) (fun c_3 => ?_)
    · skip
      refine z_sipush C (v := nI 400) rfl dL_isStep_81 84 rfl ?_
      exact jnl 400 (by omega) (by omega)
    · skip
      refine z_sipush C (v := nI 1501) rfl dL_isStep_75 78 rfl ?_
      refine z_goto C 84 dL_isStep_78 (by decide) ?_
      exact jnl 1501 (by omega) (by omega)
  refine z_if_ne C (by omega) 22 dL_isStep_15 (by decide) 18 rfl (fun c_4 => ?_) (fun c_4 => ?_)
  · skip
    refine z_iload C 4 rfl dL_isStep_22 24 rfl ?_
    refine z_iload C 5 rfl dL_isStep_24 26 rfl ?_
    refine z_callP C [.int (v >>> (nI 4 &&& 31)), .int (nI (sN S))] [] (tL_up K.l K.g (v >>> (nI 4 &&& 31)) (sN S) (by omega) (by omega)) gL_isStep_L_up rfl rfl rfl hdL_up ⟨Nat.le_of_ble_eq_true rfl, Nat.le_of_ble_eq_true rfl⟩ ⟨Nat.zero_le _, Nat.zero_le _⟩ rfl rfl (Nat.le_of_ble_eq_true rfl) dL_isStep_26 29 rfl (fun u9 hu9 => ?_)
    show Z K 0 0 [wO K.g x a S J2_1, wO K.g y b T Jp] [(0, .ref (x 0)), (1, .ref (y 0)), (2, .int v), (3, .int w), (4, .int (v >>> (nI 4 &&& 31))), (5, .int (nI (sN S)))] 29 [.int (nI (upN (v >>> (nI 4 &&& 31)) (sN S)))]
    refine z_nm (fun u1 eu1 => ?_)
    have hu_u1 : u1 < sN S := by rw [eu1]; exact upN_lt (by omega)
    exact jnj u1 (by omega)
  · skip
    refine z_iconst C (v := nI 0) rfl dL_isStep_18 19 rfl ?_
    refine z_goto C 29 dL_isStep_19 (by decide) ?_
    exact jnj 0 (by omega)

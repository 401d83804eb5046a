/-! IS: set -/
set_option maxHeartbeats 4000000 in
set_option maxRecDepth 100000 in
theorem is_set {K : zK} {A : Nat → Prop} (C : Cx K ({ frames := 8, cells := 0, slots := 0, locals := 175 } : Room) RL cL_isStep wsL_isStep) (hnL : K.nL = 17) (x : Nat → Nat) (a : oA) (S : oS) (J : oJ) (y : Nat → Nat) (b : oA) (T : oS) (Jp : oJ) (v w z : Int32) (jb pl sh hu du : Nat) (hRx : RS K x a y b A) (hE : eAll K.A K.s) (hI : INV S) (hIT : INV T) (hRel : REL S T 6) (hjb : (sN S = 0 ∧ jb = 0) ∨ jb < sN S) (hpl : pl ≤ 3) (hsh : sh ≤ 9) (hu1 : 1 ≤ hu) (hu2 : hu ≤ 20) (hdu : du ≤ 1500) : Z K 0 0 [wO K.g x a S J, wO K.g y b T Jp] [(0, .ref (x 0)), (1, .ref (y 0)), (2, .int v), (3, .int w), (4, .int z), (5, .int (nI (sN S))), (6, .int (nI jb)), (7, .int (nI pl)), (8, .int (nI sh)), (9, .int (nI hu)), (10, .int (nI du))] 152 [] := by
  have heAll := hE
  obtain ⟨heSet, heOrd⟩ := hE
  obtain ⟨hn, hS, hJ, hR⟩ := id hI.1
  obtain ⟨⟨hN, hds, hdr⟩, hkp, hnx, hhi, hsl⟩ := id hRel
  have h5b := hS.2.2.2.2.2.2.2.1
  have h6b := hS.2.2.2.2.2.2.2.2
  refine z_iload C 4 rfl dL_isStep_152 154 rfl ?_
  refine z_bipush C (v := nI 7) rfl dL_isStep_154 156 rfl ?_
  refine z_callP C [.int z, .int (nI 7)] [] (tL_up K.l K.g z 7 (by decide) (by decide)) gL_isStep_L_up rfl rfl rfl hdL_up ⟨Nat.le_of_ble_eq_true rfl, Nat.le_of_ble_eq_true rfl⟩ ⟨Nat.zero_le _, Nat.zero_le _⟩ rfl rfl (Nat.le_of_ble_eq_true rfl) dL_isStep_156 159 rfl (fun u9 hu9 => ?_)
  show Z K 0 0 [wO K.g x a S J, wO K.g y b T Jp] [(0, .ref (x 0)), (1, .ref (y 0)), (2, .int v), (3, .int w), (4, .int z), (5, .int (nI (sN S))), (6, .int (nI jb)), (7, .int (nI pl)), (8, .int (nI sh)), (9, .int (nI hu)), (10, .int (nI du))] 159 [.int (nI (upN z 7))]
  refine z_nm (fun wh ewh => ?_)
  have hu_wh : wh < 7 := by rw [ewh]; exact upN_lt (by decide)
  refine z_istore C hnL [1, 2, 3, 4, 5, 6, 7, 8, 9, 10, 11, 0] [(0, .ref (x 0)), (1, .ref (y 0)), (2, .int v), (3, .int w), (4, .int z), (5, .int (nI (sN S))), (6, .int (nI jb)), (7, .int (nI pl)), (8, .int (nI sh)), (9, .int (nI hu)), (10, .int (nI du)), (11, .int (nI wh))] rfl (Nat.le_of_ble_eq_true rfl) dL_isStep_159 161 rfl ?_
  have jns : ∀ (vv : Nat), (setR wh vv) → Z K 0 0 [wO K.g x a S J, wO K.g y b T Jp] [(0, .ref (x 0)), (1, .ref (y 0)), (2, .int v), (3, .int w), (4, .int z), (5, .int (nI (sN S))), (6, .int (nI jb)), (7, .int (nI pl)), (8, .int (nI sh)), (9, .int (nI hu)), (10, .int (nI du)), (11, .int (nI wh))] 248 [.int (nI vv)] := by
    intro vv hv
    refine z_istore C hnL [1, 2, 3, 4, 5, 6, 7, 8, 9, 10, 11, 12, 0] [(0, .ref (x 0)), (1, .ref (y 0)), (2, .int v), (3, .int w), (4, .int z), (5, .int (nI (sN S))), (6, .int (nI jb)), (7, .int (nI pl)), (8, .int (nI sh)), (9, .int (nI hu)), (10, .int (nI du)), (11, .int (nI wh)), (12, .int (nI vv))] rfl (Nat.le_of_ble_eq_true rfl) dL_isStep_248 250 rfl ?_
    refine z_aload_n C 0 rfl rfl dL_isStep_250 251 rfl ?_
    refine z_iload C 11 rfl dL_isStep_251 253 rfl ?_
    refine z_callV C [.int (nI wh)] [] (tO_count K.l K.g x a S J wh hI (by first | omega | assumption)) gL_isStep_X4_count rfl rfl rfl hdX4_count ⟨Nat.le_of_ble_eq_true rfl, Nat.le_of_ble_eq_true rfl⟩ ⟨Nat.zero_le _, Nat.zero_le _⟩ 0 0 rfl rfl rfl [0] rfl rfl (zlc (N := 2) rfl rfl) [2, 1] rfl (by decide) (fun J2 : oJ => [wO K.g x a S J2, wO K.g y b T Jp]) (fun _ => rfl) rfl rfl (Nat.le_of_ble_eq_true rfl) dL_isStep_253 256 rfl (fun u9 hu9 => ?_)
    obtain ⟨J2_1, rfl⟩ : ∃ z, z = u9 := ⟨_, rfl⟩
    show Z K 0 0 [wO K.g x a S J2_1, wO K.g y b T Jp] [(0, .ref (x 0)), (1, .ref (y 0)), (2, .int v), (3, .int w), (4, .int z), (5, .int (nI (sN S))), (6, .int (nI jb)), (7, .int (nI pl)), (8, .int (nI sh)), (9, .int (nI hu)), (10, .int (nI du)), (11, .int (nI wh)), (12, .int (nI vv))] 256 [.int (nI (CN (sSt S) (sR S) (sN S) (sLen S) (sKp S) wh))]
    refine z_top (show (nI (CN (sSt S) (sR S) (sN S) (sLen S) (sKp S) wh) : Int32) = nI (sSt S wh) from (congrArg nI (CN_st hu_wh))) ?_
    refine z_nm (fun had ehad => ?_)
    refine z_istore C hnL [1, 2, 3, 4, 5, 6, 7, 8, 9, 10, 11, 12, 13, 0] [(0, .ref (x 0)), (1, .ref (y 0)), (2, .int v), (3, .int w), (4, .int z), (5, .int (nI (sN S))), (6, .int (nI jb)), (7, .int (nI pl)), (8, .int (nI sh)), (9, .int (nI hu)), (10, .int (nI du)), (11, .int (nI wh)), (12, .int (nI vv)), (13, .int (nI had))] rfl (Nat.le_of_ble_eq_true rfl) dL_isStep_256 258 rfl ?_
    by_cases hq0 : mND (un (sSt S) wh vv) (sR S) (sN S) ≤ un (sSt S) wh vv 5
    · skip
      refine z_aload_n C 0 rfl rfl dL_isStep_258 259 rfl ?_
      refine z_iload C 11 rfl dL_isStep_259 261 rfl ?_
      refine z_iload C 12 rfl dL_isStep_261 263 rfl ?_
      refine z_callVE (E := eSet) (fun _ _ _ e e2 h => eSet.same e e2 h) (fun _ _ _ hS9 hW9 hAB => eSet.later heSet hS9 hW9 hAB) C [.int (nI wh), .int (nI vv)] [] (tO_set_ok K.l K.g x a S J2_1 wh vv hI (by omega) hv.1 hv.2.1 hq0) gL_isStep_X4_set rfl rfl rfl hdX4_set ⟨Nat.le_of_ble_eq_true rfl, Nat.le_of_ble_eq_true rfl⟩ ⟨Nat.zero_le _, Nat.zero_le _⟩ 0 0 rfl rfl rfl [0] rfl rfl (zlc (N := 2) rfl rfl) [2, 1] rfl (by decide) (fun J2 : oJ => [wO K.g x a (uPush S (un (sSt S) wh vv) (sR S) (sN S)) J2, wO K.g y b T Jp]) (fun _ => rfl) rfl rfl (Nat.le_of_ble_eq_true rfl) dL_isStep_263 266 rfl (fun u9 hu9 => ?_)
      obtain ⟨J2_2, rfl⟩ : ∃ z, z = u9 := ⟨_, rfl⟩
      show Z K 0 0 [wO K.g x a (uPush S (un (sSt S) wh vv) (sR S) (sN S)) J2_2, wO K.g y b T Jp] [(0, .ref (x 0)), (1, .ref (y 0)), (2, .int v), (3, .int w), (4, .int z), (5, .int (nI (sN S))), (6, .int (nI jb)), (7, .int (nI pl)), (8, .int (nI sh)), (9, .int (nI hu)), (10, .int (nI du)), (11, .int (nI wh)), (12, .int (nI vv)), (13, .int (nI had))] 266 [.int (nI ((sSt S) wh))]
      refine z_top (show (nI ((sSt S) wh) : Int32) = nI (sSt S wh) from rfl) ?_
      refine z_nm (fun told etold => ?_)
      have hI2 : INV (uPush S (un (sSt S) wh vv) (sR S) (sN S)) := INV_push hI ⟨hn, okS_un hS (by omega) hv.1 hv.2.1, hJ, fun j hj => Nat.le_trans (mND_ge hj) hq0⟩
      have h500 := okS_500 hS hu_wh
      refine z_istore C hnL [1, 2, 3, 4, 5, 6, 7, 8, 9, 10, 11, 12, 13, 14, 0] [(0, .ref (x 0)), (1, .ref (y 0)), (2, .int v), (3, .int w), (4, .int z), (5, .int (nI (sN S))), (6, .int (nI jb)), (7, .int (nI pl)), (8, .int (nI sh)), (9, .int (nI hu)), (10, .int (nI du)), (11, .int (nI wh)), (12, .int (nI vv)), (13, .int (nI had)), (14, .int (nI told))] rfl (Nat.le_of_ble_eq_true rfl) dL_isStep_266 268 rfl ?_
      refine z_aload_n C 1 rfl rfl dL_isStep_268 269 rfl ?_
      refine z_iload C 11 rfl dL_isStep_269 271 rfl ?_
      refine z_iload C 11 rfl dL_isStep_271 273 rfl ?_
      refine z_iconst C (v := nI 5) rfl dL_isStep_273 274 rfl ?_
      refine z_icmp_ge C (by omega) (by omega) 284 dL_isStep_274 (by decide) 277 rfl (fun c_3 => ?_) (fun c_3 => ?_)
      · skip
        refine z_iload C 12 rfl dL_isStep_284 286 rfl ?_
        have hds2 : dS (un (sSt S) wh vv) (un (sSt T) wh (vv)) := dS_un2 hds (by omega) (by omega)
        have hse := set_eq hN hds2 hdr
        refine z_callVE (E := eSet) (fun _ _ _ e e2 h => eSet.same e e2 h) (fun _ _ _ hS9 hW9 hAB => eSet.later heSet hS9 hW9 hAB) C [.int (nI wh), .int (nI vv)] [] (tO_set_ok K.l K.g y b T Jp wh vv hIT (by omega) hv.1 hv.2.1 (by rw [hse.1, hse.2]; exact hq0)) gL_isStep_X4_set rfl rfl rfl hdX4_set ⟨Nat.le_of_ble_eq_true rfl, Nat.le_of_ble_eq_true rfl⟩ ⟨Nat.zero_le _, Nat.zero_le _⟩ 1 0 rfl rfl rfl [1] rfl rfl (zlc (N := 2) rfl rfl) [0, 2] rfl (by decide) (fun J2 : oJ => [wO K.g x a (uPush S (un (sSt S) wh vv) (sR S) (sN S)) J2_2, wO K.g y b (uPush T (un (sSt T) wh vv) (sR T) (sN T)) J2]) (fun _ => rfl) rfl rfl (Nat.le_of_ble_eq_true rfl) dL_isStep_286 289 rfl (fun u9 hu9 => ?_)
        obtain ⟨J2_4, rfl⟩ : ∃ z, z = u9 := ⟨_, rfl⟩
        show Z K 0 0 [wO K.g x a (uPush S (un (sSt S) wh vv) (sR S) (sN S)) J2_2, wO K.g y b (uPush T (un (sSt T) wh vv) (sR T) (sN T)) J2_4] [(0, .ref (x 0)), (1, .ref (y 0)), (2, .int v), (3, .int w), (4, .int z), (5, .int (nI (sN S))), (6, .int (nI jb)), (7, .int (nI pl)), (8, .int (nI sh)), (9, .int (nI hu)), (10, .int (nI du)), (11, .int (nI wh)), (12, .int (nI vv)), (13, .int (nI had)), (14, .int (nI told))] 289 [.int (nI ((sSt T) wh))]
        have hIT2 : INV (uPush T (un (sSt T) wh (vv)) (sR T) (sN T)) := INV_push hIT ⟨hIT.1.1, okS_un hIT.1.2.1 (by omega) hv.1 hv.2.1, hIT.1.2.2.1, fun j hj => Nat.le_trans (mND_ge hj) (by rw [hse.1, hse.2]; exact hq0)⟩
        have hRel2 := REL_push6 hI hRel ⟨hN, hds2, hdr⟩
        refine z_iload C 11 rfl dL_isStep_289 291 rfl ?_
        refine z_iconst C (v := nI 5) rfl dL_isStep_291 292 rfl ?_
        refine z_icmp_ge C (by omega) (by omega) 303 dL_isStep_292 (by decide) 295 rfl (fun c_5 => ?_) (fun c_5 => ?_)
        rotate_left
        · exfalso; omega
        refine z_iload C 14 rfl dL_isStep_303 305 rfl ?_
        refine z_icmpI_ne C 351 dL_isStep_305 (by decide) 308 rfl (fun c_6 => absurd (show (nI ((sSt T) wh) : Int32) = nI told from (congrArg nI (by rw [etold]; exact dS_56 hds (by omega) (by omega)))) c_6) (fun c_6 => ?_)
        refine z_iload C 14 rfl dL_isStep_308 310 rfl ?_
        refine z_bipush C (v := (-5)) rfl dL_isStep_310 312 rfl ?_
        refine z_icmpI_ne C 329 dL_isStep_312 (by decide) 315 rfl (fun c_7 => ?_) (fun c_7 => absurd (show (nI told : Int32) = (-5) from c_7) (nI_n5 (by omega)))
        refine z_iload C 14 rfl dL_isStep_329 331 rfl ?_
        refine z_iload C 13 rfl dL_isStep_331 333 rfl ?_
        refine z_icmpI_ne C 351 dL_isStep_333 (by decide) 336 rfl (fun c_8 => absurd (show (nI told : Int32) = nI had from (congrArg nI (by omega))) c_8) (fun c_8 => ?_)
        refine z_aload_n C 0 rfl rfl dL_isStep_336 337 rfl ?_
        refine z_iload C 11 rfl dL_isStep_337 339 rfl ?_
        refine z_callV C [.int (nI wh)] [] (tO_count K.l K.g x a (uPush S (un (sSt S) wh vv) (sR S) (sN S)) J2_2 wh hI2 (by first | omega | assumption)) gL_isStep_X4_count rfl rfl rfl hdX4_count ⟨Nat.le_of_ble_eq_true rfl, Nat.le_of_ble_eq_true rfl⟩ ⟨Nat.zero_le _, Nat.zero_le _⟩ 0 0 rfl rfl rfl [0] rfl rfl (zlc (N := 2) rfl rfl) [2, 1] rfl (by decide) (fun J2 : oJ => [wO K.g x a (uPush S (un (sSt S) wh vv) (sR S) (sN S)) J2, wO K.g y b (uPush T (un (sSt T) wh vv) (sR T) (sN T)) J2_4]) (fun _ => rfl) rfl rfl (Nat.le_of_ble_eq_true rfl) dL_isStep_339 342 rfl (fun u9 hu9 => ?_)
        obtain ⟨J2_9, rfl⟩ : ∃ z, z = u9 := ⟨_, rfl⟩
        show Z K 0 0 [wO K.g x a (uPush S (un (sSt S) wh vv) (sR S) (sN S)) J2_9, wO K.g y b (uPush T (un (sSt T) wh vv) (sR T) (sN T)) J2_4] [(0, .ref (x 0)), (1, .ref (y 0)), (2, .int v), (3, .int w), (4, .int z), (5, .int (nI (sN S))), (6, .int (nI jb)), (7, .int (nI pl)), (8, .int (nI sh)), (9, .int (nI hu)), (10, .int (nI du)), (11, .int (nI wh)), (12, .int (nI vv)), (13, .int (nI had)), (14, .int (nI told))] 342 [.int (nI (CN (sSt (uPush S (un (sSt S) wh vv) (sR S) (sN S))) (sR (uPush S (un (sSt S) wh vv) (sR S) (sN S))) (sN (uPush S (un (sSt S) wh vv) (sR S) (sN S))) (sLen (uPush S (un (sSt S) wh vv) (sR S) (sN S))) (sKp (uPush S (un (sSt S) wh vv) (sR S) (sN S))) wh))]
        refine z_top (show (nI (CN (sSt (uPush S (un (sSt S) wh vv) (sR S) (sN S))) (sR (uPush S (un (sSt S) wh vv) (sR S) (sN S))) (sN (uPush S (un (sSt S) wh vv) (sR S) (sN S))) (sLen (uPush S (un (sSt S) wh vv) (sR S) (sN S))) (sKp (uPush S (un (sSt S) wh vv) (sR S) (sN S))) wh) : Int32) = nI vv from (congrArg nI ((CN_st hu_wh).trans (show un (sSt S) wh vv wh = vv from un_s)))) ?_
        refine z_iload C 12 rfl dL_isStep_342 344 rfl ?_
        refine z_icmpI_ne C 351 dL_isStep_344 (by decide) 347 rfl (fun c_10 => absurd (show (nI vv : Int32) = nI vv from rfl) c_10) (fun c_10 => ?_)
        refine z_iconst C (v := nI 1) rfl dL_isStep_347 348 rfl ?_
        refine z_goto C 352 dL_isStep_348 (by decide) ?_
        refine z_eq (st2 := [.int (bI true)]) ?_ rfl rfl rfl
        exact z_bret C hRx dL_isStep_352 (uPush S (un (sSt S) wh vv) (sR S) (sN S), J2_9, uPush T (un (sSt T) wh vv) (sR T) (sN T), J2_4) rfl (⟨hI2, hIT2, hRel2⟩) rfl
      · skip
        refine z_iconst C (v := nI 2) rfl dL_isStep_277 278 rfl ?_
        refine z_iload C 12 rfl dL_isStep_278 280 rfl ?_
        refine z_imul C dL_isStep_280 281 rfl ?_
        refine z_goto C 286 dL_isStep_281 (by decide) ?_
        have hds2 : dS (un (sSt S) wh vv) (un (sSt T) wh (2 * vv)) := dS_un1 hds (by omega)
        have hse := set_eq hN hds2 hdr
        refine z_callVE (E := eSet) (fun _ _ _ e e2 h => eSet.same e e2 h) (fun _ _ _ hS9 hW9 hAB => eSet.later heSet hS9 hW9 hAB) C [.int (nI wh), .int (nI (2 * vv))] [] (tO_set_ok K.l K.g y b T Jp wh (2 * vv) hIT (by omega) (hv.2.2 (by omega)).1 (hv.2.2 (by omega)).2 (by rw [hse.1, hse.2]; exact hq0)) gL_isStep_X4_set rfl rfl rfl hdX4_set ⟨Nat.le_of_ble_eq_true rfl, Nat.le_of_ble_eq_true rfl⟩ ⟨Nat.zero_le _, Nat.zero_le _⟩ 1 0 rfl rfl rfl [1] rfl rfl (zlc (N := 2) rfl rfl) [0, 2] rfl (by decide) (fun J2 : oJ => [wO K.g x a (uPush S (un (sSt S) wh vv) (sR S) (sN S)) J2_2, wO K.g y b (uPush T (un (sSt T) wh (2 * vv)) (sR T) (sN T)) J2]) (fun _ => rfl) rfl rfl (Nat.le_of_ble_eq_true rfl) dL_isStep_286 289 rfl (fun u9 hu9 => ?_)
        obtain ⟨J2_11, rfl⟩ : ∃ z, z = u9 := ⟨_, rfl⟩
        show Z K 0 0 [wO K.g x a (uPush S (un (sSt S) wh vv) (sR S) (sN S)) J2_2, wO K.g y b (uPush T (un (sSt T) wh (2 * vv)) (sR T) (sN T)) J2_11] [(0, .ref (x 0)), (1, .ref (y 0)), (2, .int v), (3, .int w), (4, .int z), (5, .int (nI (sN S))), (6, .int (nI jb)), (7, .int (nI pl)), (8, .int (nI sh)), (9, .int (nI hu)), (10, .int (nI du)), (11, .int (nI wh)), (12, .int (nI vv)), (13, .int (nI had)), (14, .int (nI told))] 289 [.int (nI ((sSt T) wh))]
        have hIT2 : INV (uPush T (un (sSt T) wh (2 * vv)) (sR T) (sN T)) := INV_push hIT ⟨hIT.1.1, okS_un hIT.1.2.1 (by omega) (hv.2.2 (by omega)).1 (hv.2.2 (by omega)).2, hIT.1.2.2.1, fun j hj => Nat.le_trans (mND_ge hj) (by rw [hse.1, hse.2]; exact hq0)⟩
        have hRel2 := REL_push6 hI hRel ⟨hN, hds2, hdr⟩
        refine z_iload C 11 rfl dL_isStep_289 291 rfl ?_
        refine z_iconst C (v := nI 5) rfl dL_isStep_291 292 rfl ?_
        refine z_icmp_ge C (by omega) (by omega) 303 dL_isStep_292 (by decide) 295 rfl (fun c_12 => ?_) (fun c_12 => ?_)
        · exfalso; omega
        refine z_iload C 14 rfl dL_isStep_295 297 rfl ?_
        refine z_callP C [.int (nI told)] [.int (nI ((sSt T) wh))] (tL_twice K.l K.g (nI told) ) gL_isStep_L_twice rfl rfl rfl hdL_twice ⟨Nat.le_of_ble_eq_true rfl, Nat.le_of_ble_eq_true rfl⟩ ⟨Nat.zero_le _, Nat.zero_le _⟩ rfl rfl (Nat.le_of_ble_eq_true rfl) dL_isStep_297 300 rfl (fun u9 hu9 => ?_)
        show Z K 0 0 [wO K.g x a (uPush S (un (sSt S) wh vv) (sR S) (sN S)) J2_2, wO K.g y b (uPush T (un (sSt T) wh (2 * vv)) (sR T) (sN T)) J2_11] [(0, .ref (x 0)), (1, .ref (y 0)), (2, .int v), (3, .int w), (4, .int z), (5, .int (nI (sN S))), (6, .int (nI jb)), (7, .int (nI pl)), (8, .int (nI sh)), (9, .int (nI hu)), (10, .int (nI du)), (11, .int (nI wh)), (12, .int (nI vv)), (13, .int (nI had)), (14, .int (nI told))] 300 [.int (tw (nI told)), .int (nI ((sSt T) wh))]
        refine z_goto C 305 dL_isStep_300 (by decide) ?_
        refine z_icmpI_ne C 351 dL_isStep_305 (by decide) 308 rfl (fun c_13 => absurd (show (nI ((sSt T) wh) : Int32) = tw (nI told) from (by rw [etold, tw_nI (by omega), hds.1 wh (by omega)])) c_13) (fun c_13 => ?_)
        refine z_iload C 14 rfl dL_isStep_308 310 rfl ?_
        refine z_bipush C (v := (-5)) rfl dL_isStep_310 312 rfl ?_
        refine z_icmpI_ne C 329 dL_isStep_312 (by decide) 315 rfl (fun c_14 => ?_) (fun c_14 => absurd (show (nI told : Int32) = (-5) from c_14) (nI_n5 (by omega)))
        refine z_iload C 14 rfl dL_isStep_329 331 rfl ?_
        refine z_iload C 13 rfl dL_isStep_331 333 rfl ?_
        refine z_icmpI_ne C 351 dL_isStep_333 (by decide) 336 rfl (fun c_15 => absurd (show (nI told : Int32) = nI had from (congrArg nI (by omega))) c_15) (fun c_15 => ?_)
        refine z_aload_n C 0 rfl rfl dL_isStep_336 337 rfl ?_
        refine z_iload C 11 rfl dL_isStep_337 339 rfl ?_
        refine z_callV C [.int (nI wh)] [] (tO_count K.l K.g x a (uPush S (un (sSt S) wh vv) (sR S) (sN S)) J2_2 wh hI2 (by first | omega | assumption)) gL_isStep_X4_count rfl rfl rfl hdX4_count ⟨Nat.le_of_ble_eq_true rfl, Nat.le_of_ble_eq_true rfl⟩ ⟨Nat.zero_le _, Nat.zero_le _⟩ 0 0 rfl rfl rfl [0] rfl rfl (zlc (N := 2) rfl rfl) [2, 1] rfl (by decide) (fun J2 : oJ => [wO K.g x a (uPush S (un (sSt S) wh vv) (sR S) (sN S)) J2, wO K.g y b (uPush T (un (sSt T) wh (2 * vv)) (sR T) (sN T)) J2_11]) (fun _ => rfl) rfl rfl (Nat.le_of_ble_eq_true rfl) dL_isStep_339 342 rfl (fun u9 hu9 => ?_)
        obtain ⟨J2_16, rfl⟩ : ∃ z, z = u9 := ⟨_, rfl⟩
        show Z K 0 0 [wO K.g x a (uPush S (un (sSt S) wh vv) (sR S) (sN S)) J2_16, wO K.g y b (uPush T (un (sSt T) wh (2 * vv)) (sR T) (sN T)) J2_11] [(0, .ref (x 0)), (1, .ref (y 0)), (2, .int v), (3, .int w), (4, .int z), (5, .int (nI (sN S))), (6, .int (nI jb)), (7, .int (nI pl)), (8, .int (nI sh)), (9, .int (nI hu)), (10, .int (nI du)), (11, .int (nI wh)), (12, .int (nI vv)), (13, .int (nI had)), (14, .int (nI told))] 342 [.int (nI (CN (sSt (uPush S (un (sSt S) wh vv) (sR S) (sN S))) (sR (uPush S (un (sSt S) wh vv) (sR S) (sN S))) (sN (uPush S (un (sSt S) wh vv) (sR S) (sN S))) (sLen (uPush S (un (sSt S) wh vv) (sR S) (sN S))) (sKp (uPush S (un (sSt S) wh vv) (sR S) (sN S))) wh))]
        refine z_top (show (nI (CN (sSt (uPush S (un (sSt S) wh vv) (sR S) (sN S))) (sR (uPush S (un (sSt S) wh vv) (sR S) (sN S))) (sN (uPush S (un (sSt S) wh vv) (sR S) (sN S))) (sLen (uPush S (un (sSt S) wh vv) (sR S) (sN S))) (sKp (uPush S (un (sSt S) wh vv) (sR S) (sN S))) wh) : Int32) = nI vv from (congrArg nI ((CN_st hu_wh).trans (show un (sSt S) wh vv wh = vv from un_s)))) ?_
        refine z_iload C 12 rfl dL_isStep_342 344 rfl ?_
        refine z_icmpI_ne C 351 dL_isStep_344 (by decide) 347 rfl (fun c_17 => absurd (show (nI vv : Int32) = nI vv from rfl) c_17) (fun c_17 => ?_)
        refine z_iconst C (v := nI 1) rfl dL_isStep_347 348 rfl ?_
        refine z_goto C 352 dL_isStep_348 (by decide) ?_
        refine z_eq (st2 := [.int (bI true)]) ?_ rfl rfl rfl
        exact z_bret C hRx dL_isStep_352 (uPush S (un (sSt S) wh vv) (sR S) (sN S), J2_16, uPush T (un (sSt T) wh (2 * vv)) (sR T) (sN T), J2_11) rfl (⟨hI2, hIT2, hRel2⟩) rfl
    · skip
      refine z_aload_n C 0 rfl rfl dL_isStep_258 259 rfl ?_
      refine z_iload C 11 rfl dL_isStep_259 261 rfl ?_
      refine z_iload C 12 rfl dL_isStep_261 263 rfl ?_
      refine z_callVE (E := eSet) (fun _ _ _ e e2 h => eSet.same e e2 h) (fun _ _ _ hS9 hW9 hAB => eSet.later heSet hS9 hW9 hAB) C [.int (nI wh), .int (nI vv)] [] (tO_set_np K.l K.g x a S J2_1 wh vv hI (by omega) hv.1 hv.2.1 (Nat.lt_of_not_le hq0)) gL_isStep_X4_set rfl rfl rfl hdX4_set ⟨Nat.le_of_ble_eq_true rfl, Nat.le_of_ble_eq_true rfl⟩ ⟨Nat.zero_le _, Nat.zero_le _⟩ 0 0 rfl rfl rfl [0] rfl rfl (zlc (N := 2) rfl rfl) [2, 1] rfl (by decide) (fun J2 : oJ => [wO K.g x a S J2, wO K.g y b T Jp]) (fun _ => rfl) rfl rfl (Nat.le_of_ble_eq_true rfl) dL_isStep_263 266 rfl (fun u9 hu9 => ?_)
      obtain ⟨J2_18, rfl⟩ : ∃ z, z = u9 := ⟨_, rfl⟩
      show Z K 0 0 [wO K.g x a S J2_18, wO K.g y b T Jp] [(0, .ref (x 0)), (1, .ref (y 0)), (2, .int v), (3, .int w), (4, .int z), (5, .int (nI (sN S))), (6, .int (nI jb)), (7, .int (nI pl)), (8, .int (nI sh)), (9, .int (nI hu)), (10, .int (nI du)), (11, .int (nI wh)), (12, .int (nI vv)), (13, .int (nI had))] 266 [.int (-5)]
      refine z_istore C hnL [1, 2, 3, 4, 5, 6, 7, 8, 9, 10, 11, 12, 13, 14, 0] [(0, .ref (x 0)), (1, .ref (y 0)), (2, .int v), (3, .int w), (4, .int z), (5, .int (nI (sN S))), (6, .int (nI jb)), (7, .int (nI pl)), (8, .int (nI sh)), (9, .int (nI hu)), (10, .int (nI du)), (11, .int (nI wh)), (12, .int (nI vv)), (13, .int (nI had)), (14, .int (-5))] rfl (Nat.le_of_ble_eq_true rfl) dL_isStep_266 268 rfl ?_
      refine z_aload_n C 1 rfl rfl dL_isStep_268 269 rfl ?_
      refine z_iload C 11 rfl dL_isStep_269 271 rfl ?_
      refine z_iload C 11 rfl dL_isStep_271 273 rfl ?_
      refine z_iconst C (v := nI 5) rfl dL_isStep_273 274 rfl ?_
      refine z_icmp_ge C (by omega) (by omega) 284 dL_isStep_274 (by decide) 277 rfl (fun c_19 => ?_) (fun c_19 => ?_)
      · skip
        refine z_iload C 12 rfl dL_isStep_284 286 rfl ?_
        have hds2 : dS (un (sSt S) wh vv) (un (sSt T) wh (vv)) := dS_un2 hds (by omega) (by omega)
        have hse := set_eq hN hds2 hdr
        refine z_callVE (E := eSet) (fun _ _ _ e e2 h => eSet.same e e2 h) (fun _ _ _ hS9 hW9 hAB => eSet.later heSet hS9 hW9 hAB) C [.int (nI wh), .int (nI vv)] [] (tO_set_np K.l K.g y b T Jp wh vv hIT (by omega) hv.1 hv.2.1 (by rw [hse.1, hse.2]; exact Nat.lt_of_not_le hq0)) gL_isStep_X4_set rfl rfl rfl hdX4_set ⟨Nat.le_of_ble_eq_true rfl, Nat.le_of_ble_eq_true rfl⟩ ⟨Nat.zero_le _, Nat.zero_le _⟩ 1 0 rfl rfl rfl [1] rfl rfl (zlc (N := 2) rfl rfl) [0, 2] rfl (by decide) (fun J2 : oJ => [wO K.g x a S J2_18, wO K.g y b T J2]) (fun _ => rfl) rfl rfl (Nat.le_of_ble_eq_true rfl) dL_isStep_286 289 rfl (fun u9 hu9 => ?_)
        obtain ⟨J2_20, rfl⟩ : ∃ z, z = u9 := ⟨_, rfl⟩
        show Z K 0 0 [wO K.g x a S J2_18, wO K.g y b T J2_20] [(0, .ref (x 0)), (1, .ref (y 0)), (2, .int v), (3, .int w), (4, .int z), (5, .int (nI (sN S))), (6, .int (nI jb)), (7, .int (nI pl)), (8, .int (nI sh)), (9, .int (nI hu)), (10, .int (nI du)), (11, .int (nI wh)), (12, .int (nI vv)), (13, .int (nI had)), (14, .int (-5))] 289 [.int (-5)]
        refine z_iload C 11 rfl dL_isStep_289 291 rfl ?_
        refine z_iconst C (v := nI 5) rfl dL_isStep_291 292 rfl ?_
        refine z_icmp_ge C (by omega) (by omega) 303 dL_isStep_292 (by decide) 295 rfl (fun c_21 => ?_) (fun c_21 => ?_)
        rotate_left
        · exfalso; omega
        refine z_iload C 14 rfl dL_isStep_303 305 rfl ?_
        refine z_icmpI_ne C 351 dL_isStep_305 (by decide) 308 rfl (fun c_22 => absurd (show ((-5) : Int32) = (-5) from rfl) c_22) (fun c_22 => ?_)
        refine z_iload C 14 rfl dL_isStep_308 310 rfl ?_
        refine z_bipush C (v := (-5)) rfl dL_isStep_310 312 rfl ?_
        refine z_icmpI_ne C 329 dL_isStep_312 (by decide) 315 rfl (fun c_23 => absurd (show ((-5) : Int32) = (-5) from rfl) c_23) (fun c_23 => ?_)
        refine z_aload_n C 0 rfl rfl dL_isStep_315 316 rfl ?_
        refine z_iload C 11 rfl dL_isStep_316 318 rfl ?_
        refine z_callV C [.int (nI wh)] [] (tO_count K.l K.g x a S J2_18 wh hI (by first | omega | assumption)) gL_isStep_X4_count rfl rfl rfl hdX4_count ⟨Nat.le_of_ble_eq_true rfl, Nat.le_of_ble_eq_true rfl⟩ ⟨Nat.zero_le _, Nat.zero_le _⟩ 0 0 rfl rfl rfl [0] rfl rfl (zlc (N := 2) rfl rfl) [2, 1] rfl (by decide) (fun J2 : oJ => [wO K.g x a S J2, wO K.g y b T J2_20]) (fun _ => rfl) rfl rfl (Nat.le_of_ble_eq_true rfl) dL_isStep_318 321 rfl (fun u9 hu9 => ?_)
        obtain ⟨J2_24, rfl⟩ : ∃ z, z = u9 := ⟨_, rfl⟩
        show Z K 0 0 [wO K.g x a S J2_24, wO K.g y b T J2_20] [(0, .ref (x 0)), (1, .ref (y 0)), (2, .int v), (3, .int w), (4, .int z), (5, .int (nI (sN S))), (6, .int (nI jb)), (7, .int (nI pl)), (8, .int (nI sh)), (9, .int (nI hu)), (10, .int (nI du)), (11, .int (nI wh)), (12, .int (nI vv)), (13, .int (nI had)), (14, .int (-5))] 321 [.int (nI (CN (sSt S) (sR S) (sN S) (sLen S) (sKp S) wh))]
        refine z_top (show (nI (CN (sSt S) (sR S) (sN S) (sLen S) (sKp S) wh) : Int32) = nI (sSt S wh) from (congrArg nI (CN_st hu_wh))) ?_
        refine z_iload C 13 rfl dL_isStep_321 323 rfl ?_
        refine z_icmpI_ne C 351 dL_isStep_323 (by decide) 326 rfl (fun c_25 => absurd (show (nI (sSt S wh) : Int32) = nI had from (congrArg nI (by omega))) c_25) (fun c_25 => ?_)
        refine z_goto C 347 dL_isStep_326 (by decide) ?_
        refine z_iconst C (v := nI 1) rfl dL_isStep_347 348 rfl ?_
        refine z_goto C 352 dL_isStep_348 (by decide) ?_
        refine z_eq (st2 := [.int (bI true)]) ?_ rfl rfl rfl
        exact z_bret C hRx dL_isStep_352 (S, J2_24, T, J2_20) rfl (⟨hI, hIT, hRel⟩) rfl
      · skip
        refine z_iconst C (v := nI 2) rfl dL_isStep_277 278 rfl ?_
        refine z_iload C 12 rfl dL_isStep_278 280 rfl ?_
        refine z_imul C dL_isStep_280 281 rfl ?_
        refine z_goto C 286 dL_isStep_281 (by decide) ?_
        have hds2 : dS (un (sSt S) wh vv) (un (sSt T) wh (2 * vv)) := dS_un1 hds (by omega)
        have hse := set_eq hN hds2 hdr
        refine z_callVE (E := eSet) (fun _ _ _ e e2 h => eSet.same e e2 h) (fun _ _ _ hS9 hW9 hAB => eSet.later heSet hS9 hW9 hAB) C [.int (nI wh), .int (nI (2 * vv))] [] (tO_set_np K.l K.g y b T Jp wh (2 * vv) hIT (by omega) (hv.2.2 (by omega)).1 (hv.2.2 (by omega)).2 (by rw [hse.1, hse.2]; exact Nat.lt_of_not_le hq0)) gL_isStep_X4_set rfl rfl rfl hdX4_set ⟨Nat.le_of_ble_eq_true rfl, Nat.le_of_ble_eq_true rfl⟩ ⟨Nat.zero_le _, Nat.zero_le _⟩ 1 0 rfl rfl rfl [1] rfl rfl (zlc (N := 2) rfl rfl) [0, 2] rfl (by decide) (fun J2 : oJ => [wO K.g x a S J2_18, wO K.g y b T J2]) (fun _ => rfl) rfl rfl (Nat.le_of_ble_eq_true rfl) dL_isStep_286 289 rfl (fun u9 hu9 => ?_)
        obtain ⟨J2_26, rfl⟩ : ∃ z, z = u9 := ⟨_, rfl⟩
        show Z K 0 0 [wO K.g x a S J2_18, wO K.g y b T J2_26] [(0, .ref (x 0)), (1, .ref (y 0)), (2, .int v), (3, .int w), (4, .int z), (5, .int (nI (sN S))), (6, .int (nI jb)), (7, .int (nI pl)), (8, .int (nI sh)), (9, .int (nI hu)), (10, .int (nI du)), (11, .int (nI wh)), (12, .int (nI vv)), (13, .int (nI had)), (14, .int (-5))] 289 [.int (-5)]
        refine z_iload C 11 rfl dL_isStep_289 291 rfl ?_
        refine z_iconst C (v := nI 5) rfl dL_isStep_291 292 rfl ?_
        refine z_icmp_ge C (by omega) (by omega) 303 dL_isStep_292 (by decide) 295 rfl (fun c_27 => ?_) (fun c_27 => ?_)
        · exfalso; omega
        refine z_iload C 14 rfl dL_isStep_295 297 rfl ?_
        refine z_callP C [.int (-5)] [.int (-5)] (tL_twice K.l K.g (-5) ) gL_isStep_L_twice rfl rfl rfl hdL_twice ⟨Nat.le_of_ble_eq_true rfl, Nat.le_of_ble_eq_true rfl⟩ ⟨Nat.zero_le _, Nat.zero_le _⟩ rfl rfl (Nat.le_of_ble_eq_true rfl) dL_isStep_297 300 rfl (fun u9 hu9 => ?_)
        show Z K 0 0 [wO K.g x a S J2_18, wO K.g y b T J2_26] [(0, .ref (x 0)), (1, .ref (y 0)), (2, .int v), (3, .int w), (4, .int z), (5, .int (nI (sN S))), (6, .int (nI jb)), (7, .int (nI pl)), (8, .int (nI sh)), (9, .int (nI hu)), (10, .int (nI du)), (11, .int (nI wh)), (12, .int (nI vv)), (13, .int (nI had)), (14, .int (-5))] 300 [.int (tw (-5)), .int (-5)]
        refine z_goto C 305 dL_isStep_300 (by decide) ?_
        refine z_icmpI_ne C 351 dL_isStep_305 (by decide) 308 rfl (fun c_28 => absurd (show ((-5) : Int32) = tw (-5) from (tw_neg (by decide)).symm) c_28) (fun c_28 => ?_)
        refine z_iload C 14 rfl dL_isStep_308 310 rfl ?_
        refine z_bipush C (v := (-5)) rfl dL_isStep_310 312 rfl ?_
        refine z_icmpI_ne C 329 dL_isStep_312 (by decide) 315 rfl (fun c_29 => absurd (show ((-5) : Int32) = (-5) from rfl) c_29) (fun c_29 => ?_)
        refine z_aload_n C 0 rfl rfl dL_isStep_315 316 rfl ?_
        refine z_iload C 11 rfl dL_isStep_316 318 rfl ?_
        refine z_callV C [.int (nI wh)] [] (tO_count K.l K.g x a S J2_18 wh hI (by first | omega | assumption)) gL_isStep_X4_count rfl rfl rfl hdX4_count ⟨Nat.le_of_ble_eq_true rfl, Nat.le_of_ble_eq_true rfl⟩ ⟨Nat.zero_le _, Nat.zero_le _⟩ 0 0 rfl rfl rfl [0] rfl rfl (zlc (N := 2) rfl rfl) [2, 1] rfl (by decide) (fun J2 : oJ => [wO K.g x a S J2, wO K.g y b T J2_26]) (fun _ => rfl) rfl rfl (Nat.le_of_ble_eq_true rfl) dL_isStep_318 321 rfl (fun u9 hu9 => ?_)
        obtain ⟨J2_30, rfl⟩ : ∃ z, z = u9 := ⟨_, rfl⟩
        show Z K 0 0 [wO K.g x a S J2_30, wO K.g y b T J2_26] [(0, .ref (x 0)), (1, .ref (y 0)), (2, .int v), (3, .int w), (4, .int z), (5, .int (nI (sN S))), (6, .int (nI jb)), (7, .int (nI pl)), (8, .int (nI sh)), (9, .int (nI hu)), (10, .int (nI du)), (11, .int (nI wh)), (12, .int (nI vv)), (13, .int (nI had)), (14, .int (-5))] 321 [.int (nI (CN (sSt S) (sR S) (sN S) (sLen S) (sKp S) wh))]
        refine z_top (show (nI (CN (sSt S) (sR S) (sN S) (sLen S) (sKp S) wh) : Int32) = nI (sSt S wh) from (congrArg nI (CN_st hu_wh))) ?_
        refine z_iload C 13 rfl dL_isStep_321 323 rfl ?_
        refine z_icmpI_ne C 351 dL_isStep_323 (by decide) 326 rfl (fun c_31 => absurd (show (nI (sSt S wh) : Int32) = nI had from (congrArg nI (by omega))) c_31) (fun c_31 => ?_)
        refine z_goto C 347 dL_isStep_326 (by decide) ?_
        refine z_iconst C (v := nI 1) rfl dL_isStep_347 348 rfl ?_
        refine z_goto C 352 dL_isStep_348 (by decide) ?_
        refine z_eq (st2 := [.int (bI true)]) ?_ rfl rfl rfl
        exact z_bret C hRx dL_isStep_352 (S, J2_30, T, J2_26) rfl (⟨hI, hIT, hRel⟩) rfl
  refine z_iload C 11 rfl dL_isStep_161 163 rfl ?_
  refine z_iconst C (v := nI 2) rfl dL_isStep_163 164 rfl ?_
  refine z_icmp_ge C (by omega) (by omega) 176 dL_isStep_164 (by decide) 167 rfl (fun c_32 => ?_) (fun c_32 => ?_)
  · skip
    refine z_iload C 11 rfl dL_isStep_176 178 rfl ?_
    refine z_iconst C (v := nI 2) rfl dL_isStep_178 179 rfl ?_
    refine z_icmp_ne C (by omega) (by omega) 190 dL_isStep_179 (by decide) 182 rfl (fun c_33 => ?_) (fun c_33 => ?_)
    · skip
      refine z_iload C 11 rfl dL_isStep_190 192 rfl ?_
      refine z_iconst C (v := nI 3) rfl dL_isStep_192 193 rfl ?_
      refine z_icmp_ne C (by omega) (by omega) 207 dL_isStep_193 (by decide) 196 rfl (fun c_34 => ?_) (fun c_34 => ?_)
      · skip
        refine z_iload C 11 rfl dL_isStep_207 209 rfl ?_
        refine z_iconst C (v := nI 4) rfl dL_isStep_209 210 rfl ?_
        refine z_icmp_ne C (by omega) (by omega) 223 dL_isStep_210 (by decide) 213 rfl (fun c_35 => ?_) (fun c_35 => ?_)
        · skip
          refine z_iload C 11 rfl dL_isStep_223 225 rfl ?_
          refine z_iconst C (v := nI 5) rfl dL_isStep_225 226 rfl ?_
          refine z_icmp_ne C (by omega) (by omega) 240 dL_isStep_226 (by decide) 229 rfl (fun c_36 => ?_) (fun c_36 => ?_)
          · skip
            refine z_iconst C (v := nI 1) rfl dL_isStep_240 241 rfl ?_
            refine z_iload_n C 3 rfl rfl dL_isStep_241 242 rfl ?_
            refine z_bipush C (v := nI 10) rfl dL_isStep_242 244 rfl ?_
            refine z_callP C [.int w, .int (nI 10)] [.int (nI 1)] (tL_up K.l K.g w 10 (by decide) (by decide)) gL_isStep_L_up rfl rfl rfl hdL_up ⟨Nat.le_of_ble_eq_true rfl, Nat.le_of_ble_eq_true rfl⟩ ⟨Nat.zero_le _, Nat.zero_le _⟩ rfl rfl (Nat.le_of_ble_eq_true rfl) dL_isStep_244 247 rfl (fun u9 hu9 => ?_)
            show Z K 0 0 [wO K.g x a S J, wO K.g y b T Jp] [(0, .ref (x 0)), (1, .ref (y 0)), (2, .int v), (3, .int w), (4, .int z), (5, .int (nI (sN S))), (6, .int (nI jb)), (7, .int (nI pl)), (8, .int (nI sh)), (9, .int (nI hu)), (10, .int (nI du)), (11, .int (nI wh))] 247 [.int (nI (upN w 10)), .int (nI 1)]
            refine z_nm (fun u1 eu1 => ?_)
            have hu_u1 : u1 < 10 := by rw [eu1]; exact upN_lt (by decide)
            refine z_iadd C dL_isStep_247 248 rfl ?_
            exact jns (1 + u1) (setR_mk (by omega))
          · skip
            refine z_iconst C (v := nI 4) rfl dL_isStep_229 230 rfl ?_
            refine z_iload_n C 3 rfl rfl dL_isStep_230 231 rfl ?_
            refine z_bipush C (v := nI 17) rfl dL_isStep_231 233 rfl ?_
            refine z_callP C [.int w, .int (nI 17)] [.int (nI 4)] (tL_up K.l K.g w 17 (by decide) (by decide)) gL_isStep_L_up rfl rfl rfl hdL_up ⟨Nat.le_of_ble_eq_true rfl, Nat.le_of_ble_eq_true rfl⟩ ⟨Nat.zero_le _, Nat.zero_le _⟩ rfl rfl (Nat.le_of_ble_eq_true rfl) dL_isStep_233 236 rfl (fun u9 hu9 => ?_)
            show Z K 0 0 [wO K.g x a S J, wO K.g y b T Jp] [(0, .ref (x 0)), (1, .ref (y 0)), (2, .int v), (3, .int w), (4, .int z), (5, .int (nI (sN S))), (6, .int (nI jb)), (7, .int (nI pl)), (8, .int (nI sh)), (9, .int (nI hu)), (10, .int (nI du)), (11, .int (nI wh))] 236 [.int (nI (upN w 17)), .int (nI 4)]
            refine z_nm (fun u1 eu1 => ?_)
            have hu_u1 : u1 < 17 := by rw [eu1]; exact upN_lt (by decide)
            refine z_iadd C dL_isStep_236 237 rfl ?_
            refine z_goto C 248 dL_isStep_237 (by decide) ?_
            exact jns (4 + u1) (setR_mk (by omega))
        · skip
          refine z_iload_n C 3 rfl rfl dL_isStep_213 214 rfl ?_
          refine z_sipush C (v := nI 251) rfl dL_isStep_214 217 rfl ?_
          refine z_callP C [.int w, .int (nI 251)] [] (tL_up K.l K.g w 251 (by decide) (by decide)) gL_isStep_L_up rfl rfl rfl hdL_up ⟨Nat.le_of_ble_eq_true rfl, Nat.le_of_ble_eq_true rfl⟩ ⟨Nat.zero_le _, Nat.zero_le _⟩ rfl rfl (Nat.le_of_ble_eq_true rfl) dL_isStep_217 220 rfl (fun u9 hu9 => ?_)
          show Z K 0 0 [wO K.g x a S J, wO K.g y b T Jp] [(0, .ref (x 0)), (1, .ref (y 0)), (2, .int v), (3, .int w), (4, .int z), (5, .int (nI (sN S))), (6, .int (nI jb)), (7, .int (nI pl)), (8, .int (nI sh)), (9, .int (nI hu)), (10, .int (nI du)), (11, .int (nI wh))] 220 [.int (nI (upN w 251))]
          refine z_nm (fun u1 eu1 => ?_)
          have hu_u1 : u1 < 251 := by rw [eu1]; exact upN_lt (by decide)
          refine z_goto C 248 dL_isStep_220 (by decide) ?_
          exact jns u1 (setR_mk (by omega))
      · skip
        refine z_iconst C (v := nI 1) rfl dL_isStep_196 197 rfl ?_
        refine z_iload_n C 3 rfl rfl dL_isStep_197 198 rfl ?_
        refine z_bipush C (v := nI 10) rfl dL_isStep_198 200 rfl ?_
        refine z_callP C [.int w, .int (nI 10)] [.int (nI 1)] (tL_up K.l K.g w 10 (by decide) (by decide)) gL_isStep_L_up rfl rfl rfl hdL_up ⟨Nat.le_of_ble_eq_true rfl, Nat.le_of_ble_eq_true rfl⟩ ⟨Nat.zero_le _, Nat.zero_le _⟩ rfl rfl (Nat.le_of_ble_eq_true rfl) dL_isStep_200 203 rfl (fun u9 hu9 => ?_)
        show Z K 0 0 [wO K.g x a S J, wO K.g y b T Jp] [(0, .ref (x 0)), (1, .ref (y 0)), (2, .int v), (3, .int w), (4, .int z), (5, .int (nI (sN S))), (6, .int (nI jb)), (7, .int (nI pl)), (8, .int (nI sh)), (9, .int (nI hu)), (10, .int (nI du)), (11, .int (nI wh))] 203 [.int (nI (upN w 10)), .int (nI 1)]
        refine z_nm (fun u1 eu1 => ?_)
        have hu_u1 : u1 < 10 := by rw [eu1]; exact upN_lt (by decide)
        refine z_iadd C dL_isStep_203 204 rfl ?_
        refine z_goto C 248 dL_isStep_204 (by decide) ?_
        exact jns (1 + u1) (setR_mk (by omega))
    · skip
      refine z_iload_n C 3 rfl rfl dL_isStep_182 183 rfl ?_
      refine z_iconst C (v := nI 5) rfl dL_isStep_183 184 rfl ?_
      refine z_callP C [.int w, .int (nI 5)] [] (tL_up K.l K.g w 5 (by decide) (by decide)) gL_isStep_L_up rfl rfl rfl hdL_up ⟨Nat.le_of_ble_eq_true rfl, Nat.le_of_ble_eq_true rfl⟩ ⟨Nat.zero_le _, Nat.zero_le _⟩ rfl rfl (Nat.le_of_ble_eq_true rfl) dL_isStep_184 187 rfl (fun u9 hu9 => ?_)
      show Z K 0 0 [wO K.g x a S J, wO K.g y b T Jp] [(0, .ref (x 0)), (1, .ref (y 0)), (2, .int v), (3, .int w), (4, .int z), (5, .int (nI (sN S))), (6, .int (nI jb)), (7, .int (nI pl)), (8, .int (nI sh)), (9, .int (nI hu)), (10, .int (nI du)), (11, .int (nI wh))] 187 [.int (nI (upN w 5))]
      refine z_nm (fun u1 eu1 => ?_)
      have hu_u1 : u1 < 5 := by rw [eu1]; exact upN_lt (by decide)
      refine z_goto C 248 dL_isStep_187 (by decide) ?_
      exact jns u1 (setR_mk (by omega))
  · skip
    refine z_iload_n C 3 rfl rfl dL_isStep_167 168 rfl ?_
    refine z_bipush C (v := nI 31) rfl dL_isStep_168 170 rfl ?_
    refine z_callP C [.int w, .int (nI 31)] [] (tL_up K.l K.g w 31 (by decide) (by decide)) gL_isStep_L_up rfl rfl rfl hdL_up ⟨Nat.le_of_ble_eq_true rfl, Nat.le_of_ble_eq_true rfl⟩ ⟨Nat.zero_le _, Nat.zero_le _⟩ rfl rfl (Nat.le_of_ble_eq_true rfl) dL_isStep_170 173 rfl (fun u9 hu9 => ?_)
    show Z K 0 0 [wO K.g x a S J, wO K.g y b T Jp] [(0, .ref (x 0)), (1, .ref (y 0)), (2, .int v), (3, .int w), (4, .int z), (5, .int (nI (sN S))), (6, .int (nI jb)), (7, .int (nI pl)), (8, .int (nI sh)), (9, .int (nI hu)), (10, .int (nI du)), (11, .int (nI wh))] 173 [.int (nI (upN w 31))]
    refine z_nm (fun u1 eu1 => ?_)
    have hu_u1 : u1 < 31 := by rw [eu1]; exact upN_lt (by decide)
    refine z_goto C 248 dL_isStep_173 (by decide) ?_
    exact jns u1 (setR_mk (by omega))

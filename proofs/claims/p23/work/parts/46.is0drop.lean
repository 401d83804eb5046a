/-! IS: drop -/
set_option maxHeartbeats 4000000 in
set_option maxRecDepth 100000 in
theorem is_drop {K : zK} {A : Nat → Prop} (C : Cx K ({ frames := 8, cells := 0, slots := 0, locals := 175 } : Room) RL cL_isStep wsL_isStep) (hnL : K.nL = 17) (x : Nat → Nat) (a : oA) (S : oS) (J : oJ) (y : Nat → Nat) (b : oA) (T : oS) (Jp : oJ) (v w z : Int32) (jb pl sh hu du : Nat) (hRx : RS K x a y b A) (hE : eAll K.A K.s) (hI : INV S) (hIT : INV T) (hRel : REL S T 6) (hjb : (sN S = 0 ∧ jb = 0) ∨ jb < sN S) (hpl : pl ≤ 3) (hsh : sh ≤ 9) (hu1 : 1 ≤ hu) (hu2 : hu ≤ 20) (hdu : du ≤ 1500) : Z K 0 0 [wO K.g x a S J, wO K.g y b T Jp] [(0, .ref (x 0)), (1, .ref (y 0)), (2, .int v), (3, .int w), (4, .int z), (5, .int (nI (sN S))), (6, .int (nI jb)), (7, .int (nI pl)), (8, .int (nI sh)), (9, .int (nI hu)), (10, .int (nI du))] 353 [] := by
  have heAll := hE
  obtain ⟨heSet, heOrd⟩ := hE
  obtain ⟨hn, hS, hJ, hR⟩ := id hI.1
  obtain ⟨⟨hN, hds, hdr⟩, hkp, hnx, hhi, hsl⟩ := id hRel
  have h5b := hS.2.2.2.2.2.2.2.1
  have h6b := hS.2.2.2.2.2.2.2.2
  by_cases hq0 : sN S = 0
  · skip
    refine z_aload_n C 0 rfl rfl dL_isStep_353 354 rfl ?_
    refine z_iload C 6 rfl dL_isStep_354 356 rfl ?_
    refine z_callV C [.int (nI jb)] [] (tO_drop_ns K.l K.g x a S J (nI jb) hI (by rw [hq0, show jb = 0 by omega]; rfl)) gL_isStep_X4_drop rfl rfl rfl hdX4_drop ⟨Nat.le_of_ble_eq_true rfl, Nat.le_of_ble_eq_true rfl⟩ ⟨Nat.zero_le _, Nat.zero_le _⟩ 0 0 rfl rfl rfl [0] rfl rfl (zlc (N := 2) rfl rfl) [2, 1] rfl (by decide) (fun J2 : oJ => [wO K.g x a S J2, wO K.g y b T Jp]) (fun _ => rfl) rfl rfl (Nat.le_of_ble_eq_true rfl) dL_isStep_356 359 rfl (fun u9 hu9 => ?_)
    obtain ⟨J2_1, rfl⟩ : ∃ z, z = u9 := ⟨_, rfl⟩
    show Z K 0 0 [wO K.g x a S J2_1, wO K.g y b T Jp] [(0, .ref (x 0)), (1, .ref (y 0)), (2, .int v), (3, .int w), (4, .int z), (5, .int (nI (sN S))), (6, .int (nI jb)), (7, .int (nI pl)), (8, .int (nI sh)), (9, .int (nI hu)), (10, .int (nI du))] 359 [.int (-1)]
    refine z_istore C hnL [1, 2, 3, 4, 5, 6, 7, 8, 9, 10, 11, 0] [(0, .ref (x 0)), (1, .ref (y 0)), (2, .int v), (3, .int w), (4, .int z), (5, .int (nI (sN S))), (6, .int (nI jb)), (7, .int (nI pl)), (8, .int (nI sh)), (9, .int (nI hu)), (10, .int (nI du)), (11, .int (-1))] rfl (Nat.le_of_ble_eq_true rfl) dL_isStep_359 361 rfl ?_
    refine z_iload C 11 rfl dL_isStep_361 363 rfl ?_
    refine z_aload_n C 1 rfl rfl dL_isStep_363 364 rfl ?_
    refine z_iload C 6 rfl dL_isStep_364 366 rfl ?_
    refine z_callV C [.int (nI jb)] [.int (-1)] (tO_drop_ns K.l K.g y b T Jp (nI jb) hIT (by rw [hN, hq0, show jb = 0 by omega]; rfl)) gL_isStep_X4_drop rfl rfl rfl hdX4_drop ⟨Nat.le_of_ble_eq_true rfl, Nat.le_of_ble_eq_true rfl⟩ ⟨Nat.zero_le _, Nat.zero_le _⟩ 1 0 rfl rfl rfl [1] rfl rfl (zlc (N := 2) rfl rfl) [0, 2] rfl (by decide) (fun J2 : oJ => [wO K.g x a S J2_1, wO K.g y b T J2]) (fun _ => rfl) rfl rfl (Nat.le_of_ble_eq_true rfl) dL_isStep_366 369 rfl (fun u9 hu9 => ?_)
    obtain ⟨J2_2, rfl⟩ : ∃ z, z = u9 := ⟨_, rfl⟩
    show Z K 0 0 [wO K.g x a S J2_1, wO K.g y b T J2_2] [(0, .ref (x 0)), (1, .ref (y 0)), (2, .int v), (3, .int w), (4, .int z), (5, .int (nI (sN S))), (6, .int (nI jb)), (7, .int (nI pl)), (8, .int (nI sh)), (9, .int (nI hu)), (10, .int (nI du)), (11, .int (-1))] 369 [.int (-1), .int (-1)]
    refine z_icmpI_ne C 394 dL_isStep_369 (by decide) 372 rfl (fun c_3 => absurd (show ((-1) : Int32) = (-1) from rfl) c_3) (fun c_3 => ?_)
    refine z_iload C 11 rfl dL_isStep_372 374 rfl ?_
    refine z_iload C 5 rfl dL_isStep_374 376 rfl ?_
    refine z_if_ne C (by omega) 383 dL_isStep_376 (by decide) 379 rfl (fun c_4 => ?_) (fun c_4 => ?_)
    · exfalso; omega
    refine z_iconst C (v := (-1)) rfl dL_isStep_379 380 rfl ?_
    refine z_goto C 387 dL_isStep_380 (by decide) ?_
    refine z_icmpI_ne C 394 dL_isStep_387 (by decide) 390 rfl (fun c_5 => absurd (show ((-1) : Int32) = (-1) from rfl) c_5) (fun c_5 => ?_)
    refine z_iconst C (v := nI 1) rfl dL_isStep_390 391 rfl ?_
    refine z_goto C 395 dL_isStep_391 (by decide) ?_
    refine z_eq (st2 := [.int (bI true)]) ?_ rfl rfl rfl
    exact z_bret C hRx dL_isStep_395 (S, J2_1, T, J2_2) rfl (⟨hI, hIT, hRel⟩) rfl
  · skip
    refine z_aload_n C 0 rfl rfl dL_isStep_353 354 rfl ?_
    refine z_iload C 6 rfl dL_isStep_354 356 rfl ?_
    refine z_callV C [.int (nI jb)] [] (tO_drop_ok K.l K.g x a S J jb hI (by omega)) gL_isStep_X4_drop rfl rfl rfl hdX4_drop ⟨Nat.le_of_ble_eq_true rfl, Nat.le_of_ble_eq_true rfl⟩ ⟨Nat.zero_le _, Nat.zero_le _⟩ 0 0 rfl rfl rfl [0] rfl rfl (zlc (N := 2) rfl rfl) [2, 1] rfl (by decide) (fun J2 : oJ => [wO K.g x a (uPush S (sSt S) (fun k => shf (sR S k) jb (sN S - 1)) (sN S - 1)) J2, wO K.g y b T Jp]) (fun _ => rfl) rfl rfl (Nat.le_of_ble_eq_true rfl) dL_isStep_356 359 rfl (fun u9 hu9 => ?_)
    obtain ⟨J2_6, rfl⟩ : ∃ z, z = u9 := ⟨_, rfl⟩
    show Z K 0 0 [wO K.g x a (uPush S (sSt S) (fun k => shf (sR S k) jb (sN S - 1)) (sN S - 1)) J2_6, wO K.g y b T Jp] [(0, .ref (x 0)), (1, .ref (y 0)), (2, .int v), (3, .int w), (4, .int z), (5, .int (nI (sN S))), (6, .int (nI jb)), (7, .int (nI pl)), (8, .int (nI sh)), (9, .int (nI hu)), (10, .int (nI du))] 359 [.int (nI ((sN S) - 1))]
    refine z_top (show (nI ((sN S) - 1) : Int32) = nI (sN S - 1) from rfl) ?_
    refine z_nm (fun told etold => ?_)
    refine z_istore C hnL [1, 2, 3, 4, 5, 6, 7, 8, 9, 10, 11, 0] [(0, .ref (x 0)), (1, .ref (y 0)), (2, .int v), (3, .int w), (4, .int z), (5, .int (nI (sN S))), (6, .int (nI jb)), (7, .int (nI pl)), (8, .int (nI sh)), (9, .int (nI hu)), (10, .int (nI du)), (11, .int (nI told))] rfl (Nat.le_of_ble_eq_true rfl) dL_isStep_359 361 rfl ?_
    refine z_iload C 11 rfl dL_isStep_361 363 rfl ?_
    refine z_aload_n C 1 rfl rfl dL_isStep_363 364 rfl ?_
    refine z_iload C 6 rfl dL_isStep_364 366 rfl ?_
    refine z_callV C [.int (nI jb)] [.int (nI told)] (tO_drop_ok K.l K.g y b T Jp jb hIT (by omega)) gL_isStep_X4_drop rfl rfl rfl hdX4_drop ⟨Nat.le_of_ble_eq_true rfl, Nat.le_of_ble_eq_true rfl⟩ ⟨Nat.zero_le _, Nat.zero_le _⟩ 1 0 rfl rfl rfl [1] rfl rfl (zlc (N := 2) rfl rfl) [0, 2] rfl (by decide) (fun J2 : oJ => [wO K.g x a (uPush S (sSt S) (fun k => shf (sR S k) jb (sN S - 1)) (sN S - 1)) J2_6, wO K.g y b (uPush T (sSt T) (fun k => shf (sR T k) jb (sN T - 1)) (sN T - 1)) J2]) (fun _ => rfl) rfl rfl (Nat.le_of_ble_eq_true rfl) dL_isStep_366 369 rfl (fun u9 hu9 => ?_)
    obtain ⟨J2_7, rfl⟩ : ∃ z, z = u9 := ⟨_, rfl⟩
    show Z K 0 0 [wO K.g x a (uPush S (sSt S) (fun k => shf (sR S k) jb (sN S - 1)) (sN S - 1)) J2_6, wO K.g y b (uPush T (sSt T) (fun k => shf (sR T k) jb (sN T - 1)) (sN T - 1)) J2_7] [(0, .ref (x 0)), (1, .ref (y 0)), (2, .int v), (3, .int w), (4, .int z), (5, .int (nI (sN S))), (6, .int (nI jb)), (7, .int (nI pl)), (8, .int (nI sh)), (9, .int (nI hu)), (10, .int (nI du)), (11, .int (nI told))] 369 [.int (nI ((sN T) - 1)), .int (nI told)]
    have hj2 : jb < sN S := by omega
    have hj3 : jb < sN T := by omega
    have hI2 := INV_push hI (GB_drop hI.1 hj2)
    have hIT2 := INV_push hIT (GB_drop hIT.1 hj3)
    have hRel2 := REL_push6 hI hRel (DB_drop ⟨hN, hds, hdr⟩ hj2)
    refine z_icmpI_ne C 394 dL_isStep_369 (by decide) 372 rfl (fun c_8 => absurd (show (nI told : Int32) = nI ((sN T) - 1) from (congrArg nI (by omega))) c_8) (fun c_8 => ?_)
    refine z_iload C 11 rfl dL_isStep_372 374 rfl ?_
    refine z_iload C 5 rfl dL_isStep_374 376 rfl ?_
    refine z_if_ne C (by omega) 383 dL_isStep_376 (by decide) 379 rfl (fun c_9 => ?_) (fun c_9 => ?_)
    rotate_left
    · exfalso; omega
    refine z_iload C 5 rfl dL_isStep_383 385 rfl ?_
    refine z_iconst C (v := nI 1) rfl dL_isStep_385 386 rfl ?_
    refine z_isub C (by omega) dL_isStep_386 387 rfl ?_
    refine z_icmpI_ne C 394 dL_isStep_387 (by decide) 390 rfl (fun c_10 => absurd (show (nI told : Int32) = nI ((sN S) - 1) from (congrArg nI (by omega))) c_10) (fun c_10 => ?_)
    refine z_iconst C (v := nI 1) rfl dL_isStep_390 391 rfl ?_
    refine z_goto C 395 dL_isStep_391 (by decide) ?_
    refine z_eq (st2 := [.int (bI true)]) ?_ rfl rfl rfl
    exact z_bret C hRx dL_isStep_395 (uPush S (sSt S) (fun k => shf (sR S k) jb (sN S - 1)) (sN S - 1), J2_6, uPush T (sSt T) (fun k => shf (sR T k) jb (sN T - 1)) (sN T - 1), J2_7) rfl (⟨hI2, hIT2, hRel2⟩) rfl

/-! IS: due -/
set_option maxHeartbeats 4000000 in
set_option maxRecDepth 100000 in
theorem is_due {K : zK} {A : Nat → Prop} (C : Cx K ({ frames := 8, cells := 0, slots := 0, locals := 175 } : Room) RL cL_isStep wsL_isStep) (hnL : K.nL = 17) (x : Nat → Nat) (a : oA) (S : oS) (J : oJ) (y : Nat → Nat) (b : oA) (T : oS) (Jp : oJ) (v w z : Int32) (jb pl sh hu du : Nat) (hRx : RS K x a y b A) (hE : eAll K.A K.s) (hI : INV S) (hIT : INV T) (hRel : REL S T 6) (hjb : (sN S = 0 ∧ jb = 0) ∨ jb < sN S) (hpl : pl ≤ 3) (hsh : sh ≤ 9) (hu1 : 1 ≤ hu) (hu2 : hu ≤ 20) (hdu : du ≤ 1500) : Z K 0 0 [wO K.g x a S J, wO K.g y b T Jp] [(0, .ref (x 0)), (1, .ref (y 0)), (2, .int v), (3, .int w), (4, .int z), (5, .int (nI (sN S))), (6, .int (nI jb)), (7, .int (nI pl)), (8, .int (nI sh)), (9, .int (nI hu)), (10, .int (nI du))] 512 [] := by
  have heAll := hE
  obtain ⟨heSet, heOrd⟩ := hE
  obtain ⟨hn, hS, hJ, hR⟩ := id hI.1
  obtain ⟨⟨hN, hds, hdr⟩, hkp, hnx, hhi, hsl⟩ := id hRel
  have h5b := hS.2.2.2.2.2.2.2.1
  have h6b := hS.2.2.2.2.2.2.2.2
  by_cases hq0 : sN S = 0
  · skip
    refine z_aload_n C 0 rfl rfl dL_isStep_512 513 rfl ?_
    refine z_iload C 6 rfl dL_isStep_513 515 rfl ?_
    refine z_iload C 10 rfl dL_isStep_515 517 rfl ?_
    refine z_callV C [.int (nI jb), .int (nI du)] [] (tO_due_ns K.l K.g x a S J (nI jb) (nI du) hI (by rw [hq0, show jb = 0 by omega]; rfl)) gL_isStep_X4_due rfl rfl rfl hdX4_due ⟨Nat.le_of_ble_eq_true rfl, Nat.le_of_ble_eq_true rfl⟩ ⟨Nat.zero_le _, Nat.zero_le _⟩ 0 0 rfl rfl rfl [0] rfl rfl (zlc (N := 2) rfl rfl) [2, 1] rfl (by decide) (fun J2 : oJ => [wO K.g x a S J2, wO K.g y b T Jp]) (fun _ => rfl) rfl rfl (Nat.le_of_ble_eq_true rfl) dL_isStep_517 520 rfl (fun u9 hu9 => ?_)
    obtain ⟨J2_1, rfl⟩ : ∃ z, z = u9 := ⟨_, rfl⟩
    show Z K 0 0 [wO K.g x a S J2_1, wO K.g y b T Jp] [(0, .ref (x 0)), (1, .ref (y 0)), (2, .int v), (3, .int w), (4, .int z), (5, .int (nI (sN S))), (6, .int (nI jb)), (7, .int (nI pl)), (8, .int (nI sh)), (9, .int (nI hu)), (10, .int (nI du))] 520 [.int (-1)]
    refine z_istore C hnL [1, 2, 3, 4, 5, 6, 7, 8, 9, 10, 11, 0] [(0, .ref (x 0)), (1, .ref (y 0)), (2, .int v), (3, .int w), (4, .int z), (5, .int (nI (sN S))), (6, .int (nI jb)), (7, .int (nI pl)), (8, .int (nI sh)), (9, .int (nI hu)), (10, .int (nI du)), (11, .int (-1))] rfl (Nat.le_of_ble_eq_true rfl) dL_isStep_520 522 rfl ?_
    refine z_aload_n C 1 rfl rfl dL_isStep_522 523 rfl ?_
    refine z_iload C 6 rfl dL_isStep_523 525 rfl ?_
    refine z_iconst C (v := nI 2) rfl dL_isStep_525 526 rfl ?_
    refine z_iload C 10 rfl dL_isStep_526 528 rfl ?_
    refine z_imul C dL_isStep_528 529 rfl ?_
    refine z_callV C [.int (nI jb), .int (nI (2 * du))] [] (tO_due_ns K.l K.g y b T Jp (nI jb) (nI (2 * du)) hIT (by rw [hN, hq0, show jb = 0 by omega]; rfl)) gL_isStep_X4_due rfl rfl rfl hdX4_due ⟨Nat.le_of_ble_eq_true rfl, Nat.le_of_ble_eq_true rfl⟩ ⟨Nat.zero_le _, Nat.zero_le _⟩ 1 0 rfl rfl rfl [1] rfl rfl (zlc (N := 2) rfl rfl) [0, 2] rfl (by decide) (fun J2 : oJ => [wO K.g x a S J2_1, wO K.g y b T J2]) (fun _ => rfl) rfl rfl (Nat.le_of_ble_eq_true rfl) dL_isStep_529 532 rfl (fun u9 hu9 => ?_)
    obtain ⟨J2_2, rfl⟩ : ∃ z, z = u9 := ⟨_, rfl⟩
    show Z K 0 0 [wO K.g x a S J2_1, wO K.g y b T J2_2] [(0, .ref (x 0)), (1, .ref (y 0)), (2, .int v), (3, .int w), (4, .int z), (5, .int (nI (sN S))), (6, .int (nI jb)), (7, .int (nI pl)), (8, .int (nI sh)), (9, .int (nI hu)), (10, .int (nI du)), (11, .int (-1))] 532 [.int (-1)]
    refine z_iload C 11 rfl dL_isStep_532 534 rfl ?_
    refine z_callP C [.int (-1)] [.int (-1)] (tL_twice K.l K.g (-1) ) gL_isStep_L_twice rfl rfl rfl hdL_twice ⟨Nat.le_of_ble_eq_true rfl, Nat.le_of_ble_eq_true rfl⟩ ⟨Nat.zero_le _, Nat.zero_le _⟩ rfl rfl (Nat.le_of_ble_eq_true rfl) dL_isStep_534 537 rfl (fun u9 hu9 => ?_)
    show Z K 0 0 [wO K.g x a S J2_1, wO K.g y b T J2_2] [(0, .ref (x 0)), (1, .ref (y 0)), (2, .int v), (3, .int w), (4, .int z), (5, .int (nI (sN S))), (6, .int (nI jb)), (7, .int (nI pl)), (8, .int (nI sh)), (9, .int (nI hu)), (10, .int (nI du)), (11, .int (-1))] 537 [.int (tw (-1)), .int (-1)]
    refine z_icmpI_ne C 583 dL_isStep_537 (by decide) 540 rfl (fun c_3 => absurd (show ((-1) : Int32) = tw (-1) from (tw_neg (by decide)).symm) c_3) (fun c_3 => ?_)
    refine z_iload C 5 rfl dL_isStep_540 542 rfl ?_
    refine z_if_ne C (by omega) 554 dL_isStep_542 (by decide) 545 rfl (fun c_4 => ?_) (fun c_4 => ?_)
    · exfalso; omega
    refine z_iload C 11 rfl dL_isStep_545 547 rfl ?_
    refine z_iconst C (v := (-1)) rfl dL_isStep_547 548 rfl ?_
    refine z_icmpI_ne C 583 dL_isStep_548 (by decide) 551 rfl (fun c_5 => absurd (show ((-1) : Int32) = (-1) from rfl) c_5) (fun c_5 => ?_)
    refine z_goto C 579 dL_isStep_551 (by decide) ?_
    refine z_iconst C (v := nI 1) rfl dL_isStep_579 580 rfl ?_
    refine z_goto C 584 dL_isStep_580 (by decide) ?_
    refine z_eq (st2 := [.int (bI true)]) ?_ rfl rfl rfl
    exact z_bret C hRx dL_isStep_584 (S, J2_1, T, J2_2) rfl (⟨hI, hIT, hRel⟩) rfl
  · have hj2 : jb < sN S := by omega
    refine z_aload_n C 0 rfl rfl dL_isStep_512 513 rfl ?_
    refine z_iload C 6 rfl dL_isStep_513 515 rfl ?_
    refine z_iload C 10 rfl dL_isStep_515 517 rfl ?_
    refine z_callV C [.int (nI jb), .int (nI du)] [] (tO_due_ok K.l K.g x a S J jb du hI hj2 (by omega)) gL_isStep_X4_due rfl rfl rfl hdX4_due ⟨Nat.le_of_ble_eq_true rfl, Nat.le_of_ble_eq_true rfl⟩ ⟨Nat.zero_le _, Nat.zero_le _⟩ 0 0 rfl rfl rfl [0] rfl rfl (zlc (N := 2) rfl rfl) [2, 1] rfl (by decide) (fun J2 : oJ => [wO K.g x a (uPush S (sSt S) (un (sR S) 3 (un (sR S 3) jb du)) (sN S)) J2, wO K.g y b T Jp]) (fun _ => rfl) rfl rfl (Nat.le_of_ble_eq_true rfl) dL_isStep_517 520 rfl (fun u9 hu9 => ?_)
    obtain ⟨J2_6, rfl⟩ : ∃ z, z = u9 := ⟨_, rfl⟩
    show Z K 0 0 [wO K.g x a (uPush S (sSt S) (un (sR S) 3 (un (sR S 3) jb du)) (sN S)) J2_6, wO K.g y b T Jp] [(0, .ref (x 0)), (1, .ref (y 0)), (2, .int v), (3, .int w), (4, .int z), (5, .int (nI (sN S))), (6, .int (nI jb)), (7, .int (nI pl)), (8, .int (nI sh)), (9, .int (nI hu)), (10, .int (nI du))] 520 [.int (nI (PL (sSt S) (un (sR S) 3 (un ((sR S) 3) jb du)) ((sSt S) 5) (sN S) jb))]
    refine z_top (show (nI (PL (sSt S) (un (sR S) 3 (un ((sR S) 3) jb du)) ((sSt S) 5) (sN S) jb) : Int32) = nI (PL (sSt S) (un (sR S) 3 (un (sR S 3) jb du)) (sSt S 5) (sN S) jb) from rfl) ?_
    refine z_nm (fun told etold => ?_)
    have hJ2 := okJ_due (j := jb) hJ (show du ≤ 3000 by omega)
    have hlb : told ≤ 20000 := by rw [etold]; exact PL_le hS hJ2 (fun j hj => hR j hj) hn hj2
    have hI2 : INV (uPush S (sSt S) (un (sR S) 3 (un (sR S 3) jb du)) (sN S)) := INV_push hI ⟨hn, hS, hJ2, fun j hj => hR j hj⟩
    refine z_istore C hnL [1, 2, 3, 4, 5, 6, 7, 8, 9, 10, 11, 0] [(0, .ref (x 0)), (1, .ref (y 0)), (2, .int v), (3, .int w), (4, .int z), (5, .int (nI (sN S))), (6, .int (nI jb)), (7, .int (nI pl)), (8, .int (nI sh)), (9, .int (nI hu)), (10, .int (nI du)), (11, .int (nI told))] rfl (Nat.le_of_ble_eq_true rfl) dL_isStep_520 522 rfl ?_
    refine z_aload_n C 1 rfl rfl dL_isStep_522 523 rfl ?_
    refine z_iload C 6 rfl dL_isStep_523 525 rfl ?_
    refine z_iconst C (v := nI 2) rfl dL_isStep_525 526 rfl ?_
    refine z_iload C 10 rfl dL_isStep_526 528 rfl ?_
    refine z_imul C dL_isStep_528 529 rfl ?_
    refine z_callV C [.int (nI jb), .int (nI (2 * du))] [] (tO_due_ok K.l K.g y b T Jp jb (2 * du) hIT (by omega) (by omega)) gL_isStep_X4_due rfl rfl rfl hdX4_due ⟨Nat.le_of_ble_eq_true rfl, Nat.le_of_ble_eq_true rfl⟩ ⟨Nat.zero_le _, Nat.zero_le _⟩ 1 0 rfl rfl rfl [1] rfl rfl (zlc (N := 2) rfl rfl) [0, 2] rfl (by decide) (fun J2 : oJ => [wO K.g x a (uPush S (sSt S) (un (sR S) 3 (un (sR S 3) jb du)) (sN S)) J2_6, wO K.g y b (uPush T (sSt T) (un (sR T) 3 (un (sR T 3) jb (2 * du))) (sN T)) J2]) (fun _ => rfl) rfl rfl (Nat.le_of_ble_eq_true rfl) dL_isStep_529 532 rfl (fun u9 hu9 => ?_)
    obtain ⟨J2_7, rfl⟩ : ∃ z, z = u9 := ⟨_, rfl⟩
    show Z K 0 0 [wO K.g x a (uPush S (sSt S) (un (sR S) 3 (un (sR S 3) jb du)) (sN S)) J2_6, wO K.g y b (uPush T (sSt T) (un (sR T) 3 (un (sR T 3) jb (2 * du))) (sN T)) J2_7] [(0, .ref (x 0)), (1, .ref (y 0)), (2, .int v), (3, .int w), (4, .int z), (5, .int (nI (sN S))), (6, .int (nI jb)), (7, .int (nI pl)), (8, .int (nI sh)), (9, .int (nI hu)), (10, .int (nI du)), (11, .int (nI told))] 532 [.int (nI (PL (sSt T) (un (sR T) 3 (un ((sR T) 3) jb (2 * du))) ((sSt T) 5) (sN T) jb))]
    have hdr2 := dR_due (jb := jb) (du := du) hdr
    have hIT2 := INV_push hIT ⟨hIT.1.1, hIT.1.2.1, okJ_due (j := jb) hIT.1.2.2.1 (show 2 * du ≤ 3000 by omega), fun j hj => hIT.1.2.2.2 j hj⟩
    have hRel2 := REL_push6 hI hRel ⟨hN, hds, hdr2⟩
    refine z_iload C 11 rfl dL_isStep_532 534 rfl ?_
    refine z_callP C [.int (nI told)] [.int (nI (PL (sSt T) (un (sR T) 3 (un ((sR T) 3) jb (2 * du))) ((sSt T) 5) (sN T) jb))] (tL_twice K.l K.g (nI told) ) gL_isStep_L_twice rfl rfl rfl hdL_twice ⟨Nat.le_of_ble_eq_true rfl, Nat.le_of_ble_eq_true rfl⟩ ⟨Nat.zero_le _, Nat.zero_le _⟩ rfl rfl (Nat.le_of_ble_eq_true rfl) dL_isStep_534 537 rfl (fun u9 hu9 => ?_)
    show Z K 0 0 [wO K.g x a (uPush S (sSt S) (un (sR S) 3 (un (sR S 3) jb du)) (sN S)) J2_6, wO K.g y b (uPush T (sSt T) (un (sR T) 3 (un (sR T 3) jb (2 * du))) (sN T)) J2_7] [(0, .ref (x 0)), (1, .ref (y 0)), (2, .int v), (3, .int w), (4, .int z), (5, .int (nI (sN S))), (6, .int (nI jb)), (7, .int (nI pl)), (8, .int (nI sh)), (9, .int (nI hu)), (10, .int (nI du)), (11, .int (nI told))] 537 [.int (tw (nI told)), .int (nI (PL (sSt T) (un (sR T) 3 (un ((sR T) 3) jb (2 * du))) ((sSt T) 5) (sN T) jb))]
    refine z_icmpI_ne C 583 dL_isStep_537 (by decide) 540 rfl (fun c_8 => absurd (show (nI (PL (sSt T) (un (sR T) 3 (un ((sR T) 3) jb (2 * du))) ((sSt T) 5) (sN T) jb) : Int32) = tw (nI told) from (by rw [tw_nI (show told < 2 ^ 31 by omega), etold, hN, hds.2.1, d_PL hds hdr2 (fun j hj => hR j hj) hj2])) c_8) (fun c_8 => ?_)
    refine z_iload C 5 rfl dL_isStep_540 542 rfl ?_
    refine z_if_ne C (by omega) 554 dL_isStep_542 (by decide) 545 rfl (fun c_9 => ?_) (fun c_9 => ?_)
    rotate_left
    · exfalso; omega
    refine z_iload C 11 rfl dL_isStep_554 556 rfl ?_
    refine z_aload_n C 0 rfl rfl dL_isStep_556 557 rfl ?_
    refine z_iload C 6 rfl dL_isStep_557 559 rfl ?_
    refine z_bipush C (v := nI 8) rfl dL_isStep_559 561 rfl ?_
    refine z_callV C [.int (nI jb), .int (nI 8)] [.int (nI told)] (tO_jobOf K.l K.g x a (uPush S (sSt S) (un (sR S) 3 (un (sR S 3) jb du)) (sN S)) J2_6 jb 8 hI2 hj2 (by decide)) gL_isStep_X4_jobOf rfl rfl rfl hdX4_jobOf ⟨Nat.le_of_ble_eq_true rfl, Nat.le_of_ble_eq_true rfl⟩ ⟨Nat.zero_le _, Nat.zero_le _⟩ 0 0 rfl rfl rfl [0] rfl rfl (zlc (N := 2) rfl rfl) [2, 1] rfl (by decide) (fun J2 : oJ => [wO K.g x a (uPush S (sSt S) (un (sR S) 3 (un (sR S 3) jb du)) (sN S)) J2, wO K.g y b (uPush T (sSt T) (un (sR T) 3 (un (sR T 3) jb (2 * du))) (sN T)) J2_7]) (fun _ => rfl) rfl rfl (Nat.le_of_ble_eq_true rfl) dL_isStep_561 564 rfl (fun u9 hu9 => ?_)
    obtain ⟨J2_10, rfl⟩ : ∃ z, z = u9 := ⟨_, rfl⟩
    show Z K 0 0 [wO K.g x a (uPush S (sSt S) (un (sR S) 3 (un (sR S 3) jb du)) (sN S)) J2_10, wO K.g y b (uPush T (sSt T) (un (sR T) 3 (un (sR T 3) jb (2 * du))) (sN T)) J2_7] [(0, .ref (x 0)), (1, .ref (y 0)), (2, .int v), (3, .int w), (4, .int z), (5, .int (nI (sN S))), (6, .int (nI jb)), (7, .int (nI pl)), (8, .int (nI sh)), (9, .int (nI hu)), (10, .int (nI du)), (11, .int (nI told))] 564 [.int (nI (JO (sSt (uPush S (sSt S) (un (sR S) 3 (un (sR S 3) jb du)) (sN S))) (sR (uPush S (sSt S) (un (sR S) 3 (un (sR S 3) jb du)) (sN S))) (sN (uPush S (sSt S) (un (sR S) 3 (un (sR S 3) jb du)) (sN S))) jb 8)), .int (nI told)]
    refine z_top (show (nI (JO (sSt (uPush S (sSt S) (un (sR S) 3 (un (sR S 3) jb du)) (sN S))) (sR (uPush S (sSt S) (un (sR S) 3 (un (sR S 3) jb du)) (sN S))) (sN (uPush S (sSt S) (un (sR S) 3 (un (sR S 3) jb du)) (sN S))) jb 8) : Int32) = nI told from (congrArg nI (by rw [etold]; rfl))) ?_
    refine z_icmpI_ne C 583 dL_isStep_564 (by decide) 567 rfl (fun c_11 => absurd (show (nI told : Int32) = nI told from rfl) c_11) (fun c_11 => ?_)
    refine z_aload_n C 0 rfl rfl dL_isStep_567 568 rfl ?_
    refine z_iload C 6 rfl dL_isStep_568 570 rfl ?_
    refine z_iconst C (v := nI 3) rfl dL_isStep_570 571 rfl ?_
    refine z_callV C [.int (nI jb), .int (nI 3)] [] (tO_jobOf K.l K.g x a (uPush S (sSt S) (un (sR S) 3 (un (sR S 3) jb du)) (sN S)) J2_10 jb 3 hI2 hj2 (by decide)) gL_isStep_X4_jobOf rfl rfl rfl hdX4_jobOf ⟨Nat.le_of_ble_eq_true rfl, Nat.le_of_ble_eq_true rfl⟩ ⟨Nat.zero_le _, Nat.zero_le _⟩ 0 0 rfl rfl rfl [0] rfl rfl (zlc (N := 2) rfl rfl) [2, 1] rfl (by decide) (fun J2 : oJ => [wO K.g x a (uPush S (sSt S) (un (sR S) 3 (un (sR S 3) jb du)) (sN S)) J2, wO K.g y b (uPush T (sSt T) (un (sR T) 3 (un (sR T 3) jb (2 * du))) (sN T)) J2_7]) (fun _ => rfl) rfl rfl (Nat.le_of_ble_eq_true rfl) dL_isStep_571 574 rfl (fun u9 hu9 => ?_)
    obtain ⟨J2_12, rfl⟩ : ∃ z, z = u9 := ⟨_, rfl⟩
    show Z K 0 0 [wO K.g x a (uPush S (sSt S) (un (sR S) 3 (un (sR S 3) jb du)) (sN S)) J2_12, wO K.g y b (uPush T (sSt T) (un (sR T) 3 (un (sR T 3) jb (2 * du))) (sN T)) J2_7] [(0, .ref (x 0)), (1, .ref (y 0)), (2, .int v), (3, .int w), (4, .int z), (5, .int (nI (sN S))), (6, .int (nI jb)), (7, .int (nI pl)), (8, .int (nI sh)), (9, .int (nI hu)), (10, .int (nI du)), (11, .int (nI told))] 574 [.int (nI (JO (sSt (uPush S (sSt S) (un (sR S) 3 (un (sR S 3) jb du)) (sN S))) (sR (uPush S (sSt S) (un (sR S) 3 (un (sR S 3) jb du)) (sN S))) (sN (uPush S (sSt S) (un (sR S) 3 (un (sR S 3) jb du)) (sN S))) jb 3))]
    refine z_top (show (nI (JO (sSt (uPush S (sSt S) (un (sR S) 3 (un (sR S 3) jb du)) (sN S))) (sR (uPush S (sSt S) (un (sR S) 3 (un (sR S 3) jb du)) (sN S))) (sN (uPush S (sSt S) (un (sR S) 3 (un (sR S 3) jb du)) (sN S))) jb 3) : Int32) = nI du from (congrArg nI (show un (sR S) 3 (un (sR S 3) jb du) 3 jb = du from by rw [un_s, un_s]))) ?_
    refine z_iload C 10 rfl dL_isStep_574 576 rfl ?_
    refine z_icmpI_ne C 583 dL_isStep_576 (by decide) 579 rfl (fun c_13 => absurd (show (nI du : Int32) = nI du from rfl) c_13) (fun c_13 => ?_)
    refine z_iconst C (v := nI 1) rfl dL_isStep_579 580 rfl ?_
    refine z_goto C 584 dL_isStep_580 (by decide) ?_
    refine z_eq (st2 := [.int (bI true)]) ?_ rfl rfl rfl
    exact z_bret C hRx dL_isStep_584 (uPush S (sSt S) (un (sR S) 3 (un (sR S 3) jb du)) (sN S), J2_12, uPush T (sSt T) (un (sR T) 3 (un (sR T 3) jb (2 * du))) (sN T), J2_7) rfl (⟨hI2, hIT2, hRel2⟩) rfl

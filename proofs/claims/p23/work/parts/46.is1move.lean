/-! IS: move -/
set_option maxHeartbeats 4000000 in
set_option maxRecDepth 100000 in
theorem is_move {K : zK} {A : Nat → Prop} (C : Cx K ({ frames := 8, cells := 0, slots := 0, locals := 175 } : Room) RL cL_isStep wsL_isStep) (hnL : K.nL = 17) (x : Nat → Nat) (a : oA) (S : oS) (J : oJ) (y : Nat → Nat) (b : oA) (T : oS) (Jp : oJ) (v w z : Int32) (jb pl sh hu du : Nat) (hRx : RS K x a y b A) (hE : eAll K.A K.s) (hI : INV S) (hIT : INV T) (hRel : REL S T 6) (hjb : (sN S = 0 ∧ jb = 0) ∨ jb < sN S) (hpl : pl ≤ 3) (hsh : sh ≤ 9) (hu1 : 1 ≤ hu) (hu2 : hu ≤ 20) (hdu : du ≤ 1500) : Z K 0 0 [wO K.g x a S J, wO K.g y b T Jp] [(0, .ref (x 0)), (1, .ref (y 0)), (2, .int v), (3, .int w), (4, .int z), (5, .int (nI (sN S))), (6, .int (nI jb)), (7, .int (nI pl)), (8, .int (nI sh)), (9, .int (nI hu)), (10, .int (nI du))] 396 [] := by
  have heAll := hE
  obtain ⟨heSet, heOrd⟩ := hE
  obtain ⟨hn, hS, hJ, hR⟩ := id hI.1
  obtain ⟨⟨hN, hds, hdr⟩, hkp, hnx, hhi, hsl⟩ := id hRel
  have h5b := hS.2.2.2.2.2.2.2.1
  have h6b := hS.2.2.2.2.2.2.2.2
  have jnm : ∀ (p9 : Nat), ((sN S = 0 ∧ p9 = 0) ∨ p9 < sN S) → Z K 0 0 [wO K.g x a S J, wO K.g y b T Jp] [(0, .ref (x 0)), (1, .ref (y 0)), (2, .int v), (3, .int w), (4, .int z), (5, .int (nI (sN S))), (6, .int (nI jb)), (7, .int (nI pl)), (8, .int (nI sh)), (9, .int (nI hu)), (10, .int (nI du))] 411 [.int (nI p9)] := by
    intro p9 hp9
    refine z_istore C hnL [1, 2, 3, 4, 5, 6, 7, 8, 9, 10, 11, 0] [(0, .ref (x 0)), (1, .ref (y 0)), (2, .int v), (3, .int w), (4, .int z), (5, .int (nI (sN S))), (6, .int (nI jb)), (7, .int (nI pl)), (8, .int (nI sh)), (9, .int (nI hu)), (10, .int (nI du)), (11, .int (nI p9))] rfl (Nat.le_of_ble_eq_true rfl) dL_isStep_411 413 rfl ?_
    by_cases hq0 : sN S = 0
    · skip
      refine z_aload_n C 0 rfl rfl dL_isStep_413 414 rfl ?_
      refine z_iload C 6 rfl dL_isStep_414 416 rfl ?_
      refine z_iconst C (v := nI 0) rfl dL_isStep_416 417 rfl ?_
      refine z_callV C [.int (nI jb), .int (nI 0)] [] (tO_jobOf_ns K.l K.g x a S J (nI jb) (nI 0) hI (by rw [hq0, show jb = 0 by omega]; rfl)) gL_isStep_X4_jobOf rfl rfl rfl hdX4_jobOf ⟨Nat.le_of_ble_eq_true rfl, Nat.le_of_ble_eq_true rfl⟩ ⟨Nat.zero_le _, Nat.zero_le _⟩ 0 0 rfl rfl rfl [0] rfl rfl (zlc (N := 2) rfl rfl) [2, 1] rfl (by decide) (fun J2 : oJ => [wO K.g x a S J2, wO K.g y b T Jp]) (fun _ => rfl) rfl rfl (Nat.le_of_ble_eq_true rfl) dL_isStep_417 420 rfl (fun u9 hu9 => ?_)
      obtain ⟨J2_1, rfl⟩ : ∃ z, z = u9 := ⟨_, rfl⟩
      show Z K 0 0 [wO K.g x a S J2_1, wO K.g y b T Jp] [(0, .ref (x 0)), (1, .ref (y 0)), (2, .int v), (3, .int w), (4, .int z), (5, .int (nI (sN S))), (6, .int (nI jb)), (7, .int (nI pl)), (8, .int (nI sh)), (9, .int (nI hu)), (10, .int (nI du)), (11, .int (nI p9))] 420 [.int (-1)]
      refine z_istore C hnL [1, 2, 3, 4, 5, 6, 7, 8, 9, 10, 11, 12, 0] [(0, .ref (x 0)), (1, .ref (y 0)), (2, .int v), (3, .int w), (4, .int z), (5, .int (nI (sN S))), (6, .int (nI jb)), (7, .int (nI pl)), (8, .int (nI sh)), (9, .int (nI hu)), (10, .int (nI du)), (11, .int (nI p9)), (12, .int (-1))] rfl (Nat.le_of_ble_eq_true rfl) dL_isStep_420 422 rfl ?_
      refine z_aload_n C 0 rfl rfl dL_isStep_422 423 rfl ?_
      refine z_iload C 6 rfl dL_isStep_423 425 rfl ?_
      refine z_iconst C (v := nI 3) rfl dL_isStep_425 426 rfl ?_
      refine z_callV C [.int (nI jb), .int (nI 3)] [] (tO_jobOf_ns K.l K.g x a S J2_1 (nI jb) (nI 3) hI (by rw [hq0, show jb = 0 by omega]; rfl)) gL_isStep_X4_jobOf rfl rfl rfl hdX4_jobOf ⟨Nat.le_of_ble_eq_true rfl, Nat.le_of_ble_eq_true rfl⟩ ⟨Nat.zero_le _, Nat.zero_le _⟩ 0 0 rfl rfl rfl [0] rfl rfl (zlc (N := 2) rfl rfl) [2, 1] rfl (by decide) (fun J2 : oJ => [wO K.g x a S J2, wO K.g y b T Jp]) (fun _ => rfl) rfl rfl (Nat.le_of_ble_eq_true rfl) dL_isStep_426 429 rfl (fun u9 hu9 => ?_)
      obtain ⟨J2_2, rfl⟩ : ∃ z, z = u9 := ⟨_, rfl⟩
      show Z K 0 0 [wO K.g x a S J2_2, wO K.g y b T Jp] [(0, .ref (x 0)), (1, .ref (y 0)), (2, .int v), (3, .int w), (4, .int z), (5, .int (nI (sN S))), (6, .int (nI jb)), (7, .int (nI pl)), (8, .int (nI sh)), (9, .int (nI hu)), (10, .int (nI du)), (11, .int (nI p9)), (12, .int (-1))] 429 [.int (-1)]
      refine z_istore C hnL [1, 2, 3, 4, 5, 6, 7, 8, 9, 10, 11, 12, 13, 0] [(0, .ref (x 0)), (1, .ref (y 0)), (2, .int v), (3, .int w), (4, .int z), (5, .int (nI (sN S))), (6, .int (nI jb)), (7, .int (nI pl)), (8, .int (nI sh)), (9, .int (nI hu)), (10, .int (nI du)), (11, .int (nI p9)), (12, .int (-1)), (13, .int (-1))] rfl (Nat.le_of_ble_eq_true rfl) dL_isStep_429 431 rfl ?_
      refine z_aload_n C 0 rfl rfl dL_isStep_431 432 rfl ?_
      refine z_iload C 6 rfl dL_isStep_432 434 rfl ?_
      refine z_iload C 11 rfl dL_isStep_434 436 rfl ?_
      refine z_callV C [.int (nI jb), .int (nI p9)] [] (tO_move_ns K.l K.g x a S J2_2 (nI jb) (nI p9) hI (by rw [hq0, show jb = 0 by omega]; rfl)) gL_isStep_X4_move rfl rfl rfl hdX4_move ⟨Nat.le_of_ble_eq_true rfl, Nat.le_of_ble_eq_true rfl⟩ ⟨Nat.zero_le _, Nat.zero_le _⟩ 0 0 rfl rfl rfl [0] rfl rfl (zlc (N := 2) rfl rfl) [2, 1] rfl (by decide) (fun J2 : oJ => [wO K.g x a S J2, wO K.g y b T Jp]) (fun _ => rfl) rfl rfl (Nat.le_of_ble_eq_true rfl) dL_isStep_436 439 rfl (fun u9 hu9 => ?_)
      obtain ⟨J2_3, rfl⟩ : ∃ z, z = u9 := ⟨_, rfl⟩
      show Z K 0 0 [wO K.g x a S J2_3, wO K.g y b T Jp] [(0, .ref (x 0)), (1, .ref (y 0)), (2, .int v), (3, .int w), (4, .int z), (5, .int (nI (sN S))), (6, .int (nI jb)), (7, .int (nI pl)), (8, .int (nI sh)), (9, .int (nI hu)), (10, .int (nI du)), (11, .int (nI p9)), (12, .int (-1)), (13, .int (-1))] 439 [.int (-1)]
      refine z_istore C hnL [1, 2, 3, 4, 5, 6, 7, 8, 9, 10, 11, 12, 13, 14, 0] [(0, .ref (x 0)), (1, .ref (y 0)), (2, .int v), (3, .int w), (4, .int z), (5, .int (nI (sN S))), (6, .int (nI jb)), (7, .int (nI pl)), (8, .int (nI sh)), (9, .int (nI hu)), (10, .int (nI du)), (11, .int (nI p9)), (12, .int (-1)), (13, .int (-1)), (14, .int (-1))] rfl (Nat.le_of_ble_eq_true rfl) dL_isStep_439 441 rfl ?_
      refine z_aload_n C 1 rfl rfl dL_isStep_441 442 rfl ?_
      refine z_iload C 6 rfl dL_isStep_442 444 rfl ?_
      refine z_iload C 11 rfl dL_isStep_444 446 rfl ?_
      refine z_callV C [.int (nI jb), .int (nI p9)] [] (tO_move_ns K.l K.g y b T Jp (nI jb) (nI p9) hIT (by rw [hN, hq0, show jb = 0 by omega]; rfl)) gL_isStep_X4_move rfl rfl rfl hdX4_move ⟨Nat.le_of_ble_eq_true rfl, Nat.le_of_ble_eq_true rfl⟩ ⟨Nat.zero_le _, Nat.zero_le _⟩ 1 0 rfl rfl rfl [1] rfl rfl (zlc (N := 2) rfl rfl) [0, 2] rfl (by decide) (fun J2 : oJ => [wO K.g x a S J2_3, wO K.g y b T J2]) (fun _ => rfl) rfl rfl (Nat.le_of_ble_eq_true rfl) dL_isStep_446 449 rfl (fun u9 hu9 => ?_)
      obtain ⟨J2_4, rfl⟩ : ∃ z, z = u9 := ⟨_, rfl⟩
      show Z K 0 0 [wO K.g x a S J2_3, wO K.g y b T J2_4] [(0, .ref (x 0)), (1, .ref (y 0)), (2, .int v), (3, .int w), (4, .int z), (5, .int (nI (sN S))), (6, .int (nI jb)), (7, .int (nI pl)), (8, .int (nI sh)), (9, .int (nI hu)), (10, .int (nI du)), (11, .int (nI p9)), (12, .int (-1)), (13, .int (-1)), (14, .int (-1))] 449 [.int (-1)]
      refine z_iload C 14 rfl dL_isStep_449 451 rfl ?_
      refine z_callP C [.int (-1)] [.int (-1)] (tL_twice K.l K.g (-1) ) gL_isStep_L_twice rfl rfl rfl hdL_twice ⟨Nat.le_of_ble_eq_true rfl, Nat.le_of_ble_eq_true rfl⟩ ⟨Nat.zero_le _, Nat.zero_le _⟩ rfl rfl (Nat.le_of_ble_eq_true rfl) dL_isStep_451 454 rfl (fun u9 hu9 => ?_)
      show Z K 0 0 [wO K.g x a S J2_3, wO K.g y b T J2_4] [(0, .ref (x 0)), (1, .ref (y 0)), (2, .int v), (3, .int w), (4, .int z), (5, .int (nI (sN S))), (6, .int (nI jb)), (7, .int (nI pl)), (8, .int (nI sh)), (9, .int (nI hu)), (10, .int (nI du)), (11, .int (nI p9)), (12, .int (-1)), (13, .int (-1)), (14, .int (-1))] 454 [.int (tw (-1)), .int (-1)]
      refine z_icmpI_ne C 510 dL_isStep_454 (by decide) 457 rfl (fun c_5 => absurd (show ((-1) : Int32) = tw (-1) from (tw_neg (by decide)).symm) c_5) (fun c_5 => ?_)
      refine z_iload C 5 rfl dL_isStep_457 459 rfl ?_
      refine z_if_ne C (by omega) 471 dL_isStep_459 (by decide) 462 rfl (fun c_6 => ?_) (fun c_6 => ?_)
      · exfalso; omega
      refine z_iload C 14 rfl dL_isStep_462 464 rfl ?_
      refine z_iconst C (v := (-1)) rfl dL_isStep_464 465 rfl ?_
      refine z_icmpI_ne C 510 dL_isStep_465 (by decide) 468 rfl (fun c_7 => absurd (show ((-1) : Int32) = (-1) from rfl) c_7) (fun c_7 => ?_)
      refine z_goto C 506 dL_isStep_468 (by decide) ?_
      refine z_iconst C (v := nI 1) rfl dL_isStep_506 507 rfl ?_
      refine z_goto C 511 dL_isStep_507 (by decide) ?_
      refine z_eq (st2 := [.int (bI true)]) ?_ rfl rfl rfl
      exact z_bret C hRx dL_isStep_511 (S, J2_3, T, J2_4) rfl (⟨hI, hIT, hRel⟩) rfl
    · have hj2 : jb < sN S := by omega
      have hp2 : p9 < sN S := by omega
      refine z_aload_n C 0 rfl rfl dL_isStep_413 414 rfl ?_
      refine z_iload C 6 rfl dL_isStep_414 416 rfl ?_
      refine z_iconst C (v := nI 0) rfl dL_isStep_416 417 rfl ?_
      refine z_callV C [.int (nI jb), .int (nI 0)] [] (tO_jobOf K.l K.g x a S J jb 0 hI (by omega) (by decide)) gL_isStep_X4_jobOf rfl rfl rfl hdX4_jobOf ⟨Nat.le_of_ble_eq_true rfl, Nat.le_of_ble_eq_true rfl⟩ ⟨Nat.zero_le _, Nat.zero_le _⟩ 0 0 rfl rfl rfl [0] rfl rfl (zlc (N := 2) rfl rfl) [2, 1] rfl (by decide) (fun J2 : oJ => [wO K.g x a S J2, wO K.g y b T Jp]) (fun _ => rfl) rfl rfl (Nat.le_of_ble_eq_true rfl) dL_isStep_417 420 rfl (fun u9 hu9 => ?_)
      obtain ⟨J2_8, rfl⟩ : ∃ z, z = u9 := ⟨_, rfl⟩
      show Z K 0 0 [wO K.g x a S J2_8, wO K.g y b T Jp] [(0, .ref (x 0)), (1, .ref (y 0)), (2, .int v), (3, .int w), (4, .int z), (5, .int (nI (sN S))), (6, .int (nI jb)), (7, .int (nI pl)), (8, .int (nI sh)), (9, .int (nI hu)), (10, .int (nI du)), (11, .int (nI p9))] 420 [.int (nI (JO (sSt S) (sR S) (sN S) jb 0))]
      refine z_top (show (nI (JO (sSt S) (sR S) (sN S) jb 0) : Int32) = nI (sR S 0 jb) from rfl) ?_
      refine z_nm (fun ka eka => ?_)
      refine z_istore C hnL [1, 2, 3, 4, 5, 6, 7, 8, 9, 10, 11, 12, 0] [(0, .ref (x 0)), (1, .ref (y 0)), (2, .int v), (3, .int w), (4, .int z), (5, .int (nI (sN S))), (6, .int (nI jb)), (7, .int (nI pl)), (8, .int (nI sh)), (9, .int (nI hu)), (10, .int (nI du)), (11, .int (nI p9)), (12, .int (nI ka))] rfl (Nat.le_of_ble_eq_true rfl) dL_isStep_420 422 rfl ?_
      refine z_aload_n C 0 rfl rfl dL_isStep_422 423 rfl ?_
      refine z_iload C 6 rfl dL_isStep_423 425 rfl ?_
      refine z_iconst C (v := nI 3) rfl dL_isStep_425 426 rfl ?_
      refine z_callV C [.int (nI jb), .int (nI 3)] [] (tO_jobOf K.l K.g x a S J2_8 jb 3 hI (by omega) (by decide)) gL_isStep_X4_jobOf rfl rfl rfl hdX4_jobOf ⟨Nat.le_of_ble_eq_true rfl, Nat.le_of_ble_eq_true rfl⟩ ⟨Nat.zero_le _, Nat.zero_le _⟩ 0 0 rfl rfl rfl [0] rfl rfl (zlc (N := 2) rfl rfl) [2, 1] rfl (by decide) (fun J2 : oJ => [wO K.g x a S J2, wO K.g y b T Jp]) (fun _ => rfl) rfl rfl (Nat.le_of_ble_eq_true rfl) dL_isStep_426 429 rfl (fun u9 hu9 => ?_)
      obtain ⟨J2_9, rfl⟩ : ∃ z, z = u9 := ⟨_, rfl⟩
      show Z K 0 0 [wO K.g x a S J2_9, wO K.g y b T Jp] [(0, .ref (x 0)), (1, .ref (y 0)), (2, .int v), (3, .int w), (4, .int z), (5, .int (nI (sN S))), (6, .int (nI jb)), (7, .int (nI pl)), (8, .int (nI sh)), (9, .int (nI hu)), (10, .int (nI du)), (11, .int (nI p9)), (12, .int (nI ka))] 429 [.int (nI (JO (sSt S) (sR S) (sN S) jb 3))]
      refine z_top (show (nI (JO (sSt S) (sR S) (sN S) jb 3) : Int32) = nI (sR S 3 jb) from rfl) ?_
      refine z_nm (fun kd ekd => ?_)
      refine z_istore C hnL [1, 2, 3, 4, 5, 6, 7, 8, 9, 10, 11, 12, 13, 0] [(0, .ref (x 0)), (1, .ref (y 0)), (2, .int v), (3, .int w), (4, .int z), (5, .int (nI (sN S))), (6, .int (nI jb)), (7, .int (nI pl)), (8, .int (nI sh)), (9, .int (nI hu)), (10, .int (nI du)), (11, .int (nI p9)), (12, .int (nI ka)), (13, .int (nI kd))] rfl (Nat.le_of_ble_eq_true rfl) dL_isStep_429 431 rfl ?_
      refine z_aload_n C 0 rfl rfl dL_isStep_431 432 rfl ?_
      refine z_iload C 6 rfl dL_isStep_432 434 rfl ?_
      refine z_iload C 11 rfl dL_isStep_434 436 rfl ?_
      refine z_callV C [.int (nI jb), .int (nI p9)] [] (tO_move_ok K.l K.g x a S J2_9 jb p9 hI hj2 hp2) gL_isStep_X4_move rfl rfl rfl hdX4_move ⟨Nat.le_of_ble_eq_true rfl, Nat.le_of_ble_eq_true rfl⟩ ⟨Nat.zero_le _, Nat.zero_le _⟩ 0 0 rfl rfl rfl [0] rfl rfl (zlc (N := 2) rfl rfl) [2, 1] rfl (by decide) (fun J2 : oJ => [wO K.g x a (uPush S (sSt S) (fun k => shf (sR S k) jb p9) (sN S)) J2, wO K.g y b T Jp]) (fun _ => rfl) rfl rfl (Nat.le_of_ble_eq_true rfl) dL_isStep_436 439 rfl (fun u9 hu9 => ?_)
      obtain ⟨J2_10, rfl⟩ : ∃ z, z = u9 := ⟨_, rfl⟩
      show Z K 0 0 [wO K.g x a (uPush S (sSt S) (fun k => shf (sR S k) jb p9) (sN S)) J2_10, wO K.g y b T Jp] [(0, .ref (x 0)), (1, .ref (y 0)), (2, .int v), (3, .int w), (4, .int z), (5, .int (nI (sN S))), (6, .int (nI jb)), (7, .int (nI pl)), (8, .int (nI sh)), (9, .int (nI hu)), (10, .int (nI du)), (11, .int (nI p9)), (12, .int (nI ka)), (13, .int (nI kd))] 439 [.int (nI (LSm (sSt S) (fun k => shf ((sR S) k) jb p9) ((sSt S) 5) (sN S)))]
      refine z_top (show (nI (LSm (sSt S) (fun k => shf ((sR S) k) jb p9) ((sSt S) 5) (sN S)) : Int32) = nI (LSm (sSt S) (fun k => shf (sR S k) jb p9) (sSt S 5) (sN S)) from rfl) ?_
      refine z_nm (fun told etold => ?_)
      have hlb : told ≤ 1000000 := by rw [etold]; exact LSm_le hS (okJ_shf hj2 hp2 hJ) (okR_shf hj2 hp2 hR) hn
      have hI2 : INV (uPush S (sSt S) (fun k => shf (sR S k) jb p9) (sN S)) := INV_push hI ⟨hn, hS, okJ_shf hj2 hp2 hJ, okR_shf hj2 hp2 hR⟩
      refine z_istore C hnL [1, 2, 3, 4, 5, 6, 7, 8, 9, 10, 11, 12, 13, 14, 0] [(0, .ref (x 0)), (1, .ref (y 0)), (2, .int v), (3, .int w), (4, .int z), (5, .int (nI (sN S))), (6, .int (nI jb)), (7, .int (nI pl)), (8, .int (nI sh)), (9, .int (nI hu)), (10, .int (nI du)), (11, .int (nI p9)), (12, .int (nI ka)), (13, .int (nI kd)), (14, .int (nI told))] rfl (Nat.le_of_ble_eq_true rfl) dL_isStep_439 441 rfl ?_
      refine z_aload_n C 1 rfl rfl dL_isStep_441 442 rfl ?_
      refine z_iload C 6 rfl dL_isStep_442 444 rfl ?_
      refine z_iload C 11 rfl dL_isStep_444 446 rfl ?_
      refine z_callV C [.int (nI jb), .int (nI p9)] [] (tO_move_ok K.l K.g y b T Jp jb p9 hIT (by omega) (by omega)) gL_isStep_X4_move rfl rfl rfl hdX4_move ⟨Nat.le_of_ble_eq_true rfl, Nat.le_of_ble_eq_true rfl⟩ ⟨Nat.zero_le _, Nat.zero_le _⟩ 1 0 rfl rfl rfl [1] rfl rfl (zlc (N := 2) rfl rfl) [0, 2] rfl (by decide) (fun J2 : oJ => [wO K.g x a (uPush S (sSt S) (fun k => shf (sR S k) jb p9) (sN S)) J2_10, wO K.g y b (uPush T (sSt T) (fun k => shf (sR T k) jb p9) (sN T)) J2]) (fun _ => rfl) rfl rfl (Nat.le_of_ble_eq_true rfl) dL_isStep_446 449 rfl (fun u9 hu9 => ?_)
      obtain ⟨J2_11, rfl⟩ : ∃ z, z = u9 := ⟨_, rfl⟩
      show Z K 0 0 [wO K.g x a (uPush S (sSt S) (fun k => shf (sR S k) jb p9) (sN S)) J2_10, wO K.g y b (uPush T (sSt T) (fun k => shf (sR T k) jb p9) (sN T)) J2_11] [(0, .ref (x 0)), (1, .ref (y 0)), (2, .int v), (3, .int w), (4, .int z), (5, .int (nI (sN S))), (6, .int (nI jb)), (7, .int (nI pl)), (8, .int (nI sh)), (9, .int (nI hu)), (10, .int (nI du)), (11, .int (nI p9)), (12, .int (nI ka)), (13, .int (nI kd)), (14, .int (nI told))] 449 [.int (nI (LSm (sSt T) (fun k => shf ((sR T) k) jb p9) ((sSt T) 5) (sN T)))]
      have hIT2 := INV_push hIT ⟨hIT.1.1, hIT.1.2.1, okJ_shf (show jb < sN T by omega) (show p9 < sN T by omega) hIT.1.2.2.1, okR_shf (show jb < sN T by omega) (show p9 < sN T by omega) hIT.1.2.2.2⟩
      have hRel2 := REL_push6 hI hRel ⟨hN, hds, dR_shf hj2 hp2 hdr⟩
      refine z_iload C 14 rfl dL_isStep_449 451 rfl ?_
      refine z_callP C [.int (nI told)] [.int (nI (LSm (sSt T) (fun k => shf ((sR T) k) jb p9) ((sSt T) 5) (sN T)))] (tL_twice K.l K.g (nI told) ) gL_isStep_L_twice rfl rfl rfl hdL_twice ⟨Nat.le_of_ble_eq_true rfl, Nat.le_of_ble_eq_true rfl⟩ ⟨Nat.zero_le _, Nat.zero_le _⟩ rfl rfl (Nat.le_of_ble_eq_true rfl) dL_isStep_451 454 rfl (fun u9 hu9 => ?_)
      show Z K 0 0 [wO K.g x a (uPush S (sSt S) (fun k => shf (sR S k) jb p9) (sN S)) J2_10, wO K.g y b (uPush T (sSt T) (fun k => shf (sR T k) jb p9) (sN T)) J2_11] [(0, .ref (x 0)), (1, .ref (y 0)), (2, .int v), (3, .int w), (4, .int z), (5, .int (nI (sN S))), (6, .int (nI jb)), (7, .int (nI pl)), (8, .int (nI sh)), (9, .int (nI hu)), (10, .int (nI du)), (11, .int (nI p9)), (12, .int (nI ka)), (13, .int (nI kd)), (14, .int (nI told))] 454 [.int (tw (nI told)), .int (nI (LSm (sSt T) (fun k => shf ((sR T) k) jb p9) ((sSt T) 5) (sN T)))]
      refine z_icmpI_ne C 510 dL_isStep_454 (by decide) 457 rfl (fun c_12 => absurd (show (nI (LSm (sSt T) (fun k => shf ((sR T) k) jb p9) ((sSt T) 5) (sN T)) : Int32) = tw (nI told) from (by rw [tw_nI (show told < 2 ^ 31 by omega), etold, hN, hds.2.1, d_LSm hds (dR_shf hj2 hp2 hdr) (okR_shf hj2 hp2 hR)])) c_12) (fun c_12 => ?_)
      refine z_iload C 5 rfl dL_isStep_457 459 rfl ?_
      refine z_if_ne C (by omega) 471 dL_isStep_459 (by decide) 462 rfl (fun c_13 => ?_) (fun c_13 => ?_)
      rotate_left
      · exfalso; omega
      refine z_iload C 14 rfl dL_isStep_471 473 rfl ?_
      refine z_aload_n C 0 rfl rfl dL_isStep_473 474 rfl ?_
      refine z_bipush C (v := nI 12) rfl dL_isStep_474 476 rfl ?_
      refine z_callV C [.int (nI 12)] [.int (nI told)] (tO_count K.l K.g x a (uPush S (sSt S) (fun k => shf (sR S k) jb p9) (sN S)) J2_10 12 hI2 (by first | omega | assumption)) gL_isStep_X4_count rfl rfl rfl hdX4_count ⟨Nat.le_of_ble_eq_true rfl, Nat.le_of_ble_eq_true rfl⟩ ⟨Nat.zero_le _, Nat.zero_le _⟩ 0 0 rfl rfl rfl [0] rfl rfl (zlc (N := 2) rfl rfl) [2, 1] rfl (by decide) (fun J2 : oJ => [wO K.g x a (uPush S (sSt S) (fun k => shf (sR S k) jb p9) (sN S)) J2, wO K.g y b (uPush T (sSt T) (fun k => shf (sR T k) jb p9) (sN T)) J2_11]) (fun _ => rfl) rfl rfl (Nat.le_of_ble_eq_true rfl) dL_isStep_476 479 rfl (fun u9 hu9 => ?_)
      obtain ⟨J2_14, rfl⟩ : ∃ z, z = u9 := ⟨_, rfl⟩
      show Z K 0 0 [wO K.g x a (uPush S (sSt S) (fun k => shf (sR S k) jb p9) (sN S)) J2_14, wO K.g y b (uPush T (sSt T) (fun k => shf (sR T k) jb p9) (sN T)) J2_11] [(0, .ref (x 0)), (1, .ref (y 0)), (2, .int v), (3, .int w), (4, .int z), (5, .int (nI (sN S))), (6, .int (nI jb)), (7, .int (nI pl)), (8, .int (nI sh)), (9, .int (nI hu)), (10, .int (nI du)), (11, .int (nI p9)), (12, .int (nI ka)), (13, .int (nI kd)), (14, .int (nI told))] 479 [.int (nI (CN (sSt (uPush S (sSt S) (fun k => shf (sR S k) jb p9) (sN S))) (sR (uPush S (sSt S) (fun k => shf (sR S k) jb p9) (sN S))) (sN (uPush S (sSt S) (fun k => shf (sR S k) jb p9) (sN S))) (sLen (uPush S (sSt S) (fun k => shf (sR S k) jb p9) (sN S))) (sKp (uPush S (sSt S) (fun k => shf (sR S k) jb p9) (sN S))) 12)), .int (nI told)]
      refine z_top (show (nI (CN (sSt (uPush S (sSt S) (fun k => shf (sR S k) jb p9) (sN S))) (sR (uPush S (sSt S) (fun k => shf (sR S k) jb p9) (sN S))) (sN (uPush S (sSt S) (fun k => shf (sR S k) jb p9) (sN S))) (sLen (uPush S (sSt S) (fun k => shf (sR S k) jb p9) (sN S))) (sKp (uPush S (sSt S) (fun k => shf (sR S k) jb p9) (sN S))) 12) : Int32) = nI told from (congrArg nI (by rw [etold]; rfl))) ?_
      refine z_icmpI_ne C 510 dL_isStep_479 (by decide) 482 rfl (fun c_15 => absurd (show (nI told : Int32) = nI told from rfl) c_15) (fun c_15 => ?_)
      refine z_aload_n C 0 rfl rfl dL_isStep_482 483 rfl ?_
      refine z_iload C 11 rfl dL_isStep_483 485 rfl ?_
      refine z_iconst C (v := nI 0) rfl dL_isStep_485 486 rfl ?_
      refine z_callV C [.int (nI p9), .int (nI 0)] [] (tO_jobOf K.l K.g x a (uPush S (sSt S) (fun k => shf (sR S k) jb p9) (sN S)) J2_14 p9 0 hI2 hp2 (by decide)) gL_isStep_X4_jobOf rfl rfl rfl hdX4_jobOf ⟨Nat.le_of_ble_eq_true rfl, Nat.le_of_ble_eq_true rfl⟩ ⟨Nat.zero_le _, Nat.zero_le _⟩ 0 0 rfl rfl rfl [0] rfl rfl (zlc (N := 2) rfl rfl) [2, 1] rfl (by decide) (fun J2 : oJ => [wO K.g x a (uPush S (sSt S) (fun k => shf (sR S k) jb p9) (sN S)) J2, wO K.g y b (uPush T (sSt T) (fun k => shf (sR T k) jb p9) (sN T)) J2_11]) (fun _ => rfl) rfl rfl (Nat.le_of_ble_eq_true rfl) dL_isStep_486 489 rfl (fun u9 hu9 => ?_)
      obtain ⟨J2_16, rfl⟩ : ∃ z, z = u9 := ⟨_, rfl⟩
      show Z K 0 0 [wO K.g x a (uPush S (sSt S) (fun k => shf (sR S k) jb p9) (sN S)) J2_16, wO K.g y b (uPush T (sSt T) (fun k => shf (sR T k) jb p9) (sN T)) J2_11] [(0, .ref (x 0)), (1, .ref (y 0)), (2, .int v), (3, .int w), (4, .int z), (5, .int (nI (sN S))), (6, .int (nI jb)), (7, .int (nI pl)), (8, .int (nI sh)), (9, .int (nI hu)), (10, .int (nI du)), (11, .int (nI p9)), (12, .int (nI ka)), (13, .int (nI kd)), (14, .int (nI told))] 489 [.int (nI (JO (sSt (uPush S (sSt S) (fun k => shf (sR S k) jb p9) (sN S))) (sR (uPush S (sSt S) (fun k => shf (sR S k) jb p9) (sN S))) (sN (uPush S (sSt S) (fun k => shf (sR S k) jb p9) (sN S))) p9 0))]
      refine z_top (show (nI (JO (sSt (uPush S (sSt S) (fun k => shf (sR S k) jb p9) (sN S))) (sR (uPush S (sSt S) (fun k => shf (sR S k) jb p9) (sN S))) (sN (uPush S (sSt S) (fun k => shf (sR S k) jb p9) (sN S))) p9 0) : Int32) = nI (sR S 0 jb) from (congrArg nI (show shf (sR S 0) jb p9 p9 = sR S 0 jb from if_pos rfl))) ?_
      refine z_iload C 12 rfl dL_isStep_489 491 rfl ?_
      refine z_icmpI_ne C 510 dL_isStep_491 (by decide) 494 rfl (fun c_17 => absurd (show (nI (sR S 0 jb) : Int32) = nI ka from (congrArg nI (by omega))) c_17) (fun c_17 => ?_)
      refine z_aload_n C 0 rfl rfl dL_isStep_494 495 rfl ?_
      refine z_iload C 11 rfl dL_isStep_495 497 rfl ?_
      refine z_iconst C (v := nI 3) rfl dL_isStep_497 498 rfl ?_
      refine z_callV C [.int (nI p9), .int (nI 3)] [] (tO_jobOf K.l K.g x a (uPush S (sSt S) (fun k => shf (sR S k) jb p9) (sN S)) J2_16 p9 3 hI2 hp2 (by decide)) gL_isStep_X4_jobOf rfl rfl rfl hdX4_jobOf ⟨Nat.le_of_ble_eq_true rfl, Nat.le_of_ble_eq_true rfl⟩ ⟨Nat.zero_le _, Nat.zero_le _⟩ 0 0 rfl rfl rfl [0] rfl rfl (zlc (N := 2) rfl rfl) [2, 1] rfl (by decide) (fun J2 : oJ => [wO K.g x a (uPush S (sSt S) (fun k => shf (sR S k) jb p9) (sN S)) J2, wO K.g y b (uPush T (sSt T) (fun k => shf (sR T k) jb p9) (sN T)) J2_11]) (fun _ => rfl) rfl rfl (Nat.le_of_ble_eq_true rfl) dL_isStep_498 501 rfl (fun u9 hu9 => ?_)
      obtain ⟨J2_18, rfl⟩ : ∃ z, z = u9 := ⟨_, rfl⟩
      show Z K 0 0 [wO K.g x a (uPush S (sSt S) (fun k => shf (sR S k) jb p9) (sN S)) J2_18, wO K.g y b (uPush T (sSt T) (fun k => shf (sR T k) jb p9) (sN T)) J2_11] [(0, .ref (x 0)), (1, .ref (y 0)), (2, .int v), (3, .int w), (4, .int z), (5, .int (nI (sN S))), (6, .int (nI jb)), (7, .int (nI pl)), (8, .int (nI sh)), (9, .int (nI hu)), (10, .int (nI du)), (11, .int (nI p9)), (12, .int (nI ka)), (13, .int (nI kd)), (14, .int (nI told))] 501 [.int (nI (JO (sSt (uPush S (sSt S) (fun k => shf (sR S k) jb p9) (sN S))) (sR (uPush S (sSt S) (fun k => shf (sR S k) jb p9) (sN S))) (sN (uPush S (sSt S) (fun k => shf (sR S k) jb p9) (sN S))) p9 3))]
      refine z_top (show (nI (JO (sSt (uPush S (sSt S) (fun k => shf (sR S k) jb p9) (sN S))) (sR (uPush S (sSt S) (fun k => shf (sR S k) jb p9) (sN S))) (sN (uPush S (sSt S) (fun k => shf (sR S k) jb p9) (sN S))) p9 3) : Int32) = nI (sR S 3 jb) from (congrArg nI (show shf (sR S 3) jb p9 p9 = sR S 3 jb from if_pos rfl))) ?_
      refine z_iload C 13 rfl dL_isStep_501 503 rfl ?_
      refine z_icmpI_ne C 510 dL_isStep_503 (by decide) 506 rfl (fun c_19 => absurd (show (nI (sR S 3 jb) : Int32) = nI kd from (congrArg nI (by omega))) c_19) (fun c_19 => ?_)
      refine z_iconst C (v := nI 1) rfl dL_isStep_506 507 rfl ?_
      refine z_goto C 511 dL_isStep_507 (by decide) ?_
      refine z_eq (st2 := [.int (bI true)]) ?_ rfl rfl rfl
      exact z_bret C hRx dL_isStep_511 (uPush S (sSt S) (fun k => shf (sR S k) jb p9) (sN S), J2_18, uPush T (sSt T) (fun k => shf (sR T k) jb p9) (sN T), J2_11) rfl (⟨hI2, hIT2, hRel2⟩) rfl
  refine z_iload C 5 rfl dL_isStep_396 398 rfl ?_
  refine z_if_ne C (by omega) 405 dL_isStep_398 (by decide) 401 rfl (fun c_20 => ?_) (fun c_20 => ?_)
  · skip
    refine z_iload_n C 3 rfl rfl dL_isStep_405 406 rfl ?_
    refine z_iload C 5 rfl dL_isStep_406 408 rfl ?_
    refine z_callP C [.int w, .int (nI (sN S))] [] (tL_up K.l K.g w (sN S) (by omega) (by omega)) gL_isStep_L_up rfl rfl rfl hdL_up ⟨Nat.le_of_ble_eq_true rfl, Nat.le_of_ble_eq_true rfl⟩ ⟨Nat.zero_le _, Nat.zero_le _⟩ rfl rfl (Nat.le_of_ble_eq_true rfl) dL_isStep_408 411 rfl (fun u9 hu9 => ?_)
    show Z K 0 0 [wO K.g x a S J, wO K.g y b T Jp] [(0, .ref (x 0)), (1, .ref (y 0)), (2, .int v), (3, .int w), (4, .int z), (5, .int (nI (sN S))), (6, .int (nI jb)), (7, .int (nI pl)), (8, .int (nI sh)), (9, .int (nI hu)), (10, .int (nI du))] 411 [.int (nI (upN w (sN S)))]
    refine z_nm (fun u1 eu1 => ?_)
    have hu_u1 : u1 < sN S := by rw [eu1]; exact upN_lt (by omega)
    exact jnm u1 (by omega)
  · skip
    refine z_iconst C (v := nI 0) rfl dL_isStep_401 402 rfl ?_
    refine z_goto C 411 dL_isStep_402 (by decide) ?_
    exact jnm 0 (by omega)

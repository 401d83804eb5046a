/-! IW: isWell. -/
theorem sub_ge {a b c : Nat} (hc : c = a - b) (ha : a < 2 ^ 30) (hb : b < 2 ^ 30) (h : 0 ≤ nI a - nI b) : nI a - nI b = nI c := by
  have h2 : b ≤ a := by
    rw [Int32.le_iff_toInt_le, pk_sub_toInt ha hb, Int32.toInt_zero] at h
    omega
  rw [hc]
  exact pk_sub h2
theorem sub_lt {a b c : Nat} (hc : c = a - b) (ha : a < 2 ^ 30) (hb : b < 2 ^ 30) (h : ¬ 0 ≤ nI a - nI b) : nI 0 = nI c := by
  have h2 : a < b := by
    rw [Int32.le_iff_toInt_le, pk_sub_toInt ha hb, Int32.toInt_zero] at h
    omega
  rw [hc, show a - b = 0 by omega]
theorem hdX4_at : yX4_at.cls = RX4 ∧ yX4_at.cls ≠ "java/lang/invoke/MethodHandle" ∧ yX4_at.cls ≠ "java/lang/invoke/VarHandle" ∧ (parseMethodDescriptor yX4_at.desc).map (fun d => d.parameters.length) = some 2 := by decide +kernel
theorem hdX4_count : yX4_count.cls = RX4 ∧ yX4_count.cls ≠ "java/lang/invoke/MethodHandle" ∧ yX4_count.cls ≠ "java/lang/invoke/VarHandle" ∧ (parseMethodDescriptor yX4_count.desc).map (fun d => d.parameters.length) = some 1 := by decide +kernel
theorem hdX4_jobOf : yX4_jobOf.cls = RX4 ∧ yX4_jobOf.cls ≠ "java/lang/invoke/MethodHandle" ∧ yX4_jobOf.cls ≠ "java/lang/invoke/VarHandle" ∧ (parseMethodDescriptor yX4_jobOf.desc).map (fun d => d.parameters.length) = some 2 := by decide +kernel
theorem hdX4_leastRacks : yX4_leastRacks.cls = RX4 ∧ yX4_leastRacks.cls ≠ "java/lang/invoke/MethodHandle" ∧ yX4_leastRacks.cls ≠ "java/lang/invoke/VarHandle" ∧ (parseMethodDescriptor yX4_leastRacks.desc).map (fun d => d.parameters.length) = some 0 := by decide +kernel
set_option maxHeartbeats 4000000 in
set_option maxRecDepth 100000 in
theorem tL_isWell (l : Launch) (g : zG) (x : Nat → Nat) (a : oA) (S : oS) (J : oJ) (hI : INV S) : Met l yL_isWell wsL_isWell ({ frames := 5, cells := 0, slots := 0, locals := 117 } : Room) (zPreE g eAll [.ref (x 0)] [wO g x a S J]) (zQ g (fun J2 : oJ => some (.int (bI true)) ) (fun J2 : oJ => True) (fun J2 : oJ => [wO g x a S J2]) (zA [wO g x a S J])) 0 0 (zA [wO g x a S J]) := by
  refine z_entryE (cc := cL_isWell) (maxL := 13) (ret := (some .boolean)) (own := RL) (by decide) rfl rfl (Nat.le_of_ble_eq_true rfl) [(0, .ref (x 0))] rfl ?_
  intro K hKl hKg hnL C hRx hE
  subst hKl
  subst hKg
  obtain ⟨heSet, heOrd⟩ := hE
  obtain ⟨hn, hS, hJ, hR⟩ := id hI.1
  have h5b := hS.2.2.2.2.2.2.2.1
  have h4b := hS.2.2.2.2.2.1
  refine z_aload_n C 0 rfl rfl dL_isWell_0 1 rfl ?_
  refine z_bipush C (v := nI 7) rfl dL_isWell_1 3 rfl ?_
  refine z_callV C [.int (nI 7)] [] (tO_count K.l K.g x a S J 7 (by first | omega | assumption) (by first | omega | assumption)) gL_isWell_X4_count rfl rfl rfl hdX4_count ⟨Nat.le_of_ble_eq_true rfl, Nat.le_of_ble_eq_true rfl⟩ ⟨Nat.zero_le _, Nat.zero_le _⟩ 0 0 rfl rfl rfl [0] rfl rfl (zlc (N := 1) rfl rfl) [1] rfl (by decide) (fun J2 : oJ => [wO K.g x a S J2]) (fun _ => rfl) rfl rfl (Nat.le_of_ble_eq_true rfl) dL_isWell_3 6 rfl (fun u9 hu9 => ?_)
  obtain ⟨J2_1, rfl⟩ : ∃ z, z = u9 := ⟨_, rfl⟩
  show Z K 0 0 [wO K.g x a S J2_1] [(0, .ref (x 0))] 6 [.int (nI (CN (sSt S) (sR S) (sN S) (sLen S) (sKp S) 7))]
  refine z_top (show (nI (CN (sSt S) (sR S) (sN S) (sLen S) (sKp S) 7) : Int32) = nI (sN S) from rfl) ?_
  refine z_istore_n C hnL [1, 0] [(0, .ref (x 0)), (1, .int (nI (sN S)))] rfl rfl (Nat.le_of_ble_eq_true rfl) dL_isWell_6 7 rfl ?_
  refine z_iconst C (v := nI 0) rfl dL_isWell_7 8 rfl ?_
  refine z_istore_n C hnL [1, 2, 0] [(0, .ref (x 0)), (1, .int (nI (sN S))), (2, .int (nI 0))] rfl rfl (Nat.le_of_ble_eq_true rfl) dL_isWell_8 9 rfl ?_
  refine z_iconst C (v := nI 0) rfl dL_isWell_9 10 rfl ?_
  refine z_istore_n C hnL [1, 2, 3, 0] [(0, .ref (x 0)), (1, .int (nI (sN S))), (2, .int (nI 0)), (3, .int (nI 0))] rfl rfl (Nat.le_of_ble_eq_true rfl) dL_isWell_10 11 rfl ?_
  refine z_iconst C (v := nI 0) rfl dL_isWell_11 12 rfl ?_
  refine z_istore C hnL [1, 2, 3, 4, 0] [(0, .ref (x 0)), (1, .int (nI (sN S))), (2, .int (nI 0)), (3, .int (nI 0)), (4, .int (nI 0))] rfl (Nat.le_of_ble_eq_true rfl) dL_isWell_12 14 rfl ?_
  refine z_iconst C (v := nI 0) rfl dL_isWell_14 15 rfl ?_
  refine z_istore C hnL [1, 2, 3, 4, 5, 0] [(0, .ref (x 0)), (1, .int (nI (sN S))), (2, .int (nI 0)), (3, .int (nI 0)), (4, .int (nI 0)), (5, .int (nI 0))] rfl (Nat.le_of_ble_eq_true rfl) dL_isWell_15 17 rfl ?_
  refine z_iconst C (v := nI 0) rfl dL_isWell_17 18 rfl ?_
  refine z_istore C hnL [1, 2, 3, 4, 5, 6, 0] [(0, .ref (x 0)), (1, .int (nI (sN S))), (2, .int (nI 0)), (3, .int (nI 0)), (4, .int (nI 0)), (5, .int (nI 0)), (6, .int (nI 0))] rfl (Nat.le_of_ble_eq_true rfl) dL_isWell_18 20 rfl ?_
  refine z_iconst C (v := nI 1) rfl dL_isWell_20 21 rfl ?_
  refine z_istore C hnL [1, 2, 3, 4, 5, 6, 7, 0] [(0, .ref (x 0)), (1, .int (nI (sN S))), (2, .int (nI 0)), (3, .int (nI 0)), (4, .int (nI 0)), (5, .int (nI 0)), (6, .int (nI 0)), (7, .int (nI 1))] rfl (Nat.le_of_ble_eq_true rfl) dL_isWell_21 23 rfl ?_
  refine z_iconst C (v := nI 0) rfl dL_isWell_23 24 rfl ?_
  refine z_istore C hnL [1, 2, 3, 4, 5, 6, 7, 8, 0] [(0, .ref (x 0)), (1, .int (nI (sN S))), (2, .int (nI 0)), (3, .int (nI 0)), (4, .int (nI 0)), (5, .int (nI 0)), (6, .int (nI 0)), (7, .int (nI 1)), (8, .int (nI 0))] rfl (Nat.le_of_ble_eq_true rfl) dL_isWell_24 26 rfl ?_
  have loop26 : ∀ (mu : Nat) (j : Nat) (f : Nat) (mo : Nat) (wa : Nat) (la : Nat) (ws : Nat) (J : oJ), mu = sN S - j → j ≤ sN S → f = fre (PP (sSt S) (sR S) (sSt S 5) (sN S)) j → mo = mx (PT (sSt S) (sR S) (sSt S 5) (sN S)) j → mo ≤ 20 → wa = sm (PW (sSt S) (sR S) (sSt S 5) (sN S)) j → la = sm (PL (sSt S) (sR S) (sSt S 5) (sN S)) j → ws = sm (wsh (sSt S) (sR S)) j → Z K 0 0 [wO K.g x a S J] [(0, .ref (x 0)), (1, .int (nI (sN S))), (2, .int (nI f)), (3, .int (nI mo)), (4, .int (nI wa)), (5, .int (nI la)), (6, .int (nI ws)), (7, .int (nI 1)), (8, .int (nI j))] 26 [] := by
    refine z_ind (fun mu ih26 => ?_)
    intro j f mo wa la ws J hmu26 hj hf hmo hm2 hwa hla hws
    refine z_iload C 8 rfl dL_isWell_26 28 rfl ?_
    refine z_iload_n C 1 rfl rfl dL_isWell_28 29 rfl ?_
    refine z_icmp_ge C (by omega) (by omega) 349 dL_isWell_29 (by decide) 32 rfl (fun c_2 => ?_) (fun c_2 => ?_)
    · skip
      have hjn : j = sN S := by omega
      rw [hjn] at hf hmo hwa hla hws
      have hen := W_endle hS hJ hR hn
      have hwb : sm (PW (sSt S) (sR S) (sSt S 5) (sN S)) (sN S) ≤ sN S * 20000 := sm_le (sN S) (fun i hi => by have h9 := WJ hS hJ hR hi; omega)
      refine z_iload C 7 rfl dL_isWell_349 351 rfl ?_
      refine z_if_eq C (by omega) 457 dL_isWell_351 (by decide) 354 rfl (fun c_3 => ?_) (fun c_3 => ?_)
      · exfalso; omega
      refine z_iload_n C 2 rfl rfl dL_isWell_354 355 rfl ?_
      refine z_aload_n C 0 rfl rfl dL_isWell_355 356 rfl ?_
      refine z_bipush C (v := nI 9) rfl dL_isWell_356 358 rfl ?_
      refine z_callV C [.int (nI 9)] [.int (nI f)] (tO_count K.l K.g x a S J 9 (by first | omega | assumption) (by first | omega | assumption)) gL_isWell_X4_count rfl rfl rfl hdX4_count ⟨Nat.le_of_ble_eq_true rfl, Nat.le_of_ble_eq_true rfl⟩ ⟨Nat.zero_le _, Nat.zero_le _⟩ 0 0 rfl rfl rfl [0] rfl rfl (zlc (N := 1) rfl rfl) [1] rfl (by decide) (fun J2 : oJ => [wO K.g x a S J2]) (fun _ => rfl) rfl rfl (Nat.le_of_ble_eq_true rfl) dL_isWell_358 361 rfl (fun u9 hu9 => ?_)
      obtain ⟨J2_4, rfl⟩ : ∃ z, z = u9 := ⟨_, rfl⟩
      show Z K 0 0 [wO K.g x a S J2_4] [(0, .ref (x 0)), (1, .int (nI (sN S))), (2, .int (nI f)), (3, .int (nI mo)), (4, .int (nI wa)), (5, .int (nI la)), (6, .int (nI ws)), (7, .int (nI 1)), (8, .int (nI j))] 361 [.int (nI (CN (sSt S) (sR S) (sN S) (sLen S) (sKp S) 9)), .int (nI f)]
      refine z_top (show (nI (CN (sSt S) (sR S) (sN S) (sLen S) (sKp S) 9) : Int32) = nI (fre (PP (sSt S) (sR S) (sSt S 5) (sN S)) (sN S)) from rfl) ?_
      refine z_icmpI_ne C 457 dL_isWell_361 (by decide) 364 rfl (fun c_5 => absurd (show (nI f : Int32) = nI (fre (PP (sSt S) (sR S) (sSt S 5) (sN S)) (sN S)) from (congrArg nI (by omega))) c_5) (fun c_5 => ?_)
      refine z_iload_n C 3 rfl rfl dL_isWell_364 365 rfl ?_
      refine z_aload_n C 0 rfl rfl dL_isWell_365 366 rfl ?_
      refine z_bipush C (v := nI 17) rfl dL_isWell_366 368 rfl ?_
      refine z_callV C [.int (nI 17)] [.int (nI mo)] (tO_count K.l K.g x a S J2_4 17 (by first | omega | assumption) (by first | omega | assumption)) gL_isWell_X4_count rfl rfl rfl hdX4_count ⟨Nat.le_of_ble_eq_true rfl, Nat.le_of_ble_eq_true rfl⟩ ⟨Nat.zero_le _, Nat.zero_le _⟩ 0 0 rfl rfl rfl [0] rfl rfl (zlc (N := 1) rfl rfl) [1] rfl (by decide) (fun J2 : oJ => [wO K.g x a S J2]) (fun _ => rfl) rfl rfl (Nat.le_of_ble_eq_true rfl) dL_isWell_368 371 rfl (fun u9 hu9 => ?_)
      obtain ⟨J2_6, rfl⟩ : ∃ z, z = u9 := ⟨_, rfl⟩
      show Z K 0 0 [wO K.g x a S J2_6] [(0, .ref (x 0)), (1, .int (nI (sN S))), (2, .int (nI f)), (3, .int (nI mo)), (4, .int (nI wa)), (5, .int (nI la)), (6, .int (nI ws)), (7, .int (nI 1)), (8, .int (nI j))] 371 [.int (nI (CN (sSt S) (sR S) (sN S) (sLen S) (sKp S) 17)), .int (nI mo)]
      refine z_top (show (nI (CN (sSt S) (sR S) (sN S) (sLen S) (sKp S) 17) : Int32) = nI (mx (PT (sSt S) (sR S) (sSt S 5) (sN S)) (sN S)) from rfl) ?_
      refine z_icmpI_ne C 457 dL_isWell_371 (by decide) 374 rfl (fun c_7 => absurd (show (nI mo : Int32) = nI (mx (PT (sSt S) (sR S) (sSt S 5) (sN S)) (sN S)) from (congrArg nI (by omega))) c_7) (fun c_7 => ?_)
      refine z_iload C 4 rfl dL_isWell_374 376 rfl ?_
      refine z_aload_n C 0 rfl rfl dL_isWell_376 377 rfl ?_
      refine z_bipush C (v := nI 16) rfl dL_isWell_377 379 rfl ?_
      refine z_callV C [.int (nI 16)] [.int (nI wa)] (tO_count K.l K.g x a S J2_6 16 (by first | omega | assumption) (by first | omega | assumption)) gL_isWell_X4_count rfl rfl rfl hdX4_count ⟨Nat.le_of_ble_eq_true rfl, Nat.le_of_ble_eq_true rfl⟩ ⟨Nat.zero_le _, Nat.zero_le _⟩ 0 0 rfl rfl rfl [0] rfl rfl (zlc (N := 1) rfl rfl) [1] rfl (by decide) (fun J2 : oJ => [wO K.g x a S J2]) (fun _ => rfl) rfl rfl (Nat.le_of_ble_eq_true rfl) dL_isWell_379 382 rfl (fun u9 hu9 => ?_)
      obtain ⟨J2_8, rfl⟩ : ∃ z, z = u9 := ⟨_, rfl⟩
      show Z K 0 0 [wO K.g x a S J2_8] [(0, .ref (x 0)), (1, .int (nI (sN S))), (2, .int (nI f)), (3, .int (nI mo)), (4, .int (nI wa)), (5, .int (nI la)), (6, .int (nI ws)), (7, .int (nI 1)), (8, .int (nI j))] 382 [.int (nI (CN (sSt S) (sR S) (sN S) (sLen S) (sKp S) 16)), .int (nI wa)]
      refine z_top (show (nI (CN (sSt S) (sR S) (sN S) (sLen S) (sKp S) 16) : Int32) = nI (sm (PW (sSt S) (sR S) (sSt S 5) (sN S)) (sN S)) from rfl) ?_
      refine z_icmpI_ne C 457 dL_isWell_382 (by decide) 385 rfl (fun c_9 => absurd (show (nI wa : Int32) = nI (sm (PW (sSt S) (sR S) (sSt S 5) (sN S)) (sN S)) from (congrArg nI (by omega))) c_9) (fun c_9 => ?_)
      refine z_iload C 5 rfl dL_isWell_385 387 rfl ?_
      refine z_aload_n C 0 rfl rfl dL_isWell_387 388 rfl ?_
      refine z_bipush C (v := nI 12) rfl dL_isWell_388 390 rfl ?_
      refine z_callV C [.int (nI 12)] [.int (nI la)] (tO_count K.l K.g x a S J2_8 12 (by first | omega | assumption) (by first | omega | assumption)) gL_isWell_X4_count rfl rfl rfl hdX4_count ⟨Nat.le_of_ble_eq_true rfl, Nat.le_of_ble_eq_true rfl⟩ ⟨Nat.zero_le _, Nat.zero_le _⟩ 0 0 rfl rfl rfl [0] rfl rfl (zlc (N := 1) rfl rfl) [1] rfl (by decide) (fun J2 : oJ => [wO K.g x a S J2]) (fun _ => rfl) rfl rfl (Nat.le_of_ble_eq_true rfl) dL_isWell_390 393 rfl (fun u9 hu9 => ?_)
      obtain ⟨J2_10, rfl⟩ : ∃ z, z = u9 := ⟨_, rfl⟩
      show Z K 0 0 [wO K.g x a S J2_10] [(0, .ref (x 0)), (1, .int (nI (sN S))), (2, .int (nI f)), (3, .int (nI mo)), (4, .int (nI wa)), (5, .int (nI la)), (6, .int (nI ws)), (7, .int (nI 1)), (8, .int (nI j))] 393 [.int (nI (CN (sSt S) (sR S) (sN S) (sLen S) (sKp S) 12)), .int (nI la)]
      refine z_top (show (nI (CN (sSt S) (sR S) (sN S) (sLen S) (sKp S) 12) : Int32) = nI (sm (PL (sSt S) (sR S) (sSt S 5) (sN S)) (sN S)) from rfl) ?_
      refine z_icmpI_ne C 457 dL_isWell_393 (by decide) 396 rfl (fun c_11 => absurd (show (nI la : Int32) = nI (sm (PL (sSt S) (sR S) (sSt S 5) (sN S)) (sN S)) from (congrArg nI (by omega))) c_11) (fun c_11 => ?_)
      refine z_iload C 6 rfl dL_isWell_396 398 rfl ?_
      refine z_aload_n C 0 rfl rfl dL_isWell_398 399 rfl ?_
      refine z_bipush C (v := nI 14) rfl dL_isWell_399 401 rfl ?_
      refine z_callV C [.int (nI 14)] [.int (nI ws)] (tO_count K.l K.g x a S J2_10 14 (by first | omega | assumption) (by first | omega | assumption)) gL_isWell_X4_count rfl rfl rfl hdX4_count ⟨Nat.le_of_ble_eq_true rfl, Nat.le_of_ble_eq_true rfl⟩ ⟨Nat.zero_le _, Nat.zero_le _⟩ 0 0 rfl rfl rfl [0] rfl rfl (zlc (N := 1) rfl rfl) [1] rfl (by decide) (fun J2 : oJ => [wO K.g x a S J2]) (fun _ => rfl) rfl rfl (Nat.le_of_ble_eq_true rfl) dL_isWell_401 404 rfl (fun u9 hu9 => ?_)
      obtain ⟨J2_12, rfl⟩ : ∃ z, z = u9 := ⟨_, rfl⟩
      show Z K 0 0 [wO K.g x a S J2_12] [(0, .ref (x 0)), (1, .int (nI (sN S))), (2, .int (nI f)), (3, .int (nI mo)), (4, .int (nI wa)), (5, .int (nI la)), (6, .int (nI ws)), (7, .int (nI 1)), (8, .int (nI j))] 404 [.int (nI (CN (sSt S) (sR S) (sN S) (sLen S) (sKp S) 14)), .int (nI ws)]
      refine z_top (show (nI (CN (sSt S) (sR S) (sN S) (sLen S) (sKp S) 14) : Int32) = nI (sm (wsh (sSt S) (sR S)) (sN S)) from rfl) ?_
      refine z_icmpI_ne C 457 dL_isWell_404 (by decide) 407 rfl (fun c_13 => absurd (show (nI ws : Int32) = nI (sm (wsh (sSt S) (sR S)) (sN S)) from (congrArg nI (by omega))) c_13) (fun c_13 => ?_)
      refine z_aload_n C 0 rfl rfl dL_isWell_407 408 rfl ?_
      refine z_aload_n C 0 rfl rfl dL_isWell_408 409 rfl ?_
      refine z_bipush C (v := nI 10) rfl dL_isWell_409 411 rfl ?_
      refine z_callV C [.int (nI 10)] [.ref (x 0)] (tO_count K.l K.g x a S J2_12 10 (by first | omega | assumption) (by first | omega | assumption)) gL_isWell_X4_count rfl rfl rfl hdX4_count ⟨Nat.le_of_ble_eq_true rfl, Nat.le_of_ble_eq_true rfl⟩ ⟨Nat.zero_le _, Nat.zero_le _⟩ 0 0 rfl rfl rfl [0] rfl rfl (zlc (N := 1) rfl rfl) [1] rfl (by decide) (fun J2 : oJ => [wO K.g x a S J2]) (fun _ => rfl) rfl rfl (Nat.le_of_ble_eq_true rfl) dL_isWell_411 414 rfl (fun u9 hu9 => ?_)
      obtain ⟨J2_14, rfl⟩ : ∃ z, z = u9 := ⟨_, rfl⟩
      show Z K 0 0 [wO K.g x a S J2_14] [(0, .ref (x 0)), (1, .int (nI (sN S))), (2, .int (nI f)), (3, .int (nI mo)), (4, .int (nI wa)), (5, .int (nI la)), (6, .int (nI ws)), (7, .int (nI 1)), (8, .int (nI j))] 414 [.int (nI (CN (sSt S) (sR S) (sN S) (sLen S) (sKp S) 10)), .ref (x 0)]
      refine z_top (show (nI (CN (sSt S) (sR S) (sN S) (sLen S) (sKp S) 10) : Int32) = nI (fre (PD (sSt S) (sR S) (sSt S 5) (sN S)) (sN S)) from rfl) ?_
      refine z_iconst C (v := nI 3) rfl dL_isWell_414 415 rfl ?_
      refine z_callV C [.int (nI (fre (PD (sSt S) (sR S) (sSt S 5) (sN S)) (sN S))), .int (nI 3)] [] (tO_at K.l K.g x a S J2_14 (fre (PD (sSt S) (sR S) (sSt S 5) (sN S)) (sN S)) 3 (by first | omega | assumption) (by first | omega | assumption) (by first | omega | assumption)) gL_isWell_X4_at rfl rfl rfl hdX4_at ⟨Nat.le_of_ble_eq_true rfl, Nat.le_of_ble_eq_true rfl⟩ ⟨Nat.zero_le _, Nat.zero_le _⟩ 0 0 rfl rfl rfl [0] rfl rfl (zlc (N := 1) rfl rfl) [1] rfl (by decide) (fun J2 : oJ => [wO K.g x a S J2]) (fun _ => rfl) rfl rfl (Nat.le_of_ble_eq_true rfl) dL_isWell_415 418 rfl (fun u9 hu9 => ?_)
      obtain ⟨J2_15, rfl⟩ : ∃ z, z = u9 := ⟨_, rfl⟩
      show Z K 0 0 [wO K.g x a S J2_15] [(0, .ref (x 0)), (1, .int (nI (sN S))), (2, .int (nI f)), (3, .int (nI mo)), (4, .int (nI wa)), (5, .int (nI la)), (6, .int (nI ws)), (7, .int (nI 1)), (8, .int (nI j))] 418 [.int (AT (sSt S) (sR S) (sN S) (fre (PD (sSt S) (sR S) (sSt S 5) (sN S)) (sN S)) 3)]
      refine z_top (show (AT (sSt S) (sR S) (sN S) (fre (PD (sSt S) (sR S) (sSt S 5) (sN S)) (sN S)) 3 : Int32) = nI (sN S) from (W_end3 hS hJ hR)) ?_
      refine z_iload_n C 1 rfl rfl dL_isWell_418 419 rfl ?_
      refine z_icmpI_ne C 457 dL_isWell_419 (by decide) 422 rfl (fun c_16 => absurd (show (nI (sN S) : Int32) = nI (sN S) from rfl) c_16) (fun c_16 => ?_)
      refine z_aload_n C 0 rfl rfl dL_isWell_422 423 rfl ?_
      refine z_aload_n C 0 rfl rfl dL_isWell_423 424 rfl ?_
      refine z_bipush C (v := nI 10) rfl dL_isWell_424 426 rfl ?_
      refine z_callV C [.int (nI 10)] [.ref (x 0)] (tO_count K.l K.g x a S J2_15 10 (by first | omega | assumption) (by first | omega | assumption)) gL_isWell_X4_count rfl rfl rfl hdX4_count ⟨Nat.le_of_ble_eq_true rfl, Nat.le_of_ble_eq_true rfl⟩ ⟨Nat.zero_le _, Nat.zero_le _⟩ 0 0 rfl rfl rfl [0] rfl rfl (zlc (N := 1) rfl rfl) [1] rfl (by decide) (fun J2 : oJ => [wO K.g x a S J2]) (fun _ => rfl) rfl rfl (Nat.le_of_ble_eq_true rfl) dL_isWell_426 429 rfl (fun u9 hu9 => ?_)
      obtain ⟨J2_17, rfl⟩ : ∃ z, z = u9 := ⟨_, rfl⟩
      show Z K 0 0 [wO K.g x a S J2_17] [(0, .ref (x 0)), (1, .int (nI (sN S))), (2, .int (nI f)), (3, .int (nI mo)), (4, .int (nI wa)), (5, .int (nI la)), (6, .int (nI ws)), (7, .int (nI 1)), (8, .int (nI j))] 429 [.int (nI (CN (sSt S) (sR S) (sN S) (sLen S) (sKp S) 10)), .ref (x 0)]
      refine z_top (show (nI (CN (sSt S) (sR S) (sN S) (sLen S) (sKp S) 10) : Int32) = nI (fre (PD (sSt S) (sR S) (sSt S 5) (sN S)) (sN S)) from rfl) ?_
      refine z_iconst C (v := nI 1) rfl dL_isWell_429 430 rfl ?_
      refine z_callV C [.int (nI (fre (PD (sSt S) (sR S) (sSt S 5) (sN S)) (sN S))), .int (nI 1)] [] (tO_at K.l K.g x a S J2_17 (fre (PD (sSt S) (sR S) (sSt S 5) (sN S)) (sN S)) 1 (by first | omega | assumption) (by first | omega | assumption) (by first | omega | assumption)) gL_isWell_X4_at rfl rfl rfl hdX4_at ⟨Nat.le_of_ble_eq_true rfl, Nat.le_of_ble_eq_true rfl⟩ ⟨Nat.zero_le _, Nat.zero_le _⟩ 0 0 rfl rfl rfl [0] rfl rfl (zlc (N := 1) rfl rfl) [1] rfl (by decide) (fun J2 : oJ => [wO K.g x a S J2]) (fun _ => rfl) rfl rfl (Nat.le_of_ble_eq_true rfl) dL_isWell_430 433 rfl (fun u9 hu9 => ?_)
      obtain ⟨J2_18, rfl⟩ : ∃ z, z = u9 := ⟨_, rfl⟩
      show Z K 0 0 [wO K.g x a S J2_18] [(0, .ref (x 0)), (1, .int (nI (sN S))), (2, .int (nI f)), (3, .int (nI mo)), (4, .int (nI wa)), (5, .int (nI la)), (6, .int (nI ws)), (7, .int (nI 1)), (8, .int (nI j))] 433 [.int (AT (sSt S) (sR S) (sN S) (fre (PD (sSt S) (sR S) (sSt S 5) (sN S)) (sN S)) 1)]
      refine z_top (show (AT (sSt S) (sR S) (sN S) (fre (PD (sSt S) (sR S) (sSt S 5) (sN S)) (sN S)) 1 : Int32) = nI 0 from (W_end1 hS hJ hR)) ?_
      refine z_if_ne C (by omega) 457 dL_isWell_433 (by decide) 436 rfl (fun c_19 => ?_) (fun c_19 => ?_)
      · exfalso; omega
      refine z_iload C 4 rfl dL_isWell_436 438 rfl ?_
      refine z_if_gt C (by omega) 453 dL_isWell_438 (by decide) 441 rfl (fun c_20 => ?_) (fun c_20 => ?_)
      · skip
        refine z_iconst C (v := nI 1) rfl dL_isWell_453 454 rfl ?_
        refine z_goto C 458 dL_isWell_454 (by decide) ?_
        refine z_eq (st2 := [.int (bI true)]) ?_ rfl rfl rfl
        exact z_bret C hRx dL_isWell_458 J2_18 rfl trivial rfl
      · skip
        obtain ⟨y9, hy9, ey9⟩ := W_least hS hR (by omega)
        refine z_aload_n C 0 rfl rfl dL_isWell_441 442 rfl ?_
        refine z_callVE (E := eSet) (fun _ _ _ e e2 h => eSet.same e e2 h) (fun _ _ _ hS9 hW9 hAB => eSet.later heSet hS9 hW9 hAB) C [] [] (tO_leastRacks K.l K.g x a S J2_18 (by first | omega | assumption)) gL_isWell_X4_leastRacks rfl rfl rfl hdX4_leastRacks ⟨Nat.le_of_ble_eq_true rfl, Nat.le_of_ble_eq_true rfl⟩ ⟨Nat.zero_le _, Nat.zero_le _⟩ 0 0 rfl rfl rfl [0] rfl rfl (zlc (N := 1) rfl rfl) [1] rfl (by decide) (fun J2 : oJ => [wO K.g x a S J2]) (fun _ => rfl) rfl rfl (Nat.le_of_ble_eq_true rfl) dL_isWell_442 445 rfl (fun u9 hu9 => ?_)
        obtain ⟨J2_21, rfl⟩ : ∃ z, z = u9 := ⟨_, rfl⟩
        show Z K 0 0 [wO K.g x a S J2_21] [(0, .ref (x 0)), (1, .int (nI (sN S))), (2, .int (nI f)), (3, .int (nI mo)), (4, .int (nI wa)), (5, .int (nI la)), (6, .int (nI ws)), (7, .int (nI 1)), (8, .int (nI j))] 445 [.int (lrF (sSt S) (sR S) (sN S) 4 17)]
        refine z_top (show (lrF (sSt S) (sR S) (sN S) 4 17 : Int32) = nI y9 from ey9) ?_
        refine z_aload_n C 0 rfl rfl dL_isWell_445 446 rfl ?_
        refine z_iconst C (v := nI 5) rfl dL_isWell_446 447 rfl ?_
        refine z_callV C [.int (nI 5)] [.int (nI y9)] (tO_count K.l K.g x a S J2_21 5 (by first | omega | assumption) (by first | omega | assumption)) gL_isWell_X4_count rfl rfl rfl hdX4_count ⟨Nat.le_of_ble_eq_true rfl, Nat.le_of_ble_eq_true rfl⟩ ⟨Nat.zero_le _, Nat.zero_le _⟩ 0 0 rfl rfl rfl [0] rfl rfl (zlc (N := 1) rfl rfl) [1] rfl (by decide) (fun J2 : oJ => [wO K.g x a S J2]) (fun _ => rfl) rfl rfl (Nat.le_of_ble_eq_true rfl) dL_isWell_447 450 rfl (fun u9 hu9 => ?_)
        obtain ⟨J2_22, rfl⟩ : ∃ z, z = u9 := ⟨_, rfl⟩
        show Z K 0 0 [wO K.g x a S J2_22] [(0, .ref (x 0)), (1, .int (nI (sN S))), (2, .int (nI f)), (3, .int (nI mo)), (4, .int (nI wa)), (5, .int (nI la)), (6, .int (nI ws)), (7, .int (nI 1)), (8, .int (nI j))] 450 [.int (nI (CN (sSt S) (sR S) (sN S) (sLen S) (sKp S) 5)), .int (nI y9)]
        refine z_top (show (nI (CN (sSt S) (sR S) (sN S) (sLen S) (sKp S) 5) : Int32) = nI (sSt S 5) from rfl) ?_
        refine z_icmp_gt C (by omega) (by omega) 457 dL_isWell_450 (by decide) 453 rfl (fun c_23 => ?_) (fun c_23 => ?_)
        · exfalso; omega
        refine z_iconst C (v := nI 1) rfl dL_isWell_453 454 rfl ?_
        refine z_goto C 458 dL_isWell_454 (by decide) ?_
        refine z_eq (st2 := [.int (bI true)]) ?_ rfl rfl rfl
        exact z_bret C hRx dL_isWell_458 J2_22 rfl trivial rfl
    · skip
      have hj2 : j < sN S := by omega
      obtain ⟨hw1, hw2, hw3, hw4, hw5, hw6, hw7⟩ := WJ hS hJ hR hj2
      have hPL : PL (sSt S) (sR S) (sSt S 5) (sN S) j = PD (sSt S) (sR S) (sSt S 5) (sN S) j - sR S 3 j := rfl
      have hnd := ndj_le hS hJ hj2
      refine z_aload_n C 0 rfl rfl dL_isWell_32 33 rfl ?_
      refine z_iload C 8 rfl dL_isWell_33 35 rfl ?_
      refine z_iconst C (v := nI 5) rfl dL_isWell_35 36 rfl ?_
      refine z_callV C [.int (nI j), .int (nI 5)] [] (tO_jobOf K.l K.g x a S J j 5 (by first | omega | assumption) hj2 (by first | omega | assumption)) gL_isWell_X4_jobOf rfl rfl rfl hdX4_jobOf ⟨Nat.le_of_ble_eq_true rfl, Nat.le_of_ble_eq_true rfl⟩ ⟨Nat.zero_le _, Nat.zero_le _⟩ 0 0 rfl rfl rfl [0] rfl rfl (zlc (N := 1) rfl rfl) [1] rfl (by decide) (fun J2 : oJ => [wO K.g x a S J2]) (fun _ => rfl) rfl rfl (Nat.le_of_ble_eq_true rfl) dL_isWell_36 39 rfl (fun u9 hu9 => ?_)
      obtain ⟨J2_24, rfl⟩ : ∃ z, z = u9 := ⟨_, rfl⟩
      show Z K 0 0 [wO K.g x a S J2_24] [(0, .ref (x 0)), (1, .int (nI (sN S))), (2, .int (nI f)), (3, .int (nI mo)), (4, .int (nI wa)), (5, .int (nI la)), (6, .int (nI ws)), (7, .int (nI 1)), (8, .int (nI j))] 39 [.int (nI (JO (sSt S) (sR S) (sN S) j 5))]
      refine z_top (show (nI (JO (sSt S) (sR S) (sN S) j 5) : Int32) = nI (PB (sSt S) (sR S) (sSt S 5) (sN S) j) from rfl) ?_
      refine z_nm (fun bg ebg => ?_)
      refine z_istore C hnL [1, 2, 3, 4, 5, 6, 7, 8, 9, 0] [(0, .ref (x 0)), (1, .int (nI (sN S))), (2, .int (nI f)), (3, .int (nI mo)), (4, .int (nI wa)), (5, .int (nI la)), (6, .int (nI ws)), (7, .int (nI 1)), (8, .int (nI j)), (9, .int (nI bg))] rfl (Nat.le_of_ble_eq_true rfl) dL_isWell_39 41 rfl ?_
      refine z_aload_n C 0 rfl rfl dL_isWell_41 42 rfl ?_
      refine z_iload C 8 rfl dL_isWell_42 44 rfl ?_
      refine z_bipush C (v := nI 6) rfl dL_isWell_44 46 rfl ?_
      refine z_callV C [.int (nI j), .int (nI 6)] [] (tO_jobOf K.l K.g x a S J2_24 j 6 (by first | omega | assumption) hj2 (by first | omega | assumption)) gL_isWell_X4_jobOf rfl rfl rfl hdX4_jobOf ⟨Nat.le_of_ble_eq_true rfl, Nat.le_of_ble_eq_true rfl⟩ ⟨Nat.zero_le _, Nat.zero_le _⟩ 0 0 rfl rfl rfl [0] rfl rfl (zlc (N := 1) rfl rfl) [1] rfl (by decide) (fun J2 : oJ => [wO K.g x a S J2]) (fun _ => rfl) rfl rfl (Nat.le_of_ble_eq_true rfl) dL_isWell_46 49 rfl (fun u9 hu9 => ?_)
      obtain ⟨J2_25, rfl⟩ : ∃ z, z = u9 := ⟨_, rfl⟩
      show Z K 0 0 [wO K.g x a S J2_25] [(0, .ref (x 0)), (1, .int (nI (sN S))), (2, .int (nI f)), (3, .int (nI mo)), (4, .int (nI wa)), (5, .int (nI la)), (6, .int (nI ws)), (7, .int (nI 1)), (8, .int (nI j)), (9, .int (nI bg))] 49 [.int (nI (JO (sSt S) (sR S) (sN S) j 6))]
      refine z_top (show (nI (JO (sSt S) (sR S) (sN S) j 6) : Int32) = nI (PP (sSt S) (sR S) (sSt S 5) (sN S) j) from rfl) ?_
      refine z_nm (fun pr epr => ?_)
      refine z_istore C hnL [1, 2, 3, 4, 5, 6, 7, 8, 9, 10, 0] [(0, .ref (x 0)), (1, .int (nI (sN S))), (2, .int (nI f)), (3, .int (nI mo)), (4, .int (nI wa)), (5, .int (nI la)), (6, .int (nI ws)), (7, .int (nI 1)), (8, .int (nI j)), (9, .int (nI bg)), (10, .int (nI pr))] rfl (Nat.le_of_ble_eq_true rfl) dL_isWell_49 51 rfl ?_
      refine z_aload_n C 0 rfl rfl dL_isWell_51 52 rfl ?_
      refine z_iload C 10 rfl dL_isWell_52 54 rfl ?_
      refine z_iconst C (v := nI 1) rfl dL_isWell_54 55 rfl ?_
      refine z_callV C [.int (nI pr), .int (nI 1)] [] (tO_at K.l K.g x a S J2_25 pr 1 (by first | omega | assumption) (by first | omega | assumption) (by first | omega | assumption)) gL_isWell_X4_at rfl rfl rfl hdX4_at ⟨Nat.le_of_ble_eq_true rfl, Nat.le_of_ble_eq_true rfl⟩ ⟨Nat.zero_le _, Nat.zero_le _⟩ 0 0 rfl rfl rfl [0] rfl rfl (zlc (N := 1) rfl rfl) [1] rfl (by decide) (fun J2 : oJ => [wO K.g x a S J2]) (fun _ => rfl) rfl rfl (Nat.le_of_ble_eq_true rfl) dL_isWell_55 58 rfl (fun u9 hu9 => ?_)
      obtain ⟨J2_26, rfl⟩ : ∃ z, z = u9 := ⟨_, rfl⟩
      show Z K 0 0 [wO K.g x a S J2_26] [(0, .ref (x 0)), (1, .int (nI (sN S))), (2, .int (nI f)), (3, .int (nI mo)), (4, .int (nI wa)), (5, .int (nI la)), (6, .int (nI ws)), (7, .int (nI 1)), (8, .int (nI j)), (9, .int (nI bg)), (10, .int (nI pr))] 58 [.int (AT (sSt S) (sR S) (sN S) pr 1)]
      refine z_top (show (AT (sSt S) (sR S) (sN S) pr 1 : Int32) = nI (PT (sSt S) (sR S) (sSt S 5) (sN S) j) from (by rw [epr]; exact W_at1 hS hJ hR hj2)) ?_
      refine z_nm (fun tk etk => ?_)
      refine z_istore C hnL [1, 2, 3, 4, 5, 6, 7, 8, 9, 10, 11, 0] [(0, .ref (x 0)), (1, .int (nI (sN S))), (2, .int (nI f)), (3, .int (nI mo)), (4, .int (nI wa)), (5, .int (nI la)), (6, .int (nI ws)), (7, .int (nI 1)), (8, .int (nI j)), (9, .int (nI bg)), (10, .int (nI pr)), (11, .int (nI tk))] rfl (Nat.le_of_ble_eq_true rfl) dL_isWell_58 60 rfl ?_
      refine z_aload_n C 0 rfl rfl dL_isWell_60 61 rfl ?_
      refine z_iload C 8 rfl dL_isWell_61 63 rfl ?_
      refine z_bipush C (v := nI 7) rfl dL_isWell_63 65 rfl ?_
      refine z_callV C [.int (nI j), .int (nI 7)] [] (tO_jobOf K.l K.g x a S J2_26 j 7 (by first | omega | assumption) hj2 (by first | omega | assumption)) gL_isWell_X4_jobOf rfl rfl rfl hdX4_jobOf ⟨Nat.le_of_ble_eq_true rfl, Nat.le_of_ble_eq_true rfl⟩ ⟨Nat.zero_le _, Nat.zero_le _⟩ 0 0 rfl rfl rfl [0] rfl rfl (zlc (N := 1) rfl rfl) [1] rfl (by decide) (fun J2 : oJ => [wO K.g x a S J2]) (fun _ => rfl) rfl rfl (Nat.le_of_ble_eq_true rfl) dL_isWell_65 68 rfl (fun u9 hu9 => ?_)
      obtain ⟨J2_27, rfl⟩ : ∃ z, z = u9 := ⟨_, rfl⟩
      show Z K 0 0 [wO K.g x a S J2_27] [(0, .ref (x 0)), (1, .int (nI (sN S))), (2, .int (nI f)), (3, .int (nI mo)), (4, .int (nI wa)), (5, .int (nI la)), (6, .int (nI ws)), (7, .int (nI 1)), (8, .int (nI j)), (9, .int (nI bg)), (10, .int (nI pr)), (11, .int (nI tk))] 68 [.int (nI (JO (sSt S) (sR S) (sN S) j 7))]
      refine z_top (show (nI (JO (sSt S) (sR S) (sN S) j 7) : Int32) = nI (PD (sSt S) (sR S) (sSt S 5) (sN S) j) from rfl) ?_
      refine z_nm (fun dr edr => ?_)
      refine z_aload_n C 0 rfl rfl dL_isWell_68 69 rfl ?_
      refine z_iload C 8 rfl dL_isWell_69 71 rfl ?_
      refine z_iconst C (v := nI 3) rfl dL_isWell_71 72 rfl ?_
      refine z_callV C [.int (nI j), .int (nI 3)] [.int (nI dr)] (tO_jobOf K.l K.g x a S J2_27 j 3 (by first | omega | assumption) hj2 (by first | omega | assumption)) gL_isWell_X4_jobOf rfl rfl rfl hdX4_jobOf ⟨Nat.le_of_ble_eq_true rfl, Nat.le_of_ble_eq_true rfl⟩ ⟨Nat.zero_le _, Nat.zero_le _⟩ 0 0 rfl rfl rfl [0] rfl rfl (zlc (N := 1) rfl rfl) [1] rfl (by decide) (fun J2 : oJ => [wO K.g x a S J2]) (fun _ => rfl) rfl rfl (Nat.le_of_ble_eq_true rfl) dL_isWell_72 75 rfl (fun u9 hu9 => ?_)
      obtain ⟨J2_28, rfl⟩ : ∃ z, z = u9 := ⟨_, rfl⟩
      show Z K 0 0 [wO K.g x a S J2_28] [(0, .ref (x 0)), (1, .int (nI (sN S))), (2, .int (nI f)), (3, .int (nI mo)), (4, .int (nI wa)), (5, .int (nI la)), (6, .int (nI ws)), (7, .int (nI 1)), (8, .int (nI j)), (9, .int (nI bg)), (10, .int (nI pr)), (11, .int (nI tk))] 75 [.int (nI (JO (sSt S) (sR S) (sN S) j 3)), .int (nI dr)]
      refine z_top (show (nI (JO (sSt S) (sR S) (sN S) j 3) : Int32) = nI (sR S 3 j) from rfl) ?_
      refine z_nm (fun du edu => ?_)
      refine z_isubI C dL_isWell_75 76 rfl ?_
      refine z_istore C hnL [1, 2, 3, 4, 5, 6, 7, 8, 9, 10, 11, 12, 0] [(0, .ref (x 0)), (1, .int (nI (sN S))), (2, .int (nI f)), (3, .int (nI mo)), (4, .int (nI wa)), (5, .int (nI la)), (6, .int (nI ws)), (7, .int (nI 1)), (8, .int (nI j)), (9, .int (nI bg)), (10, .int (nI pr)), (11, .int (nI tk)), (12, .int ((nI dr) - (nI du)))] rfl (Nat.le_of_ble_eq_true rfl) dL_isWell_76 78 rfl ?_
      refine z_iload C 4 rfl dL_isWell_78 80 rfl ?_
      refine z_aload_n C 0 rfl rfl dL_isWell_80 81 rfl ?_
      refine z_iload C 8 rfl dL_isWell_81 83 rfl ?_
      refine z_bipush C (v := nI 9) rfl dL_isWell_83 85 rfl ?_
      refine z_callV C [.int (nI j), .int (nI 9)] [.int (nI wa)] (tO_jobOf K.l K.g x a S J2_28 j 9 (by first | omega | assumption) hj2 (by first | omega | assumption)) gL_isWell_X4_jobOf rfl rfl rfl hdX4_jobOf ⟨Nat.le_of_ble_eq_true rfl, Nat.le_of_ble_eq_true rfl⟩ ⟨Nat.zero_le _, Nat.zero_le _⟩ 0 0 rfl rfl rfl [0] rfl rfl (zlc (N := 1) rfl rfl) [1] rfl (by decide) (fun J2 : oJ => [wO K.g x a S J2]) (fun _ => rfl) rfl rfl (Nat.le_of_ble_eq_true rfl) dL_isWell_85 88 rfl (fun u9 hu9 => ?_)
      obtain ⟨J2_29, rfl⟩ : ∃ z, z = u9 := ⟨_, rfl⟩
      show Z K 0 0 [wO K.g x a S J2_29] [(0, .ref (x 0)), (1, .int (nI (sN S))), (2, .int (nI f)), (3, .int (nI mo)), (4, .int (nI wa)), (5, .int (nI la)), (6, .int (nI ws)), (7, .int (nI 1)), (8, .int (nI j)), (9, .int (nI bg)), (10, .int (nI pr)), (11, .int (nI tk)), (12, .int ((nI dr) - (nI du)))] 88 [.int (nI (JO (sSt S) (sR S) (sN S) j 9)), .int (nI wa)]
      refine z_top (show (nI (JO (sSt S) (sR S) (sN S) j 9) : Int32) = nI (PW (sSt S) (sR S) (sSt S 5) (sN S) j) from rfl) ?_
      refine z_nm (fun w1 ew1 => ?_)
      refine z_iadd C dL_isWell_88 89 rfl ?_
      refine z_nm (fun x_30 ex_30 => ?_)
      refine z_istore C hnL [1, 2, 3, 4, 0, 5, 6, 7, 8, 9, 10, 11, 12] [(0, .ref (x 0)), (1, .int (nI (sN S))), (2, .int (nI f)), (3, .int (nI mo)), (4, .int (nI x_30)), (5, .int (nI la)), (6, .int (nI ws)), (7, .int (nI 1)), (8, .int (nI j)), (9, .int (nI bg)), (10, .int (nI pr)), (11, .int (nI tk)), (12, .int ((nI dr) - (nI du)))] rfl (Nat.le_of_ble_eq_true rfl) dL_isWell_89 91 rfl ?_
      refine z_iload C 5 rfl dL_isWell_91 93 rfl ?_
      refine z_aload_n C 0 rfl rfl dL_isWell_93 94 rfl ?_
      refine z_iload C 8 rfl dL_isWell_94 96 rfl ?_
      refine z_bipush C (v := nI 8) rfl dL_isWell_96 98 rfl ?_
      refine z_callV C [.int (nI j), .int (nI 8)] [.int (nI la)] (tO_jobOf K.l K.g x a S J2_29 j 8 (by first | omega | assumption) hj2 (by first | omega | assumption)) gL_isWell_X4_jobOf rfl rfl rfl hdX4_jobOf ⟨Nat.le_of_ble_eq_true rfl, Nat.le_of_ble_eq_true rfl⟩ ⟨Nat.zero_le _, Nat.zero_le _⟩ 0 0 rfl rfl rfl [0] rfl rfl (zlc (N := 1) rfl rfl) [1] rfl (by decide) (fun J2 : oJ => [wO K.g x a S J2]) (fun _ => rfl) rfl rfl (Nat.le_of_ble_eq_true rfl) dL_isWell_98 101 rfl (fun u9 hu9 => ?_)
      obtain ⟨J2_31, rfl⟩ : ∃ z, z = u9 := ⟨_, rfl⟩
      show Z K 0 0 [wO K.g x a S J2_31] [(0, .ref (x 0)), (1, .int (nI (sN S))), (2, .int (nI f)), (3, .int (nI mo)), (4, .int (nI x_30)), (5, .int (nI la)), (6, .int (nI ws)), (7, .int (nI 1)), (8, .int (nI j)), (9, .int (nI bg)), (10, .int (nI pr)), (11, .int (nI tk)), (12, .int ((nI dr) - (nI du)))] 101 [.int (nI (JO (sSt S) (sR S) (sN S) j 8)), .int (nI la)]
      refine z_top (show (nI (JO (sSt S) (sR S) (sN S) j 8) : Int32) = nI (PL (sSt S) (sR S) (sSt S 5) (sN S) j) from rfl) ?_
      refine z_nm (fun l1 el1 => ?_)
      refine z_iadd C dL_isWell_101 102 rfl ?_
      refine z_nm (fun x_32 ex_32 => ?_)
      refine z_istore C hnL [1, 2, 3, 4, 5, 0, 6, 7, 8, 9, 10, 11, 12] [(0, .ref (x 0)), (1, .int (nI (sN S))), (2, .int (nI f)), (3, .int (nI mo)), (4, .int (nI x_30)), (5, .int (nI x_32)), (6, .int (nI ws)), (7, .int (nI 1)), (8, .int (nI j)), (9, .int (nI bg)), (10, .int (nI pr)), (11, .int (nI tk)), (12, .int ((nI dr) - (nI du)))] rfl (Nat.le_of_ble_eq_true rfl) dL_isWell_102 104 rfl ?_
      refine z_iload C 6 rfl dL_isWell_104 106 rfl ?_
      refine z_aload_n C 0 rfl rfl dL_isWell_106 107 rfl ?_
      refine z_iload C 8 rfl dL_isWell_107 109 rfl ?_
      refine z_bipush C (v := nI 11) rfl dL_isWell_109 111 rfl ?_
      refine z_callV C [.int (nI j), .int (nI 11)] [.int (nI ws)] (tO_jobOf K.l K.g x a S J2_31 j 11 (by first | omega | assumption) hj2 (by first | omega | assumption)) gL_isWell_X4_jobOf rfl rfl rfl hdX4_jobOf ⟨Nat.le_of_ble_eq_true rfl, Nat.le_of_ble_eq_true rfl⟩ ⟨Nat.zero_le _, Nat.zero_le _⟩ 0 0 rfl rfl rfl [0] rfl rfl (zlc (N := 1) rfl rfl) [1] rfl (by decide) (fun J2 : oJ => [wO K.g x a S J2]) (fun _ => rfl) rfl rfl (Nat.le_of_ble_eq_true rfl) dL_isWell_111 114 rfl (fun u9 hu9 => ?_)
      obtain ⟨J2_33, rfl⟩ : ∃ z, z = u9 := ⟨_, rfl⟩
      show Z K 0 0 [wO K.g x a S J2_33] [(0, .ref (x 0)), (1, .int (nI (sN S))), (2, .int (nI f)), (3, .int (nI mo)), (4, .int (nI x_30)), (5, .int (nI x_32)), (6, .int (nI ws)), (7, .int (nI 1)), (8, .int (nI j)), (9, .int (nI bg)), (10, .int (nI pr)), (11, .int (nI tk)), (12, .int ((nI dr) - (nI du)))] 114 [.int (nI (JO (sSt S) (sR S) (sN S) j 11)), .int (nI ws)]
      refine z_top (show (nI (JO (sSt S) (sR S) (sN S) j 11) : Int32) = nI (wsh (sSt S) (sR S) j) from rfl) ?_
      refine z_nm (fun h1 eh1 => ?_)
      refine z_iadd C dL_isWell_114 115 rfl ?_
      refine z_nm (fun x_34 ex_34 => ?_)
      refine z_istore C hnL [1, 2, 3, 4, 5, 6, 0, 7, 8, 9, 10, 11, 12] [(0, .ref (x 0)), (1, .int (nI (sN S))), (2, .int (nI f)), (3, .int (nI mo)), (4, .int (nI x_30)), (5, .int (nI x_32)), (6, .int (nI x_34)), (7, .int (nI 1)), (8, .int (nI j)), (9, .int (nI bg)), (10, .int (nI pr)), (11, .int (nI tk)), (12, .int ((nI dr) - (nI du)))] rfl (Nat.le_of_ble_eq_true rfl) dL_isWell_115 117 rfl ?_
      refine z_iload C 11 rfl dL_isWell_117 119 rfl ?_
      refine z_iload_n C 3 rfl rfl dL_isWell_119 120 rfl ?_
      have jn1 : ∀ (mo2 : Nat), (mo2 = max mo tk) → Z K 0 0 [wO K.g x a S J2_33] [(0, .ref (x 0)), (1, .int (nI (sN S))), (2, .int (nI f)), (3, .int (nI mo)), (4, .int (nI x_30)), (5, .int (nI x_32)), (6, .int (nI x_34)), (7, .int (nI 1)), (8, .int (nI j)), (9, .int (nI bg)), (10, .int (nI pr)), (11, .int (nI tk)), (12, .int ((nI dr) - (nI du)))] 129 [.int (nI mo2)] := by
        intro mo2 hmx
        refine z_istore_n C hnL [1, 2, 3, 0, 4, 5, 6, 7, 8, 9, 10, 11, 12] [(0, .ref (x 0)), (1, .int (nI (sN S))), (2, .int (nI f)), (3, .int (nI mo2)), (4, .int (nI x_30)), (5, .int (nI x_32)), (6, .int (nI x_34)), (7, .int (nI 1)), (8, .int (nI j)), (9, .int (nI bg)), (10, .int (nI pr)), (11, .int (nI tk)), (12, .int ((nI dr) - (nI du)))] rfl rfl (Nat.le_of_ble_eq_true rfl) dL_isWell_129 130 rfl ?_
        refine z_iload C 7 rfl dL_isWell_130 132 rfl ?_
        refine z_if_eq C (by omega) 275 dL_isWell_132 (by decide) 135 rfl (fun c_35 => ?_) (fun c_35 => ?_)
        · exfalso; omega
        refine z_iload C 9 rfl dL_isWell_135 137 rfl ?_
        refine z_iload_n C 2 rfl rfl dL_isWell_137 138 rfl ?_
        refine z_aload_n C 0 rfl rfl dL_isWell_138 139 rfl ?_
        refine z_iload C 8 rfl dL_isWell_139 141 rfl ?_
        refine z_bipush C (v := nI 9) rfl dL_isWell_141 143 rfl ?_
        refine z_callV C [.int (nI j), .int (nI 9)] [.int (nI f), .int (nI bg)] (tO_jobOf K.l K.g x a S J2_33 j 9 (by first | omega | assumption) hj2 (by first | omega | assumption)) gL_isWell_X4_jobOf rfl rfl rfl hdX4_jobOf ⟨Nat.le_of_ble_eq_true rfl, Nat.le_of_ble_eq_true rfl⟩ ⟨Nat.zero_le _, Nat.zero_le _⟩ 0 0 rfl rfl rfl [0] rfl rfl (zlc (N := 1) rfl rfl) [1] rfl (by decide) (fun J2 : oJ => [wO K.g x a S J2]) (fun _ => rfl) rfl rfl (Nat.le_of_ble_eq_true rfl) dL_isWell_143 146 rfl (fun u9 hu9 => ?_)
        obtain ⟨J2_36, rfl⟩ : ∃ z, z = u9 := ⟨_, rfl⟩
        show Z K 0 0 [wO K.g x a S J2_36] [(0, .ref (x 0)), (1, .int (nI (sN S))), (2, .int (nI f)), (3, .int (nI mo2)), (4, .int (nI x_30)), (5, .int (nI x_32)), (6, .int (nI x_34)), (7, .int (nI 1)), (8, .int (nI j)), (9, .int (nI bg)), (10, .int (nI pr)), (11, .int (nI tk)), (12, .int ((nI dr) - (nI du)))] 146 [.int (nI (JO (sSt S) (sR S) (sN S) j 9)), .int (nI f), .int (nI bg)]
        refine z_top (show (nI (JO (sSt S) (sR S) (sN S) j 9) : Int32) = nI (PW (sSt S) (sR S) (sSt S 5) (sN S) j) from rfl) ?_
        refine z_nm (fun w2 ew2 => ?_)
        refine z_iadd C dL_isWell_146 147 rfl ?_
        refine z_icmpI_ne C 275 dL_isWell_147 (by decide) 150 rfl (fun c_37 => absurd (show (nI bg : Int32) = nI (f + w2) from (congrArg nI (by omega))) c_37) (fun c_37 => ?_)
        refine z_iload C 10 rfl dL_isWell_150 152 rfl ?_
        refine z_iload C 9 rfl dL_isWell_152 154 rfl ?_
        refine z_aload_n C 0 rfl rfl dL_isWell_154 155 rfl ?_
        refine z_iload C 8 rfl dL_isWell_155 157 rfl ?_
        refine z_bipush C (v := nI 10) rfl dL_isWell_157 159 rfl ?_
        refine z_callV C [.int (nI j), .int (nI 10)] [.int (nI bg), .int (nI pr)] (tO_jobOf K.l K.g x a S J2_36 j 10 (by first | omega | assumption) hj2 (by first | omega | assumption)) gL_isWell_X4_jobOf rfl rfl rfl hdX4_jobOf ⟨Nat.le_of_ble_eq_true rfl, Nat.le_of_ble_eq_true rfl⟩ ⟨Nat.zero_le _, Nat.zero_le _⟩ 0 0 rfl rfl rfl [0] rfl rfl (zlc (N := 1) rfl rfl) [1] rfl (by decide) (fun J2 : oJ => [wO K.g x a S J2]) (fun _ => rfl) rfl rfl (Nat.le_of_ble_eq_true rfl) dL_isWell_159 162 rfl (fun u9 hu9 => ?_)
        obtain ⟨J2_38, rfl⟩ : ∃ z, z = u9 := ⟨_, rfl⟩
        show Z K 0 0 [wO K.g x a S J2_38] [(0, .ref (x 0)), (1, .int (nI (sN S))), (2, .int (nI f)), (3, .int (nI mo2)), (4, .int (nI x_30)), (5, .int (nI x_32)), (6, .int (nI x_34)), (7, .int (nI 1)), (8, .int (nI j)), (9, .int (nI bg)), (10, .int (nI pr)), (11, .int (nI tk)), (12, .int ((nI dr) - (nI du)))] 162 [.int (nI (JO (sSt S) (sR S) (sN S) j 10)), .int (nI bg), .int (nI pr)]
        refine z_top (show (nI (JO (sSt S) (sR S) (sN S) j 10) : Int32) = nI (rdy (sSt S) (sR S) j) from rfl) ?_
        refine z_nm (fun rd erd => ?_)
        refine z_iadd C dL_isWell_162 163 rfl ?_
        refine z_aload_n C 0 rfl rfl dL_isWell_163 164 rfl ?_
        refine z_iconst C (v := nI 3) rfl dL_isWell_164 165 rfl ?_
        refine z_callV C [.int (nI 3)] [.int (nI (bg + rd)), .int (nI pr)] (tO_count K.l K.g x a S J2_38 3 (by first | omega | assumption) (by first | omega | assumption)) gL_isWell_X4_count rfl rfl rfl hdX4_count ⟨Nat.le_of_ble_eq_true rfl, Nat.le_of_ble_eq_true rfl⟩ ⟨Nat.zero_le _, Nat.zero_le _⟩ 0 0 rfl rfl rfl [0] rfl rfl (zlc (N := 1) rfl rfl) [1] rfl (by decide) (fun J2 : oJ => [wO K.g x a S J2]) (fun _ => rfl) rfl rfl (Nat.le_of_ble_eq_true rfl) dL_isWell_165 168 rfl (fun u9 hu9 => ?_)
        obtain ⟨J2_39, rfl⟩ : ∃ z, z = u9 := ⟨_, rfl⟩
        show Z K 0 0 [wO K.g x a S J2_39] [(0, .ref (x 0)), (1, .int (nI (sN S))), (2, .int (nI f)), (3, .int (nI mo2)), (4, .int (nI x_30)), (5, .int (nI x_32)), (6, .int (nI x_34)), (7, .int (nI 1)), (8, .int (nI j)), (9, .int (nI bg)), (10, .int (nI pr)), (11, .int (nI tk)), (12, .int ((nI dr) - (nI du)))] 168 [.int (nI (CN (sSt S) (sR S) (sN S) (sLen S) (sKp S) 3)), .int (nI (bg + rd)), .int (nI pr)]
        refine z_top (show (nI (CN (sSt S) (sR S) (sN S) (sLen S) (sKp S) 3) : Int32) = nI (sSt S 3) from rfl) ?_
        refine z_aload_n C 0 rfl rfl dL_isWell_168 169 rfl ?_
        refine z_iload C 8 rfl dL_isWell_169 171 rfl ?_
        refine z_iconst C (v := nI 2) rfl dL_isWell_171 172 rfl ?_
        refine z_callV C [.int (nI j), .int (nI 2)] [.int (nI (sSt S 3)), .int (nI (bg + rd)), .int (nI pr)] (tO_jobOf K.l K.g x a S J2_39 j 2 (by first | omega | assumption) hj2 (by first | omega | assumption)) gL_isWell_X4_jobOf rfl rfl rfl hdX4_jobOf ⟨Nat.le_of_ble_eq_true rfl, Nat.le_of_ble_eq_true rfl⟩ ⟨Nat.zero_le _, Nat.zero_le _⟩ 0 0 rfl rfl rfl [0] rfl rfl (zlc (N := 1) rfl rfl) [1] rfl (by decide) (fun J2 : oJ => [wO K.g x a S J2]) (fun _ => rfl) rfl rfl (Nat.le_of_ble_eq_true rfl) dL_isWell_172 175 rfl (fun u9 hu9 => ?_)
        obtain ⟨J2_40, rfl⟩ : ∃ z, z = u9 := ⟨_, rfl⟩
        show Z K 0 0 [wO K.g x a S J2_40] [(0, .ref (x 0)), (1, .int (nI (sN S))), (2, .int (nI f)), (3, .int (nI mo2)), (4, .int (nI x_30)), (5, .int (nI x_32)), (6, .int (nI x_34)), (7, .int (nI 1)), (8, .int (nI j)), (9, .int (nI bg)), (10, .int (nI pr)), (11, .int (nI tk)), (12, .int ((nI dr) - (nI du)))] 175 [.int (nI (JO (sSt S) (sR S) (sN S) j 2)), .int (nI (sSt S 3)), .int (nI (bg + rd)), .int (nI pr)]
        refine z_top (show (nI (JO (sSt S) (sR S) (sN S) j 2) : Int32) = nI (sR S 2 j) from rfl) ?_
        refine z_imul C dL_isWell_175 176 rfl ?_
        refine z_iadd C dL_isWell_176 177 rfl ?_
        refine z_icmpI_ne C 275 dL_isWell_177 (by decide) 180 rfl (fun c_41 => absurd (show (nI pr : Int32) = nI ((bg + rd) + ((sSt S 3) * (sR S 2 j))) from (congrArg nI (by omega))) c_41) (fun c_41 => ?_)
        refine z_aload_n C 0 rfl rfl dL_isWell_180 181 rfl ?_
        refine z_iload C 8 rfl dL_isWell_181 183 rfl ?_
        refine z_bipush C (v := nI 7) rfl dL_isWell_183 185 rfl ?_
        refine z_callV C [.int (nI j), .int (nI 7)] [] (tO_jobOf K.l K.g x a S J2_40 j 7 (by first | omega | assumption) hj2 (by first | omega | assumption)) gL_isWell_X4_jobOf rfl rfl rfl hdX4_jobOf ⟨Nat.le_of_ble_eq_true rfl, Nat.le_of_ble_eq_true rfl⟩ ⟨Nat.zero_le _, Nat.zero_le _⟩ 0 0 rfl rfl rfl [0] rfl rfl (zlc (N := 1) rfl rfl) [1] rfl (by decide) (fun J2 : oJ => [wO K.g x a S J2]) (fun _ => rfl) rfl rfl (Nat.le_of_ble_eq_true rfl) dL_isWell_185 188 rfl (fun u9 hu9 => ?_)
        obtain ⟨J2_42, rfl⟩ : ∃ z, z = u9 := ⟨_, rfl⟩
        show Z K 0 0 [wO K.g x a S J2_42] [(0, .ref (x 0)), (1, .int (nI (sN S))), (2, .int (nI f)), (3, .int (nI mo2)), (4, .int (nI x_30)), (5, .int (nI x_32)), (6, .int (nI x_34)), (7, .int (nI 1)), (8, .int (nI j)), (9, .int (nI bg)), (10, .int (nI pr)), (11, .int (nI tk)), (12, .int ((nI dr) - (nI du)))] 188 [.int (nI (JO (sSt S) (sR S) (sN S) j 7))]
        refine z_top (show (nI (JO (sSt S) (sR S) (sN S) j 7) : Int32) = nI (PD (sSt S) (sR S) (sSt S 5) (sN S) j) from rfl) ?_
        refine z_nm (fun dr2 edr2 => ?_)
        refine z_iload C 10 rfl dL_isWell_188 190 rfl ?_
        refine z_aload_n C 0 rfl rfl dL_isWell_190 191 rfl ?_
        refine z_iconst C (v := nI 4) rfl dL_isWell_191 192 rfl ?_
        refine z_callV C [.int (nI 4)] [.int (nI pr), .int (nI dr2)] (tO_count K.l K.g x a S J2_42 4 (by first | omega | assumption) (by first | omega | assumption)) gL_isWell_X4_count rfl rfl rfl hdX4_count ⟨Nat.le_of_ble_eq_true rfl, Nat.le_of_ble_eq_true rfl⟩ ⟨Nat.zero_le _, Nat.zero_le _⟩ 0 0 rfl rfl rfl [0] rfl rfl (zlc (N := 1) rfl rfl) [1] rfl (by decide) (fun J2 : oJ => [wO K.g x a S J2]) (fun _ => rfl) rfl rfl (Nat.le_of_ble_eq_true rfl) dL_isWell_192 195 rfl (fun u9 hu9 => ?_)
        obtain ⟨J2_43, rfl⟩ : ∃ z, z = u9 := ⟨_, rfl⟩
        show Z K 0 0 [wO K.g x a S J2_43] [(0, .ref (x 0)), (1, .int (nI (sN S))), (2, .int (nI f)), (3, .int (nI mo2)), (4, .int (nI x_30)), (5, .int (nI x_32)), (6, .int (nI x_34)), (7, .int (nI 1)), (8, .int (nI j)), (9, .int (nI bg)), (10, .int (nI pr)), (11, .int (nI tk)), (12, .int ((nI dr) - (nI du)))] 195 [.int (nI (CN (sSt S) (sR S) (sN S) (sLen S) (sKp S) 4)), .int (nI pr), .int (nI dr2)]
        refine z_top (show (nI (CN (sSt S) (sR S) (sN S) (sLen S) (sKp S) 4) : Int32) = nI (sSt S 4) from rfl) ?_
        refine z_iadd C dL_isWell_195 196 rfl ?_
        refine z_icmpI_ne C 275 dL_isWell_196 (by decide) 199 rfl (fun c_44 => absurd (show (nI dr2 : Int32) = nI (pr + (sSt S 4)) from (congrArg nI (by omega))) c_44) (fun c_44 => ?_)
        refine z_iload C 11 rfl dL_isWell_199 201 rfl ?_
        refine z_aload_n C 0 rfl rfl dL_isWell_201 202 rfl ?_
        refine z_iconst C (v := nI 5) rfl dL_isWell_202 203 rfl ?_
        refine z_callV C [.int (nI 5)] [.int (nI tk)] (tO_count K.l K.g x a S J2_43 5 (by first | omega | assumption) (by first | omega | assumption)) gL_isWell_X4_count rfl rfl rfl hdX4_count ⟨Nat.le_of_ble_eq_true rfl, Nat.le_of_ble_eq_true rfl⟩ ⟨Nat.zero_le _, Nat.zero_le _⟩ 0 0 rfl rfl rfl [0] rfl rfl (zlc (N := 1) rfl rfl) [1] rfl (by decide) (fun J2 : oJ => [wO K.g x a S J2]) (fun _ => rfl) rfl rfl (Nat.le_of_ble_eq_true rfl) dL_isWell_203 206 rfl (fun u9 hu9 => ?_)
        obtain ⟨J2_45, rfl⟩ : ∃ z, z = u9 := ⟨_, rfl⟩
        show Z K 0 0 [wO K.g x a S J2_45] [(0, .ref (x 0)), (1, .int (nI (sN S))), (2, .int (nI f)), (3, .int (nI mo2)), (4, .int (nI x_30)), (5, .int (nI x_32)), (6, .int (nI x_34)), (7, .int (nI 1)), (8, .int (nI j)), (9, .int (nI bg)), (10, .int (nI pr)), (11, .int (nI tk)), (12, .int ((nI dr) - (nI du)))] 206 [.int (nI (CN (sSt S) (sR S) (sN S) (sLen S) (sKp S) 5)), .int (nI tk)]
        refine z_top (show (nI (CN (sSt S) (sR S) (sN S) (sLen S) (sKp S) 5) : Int32) = nI (sSt S 5) from rfl) ?_
        refine z_icmp_gt C (by omega) (by omega) 275 dL_isWell_206 (by decide) 209 rfl (fun c_46 => ?_) (fun c_46 => ?_)
        · exfalso; omega
        refine z_aload_n C 0 rfl rfl dL_isWell_209 210 rfl ?_
        refine z_iload C 8 rfl dL_isWell_210 212 rfl ?_
        refine z_bipush C (v := nI 8) rfl dL_isWell_212 214 rfl ?_
        refine z_callV C [.int (nI j), .int (nI 8)] [] (tO_jobOf K.l K.g x a S J2_45 j 8 (by first | omega | assumption) hj2 (by first | omega | assumption)) gL_isWell_X4_jobOf rfl rfl rfl hdX4_jobOf ⟨Nat.le_of_ble_eq_true rfl, Nat.le_of_ble_eq_true rfl⟩ ⟨Nat.zero_le _, Nat.zero_le _⟩ 0 0 rfl rfl rfl [0] rfl rfl (zlc (N := 1) rfl rfl) [1] rfl (by decide) (fun J2 : oJ => [wO K.g x a S J2]) (fun _ => rfl) rfl rfl (Nat.le_of_ble_eq_true rfl) dL_isWell_214 217 rfl (fun u9 hu9 => ?_)
        obtain ⟨J2_47, rfl⟩ : ∃ z, z = u9 := ⟨_, rfl⟩
        show Z K 0 0 [wO K.g x a S J2_47] [(0, .ref (x 0)), (1, .int (nI (sN S))), (2, .int (nI f)), (3, .int (nI mo2)), (4, .int (nI x_30)), (5, .int (nI x_32)), (6, .int (nI x_34)), (7, .int (nI 1)), (8, .int (nI j)), (9, .int (nI bg)), (10, .int (nI pr)), (11, .int (nI tk)), (12, .int ((nI dr) - (nI du)))] 217 [.int (nI (JO (sSt S) (sR S) (sN S) j 8))]
        refine z_top (show (nI (JO (sSt S) (sR S) (sN S) j 8) : Int32) = nI (PL (sSt S) (sR S) (sSt S 5) (sN S) j) from rfl) ?_
        refine z_nm (fun l2 el2 => ?_)
        refine z_iload C 12 rfl dL_isWell_217 219 rfl ?_
        have jn2 : Z K 0 0 [wO K.g x a S J2_47] [(0, .ref (x 0)), (1, .int (nI (sN S))), (2, .int (nI f)), (3, .int (nI mo2)), (4, .int (nI x_30)), (5, .int (nI x_32)), (6, .int (nI x_34)), (7, .int (nI 1)), (8, .int (nI j)), (9, .int (nI bg)), (10, .int (nI pr)), (11, .int (nI tk)), (12, .int ((nI dr) - (nI du)))] 228 [.int (nI l2), .int (nI l2)] := by
          refine z_icmpI_ne C 275 dL_isWell_228 (by decide) 231 rfl (fun c_48 => absurd (show (nI l2 : Int32) = nI l2 from rfl) c_48) (fun c_48 => ?_)
          refine z_aload_n C 0 rfl rfl dL_isWell_231 232 rfl ?_
          refine z_iload C 9 rfl dL_isWell_232 234 rfl ?_
          refine z_iconst C (v := nI 0) rfl dL_isWell_234 235 rfl ?_
          refine z_callV C [.int (nI bg), .int (nI 0)] [] (tO_at K.l K.g x a S J2_47 bg 0 (by first | omega | assumption) (by first | omega | assumption) (by first | omega | assumption)) gL_isWell_X4_at rfl rfl rfl hdX4_at ⟨Nat.le_of_ble_eq_true rfl, Nat.le_of_ble_eq_true rfl⟩ ⟨Nat.zero_le _, Nat.zero_le _⟩ 0 0 rfl rfl rfl [0] rfl rfl (zlc (N := 1) rfl rfl) [1] rfl (by decide) (fun J2 : oJ => [wO K.g x a S J2]) (fun _ => rfl) rfl rfl (Nat.le_of_ble_eq_true rfl) dL_isWell_235 238 rfl (fun u9 hu9 => ?_)
          obtain ⟨J2_49, rfl⟩ : ∃ z, z = u9 := ⟨_, rfl⟩
          show Z K 0 0 [wO K.g x a S J2_49] [(0, .ref (x 0)), (1, .int (nI (sN S))), (2, .int (nI f)), (3, .int (nI mo2)), (4, .int (nI x_30)), (5, .int (nI x_32)), (6, .int (nI x_34)), (7, .int (nI 1)), (8, .int (nI j)), (9, .int (nI bg)), (10, .int (nI pr)), (11, .int (nI tk)), (12, .int ((nI dr) - (nI du)))] 238 [.int (AT (sSt S) (sR S) (sN S) bg 0)]
          refine z_top (show (AT (sSt S) (sR S) (sN S) bg 0 : Int32) = nI j from (by rw [ebg]; exact W_on hS hJ hR hj2 (Nat.le_refl _) hw3)) ?_
          refine z_iload C 8 rfl dL_isWell_238 240 rfl ?_
          refine z_icmpI_ne C 275 dL_isWell_240 (by decide) 243 rfl (fun c_50 => absurd (show (nI j : Int32) = nI j from rfl) c_50) (fun c_50 => ?_)
          refine z_aload_n C 0 rfl rfl dL_isWell_243 244 rfl ?_
          refine z_iload C 10 rfl dL_isWell_244 246 rfl ?_
          refine z_iconst C (v := nI 1) rfl dL_isWell_246 247 rfl ?_
          refine z_isub C (by omega) dL_isWell_247 248 rfl ?_
          refine z_iconst C (v := nI 0) rfl dL_isWell_248 249 rfl ?_
          refine z_callV C [.int (nI (pr - 1)), .int (nI 0)] [] (tO_at K.l K.g x a S J2_49 (pr - 1) 0 (by first | omega | assumption) (by first | omega | assumption) (by first | omega | assumption)) gL_isWell_X4_at rfl rfl rfl hdX4_at ⟨Nat.le_of_ble_eq_true rfl, Nat.le_of_ble_eq_true rfl⟩ ⟨Nat.zero_le _, Nat.zero_le _⟩ 0 0 rfl rfl rfl [0] rfl rfl (zlc (N := 1) rfl rfl) [1] rfl (by decide) (fun J2 : oJ => [wO K.g x a S J2]) (fun _ => rfl) rfl rfl (Nat.le_of_ble_eq_true rfl) dL_isWell_249 252 rfl (fun u9 hu9 => ?_)
          obtain ⟨J2_51, rfl⟩ : ∃ z, z = u9 := ⟨_, rfl⟩
          show Z K 0 0 [wO K.g x a S J2_51] [(0, .ref (x 0)), (1, .int (nI (sN S))), (2, .int (nI f)), (3, .int (nI mo2)), (4, .int (nI x_30)), (5, .int (nI x_32)), (6, .int (nI x_34)), (7, .int (nI 1)), (8, .int (nI j)), (9, .int (nI bg)), (10, .int (nI pr)), (11, .int (nI tk)), (12, .int ((nI dr) - (nI du)))] 252 [.int (AT (sSt S) (sR S) (sN S) (pr - 1) 0)]
          refine z_top (show (AT (sSt S) (sR S) (sN S) (pr - 1) 0 : Int32) = nI j from (W_on hS hJ hR hj2 (by omega) (by omega))) ?_
          refine z_iload C 8 rfl dL_isWell_252 254 rfl ?_
          refine z_icmpI_ne C 275 dL_isWell_254 (by decide) 257 rfl (fun c_52 => absurd (show (nI j : Int32) = nI j from rfl) c_52) (fun c_52 => ?_)
          refine z_aload_n C 0 rfl rfl dL_isWell_257 258 rfl ?_
          refine z_iload C 10 rfl dL_isWell_258 260 rfl ?_
          refine z_iconst C (v := nI 2) rfl dL_isWell_260 261 rfl ?_
          refine z_callV C [.int (nI pr), .int (nI 2)] [] (tO_at K.l K.g x a S J2_51 pr 2 (by first | omega | assumption) (by first | omega | assumption) (by first | omega | assumption)) gL_isWell_X4_at rfl rfl rfl hdX4_at ⟨Nat.le_of_ble_eq_true rfl, Nat.le_of_ble_eq_true rfl⟩ ⟨Nat.zero_le _, Nat.zero_le _⟩ 0 0 rfl rfl rfl [0] rfl rfl (zlc (N := 1) rfl rfl) [1] rfl (by decide) (fun J2 : oJ => [wO K.g x a S J2]) (fun _ => rfl) rfl rfl (Nat.le_of_ble_eq_true rfl) dL_isWell_261 264 rfl (fun u9 hu9 => ?_)
          obtain ⟨J2_53, rfl⟩ : ∃ z, z = u9 := ⟨_, rfl⟩
          show Z K 0 0 [wO K.g x a S J2_53] [(0, .ref (x 0)), (1, .int (nI (sN S))), (2, .int (nI f)), (3, .int (nI mo2)), (4, .int (nI x_30)), (5, .int (nI x_32)), (6, .int (nI x_34)), (7, .int (nI 1)), (8, .int (nI j)), (9, .int (nI bg)), (10, .int (nI pr)), (11, .int (nI tk)), (12, .int ((nI dr) - (nI du)))] 264 [.int (AT (sSt S) (sR S) (sN S) pr 2)]
          refine z_top (show (AT (sSt S) (sR S) (sN S) pr 2 : Int32) = nI (j + 1) from (by rw [epr]; exact W_at2 hS hJ hR hj2)) ?_
          refine z_iload C 8 rfl dL_isWell_264 266 rfl ?_
          refine z_iconst C (v := nI 1) rfl dL_isWell_266 267 rfl ?_
          refine z_iadd C dL_isWell_267 268 rfl ?_
          refine z_icmpI_ne C 275 dL_isWell_268 (by decide) 271 rfl (fun c_54 => absurd (show (nI (j + 1) : Int32) = nI (j + 1) from rfl) c_54) (fun c_54 => ?_)
          refine z_iconst C (v := nI 1) rfl dL_isWell_271 272 rfl ?_
          refine z_goto C 276 dL_isWell_272 (by decide) ?_
          refine z_istore C hnL [1, 2, 3, 4, 5, 6, 7, 0, 8, 9, 10, 11, 12] [(0, .ref (x 0)), (1, .int (nI (sN S))), (2, .int (nI f)), (3, .int (nI mo2)), (4, .int (nI x_30)), (5, .int (nI x_32)), (6, .int (nI x_34)), (7, .int (nI 1)), (8, .int (nI j)), (9, .int (nI bg)), (10, .int (nI pr)), (11, .int (nI tk)), (12, .int ((nI dr) - (nI du)))] rfl (Nat.le_of_ble_eq_true rfl) dL_isWell_276 278 rfl ?_
          refine z_iload C 7 rfl dL_isWell_278 280 rfl ?_
          refine z_if_eq C (by omega) 337 dL_isWell_280 (by decide) 283 rfl (fun c_55 => ?_) (fun c_55 => ?_)
          · exfalso; omega
          refine z_aload_n C 0 rfl rfl dL_isWell_283 284 rfl ?_
          refine z_iload C 8 rfl dL_isWell_284 286 rfl ?_
          refine z_bipush C (v := nI 9) rfl dL_isWell_286 288 rfl ?_
          refine z_callV C [.int (nI j), .int (nI 9)] [] (tO_jobOf K.l K.g x a S J2_53 j 9 (by first | omega | assumption) hj2 (by first | omega | assumption)) gL_isWell_X4_jobOf rfl rfl rfl hdX4_jobOf ⟨Nat.le_of_ble_eq_true rfl, Nat.le_of_ble_eq_true rfl⟩ ⟨Nat.zero_le _, Nat.zero_le _⟩ 0 0 rfl rfl rfl [0] rfl rfl (zlc (N := 1) rfl rfl) [1] rfl (by decide) (fun J2 : oJ => [wO K.g x a S J2]) (fun _ => rfl) rfl rfl (Nat.le_of_ble_eq_true rfl) dL_isWell_288 291 rfl (fun u9 hu9 => ?_)
          obtain ⟨J2_56, rfl⟩ : ∃ z, z = u9 := ⟨_, rfl⟩
          show Z K 0 0 [wO K.g x a S J2_56] [(0, .ref (x 0)), (1, .int (nI (sN S))), (2, .int (nI f)), (3, .int (nI mo2)), (4, .int (nI x_30)), (5, .int (nI x_32)), (6, .int (nI x_34)), (7, .int (nI 1)), (8, .int (nI j)), (9, .int (nI bg)), (10, .int (nI pr)), (11, .int (nI tk)), (12, .int ((nI dr) - (nI du)))] 291 [.int (nI (JO (sSt S) (sR S) (sN S) j 9))]
          refine z_top (show (nI (JO (sSt S) (sR S) (sN S) j 9) : Int32) = nI (PW (sSt S) (sR S) (sSt S 5) (sN S) j) from rfl) ?_
          refine z_nm (fun w3 ew3 => ?_)
          have jn3 : ∀ (J9 : oJ), Z K 0 0 [wO K.g x a S J9] [(0, .ref (x 0)), (1, .int (nI (sN S))), (2, .int (nI f)), (3, .int (nI mo2)), (4, .int (nI x_30)), (5, .int (nI x_32)), (6, .int (nI x_34)), (7, .int (nI 1)), (8, .int (nI j)), (9, .int (nI bg)), (10, .int (nI pr)), (11, .int (nI tk)), (12, .int ((nI dr) - (nI du)))] 333 [] := by
            intro J9
            refine z_iconst C (v := nI 1) rfl dL_isWell_333 334 rfl ?_
            refine z_goto C 338 dL_isWell_334 (by decide) ?_
            refine z_istore C hnL [1, 2, 3, 4, 5, 6, 7, 0, 8, 9, 10, 11, 12] [(0, .ref (x 0)), (1, .int (nI (sN S))), (2, .int (nI f)), (3, .int (nI mo2)), (4, .int (nI x_30)), (5, .int (nI x_32)), (6, .int (nI x_34)), (7, .int (nI 1)), (8, .int (nI j)), (9, .int (nI bg)), (10, .int (nI pr)), (11, .int (nI tk)), (12, .int ((nI dr) - (nI du)))] rfl (Nat.le_of_ble_eq_true rfl) dL_isWell_338 340 rfl ?_
            refine z_iload C 10 rfl dL_isWell_340 342 rfl ?_
            refine z_istore_n C hnL [1, 2, 0, 3, 4, 5, 6, 7, 8, 9, 10, 11, 12] [(0, .ref (x 0)), (1, .int (nI (sN S))), (2, .int (nI pr)), (3, .int (nI mo2)), (4, .int (nI x_30)), (5, .int (nI x_32)), (6, .int (nI x_34)), (7, .int (nI 1)), (8, .int (nI j)), (9, .int (nI bg)), (10, .int (nI pr)), (11, .int (nI tk)), (12, .int ((nI dr) - (nI du)))] rfl rfl (Nat.le_of_ble_eq_true rfl) dL_isWell_342 343 rfl ?_
            refine z_iinc C hnL 8 rfl (v := (nI (j + 1))) (nI_1 _) [1, 2, 3, 4, 5, 6, 7, 8, 0, 9, 10, 11, 12] [(0, .ref (x 0)), (1, .int (nI (sN S))), (2, .int (nI pr)), (3, .int (nI mo2)), (4, .int (nI x_30)), (5, .int (nI x_32)), (6, .int (nI x_34)), (7, .int (nI 1)), (8, .int (nI (j + 1))), (9, .int (nI bg)), (10, .int (nI pr)), (11, .int (nI tk)), (12, .int ((nI dr) - (nI du)))] rfl (Nat.le_of_ble_eq_true rfl) dL_isWell_343 346 rfl ?_
            refine z_goto C 26 dL_isWell_346 (by decide) ?_
            refine z_lv [0, 1, 2, 3, 4, 5, 6, 7, 8] [(0, .ref (x 0)), (1, .int (nI (sN S))), (2, .int (nI pr)), (3, .int (nI mo2)), (4, .int (nI x_30)), (5, .int (nI x_32)), (6, .int (nI x_34)), (7, .int (nI 1)), (8, .int (nI (j + 1)))] rfl ?_
            exact ih26 _ (by omega) (j + 1) pr mo2 x_30 x_32 x_34 J9 rfl (by omega) (by rw [W_fre]; exact epr) (by rw [mx_s]; omega) (by omega) (by rw [sm_s]; omega) (by rw [sm_s]; omega) (by rw [sm_s]; omega)
          refine z_if_eq C (by omega) 333 dL_isWell_291 (by decide) 294 rfl (fun c_57 => ?_) (fun c_57 => ?_)
          · skip
            exact jn3 J2_56
          · skip
            obtain ⟨t9, ht9a, ht9b, ht9c⟩ := W_wait hS hJ hR hn hj2 (by omega)
            refine z_aload_n C 0 rfl rfl dL_isWell_294 295 rfl ?_
            refine z_iload C 10 rfl dL_isWell_295 297 rfl ?_
            refine z_iconst C (v := nI 1) rfl dL_isWell_297 298 rfl ?_
            refine z_isub C (by omega) dL_isWell_298 299 rfl ?_
            refine z_iconst C (v := nI 1) rfl dL_isWell_299 300 rfl ?_
            refine z_callV C [.int (nI (pr - 1)), .int (nI 1)] [] (tO_at K.l K.g x a S J2_56 (pr - 1) 1 (by first | omega | assumption) (by first | omega | assumption) (by first | omega | assumption)) gL_isWell_X4_at rfl rfl rfl hdX4_at ⟨Nat.le_of_ble_eq_true rfl, Nat.le_of_ble_eq_true rfl⟩ ⟨Nat.zero_le _, Nat.zero_le _⟩ 0 0 rfl rfl rfl [0] rfl rfl (zlc (N := 1) rfl rfl) [1] rfl (by decide) (fun J2 : oJ => [wO K.g x a S J2]) (fun _ => rfl) rfl rfl (Nat.le_of_ble_eq_true rfl) dL_isWell_300 303 rfl (fun u9 hu9 => ?_)
            obtain ⟨J2_58, rfl⟩ : ∃ z, z = u9 := ⟨_, rfl⟩
            show Z K 0 0 [wO K.g x a S J2_58] [(0, .ref (x 0)), (1, .int (nI (sN S))), (2, .int (nI f)), (3, .int (nI mo2)), (4, .int (nI x_30)), (5, .int (nI x_32)), (6, .int (nI x_34)), (7, .int (nI 1)), (8, .int (nI j)), (9, .int (nI bg)), (10, .int (nI pr)), (11, .int (nI tk)), (12, .int ((nI dr) - (nI du)))] 303 [.int (AT (sSt S) (sR S) (sN S) (pr - 1) 1)]
            refine z_top (show (AT (sSt S) (sR S) (sN S) (pr - 1) 1 : Int32) = nI t9 from (by rw [epr]; exact ht9b)) ?_
            refine z_aload_n C 0 rfl rfl dL_isWell_303 304 rfl ?_
            refine z_iload C 8 rfl dL_isWell_304 306 rfl ?_
            refine z_iconst C (v := nI 4) rfl dL_isWell_306 307 rfl ?_
            refine z_callV C [.int (nI j), .int (nI 4)] [.int (nI t9)] (tO_jobOf K.l K.g x a S J2_58 j 4 (by first | omega | assumption) hj2 (by first | omega | assumption)) gL_isWell_X4_jobOf rfl rfl rfl hdX4_jobOf ⟨Nat.le_of_ble_eq_true rfl, Nat.le_of_ble_eq_true rfl⟩ ⟨Nat.zero_le _, Nat.zero_le _⟩ 0 0 rfl rfl rfl [0] rfl rfl (zlc (N := 1) rfl rfl) [1] rfl (by decide) (fun J2 : oJ => [wO K.g x a S J2]) (fun _ => rfl) rfl rfl (Nat.le_of_ble_eq_true rfl) dL_isWell_307 310 rfl (fun u9 hu9 => ?_)
            obtain ⟨J2_59, rfl⟩ : ∃ z, z = u9 := ⟨_, rfl⟩
            show Z K 0 0 [wO K.g x a S J2_59] [(0, .ref (x 0)), (1, .int (nI (sN S))), (2, .int (nI f)), (3, .int (nI mo2)), (4, .int (nI x_30)), (5, .int (nI x_32)), (6, .int (nI x_34)), (7, .int (nI 1)), (8, .int (nI j)), (9, .int (nI bg)), (10, .int (nI pr)), (11, .int (nI tk)), (12, .int ((nI dr) - (nI du)))] 310 [.int (nI (JO (sSt S) (sR S) (sN S) j 4)), .int (nI t9)]
            refine z_top (show (nI (JO (sSt S) (sR S) (sN S) j 4) : Int32) = nI (ndj (sSt S) (sR S) j) from rfl) ?_
            refine z_nm (fun n4 en4 => ?_)
            refine z_iadd C dL_isWell_310 311 rfl ?_
            refine z_aload_n C 0 rfl rfl dL_isWell_311 312 rfl ?_
            refine z_iconst C (v := nI 5) rfl dL_isWell_312 313 rfl ?_
            refine z_callV C [.int (nI 5)] [.int (nI (t9 + n4))] (tO_count K.l K.g x a S J2_59 5 (by first | omega | assumption) (by first | omega | assumption)) gL_isWell_X4_count rfl rfl rfl hdX4_count ⟨Nat.le_of_ble_eq_true rfl, Nat.le_of_ble_eq_true rfl⟩ ⟨Nat.zero_le _, Nat.zero_le _⟩ 0 0 rfl rfl rfl [0] rfl rfl (zlc (N := 1) rfl rfl) [1] rfl (by decide) (fun J2 : oJ => [wO K.g x a S J2]) (fun _ => rfl) rfl rfl (Nat.le_of_ble_eq_true rfl) dL_isWell_313 316 rfl (fun u9 hu9 => ?_)
            obtain ⟨J2_60, rfl⟩ : ∃ z, z = u9 := ⟨_, rfl⟩
            show Z K 0 0 [wO K.g x a S J2_60] [(0, .ref (x 0)), (1, .int (nI (sN S))), (2, .int (nI f)), (3, .int (nI mo2)), (4, .int (nI x_30)), (5, .int (nI x_32)), (6, .int (nI x_34)), (7, .int (nI 1)), (8, .int (nI j)), (9, .int (nI bg)), (10, .int (nI pr)), (11, .int (nI tk)), (12, .int ((nI dr) - (nI du)))] 316 [.int (nI (CN (sSt S) (sR S) (sN S) (sLen S) (sKp S) 5)), .int (nI (t9 + n4))]
            refine z_top (show (nI (CN (sSt S) (sR S) (sN S) (sLen S) (sKp S) 5) : Int32) = nI (sSt S 5) from rfl) ?_
            refine z_icmp_le C (by omega) (by omega) 337 dL_isWell_316 (by decide) 319 rfl (fun c_61 => ?_) (fun c_61 => ?_)
            · exfalso; omega
            refine z_aload_n C 0 rfl rfl dL_isWell_319 320 rfl ?_
            refine z_iload C 9 rfl dL_isWell_320 322 rfl ?_
            refine z_iconst C (v := nI 1) rfl dL_isWell_322 323 rfl ?_
            refine z_isub C (by omega) dL_isWell_323 324 rfl ?_
            refine z_iconst C (v := nI 0) rfl dL_isWell_324 325 rfl ?_
            refine z_callV C [.int (nI (bg - 1)), .int (nI 0)] [] (tO_at K.l K.g x a S J2_60 (bg - 1) 0 (by first | omega | assumption) (by first | omega | assumption) (by first | omega | assumption)) gL_isWell_X4_at rfl rfl rfl hdX4_at ⟨Nat.le_of_ble_eq_true rfl, Nat.le_of_ble_eq_true rfl⟩ ⟨Nat.zero_le _, Nat.zero_le _⟩ 0 0 rfl rfl rfl [0] rfl rfl (zlc (N := 1) rfl rfl) [1] rfl (by decide) (fun J2 : oJ => [wO K.g x a S J2]) (fun _ => rfl) rfl rfl (Nat.le_of_ble_eq_true rfl) dL_isWell_325 328 rfl (fun u9 hu9 => ?_)
            obtain ⟨J2_62, rfl⟩ : ∃ z, z = u9 := ⟨_, rfl⟩
            show Z K 0 0 [wO K.g x a S J2_62] [(0, .ref (x 0)), (1, .int (nI (sN S))), (2, .int (nI f)), (3, .int (nI mo2)), (4, .int (nI x_30)), (5, .int (nI x_32)), (6, .int (nI x_34)), (7, .int (nI 1)), (8, .int (nI j)), (9, .int (nI bg)), (10, .int (nI pr)), (11, .int (nI tk)), (12, .int ((nI dr) - (nI du)))] 328 [.int (AT (sSt S) (sR S) (sN S) (bg - 1) 0)]
            refine z_top (show (AT (sSt S) (sR S) (sN S) (bg - 1) 0 : Int32) = (-6) from (by rw [ebg]; exact W_idle hS hJ hR hj2 (by omega))) ?_
            refine z_bipush C (v := (-6)) rfl dL_isWell_328 330 rfl ?_
            refine z_icmpI_ne C 337 dL_isWell_330 (by decide) 333 rfl (fun c_63 => absurd (show ((-6) : Int32) = (-6) from rfl) c_63) (fun c_63 => ?_)
            exact jn3 J2_62
        refine z_ifI_ge C 226 dL_isWell_219 (by decide) 222 rfl (fun c_64 => ?_) (fun c_64 => ?_)
        · skip
          refine z_iload C 12 rfl dL_isWell_226 228 rfl ?_
          refine z_top (sub_ge (b := du) (show l2 = dr - du by omega) (by omega) (by omega) (by assumption)) ?_
          exact jn2 
        · skip
          refine z_iconst C (v := nI 0) rfl dL_isWell_222 223 rfl ?_
          refine z_goto C 228 dL_isWell_223 (by decide) ?_
          refine z_top (sub_lt (b := du) (show l2 = dr - du by omega) (by omega) (by omega) (by assumption)) ?_
          exact jn2 
      refine z_icmp_le C (by omega) (by omega) 128 dL_isWell_120 (by decide) 123 rfl (fun c_65 => ?_) (fun c_65 => ?_)
      · skip
        refine z_iload_n C 3 rfl rfl dL_isWell_128 129 rfl ?_
        exact jn1 mo (by omega)
      · skip
        refine z_iload C 11 rfl dL_isWell_123 125 rfl ?_
        refine z_goto C 129 dL_isWell_125 (by decide) ?_
        exact jn1 tk (by omega)
  exact loop26 _ 0 0 0 0 0 0 J2_1 rfl (by omega) rfl rfl (by omega) rfl rfl rfl

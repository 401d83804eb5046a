/-! LO: the law's loop. -/
set_option maxHeartbeats 4000000 in
set_option maxRecDepth 100000 in
theorem law_loop {K : zK} (C : Cx K room_1 RL cL_law wsL_law) (hnL : K.nL = 4) (b : Nat) (x bd tr q p fb h : Nat → Nat) (ho sb : Nat → Nat → Nat) (y : Nat → Nat) (L : Nat) (xs : Nat → Int32) (hLH : LH K b L xs) (hEnd : ∀ (H : Heap) (locs : List Loc) (ls : Array Slot), va_S K.A K.s.heap H locs → W K.p K.l K.e K.R K.s K.m K.args K.below K.meth K.c H locs 104 1616 K.Q (F0 K.m 655 ls [.int (nI 1)])) : ∀ (mu i : Nat), mu = L + 5 - i → i ≤ L → LI K b x bd tr q p fb h ho sb y i := by
  intro mu
  induction mu using Nat.strongRecOn with
  | _ mu ih =>
    intro i hmu hiL sv st r n ts tq tn a0 a1 a2 a3 a4 a5 a6 a7 s0 s1 s2 s3 s4 s5 s6 s7 s8 s9 tx len ex pl sh hu du fs fr fn kp nx hs hr hm ss sr sn all kept hist slo sav beg prt frm sp tol rd hI
    obtain ⟨hX, hbl, hbA, hL, heSet, heOrd⟩ := id hLH
    refine z_iload_n C 3 rfl rfl dL_law_18 19 rfl ?_
    refine z_aload_n C 0 rfl rfl dL_law_19 20 rfl ?_
    refine z_xlen C hX hbl hbA dL_law_20 21 rfl ?_
    refine z_iconst C (v := nI 5) rfl dL_law_21 22 rfl ?_
    by_cases h5 : 5 ≤ L
    · refine z_isub C h5 dL_law_22 23 rfl ?_
      refine z_icmp_gt C (by omega) (by omega) 654 dL_law_23 (by decide) 26 rfl (fun c => ?_) (fun c => ?_)
      · refine z_iconst C (v := nI 1) rfl dL_law_654 655 rfl ?_
        exact fun H locs ls _ _ hS _ => hEnd H locs ls hS
      · have hi5 : i + 5 ≤ L := by omega
        have kk : LI K b x bd tr q p fb h ho sb y (i + 5) := ih (L + 5 - (i + 5)) (by omega) (i + 5) rfl hi5
        refine z_aload_n C 0 rfl rfl dL_law_26 27 rfl ?_
        refine z_iload_n C 3 rfl rfl dL_law_27 28 rfl ?_
        refine z_xld C hX hbl hbA (by omega) (by omega) dL_law_28 29 rfl ?_
        refine z_bipush C (v := nI 31) rfl dL_law_29 31 rfl ?_
        refine z_iandI C dL_law_31 32 rfl ?_
        obtain ⟨t, ht, et⟩ : ∃ t, t < 32 ∧ xs i &&& nI 31 = nI t := ⟨_, Nat.mod_lt _ (by decide), pk_and (xs i) 5 rfl⟩
        refine z_top et ?_
        rcases (show t = 0 ∨ t = 1 ∨ t = 2 ∨ t = 3 ∨ t = 4 ∨ t = 5 ∨ t = 6 ∨ t = 7 ∨ t = 8 ∨ t = 9 ∨ t = 10 ∨ t = 11 ∨ t = 12 ∨ t = 13 ∨ t = 14 ∨ t = 15 ∨ t = 16 ∨ t = 17 ∨ t = 18 ∨ t = 19 ∨ 20 ≤ t by omega) with rfl | rfl | rfl | rfl | rfl | rfl | rfl | rfl | rfl | rfl | rfl | rfl | rfl | rfl | rfl | rfl | rfl | rfl | rfl | rfl | h20
        · refine z_tab C (by decide) 128 dL_law_32 (by decide) (by decide) rfl (by decide) ?_
          exact lb_set C hnL b x bd tr q p fb h ho sb y L xs i hLH hi5 kk sv st r n ts tq tn a0 a1 a2 a3 a4 a5 a6 a7 s0 s1 s2 s3 s4 s5 s6 s7 s8 s9 tx len ex pl sh hu du fs fr fn kp nx hs hr hm ss sr sn all kept hist slo sav beg prt frm sp tol rd hI
        · refine z_tab C (by decide) 161 dL_law_32 (by decide) (by decide) rfl (by decide) ?_
          exact lb_job C hnL b x bd tr q p fb h ho sb y L xs i hLH hi5 kk sv st r n ts tq tn a0 a1 a2 a3 a4 a5 a6 a7 s0 s1 s2 s3 s4 s5 s6 s7 s8 s9 tx len ex pl sh hu du fs fr fn kp nx hs hr hm ss sr sn all kept hist slo sav beg prt frm sp tol rd hI
        · refine z_tab C (by decide) 214 dL_law_32 (by decide) (by decide) rfl (by decide) ?_
          exact lb_read C hnL b x bd tr q p fb h ho sb y L xs i hLH hi5 kk sv st r n ts tq tn a0 a1 a2 a3 a4 a5 a6 a7 s0 s1 s2 s3 s4 s5 s6 s7 s8 s9 tx len ex pl sh hu du fs fr fn kp nx hs hr hm ss sr sn all kept hist slo sav beg prt frm sp tol rd hI
        · refine z_tab C (by decide) 227 dL_law_32 (by decide) (by decide) rfl (by decide) ?_
          exact lb_drop C hnL b x bd tr q p fb h ho sb y L xs i hLH hi5 kk sv st r n ts tq tn a0 a1 a2 a3 a4 a5 a6 a7 s0 s1 s2 s3 s4 s5 s6 s7 s8 s9 tx len ex pl sh hu du fs fr fn kp nx hs hr hm ss sr sn all kept hist slo sav beg prt frm sp tol rd hI
        · refine z_tab C (by decide) 250 dL_law_32 (by decide) (by decide) rfl (by decide) ?_
          exact lb_move C hnL b x bd tr q p fb h ho sb y L xs i hLH hi5 kk sv st r n ts tq tn a0 a1 a2 a3 a4 a5 a6 a7 s0 s1 s2 s3 s4 s5 s6 s7 s8 s9 tx len ex pl sh hu du fs fr fn kp nx hs hr hm ss sr sn all kept hist slo sav beg prt frm sp tol rd hI
        · refine z_tab C (by decide) 283 dL_law_32 (by decide) (by decide) rfl (by decide) ?_
          exact lb_due C hnL b x bd tr q p fb h ho sb y L xs i hLH hi5 kk sv st r n ts tq tn a0 a1 a2 a3 a4 a5 a6 a7 s0 s1 s2 s3 s4 s5 s6 s7 s8 s9 tx len ex pl sh hu du fs fr fn kp nx hs hr hm ss sr sn all kept hist slo sav beg prt frm sp tol rd hI
        · refine z_tab C (by decide) 316 dL_law_32 (by decide) (by decide) rfl (by decide) ?_
          exact lb_order C hnL b x bd tr q p fb h ho sb y L xs i hLH hi5 kk sv st r n ts tq tn a0 a1 a2 a3 a4 a5 a6 a7 s0 s1 s2 s3 s4 s5 s6 s7 s8 s9 tx len ex pl sh hu du fs fr fn kp nx hs hr hm ss sr sn all kept hist slo sav beg prt frm sp tol rd hI
        · refine z_tab C (by decide) 339 dL_law_32 (by decide) (by decide) rfl (by decide) ?_
          exact lb_jobOf C hnL b x bd tr q p fb h ho sb y L xs i hLH hi5 kk sv st r n ts tq tn a0 a1 a2 a3 a4 a5 a6 a7 s0 s1 s2 s3 s4 s5 s6 s7 s8 s9 tx len ex pl sh hu du fs fr fn kp nx hs hr hm ss sr sn all kept hist slo sav beg prt frm sp tol rd hI
        · refine z_tab C (by decide) 372 dL_law_32 (by decide) (by decide) rfl (by decide) ?_
          exact lb_count C hnL b x bd tr q p fb h ho sb y L xs i hLH hi5 kk sv st r n ts tq tn a0 a1 a2 a3 a4 a5 a6 a7 s0 s1 s2 s3 s4 s5 s6 s7 s8 s9 tx len ex pl sh hu du fs fr fn kp nx hs hr hm ss sr sn all kept hist slo sav beg prt frm sp tol rd hI
        · refine z_tab C (by decide) 395 dL_law_32 (by decide) (by decide) rfl (by decide) ?_
          exact lb_at C hnL b x bd tr q p fb h ho sb y L xs i hLH hi5 kk sv st r n ts tq tn a0 a1 a2 a3 a4 a5 a6 a7 s0 s1 s2 s3 s4 s5 s6 s7 s8 s9 tx len ex pl sh hu du fs fr fn kp nx hs hr hm ss sr sn all kept hist slo sav beg prt frm sp tol rd hI
        · refine z_tab C (by decide) 428 dL_law_32 (by decide) (by decide) rfl (by decide) ?_
          exact lb_ifOrdered C hnL b x bd tr q p fb h ho sb y L xs i hLH hi5 kk sv st r n ts tq tn a0 a1 a2 a3 a4 a5 a6 a7 s0 s1 s2 s3 s4 s5 s6 s7 s8 s9 tx len ex pl sh hu du fs fr fn kp nx hs hr hm ss sr sn all kept hist slo sav beg prt frm sp tol rd hI
        · refine z_tab C (by decide) 461 dL_law_32 (by decide) (by decide) rfl (by decide) ?_
          exact lb_bestExchange C hnL b x bd tr q p fb h ho sb y L xs i hLH hi5 kk sv st r n ts tq tn a0 a1 a2 a3 a4 a5 a6 a7 s0 s1 s2 s3 s4 s5 s6 s7 s8 s9 tx len ex pl sh hu du fs fr fn kp nx hs hr hm ss sr sn all kept hist slo sav beg prt frm sp tol rd hI
        · refine z_tab C (by decide) 484 dL_law_32 (by decide) (by decide) rfl (by decide) ?_
          exact lb_bestFirst C hnL b x bd tr q p fb h ho sb y L xs i hLH hi5 kk sv st r n ts tq tn a0 a1 a2 a3 a4 a5 a6 a7 s0 s1 s2 s3 s4 s5 s6 s7 s8 s9 tx len ex pl sh hu du fs fr fn kp nx hs hr hm ss sr sn all kept hist slo sav beg prt frm sp tol rd hI
        · refine z_tab C (by decide) 497 dL_law_32 (by decide) (by decide) rfl (by decide) ?_
          exact lb_leastRacks C hnL b x bd tr q p fb h ho sb y L xs i hLH hi5 kk sv st r n ts tq tn a0 a1 a2 a3 a4 a5 a6 a7 s0 s1 s2 s3 s4 s5 s6 s7 s8 s9 tx len ex pl sh hu du fs fr fn kp nx hs hr hm ss sr sn all kept hist slo sav beg prt frm sp tol rd hI
        · refine z_tab C (by decide) 510 dL_law_32 (by decide) (by decide) rfl (by decide) ?_
          exact lb_put C hnL b x bd tr q p fb h ho sb y L xs i hLH hi5 kk sv st r n ts tq tn a0 a1 a2 a3 a4 a5 a6 a7 s0 s1 s2 s3 s4 s5 s6 s7 s8 s9 tx len ex pl sh hu du fs fr fn kp nx hs hr hm ss sr sn all kept hist slo sav beg prt frm sp tol rd hI
        · refine z_tab C (by decide) 563 dL_law_32 (by decide) (by decide) rfl (by decide) ?_
          exact lb_wipe C hnL b x bd tr q p fb h ho sb y L xs i hLH hi5 kk sv st r n ts tq tn a0 a1 a2 a3 a4 a5 a6 a7 s0 s1 s2 s3 s4 s5 s6 s7 s8 s9 tx len ex pl sh hu du fs fr fn kp nx hs hr hm ss sr sn all kept hist slo sav beg prt frm sp tol rd hI
        · refine z_tab C (by decide) 576 dL_law_32 (by decide) (by decide) rfl (by decide) ?_
          exact lb_fault C hnL b x bd tr q p fb h ho sb y L xs i hLH hi5 kk sv st r n ts tq tn a0 a1 a2 a3 a4 a5 a6 a7 s0 s1 s2 s3 s4 s5 s6 s7 s8 s9 tx len ex pl sh hu du fs fr fn kp nx hs hr hm ss sr sn all kept hist slo sav beg prt frm sp tol rd hI
        · refine z_tab C (by decide) 589 dL_law_32 (by decide) (by decide) rfl (by decide) ?_
          exact lb_undo C hnL b x bd tr q p fb h ho sb y L xs i hLH hi5 kk sv st r n ts tq tn a0 a1 a2 a3 a4 a5 a6 a7 s0 s1 s2 s3 s4 s5 s6 s7 s8 s9 tx len ex pl sh hu du fs fr fn kp nx hs hr hm ss sr sn all kept hist slo sav beg prt frm sp tol rd hI
        · refine z_tab C (by decide) 602 dL_law_32 (by decide) (by decide) rfl (by decide) ?_
          exact lb_save C hnL b x bd tr q p fb h ho sb y L xs i hLH hi5 kk sv st r n ts tq tn a0 a1 a2 a3 a4 a5 a6 a7 s0 s1 s2 s3 s4 s5 s6 s7 s8 s9 tx len ex pl sh hu du fs fr fn kp nx hs hr hm ss sr sn all kept hist slo sav beg prt frm sp tol rd hI
        · refine z_tab C (by decide) 625 dL_law_32 (by decide) (by decide) rfl (by decide) ?_
          exact lb_restore C hnL b x bd tr q p fb h ho sb y L xs i hLH hi5 kk sv st r n ts tq tn a0 a1 a2 a3 a4 a5 a6 a7 s0 s1 s2 s3 s4 s5 s6 s7 s8 s9 tx len ex pl sh hu du fs fr fn kp nx hs hr hm ss sr sn all kept hist slo sav beg prt frm sp tol rd hI
        · refine z_tabO C 648 dL_law_32 (Or.inr (by rw [nI_toInt (by omega)]; omega)) (by decide) ?_
          refine z_iinc C hnL 3 rfl (v := nI (i + 5)) (nI_add _ 5) [1, 2, 3, 0] [(0, .ref b), (1, .ref (x 0)), (2, .ref (y 0)), (3, .int (nI (i + 5)))] rfl (Nat.le_of_ble_eq_true rfl) dL_law_648 651 rfl ?_
          refine z_goto C 18 dL_law_651 (by decide) ?_
          exact kk sv st r n ts tq tn a0 a1 a2 a3 a4 a5 a6 a7 s0 s1 s2 s3 s4 s5 s6 s7 s8 s9 tx len ex pl sh hu du fs fr fn kp nx hs hr hm ss sr sn all kept hist slo sav beg prt frm sp tol rd hI
    · have hneg : nI L - nI 5 < 0 := pk_sneg (by decide) (by omega)
      have hlt : nI L - nI 5 < nI i := by
        have h0 : (nI i).toInt = (i : Int) := nI_toInt (by omega)
        rw [Int32.lt_iff_toInt_lt] at hneg ⊢
        rw [h0]
        rw [Int32.toInt_zero] at hneg
        omega
      refine z_isubI C dL_law_22 23 rfl ?_
      refine z_icmpI_gt C 654 dL_law_23 (by decide) 26 rfl (fun c => ?_) (fun c => ?_)
      · refine z_iconst C (v := nI 1) rfl dL_law_654 655 rfl ?_
        exact fun H locs ls _ _ hS _ => hEnd H locs ls hS
      · exfalso
        first | exact c hlt | exact absurd c (Int32.not_le.mpr hlt)

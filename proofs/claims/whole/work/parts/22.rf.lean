/-! RF: the reference: its small methods. -/
/-- the reference's row holds a board -/
def Bd (all st : Nat → Nat) (r : Nat → Nat → Nat) (n : Nat) : Prop := (∀ i, i < 7 → all i = st i) ∧ all 7 = n ∧ ∀ j, j < n → ∀ k, k < 4 → all (8 + 4 * j + k) = r k j
theorem Bd_cg {all st : Nat → Nat} {r r2 : Nat → Nat → Nat} {n : Nat} (h : Bd all st r n) (e : ∀ k, k < 4 → ∀ x, x < n → r k x = r2 k x) : Bd all st r2 n := ⟨h.1, h.2.1, fun j hj k hk => by rw [h.2.2 j hj k hk, e k hk j hj]⟩
def xch (all : Nat → Nat) (i j : Nat) : Nat → Nat → Nat
  | 0 => all
  | k + 1 => un (un (xch all i j k) (8 + 4 * i + k) (xch all i j k (8 + 4 * j + k))) (8 + 4 * j + k) (xch all i j k (8 + 4 * i + k))
theorem xch_lo {all : Nat → Nat} {i j x : Nat} (hx : x < 8) : ∀ m, xch all i j m x = all x
  | 0 => rfl
  | m + 1 => by
    show un (un (xch all i j m) (8 + 4 * i + m) _) (8 + 4 * j + m) _ x = all x
    rw [un_n (by omega), un_n (by omega), xch_lo hx m]
theorem xch_at {all : Nat → Nat} {i j y k : Nat} (hk : k < 4) : ∀ m, m ≤ 4 → xch all i j m (8 + 4 * y + k) = if k < m then all (8 + 4 * (if y = j then i else if y = i then j else y) + k) else all (8 + 4 * y + k)
  | 0, _ => by rw [if_neg (by omega)]; rfl
  | m + 1, hm => by
    show un (un (xch all i j m) (8 + 4 * i + m) (xch all i j m (8 + 4 * j + m))) (8 + 4 * j + m) (xch all i j m (8 + 4 * i + m)) (8 + 4 * y + k) = _
    have hI : xch all i j m (8 + 4 * i + m) = all (8 + 4 * i + m) := by rw [xch_at (by omega) m (by omega), if_neg (by omega)]
    have hJ : xch all i j m (8 + 4 * j + m) = all (8 + 4 * j + m) := by rw [xch_at (by omega) m (by omega), if_neg (by omega)]
    rw [hI, hJ]
    by_cases e : k = m
    · subst e
      rw [if_pos (by omega)]
      by_cases e1 : y = j
      · subst e1; rw [un_s, if_pos rfl]
      · rw [un_n (by omega), if_neg e1]
        by_cases e2 : y = i
        · subst e2; rw [un_s, if_pos rfl]
        · rw [un_n (by omega), if_neg e2, xch_at hk k (by omega), if_neg (by omega)]
    · rw [un_n (by omega), un_n (by omega), xch_at hk m (by omega)]
      by_cases q : k < m
      · rw [if_pos q, if_pos (show k < m + 1 by omega)]
      · rw [if_neg q, if_neg (show ¬ k < m + 1 by omega)]
theorem Bd_xch {all st : Nat → Nat} {r : Nat → Nat → Nat} {n i j : Nat} (h : Bd all st r n) (hi : i < n) (hj : j < n) (_hn : n ≤ 12) : Bd (xch all i j 4) st (fun k => swp (r k) i j) n := by
  refine ⟨fun x hx => by rw [xch_lo (by omega)]; exact h.1 x hx, by rw [xch_lo (by omega)]; exact h.2.1, fun y hy k hk => ?_⟩
  rw [xch_at hk 4 (Nat.le_refl 4), if_pos hk]
  show _ = swp (r k) i j y
  rw [swp_at]
  have q : (if y = j then i else if y = i then j else y) < n := by
    (repeat' split) <;> omega
  exact h.2.2 _ q k hk
theorem shf_id {h : Nat → Nat} {j x : Nat} : shf h j j x = h x := by
  rw [shf_at]
  congr 1
  (repeat' split) <;> omega
theorem swp_shu {h : Nat → Nat} {j t x : Nat} (ht : j ≤ t) : swp (shf h j t) t (t + 1) x = shf h j (t + 1) x := by
  rw [swp_at, shf_at, shf_at]
  congr 1
  (repeat' split) <;> omega
theorem swp_shd {h : Nat → Nat} {j t x : Nat} (ht : t ≤ j) (h0 : 0 < t) : swp (shf h j t) t (t - 1) x = shf h j (t - 1) x := by
  rw [swp_at, shf_at, shf_at]
  congr 1
  (repeat' split) <;> omega
theorem isJ64 {v : Int32} {n : Nat} (hn : n ≤ 12) : rg ((v).toInt64).toInt (lN 0).toInt (((nI n).toInt64) - (lN 1)).toInt = isJ v n := by
  have h : ∀ n, n < 13 → (((nI n).toInt64) - (lN 1)).toInt = (n : Int) - 1 := by decide +kernel
  unfold isJ
  rw [h n (by omega), Int32.toInt_toInt64]
  rfl
theorem tkn_s {st : Nat → Nat} {r : Nat → Nat → Nat} {p : Nat → Nat} {J m : Nat} : tkn st r p (J + 1) m = tkn st r p J m + (if p J ≤ m ∧ m < p J + st 4 then ndj st r J else 0) := rfl
theorem hdX5_dry : yX5_dry.cls = RX5 ∧ yX5_dry.cls ≠ "java/lang/invoke/MethodHandle" ∧ yX5_dry.cls ≠ "java/lang/invoke/VarHandle" ∧ (parseMethodDescriptor yX5_dry.desc).map (fun d => d.parameters.length) = some 1 := by decide +kernel
theorem hdX5_exchanges : yX5_exchanges.cls = RX5 ∧ yX5_exchanges.cls ≠ "java/lang/invoke/MethodHandle" ∧ yX5_exchanges.cls ≠ "java/lang/invoke/VarHandle" ∧ (parseMethodDescriptor yX5_exchanges.desc).map (fun d => d.parameters.length) = some 2 := by decide +kernel
theorem hdX5_in : yX5_in.cls ≠ "java/lang/invoke/MethodHandle" ∧ yX5_in.cls ≠ "java/lang/invoke/VarHandle" ∧ (parseMethodDescriptor yX5_in.desc).map (fun d => d.parameters.length) = some 3 := by decide +kernel
theorem hdX5_its : yX5_its.cls = RX5 ∧ yX5_its.cls ≠ "java/lang/invoke/MethodHandle" ∧ yX5_its.cls ≠ "java/lang/invoke/VarHandle" ∧ (parseMethodDescriptor yX5_its.desc).map (fun d => d.parameters.length) = some 2 := by decide +kernel
theorem hdX5_plateFor : yX5_plateFor.cls = RX5 ∧ yX5_plateFor.cls ≠ "java/lang/invoke/MethodHandle" ∧ yX5_plateFor.cls ≠ "java/lang/invoke/VarHandle" ∧ (parseMethodDescriptor yX5_plateFor.desc).map (fun d => d.parameters.length) = some 1 := by decide +kernel
theorem hdX5_racksFor : yX5_racksFor.cls = RX5 ∧ yX5_racksFor.cls ≠ "java/lang/invoke/MethodHandle" ∧ yX5_racksFor.cls ≠ "java/lang/invoke/VarHandle" ∧ (parseMethodDescriptor yX5_racksFor.desc).map (fun d => d.parameters.length) = some 1 := by decide +kernel
theorem hdX5_racksOf : yX5_racksOf.cls = RX5 ∧ yX5_racksOf.cls ≠ "java/lang/invoke/MethodHandle" ∧ yX5_racksOf.cls ≠ "java/lang/invoke/VarHandle" ∧ (parseMethodDescriptor yX5_racksOf.desc).map (fun d => d.parameters.length) = some 1 := by decide +kernel
theorem hdX5_washFor : yX5_washFor.cls = RX5 ∧ yX5_washFor.cls ≠ "java/lang/invoke/MethodHandle" ∧ yX5_washFor.cls ≠ "java/lang/invoke/VarHandle" ∧ (parseMethodDescriptor yX5_washFor.desc).map (fun d => d.parameters.length) = some 1 := by decide +kernel
set_option maxHeartbeats 4000000 in
set_option maxRecDepth 100000 in
theorem tX5_in (l : Launch) (g : zG) (v lo hi : Int64) : Met l yX5_in wsX5_in ({ frames := 0, cells := 0, slots := 0, locals := 0 } : Room) (zPre g [.long v, .long lo, .long hi] []) (zQ g (fun _ : Unit => some (.int (bI (rg v.toInt lo.toInt hi.toInt))) ) (fun _ : Unit => True) (fun _ : Unit => []) (zA [])) 0 0 (zA []) := by
  refine z_entry (cc := cX5_in) (maxL := 6) (ret := (some .boolean)) (own := RX5) (by decide) rfl rfl (Nat.le_of_ble_eq_true rfl) [(0, .long v), (2, .long lo), (4, .long hi)] rfl ?_
  intro K hKl hKg hnL C hRx
  subst hKl
  subst hKg
  refine z_lload_n C 0 rfl rfl dX5_in_0 1 rfl ?_
  refine z_lload_n C 1 rfl rfl dX5_in_1 2 rfl ?_
  refine z_lcmp C dX5_in_2 3 rfl ?_
  refine z_ifI_lt C 17 dX5_in_3 (by decide) 6 rfl (fun c_1 => ?_) (fun c_1 => ?_)
  · skip
    have q := (lg_cmp_lt _ _).mp c_1
    refine z_iconst C (v := nI 0) rfl dX5_in_17 18 rfl ?_
    refine z_eq (st2 := [.int (bI false)]) ?_ rfl rfl rfl
    exact z_bret C hRx dX5_in_18 () (by rw [rg_f (by simp only [Int64.lt_iff_toInt_lt] at *; omega)]) trivial rfl
  · skip
    have q : ¬ v < lo := fun z => c_1 ((lg_cmp_lt _ _).mpr z)
    refine z_lload_n C 0 rfl rfl dX5_in_6 7 rfl ?_
    refine z_lload C 2 rfl dX5_in_7 9 rfl ?_
    refine z_lcmp C dX5_in_9 10 rfl ?_
    refine z_ifI_gt C 17 dX5_in_10 (by decide) 13 rfl (fun c_2 => ?_) (fun c_2 => ?_)
    · skip
      have q2 := (lg_cmp_gt _ _).mp c_2
      refine z_iconst C (v := nI 0) rfl dX5_in_17 18 rfl ?_
      refine z_eq (st2 := [.int (bI false)]) ?_ rfl rfl rfl
      exact z_bret C hRx dX5_in_18 () (by rw [rg_f (by simp only [Int64.lt_iff_toInt_lt] at *; omega)]) trivial rfl
    · skip
      have q2 : ¬ hi < v := fun z => c_2 ((lg_cmp_gt _ _).mpr z)
      refine z_iconst C (v := nI 1) rfl dX5_in_13 14 rfl ?_
      refine z_goto C 18 dX5_in_14 (by decide) ?_
      refine z_eq (st2 := [.int (bI true)]) ?_ rfl rfl rfl
      exact z_bret C hRx dX5_in_18 () (by rw [rg_t (by simp only [Int64.lt_iff_toInt_lt] at *; omega) (by simp only [Int64.lt_iff_toInt_lt] at *; omega)]) trivial rfl

set_option maxHeartbeats 4000000 in
set_option maxRecDepth 100000 in
theorem tX5_inI (l : Launch) (g : zG) (x : Int32) (a b : Nat) (ha : a < 2 ^ 31) (hb : b < 2 ^ 31) : Met l yX5_in wsX5_in ({ frames := 0, cells := 0, slots := 0, locals := 0 } : Room) (zPre g [.long ((x).toInt64), .long (lN a), .long (lN b)] []) (zQ g (fun _ : Unit => some (.int (bI (rg x.toInt (Int.ofNat a) (Int.ofNat b)))) ) (fun _ : Unit => True) (fun _ : Unit => []) (zA [])) 0 0 (zA []) := by
  refine z_entry (cc := cX5_in) (maxL := 6) (ret := (some .boolean)) (own := RX5) (by decide) rfl rfl (Nat.le_of_ble_eq_true rfl) [(0, .long ((x).toInt64)), (2, .long (lN a)), (4, .long (lN b))] rfl ?_
  intro K hKl hKg hnL C hRx
  subst hKl
  subst hKg
  refine z_lload_n C 0 rfl rfl dX5_in_0 1 rfl ?_
  refine z_lload_n C 1 rfl rfl dX5_in_1 2 rfl ?_
  refine z_lcmp C dX5_in_2 3 rfl ?_
  refine z_ifI_lt C 17 dX5_in_3 (by decide) 6 rfl (fun c_1 => ?_) (fun c_1 => ?_)
  · skip
    have q := (lg_cmp_lt _ _).mp c_1
    refine z_iconst C (v := nI 0) rfl dX5_in_17 18 rfl ?_
    have e1 : (lN a).toInt = Int.ofNat a := lN_toInt ha
    have e2 : (lN b).toInt = Int.ofNat b := lN_toInt hb
    have e3 : x.toInt64.toInt = x.toInt := Int32.toInt_toInt64 x
    refine z_eq (st2 := [.int (bI false)]) ?_ rfl rfl rfl
    exact z_bret C hRx dX5_in_18 () (by rw [rg_f (by simp only [Int64.lt_iff_toInt_lt, e1, e2, e3] at *; omega)]) trivial rfl
  · skip
    have q : ¬ x.toInt64 < lN a := fun z => c_1 ((lg_cmp_lt _ _).mpr z)
    refine z_lload_n C 0 rfl rfl dX5_in_6 7 rfl ?_
    refine z_lload C 2 rfl dX5_in_7 9 rfl ?_
    refine z_lcmp C dX5_in_9 10 rfl ?_
    refine z_ifI_gt C 17 dX5_in_10 (by decide) 13 rfl (fun c_2 => ?_) (fun c_2 => ?_)
    · skip
      have q2 := (lg_cmp_gt _ _).mp c_2
      refine z_iconst C (v := nI 0) rfl dX5_in_17 18 rfl ?_
      have e1 : (lN a).toInt = Int.ofNat a := lN_toInt ha
      have e2 : (lN b).toInt = Int.ofNat b := lN_toInt hb
      have e3 : x.toInt64.toInt = x.toInt := Int32.toInt_toInt64 x
      refine z_eq (st2 := [.int (bI false)]) ?_ rfl rfl rfl
      exact z_bret C hRx dX5_in_18 () (by rw [rg_f (by simp only [Int64.lt_iff_toInt_lt, e1, e2, e3] at *; omega)]) trivial rfl
    · skip
      have q2 : ¬ lN b < x.toInt64 := fun z => c_2 ((lg_cmp_gt _ _).mpr z)
      refine z_iconst C (v := nI 1) rfl dX5_in_13 14 rfl ?_
      refine z_goto C 18 dX5_in_14 (by decide) ?_
      have e1 : (lN a).toInt = Int.ofNat a := lN_toInt ha
      have e2 : (lN b).toInt = Int.ofNat b := lN_toInt hb
      have e3 : x.toInt64.toInt = x.toInt := Int32.toInt_toInt64 x
      refine z_eq (st2 := [.int (bI true)]) ?_ rfl rfl rfl
      exact z_bret C hRx dX5_in_18 () (by rw [rg_t (by simp only [Int64.lt_iff_toInt_lt, e1, e2, e3] at *; omega) (by simp only [Int64.lt_iff_toInt_lt, e1, e2, e3] at *; omega)]) trivial rfl

theorem iX5_isJob_X5 : ∀ w ∈ u_ws RX5 TX5 14, w ∈ wsX5_isJob := fun w h => (List.mem_cons_of_mem _ (List.mem_append_right _ h))
set_option maxHeartbeats 4000000 in
set_option maxRecDepth 100000 in
theorem tX5_isJob (l : Launch) (g : zG) (y all kept hist : Nat → Nat) (hl : Nat) (slo sav beg prt frm txt : Nat → Nat) (tl sp : Nat) (tol : Nat → Nat) (rd : Nat) (st : Nat → Nat) (r : Nat → Nat → Nat) (n : Nat) (v : Int32) (hn : n ≤ 12) (hB : Bd all st r n) : Met l yX5_isJob wsX5_isJob ({ frames := 1, cells := 0, slots := 0, locals := 25 } : Room) (zPre g [.ref (y 0), .int v] [wM g y all kept hist hl slo sav beg prt frm txt tl sp tol rd]) (zQ g (fun _ : Unit => some (.int (bI (isJ v n))) ) (fun _ : Unit => True) (fun _ : Unit => [wM g y all kept hist hl slo sav beg prt frm txt tl sp tol rd]) (zA [wM g y all kept hist hl slo sav beg prt frm txt tl sp tol rd])) 0 0 (zA [wM g y all kept hist hl slo sav beg prt frm txt tl sp tol rd]) := by
  refine z_entry (cc := cX5_isJob) (maxL := 2) (ret := (some .boolean)) (own := RX5) (by decide) rfl rfl (Nat.le_of_ble_eq_true rfl) [(0, .ref (y 0)), (1, .int v)] rfl ?_
  intro K hKl hKg hnL C hRx
  subst hKl
  subst hKg
  refine z_iload_n C 1 rfl rfl dX5_isJob_0 1 rfl ?_
  refine z_i2l C dX5_isJob_1 2 rfl ?_
  refine z_lconst C (v := lN 0) rfl dX5_isJob_2 3 rfl ?_
  refine z_aload_n C 0 rfl rfl dX5_isJob_3 4 rfl ?_
  refine z_get C zc5 iX5_isJob_X5 0 0 rfl rfl 0 (Nat.le_of_ble_eq_true rfl) (List.mem_of_getElem? (i := 1) rfl) (v := .ref (y 1)) rfl dX5_isJob_4 7 rfl ?_
  refine z_bipush C (v := nI 7) rfl dX5_isJob_7 9 rfl ?_
  refine z_iald C (f := all) 0 1 rfl rfl (by omega) (by decide) dX5_isJob_9 10 rfl ?_
  refine z_top (show nI (all 7) = nI n from by rw [hB.2.1]) ?_
  refine z_i2l C dX5_isJob_10 11 rfl ?_
  refine z_lconst C (v := lN 1) rfl dX5_isJob_11 12 rfl ?_
  refine z_lsub C dX5_isJob_12 13 rfl ?_
  refine z_callP C [.long ((v).toInt64), .long (lN 0), .long (((nI n).toInt64) - (lN 1))] [] (tX5_in K.l K.g ((v).toInt64) (lN 0) (((nI n).toInt64) - (lN 1)) ) gX5_isJob_X5_in rfl rfl rfl hdX5_in ⟨Nat.le_of_ble_eq_true rfl, Nat.le_of_ble_eq_true rfl⟩ ⟨Nat.zero_le _, Nat.zero_le _⟩ rfl rfl (Nat.le_of_ble_eq_true rfl) dX5_isJob_13 16 rfl (fun u9 hu9 => ?_)
  show Z K 0 0 [wM K.g y all kept hist hl slo sav beg prt frm txt tl sp tol rd] [(0, .ref (y 0)), (1, .int v)] 16 [.int (bI (rg ((v).toInt64).toInt (lN 0).toInt (((nI n).toInt64) - (lN 1)).toInt))]
  exact z_bret C hRx dX5_isJob_16 () (by rw [isJ64 hn]) trivial rfl

theorem iX5_its_X5 : ∀ w ∈ u_ws RX5 TX5 14, w ∈ wsX5_its := fun w h => (List.mem_cons_of_mem _ (List.mem_append_right _ h))
set_option maxHeartbeats 4000000 in
set_option maxRecDepth 100000 in
theorem tX5_its (l : Launch) (g : zG) (y all kept hist : Nat → Nat) (hl : Nat) (slo sav beg prt frm txt : Nat → Nat) (tl sp : Nat) (tol : Nat → Nat) (rd : Nat) (j k : Nat) (hj : j ≤ 11) (hk : k ≤ 3) : Met l yX5_its wsX5_its ({ frames := 0, cells := 0, slots := 0, locals := 0 } : Room) (zPre g [.ref (y 0), .int (nI j), .int (nI k)] [wM g y all kept hist hl slo sav beg prt frm txt tl sp tol rd]) (zQ g (fun _ : Unit => some (.int (nI (all (8 + 4 * j + k)))) ) (fun _ : Unit => True) (fun _ : Unit => [wM g y all kept hist hl slo sav beg prt frm txt tl sp tol rd]) (zA [wM g y all kept hist hl slo sav beg prt frm txt tl sp tol rd])) 0 0 (zA [wM g y all kept hist hl slo sav beg prt frm txt tl sp tol rd]) := by
  refine z_entry (cc := cX5_its) (maxL := 3) (ret := (some .int)) (own := RX5) (by decide) rfl rfl (Nat.le_of_ble_eq_true rfl) [(0, .ref (y 0)), (1, .int (nI j)), (2, .int (nI k))] rfl ?_
  intro K hKl hKg hnL C hRx
  subst hKl
  subst hKg
  refine z_aload_n C 0 rfl rfl dX5_its_0 1 rfl ?_
  refine z_get C zc5 iX5_its_X5 0 0 rfl rfl 0 (Nat.le_of_ble_eq_true rfl) (List.mem_of_getElem? (i := 1) rfl) (v := .ref (y 1)) rfl dX5_its_1 4 rfl ?_
  refine z_bipush C (v := nI 8) rfl dX5_its_4 6 rfl ?_
  refine z_iconst C (v := nI 4) rfl dX5_its_6 7 rfl ?_
  refine z_iload_n C 1 rfl rfl dX5_its_7 8 rfl ?_
  refine z_imul C dX5_its_8 9 rfl ?_
  refine z_iadd C dX5_its_9 10 rfl ?_
  refine z_iload_n C 2 rfl rfl dX5_its_10 11 rfl ?_
  refine z_iadd C dX5_its_11 12 rfl ?_
  refine z_iald C (f := all) 0 1 rfl rfl (by omega) (by decide) dX5_its_12 13 rfl ?_
  exact z_iret C hRx dX5_its_13 () rfl trivial rfl

set_option maxHeartbeats 4000000 in
set_option maxRecDepth 100000 in
theorem tX5_itsb (l : Launch) (g : zG) (y all kept hist : Nat → Nat) (hl : Nat) (slo sav beg prt frm txt : Nat → Nat) (tl sp : Nat) (tol : Nat → Nat) (rd : Nat) (st : Nat → Nat) (r : Nat → Nat → Nat) (n : Nat) (j k : Nat) (hn : n ≤ 12) (hB : Bd all st r n) (hj : j < n) (hk : k < 4) : Met l yX5_its wsX5_its ({ frames := 0, cells := 0, slots := 0, locals := 0 } : Room) (zPre g [.ref (y 0), .int (nI j), .int (nI k)] [wM g y all kept hist hl slo sav beg prt frm txt tl sp tol rd]) (zQ g (fun _ : Unit => some (.int (nI (r k j))) ) (fun _ : Unit => True) (fun _ : Unit => [wM g y all kept hist hl slo sav beg prt frm txt tl sp tol rd]) (zA [wM g y all kept hist hl slo sav beg prt frm txt tl sp tol rd])) 0 0 (zA [wM g y all kept hist hl slo sav beg prt frm txt tl sp tol rd]) := by
  refine z_entry (cc := cX5_its) (maxL := 3) (ret := (some .int)) (own := RX5) (by decide) rfl rfl (Nat.le_of_ble_eq_true rfl) [(0, .ref (y 0)), (1, .int (nI j)), (2, .int (nI k))] rfl ?_
  intro K hKl hKg hnL C hRx
  subst hKl
  subst hKg
  refine z_aload_n C 0 rfl rfl dX5_its_0 1 rfl ?_
  refine z_get C zc5 iX5_its_X5 0 0 rfl rfl 0 (Nat.le_of_ble_eq_true rfl) (List.mem_of_getElem? (i := 1) rfl) (v := .ref (y 1)) rfl dX5_its_1 4 rfl ?_
  refine z_bipush C (v := nI 8) rfl dX5_its_4 6 rfl ?_
  refine z_iconst C (v := nI 4) rfl dX5_its_6 7 rfl ?_
  refine z_iload_n C 1 rfl rfl dX5_its_7 8 rfl ?_
  refine z_imul C dX5_its_8 9 rfl ?_
  refine z_iadd C dX5_its_9 10 rfl ?_
  refine z_iload_n C 2 rfl rfl dX5_its_10 11 rfl ?_
  refine z_iadd C dX5_its_11 12 rfl ?_
  refine z_iald C (f := all) 0 1 rfl rfl (by omega) (by decide) dX5_its_12 13 rfl ?_
  exact z_iret C hRx dX5_its_13 () (congrArg (fun z => some (Value.int (nI z))) (hB.2.2 j hj k hk).symm) trivial rfl

theorem iX5_racksFor_X5 : ∀ w ∈ u_ws RX5 TX5 14, w ∈ wsX5_racksFor := fun w h => (List.mem_cons_of_mem _ (List.mem_append_right _ h))
set_option maxHeartbeats 4000000 in
set_option maxRecDepth 100000 in
theorem tX5_racksFor (l : Launch) (g : zG) (y all kept hist : Nat → Nat) (hl : Nat) (slo sav beg prt frm txt : Nat → Nat) (tl sp : Nat) (tol : Nat → Nat) (rd : Nat) (st : Nat → Nat) (r : Nat → Nat → Nat) (n : Nat) (h : Nat) (hn : n ≤ 12) (hB : Bd all st r n) (hS : okS st) (hh : h ≤ 1000) : Met l yX5_racksFor wsX5_racksFor ({ frames := 0, cells := 0, slots := 0, locals := 0 } : Room) (zPre g [.ref (y 0), .int (nI h)] [wM g y all kept hist hl slo sav beg prt frm txt tl sp tol rd]) (zQ g (fun _ : Unit => some (.int (nI (nd (st 6) h))) ) (fun _ : Unit => True) (fun _ : Unit => [wM g y all kept hist hl slo sav beg prt frm txt tl sp tol rd]) (zA [wM g y all kept hist hl slo sav beg prt frm txt tl sp tol rd])) 0 0 (zA [wM g y all kept hist hl slo sav beg prt frm txt tl sp tol rd]) := by
  refine z_entry (cc := cX5_racksFor) (maxL := 2) (ret := (some .int)) (own := RX5) (by decide) rfl rfl (Nat.le_of_ble_eq_true rfl) [(0, .ref (y 0)), (1, .int (nI h))] rfl ?_
  intro K hKl hKg hnL C hRx
  subst hKl
  subst hKg
  have h6 := hS.2.2.2.2.2.2.2.2.1
  have h6b := hS.2.2.2.2.2.2.2.2.2
  refine z_iload_n C 1 rfl rfl dX5_racksFor_0 1 rfl ?_
  refine z_aload_n C 0 rfl rfl dX5_racksFor_1 2 rfl ?_
  refine z_get C zc5 iX5_racksFor_X5 0 0 rfl rfl 0 (Nat.le_of_ble_eq_true rfl) (List.mem_of_getElem? (i := 1) rfl) (v := .ref (y 1)) rfl dX5_racksFor_2 5 rfl ?_
  refine z_bipush C (v := nI 6) rfl dX5_racksFor_5 7 rfl ?_
  refine z_iald C (f := all) 0 1 rfl rfl (by omega) (by decide) dX5_racksFor_7 8 rfl ?_
  refine z_top (show nI (all 6) = nI (st 6) from by rw [hB.1 6 (by decide)]) ?_
  refine z_iadd C dX5_racksFor_8 9 rfl ?_
  refine z_iconst C (v := nI 1) rfl dX5_racksFor_9 10 rfl ?_
  refine z_isub C (by omega) dX5_racksFor_10 11 rfl ?_
  refine z_aload_n C 0 rfl rfl dX5_racksFor_11 12 rfl ?_
  refine z_get C zc5 iX5_racksFor_X5 0 0 rfl rfl 0 (Nat.le_of_ble_eq_true rfl) (List.mem_of_getElem? (i := 1) rfl) (v := .ref (y 1)) rfl dX5_racksFor_12 15 rfl ?_
  refine z_bipush C (v := nI 6) rfl dX5_racksFor_15 17 rfl ?_
  refine z_iald C (f := all) 0 1 rfl rfl (by omega) (by decide) dX5_racksFor_17 18 rfl ?_
  refine z_top (show nI (all 6) = nI (st 6) from by rw [hB.1 6 (by decide)]) ?_
  refine z_idiv C (by omega) (by omega) (by omega) dX5_racksFor_18 19 rfl ?_
  exact z_iret C hRx dX5_racksFor_19 () rfl trivial rfl

set_option maxHeartbeats 4000000 in
set_option maxRecDepth 100000 in
theorem tX5_racksOf (l : Launch) (g : zG) (y all kept hist : Nat → Nat) (hl : Nat) (slo sav beg prt frm txt : Nat → Nat) (tl sp : Nat) (tol : Nat → Nat) (rd : Nat) (st : Nat → Nat) (r : Nat → Nat → Nat) (n : Nat) (j : Nat) (hn : n ≤ 12) (hB : Bd all st r n) (hS : okS st) (hJ : okJ r n) (hj : j < n) : Met l yX5_racksOf wsX5_racksOf ({ frames := 1, cells := 0, slots := 0, locals := 22 } : Room) (zPre g [.ref (y 0), .int (nI j)] [wM g y all kept hist hl slo sav beg prt frm txt tl sp tol rd]) (zQ g (fun _ : Unit => some (.int (nI (ndj st r j))) ) (fun _ : Unit => True) (fun _ : Unit => [wM g y all kept hist hl slo sav beg prt frm txt tl sp tol rd]) (zA [wM g y all kept hist hl slo sav beg prt frm txt tl sp tol rd])) 0 0 (zA [wM g y all kept hist hl slo sav beg prt frm txt tl sp tol rd]) := by
  refine z_entry (cc := cX5_racksOf) (maxL := 2) (ret := (some .int)) (own := RX5) (by decide) rfl rfl (Nat.le_of_ble_eq_true rfl) [(0, .ref (y 0)), (1, .int (nI j))] rfl ?_
  intro K hKl hKg hnL C hRx
  subst hKl
  subst hKg
  refine z_aload_n C 0 rfl rfl dX5_racksOf_0 1 rfl ?_
  refine z_aload_n C 0 rfl rfl dX5_racksOf_1 2 rfl ?_
  refine z_iload_n C 1 rfl rfl dX5_racksOf_2 3 rfl ?_
  refine z_iconst C (v := nI 2) rfl dX5_racksOf_3 4 rfl ?_
  refine z_callV C [.int (nI j), .int (nI 2)] [.ref (y 0)] (tX5_itsb K.l K.g y all kept hist hl slo sav beg prt frm txt tl sp tol rd st r n j 2 (by first | omega | assumption) (by first | omega | assumption) (by first | omega | assumption) (by first | omega | assumption)) gX5_racksOf_X5_its rfl rfl rfl hdX5_its ⟨Nat.le_of_ble_eq_true rfl, Nat.le_of_ble_eq_true rfl⟩ ⟨Nat.zero_le _, Nat.zero_le _⟩ 0 0 rfl rfl rfl [0] rfl rfl (zlc (N := 1) rfl rfl) [1] rfl (by decide) (fun _ : Unit => [wM K.g y all kept hist hl slo sav beg prt frm txt tl sp tol rd]) (fun _ => rfl) rfl rfl (Nat.le_of_ble_eq_true rfl) dX5_racksOf_4 7 rfl (fun u9 hu9 => ?_)
  show Z K 0 0 [wM K.g y all kept hist hl slo sav beg prt frm txt tl sp tol rd] [(0, .ref (y 0)), (1, .int (nI j))] 7 [.int (nI (r 2 j)), .ref (y 0)]
  refine z_callV C [.int (nI (r 2 j))] [] (tX5_racksFor K.l K.g y all kept hist hl slo sav beg prt frm txt tl sp tol rd st r n (r 2 j) (by first | omega | assumption) (by first | omega | assumption) (by first | omega | assumption) (by have := (hJ j hj).2.2.2.1; omega)) gX5_racksOf_X5_racksFor rfl rfl rfl hdX5_racksFor ⟨Nat.le_of_ble_eq_true rfl, Nat.le_of_ble_eq_true rfl⟩ ⟨Nat.zero_le _, Nat.zero_le _⟩ 0 0 rfl rfl rfl [0] rfl rfl (zlc (N := 1) rfl rfl) [1] rfl (by decide) (fun _ : Unit => [wM K.g y all kept hist hl slo sav beg prt frm txt tl sp tol rd]) (fun _ => rfl) rfl rfl (Nat.le_of_ble_eq_true rfl) dX5_racksOf_7 10 rfl (fun u9 hu9 => ?_)
  show Z K 0 0 [wM K.g y all kept hist hl slo sav beg prt frm txt tl sp tol rd] [(0, .ref (y 0)), (1, .int (nI j))] 10 [.int (nI (nd (st 6) (r 2 j)))]
  exact z_iret C hRx dX5_racksOf_10 () rfl trivial rfl

theorem iX5_exchanges_X5 : ∀ w ∈ u_ws RX5 TX5 14, w ∈ wsX5_exchanges := fun w h => (List.mem_cons_of_mem _ (List.mem_append_right _ h))
set_option maxHeartbeats 4000000 in
set_option maxRecDepth 100000 in
theorem tX5_exchanges (l : Launch) (g : zG) (y all kept hist : Nat → Nat) (hl : Nat) (slo sav beg prt frm txt : Nat → Nat) (tl sp : Nat) (tol : Nat → Nat) (rd : Nat) (i j : Nat) (hi : i ≤ 11) (hj : j ≤ 11) : Met l yX5_exchanges wsX5_exchanges ({ frames := 1, cells := 0, slots := 0, locals := 22 } : Room) (zPre g [.ref (y 0), .int (nI i), .int (nI j)] [wM g y all kept hist hl slo sav beg prt frm txt tl sp tol rd]) (zQ g (fun _ : Unit => none ) (fun _ : Unit => True) (fun _ : Unit => [wM g y (xch all i j 4) kept hist hl slo sav beg prt frm txt tl sp tol rd]) (zA [wM g y all kept hist hl slo sav beg prt frm txt tl sp tol rd])) 0 0 (zA [wM g y all kept hist hl slo sav beg prt frm txt tl sp tol rd]) := by
  refine z_entry (cc := cX5_exchanges) (maxL := 5) (ret := none) (own := RX5) (by decide) rfl rfl (Nat.le_of_ble_eq_true rfl) [(0, .ref (y 0)), (1, .int (nI i)), (2, .int (nI j))] rfl ?_
  intro K hKl hKg hnL C hRx
  subst hKl
  subst hKg
  refine z_iconst C (v := nI 0) rfl dX5_exchanges_0 1 rfl ?_
  refine z_istore_n C hnL [1, 2, 3, 0] [(0, .ref (y 0)), (1, .int (nI i)), (2, .int (nI j)), (3, .int (nI 0))] rfl rfl (Nat.le_of_ble_eq_true rfl) dX5_exchanges_1 2 rfl ?_
  have loop2 : ∀ (mu : Nat) (k : Nat), mu = 4 - k → k ≤ 4 → Z K 0 0 [wM K.g y (xch all i j k) kept hist hl slo sav beg prt frm txt tl sp tol rd] [(0, .ref (y 0)), (1, .int (nI i)), (2, .int (nI j)), (3, .int (nI k))] 2 [] := by
    refine z_ind (fun mu ih2 => ?_)
    intro k hmu2 hk
    refine z_iload_n C 3 rfl rfl dX5_exchanges_2 3 rfl ?_
    refine z_iconst C (v := nI 4) rfl dX5_exchanges_3 4 rfl ?_
    refine z_icmp_ge C (by omega) (by omega) 55 dX5_exchanges_4 (by decide) 7 rfl (fun c_1 => ?_) (fun c_1 => ?_)
    · skip
      obtain rfl : k = 4 := by omega
      exact z_vret C hRx dX5_exchanges_55 () rfl trivial rfl
    · skip
      refine z_aload_n C 0 rfl rfl dX5_exchanges_7 8 rfl ?_
      refine z_iload_n C 1 rfl rfl dX5_exchanges_8 9 rfl ?_
      refine z_iload_n C 3 rfl rfl dX5_exchanges_9 10 rfl ?_
      refine z_callV C [.int (nI i), .int (nI k)] [] (tX5_its K.l K.g y (xch all i j k) kept hist hl slo sav beg prt frm txt tl sp tol rd i k (by first | omega | assumption) (by first | omega | assumption)) gX5_exchanges_X5_its rfl rfl rfl hdX5_its ⟨Nat.le_of_ble_eq_true rfl, Nat.le_of_ble_eq_true rfl⟩ ⟨Nat.zero_le _, Nat.zero_le _⟩ 0 0 rfl rfl rfl [0] rfl rfl (zlc (N := 1) rfl rfl) [1] rfl (by decide) (fun _ : Unit => [wM K.g y (xch all i j k) kept hist hl slo sav beg prt frm txt tl sp tol rd]) (fun _ => rfl) rfl rfl (Nat.le_of_ble_eq_true rfl) dX5_exchanges_10 13 rfl (fun u9 hu9 => ?_)
      show Z K 0 0 [wM K.g y (xch all i j k) kept hist hl slo sav beg prt frm txt tl sp tol rd] [(0, .ref (y 0)), (1, .int (nI i)), (2, .int (nI j)), (3, .int (nI k))] 13 [.int (nI ((xch all i j k) (8 + 4 * i + k)))]
      refine z_istore C hnL [1, 2, 3, 4, 0] [(0, .ref (y 0)), (1, .int (nI i)), (2, .int (nI j)), (3, .int (nI k)), (4, .int (nI ((xch all i j k) (8 + 4 * i + k))))] rfl (Nat.le_of_ble_eq_true rfl) dX5_exchanges_13 15 rfl ?_
      refine z_aload_n C 0 rfl rfl dX5_exchanges_15 16 rfl ?_
      refine z_get C zc5 iX5_exchanges_X5 0 0 rfl rfl 0 (Nat.le_of_ble_eq_true rfl) (List.mem_of_getElem? (i := 1) rfl) (v := .ref (y 1)) rfl dX5_exchanges_16 19 rfl ?_
      refine z_bipush C (v := nI 8) rfl dX5_exchanges_19 21 rfl ?_
      refine z_iconst C (v := nI 4) rfl dX5_exchanges_21 22 rfl ?_
      refine z_iload_n C 1 rfl rfl dX5_exchanges_22 23 rfl ?_
      refine z_imul C dX5_exchanges_23 24 rfl ?_
      refine z_iadd C dX5_exchanges_24 25 rfl ?_
      refine z_iload_n C 3 rfl rfl dX5_exchanges_25 26 rfl ?_
      refine z_iadd C dX5_exchanges_26 27 rfl ?_
      refine z_aload_n C 0 rfl rfl dX5_exchanges_27 28 rfl ?_
      refine z_iload_n C 2 rfl rfl dX5_exchanges_28 29 rfl ?_
      refine z_iload_n C 3 rfl rfl dX5_exchanges_29 30 rfl ?_
      refine z_callV C [.int (nI j), .int (nI k)] [.int (nI ((8 + (4 * i)) + k)), .ref (y 1)] (tX5_its K.l K.g y (xch all i j k) kept hist hl slo sav beg prt frm txt tl sp tol rd j k (by first | omega | assumption) (by first | omega | assumption)) gX5_exchanges_X5_its rfl rfl rfl hdX5_its ⟨Nat.le_of_ble_eq_true rfl, Nat.le_of_ble_eq_true rfl⟩ ⟨Nat.zero_le _, Nat.zero_le _⟩ 0 0 rfl rfl rfl [0] rfl rfl (zlc (N := 1) rfl rfl) [1] rfl (by decide) (fun _ : Unit => [wM K.g y (xch all i j k) kept hist hl slo sav beg prt frm txt tl sp tol rd]) (fun _ => rfl) rfl rfl (Nat.le_of_ble_eq_true rfl) dX5_exchanges_30 33 rfl (fun u9 hu9 => ?_)
      show Z K 0 0 [wM K.g y (xch all i j k) kept hist hl slo sav beg prt frm txt tl sp tol rd] [(0, .ref (y 0)), (1, .int (nI i)), (2, .int (nI j)), (3, .int (nI k)), (4, .int (nI ((xch all i j k) (8 + 4 * i + k))))] 33 [.int (nI ((xch all i j k) (8 + 4 * j + k))), .int (nI ((8 + (4 * i)) + k)), .ref (y 1)]
      refine z_iast C (f := (xch all i j k)) 0 1 rfl rfl (by omega) (by decide) (wM K.g y (un (xch all i j k) ((8 + (4 * i)) + k) ((xch all i j k) (8 + 4 * j + k))) kept hist hl slo sav beg prt frm txt tl sp tol rd) rfl [wM K.g y (un (xch all i j k) ((8 + (4 * i)) + k) ((xch all i j k) (8 + 4 * j + k))) kept hist hl slo sav beg prt frm txt tl sp tol rd] rfl dX5_exchanges_33 34 rfl ?_
      refine z_aload_n C 0 rfl rfl dX5_exchanges_34 35 rfl ?_
      refine z_get C zc5 iX5_exchanges_X5 0 0 rfl rfl 0 (Nat.le_of_ble_eq_true rfl) (List.mem_of_getElem? (i := 1) rfl) (v := .ref (y 1)) rfl dX5_exchanges_35 38 rfl ?_
      refine z_bipush C (v := nI 8) rfl dX5_exchanges_38 40 rfl ?_
      refine z_iconst C (v := nI 4) rfl dX5_exchanges_40 41 rfl ?_
      refine z_iload_n C 2 rfl rfl dX5_exchanges_41 42 rfl ?_
      refine z_imul C dX5_exchanges_42 43 rfl ?_
      refine z_iadd C dX5_exchanges_43 44 rfl ?_
      refine z_iload_n C 3 rfl rfl dX5_exchanges_44 45 rfl ?_
      refine z_iadd C dX5_exchanges_45 46 rfl ?_
      refine z_iload C 4 rfl dX5_exchanges_46 48 rfl ?_
      refine z_iast C (f := (un (xch all i j k) ((8 + (4 * i)) + k) ((xch all i j k) (8 + 4 * j + k)))) 0 1 rfl rfl (by omega) (by decide) (wM K.g y (un (un (xch all i j k) ((8 + (4 * i)) + k) ((xch all i j k) (8 + 4 * j + k))) ((8 + (4 * j)) + k) ((xch all i j k) (8 + 4 * i + k))) kept hist hl slo sav beg prt frm txt tl sp tol rd) rfl [wM K.g y (un (un (xch all i j k) ((8 + (4 * i)) + k) ((xch all i j k) (8 + 4 * j + k))) ((8 + (4 * j)) + k) ((xch all i j k) (8 + 4 * i + k))) kept hist hl slo sav beg prt frm txt tl sp tol rd] rfl dX5_exchanges_48 49 rfl ?_
      refine z_iinc C hnL 3 rfl (v := (nI (k + 1))) (nI_1 _) [1, 2, 3, 0, 4] [(0, .ref (y 0)), (1, .int (nI i)), (2, .int (nI j)), (3, .int (nI (k + 1))), (4, .int (nI ((xch all i j k) (8 + 4 * i + k))))] rfl (Nat.le_of_ble_eq_true rfl) dX5_exchanges_49 52 rfl ?_
      refine z_goto C 2 dX5_exchanges_52 (by decide) ?_
      refine z_lv [0, 1, 2, 3] [(0, .ref (y 0)), (1, .int (nI i)), (2, .int (nI j)), (3, .int (nI (k + 1)))] rfl ?_
      exact ih2 _ (by omega) (k + 1) rfl (by omega)
  exact loop2 _ 0 rfl (by omega)

set_option maxHeartbeats 4000000 in
set_option maxRecDepth 100000 in
theorem tX5_moves (l : Launch) (g : zG) (y all kept hist : Nat → Nat) (hl : Nat) (slo sav beg prt frm txt : Nat → Nat) (tl sp : Nat) (tol : Nat → Nat) (rd : Nat) (st : Nat → Nat) (r : Nat → Nat → Nat) (n : Nat) (j w : Nat) (hn : n ≤ 12) (hB : Bd all st r n) (hj : j < n) (hw : w < n) : Met l yX5_moves wsX5_moves ({ frames := 2, cells := 0, slots := 0, locals := 46 } : Room) (zPre g [.ref (y 0), .int (nI j), .int (nI w)] [wM g y all kept hist hl slo sav beg prt frm txt tl sp tol rd]) (zQ g (fun all2 : Nat → Nat => none ) (fun all2 : Nat → Nat => (Bd all2 st (fun k => shf (r k) j w) n)) (fun all2 : Nat → Nat => [wM g y all2 kept hist hl slo sav beg prt frm txt tl sp tol rd]) (zA [wM g y all kept hist hl slo sav beg prt frm txt tl sp tol rd])) 0 0 (zA [wM g y all kept hist hl slo sav beg prt frm txt tl sp tol rd]) := by
  refine z_entry (cc := cX5_moves) (maxL := 5) (ret := none) (own := RX5) (by decide) rfl rfl (Nat.le_of_ble_eq_true rfl) [(0, .ref (y 0)), (1, .int (nI j)), (2, .int (nI w))] rfl ?_
  intro K hKl hKg hnL C hRx
  subst hKl
  subst hKg
  refine z_iload_n C 1 rfl rfl dX5_moves_0 1 rfl ?_
  refine z_istore_n C hnL [1, 2, 3, 0] [(0, .ref (y 0)), (1, .int (nI j)), (2, .int (nI w)), (3, .int (nI j))] rfl rfl (Nat.le_of_ble_eq_true rfl) dX5_moves_1 2 rfl ?_
  have loop2 : ∀ (mu : Nat) (t : Nat) (all1 : Nat → Nat), mu = (t - w) + (w - t) → Bd all1 st (fun k => shf (r k) j t) n → (j ≤ t ∧ t ≤ w) ∨ (w ≤ t ∧ t ≤ j) → Z K 0 0 [wM K.g y all1 kept hist hl slo sav beg prt frm txt tl sp tol rd] [(0, .ref (y 0)), (1, .int (nI j)), (2, .int (nI w)), (3, .int (nI t))] 2 [] := by
    refine z_ind (fun mu ih2 => ?_)
    intro t all1 hmu2 hB1 ht
    refine z_iload_n C 3 rfl rfl dX5_moves_2 3 rfl ?_
    refine z_iload_n C 2 rfl rfl dX5_moves_3 4 rfl ?_
    refine z_icmp_eq C (by omega) (by omega) 36 dX5_moves_4 (by decide) 7 rfl (fun c_1 => ?_) (fun c_1 => ?_)
    · skip
      obtain rfl : t = w := by omega
      exact z_vret C hRx dX5_moves_36 all1 rfl hB1 rfl
    · skip
      refine z_iload_n C 3 rfl rfl dX5_moves_7 8 rfl ?_
      refine z_iload_n C 2 rfl rfl dX5_moves_8 9 rfl ?_
      refine z_icmp_ge C (by omega) (by omega) 18 dX5_moves_9 (by decide) 12 rfl (fun c_2 => ?_) (fun c_2 => ?_)
      · skip
        refine z_iload_n C 3 rfl rfl dX5_moves_18 19 rfl ?_
        refine z_iconst C (v := nI 1) rfl dX5_moves_19 20 rfl ?_
        refine z_isub C (by omega) dX5_moves_20 21 rfl ?_
        refine z_istore C hnL [1, 2, 3, 4, 0] [(0, .ref (y 0)), (1, .int (nI j)), (2, .int (nI w)), (3, .int (nI t)), (4, .int (nI (t - 1)))] rfl (Nat.le_of_ble_eq_true rfl) dX5_moves_21 23 rfl ?_
        refine z_aload_n C 0 rfl rfl dX5_moves_23 24 rfl ?_
        refine z_iload_n C 3 rfl rfl dX5_moves_24 25 rfl ?_
        refine z_iload C 4 rfl dX5_moves_25 27 rfl ?_
        refine z_callV C [.int (nI t), .int (nI (t - 1))] [] (tX5_exchanges K.l K.g y all1 kept hist hl slo sav beg prt frm txt tl sp tol rd t (t - 1) (by first | omega | assumption) (by first | omega | assumption)) gX5_moves_X5_exchanges rfl rfl rfl hdX5_exchanges ⟨Nat.le_of_ble_eq_true rfl, Nat.le_of_ble_eq_true rfl⟩ ⟨Nat.zero_le _, Nat.zero_le _⟩ 0 0 rfl rfl rfl [0] rfl rfl (zlc (N := 1) rfl rfl) [1] rfl (by decide) (fun _ : Unit => [wM K.g y (xch all1 t (t - 1) 4) kept hist hl slo sav beg prt frm txt tl sp tol rd]) (fun _ => rfl) rfl rfl (Nat.le_of_ble_eq_true rfl) dX5_moves_27 30 rfl (fun u9 hu9 => ?_)
        show Z K 0 0 [wM K.g y (xch all1 t (t - 1) 4) kept hist hl slo sav beg prt frm txt tl sp tol rd] [(0, .ref (y 0)), (1, .int (nI j)), (2, .int (nI w)), (3, .int (nI t)), (4, .int (nI (t - 1)))] 30 []
        refine z_iload C 4 rfl dX5_moves_30 32 rfl ?_
        refine z_istore_n C hnL [1, 2, 3, 0, 4] [(0, .ref (y 0)), (1, .int (nI j)), (2, .int (nI w)), (3, .int (nI (t - 1))), (4, .int (nI (t - 1)))] rfl rfl (Nat.le_of_ble_eq_true rfl) dX5_moves_32 33 rfl ?_
        refine z_goto C 2 dX5_moves_33 (by decide) ?_
        refine z_lv [0, 1, 2, 3] [(0, .ref (y 0)), (1, .int (nI j)), (2, .int (nI w)), (3, .int (nI (t - 1)))] rfl ?_
        exact ih2 _ (by omega) (t - 1) (xch all1 t (t - 1) 4) rfl (Bd_cg (Bd_xch hB1 (by omega) (by omega) hn) (fun k _ x _ => by first | exact swp_shu (by omega) | exact swp_shd (by omega) (by omega))) (by omega)
      · skip
        refine z_iload_n C 3 rfl rfl dX5_moves_12 13 rfl ?_
        refine z_iconst C (v := nI 1) rfl dX5_moves_13 14 rfl ?_
        refine z_iadd C dX5_moves_14 15 rfl ?_
        refine z_goto C 21 dX5_moves_15 (by decide) ?_
        refine z_istore C hnL [1, 2, 3, 4, 0] [(0, .ref (y 0)), (1, .int (nI j)), (2, .int (nI w)), (3, .int (nI t)), (4, .int (nI (t + 1)))] rfl (Nat.le_of_ble_eq_true rfl) dX5_moves_21 23 rfl ?_
        refine z_aload_n C 0 rfl rfl dX5_moves_23 24 rfl ?_
        refine z_iload_n C 3 rfl rfl dX5_moves_24 25 rfl ?_
        refine z_iload C 4 rfl dX5_moves_25 27 rfl ?_
        refine z_callV C [.int (nI t), .int (nI (t + 1))] [] (tX5_exchanges K.l K.g y all1 kept hist hl slo sav beg prt frm txt tl sp tol rd t (t + 1) (by first | omega | assumption) (by first | omega | assumption)) gX5_moves_X5_exchanges rfl rfl rfl hdX5_exchanges ⟨Nat.le_of_ble_eq_true rfl, Nat.le_of_ble_eq_true rfl⟩ ⟨Nat.zero_le _, Nat.zero_le _⟩ 0 0 rfl rfl rfl [0] rfl rfl (zlc (N := 1) rfl rfl) [1] rfl (by decide) (fun _ : Unit => [wM K.g y (xch all1 t (t + 1) 4) kept hist hl slo sav beg prt frm txt tl sp tol rd]) (fun _ => rfl) rfl rfl (Nat.le_of_ble_eq_true rfl) dX5_moves_27 30 rfl (fun u9 hu9 => ?_)
        show Z K 0 0 [wM K.g y (xch all1 t (t + 1) 4) kept hist hl slo sav beg prt frm txt tl sp tol rd] [(0, .ref (y 0)), (1, .int (nI j)), (2, .int (nI w)), (3, .int (nI t)), (4, .int (nI (t + 1)))] 30 []
        refine z_iload C 4 rfl dX5_moves_30 32 rfl ?_
        refine z_istore_n C hnL [1, 2, 3, 0, 4] [(0, .ref (y 0)), (1, .int (nI j)), (2, .int (nI w)), (3, .int (nI (t + 1))), (4, .int (nI (t + 1)))] rfl rfl (Nat.le_of_ble_eq_true rfl) dX5_moves_32 33 rfl ?_
        refine z_goto C 2 dX5_moves_33 (by decide) ?_
        refine z_lv [0, 1, 2, 3] [(0, .ref (y 0)), (1, .int (nI j)), (2, .int (nI w)), (3, .int (nI (t + 1)))] rfl ?_
        exact ih2 _ (by omega) (t + 1) (xch all1 t (t + 1) 4) rfl (Bd_cg (Bd_xch hB1 (by omega) (by omega) hn) (fun k _ x _ => by first | exact swp_shu (by omega) | exact swp_shd (by omega) (by omega))) (by omega)
  exact loop2 _ j all rfl (Bd_cg hB (fun k _ x _ => (shf_id).symm)) (by omega)

theorem iX5_washFor_X5 : ∀ w ∈ u_ws RX5 TX5 14, w ∈ wsX5_washFor := fun w h => (List.mem_cons_of_mem _ (List.mem_append_right _ h))
set_option maxHeartbeats 4000000 in
set_option maxRecDepth 100000 in
theorem tX5_washFor (l : Launch) (g : zG) (y all kept hist : Nat → Nat) (hl : Nat) (slo sav beg prt frm txt : Nat → Nat) (tl sp : Nat) (tol : Nat → Nat) (rd : Nat) (st : Nat → Nat) (r : Nat → Nat → Nat) (n : Nat) (j : Nat) (hn : n ≤ 12) (hB : Bd all st r n) (hS : okS st) (hJ : okJ r n) (hj : j < n) : Met l yX5_washFor wsX5_washFor ({ frames := 1, cells := 0, slots := 0, locals := 22 } : Room) (zPre g [.ref (y 0), .int (nI j)] [wM g y all kept hist hl slo sav beg prt frm txt tl sp tol rd]) (zQ g (fun _ : Unit => some (.int (nI (wsh st r j))) ) (fun _ : Unit => True) (fun _ : Unit => [wM g y all kept hist hl slo sav beg prt frm txt tl sp tol rd]) (zA [wM g y all kept hist hl slo sav beg prt frm txt tl sp tol rd])) 0 0 (zA [wM g y all kept hist hl slo sav beg prt frm txt tl sp tol rd]) := by
  refine z_entry (cc := cX5_washFor) (maxL := 3) (ret := (some .int)) (own := RX5) (by decide) rfl rfl (Nat.le_of_ble_eq_true rfl) [(0, .ref (y 0)), (1, .int (nI j))] rfl ?_
  intro K hKl hKg hnL C hRx
  subst hKl
  subst hKg
  refine z_iload_n C 1 rfl rfl dX5_washFor_0 1 rfl ?_
  refine z_if_ne C (by omega) 6 dX5_washFor_1 (by decide) 4 rfl (fun c_1 => ?_) (fun c_1 => ?_)
  · skip
    refine z_aload_n C 0 rfl rfl dX5_washFor_6 7 rfl ?_
    refine z_iload_n C 1 rfl rfl dX5_washFor_7 8 rfl ?_
    refine z_iconst C (v := nI 1) rfl dX5_washFor_8 9 rfl ?_
    refine z_isub C (by omega) dX5_washFor_9 10 rfl ?_
    refine z_iconst C (v := nI 1) rfl dX5_washFor_10 11 rfl ?_
    refine z_callV C [.int (nI (j - 1)), .int (nI 1)] [] (tX5_itsb K.l K.g y all kept hist hl slo sav beg prt frm txt tl sp tol rd st r n (j - 1) 1 (by first | omega | assumption) (by first | omega | assumption) (by first | omega | assumption) (by first | omega | assumption)) gX5_washFor_X5_its rfl rfl rfl hdX5_its ⟨Nat.le_of_ble_eq_true rfl, Nat.le_of_ble_eq_true rfl⟩ ⟨Nat.zero_le _, Nat.zero_le _⟩ 0 0 rfl rfl rfl [0] rfl rfl (zlc (N := 1) rfl rfl) [1] rfl (by decide) (fun _ : Unit => [wM K.g y all kept hist hl slo sav beg prt frm txt tl sp tol rd]) (fun _ => rfl) rfl rfl (Nat.le_of_ble_eq_true rfl) dX5_washFor_11 14 rfl (fun u9 hu9 => ?_)
    show Z K 0 0 [wM K.g y all kept hist hl slo sav beg prt frm txt tl sp tol rd] [(0, .ref (y 0)), (1, .int (nI j))] 14 [.int (nI (r 1 (j - 1)))]
    refine z_aload_n C 0 rfl rfl dX5_washFor_14 15 rfl ?_
    refine z_iload_n C 1 rfl rfl dX5_washFor_15 16 rfl ?_
    refine z_iconst C (v := nI 1) rfl dX5_washFor_16 17 rfl ?_
    refine z_callV C [.int (nI j), .int (nI 1)] [.int (nI (r 1 (j - 1)))] (tX5_itsb K.l K.g y all kept hist hl slo sav beg prt frm txt tl sp tol rd st r n j 1 (by first | omega | assumption) (by first | omega | assumption) (by first | omega | assumption) (by first | omega | assumption)) gX5_washFor_X5_its rfl rfl rfl hdX5_its ⟨Nat.le_of_ble_eq_true rfl, Nat.le_of_ble_eq_true rfl⟩ ⟨Nat.zero_le _, Nat.zero_le _⟩ 0 0 rfl rfl rfl [0] rfl rfl (zlc (N := 1) rfl rfl) [1] rfl (by decide) (fun _ : Unit => [wM K.g y all kept hist hl slo sav beg prt frm txt tl sp tol rd]) (fun _ => rfl) rfl rfl (Nat.le_of_ble_eq_true rfl) dX5_washFor_17 20 rfl (fun u9 hu9 => ?_)
    show Z K 0 0 [wM K.g y all kept hist hl slo sav beg prt frm txt tl sp tol rd] [(0, .ref (y 0)), (1, .int (nI j))] 20 [.int (nI (r 1 j)), .int (nI (r 1 (j - 1)))]
    have hb1 := (hJ j hj).2.1
    have hb2 := (hJ (j - 1) (by omega)).2.1
    by_cases hab : r 1 j ≤ r 1 (j - 1)
    · skip
      refine z_isub C (by omega) dX5_washFor_20 21 rfl ?_
      refine z_istore_n C hnL [1, 2, 0] [(0, .ref (y 0)), (1, .int (nI j)), (2, .int (nI ((r 1 (j - 1)) - (r 1 j))))] rfl rfl (Nat.le_of_ble_eq_true rfl) dX5_washFor_21 22 rfl ?_
      refine z_iload_n C 2 rfl rfl dX5_washFor_22 23 rfl ?_
      refine z_if_ne C (by omega) 30 dX5_washFor_23 (by decide) 26 rfl (fun c_2 => ?_) (fun c_2 => ?_)
      · skip
        refine z_iload_n C 2 rfl rfl dX5_washFor_30 31 rfl ?_
        refine z_if_ge C (by omega) 43 dX5_washFor_31 (by decide) 34 rfl (fun c_3 => ?_) (fun c_3 => ?_)
        rotate_left
        · exfalso; omega
        refine z_aload_n C 0 rfl rfl dX5_washFor_43 44 rfl ?_
        refine z_get C zc5 iX5_washFor_X5 0 0 rfl rfl 0 (Nat.le_of_ble_eq_true rfl) (List.mem_of_getElem? (i := 1) rfl) (v := .ref (y 1)) rfl dX5_washFor_44 47 rfl ?_
        refine z_iconst C (v := nI 1) rfl dX5_washFor_47 48 rfl ?_
        refine z_iald C (f := all) 0 1 rfl rfl (by omega) (by decide) dX5_washFor_48 49 rfl ?_
        refine z_top (show nI (all 1) = nI (st 1) from by rw [hB.1 1 (by decide)]) ?_
        refine z_aload_n C 0 rfl rfl dX5_washFor_49 50 rfl ?_
        refine z_get C zc5 iX5_washFor_X5 0 0 rfl rfl 0 (Nat.le_of_ble_eq_true rfl) (List.mem_of_getElem? (i := 1) rfl) (v := .ref (y 1)) rfl dX5_washFor_50 53 rfl ?_
        refine z_iconst C (v := nI 2) rfl dX5_washFor_53 54 rfl ?_
        refine z_iald C (f := all) 0 1 rfl rfl (by omega) (by decide) dX5_washFor_54 55 rfl ?_
        refine z_top (show nI (all 2) = nI (st 2) from by rw [hB.1 2 (by decide)]) ?_
        refine z_iload_n C 2 rfl rfl dX5_washFor_55 56 rfl ?_
        refine z_imul C dX5_washFor_56 57 rfl ?_
        refine z_iadd C dX5_washFor_57 58 rfl ?_
        exact z_iret C hRx dX5_washFor_58 () (by rw [show wsh st r j = (st 1) + ((st 2) * ((r 1 (j - 1)) - (r 1 j))) from by unfold wsh; rw [if_neg (by omega), if_pos (by omega), Nat.mul_comm (r 1 (j - 1) - r 1 j)]]) trivial rfl
      · skip
        refine z_iconst C (v := nI 0) rfl dX5_washFor_26 27 rfl ?_
        refine z_goto C 58 dX5_washFor_27 (by decide) ?_
        exact z_iret C hRx dX5_washFor_58 () (by rw [show wsh st r j = 0 from by unfold wsh; rw [if_neg (by omega), if_neg (by omega), if_neg (by omega)]]) trivial rfl
    · skip
      have hneg : nI (r 1 (j - 1)) - nI (r 1 j) < 0 := pk_sneg (by omega) (by omega)
      refine z_isubI C dX5_washFor_20 21 rfl ?_
      refine z_istore_n C hnL [1, 2, 0] [(0, .ref (y 0)), (1, .int (nI j)), (2, .int ((nI (r 1 (j - 1))) - (nI (r 1 j))))] rfl rfl (Nat.le_of_ble_eq_true rfl) dX5_washFor_21 22 rfl ?_
      refine z_iload_n C 2 rfl rfl dX5_washFor_22 23 rfl ?_
      refine z_ifI_ne C 30 dX5_washFor_23 (by decide) 26 rfl (fun c_4 => ?_) (fun c_4 => ?_)
      rotate_left
      · exfalso; exact absurd (c_4 ▸ hneg : (0 : Int32) < 0) (by decide)
      refine z_iload_n C 2 rfl rfl dX5_washFor_30 31 rfl ?_
      refine z_ifI_ge C 43 dX5_washFor_31 (by decide) 34 rfl (fun c_5 => ?_) (fun c_5 => ?_)
      · exfalso; exact absurd c_5 (Int32.not_le.mpr hneg)
      refine z_aload_n C 0 rfl rfl dX5_washFor_34 35 rfl ?_
      refine z_get C zc5 iX5_washFor_X5 0 0 rfl rfl 0 (Nat.le_of_ble_eq_true rfl) (List.mem_of_getElem? (i := 1) rfl) (v := .ref (y 1)) rfl dX5_washFor_35 38 rfl ?_
      refine z_iconst C (v := nI 2) rfl dX5_washFor_38 39 rfl ?_
      refine z_iald C (f := all) 0 1 rfl rfl (by omega) (by decide) dX5_washFor_39 40 rfl ?_
      refine z_top (show nI (all 2) = nI (st 2) from by rw [hB.1 2 (by decide)]) ?_
      refine z_goto C 58 dX5_washFor_40 (by decide) ?_
      exact z_iret C hRx dX5_washFor_58 () (by rw [show wsh st r j = st 2 from by unfold wsh; rw [if_neg (by omega), if_neg (by omega), if_pos (by omega)]]) trivial rfl
  · skip
    refine z_iconst C (v := nI 0) rfl dX5_washFor_4 5 rfl ?_
    exact z_iret C hRx dX5_washFor_5 () (by rw [show wsh st r j = 0 from by unfold wsh; rw [if_pos (by omega)]]) trivial rfl

theorem iX5_plateFor_X5 : ∀ w ∈ u_ws RX5 TX5 14, w ∈ wsX5_plateFor := fun w h => (List.mem_cons_of_mem _ (List.mem_append_right _ h))
set_option maxHeartbeats 4000000 in
set_option maxRecDepth 100000 in
theorem tX5_plateFor (l : Launch) (g : zG) (y all kept hist : Nat → Nat) (hl : Nat) (slo sav beg prt frm txt : Nat → Nat) (tl sp : Nat) (tol : Nat → Nat) (rd : Nat) (st : Nat → Nat) (r : Nat → Nat → Nat) (n : Nat) (j : Nat) (hn : n ≤ 12) (hB : Bd all st r n) (hS : okS st) (hJ : okJ r n) (hj : j < n) : Met l yX5_plateFor wsX5_plateFor ({ frames := 1, cells := 0, slots := 0, locals := 22 } : Room) (zPre g [.ref (y 0), .int (nI j)] [wM g y all kept hist hl slo sav beg prt frm txt tl sp tol rd]) (zQ g (fun _ : Unit => some (.int (nI (if 0 < j ∧ r 0 (j - 1) = r 0 j then 0 else st 0))) ) (fun _ : Unit => True) (fun _ : Unit => [wM g y all kept hist hl slo sav beg prt frm txt tl sp tol rd]) (zA [wM g y all kept hist hl slo sav beg prt frm txt tl sp tol rd])) 0 0 (zA [wM g y all kept hist hl slo sav beg prt frm txt tl sp tol rd]) := by
  refine z_entry (cc := cX5_plateFor) (maxL := 2) (ret := (some .int)) (own := RX5) (by decide) rfl rfl (Nat.le_of_ble_eq_true rfl) [(0, .ref (y 0)), (1, .int (nI j))] rfl ?_
  intro K hKl hKg hnL C hRx
  subst hKl
  subst hKg
  refine z_iload_n C 1 rfl rfl dX5_plateFor_0 1 rfl ?_
  refine z_if_le C (by omega) 25 dX5_plateFor_1 (by decide) 4 rfl (fun c_1 => ?_) (fun c_1 => ?_)
  · skip
    refine z_aload_n C 0 rfl rfl dX5_plateFor_25 26 rfl ?_
    refine z_get C zc5 iX5_plateFor_X5 0 0 rfl rfl 0 (Nat.le_of_ble_eq_true rfl) (List.mem_of_getElem? (i := 1) rfl) (v := .ref (y 1)) rfl dX5_plateFor_26 29 rfl ?_
    refine z_iconst C (v := nI 0) rfl dX5_plateFor_29 30 rfl ?_
    refine z_iald C (f := all) 0 1 rfl rfl (by omega) (by decide) dX5_plateFor_30 31 rfl ?_
    refine z_top (show nI (all 0) = nI (st 0) from by rw [hB.1 0 (by decide)]) ?_
    exact z_iret C hRx dX5_plateFor_31 () (by rw [show (if 0 < j ∧ r 0 (j - 1) = r 0 j then 0 else st 0) = st 0 from if_neg (by omega)]) trivial rfl
  · skip
    have hb1 := (hJ j hj).1
    have hb2 := (hJ (j - 1) (by omega)).1
    refine z_aload_n C 0 rfl rfl dX5_plateFor_4 5 rfl ?_
    refine z_iload_n C 1 rfl rfl dX5_plateFor_5 6 rfl ?_
    refine z_iconst C (v := nI 1) rfl dX5_plateFor_6 7 rfl ?_
    refine z_isub C (by omega) dX5_plateFor_7 8 rfl ?_
    refine z_iconst C (v := nI 0) rfl dX5_plateFor_8 9 rfl ?_
    refine z_callV C [.int (nI (j - 1)), .int (nI 0)] [] (tX5_itsb K.l K.g y all kept hist hl slo sav beg prt frm txt tl sp tol rd st r n (j - 1) 0 (by first | omega | assumption) (by first | omega | assumption) (by first | omega | assumption) (by first | omega | assumption)) gX5_plateFor_X5_its rfl rfl rfl hdX5_its ⟨Nat.le_of_ble_eq_true rfl, Nat.le_of_ble_eq_true rfl⟩ ⟨Nat.zero_le _, Nat.zero_le _⟩ 0 0 rfl rfl rfl [0] rfl rfl (zlc (N := 1) rfl rfl) [1] rfl (by decide) (fun _ : Unit => [wM K.g y all kept hist hl slo sav beg prt frm txt tl sp tol rd]) (fun _ => rfl) rfl rfl (Nat.le_of_ble_eq_true rfl) dX5_plateFor_9 12 rfl (fun u9 hu9 => ?_)
    show Z K 0 0 [wM K.g y all kept hist hl slo sav beg prt frm txt tl sp tol rd] [(0, .ref (y 0)), (1, .int (nI j))] 12 [.int (nI (r 0 (j - 1)))]
    refine z_aload_n C 0 rfl rfl dX5_plateFor_12 13 rfl ?_
    refine z_iload_n C 1 rfl rfl dX5_plateFor_13 14 rfl ?_
    refine z_iconst C (v := nI 0) rfl dX5_plateFor_14 15 rfl ?_
    refine z_callV C [.int (nI j), .int (nI 0)] [.int (nI (r 0 (j - 1)))] (tX5_itsb K.l K.g y all kept hist hl slo sav beg prt frm txt tl sp tol rd st r n j 0 (by first | omega | assumption) (by first | omega | assumption) (by first | omega | assumption) (by first | omega | assumption)) gX5_plateFor_X5_its rfl rfl rfl hdX5_its ⟨Nat.le_of_ble_eq_true rfl, Nat.le_of_ble_eq_true rfl⟩ ⟨Nat.zero_le _, Nat.zero_le _⟩ 0 0 rfl rfl rfl [0] rfl rfl (zlc (N := 1) rfl rfl) [1] rfl (by decide) (fun _ : Unit => [wM K.g y all kept hist hl slo sav beg prt frm txt tl sp tol rd]) (fun _ => rfl) rfl rfl (Nat.le_of_ble_eq_true rfl) dX5_plateFor_15 18 rfl (fun u9 hu9 => ?_)
    show Z K 0 0 [wM K.g y all kept hist hl slo sav beg prt frm txt tl sp tol rd] [(0, .ref (y 0)), (1, .int (nI j))] 18 [.int (nI (r 0 j)), .int (nI (r 0 (j - 1)))]
    refine z_icmp_ne C (by omega) (by omega) 25 dX5_plateFor_18 (by decide) 21 rfl (fun c_2 => ?_) (fun c_2 => ?_)
    · skip
      refine z_aload_n C 0 rfl rfl dX5_plateFor_25 26 rfl ?_
      refine z_get C zc5 iX5_plateFor_X5 0 0 rfl rfl 0 (Nat.le_of_ble_eq_true rfl) (List.mem_of_getElem? (i := 1) rfl) (v := .ref (y 1)) rfl dX5_plateFor_26 29 rfl ?_
      refine z_iconst C (v := nI 0) rfl dX5_plateFor_29 30 rfl ?_
      refine z_iald C (f := all) 0 1 rfl rfl (by omega) (by decide) dX5_plateFor_30 31 rfl ?_
      refine z_top (show nI (all 0) = nI (st 0) from by rw [hB.1 0 (by decide)]) ?_
      exact z_iret C hRx dX5_plateFor_31 () (by rw [show (if 0 < j ∧ r 0 (j - 1) = r 0 j then 0 else st 0) = st 0 from if_neg (by omega)]) trivial rfl
    · skip
      refine z_iconst C (v := nI 0) rfl dX5_plateFor_21 22 rfl ?_
      refine z_goto C 31 dX5_plateFor_22 (by decide) ?_
      exact z_iret C hRx dX5_plateFor_31 () (by rw [show (if 0 < j ∧ r 0 (j - 1) = r 0 j then 0 else st 0) = 0 from if_pos ⟨by omega, by omega⟩]) trivial rfl

set_option maxHeartbeats 4000000 in
set_option maxRecDepth 100000 in
theorem tX5_isOther (l : Launch) (g : zG) (y all kept hist : Nat → Nat) (hl : Nat) (slo sav beg prt frm txt : Nat → Nat) (tl sp : Nat) (tol : Nat → Nat) (rd : Nat) (st : Nat → Nat) (r : Nat → Nat → Nat) (n : Nat) (j : Nat) (hn : n ≤ 12) (hB : Bd all st r n) (hS : okS st) (hJ : okJ r n) (hj : j < n) : Met l yX5_isOther wsX5_isOther ({ frames := 1, cells := 0, slots := 0, locals := 22 } : Room) (zPre g [.ref (y 0), .int (nI j)] [wM g y all kept hist hl slo sav beg prt frm txt tl sp tol rd]) (zQ g (fun _ : Unit => some (.int (nI (plt r j))) ) (fun _ : Unit => True) (fun _ : Unit => [wM g y all kept hist hl slo sav beg prt frm txt tl sp tol rd]) (zA [wM g y all kept hist hl slo sav beg prt frm txt tl sp tol rd])) 0 0 (zA [wM g y all kept hist hl slo sav beg prt frm txt tl sp tol rd]) := by
  refine z_entry (cc := cX5_isOther) (maxL := 2) (ret := (some .int)) (own := RX5) (by decide) rfl rfl (Nat.le_of_ble_eq_true rfl) [(0, .ref (y 0)), (1, .int (nI j))] rfl ?_
  intro K hKl hKg hnL C hRx
  subst hKl
  subst hKg
  refine z_iload_n C 1 rfl rfl dX5_isOther_0 1 rfl ?_
  refine z_if_le C (by omega) 25 dX5_isOther_1 (by decide) 4 rfl (fun c_1 => ?_) (fun c_1 => ?_)
  · skip
    refine z_iconst C (v := nI 1) rfl dX5_isOther_25 26 rfl ?_
    exact z_iret C hRx dX5_isOther_26 () (by rw [show plt r j = 1 from if_neg (by omega)]) trivial rfl
  · skip
    have hb1 := (hJ j hj).1
    have hb2 := (hJ (j - 1) (by omega)).1
    refine z_aload_n C 0 rfl rfl dX5_isOther_4 5 rfl ?_
    refine z_iload_n C 1 rfl rfl dX5_isOther_5 6 rfl ?_
    refine z_iconst C (v := nI 1) rfl dX5_isOther_6 7 rfl ?_
    refine z_isub C (by omega) dX5_isOther_7 8 rfl ?_
    refine z_iconst C (v := nI 0) rfl dX5_isOther_8 9 rfl ?_
    refine z_callV C [.int (nI (j - 1)), .int (nI 0)] [] (tX5_itsb K.l K.g y all kept hist hl slo sav beg prt frm txt tl sp tol rd st r n (j - 1) 0 (by first | omega | assumption) (by first | omega | assumption) (by first | omega | assumption) (by first | omega | assumption)) gX5_isOther_X5_its rfl rfl rfl hdX5_its ⟨Nat.le_of_ble_eq_true rfl, Nat.le_of_ble_eq_true rfl⟩ ⟨Nat.zero_le _, Nat.zero_le _⟩ 0 0 rfl rfl rfl [0] rfl rfl (zlc (N := 1) rfl rfl) [1] rfl (by decide) (fun _ : Unit => [wM K.g y all kept hist hl slo sav beg prt frm txt tl sp tol rd]) (fun _ => rfl) rfl rfl (Nat.le_of_ble_eq_true rfl) dX5_isOther_9 12 rfl (fun u9 hu9 => ?_)
    show Z K 0 0 [wM K.g y all kept hist hl slo sav beg prt frm txt tl sp tol rd] [(0, .ref (y 0)), (1, .int (nI j))] 12 [.int (nI (r 0 (j - 1)))]
    refine z_aload_n C 0 rfl rfl dX5_isOther_12 13 rfl ?_
    refine z_iload_n C 1 rfl rfl dX5_isOther_13 14 rfl ?_
    refine z_iconst C (v := nI 0) rfl dX5_isOther_14 15 rfl ?_
    refine z_callV C [.int (nI j), .int (nI 0)] [.int (nI (r 0 (j - 1)))] (tX5_itsb K.l K.g y all kept hist hl slo sav beg prt frm txt tl sp tol rd st r n j 0 (by first | omega | assumption) (by first | omega | assumption) (by first | omega | assumption) (by first | omega | assumption)) gX5_isOther_X5_its rfl rfl rfl hdX5_its ⟨Nat.le_of_ble_eq_true rfl, Nat.le_of_ble_eq_true rfl⟩ ⟨Nat.zero_le _, Nat.zero_le _⟩ 0 0 rfl rfl rfl [0] rfl rfl (zlc (N := 1) rfl rfl) [1] rfl (by decide) (fun _ : Unit => [wM K.g y all kept hist hl slo sav beg prt frm txt tl sp tol rd]) (fun _ => rfl) rfl rfl (Nat.le_of_ble_eq_true rfl) dX5_isOther_15 18 rfl (fun u9 hu9 => ?_)
    show Z K 0 0 [wM K.g y all kept hist hl slo sav beg prt frm txt tl sp tol rd] [(0, .ref (y 0)), (1, .int (nI j))] 18 [.int (nI (r 0 j)), .int (nI (r 0 (j - 1)))]
    refine z_icmp_ne C (by omega) (by omega) 25 dX5_isOther_18 (by decide) 21 rfl (fun c_2 => ?_) (fun c_2 => ?_)
    · skip
      refine z_iconst C (v := nI 1) rfl dX5_isOther_25 26 rfl ?_
      exact z_iret C hRx dX5_isOther_26 () (by rw [show plt r j = 1 from if_neg (by omega)]) trivial rfl
    · skip
      refine z_iconst C (v := nI 0) rfl dX5_isOther_21 22 rfl ?_
      refine z_goto C 26 dX5_isOther_22 (by decide) ?_
      exact z_iret C hRx dX5_isOther_26 () (by rw [show plt r j = 0 from if_pos ⟨by omega, by omega⟩]) trivial rfl

set_option maxHeartbeats 4000000 in
set_option maxRecDepth 100000 in
theorem tX5_readyFor (l : Launch) (g : zG) (y all kept hist : Nat → Nat) (hl : Nat) (slo sav beg prt frm txt : Nat → Nat) (tl sp : Nat) (tol : Nat → Nat) (rd : Nat) (st : Nat → Nat) (r : Nat → Nat → Nat) (n : Nat) (j : Nat) (hn : n ≤ 12) (hB : Bd all st r n) (hS : okS st) (hJ : okJ r n) (hj : j < n) : Met l yX5_readyFor wsX5_readyFor ({ frames := 2, cells := 0, slots := 0, locals := 44 } : Room) (zPre g [.ref (y 0), .int (nI j)] [wM g y all kept hist hl slo sav beg prt frm txt tl sp tol rd]) (zQ g (fun _ : Unit => some (.int (nI (rdy st r j))) ) (fun _ : Unit => True) (fun _ : Unit => [wM g y all kept hist hl slo sav beg prt frm txt tl sp tol rd]) (zA [wM g y all kept hist hl slo sav beg prt frm txt tl sp tol rd])) 0 0 (zA [wM g y all kept hist hl slo sav beg prt frm txt tl sp tol rd]) := by
  refine z_entry (cc := cX5_readyFor) (maxL := 2) (ret := (some .int)) (own := RX5) (by decide) rfl rfl (Nat.le_of_ble_eq_true rfl) [(0, .ref (y 0)), (1, .int (nI j))] rfl ?_
  intro K hKl hKg hnL C hRx
  subst hKl
  subst hKg
  refine z_aload_n C 0 rfl rfl dX5_readyFor_0 1 rfl ?_
  refine z_iload_n C 1 rfl rfl dX5_readyFor_1 2 rfl ?_
  refine z_callV C [.int (nI j)] [] (tX5_plateFor K.l K.g y all kept hist hl slo sav beg prt frm txt tl sp tol rd st r n j (by first | omega | assumption) (by first | omega | assumption) (by first | omega | assumption) (by first | omega | assumption) (by first | omega | assumption)) gX5_readyFor_X5_plateFor rfl rfl rfl hdX5_plateFor ⟨Nat.le_of_ble_eq_true rfl, Nat.le_of_ble_eq_true rfl⟩ ⟨Nat.zero_le _, Nat.zero_le _⟩ 0 0 rfl rfl rfl [0] rfl rfl (zlc (N := 1) rfl rfl) [1] rfl (by decide) (fun _ : Unit => [wM K.g y all kept hist hl slo sav beg prt frm txt tl sp tol rd]) (fun _ => rfl) rfl rfl (Nat.le_of_ble_eq_true rfl) dX5_readyFor_2 5 rfl (fun u9 hu9 => ?_)
  show Z K 0 0 [wM K.g y all kept hist hl slo sav beg prt frm txt tl sp tol rd] [(0, .ref (y 0)), (1, .int (nI j))] 5 [.int (nI (if 0 < j ∧ r 0 (j - 1) = r 0 j then 0 else st 0))]
  refine z_aload_n C 0 rfl rfl dX5_readyFor_5 6 rfl ?_
  refine z_iload_n C 1 rfl rfl dX5_readyFor_6 7 rfl ?_
  refine z_callV C [.int (nI j)] [.int (nI (if 0 < j ∧ r 0 (j - 1) = r 0 j then 0 else st 0))] (tX5_washFor K.l K.g y all kept hist hl slo sav beg prt frm txt tl sp tol rd st r n j (by first | omega | assumption) (by first | omega | assumption) (by first | omega | assumption) (by first | omega | assumption) (by first | omega | assumption)) gX5_readyFor_X5_washFor rfl rfl rfl hdX5_washFor ⟨Nat.le_of_ble_eq_true rfl, Nat.le_of_ble_eq_true rfl⟩ ⟨Nat.zero_le _, Nat.zero_le _⟩ 0 0 rfl rfl rfl [0] rfl rfl (zlc (N := 1) rfl rfl) [1] rfl (by decide) (fun _ : Unit => [wM K.g y all kept hist hl slo sav beg prt frm txt tl sp tol rd]) (fun _ => rfl) rfl rfl (Nat.le_of_ble_eq_true rfl) dX5_readyFor_7 10 rfl (fun u9 hu9 => ?_)
  show Z K 0 0 [wM K.g y all kept hist hl slo sav beg prt frm txt tl sp tol rd] [(0, .ref (y 0)), (1, .int (nI j))] 10 [.int (nI (wsh st r j)), .int (nI (if 0 < j ∧ r 0 (j - 1) = r 0 j then 0 else st 0))]
  refine z_iadd C dX5_readyFor_10 11 rfl ?_
  exact z_iret C hRx dX5_readyFor_11 () (by rw [show rdy st r j = (if 0 < j ∧ r 0 (j - 1) = r 0 j then 0 else st 0) + (wsh st r j) from Nat.add_comm _ _]) trivial rfl

theorem iX5_dry_X5 : ∀ w ∈ u_ws RX5 TX5 14, w ∈ wsX5_dry := fun w h => (List.mem_cons_of_mem _ (List.mem_append_right _ h))
set_option maxHeartbeats 4000000 in
set_option maxRecDepth 100000 in
theorem tX5_dry (l : Launch) (g : zG) (y all kept hist : Nat → Nat) (hl : Nat) (slo sav beg prt frm txt : Nat → Nat) (tl sp : Nat) (tol : Nat → Nat) (rd : Nat) (st : Nat → Nat) (r : Nat → Nat → Nat) (n : Nat) (j : Nat) (hn : n ≤ 12) (hB : Bd all st r n) (hj : j < n) : Met l yX5_dry wsX5_dry ({ frames := 0, cells := 0, slots := 0, locals := 0 } : Room) (zPre g [.ref (y 0), .int (nI j)] [wM g y all kept hist hl slo sav beg prt frm txt tl sp tol rd]) (zQ g (fun _ : Unit => some (.int (nI (prt j + st 4))) ) (fun _ : Unit => True) (fun _ : Unit => [wM g y all kept hist hl slo sav beg prt frm txt tl sp tol rd]) (zA [wM g y all kept hist hl slo sav beg prt frm txt tl sp tol rd])) 0 0 (zA [wM g y all kept hist hl slo sav beg prt frm txt tl sp tol rd]) := by
  refine z_entry (cc := cX5_dry) (maxL := 2) (ret := (some .int)) (own := RX5) (by decide) rfl rfl (Nat.le_of_ble_eq_true rfl) [(0, .ref (y 0)), (1, .int (nI j))] rfl ?_
  intro K hKl hKg hnL C hRx
  subst hKl
  subst hKg
  refine z_aload_n C 0 rfl rfl dX5_dry_0 1 rfl ?_
  refine z_get C zc5 iX5_dry_X5 0 0 rfl rfl 7 (Nat.le_of_ble_eq_true rfl) (List.mem_of_getElem? (i := 1) rfl) (v := .ref (y 7)) rfl dX5_dry_1 4 rfl ?_
  refine z_iload_n C 1 rfl rfl dX5_dry_4 5 rfl ?_
  refine z_iald C (f := prt) 0 7 rfl rfl (by omega) (by decide) dX5_dry_5 6 rfl ?_
  refine z_aload_n C 0 rfl rfl dX5_dry_6 7 rfl ?_
  refine z_get C zc5 iX5_dry_X5 0 0 rfl rfl 0 (Nat.le_of_ble_eq_true rfl) (List.mem_of_getElem? (i := 2) rfl) (v := .ref (y 1)) rfl dX5_dry_7 10 rfl ?_
  refine z_iconst C (v := nI 4) rfl dX5_dry_10 11 rfl ?_
  refine z_iald C (f := all) 0 1 rfl rfl (by omega) (by decide) dX5_dry_11 12 rfl ?_
  refine z_top (show nI (all 4) = nI (st 4) from by rw [hB.1 4 (by decide)]) ?_
  refine z_iadd C dX5_dry_12 13 rfl ?_
  exact z_iret C hRx dX5_dry_13 () rfl trivial rfl

theorem iX5_taken_X5 : ∀ w ∈ u_ws RX5 TX5 14, w ∈ wsX5_taken := fun w h => (List.mem_cons_of_mem _ (List.mem_append_right _ h))
set_option maxHeartbeats 4000000 in
set_option maxRecDepth 100000 in
theorem tX5_taken (l : Launch) (g : zG) (y all kept hist : Nat → Nat) (hl : Nat) (slo sav beg prt frm txt : Nat → Nat) (tl sp : Nat) (tol : Nat → Nat) (rd : Nat) (st : Nat → Nat) (r : Nat → Nat → Nat) (n : Nat) (J m : Nat) (hn : n ≤ 12) (hB : Bd all st r n) (hS : okS st) (hJ : okJ r n) (hJn : J ≤ n) (hm : m ≤ 1000000) (hp : ∀ i, i < J → prt i ≤ 30000) : Met l yX5_taken wsX5_taken ({ frames := 2, cells := 0, slots := 0, locals := 43 } : Room) (zPre g [.ref (y 0), .int (nI J), .int (nI m)] [wM g y all kept hist hl slo sav beg prt frm txt tl sp tol rd]) (zQ g (fun _ : Unit => some (.int (nI (tkn st r prt J m))) ) (fun _ : Unit => True) (fun _ : Unit => [wM g y all kept hist hl slo sav beg prt frm txt tl sp tol rd]) (zA [wM g y all kept hist hl slo sav beg prt frm txt tl sp tol rd])) 0 0 (zA [wM g y all kept hist hl slo sav beg prt frm txt tl sp tol rd]) := by
  refine z_entry (cc := cX5_taken) (maxL := 5) (ret := (some .int)) (own := RX5) (by decide) rfl rfl (Nat.le_of_ble_eq_true rfl) [(0, .ref (y 0)), (1, .int (nI J)), (2, .int (nI m))] rfl ?_
  intro K hKl hKg hnL C hRx
  subst hKl
  subst hKg
  have h4 := hS.2.2.2.2.2.1
  refine z_iconst C (v := nI 0) rfl dX5_taken_0 1 rfl ?_
  refine z_istore_n C hnL [1, 2, 3, 0] [(0, .ref (y 0)), (1, .int (nI J)), (2, .int (nI m)), (3, .int (nI 0))] rfl rfl (Nat.le_of_ble_eq_true rfl) dX5_taken_1 2 rfl ?_
  refine z_iconst C (v := nI 0) rfl dX5_taken_2 3 rfl ?_
  refine z_istore C hnL [1, 2, 3, 4, 0] [(0, .ref (y 0)), (1, .int (nI J)), (2, .int (nI m)), (3, .int (nI 0)), (4, .int (nI 0))] rfl (Nat.le_of_ble_eq_true rfl) dX5_taken_3 5 rfl ?_
  have loop5 : ∀ (mu : Nat) (i : Nat) (x : Nat), mu = J - i → i ≤ J → x = tkn st r prt i m → Z K 0 0 [wM K.g y all kept hist hl slo sav beg prt frm txt tl sp tol rd] [(0, .ref (y 0)), (1, .int (nI J)), (2, .int (nI m)), (3, .int (nI x)), (4, .int (nI i))] 5 [] := by
    refine z_ind (fun mu ih5 => ?_)
    intro i x hmu5 hi hx
    refine z_iload C 4 rfl dX5_taken_5 7 rfl ?_
    refine z_iload_n C 1 rfl rfl dX5_taken_7 8 rfl ?_
    refine z_icmp_ge C (by omega) (by omega) 51 dX5_taken_8 (by decide) 11 rfl (fun c_1 => ?_) (fun c_1 => ?_)
    · skip
      refine z_iload_n C 3 rfl rfl dX5_taken_51 52 rfl ?_
      obtain rfl : i = J := by omega
      exact z_iret C hRx dX5_taken_52 () (by rw [hx]) trivial rfl
    · skip
      refine z_iload_n C 3 rfl rfl dX5_taken_11 12 rfl ?_
      refine z_aload_n C 0 rfl rfl dX5_taken_12 13 rfl ?_
      refine z_get C zc5 iX5_taken_X5 0 0 rfl rfl 7 (Nat.le_of_ble_eq_true rfl) (List.mem_of_getElem? (i := 1) rfl) (v := .ref (y 7)) rfl dX5_taken_13 16 rfl ?_
      refine z_iload C 4 rfl dX5_taken_16 18 rfl ?_
      refine z_iald C (f := prt) 0 7 rfl rfl (by omega) (by decide) dX5_taken_18 19 rfl ?_
      have hpi := hp i (by omega)
      refine z_iload_n C 2 rfl rfl dX5_taken_19 20 rfl ?_
      refine z_icmp_gt C (by omega) (by omega) 42 dX5_taken_20 (by decide) 23 rfl (fun c_2 => ?_) (fun c_2 => ?_)
      · skip
        refine z_iconst C (v := nI 0) rfl dX5_taken_42 43 rfl ?_
        refine z_iadd C dX5_taken_43 44 rfl ?_
        refine z_istore_n C hnL [1, 2, 3, 0, 4] [(0, .ref (y 0)), (1, .int (nI J)), (2, .int (nI m)), (3, .int (nI (x + 0))), (4, .int (nI i))] rfl rfl (Nat.le_of_ble_eq_true rfl) dX5_taken_44 45 rfl ?_
        refine z_iinc C hnL 4 rfl (v := (nI (i + 1))) (nI_1 _) [1, 2, 3, 4, 0] [(0, .ref (y 0)), (1, .int (nI J)), (2, .int (nI m)), (3, .int (nI (x + 0))), (4, .int (nI (i + 1)))] rfl (Nat.le_of_ble_eq_true rfl) dX5_taken_45 48 rfl ?_
        refine z_goto C 5 dX5_taken_48 (by decide) ?_
        exact ih5 _ (by omega) (i + 1) (x + 0) rfl (by omega) (by rw [tkn_s, ← hx, if_neg (by omega)])
      · skip
        refine z_iload_n C 2 rfl rfl dX5_taken_23 24 rfl ?_
        refine z_aload_n C 0 rfl rfl dX5_taken_24 25 rfl ?_
        refine z_iload C 4 rfl dX5_taken_25 27 rfl ?_
        refine z_callV C [.int (nI i)] [.int (nI m), .int (nI x)] (tX5_dry K.l K.g y all kept hist hl slo sav beg prt frm txt tl sp tol rd st r n i (by first | omega | assumption) (by first | omega | assumption) (by first | omega | assumption)) gX5_taken_X5_dry rfl rfl rfl hdX5_dry ⟨Nat.le_of_ble_eq_true rfl, Nat.le_of_ble_eq_true rfl⟩ ⟨Nat.zero_le _, Nat.zero_le _⟩ 0 0 rfl rfl rfl [0] rfl rfl (zlc (N := 1) rfl rfl) [1] rfl (by decide) (fun _ : Unit => [wM K.g y all kept hist hl slo sav beg prt frm txt tl sp tol rd]) (fun _ => rfl) rfl rfl (Nat.le_of_ble_eq_true rfl) dX5_taken_27 30 rfl (fun u9 hu9 => ?_)
        show Z K 0 0 [wM K.g y all kept hist hl slo sav beg prt frm txt tl sp tol rd] [(0, .ref (y 0)), (1, .int (nI J)), (2, .int (nI m)), (3, .int (nI x)), (4, .int (nI i))] 30 [.int (nI (prt i + st 4)), .int (nI m), .int (nI x)]
        refine z_icmp_ge C (by omega) (by omega) 42 dX5_taken_30 (by decide) 33 rfl (fun c_3 => ?_) (fun c_3 => ?_)
        · skip
          refine z_iconst C (v := nI 0) rfl dX5_taken_42 43 rfl ?_
          refine z_iadd C dX5_taken_43 44 rfl ?_
          refine z_istore_n C hnL [1, 2, 3, 0, 4] [(0, .ref (y 0)), (1, .int (nI J)), (2, .int (nI m)), (3, .int (nI (x + 0))), (4, .int (nI i))] rfl rfl (Nat.le_of_ble_eq_true rfl) dX5_taken_44 45 rfl ?_
          refine z_iinc C hnL 4 rfl (v := (nI (i + 1))) (nI_1 _) [1, 2, 3, 4, 0] [(0, .ref (y 0)), (1, .int (nI J)), (2, .int (nI m)), (3, .int (nI (x + 0))), (4, .int (nI (i + 1)))] rfl (Nat.le_of_ble_eq_true rfl) dX5_taken_45 48 rfl ?_
          refine z_goto C 5 dX5_taken_48 (by decide) ?_
          exact ih5 _ (by omega) (i + 1) (x + 0) rfl (by omega) (by rw [tkn_s, ← hx, if_neg (by omega)])
        · skip
          refine z_aload_n C 0 rfl rfl dX5_taken_33 34 rfl ?_
          refine z_iload C 4 rfl dX5_taken_34 36 rfl ?_
          refine z_callV C [.int (nI i)] [.int (nI x)] (tX5_racksOf K.l K.g y all kept hist hl slo sav beg prt frm txt tl sp tol rd st r n i (by first | omega | assumption) (by first | omega | assumption) (by first | omega | assumption) (by first | omega | assumption) (by first | omega | assumption)) gX5_taken_X5_racksOf rfl rfl rfl hdX5_racksOf ⟨Nat.le_of_ble_eq_true rfl, Nat.le_of_ble_eq_true rfl⟩ ⟨Nat.zero_le _, Nat.zero_le _⟩ 0 0 rfl rfl rfl [0] rfl rfl (zlc (N := 1) rfl rfl) [1] rfl (by decide) (fun _ : Unit => [wM K.g y all kept hist hl slo sav beg prt frm txt tl sp tol rd]) (fun _ => rfl) rfl rfl (Nat.le_of_ble_eq_true rfl) dX5_taken_36 39 rfl (fun u9 hu9 => ?_)
          show Z K 0 0 [wM K.g y all kept hist hl slo sav beg prt frm txt tl sp tol rd] [(0, .ref (y 0)), (1, .int (nI J)), (2, .int (nI m)), (3, .int (nI x)), (4, .int (nI i))] 39 [.int (nI (ndj st r i)), .int (nI x)]
          refine z_goto C 43 dX5_taken_39 (by decide) ?_
          refine z_iadd C dX5_taken_43 44 rfl ?_
          refine z_istore_n C hnL [1, 2, 3, 0, 4] [(0, .ref (y 0)), (1, .int (nI J)), (2, .int (nI m)), (3, .int (nI (x + (ndj st r i)))), (4, .int (nI i))] rfl rfl (Nat.le_of_ble_eq_true rfl) dX5_taken_44 45 rfl ?_
          refine z_iinc C hnL 4 rfl (v := (nI (i + 1))) (nI_1 _) [1, 2, 3, 4, 0] [(0, .ref (y 0)), (1, .int (nI J)), (2, .int (nI m)), (3, .int (nI (x + (ndj st r i)))), (4, .int (nI (i + 1)))] rfl (Nat.le_of_ble_eq_true rfl) dX5_taken_45 48 rfl ?_
          refine z_goto C 5 dX5_taken_48 (by decide) ?_
          exact ih5 _ (by omega) (i + 1) (x + (ndj st r i)) rfl (by omega) (by rw [tkn_s, ← hx, if_pos (by omega)])
  exact loop5 _ 0 0 rfl (by omega) rfl

set_option maxHeartbeats 4000000 in
set_option maxRecDepth 100000 in
theorem tX5_late (l : Launch) (g : zG) (y all kept hist : Nat → Nat) (hl : Nat) (slo sav beg prt frm txt : Nat → Nat) (tl sp : Nat) (tol : Nat → Nat) (rd : Nat) (st : Nat → Nat) (r : Nat → Nat → Nat) (n : Nat) (j : Nat) (hn : n ≤ 12) (hB : Bd all st r n) (hS : okS st) (hJ : okJ r n) (hj : j < n) (hp : ∀ i, i < n → prt i ≤ 30000) : Met l yX5_late wsX5_late ({ frames := 1, cells := 0, slots := 0, locals := 22 } : Room) (zPre g [.ref (y 0), .int (nI j)] [wM g y all kept hist hl slo sav beg prt frm txt tl sp tol rd]) (zQ g (fun _ : Unit => some (.int (nI (prt j + st 4 - r 3 j))) ) (fun _ : Unit => True) (fun _ : Unit => [wM g y all kept hist hl slo sav beg prt frm txt tl sp tol rd]) (zA [wM g y all kept hist hl slo sav beg prt frm txt tl sp tol rd])) 0 0 (zA [wM g y all kept hist hl slo sav beg prt frm txt tl sp tol rd]) := by
  refine z_entry (cc := cX5_late) (maxL := 3) (ret := (some .int)) (own := RX5) (by decide) rfl rfl (Nat.le_of_ble_eq_true rfl) [(0, .ref (y 0)), (1, .int (nI j))] rfl ?_
  intro K hKl hKg hnL C hRx
  subst hKl
  subst hKg
  refine z_aload_n C 0 rfl rfl dX5_late_0 1 rfl ?_
  refine z_iload_n C 1 rfl rfl dX5_late_1 2 rfl ?_
  refine z_callV C [.int (nI j)] [] (tX5_dry K.l K.g y all kept hist hl slo sav beg prt frm txt tl sp tol rd st r n j (by first | omega | assumption) (by first | omega | assumption) (by first | omega | assumption)) gX5_late_X5_dry rfl rfl rfl hdX5_dry ⟨Nat.le_of_ble_eq_true rfl, Nat.le_of_ble_eq_true rfl⟩ ⟨Nat.zero_le _, Nat.zero_le _⟩ 0 0 rfl rfl rfl [0] rfl rfl (zlc (N := 1) rfl rfl) [1] rfl (by decide) (fun _ : Unit => [wM K.g y all kept hist hl slo sav beg prt frm txt tl sp tol rd]) (fun _ => rfl) rfl rfl (Nat.le_of_ble_eq_true rfl) dX5_late_2 5 rfl (fun u9 hu9 => ?_)
  show Z K 0 0 [wM K.g y all kept hist hl slo sav beg prt frm txt tl sp tol rd] [(0, .ref (y 0)), (1, .int (nI j))] 5 [.int (nI (prt j + st 4))]
  refine z_aload_n C 0 rfl rfl dX5_late_5 6 rfl ?_
  refine z_iload_n C 1 rfl rfl dX5_late_6 7 rfl ?_
  refine z_iconst C (v := nI 3) rfl dX5_late_7 8 rfl ?_
  refine z_callV C [.int (nI j), .int (nI 3)] [.int (nI (prt j + st 4))] (tX5_itsb K.l K.g y all kept hist hl slo sav beg prt frm txt tl sp tol rd st r n j 3 (by first | omega | assumption) (by first | omega | assumption) (by first | omega | assumption) (by first | omega | assumption)) gX5_late_X5_its rfl rfl rfl hdX5_its ⟨Nat.le_of_ble_eq_true rfl, Nat.le_of_ble_eq_true rfl⟩ ⟨Nat.zero_le _, Nat.zero_le _⟩ 0 0 rfl rfl rfl [0] rfl rfl (zlc (N := 1) rfl rfl) [1] rfl (by decide) (fun _ : Unit => [wM K.g y all kept hist hl slo sav beg prt frm txt tl sp tol rd]) (fun _ => rfl) rfl rfl (Nat.le_of_ble_eq_true rfl) dX5_late_8 11 rfl (fun u9 hu9 => ?_)
  show Z K 0 0 [wM K.g y all kept hist hl slo sav beg prt frm txt tl sp tol rd] [(0, .ref (y 0)), (1, .int (nI j))] 11 [.int (nI (r 3 j)), .int (nI (prt j + st 4))]
  have hb1 := (hJ j hj).2.2.2.2
  have hb2 := hp j hj
  have hb3 := hS.2.2.2.2.2.1
  by_cases hab : r 3 j ≤ prt j + st 4
  · skip
    refine z_isub C (by omega) dX5_late_11 12 rfl ?_
    refine z_istore_n C hnL [1, 2, 0] [(0, .ref (y 0)), (1, .int (nI j)), (2, .int (nI ((prt j + st 4) - (r 3 j))))] rfl rfl (Nat.le_of_ble_eq_true rfl) dX5_late_12 13 rfl ?_
    refine z_iload_n C 2 rfl rfl dX5_late_13 14 rfl ?_
    refine z_if_ge C (by omega) 21 dX5_late_14 (by decide) 17 rfl (fun c_1 => ?_) (fun c_1 => ?_)
    rotate_left
    · exfalso; omega
    refine z_iload_n C 2 rfl rfl dX5_late_21 22 rfl ?_
    exact z_iret C hRx dX5_late_22 () rfl trivial rfl
  · skip
    refine z_isubI C dX5_late_11 12 rfl ?_
    refine z_istore_n C hnL [1, 2, 0] [(0, .ref (y 0)), (1, .int (nI j)), (2, .int ((nI (prt j + st 4)) - (nI (r 3 j))))] rfl rfl (Nat.le_of_ble_eq_true rfl) dX5_late_12 13 rfl ?_
    refine z_iload_n C 2 rfl rfl dX5_late_13 14 rfl ?_
    refine z_ifI_ge C 21 dX5_late_14 (by decide) 17 rfl (fun c_2 => ?_) (fun c_2 => ?_)
    · exfalso; exact absurd c_2 (Int32.not_le.mpr (pk_sneg (by omega) (by omega)))
    refine z_iconst C (v := nI 0) rfl dX5_late_17 18 rfl ?_
    refine z_goto C 22 dX5_late_18 (by decide) ?_
    exact z_iret C hRx dX5_late_22 () (by rw [show prt j + st 4 - r 3 j = 0 by omega]) trivial rfl

theorem iX5_waits_X5 : ∀ w ∈ u_ws RX5 TX5 14, w ∈ wsX5_waits := fun w h => (List.mem_cons_of_mem _ (List.mem_append_right _ h))
set_option maxHeartbeats 4000000 in
set_option maxRecDepth 100000 in
theorem tX5_waits (l : Launch) (g : zG) (y all kept hist : Nat → Nat) (hl : Nat) (slo sav beg prt frm txt : Nat → Nat) (tl sp : Nat) (tol : Nat → Nat) (rd : Nat) (j : Nat) (hj : j < 12) (hf : fre prt j ≤ beg j) : Met l yX5_waits wsX5_waits ({ frames := 0, cells := 0, slots := 0, locals := 0 } : Room) (zPre g [.ref (y 0), .int (nI j)] [wM g y all kept hist hl slo sav beg prt frm txt tl sp tol rd]) (zQ g (fun _ : Unit => some (.int (nI (beg j - fre prt j))) ) (fun _ : Unit => True) (fun _ : Unit => [wM g y all kept hist hl slo sav beg prt frm txt tl sp tol rd]) (zA [wM g y all kept hist hl slo sav beg prt frm txt tl sp tol rd])) 0 0 (zA [wM g y all kept hist hl slo sav beg prt frm txt tl sp tol rd]) := by
  refine z_entry (cc := cX5_waits) (maxL := 2) (ret := (some .int)) (own := RX5) (by decide) rfl rfl (Nat.le_of_ble_eq_true rfl) [(0, .ref (y 0)), (1, .int (nI j))] rfl ?_
  intro K hKl hKg hnL C hRx
  subst hKl
  subst hKg
  refine z_aload_n C 0 rfl rfl dX5_waits_0 1 rfl ?_
  refine z_get C zc5 iX5_waits_X5 0 0 rfl rfl 6 (Nat.le_of_ble_eq_true rfl) (List.mem_of_getElem? (i := 1) rfl) (v := .ref (y 6)) rfl dX5_waits_1 4 rfl ?_
  refine z_iload_n C 1 rfl rfl dX5_waits_4 5 rfl ?_
  refine z_iald C (f := beg) 0 6 rfl rfl (by omega) (by decide) dX5_waits_5 6 rfl ?_
  refine z_iload_n C 1 rfl rfl dX5_waits_6 7 rfl ?_
  refine z_if_ne C (by omega) 14 dX5_waits_7 (by decide) 10 rfl (fun c_1 => ?_) (fun c_1 => ?_)
  · skip
    refine z_aload_n C 0 rfl rfl dX5_waits_14 15 rfl ?_
    refine z_get C zc5 iX5_waits_X5 0 0 rfl rfl 7 (Nat.le_of_ble_eq_true rfl) (List.mem_of_getElem? (i := 2) rfl) (v := .ref (y 7)) rfl dX5_waits_15 18 rfl ?_
    refine z_iload_n C 1 rfl rfl dX5_waits_18 19 rfl ?_
    refine z_iconst C (v := nI 1) rfl dX5_waits_19 20 rfl ?_
    refine z_isub C (by omega) dX5_waits_20 21 rfl ?_
    refine z_iald C (f := prt) 0 7 rfl rfl (by omega) (by decide) dX5_waits_21 22 rfl ?_
    refine z_top (show nI (prt (j - 1)) = nI (fre prt j) from (by unfold fre; rw [if_neg (by omega)])) ?_
    refine z_isub C (by omega) dX5_waits_22 23 rfl ?_
    exact z_iret C hRx dX5_waits_23 () rfl trivial rfl
  · skip
    refine z_iconst C (v := nI 0) rfl dX5_waits_10 11 rfl ?_
    refine z_goto C 22 dX5_waits_11 (by decide) ?_
    refine z_top (show nI 0 = nI (fre prt j) from (by unfold fre; rw [if_pos (by omega)])) ?_
    refine z_isub C (by omega) dX5_waits_22 23 rfl ?_
    exact z_iret C hRx dX5_waits_23 () rfl trivial rfl

theorem iX5_mostNeeded_X5 : ∀ w ∈ u_ws RX5 TX5 14, w ∈ wsX5_mostNeeded := fun w h => (List.mem_cons_of_mem _ (List.mem_append_right _ h))
set_option maxHeartbeats 4000000 in
set_option maxRecDepth 100000 in
theorem tX5_mostNeeded (l : Launch) (g : zG) (y all kept hist : Nat → Nat) (hl : Nat) (slo sav beg prt frm txt : Nat → Nat) (tl sp : Nat) (tol : Nat → Nat) (rd : Nat) (st : Nat → Nat) (r : Nat → Nat → Nat) (n : Nat) (hn : n ≤ 12) (hB : Bd all st r n) (hS : okS st) (hJ : okJ r n) : Met l yX5_mostNeeded wsX5_mostNeeded ({ frames := 2, cells := 0, slots := 0, locals := 43 } : Room) (zPre g [.ref (y 0)] [wM g y all kept hist hl slo sav beg prt frm txt tl sp tol rd]) (zQ g (fun _ : Unit => some (.int (nI (mND st r n))) ) (fun _ : Unit => True) (fun _ : Unit => [wM g y all kept hist hl slo sav beg prt frm txt tl sp tol rd]) (zA [wM g y all kept hist hl slo sav beg prt frm txt tl sp tol rd])) 0 0 (zA [wM g y all kept hist hl slo sav beg prt frm txt tl sp tol rd]) := by
  refine z_entry (cc := cX5_mostNeeded) (maxL := 3) (ret := (some .int)) (own := RX5) (by decide) rfl rfl (Nat.le_of_ble_eq_true rfl) [(0, .ref (y 0))] rfl ?_
  intro K hKl hKg hnL C hRx
  subst hKl
  subst hKg
  refine z_iconst C (v := nI 0) rfl dX5_mostNeeded_0 1 rfl ?_
  refine z_istore_n C hnL [1, 0] [(0, .ref (y 0)), (1, .int (nI 0))] rfl rfl (Nat.le_of_ble_eq_true rfl) dX5_mostNeeded_1 2 rfl ?_
  refine z_iconst C (v := nI 0) rfl dX5_mostNeeded_2 3 rfl ?_
  refine z_istore_n C hnL [1, 2, 0] [(0, .ref (y 0)), (1, .int (nI 0)), (2, .int (nI 0))] rfl rfl (Nat.le_of_ble_eq_true rfl) dX5_mostNeeded_3 4 rfl ?_
  have loop4 : ∀ (mu : Nat) (i : Nat) (x : Nat), mu = n - i → i ≤ n → x = mx (ndj st r) i → Z K 0 0 [wM K.g y all kept hist hl slo sav beg prt frm txt tl sp tol rd] [(0, .ref (y 0)), (1, .int (nI x)), (2, .int (nI i))] 4 [] := by
    refine z_ind (fun mu ih4 => ?_)
    intro i x hmu4 hi hx
    refine z_iload_n C 2 rfl rfl dX5_mostNeeded_4 5 rfl ?_
    refine z_aload_n C 0 rfl rfl dX5_mostNeeded_5 6 rfl ?_
    refine z_get C zc5 iX5_mostNeeded_X5 0 0 rfl rfl 0 (Nat.le_of_ble_eq_true rfl) (List.mem_of_getElem? (i := 1) rfl) (v := .ref (y 1)) rfl dX5_mostNeeded_6 9 rfl ?_
    refine z_bipush C (v := nI 7) rfl dX5_mostNeeded_9 11 rfl ?_
    refine z_iald C (f := all) 0 1 rfl rfl (by omega) (by decide) dX5_mostNeeded_11 12 rfl ?_
    refine z_top (show nI (all 7) = nI n from by rw [hB.2.1]) ?_
    refine z_icmp_ge C (by omega) (by omega) 40 dX5_mostNeeded_12 (by decide) 15 rfl (fun c_1 => ?_) (fun c_1 => ?_)
    · skip
      refine z_iload_n C 1 rfl rfl dX5_mostNeeded_40 41 rfl ?_
      obtain rfl : i = n := by omega
      exact z_iret C hRx dX5_mostNeeded_41 () (by rw [hx]; rfl) trivial rfl
    · skip
      have hnb := ndj_le (j := i) hS hJ (by omega)
      have hxb : x ≤ 20 := by rw [hx]; exact mx_le i (fun y hy => ndj_le hS hJ (by omega))
      refine z_aload_n C 0 rfl rfl dX5_mostNeeded_15 16 rfl ?_
      refine z_iload_n C 2 rfl rfl dX5_mostNeeded_16 17 rfl ?_
      refine z_callV C [.int (nI i)] [] (tX5_racksOf K.l K.g y all kept hist hl slo sav beg prt frm txt tl sp tol rd st r n i (by first | omega | assumption) (by first | omega | assumption) (by first | omega | assumption) (by first | omega | assumption) (by first | omega | assumption)) gX5_mostNeeded_X5_racksOf rfl rfl rfl hdX5_racksOf ⟨Nat.le_of_ble_eq_true rfl, Nat.le_of_ble_eq_true rfl⟩ ⟨Nat.zero_le _, Nat.zero_le _⟩ 0 0 rfl rfl rfl [0] rfl rfl (zlc (N := 1) rfl rfl) [1] rfl (by decide) (fun _ : Unit => [wM K.g y all kept hist hl slo sav beg prt frm txt tl sp tol rd]) (fun _ => rfl) rfl rfl (Nat.le_of_ble_eq_true rfl) dX5_mostNeeded_17 20 rfl (fun u9 hu9 => ?_)
      show Z K 0 0 [wM K.g y all kept hist hl slo sav beg prt frm txt tl sp tol rd] [(0, .ref (y 0)), (1, .int (nI x)), (2, .int (nI i))] 20 [.int (nI (ndj st r i))]
      refine z_iload_n C 1 rfl rfl dX5_mostNeeded_20 21 rfl ?_
      refine z_icmp_le C (by omega) (by omega) 32 dX5_mostNeeded_21 (by decide) 24 rfl (fun c_2 => ?_) (fun c_2 => ?_)
      · skip
        refine z_iload_n C 1 rfl rfl dX5_mostNeeded_32 33 rfl ?_
        refine z_istore_n C hnL [1, 0, 2] [(0, .ref (y 0)), (1, .int (nI x)), (2, .int (nI i))] rfl rfl (Nat.le_of_ble_eq_true rfl) dX5_mostNeeded_33 34 rfl ?_
        refine z_iinc C hnL 2 rfl (v := (nI (i + 1))) (nI_1 _) [1, 2, 0] [(0, .ref (y 0)), (1, .int (nI x)), (2, .int (nI (i + 1)))] rfl (Nat.le_of_ble_eq_true rfl) dX5_mostNeeded_34 37 rfl ?_
        refine z_goto C 4 dX5_mostNeeded_37 (by decide) ?_
        exact ih4 _ (by omega) (i + 1) x rfl (by omega) (by rw [mx_s, ← hx]; omega)
      · skip
        refine z_aload_n C 0 rfl rfl dX5_mostNeeded_24 25 rfl ?_
        refine z_iload_n C 2 rfl rfl dX5_mostNeeded_25 26 rfl ?_
        refine z_callV C [.int (nI i)] [] (tX5_racksOf K.l K.g y all kept hist hl slo sav beg prt frm txt tl sp tol rd st r n i (by first | omega | assumption) (by first | omega | assumption) (by first | omega | assumption) (by first | omega | assumption) (by first | omega | assumption)) gX5_mostNeeded_X5_racksOf rfl rfl rfl hdX5_racksOf ⟨Nat.le_of_ble_eq_true rfl, Nat.le_of_ble_eq_true rfl⟩ ⟨Nat.zero_le _, Nat.zero_le _⟩ 0 0 rfl rfl rfl [0] rfl rfl (zlc (N := 1) rfl rfl) [1] rfl (by decide) (fun _ : Unit => [wM K.g y all kept hist hl slo sav beg prt frm txt tl sp tol rd]) (fun _ => rfl) rfl rfl (Nat.le_of_ble_eq_true rfl) dX5_mostNeeded_26 29 rfl (fun u9 hu9 => ?_)
        show Z K 0 0 [wM K.g y all kept hist hl slo sav beg prt frm txt tl sp tol rd] [(0, .ref (y 0)), (1, .int (nI x)), (2, .int (nI i))] 29 [.int (nI (ndj st r i))]
        refine z_goto C 33 dX5_mostNeeded_29 (by decide) ?_
        refine z_istore_n C hnL [1, 0, 2] [(0, .ref (y 0)), (1, .int (nI (ndj st r i))), (2, .int (nI i))] rfl rfl (Nat.le_of_ble_eq_true rfl) dX5_mostNeeded_33 34 rfl ?_
        refine z_iinc C hnL 2 rfl (v := (nI (i + 1))) (nI_1 _) [1, 2, 0] [(0, .ref (y 0)), (1, .int (nI (ndj st r i))), (2, .int (nI (i + 1)))] rfl (Nat.le_of_ble_eq_true rfl) dX5_mostNeeded_34 37 rfl ?_
        refine z_goto C 4 dX5_mostNeeded_37 (by decide) ?_
        exact ih4 _ (by omega) (i + 1) (ndj st r i) rfl (by omega) (by rw [mx_s, ← hx]; omega)
  exact loop4 _ 0 0 rfl (by omega) rfl

/-! RA: the reference: its calls, but for those on the text. -/
def HCh (all hist : Nat → Nat) (hl : Nat) (hist2 : Nat → Nat) (hl2 : Nat) : Prop := hl2 = min (hl + 1) 6 ∧ (∀ u, u < 56 → hist2 (56 * (hl2 - 1) + u) = all u) ∧ ∀ e u, e + 1 < hl2 → u < 56 → hist2 (56 * e + u) = hist (56 * (e + (hl + 1 - hl2)) + u)
theorem un_b {f : Nat → Nat} {k v w : Nat} (h : f k = w) : un (un f k v) k w = f := by
  funext y
  by_cases e : y = k
  · subst e; rw [un_s, h]
  · rw [un_n e, un_n e]
theorem Bd_set {all st : Nat → Nat} {r : Nat → Nat → Nat} {n k v : Nat} (h : Bd all st r n) (hk : k ≤ 6) : Bd (un all k v) (un st k v) r n := by
  refine ⟨fun i hi => ?_, by rw [un_n (by omega)]; exact h.2.1, fun j hj q hq => by rw [un_n (by omega)]; exact h.2.2 j hj q hq⟩
  by_cases e : i = k
  · subst e; rw [un_s, un_s]
  · rw [un_n e, un_n e]; exact h.1 i hi
theorem Bd_st {all st st2 : Nat → Nat} {r : Nat → Nat → Nat} {n : Nat} (h : Bd all st r n) (e : ∀ i, i < 7 → st i = st2 i) : Bd all st2 r n := ⟨fun i hi => by rw [h.1 i hi, e i hi], h.2.1, h.2.2⟩
theorem Bd_s5 {all st : Nat → Nat} {r : Nat → Nat → Nat} {n : Nat} (h : Bd all st r n) : Bd all (un st 5 (st 5)) r n := Bd_st h (fun i _ => by
  by_cases e : i = 5
  · subst e; rw [un_s]
  · rw [un_n e])
theorem Bd_s6 {all st : Nat → Nat} {r : Nat → Nat → Nat} {n v w : Nat} (h : Bd all (un st 5 v) r n) : Bd (un all 5 w) (un st 5 w) r n := Bd_st (Bd_set (k := 5) (v := w) h (by decide)) (fun i _ => by
  by_cases e : i = 5
  · subst e; rw [un_s, un_s]
  · rw [un_n e, un_n e, un_n e])
theorem Bd_s7 {all st : Nat → Nat} {r : Nat → Nat → Nat} {n v : Nat} (h : Bd all (un st 5 v) r n) : Bd (un all 5 (st 5)) st r n := Bd_st (Bd_s6 (w := st 5) h) (fun i _ => by
  by_cases e : i = 5
  · subst e; rw [un_s]
  · rw [un_n e])
theorem Bd_n {all st : Nat → Nat} {r : Nat → Nat → Nat} {n m : Nat} (h : Bd all st r n) (hm : m ≤ n) : Bd (un all 7 m) st r m :=
  ⟨fun i hi => by rw [un_n (by omega)]; exact h.1 i hi, un_s, fun j hj k hk => by rw [un_n (by omega)]; exact h.2.2 j (by omega) k hk⟩
theorem Bd_hi {all st : Nat → Nat} {r : Nat → Nat → Nat} {n x v : Nat} (h : Bd all st r n) (hx : 8 + 4 * n ≤ x) : Bd (un all x v) st r n :=
  ⟨fun i hi => by rw [un_n (by omega)]; exact h.1 i hi, by rw [un_n (by omega)]; exact h.2.1, fun j hj k hk => by rw [un_n (by omega)]; exact h.2.2 j hj k hk⟩
theorem Bd_due {all st : Nat → Nat} {r : Nat → Nat → Nat} {n j w : Nat} (h : Bd all st r n) (hj : j < n) : Bd (un all (8 + 4 * j + 3) w) st (un r 3 (un (r 3) j w)) n := by
  refine ⟨fun i hi => by rw [un_n (by omega)]; exact h.1 i hi, by rw [un_n (by omega)]; exact h.2.1, fun i hi k hk => ?_⟩
  by_cases e : k = 3
  · subst e
    rw [un_s]
    by_cases q : i = j
    · subst q; rw [un_s, un_s]
    · rw [un_n q, un_n (by omega)]; exact h.2.2 i hi 3 hk
  · rw [un_n (show k ≠ 3 from e), un_n (by omega)]; exact h.2.2 i hi k hk
theorem swp_swp {h : Nat → Nat} {i j x : Nat} : swp (swp h i j) i j x = h x := by
  rw [swp_at, swp_at]
  congr 1
  (repeat' split) <;> omega
theorem Bd_sw2 {all st : Nat → Nat} {r : Nat → Nat → Nat} {n i j : Nat} (h : Bd all st r n) (hi : i < n) (hj : j < n) (hn : n ≤ 12) : Bd (xch (xch all i j 4) i j 4) st r n :=
  Bd_cg (Bd_xch (Bd_xch h hi hj hn) hi hj hn) (fun _ _ _ _ => swp_swp)
theorem shf_bk {h : Nat → Nat} {j x : Nat} (_hj : j ≤ 12) : shf (shf h j 0) 0 j x = h x := by
  rw [shf_at, shf_at]
  congr 1
  (repeat' split) <;> omega
theorem PD_e {st : Nat → Nat} {r : Nat → Nat → Nat} {R n j : Nat} {p : Nat → Nat} (h : isP st r R p n) (hj : j < n) : p j + st 4 = PD st r R n j := by
  show p j + st 4 = PP st r R n j + st 4
  rw [PP_e h j hj]
theorem PL_e {st : Nat → Nat} {r : Nat → Nat → Nat} {R n j : Nat} {p : Nat → Nat} (h : isP st r R p n) (hj : j < n) : p j + st 4 - r 3 j = PL st r R n j := by
  show _ = PD st r R n j - r 3 j
  rw [PD_e h hj]
theorem frP_e {st : Nat → Nat} {r : Nat → Nat → Nat} {R n j : Nat} {p : Nat → Nat} (h : isP st r R p n) (hj : j ≤ n) : fre p j = fre (PP st r R n) j := fre_cg (fun i hi => PP_e h i (by omega))
theorem BW_e {st : Nat → Nat} {r : Nat → Nat → Nat} {R n j : Nat} {p b : Nat → Nat} (h : isP st r R p n) (hE : ∀ i, i < n → b i + (rdy st r i + r 2 i * st 3) = p i) (hj : j < n) : b j - fre p j = PW st r R n j := by
  show _ = PP st r R n j - (fre (PP st r R n) j + rdy st r j + r 2 j * st 3)
  have h1 := hE j hj
  rw [← PP_e h j hj, ← frP_e h (by omega)]
  omega
theorem BF_e {st : Nat → Nat} {r : Nat → Nat → Nat} {R n j : Nat} {p b : Nat → Nat} (h : isP st r R p n) (hE : ∀ i, i < n → b i + (rdy st r i + r 2 i * st 3) = p i) (hj : j < n) : fre p j ≤ b j := by
  have h1 := hE j hj
  have h2 := (h j hj).1
  unfold erl at h2
  omega
theorem BG_e {st : Nat → Nat} {r : Nat → Nat → Nat} {R n j : Nat} {p b : Nat → Nat} (h : isP st r R p n) (hE : ∀ i, i < n → b i + (rdy st r i + r 2 i * st 3) = p i) (hj : j < n) : b j = PB st r R n j := by
  show _ = fre (PP st r R n) j + PW st r R n j
  have := BF_e h hE hj
  rw [← frP_e h (by omega), ← BW_e h hE hj]
  omega
theorem BP_e {st : Nat → Nat} {r : Nat → Nat → Nat} {n : Nat} {p b : Nat → Nat} (hE : ∀ i, i < n → b i + (rdy st r i + r 2 i * st 3) = p i) {i : Nat} (hi : i < n) : b i ≤ p i := by
  have := hE i hi
  omega
theorem mx_mono {p : Nat → Nat} : ∀ n, (∀ i j, i ≤ j → j < n → p i ≤ p j) → mx p n = fre p n
  | 0, _ => rfl
  | n + 1, h => by
    have ih := mx_mono n (fun i j a b => h i j a (by omega))
    rw [mx_s, ih]
    show max (fre p n) (p n) = p n
    unfold fre
    split
    · omega
    · have := h (n - 1) n (by omega) (by omega); omega
theorem mx_P {st : Nat → Nat} {r : Nat → Nat → Nat} {R n : Nat} {p : Nat → Nat} (h : isP st r R p n) : mx p n = fre (PP st r R n) n := by
  rw [mx_mono n (fun i j a b => isP_mono h a b)]
  exact frP_e h (Nat.le_refl n)
theorem mx_D {st : Nat → Nat} {r : Nat → Nat → Nat} {R n : Nat} {p : Nat → Nat} (h : isP st r R p n) : mx (fun i => p i + st 4) n = fre (PD st r R n) n := by
  rw [mx_mono n (fun i j a b => Nat.add_le_add_right (isP_mono h a b) _)]
  exact fre_cg (fun i hi => PD_e h hi)
theorem ct_L {st : Nat → Nat} {r : Nat → Nat → Nat} {R n : Nat} {p : Nat → Nat} (h : isP st r R p n) : ct (fun i => decide (0 < p i + st 4 - r 3 i)) n = ct (fun i => decide (0 < PL st r R n i)) n := ct_cg n (fun i hi => by rw [PL_e h hi])
theorem mx_L {st : Nat → Nat} {r : Nat → Nat → Nat} {R n : Nat} {p : Nat → Nat} (h : isP st r R p n) : mx (fun i => p i + st 4 - r 3 i) n = mx (PL st r R n) n := mx_cg n (fun _ hi => PL_e h hi)
theorem sm_W {st : Nat → Nat} {r : Nat → Nat → Nat} {R n : Nat} {p b : Nat → Nat} (h : isP st r R p n) (hE : ∀ i, i < n → b i + (rdy st r i + r 2 i * st 3) = p i) : sm (fun i => b i - fre p i) n = sm (PW st r R n) n := sm_cg n (fun _ hi => BW_e h hE hi)
theorem tkn_hi {st : Nat → Nat} {r : Nat → Nat → Nat} {p : Nat → Nat} {i m : Nat} : ∀ d, (∀ j, i < j → j < i + 1 + d → m < p j) → tkn st r p (i + 1 + d) m = tkn st r p (i + 1) m
  | 0, _ => rfl
  | d + 1, h => by
    have h1 := h (i + 1 + d) (by omega) (by omega)
    show tkn st r p ((i + 1 + d) + 1) m = _
    rw [tkn_s, tkn_hi d (fun j a b => h j a (by omega)), if_neg (by omega)]
    rfl
theorem isP_lt {st : Nat → Nat} {r : Nat → Nat → Nat} {R n : Nat} {p : Nat → Nat} (hS : okS st) (hJ : okJ r n) (h : isP st r R p n) {i j : Nat} (hij : i < j) (hj : j < n) : p i < p j := by
  have h1 := isP_fre h hij (by omega)
  have h2 := (h j hj).1
  have h3 := (run_le hS hJ hj).1
  unfold erl at h2
  omega
theorem mx_T {st : Nat → Nat} {r : Nat → Nat → Nat} {R n : Nat} {p : Nat → Nat} (hS : okS st) (hJ : okJ r n) (h : isP st r R p n) : mx (fun i => tkn st r p n (p i)) n = mx (PT st r R n) n := mx_cg n (fun i hi => by
  show tkn st r p n (p i) = tkn st r (PP st r R n) (i + 1) (PP st r R n i)
  obtain ⟨d, rfl⟩ : ∃ d, n = i + 1 + d := ⟨n - (i + 1), by omega⟩
  rw [tkn_hi d (fun j a b => isP_lt hS hJ h a b), ← PP_e h i hi]
  exact tkn_cg (fun x hx => PP_e h x (by omega)))
theorem ct_fr {h fr : Nat → Nat} {n : Nat} (hF : ∀ i, i < n → fr i < n ∧ plc h n (fr i) = i) : ct (fun y => decide (fr y ≠ y)) n = ct (fun y => decide (plc h n y ≠ y)) n := ct_cg n (fun i hi => by
  obtain ⟨h1, h2⟩ := hF i hi
  by_cases e : fr i = i
  · rw [e] at h2
    rw [decide_eq_false (by omega), decide_eq_false (by omega)]
  · rw [decide_eq_true e, decide_eq_true (show plc h n i ≠ i from fun z => e (plc_inj (h := h) h1 hi (by omega)))])
theorem tab_i {v : Int32} (h : rg v.toInt (Int.ofNat 0) (Int.ofNat 11) = false) : v.toInt < 0 ∨ 11 < v.toInt := by
  have : ¬ ((0 : Int) ≤ v.toInt ∧ v.toInt ≤ 11) := rg_n h
  omega
theorem tab_c {v : Int32} (h : rg v.toInt (Int.ofNat 0) (Int.ofNat 19) = false) : v.toInt < 7 ∨ 19 < v.toInt := by
  have : ¬ ((0 : Int) ≤ v.toInt ∧ v.toInt ≤ 19) := rg_n h
  omega
theorem tab_d {v : Int32} (h : rg v.toInt (Int.ofNat 0) (Int.ofNat 19) = false) : rg v.toInt (Int.ofNat 0) (Int.ofNat 6) = false := by
  have h1 : ¬ ((0 : Int) ≤ v.toInt ∧ v.toInt ≤ 19) := rg_n h
  refine rg_f (fun z => ?_)
  have z : (0 : Int) ≤ v.toInt ∧ v.toInt ≤ 6 := z
  omega
theorem slot_n {w : Int32} (h : rg w.toInt (Int.ofNat 0) (Int.ofNat 1) = false) : ¬ (w = 0 ∨ w = 1) := by
  intro z
  rcases z with rfl | rfl <;> exact absurd h (by decide)
/-- the last job whose time holds a minute -/
def lop (b p : Nat → Nat) (m : Nat) : Nat → Int32
  | 0 => (-6)
  | i + 1 => if b i ≤ m ∧ m < p i then nI i else lop b p m i
theorem lop_y {b p : Nat → Nat} {m i : Nat} (h : b i ≤ m ∧ m < p i) : lop b p m (i + 1) = nI i := if_pos h
theorem lop_n {b p : Nat → Nat} {m i : Nat} (h : ¬ (b i ≤ m ∧ m < p i)) : lop b p m (i + 1) = lop b p m i := if_neg h
theorem lop_none {b p : Nat → Nat} {m : Nat} : ∀ n, (∀ i, i < n → ¬ (b i ≤ m ∧ m < p i)) → lop b p m n = (-6)
  | 0, _ => rfl
  | n + 1, h => by rw [lop_n (h n (by omega)), lop_none n (fun i hi => h i (by omega))]
theorem lop_at {b p : Nat → Nat} {m i : Nat} : ∀ n, i < n → (b i ≤ m ∧ m < p i) → (∀ j, i < j → j < n → ¬ (b j ≤ m ∧ m < p j)) → lop b p m n = nI i
  | 0, h, _, _ => by omega
  | n + 1, h, h1, h2 => by
    by_cases e : i = n
    · subst e; exact lop_y h1
    · rw [lop_n (h2 n (by omega) (by omega))]
      exact lop_at n (by omega) h1 (fun j a c => h2 j a (by omega))
theorem jop_none {b p : Nat → Nat} {m : Nat} : ∀ d i, (∀ j, i ≤ j → j < i + d → ¬ (b j ≤ m ∧ m < p j)) → jop b p m i d = (-6)
  | 0, _, _ => rfl
  | d + 1, i, h => by
    show (if b i ≤ m ∧ m < p i then nI i else jop b p m (i + 1) d) = (-6)
    rw [if_neg (h i (Nat.le_refl i) (by omega)), jop_none d (i + 1) (fun j a c => h j (by omega) (by omega))]
theorem jop_at {b p : Nat → Nat} {m x : Nat} : ∀ d i, i ≤ x → x < i + d → (b x ≤ m ∧ m < p x) → (∀ j, i ≤ j → j < x → ¬ (b j ≤ m ∧ m < p j)) → jop b p m i d = nI x
  | 0, i, h0, h, _, _ => by omega
  | d + 1, i, h0, h, h1, h2 => by
    show (if b i ≤ m ∧ m < p i then nI i else jop b p m (i + 1) d) = nI x
    by_cases e : i = x
    · subst e; exact if_pos h1
    · rw [if_neg (h2 i (Nat.le_refl i) (by omega))]
      exact jop_at d (i + 1) (by omega) (by omega) h1 (fun j a c => h2 j (by omega) c)
theorem lop_jop {st : Nat → Nat} {r : Nat → Nat → Nat} {R n m : Nat} {p b : Nat → Nat} (h : isP st r R p n) (hE : ∀ i, i < n → b i + (rdy st r i + r 2 i * st 3) = p i) : lop b p m n = jop (PB st r R n) (PP st r R n) m 0 n := by
  rw [← jop_cg (a4 := b) (a5 := p) n 0 (fun j _ hj => ⟨BG_e h hE (by omega), PP_e h j (by omega)⟩)]
  by_cases e : ∃ i, i < n ∧ (b i ≤ m ∧ m < p i)
  · obtain ⟨i, hi, hb⟩ := e
    rw [lop_at n hi hb (fun j a c z => by
      have h1 := isP_fre h a (show j ≤ n by omega)
      have h2 := BF_e h hE c
      omega), jop_at n 0 (Nat.zero_le i) (by omega) hb (fun j _ c z => by
      have h1 := isP_fre h c (show i ≤ n by omega)
      have h2 := BF_e h hE hi
      omega)]
  · rw [lop_none n (fun i hi z => e ⟨i, hi, z⟩), jop_none n 0 (fun i _ hi z => e ⟨i, by omega, z⟩)]
theorem isP_5 {st : Nat → Nat} {r : Nat → Nat → Nat} {R n v : Nat} {p : Nat → Nat} (h : isP (un st 5 v) r R p n) : isP st r R p n := h
theorem sm_W5 {st : Nat → Nat} {r : Nat → Nat → Nat} {n v : Nat} {p b : Nat → Nat} (h : isP (un st 5 v) r (un st 5 v 5) p n) (hE : ∀ i, i < n → b i + (rdy (un st 5 v) r i + r 2 i * un st 5 v 3) = p i) : sm (fun i => b i - fre p i) n = sm (PW st r v n) n := by
  rw [un_s] at h
  exact sm_W (isP_5 h) hE
theorem sm_Wb {st : Nat → Nat} {r : Nat → Nat → Nat} {R n : Nat} {p b : Nat → Nat} (hn : n ≤ 12) (_h : isP st r R p n) (hE : ∀ i, i < n → b i + (rdy st r i + r 2 i * st 3) = p i) (hp : ∀ i, i < n → p i ≤ 14400) : sm (fun i => b i - fre p i) n ≤ 1000000 := by
  have := sm_le (f := fun i => b i - fre p i) (B := 14400) n (fun i hi => by
    have h1 := hE i hi
    have h2 := hp i hi
    show b i - fre p i ≤ 14400
    omega)
  omega
theorem lrF_y4 {st : Nat → Nat} {r : Nat → Nat → Nat} {n y : Nat} (hy : y < 20) (h1 : mND st r n ≤ y + 1) (h2 : sm (PW st r (y + 1) n) n = 0) : lrF st r n (y + 1) (20 - y) = nI (y + 1) := by
  rw [show 20 - y = 21 - (y + 1) by omega]
  exact lrF_y (by omega) h1 h2
theorem lrF_n4 {st : Nat → Nat} {r : Nat → Nat → Nat} {n y : Nat} (hy : y < 20) (h : ¬ (mND st r n ≤ y + 1 ∧ sm (PW st r (y + 1) n) n = 0)) : lrF st r n (y + 1) (20 - y) = lrF st r n (y + 1 + 1) (20 - (y + 1)) := by
  rw [show 20 - y = 21 - (y + 1) by omega, show 20 - (y + 1) = 21 - (y + 1 + 1) by omega]
  exact lrF_n (by omega) h
theorem hdX5_changes : yX5_changes.cls = RX5 ∧ yX5_changes.cls ≠ "java/lang/invoke/MethodHandle" ∧ yX5_changes.cls ≠ "java/lang/invoke/VarHandle" ∧ (parseMethodDescriptor yX5_changes.desc).map (fun d => d.parameters.length) = some 0 := by decide +kernel
theorem hdX5_comesBack : yX5_comesBack.cls = RX5 ∧ yX5_comesBack.cls ≠ "java/lang/invoke/MethodHandle" ∧ yX5_comesBack.cls ≠ "java/lang/invoke/VarHandle" ∧ (parseMethodDescriptor yX5_comesBack.desc).map (fun d => d.parameters.length) = some 0 := by decide +kernel
theorem hdX5_greatestOf : yX5_greatestOf.cls = RX5 ∧ yX5_greatestOf.cls ≠ "java/lang/invoke/MethodHandle" ∧ yX5_greatestOf.cls ≠ "java/lang/invoke/VarHandle" ∧ (parseMethodDescriptor yX5_greatestOf.desc).map (fun d => d.parameters.length) = some 1 := by decide +kernel
theorem hdX5_isJob : yX5_isJob.cls = RX5 ∧ yX5_isJob.cls ≠ "java/lang/invoke/MethodHandle" ∧ yX5_isJob.cls ≠ "java/lang/invoke/VarHandle" ∧ (parseMethodDescriptor yX5_isJob.desc).map (fun d => d.parameters.length) = some 1 := by decide +kernel
theorem hdX5_isSetting : yX5_isSetting.cls ≠ "java/lang/invoke/MethodHandle" ∧ yX5_isSetting.cls ≠ "java/lang/invoke/VarHandle" ∧ (parseMethodDescriptor yX5_isSetting.desc).map (fun d => d.parameters.length) = some 2 := by decide +kernel
theorem hdX5_isSlot : yX5_isSlot.cls ≠ "java/lang/invoke/MethodHandle" ∧ yX5_isSlot.cls ≠ "java/lang/invoke/VarHandle" ∧ (parseMethodDescriptor yX5_isSlot.desc).map (fun d => d.parameters.length) = some 1 := by decide +kernel
theorem hdX5_keeps : yX5_keeps.cls = RX5 ∧ yX5_keeps.cls ≠ "java/lang/invoke/MethodHandle" ∧ yX5_keeps.cls ≠ "java/lang/invoke/VarHandle" ∧ (parseMethodDescriptor yX5_keeps.desc).map (fun d => d.parameters.length) = some 0 := by decide +kernel
theorem hdX5_lateAll : yX5_lateAll.cls = RX5 ∧ yX5_lateAll.cls ≠ "java/lang/invoke/MethodHandle" ∧ yX5_lateAll.cls ≠ "java/lang/invoke/VarHandle" ∧ (parseMethodDescriptor yX5_lateAll.desc).map (fun d => d.parameters.length) = some 0 := by decide +kernel
theorem hdX5_mostNeeded : yX5_mostNeeded.cls = RX5 ∧ yX5_mostNeeded.cls ≠ "java/lang/invoke/MethodHandle" ∧ yX5_mostNeeded.cls ≠ "java/lang/invoke/VarHandle" ∧ (parseMethodDescriptor yX5_mostNeeded.desc).map (fun d => d.parameters.length) = some 0 := by decide +kernel
theorem hdX5_moves : yX5_moves.cls = RX5 ∧ yX5_moves.cls ≠ "java/lang/invoke/MethodHandle" ∧ yX5_moves.cls ≠ "java/lang/invoke/VarHandle" ∧ (parseMethodDescriptor yX5_moves.desc).map (fun d => d.parameters.length) = some 2 := by decide +kernel
theorem hdX5_orders : yX5_orders.cls = RX5 ∧ yX5_orders.cls ≠ "java/lang/invoke/MethodHandle" ∧ yX5_orders.cls ≠ "java/lang/invoke/VarHandle" ∧ (parseMethodDescriptor yX5_orders.desc).map (fun d => d.parameters.length) = some 1 := by decide +kernel
theorem hdX5_puts : yX5_puts.cls = RX5 ∧ yX5_puts.cls ≠ "java/lang/invoke/MethodHandle" ∧ yX5_puts.cls ≠ "java/lang/invoke/VarHandle" ∧ (parseMethodDescriptor yX5_puts.desc).map (fun d => d.parameters.length) = some 4 := by decide +kernel
set_option maxHeartbeats 4000000 in
set_option maxRecDepth 100000 in
theorem tX5_set_b1 (l : Launch) (g : zG) (y all kept hist : Nat → Nat) (hl : Nat) (slo sav beg prt frm txt : Nat → Nat) (tl sp : Nat) (tol : Nat → Nat) (rd : Nat) (a v : Int32) (hb : rg a.toInt (Int.ofNat 0) (Int.ofNat 6) = false) : Met l yX5_set wsX5_set ({ frames := 3, cells := 0, slots := 0, locals := 65 } : Room) (zPre g [.ref (y 0), .int a, .int v] [wM g y all kept hist hl slo sav beg prt frm txt tl sp tol rd]) (zQ g (fun _ : Unit => some (.int (-2)) ) (fun _ : Unit => True) (fun _ : Unit => [wM g y all kept hist hl slo sav beg prt frm txt tl sp tol rd]) (zA [wM g y all kept hist hl slo sav beg prt frm txt tl sp tol rd])) 0 0 (zA [wM g y all kept hist hl slo sav beg prt frm txt tl sp tol rd]) := by
  refine z_entry (cc := cX5_set) (maxL := 5) (ret := (some .int)) (own := RX5) (by decide) rfl rfl (Nat.le_of_ble_eq_true rfl) [(0, .ref (y 0)), (1, .int a), (2, .int v)] rfl ?_
  intro K hKl hKg hnL C hRx
  subst hKl
  subst hKg
  refine z_iload_n C 1 rfl rfl dX5_set_0 1 rfl ?_
  refine z_iload_n C 2 rfl rfl dX5_set_1 2 rfl ?_
  refine z_callP C [.int a, .int v] [] (tX5_isSetting_n K.l K.g a v (by first | omega | assumption)) gX5_set_X5_isSetting rfl rfl rfl hdX5_isSetting ⟨Nat.le_of_ble_eq_true rfl, Nat.le_of_ble_eq_true rfl⟩ ⟨Nat.zero_le _, Nat.zero_le _⟩ rfl rfl (Nat.le_of_ble_eq_true rfl) dX5_set_2 5 rfl (fun u9 hu9 => ?_)
  show Z K 0 0 [wM K.g y all kept hist hl slo sav beg prt frm txt tl sp tol rd] [(0, .ref (y 0)), (1, .int a), (2, .int v)] 5 [.int (bI false)]
  refine z_ifb_ne C 11 dX5_set_5 (by decide) 8 rfl (fun c_1 => ?_) (fun c_1 => ?_)
  · exfalso; exact absurd c_1 (by decide)
  refine z_bipush C (v := (-2)) rfl dX5_set_8 10 rfl ?_
  exact z_iret C hRx dX5_set_10 () rfl trivial rfl

set_option maxHeartbeats 4000000 in
set_option maxRecDepth 100000 in
theorem tX5_set_b2 (l : Launch) (g : zG) (y all kept hist : Nat → Nat) (hl : Nat) (slo sav beg prt frm txt : Nat → Nat) (tl sp : Nat) (tol : Nat → Nat) (rd : Nat) (k : Nat) (v : Int32) (hk6 : k ≤ 6) (hb : rg v.toInt (Int.ofNat (leS k)) (Int.ofNat (moS k)) = false) : Met l yX5_set wsX5_set ({ frames := 3, cells := 0, slots := 0, locals := 65 } : Room) (zPre g [.ref (y 0), .int (nI k), .int v] [wM g y all kept hist hl slo sav beg prt frm txt tl sp tol rd]) (zQ g (fun _ : Unit => some (.int (-2)) ) (fun _ : Unit => True) (fun _ : Unit => [wM g y all kept hist hl slo sav beg prt frm txt tl sp tol rd]) (zA [wM g y all kept hist hl slo sav beg prt frm txt tl sp tol rd])) 0 0 (zA [wM g y all kept hist hl slo sav beg prt frm txt tl sp tol rd]) := by
  refine z_entry (cc := cX5_set) (maxL := 5) (ret := (some .int)) (own := RX5) (by decide) rfl rfl (Nat.le_of_ble_eq_true rfl) [(0, .ref (y 0)), (1, .int (nI k)), (2, .int v)] rfl ?_
  intro K hKl hKg hnL C hRx
  subst hKl
  subst hKg
  refine z_iload_n C 1 rfl rfl dX5_set_0 1 rfl ?_
  refine z_iload_n C 2 rfl rfl dX5_set_1 2 rfl ?_
  refine z_callP C [.int (nI k), .int v] [] (tX5_isSetting K.l K.g k v (by first | omega | assumption)) gX5_set_X5_isSetting rfl rfl rfl hdX5_isSetting ⟨Nat.le_of_ble_eq_true rfl, Nat.le_of_ble_eq_true rfl⟩ ⟨Nat.zero_le _, Nat.zero_le _⟩ rfl rfl (Nat.le_of_ble_eq_true rfl) dX5_set_2 5 rfl (fun u9 hu9 => ?_)
  show Z K 0 0 [wM K.g y all kept hist hl slo sav beg prt frm txt tl sp tol rd] [(0, .ref (y 0)), (1, .int (nI k)), (2, .int v)] 5 [.int (bI (rg v.toInt (Int.ofNat (leS k)) (Int.ofNat (moS k))))]
  refine z_ifb_ne C 11 dX5_set_5 (by decide) 8 rfl (fun c_1 => ?_) (fun c_1 => ?_)
  · exfalso; rw [hb] at c_1; exact Bool.noConfusion c_1
  refine z_bipush C (v := (-2)) rfl dX5_set_8 10 rfl ?_
  exact z_iret C hRx dX5_set_10 () rfl trivial rfl

theorem iX5_set_X5 : ∀ w ∈ u_ws RX5 TX5 14, w ∈ wsX5_set := fun w h => (List.mem_cons_of_mem _ (List.mem_append_right _ h))
set_option maxHeartbeats 4000000 in
set_option maxRecDepth 100000 in
theorem tX5_set_np (l : Launch) (g : zG) (y all kept hist : Nat → Nat) (hl : Nat) (slo sav beg prt frm txt : Nat → Nat) (tl sp : Nat) (tol : Nat → Nat) (rd : Nat) (st : Nat → Nat) (r : Nat → Nat → Nat) (n : Nat) (k v : Nat) (hn : n ≤ 12) (hB : Bd all st r n) (hS : okS st) (hJ : okJ r n) (hk6 : k ≤ 6) (hv1 : leS k ≤ v) (hv2 : v ≤ moS k) (hb : un st k v 5 < mND (un st k v) r n) : Met l yX5_set wsX5_set ({ frames := 3, cells := 0, slots := 0, locals := 65 } : Room) (zPre g [.ref (y 0), .int (nI k), .int (nI v)] [wM g y all kept hist hl slo sav beg prt frm txt tl sp tol rd]) (zQ g (fun _ : Unit => some (.int (-5)) ) (fun _ : Unit => True) (fun _ : Unit => [wM g y all kept hist hl slo sav beg prt frm txt tl sp tol rd]) (zA [wM g y all kept hist hl slo sav beg prt frm txt tl sp tol rd])) 0 0 (zA [wM g y all kept hist hl slo sav beg prt frm txt tl sp tol rd]) := by
  refine z_entry (cc := cX5_set) (maxL := 5) (ret := (some .int)) (own := RX5) (by decide) rfl rfl (Nat.le_of_ble_eq_true rfl) [(0, .ref (y 0)), (1, .int (nI k)), (2, .int (nI v))] rfl ?_
  intro K hKl hKg hnL C hRx
  subst hKl
  subst hKg
  have hS2 := okS_un hS hk6 hv1 hv2
  have hmb := mND_le (st := un st k v) hS2 hJ
  have h5b := hS2.2.2.2.2.2.2.2.1
  have hmv := moS_le k
  have hv4 : rg (nI v).toInt (Int.ofNat (leS k)) (Int.ofNat (moS k)) = true := rgN_t (by omega) hv1 hv2
  refine z_iload_n C 1 rfl rfl dX5_set_0 1 rfl ?_
  refine z_iload_n C 2 rfl rfl dX5_set_1 2 rfl ?_
  refine z_callP C [.int (nI k), .int (nI v)] [] (tX5_isSetting K.l K.g k (nI v) (by first | omega | assumption)) gX5_set_X5_isSetting rfl rfl rfl hdX5_isSetting ⟨Nat.le_of_ble_eq_true rfl, Nat.le_of_ble_eq_true rfl⟩ ⟨Nat.zero_le _, Nat.zero_le _⟩ rfl rfl (Nat.le_of_ble_eq_true rfl) dX5_set_2 5 rfl (fun u9 hu9 => ?_)
  show Z K 0 0 [wM K.g y all kept hist hl slo sav beg prt frm txt tl sp tol rd] [(0, .ref (y 0)), (1, .int (nI k)), (2, .int (nI v))] 5 [.int (bI (rg (nI v).toInt (Int.ofNat (leS k)) (Int.ofNat (moS k))))]
  refine z_ifb_ne C 11 dX5_set_5 (by decide) 8 rfl (fun c_1 => ?_) (fun c_1 => ?_)
  rotate_left
  · exfalso; rw [hv4] at c_1; exact Bool.noConfusion c_1
  refine z_aload_n C 0 rfl rfl dX5_set_11 12 rfl ?_
  refine z_get C zc5 iX5_set_X5 0 0 rfl rfl 0 (Nat.le_of_ble_eq_true rfl) (List.mem_of_getElem? (i := 1) rfl) (v := .ref (y 1)) rfl dX5_set_12 15 rfl ?_
  refine z_iload_n C 1 rfl rfl dX5_set_15 16 rfl ?_
  refine z_iald C (f := all) 0 1 rfl rfl (by omega) (by decide) dX5_set_16 17 rfl ?_
  refine z_top (show nI (all k) = nI (st k) from (by rw [hB.1 k (by omega)])) ?_
  refine z_istore_n C hnL [1, 2, 3, 0] [(0, .ref (y 0)), (1, .int (nI k)), (2, .int (nI v)), (3, .int (nI (st k)))] rfl rfl (Nat.le_of_ble_eq_true rfl) dX5_set_17 18 rfl ?_
  refine z_aload_n C 0 rfl rfl dX5_set_18 19 rfl ?_
  refine z_get C zc5 iX5_set_X5 0 0 rfl rfl 0 (Nat.le_of_ble_eq_true rfl) (List.mem_of_getElem? (i := 1) rfl) (v := .ref (y 1)) rfl dX5_set_19 22 rfl ?_
  refine z_iload_n C 1 rfl rfl dX5_set_22 23 rfl ?_
  refine z_iload_n C 2 rfl rfl dX5_set_23 24 rfl ?_
  refine z_iast C (f := all) 0 1 rfl rfl (by omega) (by decide) (wM K.g y (un all k v) kept hist hl slo sav beg prt frm txt tl sp tol rd) rfl [wM K.g y (un all k v) kept hist hl slo sav beg prt frm txt tl sp tol rd] rfl dX5_set_24 25 rfl ?_
  refine z_aload_n C 0 rfl rfl dX5_set_25 26 rfl ?_
  refine z_callV C [] [] (tX5_mostNeeded K.l K.g y (un all k v) kept hist hl slo sav beg prt frm txt tl sp tol rd (un st k v) r n hn (Bd_set hB hk6) hS2 hJ) gX5_set_X5_mostNeeded rfl rfl rfl hdX5_mostNeeded ⟨Nat.le_of_ble_eq_true rfl, Nat.le_of_ble_eq_true rfl⟩ ⟨Nat.zero_le _, Nat.zero_le _⟩ 0 0 rfl rfl rfl [0] rfl rfl (zlc (N := 1) rfl rfl) [1] rfl (by decide) (fun _ : Unit => [wM K.g y (un all k v) kept hist hl slo sav beg prt frm txt tl sp tol rd]) (fun _ => rfl) rfl rfl (Nat.le_of_ble_eq_true rfl) dX5_set_26 29 rfl (fun u9 hu9 => ?_)
  show Z K 0 0 [wM K.g y (un all k v) kept hist hl slo sav beg prt frm txt tl sp tol rd] [(0, .ref (y 0)), (1, .int (nI k)), (2, .int (nI v)), (3, .int (nI (st k)))] 29 [.int (nI (mND (un st k v) r n))]
  refine z_aload_n C 0 rfl rfl dX5_set_29 30 rfl ?_
  refine z_get C zc5 iX5_set_X5 0 0 rfl rfl 0 (Nat.le_of_ble_eq_true rfl) (List.mem_of_getElem? (i := 1) rfl) (v := .ref (y 1)) rfl dX5_set_30 33 rfl ?_
  refine z_iconst C (v := nI 5) rfl dX5_set_33 34 rfl ?_
  refine z_iald C (f := (un all k v)) 0 1 rfl rfl (by omega) (by decide) dX5_set_34 35 rfl ?_
  refine z_top (show nI ((un all k v) 5) = nI (un st k v 5) from (by rw [(Bd_set hB hk6).1 5 (by decide)])) ?_
  refine z_icmp_gt C (by omega) (by omega) 42 dX5_set_35 (by decide) 38 rfl (fun c_2 => ?_) (fun c_2 => ?_)
  rotate_left
  · exfalso; omega
  refine z_iconst C (v := nI 0) rfl dX5_set_42 43 rfl ?_
  refine z_istore C hnL [1, 2, 3, 4, 0] [(0, .ref (y 0)), (1, .int (nI k)), (2, .int (nI v)), (3, .int (nI (st k))), (4, .int (nI 0))] rfl (Nat.le_of_ble_eq_true rfl) dX5_set_43 45 rfl ?_
  refine z_aload_n C 0 rfl rfl dX5_set_45 46 rfl ?_
  refine z_get C zc5 iX5_set_X5 0 0 rfl rfl 0 (Nat.le_of_ble_eq_true rfl) (List.mem_of_getElem? (i := 1) rfl) (v := .ref (y 1)) rfl dX5_set_46 49 rfl ?_
  refine z_iload_n C 1 rfl rfl dX5_set_49 50 rfl ?_
  refine z_iload_n C 3 rfl rfl dX5_set_50 51 rfl ?_
  refine z_iast C (f := (un all k v)) 0 1 rfl rfl (by omega) (by decide) (wM K.g y (un (un all k v) k (st k)) kept hist hl slo sav beg prt frm txt tl sp tol rd) rfl [wM K.g y (un (un all k v) k (st k)) kept hist hl slo sav beg prt frm txt tl sp tol rd] rfl dX5_set_51 52 rfl ?_
  refine z_eq (cs2 := [wM K.g y all kept hist hl slo sav beg prt frm txt tl sp tol rd]) ?_ (by rw [un_b (hB.1 k (by omega))]) rfl rfl
  refine z_iload C 4 rfl dX5_set_52 54 rfl ?_
  refine z_if_ne C (by omega) 60 dX5_set_54 (by decide) 57 rfl (fun c_3 => ?_) (fun c_3 => ?_)
  · exfalso; omega
  refine z_bipush C (v := (-5)) rfl dX5_set_57 59 rfl ?_
  exact z_iret C hRx dX5_set_59 () rfl trivial rfl

set_option maxHeartbeats 4000000 in
set_option maxRecDepth 100000 in
theorem tX5_set_ok (l : Launch) (g : zG) (y all kept hist : Nat → Nat) (hl : Nat) (slo sav beg prt frm txt : Nat → Nat) (tl sp : Nat) (tol : Nat → Nat) (rd : Nat) (st : Nat → Nat) (r : Nat → Nat → Nat) (n : Nat) (k v : Nat) (hn : n ≤ 12) (hB : Bd all st r n) (hS : okS st) (hJ : okJ r n) (hl6 : hl ≤ 6) (hk6 : k ≤ 6) (hv1 : leS k ≤ v) (hv2 : v ≤ moS k) (hb : mND (un st k v) r n ≤ un st k v 5) : Met l yX5_set wsX5_set ({ frames := 3, cells := 0, slots := 0, locals := 65 } : Room) (zPre g [.ref (y 0), .int (nI k), .int (nI v)] [wM g y all kept hist hl slo sav beg prt frm txt tl sp tol rd]) (zQ g (fun u : (Nat → Nat) × (Nat → Nat) × (Nat) => match u with | (all2, hist2, hl2) => some (.int (nI (st k))) ) (fun u : (Nat → Nat) × (Nat → Nat) × (Nat) => match u with | (all2, hist2, hl2) => (Bd all2 (un st k v) r n) ∧ (HCh all hist hl hist2 hl2)) (fun u : (Nat → Nat) × (Nat → Nat) × (Nat) => match u with | (all2, hist2, hl2) => [wM g y all2 kept hist2 hl2 slo sav beg prt frm txt tl sp tol rd]) (zA [wM g y all kept hist hl slo sav beg prt frm txt tl sp tol rd])) 0 0 (zA [wM g y all kept hist hl slo sav beg prt frm txt tl sp tol rd]) := by
  refine z_entry (cc := cX5_set) (maxL := 5) (ret := (some .int)) (own := RX5) (by decide) rfl rfl (Nat.le_of_ble_eq_true rfl) [(0, .ref (y 0)), (1, .int (nI k)), (2, .int (nI v))] rfl ?_
  intro K hKl hKg hnL C hRx
  subst hKl
  subst hKg
  have hS2 := okS_un hS hk6 hv1 hv2
  have hmb := mND_le (st := un st k v) hS2 hJ
  have h5b := hS2.2.2.2.2.2.2.2.1
  have hmv := moS_le k
  have hv4 : rg (nI v).toInt (Int.ofNat (leS k)) (Int.ofNat (moS k)) = true := rgN_t (by omega) hv1 hv2
  refine z_iload_n C 1 rfl rfl dX5_set_0 1 rfl ?_
  refine z_iload_n C 2 rfl rfl dX5_set_1 2 rfl ?_
  refine z_callP C [.int (nI k), .int (nI v)] [] (tX5_isSetting K.l K.g k (nI v) (by first | omega | assumption)) gX5_set_X5_isSetting rfl rfl rfl hdX5_isSetting ⟨Nat.le_of_ble_eq_true rfl, Nat.le_of_ble_eq_true rfl⟩ ⟨Nat.zero_le _, Nat.zero_le _⟩ rfl rfl (Nat.le_of_ble_eq_true rfl) dX5_set_2 5 rfl (fun u9 hu9 => ?_)
  show Z K 0 0 [wM K.g y all kept hist hl slo sav beg prt frm txt tl sp tol rd] [(0, .ref (y 0)), (1, .int (nI k)), (2, .int (nI v))] 5 [.int (bI (rg (nI v).toInt (Int.ofNat (leS k)) (Int.ofNat (moS k))))]
  refine z_ifb_ne C 11 dX5_set_5 (by decide) 8 rfl (fun c_1 => ?_) (fun c_1 => ?_)
  rotate_left
  · exfalso; rw [hv4] at c_1; exact Bool.noConfusion c_1
  refine z_aload_n C 0 rfl rfl dX5_set_11 12 rfl ?_
  refine z_get C zc5 iX5_set_X5 0 0 rfl rfl 0 (Nat.le_of_ble_eq_true rfl) (List.mem_of_getElem? (i := 1) rfl) (v := .ref (y 1)) rfl dX5_set_12 15 rfl ?_
  refine z_iload_n C 1 rfl rfl dX5_set_15 16 rfl ?_
  refine z_iald C (f := all) 0 1 rfl rfl (by omega) (by decide) dX5_set_16 17 rfl ?_
  refine z_top (show nI (all k) = nI (st k) from (by rw [hB.1 k (by omega)])) ?_
  refine z_istore_n C hnL [1, 2, 3, 0] [(0, .ref (y 0)), (1, .int (nI k)), (2, .int (nI v)), (3, .int (nI (st k)))] rfl rfl (Nat.le_of_ble_eq_true rfl) dX5_set_17 18 rfl ?_
  refine z_aload_n C 0 rfl rfl dX5_set_18 19 rfl ?_
  refine z_get C zc5 iX5_set_X5 0 0 rfl rfl 0 (Nat.le_of_ble_eq_true rfl) (List.mem_of_getElem? (i := 1) rfl) (v := .ref (y 1)) rfl dX5_set_19 22 rfl ?_
  refine z_iload_n C 1 rfl rfl dX5_set_22 23 rfl ?_
  refine z_iload_n C 2 rfl rfl dX5_set_23 24 rfl ?_
  refine z_iast C (f := all) 0 1 rfl rfl (by omega) (by decide) (wM K.g y (un all k v) kept hist hl slo sav beg prt frm txt tl sp tol rd) rfl [wM K.g y (un all k v) kept hist hl slo sav beg prt frm txt tl sp tol rd] rfl dX5_set_24 25 rfl ?_
  refine z_aload_n C 0 rfl rfl dX5_set_25 26 rfl ?_
  refine z_callV C [] [] (tX5_mostNeeded K.l K.g y (un all k v) kept hist hl slo sav beg prt frm txt tl sp tol rd (un st k v) r n hn (Bd_set hB hk6) hS2 hJ) gX5_set_X5_mostNeeded rfl rfl rfl hdX5_mostNeeded ⟨Nat.le_of_ble_eq_true rfl, Nat.le_of_ble_eq_true rfl⟩ ⟨Nat.zero_le _, Nat.zero_le _⟩ 0 0 rfl rfl rfl [0] rfl rfl (zlc (N := 1) rfl rfl) [1] rfl (by decide) (fun _ : Unit => [wM K.g y (un all k v) kept hist hl slo sav beg prt frm txt tl sp tol rd]) (fun _ => rfl) rfl rfl (Nat.le_of_ble_eq_true rfl) dX5_set_26 29 rfl (fun u9 hu9 => ?_)
  show Z K 0 0 [wM K.g y (un all k v) kept hist hl slo sav beg prt frm txt tl sp tol rd] [(0, .ref (y 0)), (1, .int (nI k)), (2, .int (nI v)), (3, .int (nI (st k)))] 29 [.int (nI (mND (un st k v) r n))]
  refine z_aload_n C 0 rfl rfl dX5_set_29 30 rfl ?_
  refine z_get C zc5 iX5_set_X5 0 0 rfl rfl 0 (Nat.le_of_ble_eq_true rfl) (List.mem_of_getElem? (i := 1) rfl) (v := .ref (y 1)) rfl dX5_set_30 33 rfl ?_
  refine z_iconst C (v := nI 5) rfl dX5_set_33 34 rfl ?_
  refine z_iald C (f := (un all k v)) 0 1 rfl rfl (by omega) (by decide) dX5_set_34 35 rfl ?_
  refine z_top (show nI ((un all k v) 5) = nI (un st k v 5) from (by rw [(Bd_set hB hk6).1 5 (by decide)])) ?_
  refine z_icmp_gt C (by omega) (by omega) 42 dX5_set_35 (by decide) 38 rfl (fun c_2 => ?_) (fun c_2 => ?_)
  · exfalso; omega
  refine z_iconst C (v := nI 1) rfl dX5_set_38 39 rfl ?_
  refine z_goto C 43 dX5_set_39 (by decide) ?_
  refine z_istore C hnL [1, 2, 3, 4, 0] [(0, .ref (y 0)), (1, .int (nI k)), (2, .int (nI v)), (3, .int (nI (st k))), (4, .int (nI 1))] rfl (Nat.le_of_ble_eq_true rfl) dX5_set_43 45 rfl ?_
  refine z_aload_n C 0 rfl rfl dX5_set_45 46 rfl ?_
  refine z_get C zc5 iX5_set_X5 0 0 rfl rfl 0 (Nat.le_of_ble_eq_true rfl) (List.mem_of_getElem? (i := 1) rfl) (v := .ref (y 1)) rfl dX5_set_46 49 rfl ?_
  refine z_iload_n C 1 rfl rfl dX5_set_49 50 rfl ?_
  refine z_iload_n C 3 rfl rfl dX5_set_50 51 rfl ?_
  refine z_iast C (f := (un all k v)) 0 1 rfl rfl (by omega) (by decide) (wM K.g y (un (un all k v) k (st k)) kept hist hl slo sav beg prt frm txt tl sp tol rd) rfl [wM K.g y (un (un all k v) k (st k)) kept hist hl slo sav beg prt frm txt tl sp tol rd] rfl dX5_set_51 52 rfl ?_
  refine z_eq (cs2 := [wM K.g y all kept hist hl slo sav beg prt frm txt tl sp tol rd]) ?_ (by rw [un_b (hB.1 k (by omega))]) rfl rfl
  refine z_iload C 4 rfl dX5_set_52 54 rfl ?_
  refine z_if_ne C (by omega) 60 dX5_set_54 (by decide) 57 rfl (fun c_3 => ?_) (fun c_3 => ?_)
  rotate_left
  · exfalso; omega
  refine z_aload_n C 0 rfl rfl dX5_set_60 61 rfl ?_
  refine z_callV C [] [] (tX5_changes K.l K.g y all kept hist hl slo sav beg prt frm txt tl sp tol rd (by first | omega | assumption)) gX5_set_X5_changes rfl rfl rfl hdX5_changes ⟨Nat.le_of_ble_eq_true rfl, Nat.le_of_ble_eq_true rfl⟩ ⟨Nat.zero_le _, Nat.zero_le _⟩ 0 0 rfl rfl rfl [0] rfl rfl (zlc (N := 1) rfl rfl) [1] rfl (by decide) (fun u : (Nat → Nat) × (Nat) => match u with | (hist2, hl2) => [wM K.g y all kept hist2 hl2 slo sav beg prt frm txt tl sp tol rd]) (fun _ => rfl) rfl rfl (Nat.le_of_ble_eq_true rfl) dX5_set_61 64 rfl (fun u9 hu9 => ?_)
  obtain ⟨hist2, hl2⟩ := u9
  obtain ⟨hh1, hh2, hh3⟩ := hu9
  have hh1 : hl2 = min (hl + 1) 6 := hh1
  have hh2 : ∀ u, u < 56 → hist2 (56 * (hl2 - 1) + u) = all u := hh2
  have hh3 : ∀ e u, e + 1 < hl2 → u < 56 → hist2 (56 * e + u) = hist (56 * (e + (hl + 1 - hl2)) + u) := hh3
  show Z K 0 0 [wM K.g y all kept hist2 hl2 slo sav beg prt frm txt tl sp tol rd] [(0, .ref (y 0)), (1, .int (nI k)), (2, .int (nI v)), (3, .int (nI (st k))), (4, .int (nI 1))] 64 []
  have hC : HCh all hist hl hist2 hl2 := ⟨hh1, hh2, hh3⟩
  refine z_aload_n C 0 rfl rfl dX5_set_64 65 rfl ?_
  refine z_get C zc5 iX5_set_X5 0 0 rfl rfl 0 (Nat.le_of_ble_eq_true rfl) (List.mem_of_getElem? (i := 1) rfl) (v := .ref (y 1)) rfl dX5_set_65 68 rfl ?_
  refine z_iload_n C 1 rfl rfl dX5_set_68 69 rfl ?_
  refine z_iload_n C 2 rfl rfl dX5_set_69 70 rfl ?_
  refine z_iast C (f := all) 0 1 rfl rfl (by omega) (by decide) (wM K.g y (un all k v) kept hist2 hl2 slo sav beg prt frm txt tl sp tol rd) rfl [wM K.g y (un all k v) kept hist2 hl2 slo sav beg prt frm txt tl sp tol rd] rfl dX5_set_70 71 rfl ?_
  refine z_iload_n C 3 rfl rfl dX5_set_71 72 rfl ?_
  exact z_iret C hRx dX5_set_72 (un all k v, hist2, hl2) rfl (⟨Bd_set hB hk6, hC⟩) rfl

set_option maxHeartbeats 4000000 in
set_option maxRecDepth 100000 in
theorem tX5_job_b (l : Launch) (g : zG) (y all kept hist : Nat → Nat) (hl : Nat) (slo sav beg prt frm txt : Nat → Nat) (tl sp : Nat) (tol : Nat → Nat) (rd : Nat) (a b c d : Int32) (hb : (rg a.toInt (Int.ofNat 0) (Int.ofNat 9) && (rg b.toInt (Int.ofNat 0) (Int.ofNat 9) && (rg c.toInt (Int.ofNat 1) (Int.ofNat 20) && rg d.toInt (Int.ofNat 0) (Int.ofNat 3000)))) = false) : Met l yX5_job wsX5_job ({ frames := 1, cells := 0, slots := 0, locals := 25 } : Room) (zPre g [.ref (y 0), .int a, .int b, .int c, .int d] [wM g y all kept hist hl slo sav beg prt frm txt tl sp tol rd]) (zQ g (fun _ : Unit => some (.int (-2)) ) (fun _ : Unit => True) (fun _ : Unit => [wM g y all kept hist hl slo sav beg prt frm txt tl sp tol rd]) (zA [wM g y all kept hist hl slo sav beg prt frm txt tl sp tol rd])) 0 0 (zA [wM g y all kept hist hl slo sav beg prt frm txt tl sp tol rd]) := by
  refine z_entry (cc := cX5_job) (maxL := 5) (ret := (some .int)) (own := RX5) (by decide) rfl rfl (Nat.le_of_ble_eq_true rfl) [(0, .ref (y 0)), (1, .int a), (2, .int b), (3, .int c), (4, .int d)] rfl ?_
  intro K hKl hKg hnL C hRx
  subst hKl
  subst hKg
  refine z_iload_n C 1 rfl rfl dX5_job_0 1 rfl ?_
  refine z_i2l C dX5_job_1 2 rfl ?_
  refine z_lconst C (v := lN 0) rfl dX5_job_2 3 rfl ?_
  refine z_ldc2 C (v := lN 9) (List.mem_of_getElem? (i := 1) rfl) dX5_job_3 6 rfl ?_
  refine z_callP C [.long ((a).toInt64), .long (lN 0), .long (lN 9)] [] (tX5_inI K.l K.g a 0 9 (by first | omega | assumption) (by first | omega | assumption)) gX5_job_X5_in rfl rfl rfl hdX5_in ⟨Nat.le_of_ble_eq_true rfl, Nat.le_of_ble_eq_true rfl⟩ ⟨Nat.zero_le _, Nat.zero_le _⟩ rfl rfl (Nat.le_of_ble_eq_true rfl) dX5_job_6 9 rfl (fun u9 hu9 => ?_)
  show Z K 0 0 [wM K.g y all kept hist hl slo sav beg prt frm txt tl sp tol rd] [(0, .ref (y 0)), (1, .int a), (2, .int b), (3, .int c), (4, .int d)] 9 [.int (bI (rg a.toInt (Int.ofNat 0) (Int.ofNat 9)))]
  refine z_ifb_eq C 49 dX5_job_9 (by decide) 12 rfl (fun c_1 => ?_) (fun c_1 => ?_)
  · skip
    refine z_bipush C (v := (-2)) rfl dX5_job_49 51 rfl ?_
    exact z_iret C hRx dX5_job_51 () rfl trivial rfl
  · skip
    refine z_iload_n C 2 rfl rfl dX5_job_12 13 rfl ?_
    refine z_i2l C dX5_job_13 14 rfl ?_
    refine z_lconst C (v := lN 0) rfl dX5_job_14 15 rfl ?_
    refine z_ldc2 C (v := lN 9) (List.mem_of_getElem? (i := 1) rfl) dX5_job_15 18 rfl ?_
    refine z_callP C [.long ((b).toInt64), .long (lN 0), .long (lN 9)] [] (tX5_inI K.l K.g b 0 9 (by first | omega | assumption) (by first | omega | assumption)) gX5_job_X5_in rfl rfl rfl hdX5_in ⟨Nat.le_of_ble_eq_true rfl, Nat.le_of_ble_eq_true rfl⟩ ⟨Nat.zero_le _, Nat.zero_le _⟩ rfl rfl (Nat.le_of_ble_eq_true rfl) dX5_job_18 21 rfl (fun u9 hu9 => ?_)
    show Z K 0 0 [wM K.g y all kept hist hl slo sav beg prt frm txt tl sp tol rd] [(0, .ref (y 0)), (1, .int a), (2, .int b), (3, .int c), (4, .int d)] 21 [.int (bI (rg b.toInt (Int.ofNat 0) (Int.ofNat 9)))]
    refine z_ifb_eq C 49 dX5_job_21 (by decide) 24 rfl (fun c_2 => ?_) (fun c_2 => ?_)
    · skip
      refine z_bipush C (v := (-2)) rfl dX5_job_49 51 rfl ?_
      exact z_iret C hRx dX5_job_51 () rfl trivial rfl
    · skip
      refine z_iload_n C 3 rfl rfl dX5_job_24 25 rfl ?_
      refine z_i2l C dX5_job_25 26 rfl ?_
      refine z_lconst C (v := lN 1) rfl dX5_job_26 27 rfl ?_
      refine z_ldc2 C (v := lN 20) (List.mem_of_getElem? (i := 2) rfl) dX5_job_27 30 rfl ?_
      refine z_callP C [.long ((c).toInt64), .long (lN 1), .long (lN 20)] [] (tX5_inI K.l K.g c 1 20 (by first | omega | assumption) (by first | omega | assumption)) gX5_job_X5_in rfl rfl rfl hdX5_in ⟨Nat.le_of_ble_eq_true rfl, Nat.le_of_ble_eq_true rfl⟩ ⟨Nat.zero_le _, Nat.zero_le _⟩ rfl rfl (Nat.le_of_ble_eq_true rfl) dX5_job_30 33 rfl (fun u9 hu9 => ?_)
      show Z K 0 0 [wM K.g y all kept hist hl slo sav beg prt frm txt tl sp tol rd] [(0, .ref (y 0)), (1, .int a), (2, .int b), (3, .int c), (4, .int d)] 33 [.int (bI (rg c.toInt (Int.ofNat 1) (Int.ofNat 20)))]
      refine z_ifb_eq C 49 dX5_job_33 (by decide) 36 rfl (fun c_3 => ?_) (fun c_3 => ?_)
      · skip
        refine z_bipush C (v := (-2)) rfl dX5_job_49 51 rfl ?_
        exact z_iret C hRx dX5_job_51 () rfl trivial rfl
      · skip
        refine z_iload C 4 rfl dX5_job_36 38 rfl ?_
        refine z_i2l C dX5_job_38 39 rfl ?_
        refine z_lconst C (v := lN 0) rfl dX5_job_39 40 rfl ?_
        refine z_ldc2 C (v := lN 3000) (List.mem_of_getElem? (i := 3) rfl) dX5_job_40 43 rfl ?_
        refine z_callP C [.long ((d).toInt64), .long (lN 0), .long (lN 3000)] [] (tX5_inI K.l K.g d 0 3000 (by first | omega | assumption) (by first | omega | assumption)) gX5_job_X5_in rfl rfl rfl hdX5_in ⟨Nat.le_of_ble_eq_true rfl, Nat.le_of_ble_eq_true rfl⟩ ⟨Nat.zero_le _, Nat.zero_le _⟩ rfl rfl (Nat.le_of_ble_eq_true rfl) dX5_job_43 46 rfl (fun u9 hu9 => ?_)
        show Z K 0 0 [wM K.g y all kept hist hl slo sav beg prt frm txt tl sp tol rd] [(0, .ref (y 0)), (1, .int a), (2, .int b), (3, .int c), (4, .int d)] 46 [.int (bI (rg d.toInt (Int.ofNat 0) (Int.ofNat 3000)))]
        refine z_ifb_ne C 52 dX5_job_46 (by decide) 49 rfl (fun c_4 => ?_) (fun c_4 => ?_)
        · exfalso; simp_all
        refine z_bipush C (v := (-2)) rfl dX5_job_49 51 rfl ?_
        exact z_iret C hRx dX5_job_51 () rfl trivial rfl

theorem iX5_job_X5 : ∀ w ∈ u_ws RX5 TX5 14, w ∈ wsX5_job := fun w h => (List.mem_cons_of_mem _ (List.mem_append_right _ h))
set_option maxHeartbeats 4000000 in
set_option maxRecDepth 100000 in
theorem tX5_job_np (l : Launch) (g : zG) (y all kept hist : Nat → Nat) (hl : Nat) (slo sav beg prt frm txt : Nat → Nat) (tl sp : Nat) (tol : Nat → Nat) (rd : Nat) (st : Nat → Nat) (r : Nat → Nat → Nat) (n : Nat) (a b c d : Nat) (hn : n ≤ 12) (hB : Bd all st r n) (hS : okS st) (ha9 : a ≤ 9) (hb9 : b ≤ 9) (hc1 : 1 ≤ c) (hc2 : c ≤ 20) (hd9 : d ≤ 3000) (hb : st 5 < nd (st 6) c) : Met l yX5_job wsX5_job ({ frames := 1, cells := 0, slots := 0, locals := 25 } : Room) (zPre g [.ref (y 0), .int (nI a), .int (nI b), .int (nI c), .int (nI d)] [wM g y all kept hist hl slo sav beg prt frm txt tl sp tol rd]) (zQ g (fun _ : Unit => some (.int (-5)) ) (fun _ : Unit => True) (fun _ : Unit => [wM g y all kept hist hl slo sav beg prt frm txt tl sp tol rd]) (zA [wM g y all kept hist hl slo sav beg prt frm txt tl sp tol rd])) 0 0 (zA [wM g y all kept hist hl slo sav beg prt frm txt tl sp tol rd]) := by
  refine z_entry (cc := cX5_job) (maxL := 5) (ret := (some .int)) (own := RX5) (by decide) rfl rfl (Nat.le_of_ble_eq_true rfl) [(0, .ref (y 0)), (1, .int (nI a)), (2, .int (nI b)), (3, .int (nI c)), (4, .int (nI d))] rfl ?_
  intro K hKl hKg hnL C hRx
  subst hKl
  subst hKg
  have hnb := nd_le (h := c) hS.2.2.2.2.2.2.2.2.1
  have h5b := hS.2.2.2.2.2.2.2.1
  refine z_iload_n C 1 rfl rfl dX5_job_0 1 rfl ?_
  refine z_i2l C dX5_job_1 2 rfl ?_
  refine z_lconst C (v := lN 0) rfl dX5_job_2 3 rfl ?_
  refine z_ldc2 C (v := lN 9) (List.mem_of_getElem? (i := 1) rfl) dX5_job_3 6 rfl ?_
  refine z_callP C [.long ((nI a).toInt64), .long (lN 0), .long (lN 9)] [] (tX5_inI K.l K.g (nI a) 0 9 (by first | omega | assumption) (by first | omega | assumption)) gX5_job_X5_in rfl rfl rfl hdX5_in ⟨Nat.le_of_ble_eq_true rfl, Nat.le_of_ble_eq_true rfl⟩ ⟨Nat.zero_le _, Nat.zero_le _⟩ rfl rfl (Nat.le_of_ble_eq_true rfl) dX5_job_6 9 rfl (fun u9 hu9 => ?_)
  show Z K 0 0 [wM K.g y all kept hist hl slo sav beg prt frm txt tl sp tol rd] [(0, .ref (y 0)), (1, .int (nI a)), (2, .int (nI b)), (3, .int (nI c)), (4, .int (nI d))] 9 [.int (bI (rg (nI a).toInt (Int.ofNat 0) (Int.ofNat 9)))]
  refine z_ifb_eq C 49 dX5_job_9 (by decide) 12 rfl (fun c_1 => ?_) (fun c_1 => ?_)
  · exfalso; rw [rgN_t (by omega) (by omega) (by omega)] at c_1; exact Bool.noConfusion c_1
  refine z_iload_n C 2 rfl rfl dX5_job_12 13 rfl ?_
  refine z_i2l C dX5_job_13 14 rfl ?_
  refine z_lconst C (v := lN 0) rfl dX5_job_14 15 rfl ?_
  refine z_ldc2 C (v := lN 9) (List.mem_of_getElem? (i := 1) rfl) dX5_job_15 18 rfl ?_
  refine z_callP C [.long ((nI b).toInt64), .long (lN 0), .long (lN 9)] [] (tX5_inI K.l K.g (nI b) 0 9 (by first | omega | assumption) (by first | omega | assumption)) gX5_job_X5_in rfl rfl rfl hdX5_in ⟨Nat.le_of_ble_eq_true rfl, Nat.le_of_ble_eq_true rfl⟩ ⟨Nat.zero_le _, Nat.zero_le _⟩ rfl rfl (Nat.le_of_ble_eq_true rfl) dX5_job_18 21 rfl (fun u9 hu9 => ?_)
  show Z K 0 0 [wM K.g y all kept hist hl slo sav beg prt frm txt tl sp tol rd] [(0, .ref (y 0)), (1, .int (nI a)), (2, .int (nI b)), (3, .int (nI c)), (4, .int (nI d))] 21 [.int (bI (rg (nI b).toInt (Int.ofNat 0) (Int.ofNat 9)))]
  refine z_ifb_eq C 49 dX5_job_21 (by decide) 24 rfl (fun c_2 => ?_) (fun c_2 => ?_)
  · exfalso; rw [rgN_t (by omega) (by omega) (by omega)] at c_2; exact Bool.noConfusion c_2
  refine z_iload_n C 3 rfl rfl dX5_job_24 25 rfl ?_
  refine z_i2l C dX5_job_25 26 rfl ?_
  refine z_lconst C (v := lN 1) rfl dX5_job_26 27 rfl ?_
  refine z_ldc2 C (v := lN 20) (List.mem_of_getElem? (i := 2) rfl) dX5_job_27 30 rfl ?_
  refine z_callP C [.long ((nI c).toInt64), .long (lN 1), .long (lN 20)] [] (tX5_inI K.l K.g (nI c) 1 20 (by first | omega | assumption) (by first | omega | assumption)) gX5_job_X5_in rfl rfl rfl hdX5_in ⟨Nat.le_of_ble_eq_true rfl, Nat.le_of_ble_eq_true rfl⟩ ⟨Nat.zero_le _, Nat.zero_le _⟩ rfl rfl (Nat.le_of_ble_eq_true rfl) dX5_job_30 33 rfl (fun u9 hu9 => ?_)
  show Z K 0 0 [wM K.g y all kept hist hl slo sav beg prt frm txt tl sp tol rd] [(0, .ref (y 0)), (1, .int (nI a)), (2, .int (nI b)), (3, .int (nI c)), (4, .int (nI d))] 33 [.int (bI (rg (nI c).toInt (Int.ofNat 1) (Int.ofNat 20)))]
  refine z_ifb_eq C 49 dX5_job_33 (by decide) 36 rfl (fun c_3 => ?_) (fun c_3 => ?_)
  · exfalso; rw [rgN_t (by omega) (by omega) (by omega)] at c_3; exact Bool.noConfusion c_3
  refine z_iload C 4 rfl dX5_job_36 38 rfl ?_
  refine z_i2l C dX5_job_38 39 rfl ?_
  refine z_lconst C (v := lN 0) rfl dX5_job_39 40 rfl ?_
  refine z_ldc2 C (v := lN 3000) (List.mem_of_getElem? (i := 3) rfl) dX5_job_40 43 rfl ?_
  refine z_callP C [.long ((nI d).toInt64), .long (lN 0), .long (lN 3000)] [] (tX5_inI K.l K.g (nI d) 0 3000 (by first | omega | assumption) (by first | omega | assumption)) gX5_job_X5_in rfl rfl rfl hdX5_in ⟨Nat.le_of_ble_eq_true rfl, Nat.le_of_ble_eq_true rfl⟩ ⟨Nat.zero_le _, Nat.zero_le _⟩ rfl rfl (Nat.le_of_ble_eq_true rfl) dX5_job_43 46 rfl (fun u9 hu9 => ?_)
  show Z K 0 0 [wM K.g y all kept hist hl slo sav beg prt frm txt tl sp tol rd] [(0, .ref (y 0)), (1, .int (nI a)), (2, .int (nI b)), (3, .int (nI c)), (4, .int (nI d))] 46 [.int (bI (rg (nI d).toInt (Int.ofNat 0) (Int.ofNat 3000)))]
  refine z_ifb_ne C 52 dX5_job_46 (by decide) 49 rfl (fun c_4 => ?_) (fun c_4 => ?_)
  rotate_left
  · exfalso; rw [rgN_t (by omega) (by omega) (by omega)] at c_4; exact Bool.noConfusion c_4
  refine z_aload_n C 0 rfl rfl dX5_job_52 53 rfl ?_
  refine z_iload_n C 3 rfl rfl dX5_job_53 54 rfl ?_
  refine z_callV C [.int (nI c)] [] (tX5_racksFor K.l K.g y all kept hist hl slo sav beg prt frm txt tl sp tol rd st r n c (by first | omega | assumption) (by first | omega | assumption) (by first | omega | assumption) (by first | omega | assumption)) gX5_job_X5_racksFor rfl rfl rfl hdX5_racksFor ⟨Nat.le_of_ble_eq_true rfl, Nat.le_of_ble_eq_true rfl⟩ ⟨Nat.zero_le _, Nat.zero_le _⟩ 0 0 rfl rfl rfl [0] rfl rfl (zlc (N := 1) rfl rfl) [1] rfl (by decide) (fun _ : Unit => [wM K.g y all kept hist hl slo sav beg prt frm txt tl sp tol rd]) (fun _ => rfl) rfl rfl (Nat.le_of_ble_eq_true rfl) dX5_job_54 57 rfl (fun u9 hu9 => ?_)
  show Z K 0 0 [wM K.g y all kept hist hl slo sav beg prt frm txt tl sp tol rd] [(0, .ref (y 0)), (1, .int (nI a)), (2, .int (nI b)), (3, .int (nI c)), (4, .int (nI d))] 57 [.int (nI (nd (st 6) c))]
  refine z_aload_n C 0 rfl rfl dX5_job_57 58 rfl ?_
  refine z_get C zc5 iX5_job_X5 0 0 rfl rfl 0 (Nat.le_of_ble_eq_true rfl) (List.mem_of_getElem? (i := 4) rfl) (v := .ref (y 1)) rfl dX5_job_58 61 rfl ?_
  refine z_iconst C (v := nI 5) rfl dX5_job_61 62 rfl ?_
  refine z_iald C (f := all) 0 1 rfl rfl (by omega) (by decide) dX5_job_62 63 rfl ?_
  refine z_top (show nI (all 5) = nI (st 5) from by rw [hB.1 5 (by decide)]) ?_
  refine z_icmp_le C (by omega) (by omega) 69 dX5_job_63 (by decide) 66 rfl (fun c_5 => ?_) (fun c_5 => ?_)
  · exfalso; omega
  refine z_bipush C (v := (-5)) rfl dX5_job_66 68 rfl ?_
  exact z_iret C hRx dX5_job_68 () rfl trivial rfl

set_option maxHeartbeats 4000000 in
set_option maxRecDepth 100000 in
theorem tX5_job_tm (l : Launch) (g : zG) (y all kept hist : Nat → Nat) (hl : Nat) (slo sav beg prt frm txt : Nat → Nat) (tl sp : Nat) (tol : Nat → Nat) (rd : Nat) (st : Nat → Nat) (r : Nat → Nat → Nat) (n : Nat) (a b c d : Nat) (hn : n ≤ 12) (hB : Bd all st r n) (hS : okS st) (ha9 : a ≤ 9) (hb9 : b ≤ 9) (hc1 : 1 ≤ c) (hc2 : c ≤ 20) (hd9 : d ≤ 3000) (hb : nd (st 6) c ≤ st 5) (hn12 : n = 12) : Met l yX5_job wsX5_job ({ frames := 1, cells := 0, slots := 0, locals := 25 } : Room) (zPre g [.ref (y 0), .int (nI a), .int (nI b), .int (nI c), .int (nI d)] [wM g y all kept hist hl slo sav beg prt frm txt tl sp tol rd]) (zQ g (fun _ : Unit => some (.int (-4)) ) (fun _ : Unit => True) (fun _ : Unit => [wM g y all kept hist hl slo sav beg prt frm txt tl sp tol rd]) (zA [wM g y all kept hist hl slo sav beg prt frm txt tl sp tol rd])) 0 0 (zA [wM g y all kept hist hl slo sav beg prt frm txt tl sp tol rd]) := by
  refine z_entry (cc := cX5_job) (maxL := 5) (ret := (some .int)) (own := RX5) (by decide) rfl rfl (Nat.le_of_ble_eq_true rfl) [(0, .ref (y 0)), (1, .int (nI a)), (2, .int (nI b)), (3, .int (nI c)), (4, .int (nI d))] rfl ?_
  intro K hKl hKg hnL C hRx
  subst hKl
  subst hKg
  have hnb := nd_le (h := c) hS.2.2.2.2.2.2.2.2.1
  have h5b := hS.2.2.2.2.2.2.2.1
  refine z_iload_n C 1 rfl rfl dX5_job_0 1 rfl ?_
  refine z_i2l C dX5_job_1 2 rfl ?_
  refine z_lconst C (v := lN 0) rfl dX5_job_2 3 rfl ?_
  refine z_ldc2 C (v := lN 9) (List.mem_of_getElem? (i := 1) rfl) dX5_job_3 6 rfl ?_
  refine z_callP C [.long ((nI a).toInt64), .long (lN 0), .long (lN 9)] [] (tX5_inI K.l K.g (nI a) 0 9 (by first | omega | assumption) (by first | omega | assumption)) gX5_job_X5_in rfl rfl rfl hdX5_in ⟨Nat.le_of_ble_eq_true rfl, Nat.le_of_ble_eq_true rfl⟩ ⟨Nat.zero_le _, Nat.zero_le _⟩ rfl rfl (Nat.le_of_ble_eq_true rfl) dX5_job_6 9 rfl (fun u9 hu9 => ?_)
  show Z K 0 0 [wM K.g y all kept hist hl slo sav beg prt frm txt tl sp tol rd] [(0, .ref (y 0)), (1, .int (nI a)), (2, .int (nI b)), (3, .int (nI c)), (4, .int (nI d))] 9 [.int (bI (rg (nI a).toInt (Int.ofNat 0) (Int.ofNat 9)))]
  refine z_ifb_eq C 49 dX5_job_9 (by decide) 12 rfl (fun c_1 => ?_) (fun c_1 => ?_)
  · exfalso; rw [rgN_t (by omega) (by omega) (by omega)] at c_1; exact Bool.noConfusion c_1
  refine z_iload_n C 2 rfl rfl dX5_job_12 13 rfl ?_
  refine z_i2l C dX5_job_13 14 rfl ?_
  refine z_lconst C (v := lN 0) rfl dX5_job_14 15 rfl ?_
  refine z_ldc2 C (v := lN 9) (List.mem_of_getElem? (i := 1) rfl) dX5_job_15 18 rfl ?_
  refine z_callP C [.long ((nI b).toInt64), .long (lN 0), .long (lN 9)] [] (tX5_inI K.l K.g (nI b) 0 9 (by first | omega | assumption) (by first | omega | assumption)) gX5_job_X5_in rfl rfl rfl hdX5_in ⟨Nat.le_of_ble_eq_true rfl, Nat.le_of_ble_eq_true rfl⟩ ⟨Nat.zero_le _, Nat.zero_le _⟩ rfl rfl (Nat.le_of_ble_eq_true rfl) dX5_job_18 21 rfl (fun u9 hu9 => ?_)
  show Z K 0 0 [wM K.g y all kept hist hl slo sav beg prt frm txt tl sp tol rd] [(0, .ref (y 0)), (1, .int (nI a)), (2, .int (nI b)), (3, .int (nI c)), (4, .int (nI d))] 21 [.int (bI (rg (nI b).toInt (Int.ofNat 0) (Int.ofNat 9)))]
  refine z_ifb_eq C 49 dX5_job_21 (by decide) 24 rfl (fun c_2 => ?_) (fun c_2 => ?_)
  · exfalso; rw [rgN_t (by omega) (by omega) (by omega)] at c_2; exact Bool.noConfusion c_2
  refine z_iload_n C 3 rfl rfl dX5_job_24 25 rfl ?_
  refine z_i2l C dX5_job_25 26 rfl ?_
  refine z_lconst C (v := lN 1) rfl dX5_job_26 27 rfl ?_
  refine z_ldc2 C (v := lN 20) (List.mem_of_getElem? (i := 2) rfl) dX5_job_27 30 rfl ?_
  refine z_callP C [.long ((nI c).toInt64), .long (lN 1), .long (lN 20)] [] (tX5_inI K.l K.g (nI c) 1 20 (by first | omega | assumption) (by first | omega | assumption)) gX5_job_X5_in rfl rfl rfl hdX5_in ⟨Nat.le_of_ble_eq_true rfl, Nat.le_of_ble_eq_true rfl⟩ ⟨Nat.zero_le _, Nat.zero_le _⟩ rfl rfl (Nat.le_of_ble_eq_true rfl) dX5_job_30 33 rfl (fun u9 hu9 => ?_)
  show Z K 0 0 [wM K.g y all kept hist hl slo sav beg prt frm txt tl sp tol rd] [(0, .ref (y 0)), (1, .int (nI a)), (2, .int (nI b)), (3, .int (nI c)), (4, .int (nI d))] 33 [.int (bI (rg (nI c).toInt (Int.ofNat 1) (Int.ofNat 20)))]
  refine z_ifb_eq C 49 dX5_job_33 (by decide) 36 rfl (fun c_3 => ?_) (fun c_3 => ?_)
  · exfalso; rw [rgN_t (by omega) (by omega) (by omega)] at c_3; exact Bool.noConfusion c_3
  refine z_iload C 4 rfl dX5_job_36 38 rfl ?_
  refine z_i2l C dX5_job_38 39 rfl ?_
  refine z_lconst C (v := lN 0) rfl dX5_job_39 40 rfl ?_
  refine z_ldc2 C (v := lN 3000) (List.mem_of_getElem? (i := 3) rfl) dX5_job_40 43 rfl ?_
  refine z_callP C [.long ((nI d).toInt64), .long (lN 0), .long (lN 3000)] [] (tX5_inI K.l K.g (nI d) 0 3000 (by first | omega | assumption) (by first | omega | assumption)) gX5_job_X5_in rfl rfl rfl hdX5_in ⟨Nat.le_of_ble_eq_true rfl, Nat.le_of_ble_eq_true rfl⟩ ⟨Nat.zero_le _, Nat.zero_le _⟩ rfl rfl (Nat.le_of_ble_eq_true rfl) dX5_job_43 46 rfl (fun u9 hu9 => ?_)
  show Z K 0 0 [wM K.g y all kept hist hl slo sav beg prt frm txt tl sp tol rd] [(0, .ref (y 0)), (1, .int (nI a)), (2, .int (nI b)), (3, .int (nI c)), (4, .int (nI d))] 46 [.int (bI (rg (nI d).toInt (Int.ofNat 0) (Int.ofNat 3000)))]
  refine z_ifb_ne C 52 dX5_job_46 (by decide) 49 rfl (fun c_4 => ?_) (fun c_4 => ?_)
  rotate_left
  · exfalso; rw [rgN_t (by omega) (by omega) (by omega)] at c_4; exact Bool.noConfusion c_4
  refine z_aload_n C 0 rfl rfl dX5_job_52 53 rfl ?_
  refine z_iload_n C 3 rfl rfl dX5_job_53 54 rfl ?_
  refine z_callV C [.int (nI c)] [] (tX5_racksFor K.l K.g y all kept hist hl slo sav beg prt frm txt tl sp tol rd st r n c (by first | omega | assumption) (by first | omega | assumption) (by first | omega | assumption) (by first | omega | assumption)) gX5_job_X5_racksFor rfl rfl rfl hdX5_racksFor ⟨Nat.le_of_ble_eq_true rfl, Nat.le_of_ble_eq_true rfl⟩ ⟨Nat.zero_le _, Nat.zero_le _⟩ 0 0 rfl rfl rfl [0] rfl rfl (zlc (N := 1) rfl rfl) [1] rfl (by decide) (fun _ : Unit => [wM K.g y all kept hist hl slo sav beg prt frm txt tl sp tol rd]) (fun _ => rfl) rfl rfl (Nat.le_of_ble_eq_true rfl) dX5_job_54 57 rfl (fun u9 hu9 => ?_)
  show Z K 0 0 [wM K.g y all kept hist hl slo sav beg prt frm txt tl sp tol rd] [(0, .ref (y 0)), (1, .int (nI a)), (2, .int (nI b)), (3, .int (nI c)), (4, .int (nI d))] 57 [.int (nI (nd (st 6) c))]
  refine z_aload_n C 0 rfl rfl dX5_job_57 58 rfl ?_
  refine z_get C zc5 iX5_job_X5 0 0 rfl rfl 0 (Nat.le_of_ble_eq_true rfl) (List.mem_of_getElem? (i := 4) rfl) (v := .ref (y 1)) rfl dX5_job_58 61 rfl ?_
  refine z_iconst C (v := nI 5) rfl dX5_job_61 62 rfl ?_
  refine z_iald C (f := all) 0 1 rfl rfl (by omega) (by decide) dX5_job_62 63 rfl ?_
  refine z_top (show nI (all 5) = nI (st 5) from by rw [hB.1 5 (by decide)]) ?_
  refine z_icmp_le C (by omega) (by omega) 69 dX5_job_63 (by decide) 66 rfl (fun c_5 => ?_) (fun c_5 => ?_)
  rotate_left
  · exfalso; omega
  refine z_aload_n C 0 rfl rfl dX5_job_69 70 rfl ?_
  refine z_get C zc5 iX5_job_X5 0 0 rfl rfl 0 (Nat.le_of_ble_eq_true rfl) (List.mem_of_getElem? (i := 4) rfl) (v := .ref (y 1)) rfl dX5_job_70 73 rfl ?_
  refine z_bipush C (v := nI 7) rfl dX5_job_73 75 rfl ?_
  refine z_iald C (f := all) 0 1 rfl rfl (by omega) (by decide) dX5_job_75 76 rfl ?_
  refine z_top (show nI (all 7) = nI n from by rw [hB.2.1]) ?_
  refine z_bipush C (v := nI 12) rfl dX5_job_76 78 rfl ?_
  refine z_icmp_ne C (by omega) (by omega) 84 dX5_job_78 (by decide) 81 rfl (fun c_6 => ?_) (fun c_6 => ?_)
  · exfalso; omega
  refine z_bipush C (v := (-4)) rfl dX5_job_81 83 rfl ?_
  exact z_iret C hRx dX5_job_83 () rfl trivial rfl

set_option maxHeartbeats 4000000 in
set_option maxRecDepth 100000 in
theorem tX5_job_ok (l : Launch) (g : zG) (y all kept hist : Nat → Nat) (hl : Nat) (slo sav beg prt frm txt : Nat → Nat) (tl sp : Nat) (tol : Nat → Nat) (rd : Nat) (st : Nat → Nat) (r : Nat → Nat → Nat) (n : Nat) (a b c d : Nat) (hn : n ≤ 12) (hB : Bd all st r n) (hS : okS st) (hl6 : hl ≤ 6) (ha9 : a ≤ 9) (hb9 : b ≤ 9) (hc1 : 1 ≤ c) (hc2 : c ≤ 20) (hd9 : d ≤ 3000) (hb : nd (st 6) c ≤ st 5) (hn12 : n < 12) : Met l yX5_job wsX5_job ({ frames := 1, cells := 0, slots := 0, locals := 25 } : Room) (zPre g [.ref (y 0), .int (nI a), .int (nI b), .int (nI c), .int (nI d)] [wM g y all kept hist hl slo sav beg prt frm txt tl sp tol rd]) (zQ g (fun u : (Nat → Nat) × (Nat → Nat) × (Nat) => match u with | (all2, hist2, hl2) => some (.int (nI n)) ) (fun u : (Nat → Nat) × (Nat → Nat) × (Nat) => match u with | (all2, hist2, hl2) => (Bd all2 st (apR r n a b c d) (n + 1)) ∧ (HCh all hist hl hist2 hl2)) (fun u : (Nat → Nat) × (Nat → Nat) × (Nat) => match u with | (all2, hist2, hl2) => [wM g y all2 kept hist2 hl2 slo sav beg prt frm txt tl sp tol rd]) (zA [wM g y all kept hist hl slo sav beg prt frm txt tl sp tol rd])) 0 0 (zA [wM g y all kept hist hl slo sav beg prt frm txt tl sp tol rd]) := by
  refine z_entry (cc := cX5_job) (maxL := 5) (ret := (some .int)) (own := RX5) (by decide) rfl rfl (Nat.le_of_ble_eq_true rfl) [(0, .ref (y 0)), (1, .int (nI a)), (2, .int (nI b)), (3, .int (nI c)), (4, .int (nI d))] rfl ?_
  intro K hKl hKg hnL C hRx
  subst hKl
  subst hKg
  have hnb := nd_le (h := c) hS.2.2.2.2.2.2.2.2.1
  have h5b := hS.2.2.2.2.2.2.2.1
  refine z_iload_n C 1 rfl rfl dX5_job_0 1 rfl ?_
  refine z_i2l C dX5_job_1 2 rfl ?_
  refine z_lconst C (v := lN 0) rfl dX5_job_2 3 rfl ?_
  refine z_ldc2 C (v := lN 9) (List.mem_of_getElem? (i := 1) rfl) dX5_job_3 6 rfl ?_
  refine z_callP C [.long ((nI a).toInt64), .long (lN 0), .long (lN 9)] [] (tX5_inI K.l K.g (nI a) 0 9 (by first | omega | assumption) (by first | omega | assumption)) gX5_job_X5_in rfl rfl rfl hdX5_in ⟨Nat.le_of_ble_eq_true rfl, Nat.le_of_ble_eq_true rfl⟩ ⟨Nat.zero_le _, Nat.zero_le _⟩ rfl rfl (Nat.le_of_ble_eq_true rfl) dX5_job_6 9 rfl (fun u9 hu9 => ?_)
  show Z K 0 0 [wM K.g y all kept hist hl slo sav beg prt frm txt tl sp tol rd] [(0, .ref (y 0)), (1, .int (nI a)), (2, .int (nI b)), (3, .int (nI c)), (4, .int (nI d))] 9 [.int (bI (rg (nI a).toInt (Int.ofNat 0) (Int.ofNat 9)))]
  refine z_ifb_eq C 49 dX5_job_9 (by decide) 12 rfl (fun c_1 => ?_) (fun c_1 => ?_)
  · exfalso; rw [rgN_t (by omega) (by omega) (by omega)] at c_1; exact Bool.noConfusion c_1
  refine z_iload_n C 2 rfl rfl dX5_job_12 13 rfl ?_
  refine z_i2l C dX5_job_13 14 rfl ?_
  refine z_lconst C (v := lN 0) rfl dX5_job_14 15 rfl ?_
  refine z_ldc2 C (v := lN 9) (List.mem_of_getElem? (i := 1) rfl) dX5_job_15 18 rfl ?_
  refine z_callP C [.long ((nI b).toInt64), .long (lN 0), .long (lN 9)] [] (tX5_inI K.l K.g (nI b) 0 9 (by first | omega | assumption) (by first | omega | assumption)) gX5_job_X5_in rfl rfl rfl hdX5_in ⟨Nat.le_of_ble_eq_true rfl, Nat.le_of_ble_eq_true rfl⟩ ⟨Nat.zero_le _, Nat.zero_le _⟩ rfl rfl (Nat.le_of_ble_eq_true rfl) dX5_job_18 21 rfl (fun u9 hu9 => ?_)
  show Z K 0 0 [wM K.g y all kept hist hl slo sav beg prt frm txt tl sp tol rd] [(0, .ref (y 0)), (1, .int (nI a)), (2, .int (nI b)), (3, .int (nI c)), (4, .int (nI d))] 21 [.int (bI (rg (nI b).toInt (Int.ofNat 0) (Int.ofNat 9)))]
  refine z_ifb_eq C 49 dX5_job_21 (by decide) 24 rfl (fun c_2 => ?_) (fun c_2 => ?_)
  · exfalso; rw [rgN_t (by omega) (by omega) (by omega)] at c_2; exact Bool.noConfusion c_2
  refine z_iload_n C 3 rfl rfl dX5_job_24 25 rfl ?_
  refine z_i2l C dX5_job_25 26 rfl ?_
  refine z_lconst C (v := lN 1) rfl dX5_job_26 27 rfl ?_
  refine z_ldc2 C (v := lN 20) (List.mem_of_getElem? (i := 2) rfl) dX5_job_27 30 rfl ?_
  refine z_callP C [.long ((nI c).toInt64), .long (lN 1), .long (lN 20)] [] (tX5_inI K.l K.g (nI c) 1 20 (by first | omega | assumption) (by first | omega | assumption)) gX5_job_X5_in rfl rfl rfl hdX5_in ⟨Nat.le_of_ble_eq_true rfl, Nat.le_of_ble_eq_true rfl⟩ ⟨Nat.zero_le _, Nat.zero_le _⟩ rfl rfl (Nat.le_of_ble_eq_true rfl) dX5_job_30 33 rfl (fun u9 hu9 => ?_)
  show Z K 0 0 [wM K.g y all kept hist hl slo sav beg prt frm txt tl sp tol rd] [(0, .ref (y 0)), (1, .int (nI a)), (2, .int (nI b)), (3, .int (nI c)), (4, .int (nI d))] 33 [.int (bI (rg (nI c).toInt (Int.ofNat 1) (Int.ofNat 20)))]
  refine z_ifb_eq C 49 dX5_job_33 (by decide) 36 rfl (fun c_3 => ?_) (fun c_3 => ?_)
  · exfalso; rw [rgN_t (by omega) (by omega) (by omega)] at c_3; exact Bool.noConfusion c_3
  refine z_iload C 4 rfl dX5_job_36 38 rfl ?_
  refine z_i2l C dX5_job_38 39 rfl ?_
  refine z_lconst C (v := lN 0) rfl dX5_job_39 40 rfl ?_
  refine z_ldc2 C (v := lN 3000) (List.mem_of_getElem? (i := 3) rfl) dX5_job_40 43 rfl ?_
  refine z_callP C [.long ((nI d).toInt64), .long (lN 0), .long (lN 3000)] [] (tX5_inI K.l K.g (nI d) 0 3000 (by first | omega | assumption) (by first | omega | assumption)) gX5_job_X5_in rfl rfl rfl hdX5_in ⟨Nat.le_of_ble_eq_true rfl, Nat.le_of_ble_eq_true rfl⟩ ⟨Nat.zero_le _, Nat.zero_le _⟩ rfl rfl (Nat.le_of_ble_eq_true rfl) dX5_job_43 46 rfl (fun u9 hu9 => ?_)
  show Z K 0 0 [wM K.g y all kept hist hl slo sav beg prt frm txt tl sp tol rd] [(0, .ref (y 0)), (1, .int (nI a)), (2, .int (nI b)), (3, .int (nI c)), (4, .int (nI d))] 46 [.int (bI (rg (nI d).toInt (Int.ofNat 0) (Int.ofNat 3000)))]
  refine z_ifb_ne C 52 dX5_job_46 (by decide) 49 rfl (fun c_4 => ?_) (fun c_4 => ?_)
  rotate_left
  · exfalso; rw [rgN_t (by omega) (by omega) (by omega)] at c_4; exact Bool.noConfusion c_4
  refine z_aload_n C 0 rfl rfl dX5_job_52 53 rfl ?_
  refine z_iload_n C 3 rfl rfl dX5_job_53 54 rfl ?_
  refine z_callV C [.int (nI c)] [] (tX5_racksFor K.l K.g y all kept hist hl slo sav beg prt frm txt tl sp tol rd st r n c (by first | omega | assumption) (by first | omega | assumption) (by first | omega | assumption) (by first | omega | assumption)) gX5_job_X5_racksFor rfl rfl rfl hdX5_racksFor ⟨Nat.le_of_ble_eq_true rfl, Nat.le_of_ble_eq_true rfl⟩ ⟨Nat.zero_le _, Nat.zero_le _⟩ 0 0 rfl rfl rfl [0] rfl rfl (zlc (N := 1) rfl rfl) [1] rfl (by decide) (fun _ : Unit => [wM K.g y all kept hist hl slo sav beg prt frm txt tl sp tol rd]) (fun _ => rfl) rfl rfl (Nat.le_of_ble_eq_true rfl) dX5_job_54 57 rfl (fun u9 hu9 => ?_)
  show Z K 0 0 [wM K.g y all kept hist hl slo sav beg prt frm txt tl sp tol rd] [(0, .ref (y 0)), (1, .int (nI a)), (2, .int (nI b)), (3, .int (nI c)), (4, .int (nI d))] 57 [.int (nI (nd (st 6) c))]
  refine z_aload_n C 0 rfl rfl dX5_job_57 58 rfl ?_
  refine z_get C zc5 iX5_job_X5 0 0 rfl rfl 0 (Nat.le_of_ble_eq_true rfl) (List.mem_of_getElem? (i := 4) rfl) (v := .ref (y 1)) rfl dX5_job_58 61 rfl ?_
  refine z_iconst C (v := nI 5) rfl dX5_job_61 62 rfl ?_
  refine z_iald C (f := all) 0 1 rfl rfl (by omega) (by decide) dX5_job_62 63 rfl ?_
  refine z_top (show nI (all 5) = nI (st 5) from by rw [hB.1 5 (by decide)]) ?_
  refine z_icmp_le C (by omega) (by omega) 69 dX5_job_63 (by decide) 66 rfl (fun c_5 => ?_) (fun c_5 => ?_)
  rotate_left
  · exfalso; omega
  refine z_aload_n C 0 rfl rfl dX5_job_69 70 rfl ?_
  refine z_get C zc5 iX5_job_X5 0 0 rfl rfl 0 (Nat.le_of_ble_eq_true rfl) (List.mem_of_getElem? (i := 4) rfl) (v := .ref (y 1)) rfl dX5_job_70 73 rfl ?_
  refine z_bipush C (v := nI 7) rfl dX5_job_73 75 rfl ?_
  refine z_iald C (f := all) 0 1 rfl rfl (by omega) (by decide) dX5_job_75 76 rfl ?_
  refine z_top (show nI (all 7) = nI n from by rw [hB.2.1]) ?_
  refine z_bipush C (v := nI 12) rfl dX5_job_76 78 rfl ?_
  refine z_icmp_ne C (by omega) (by omega) 84 dX5_job_78 (by decide) 81 rfl (fun c_6 => ?_) (fun c_6 => ?_)
  rotate_left
  · exfalso; omega
  refine z_aload_n C 0 rfl rfl dX5_job_84 85 rfl ?_
  refine z_callV C [] [] (tX5_changes K.l K.g y all kept hist hl slo sav beg prt frm txt tl sp tol rd (by first | omega | assumption)) gX5_job_X5_changes rfl rfl rfl hdX5_changes ⟨Nat.le_of_ble_eq_true rfl, Nat.le_of_ble_eq_true rfl⟩ ⟨Nat.zero_le _, Nat.zero_le _⟩ 0 0 rfl rfl rfl [0] rfl rfl (zlc (N := 1) rfl rfl) [1] rfl (by decide) (fun u : (Nat → Nat) × (Nat) => match u with | (hist2, hl2) => [wM K.g y all kept hist2 hl2 slo sav beg prt frm txt tl sp tol rd]) (fun _ => rfl) rfl rfl (Nat.le_of_ble_eq_true rfl) dX5_job_85 88 rfl (fun u9 hu9 => ?_)
  obtain ⟨hist2, hl2⟩ := u9
  obtain ⟨hh1, hh2, hh3⟩ := hu9
  have hh1 : hl2 = min (hl + 1) 6 := hh1
  have hh2 : ∀ u, u < 56 → hist2 (56 * (hl2 - 1) + u) = all u := hh2
  have hh3 : ∀ e u, e + 1 < hl2 → u < 56 → hist2 (56 * e + u) = hist (56 * (e + (hl + 1 - hl2)) + u) := hh3
  show Z K 0 0 [wM K.g y all kept hist2 hl2 slo sav beg prt frm txt tl sp tol rd] [(0, .ref (y 0)), (1, .int (nI a)), (2, .int (nI b)), (3, .int (nI c)), (4, .int (nI d))] 88 []
  have hC : HCh all hist hl hist2 hl2 := ⟨hh1, hh2, hh3⟩
  refine z_aload_n C 0 rfl rfl dX5_job_88 89 rfl ?_
  refine z_iload_n C 1 rfl rfl dX5_job_89 90 rfl ?_
  refine z_iload_n C 2 rfl rfl dX5_job_90 91 rfl ?_
  refine z_iload_n C 3 rfl rfl dX5_job_91 92 rfl ?_
  refine z_iload C 4 rfl dX5_job_92 94 rfl ?_
  refine z_callV C [.int (nI a), .int (nI b), .int (nI c), .int (nI d)] [] (tX5_puts K.l K.g y all kept hist2 hl2 slo sav beg prt frm txt tl sp tol rd st r n a b c d (by first | omega | assumption) (by first | omega | assumption)) gX5_job_X5_puts rfl rfl rfl hdX5_puts ⟨Nat.le_of_ble_eq_true rfl, Nat.le_of_ble_eq_true rfl⟩ ⟨Nat.zero_le _, Nat.zero_le _⟩ 0 0 rfl rfl rfl [0] rfl rfl (zlc (N := 1) rfl rfl) [1] rfl (by decide) (fun all2 : Nat → Nat => [wM K.g y all2 kept hist2 hl2 slo sav beg prt frm txt tl sp tol rd]) (fun _ => rfl) rfl rfl (Nat.le_of_ble_eq_true rfl) dX5_job_94 97 rfl (fun u9 hu9 => ?_)
  obtain ⟨al2, rfl⟩ : ∃ z, z = u9 := ⟨_, rfl⟩
  have hB2 := hu9
  have hB2 : Bd al2 st (apR r n a b c d) (n + 1) := hB2
  show Z K 0 0 [wM K.g y al2 kept hist2 hl2 slo sav beg prt frm txt tl sp tol rd] [(0, .ref (y 0)), (1, .int (nI a)), (2, .int (nI b)), (3, .int (nI c)), (4, .int (nI d))] 97 []
  refine z_aload_n C 0 rfl rfl dX5_job_97 98 rfl ?_
  refine z_get C zc5 iX5_job_X5 0 0 rfl rfl 0 (Nat.le_of_ble_eq_true rfl) (List.mem_of_getElem? (i := 4) rfl) (v := .ref (y 1)) rfl dX5_job_98 101 rfl ?_
  refine z_bipush C (v := nI 7) rfl dX5_job_101 103 rfl ?_
  refine z_iald C (f := al2) 0 1 rfl rfl (by omega) (by decide) dX5_job_103 104 rfl ?_
  refine z_top (show nI (al2 7) = nI (n + 1) from by rw [hB2.2.1]) ?_
  refine z_iconst C (v := nI 1) rfl dX5_job_104 105 rfl ?_
  refine z_isub C (by omega) dX5_job_105 106 rfl ?_
  exact z_iret C hRx dX5_job_106 (al2, hist2, hl2) (congrArg (fun z => some (Value.int (nI z))) (show n = n + 1 - 1 from rfl)) (⟨hB2, hC⟩) rfl

set_option maxHeartbeats 4000000 in
set_option maxRecDepth 100000 in
theorem tX5_drop_ns (l : Launch) (g : zG) (y all kept hist : Nat → Nat) (hl : Nat) (slo sav beg prt frm txt : Nat → Nat) (tl sp : Nat) (tol : Nat → Nat) (rd : Nat) (st : Nat → Nat) (r : Nat → Nat → Nat) (n : Nat) (v : Int32) (hn : n ≤ 12) (hB : Bd all st r n) (hb : isJ v n = false) : Met l yX5_drop wsX5_drop ({ frames := 3, cells := 0, slots := 0, locals := 70 } : Room) (zPre g [.ref (y 0), .int v] [wM g y all kept hist hl slo sav beg prt frm txt tl sp tol rd]) (zQ g (fun _ : Unit => some (.int (-1)) ) (fun _ : Unit => True) (fun _ : Unit => [wM g y all kept hist hl slo sav beg prt frm txt tl sp tol rd]) (zA [wM g y all kept hist hl slo sav beg prt frm txt tl sp tol rd])) 0 0 (zA [wM g y all kept hist hl slo sav beg prt frm txt tl sp tol rd]) := by
  refine z_entry (cc := cX5_drop) (maxL := 3) (ret := (some .int)) (own := RX5) (by decide) rfl rfl (Nat.le_of_ble_eq_true rfl) [(0, .ref (y 0)), (1, .int v)] rfl ?_
  intro K hKl hKg hnL C hRx
  subst hKl
  subst hKg
  refine z_aload_n C 0 rfl rfl dX5_drop_0 1 rfl ?_
  refine z_iload_n C 1 rfl rfl dX5_drop_1 2 rfl ?_
  refine z_callV C [.int v] [] (tX5_isJob K.l K.g y all kept hist hl slo sav beg prt frm txt tl sp tol rd st r n v (by first | omega | assumption) (by first | omega | assumption)) gX5_drop_X5_isJob rfl rfl rfl hdX5_isJob ⟨Nat.le_of_ble_eq_true rfl, Nat.le_of_ble_eq_true rfl⟩ ⟨Nat.zero_le _, Nat.zero_le _⟩ 0 0 rfl rfl rfl [0] rfl rfl (zlc (N := 1) rfl rfl) [1] rfl (by decide) (fun _ : Unit => [wM K.g y all kept hist hl slo sav beg prt frm txt tl sp tol rd]) (fun _ => rfl) rfl rfl (Nat.le_of_ble_eq_true rfl) dX5_drop_2 5 rfl (fun u9 hu9 => ?_)
  show Z K 0 0 [wM K.g y all kept hist hl slo sav beg prt frm txt tl sp tol rd] [(0, .ref (y 0)), (1, .int v)] 5 [.int (bI (isJ v n))]
  refine z_ifb_ne C 10 dX5_drop_5 (by decide) 8 rfl (fun c_1 => ?_) (fun c_1 => ?_)
  · exfalso; rw [hb] at c_1; exact Bool.noConfusion c_1
  refine z_iconst C (v := (-1)) rfl dX5_drop_8 9 rfl ?_
  exact z_iret C hRx dX5_drop_9 () rfl trivial rfl

theorem iX5_drop_X5 : ∀ w ∈ u_ws RX5 TX5 14, w ∈ wsX5_drop := fun w h => (List.mem_cons_of_mem _ (List.mem_append_right _ h))
set_option maxHeartbeats 4000000 in
set_option maxRecDepth 100000 in
theorem tX5_drop_ok (l : Launch) (g : zG) (y all kept hist : Nat → Nat) (hl : Nat) (slo sav beg prt frm txt : Nat → Nat) (tl sp : Nat) (tol : Nat → Nat) (rd : Nat) (st : Nat → Nat) (r : Nat → Nat → Nat) (n : Nat) (j : Nat) (hn : n ≤ 12) (hB : Bd all st r n) (hl6 : hl ≤ 6) (hj : j < n) : Met l yX5_drop wsX5_drop ({ frames := 3, cells := 0, slots := 0, locals := 70 } : Room) (zPre g [.ref (y 0), .int (nI j)] [wM g y all kept hist hl slo sav beg prt frm txt tl sp tol rd]) (zQ g (fun u : (Nat → Nat) × (Nat → Nat) × (Nat) => match u with | (all2, hist2, hl2) => some (.int (nI (n - 1))) ) (fun u : (Nat → Nat) × (Nat → Nat) × (Nat) => match u with | (all2, hist2, hl2) => (Bd all2 st (fun k => shf (r k) j (n - 1)) (n - 1)) ∧ (HCh all hist hl hist2 hl2)) (fun u : (Nat → Nat) × (Nat → Nat) × (Nat) => match u with | (all2, hist2, hl2) => [wM g y all2 kept hist2 hl2 slo sav beg prt frm txt tl sp tol rd]) (zA [wM g y all kept hist hl slo sav beg prt frm txt tl sp tol rd])) 0 0 (zA [wM g y all kept hist hl slo sav beg prt frm txt tl sp tol rd]) := by
  refine z_entry (cc := cX5_drop) (maxL := 3) (ret := (some .int)) (own := RX5) (by decide) rfl rfl (Nat.le_of_ble_eq_true rfl) [(0, .ref (y 0)), (1, .int (nI j))] rfl ?_
  intro K hKl hKg hnL C hRx
  subst hKl
  subst hKg
  refine z_aload_n C 0 rfl rfl dX5_drop_0 1 rfl ?_
  refine z_iload_n C 1 rfl rfl dX5_drop_1 2 rfl ?_
  refine z_callV C [.int (nI j)] [] (tX5_isJob K.l K.g y all kept hist hl slo sav beg prt frm txt tl sp tol rd st r n (nI j) (by first | omega | assumption) (by first | omega | assumption)) gX5_drop_X5_isJob rfl rfl rfl hdX5_isJob ⟨Nat.le_of_ble_eq_true rfl, Nat.le_of_ble_eq_true rfl⟩ ⟨Nat.zero_le _, Nat.zero_le _⟩ 0 0 rfl rfl rfl [0] rfl rfl (zlc (N := 1) rfl rfl) [1] rfl (by decide) (fun _ : Unit => [wM K.g y all kept hist hl slo sav beg prt frm txt tl sp tol rd]) (fun _ => rfl) rfl rfl (Nat.le_of_ble_eq_true rfl) dX5_drop_2 5 rfl (fun u9 hu9 => ?_)
  show Z K 0 0 [wM K.g y all kept hist hl slo sav beg prt frm txt tl sp tol rd] [(0, .ref (y 0)), (1, .int (nI j))] 5 [.int (bI (isJ (nI j) n))]
  refine z_ifb_ne C 10 dX5_drop_5 (by decide) 8 rfl (fun c_1 => ?_) (fun c_1 => ?_)
  rotate_left
  · exfalso; rw [isJ_t (by omega) (by omega)] at c_1; exact Bool.noConfusion c_1
  refine z_aload_n C 0 rfl rfl dX5_drop_10 11 rfl ?_
  refine z_callV C [] [] (tX5_changes K.l K.g y all kept hist hl slo sav beg prt frm txt tl sp tol rd (by first | omega | assumption)) gX5_drop_X5_changes rfl rfl rfl hdX5_changes ⟨Nat.le_of_ble_eq_true rfl, Nat.le_of_ble_eq_true rfl⟩ ⟨Nat.zero_le _, Nat.zero_le _⟩ 0 0 rfl rfl rfl [0] rfl rfl (zlc (N := 1) rfl rfl) [1] rfl (by decide) (fun u : (Nat → Nat) × (Nat) => match u with | (hist2, hl2) => [wM K.g y all kept hist2 hl2 slo sav beg prt frm txt tl sp tol rd]) (fun _ => rfl) rfl rfl (Nat.le_of_ble_eq_true rfl) dX5_drop_11 14 rfl (fun u9 hu9 => ?_)
  obtain ⟨hist2, hl2⟩ := u9
  obtain ⟨hh1, hh2, hh3⟩ := hu9
  have hh1 : hl2 = min (hl + 1) 6 := hh1
  have hh2 : ∀ u, u < 56 → hist2 (56 * (hl2 - 1) + u) = all u := hh2
  have hh3 : ∀ e u, e + 1 < hl2 → u < 56 → hist2 (56 * e + u) = hist (56 * (e + (hl + 1 - hl2)) + u) := hh3
  show Z K 0 0 [wM K.g y all kept hist2 hl2 slo sav beg prt frm txt tl sp tol rd] [(0, .ref (y 0)), (1, .int (nI j))] 14 []
  have hC : HCh all hist hl hist2 hl2 := ⟨hh1, hh2, hh3⟩
  refine z_aload_n C 0 rfl rfl dX5_drop_14 15 rfl ?_
  refine z_iload_n C 1 rfl rfl dX5_drop_15 16 rfl ?_
  refine z_aload_n C 0 rfl rfl dX5_drop_16 17 rfl ?_
  refine z_get C zc5 iX5_drop_X5 0 0 rfl rfl 0 (Nat.le_of_ble_eq_true rfl) (List.mem_of_getElem? (i := 1) rfl) (v := .ref (y 1)) rfl dX5_drop_17 20 rfl ?_
  refine z_bipush C (v := nI 7) rfl dX5_drop_20 22 rfl ?_
  refine z_iald C (f := all) 0 1 rfl rfl (by omega) (by decide) dX5_drop_22 23 rfl ?_
  refine z_top (show nI (all 7) = nI n from by rw [hB.2.1]) ?_
  refine z_iconst C (v := nI 1) rfl dX5_drop_23 24 rfl ?_
  refine z_isub C (by omega) dX5_drop_24 25 rfl ?_
  refine z_callV C [.int (nI j), .int (nI (n - 1))] [] (tX5_moves K.l K.g y all kept hist2 hl2 slo sav beg prt frm txt tl sp tol rd st r n j (n - 1) (by first | omega | assumption) (by first | omega | assumption) (by first | omega | assumption) (by first | omega | assumption)) gX5_drop_X5_moves rfl rfl rfl hdX5_moves ⟨Nat.le_of_ble_eq_true rfl, Nat.le_of_ble_eq_true rfl⟩ ⟨Nat.zero_le _, Nat.zero_le _⟩ 0 0 rfl rfl rfl [0] rfl rfl (zlc (N := 1) rfl rfl) [1] rfl (by decide) (fun all2 : Nat → Nat => [wM K.g y all2 kept hist2 hl2 slo sav beg prt frm txt tl sp tol rd]) (fun _ => rfl) rfl rfl (Nat.le_of_ble_eq_true rfl) dX5_drop_25 28 rfl (fun u9 hu9 => ?_)
  obtain ⟨al2, rfl⟩ : ∃ z, z = u9 := ⟨_, rfl⟩
  have hB2 := hu9
  have hB2 : Bd al2 st (fun k => shf (r k) j (n - 1)) n := hB2
  show Z K 0 0 [wM K.g y al2 kept hist2 hl2 slo sav beg prt frm txt tl sp tol rd] [(0, .ref (y 0)), (1, .int (nI j))] 28 []
  refine z_aload_n C 0 rfl rfl dX5_drop_28 29 rfl ?_
  refine z_get C zc5 iX5_drop_X5 0 0 rfl rfl 0 (Nat.le_of_ble_eq_true rfl) (List.mem_of_getElem? (i := 1) rfl) (v := .ref (y 1)) rfl dX5_drop_29 32 rfl ?_
  refine z_bipush C (v := nI 7) rfl dX5_drop_32 34 rfl ?_
  refine z_dup2 C rfl rfl dX5_drop_34 35 rfl ?_
  refine z_iald C (f := al2) 0 1 rfl rfl (by omega) (by decide) dX5_drop_35 36 rfl ?_
  refine z_top (show nI (al2 7) = nI n from by rw [hB2.2.1]) ?_
  refine z_iconst C (v := nI 1) rfl dX5_drop_36 37 rfl ?_
  refine z_isub C (by omega) dX5_drop_37 38 rfl ?_
  refine z_iast C (f := al2) 0 1 rfl rfl (by omega) (by decide) (wM K.g y (un al2 7 (n - 1)) kept hist2 hl2 slo sav beg prt frm txt tl sp tol rd) rfl [wM K.g y (un al2 7 (n - 1)) kept hist2 hl2 slo sav beg prt frm txt tl sp tol rd] rfl dX5_drop_38 39 rfl ?_
  refine z_iconst C (v := nI 0) rfl dX5_drop_39 40 rfl ?_
  refine z_istore_n C hnL [1, 2, 0] [(0, .ref (y 0)), (1, .int (nI j)), (2, .int (nI 0))] rfl rfl (Nat.le_of_ble_eq_true rfl) dX5_drop_40 41 rfl ?_
  have loop41 : ∀ (mu : Nat) (k : Nat) (al3 : Nat → Nat), mu = 4 - k → k ≤ 4 → Bd al3 st (fun k => shf (r k) j (n - 1)) (n - 1) → Z K 0 0 [wM K.g y al3 kept hist2 hl2 slo sav beg prt frm txt tl sp tol rd] [(0, .ref (y 0)), (1, .int (nI j)), (2, .int (nI k))] 41 [] := by
    refine z_ind (fun mu ih41 => ?_)
    intro k al3 hmu41 hk hB3
    refine z_iload_n C 2 rfl rfl dX5_drop_41 42 rfl ?_
    refine z_iconst C (v := nI 4) rfl dX5_drop_42 43 rfl ?_
    refine z_icmp_ge C (by omega) (by omega) 72 dX5_drop_43 (by decide) 46 rfl (fun c_2 => ?_) (fun c_2 => ?_)
    · skip
      refine z_aload_n C 0 rfl rfl dX5_drop_72 73 rfl ?_
      refine z_get C zc5 iX5_drop_X5 0 0 rfl rfl 0 (Nat.le_of_ble_eq_true rfl) (List.mem_of_getElem? (i := 1) rfl) (v := .ref (y 1)) rfl dX5_drop_73 76 rfl ?_
      refine z_bipush C (v := nI 7) rfl dX5_drop_76 78 rfl ?_
      refine z_iald C (f := al3) 0 1 rfl rfl (by omega) (by decide) dX5_drop_78 79 rfl ?_
      refine z_top (show nI (al3 7) = nI (n - 1) from by rw [hB3.2.1]) ?_
      exact z_iret C hRx dX5_drop_79 (al3, hist2, hl2) rfl (⟨hB3, hC⟩) rfl
    · skip
      refine z_aload_n C 0 rfl rfl dX5_drop_46 47 rfl ?_
      refine z_get C zc5 iX5_drop_X5 0 0 rfl rfl 0 (Nat.le_of_ble_eq_true rfl) (List.mem_of_getElem? (i := 1) rfl) (v := .ref (y 1)) rfl dX5_drop_47 50 rfl ?_
      refine z_bipush C (v := nI 8) rfl dX5_drop_50 52 rfl ?_
      refine z_iconst C (v := nI 4) rfl dX5_drop_52 53 rfl ?_
      refine z_aload_n C 0 rfl rfl dX5_drop_53 54 rfl ?_
      refine z_get C zc5 iX5_drop_X5 0 0 rfl rfl 0 (Nat.le_of_ble_eq_true rfl) (List.mem_of_getElem? (i := 1) rfl) (v := .ref (y 1)) rfl dX5_drop_54 57 rfl ?_
      refine z_bipush C (v := nI 7) rfl dX5_drop_57 59 rfl ?_
      refine z_iald C (f := al3) 0 1 rfl rfl (by omega) (by decide) dX5_drop_59 60 rfl ?_
      refine z_top (show nI (al3 7) = nI (n - 1) from by rw [hB3.2.1]) ?_
      refine z_imul C dX5_drop_60 61 rfl ?_
      refine z_iadd C dX5_drop_61 62 rfl ?_
      refine z_iload_n C 2 rfl rfl dX5_drop_62 63 rfl ?_
      refine z_iadd C dX5_drop_63 64 rfl ?_
      refine z_iconst C (v := nI 0) rfl dX5_drop_64 65 rfl ?_
      refine z_iast C (f := al3) 0 1 rfl rfl (by omega) (by decide) (wM K.g y (un al3 ((8 + (4 * (n - 1))) + k) 0) kept hist2 hl2 slo sav beg prt frm txt tl sp tol rd) rfl [wM K.g y (un al3 ((8 + (4 * (n - 1))) + k) 0) kept hist2 hl2 slo sav beg prt frm txt tl sp tol rd] rfl dX5_drop_65 66 rfl ?_
      refine z_iinc C hnL 2 rfl (v := (nI (k + 1))) (nI_1 _) [1, 2, 0] [(0, .ref (y 0)), (1, .int (nI j)), (2, .int (nI (k + 1)))] rfl (Nat.le_of_ble_eq_true rfl) dX5_drop_66 69 rfl ?_
      refine z_goto C 41 dX5_drop_69 (by decide) ?_
      exact ih41 _ (by omega) (k + 1) (un al3 ((8 + (4 * (n - 1))) + k) 0) rfl (by omega) (Bd_hi hB3 (by omega))
  exact loop41 _ 0 (un al2 7 (n - 1)) rfl (by omega) (Bd_n hB2 (by omega))

set_option maxHeartbeats 4000000 in
set_option maxRecDepth 100000 in
theorem tX5_move_ns (l : Launch) (g : zG) (y all kept hist : Nat → Nat) (hl : Nat) (slo sav beg prt frm txt : Nat → Nat) (tl sp : Nat) (tol : Nat → Nat) (rd : Nat) (st : Nat → Nat) (r : Nat → Nat → Nat) (n : Nat) (v w : Int32) (hn : n ≤ 12) (hB : Bd all st r n) (hb : (isJ v n && isJ w n) = false) : Met l yX5_move wsX5_move ({ frames := 5, cells := 0, slots := 0, locals := 111 } : Room) (zPre g [.ref (y 0), .int v, .int w] [wM g y all kept hist hl slo sav beg prt frm txt tl sp tol rd]) (zQ g (fun _ : Unit => some (.int (-1)) ) (fun _ : Unit => True) (fun _ : Unit => [wM g y all kept hist hl slo sav beg prt frm txt tl sp tol rd]) (zA [wM g y all kept hist hl slo sav beg prt frm txt tl sp tol rd])) 0 0 (zA [wM g y all kept hist hl slo sav beg prt frm txt tl sp tol rd]) := by
  refine z_entry (cc := cX5_move) (maxL := 3) (ret := (some .int)) (own := RX5) (by decide) rfl rfl (Nat.le_of_ble_eq_true rfl) [(0, .ref (y 0)), (1, .int v), (2, .int w)] rfl ?_
  intro K hKl hKg hnL C hRx
  subst hKl
  subst hKg
  refine z_aload_n C 0 rfl rfl dX5_move_0 1 rfl ?_
  refine z_iload_n C 1 rfl rfl dX5_move_1 2 rfl ?_
  refine z_callV C [.int v] [] (tX5_isJob K.l K.g y all kept hist hl slo sav beg prt frm txt tl sp tol rd st r n v (by first | omega | assumption) (by first | omega | assumption)) gX5_move_X5_isJob rfl rfl rfl hdX5_isJob ⟨Nat.le_of_ble_eq_true rfl, Nat.le_of_ble_eq_true rfl⟩ ⟨Nat.zero_le _, Nat.zero_le _⟩ 0 0 rfl rfl rfl [0] rfl rfl (zlc (N := 1) rfl rfl) [1] rfl (by decide) (fun _ : Unit => [wM K.g y all kept hist hl slo sav beg prt frm txt tl sp tol rd]) (fun _ => rfl) rfl rfl (Nat.le_of_ble_eq_true rfl) dX5_move_2 5 rfl (fun u9 hu9 => ?_)
  show Z K 0 0 [wM K.g y all kept hist hl slo sav beg prt frm txt tl sp tol rd] [(0, .ref (y 0)), (1, .int v), (2, .int w)] 5 [.int (bI (isJ v n))]
  refine z_ifb_eq C 16 dX5_move_5 (by decide) 8 rfl (fun c_1 => ?_) (fun c_1 => ?_)
  · skip
    refine z_iconst C (v := (-1)) rfl dX5_move_16 17 rfl ?_
    exact z_iret C hRx dX5_move_17 () rfl trivial rfl
  · skip
    refine z_aload_n C 0 rfl rfl dX5_move_8 9 rfl ?_
    refine z_iload_n C 2 rfl rfl dX5_move_9 10 rfl ?_
    refine z_callV C [.int w] [] (tX5_isJob K.l K.g y all kept hist hl slo sav beg prt frm txt tl sp tol rd st r n w (by first | omega | assumption) (by first | omega | assumption)) gX5_move_X5_isJob rfl rfl rfl hdX5_isJob ⟨Nat.le_of_ble_eq_true rfl, Nat.le_of_ble_eq_true rfl⟩ ⟨Nat.zero_le _, Nat.zero_le _⟩ 0 0 rfl rfl rfl [0] rfl rfl (zlc (N := 1) rfl rfl) [1] rfl (by decide) (fun _ : Unit => [wM K.g y all kept hist hl slo sav beg prt frm txt tl sp tol rd]) (fun _ => rfl) rfl rfl (Nat.le_of_ble_eq_true rfl) dX5_move_10 13 rfl (fun u9 hu9 => ?_)
    show Z K 0 0 [wM K.g y all kept hist hl slo sav beg prt frm txt tl sp tol rd] [(0, .ref (y 0)), (1, .int v), (2, .int w)] 13 [.int (bI (isJ w n))]
    refine z_ifb_ne C 18 dX5_move_13 (by decide) 16 rfl (fun c_2 => ?_) (fun c_2 => ?_)
    · exfalso; simp_all
    refine z_iconst C (v := (-1)) rfl dX5_move_16 17 rfl ?_
    exact z_iret C hRx dX5_move_17 () rfl trivial rfl

set_option maxHeartbeats 4000000 in
set_option maxRecDepth 100000 in
theorem tX5_move_ok (l : Launch) (g : zG) (y all kept hist : Nat → Nat) (hl : Nat) (slo sav beg prt frm txt : Nat → Nat) (tl sp : Nat) (tol : Nat → Nat) (rd : Nat) (st : Nat → Nat) (r : Nat → Nat → Nat) (n : Nat) (j w : Nat) (hn : n ≤ 12) (hB : Bd all st r n) (hS : okS st) (hJ : okJ r n) (hR : okR st r n (st 5)) (hl6 : hl ≤ 6) (hj : j < n) (hw : w < n) : Met l yX5_move wsX5_move ({ frames := 5, cells := 0, slots := 0, locals := 111 } : Room) (zPre g [.ref (y 0), .int (nI j), .int (nI w)] [wM g y all kept hist hl slo sav beg prt frm txt tl sp tol rd]) (zQ g (fun u : (Nat → Nat) × (Nat → Nat) × (Nat) × (Nat → Nat) × (Nat → Nat) => match u with | (all2, hist2, hl2, beg2, prt2) => some (.int (nI (LSm st (fun k => shf (r k) j w) (st 5) n))) ) (fun u : (Nat → Nat) × (Nat → Nat) × (Nat) × (Nat → Nat) × (Nat → Nat) => match u with | (all2, hist2, hl2, beg2, prt2) => (Bd all2 st (fun k => shf (r k) j w) n) ∧ (HCh all hist hl hist2 hl2)) (fun u : (Nat → Nat) × (Nat → Nat) × (Nat) × (Nat → Nat) × (Nat → Nat) => match u with | (all2, hist2, hl2, beg2, prt2) => [wM g y all2 kept hist2 hl2 slo sav beg2 prt2 frm txt tl sp tol rd]) (zA [wM g y all kept hist hl slo sav beg prt frm txt tl sp tol rd])) 0 0 (zA [wM g y all kept hist hl slo sav beg prt frm txt tl sp tol rd]) := by
  refine z_entry (cc := cX5_move) (maxL := 3) (ret := (some .int)) (own := RX5) (by decide) rfl rfl (Nat.le_of_ble_eq_true rfl) [(0, .ref (y 0)), (1, .int (nI j)), (2, .int (nI w))] rfl ?_
  intro K hKl hKg hnL C hRx
  subst hKl
  subst hKg
  refine z_aload_n C 0 rfl rfl dX5_move_0 1 rfl ?_
  refine z_iload_n C 1 rfl rfl dX5_move_1 2 rfl ?_
  refine z_callV C [.int (nI j)] [] (tX5_isJob K.l K.g y all kept hist hl slo sav beg prt frm txt tl sp tol rd st r n (nI j) (by first | omega | assumption) (by first | omega | assumption)) gX5_move_X5_isJob rfl rfl rfl hdX5_isJob ⟨Nat.le_of_ble_eq_true rfl, Nat.le_of_ble_eq_true rfl⟩ ⟨Nat.zero_le _, Nat.zero_le _⟩ 0 0 rfl rfl rfl [0] rfl rfl (zlc (N := 1) rfl rfl) [1] rfl (by decide) (fun _ : Unit => [wM K.g y all kept hist hl slo sav beg prt frm txt tl sp tol rd]) (fun _ => rfl) rfl rfl (Nat.le_of_ble_eq_true rfl) dX5_move_2 5 rfl (fun u9 hu9 => ?_)
  show Z K 0 0 [wM K.g y all kept hist hl slo sav beg prt frm txt tl sp tol rd] [(0, .ref (y 0)), (1, .int (nI j)), (2, .int (nI w))] 5 [.int (bI (isJ (nI j) n))]
  refine z_ifb_eq C 16 dX5_move_5 (by decide) 8 rfl (fun c_1 => ?_) (fun c_1 => ?_)
  · exfalso; rw [isJ_t (by omega) (by omega)] at c_1; exact Bool.noConfusion c_1
  refine z_aload_n C 0 rfl rfl dX5_move_8 9 rfl ?_
  refine z_iload_n C 2 rfl rfl dX5_move_9 10 rfl ?_
  refine z_callV C [.int (nI w)] [] (tX5_isJob K.l K.g y all kept hist hl slo sav beg prt frm txt tl sp tol rd st r n (nI w) (by first | omega | assumption) (by first | omega | assumption)) gX5_move_X5_isJob rfl rfl rfl hdX5_isJob ⟨Nat.le_of_ble_eq_true rfl, Nat.le_of_ble_eq_true rfl⟩ ⟨Nat.zero_le _, Nat.zero_le _⟩ 0 0 rfl rfl rfl [0] rfl rfl (zlc (N := 1) rfl rfl) [1] rfl (by decide) (fun _ : Unit => [wM K.g y all kept hist hl slo sav beg prt frm txt tl sp tol rd]) (fun _ => rfl) rfl rfl (Nat.le_of_ble_eq_true rfl) dX5_move_10 13 rfl (fun u9 hu9 => ?_)
  show Z K 0 0 [wM K.g y all kept hist hl slo sav beg prt frm txt tl sp tol rd] [(0, .ref (y 0)), (1, .int (nI j)), (2, .int (nI w))] 13 [.int (bI (isJ (nI w) n))]
  refine z_ifb_ne C 18 dX5_move_13 (by decide) 16 rfl (fun c_2 => ?_) (fun c_2 => ?_)
  rotate_left
  · exfalso; rw [isJ_t (by omega) (by omega)] at c_2; exact Bool.noConfusion c_2
  refine z_aload_n C 0 rfl rfl dX5_move_18 19 rfl ?_
  refine z_callV C [] [] (tX5_changes K.l K.g y all kept hist hl slo sav beg prt frm txt tl sp tol rd (by first | omega | assumption)) gX5_move_X5_changes rfl rfl rfl hdX5_changes ⟨Nat.le_of_ble_eq_true rfl, Nat.le_of_ble_eq_true rfl⟩ ⟨Nat.zero_le _, Nat.zero_le _⟩ 0 0 rfl rfl rfl [0] rfl rfl (zlc (N := 1) rfl rfl) [1] rfl (by decide) (fun u : (Nat → Nat) × (Nat) => match u with | (hist2, hl2) => [wM K.g y all kept hist2 hl2 slo sav beg prt frm txt tl sp tol rd]) (fun _ => rfl) rfl rfl (Nat.le_of_ble_eq_true rfl) dX5_move_19 22 rfl (fun u9 hu9 => ?_)
  obtain ⟨hist2, hl2⟩ := u9
  obtain ⟨hh1, hh2, hh3⟩ := hu9
  have hh1 : hl2 = min (hl + 1) 6 := hh1
  have hh2 : ∀ u, u < 56 → hist2 (56 * (hl2 - 1) + u) = all u := hh2
  have hh3 : ∀ e u, e + 1 < hl2 → u < 56 → hist2 (56 * e + u) = hist (56 * (e + (hl + 1 - hl2)) + u) := hh3
  show Z K 0 0 [wM K.g y all kept hist2 hl2 slo sav beg prt frm txt tl sp tol rd] [(0, .ref (y 0)), (1, .int (nI j)), (2, .int (nI w))] 22 []
  have hC : HCh all hist hl hist2 hl2 := ⟨hh1, hh2, hh3⟩
  refine z_aload_n C 0 rfl rfl dX5_move_22 23 rfl ?_
  refine z_iload_n C 1 rfl rfl dX5_move_23 24 rfl ?_
  refine z_iload_n C 2 rfl rfl dX5_move_24 25 rfl ?_
  refine z_callV C [.int (nI j), .int (nI w)] [] (tX5_moves K.l K.g y all kept hist2 hl2 slo sav beg prt frm txt tl sp tol rd st r n j w (by first | omega | assumption) (by first | omega | assumption) (by first | omega | assumption) (by first | omega | assumption)) gX5_move_X5_moves rfl rfl rfl hdX5_moves ⟨Nat.le_of_ble_eq_true rfl, Nat.le_of_ble_eq_true rfl⟩ ⟨Nat.zero_le _, Nat.zero_le _⟩ 0 0 rfl rfl rfl [0] rfl rfl (zlc (N := 1) rfl rfl) [1] rfl (by decide) (fun all2 : Nat → Nat => [wM K.g y all2 kept hist2 hl2 slo sav beg prt frm txt tl sp tol rd]) (fun _ => rfl) rfl rfl (Nat.le_of_ble_eq_true rfl) dX5_move_25 28 rfl (fun u9 hu9 => ?_)
  obtain ⟨al2, rfl⟩ : ∃ z, z = u9 := ⟨_, rfl⟩
  have hB2 := hu9
  have hB2 : Bd al2 st (fun k => shf (r k) j w) n := hB2
  show Z K 0 0 [wM K.g y al2 kept hist2 hl2 slo sav beg prt frm txt tl sp tol rd] [(0, .ref (y 0)), (1, .int (nI j)), (2, .int (nI w))] 28 []
  refine z_aload_n C 0 rfl rfl dX5_move_28 29 rfl ?_
  refine z_callV C [] [] (tX5_lateAll K.l K.g y al2 kept hist2 hl2 slo sav beg prt frm txt tl sp tol rd st (fun k => shf (r k) j w) n hn hB2 hS (okJ_shf hj hw hJ) (okR_shf hj hw hR)) gX5_move_X5_lateAll rfl rfl rfl hdX5_lateAll ⟨Nat.le_of_ble_eq_true rfl, Nat.le_of_ble_eq_true rfl⟩ ⟨Nat.zero_le _, Nat.zero_le _⟩ 0 0 rfl rfl rfl [0] rfl rfl (zlc (N := 1) rfl rfl) [1] rfl (by decide) (fun u : (Nat → Nat) × (Nat → Nat) => match u with | (beg2, prt2) => [wM K.g y al2 kept hist2 hl2 slo sav beg2 prt2 frm txt tl sp tol rd]) (fun _ => rfl) rfl rfl (Nat.le_of_ble_eq_true rfl) dX5_move_29 32 rfl (fun u9 hu9 => ?_)
  obtain ⟨beg2, prt2⟩ := u9
  have hls_3 := hu9
  have hls_3 : LSm st (fun k => shf (r k) j w) (st 5) n ≤ 1000000 := hls_3
  show Z K 0 0 [wM K.g y al2 kept hist2 hl2 slo sav beg2 prt2 frm txt tl sp tol rd] [(0, .ref (y 0)), (1, .int (nI j)), (2, .int (nI w))] 32 [.int (nI (LSm st (fun k => shf (r k) j w) (st 5) n))]
  exact z_iret C hRx dX5_move_32 (al2, hist2, hl2, beg2, prt2) rfl (⟨hB2, hC⟩) rfl

set_option maxHeartbeats 4000000 in
set_option maxRecDepth 100000 in
theorem tX5_due_ns (l : Launch) (g : zG) (y all kept hist : Nat → Nat) (hl : Nat) (slo sav beg prt frm txt : Nat → Nat) (tl sp : Nat) (tol : Nat → Nat) (rd : Nat) (st : Nat → Nat) (r : Nat → Nat → Nat) (n : Nat) (v w : Int32) (hn : n ≤ 12) (hB : Bd all st r n) (hb : isJ v n = false) : Met l yX5_due wsX5_due ({ frames := 4, cells := 0, slots := 0, locals := 91 } : Room) (zPre g [.ref (y 0), .int v, .int w] [wM g y all kept hist hl slo sav beg prt frm txt tl sp tol rd]) (zQ g (fun _ : Unit => some (.int (-1)) ) (fun _ : Unit => True) (fun _ : Unit => [wM g y all kept hist hl slo sav beg prt frm txt tl sp tol rd]) (zA [wM g y all kept hist hl slo sav beg prt frm txt tl sp tol rd])) 0 0 (zA [wM g y all kept hist hl slo sav beg prt frm txt tl sp tol rd]) := by
  refine z_entry (cc := cX5_due) (maxL := 3) (ret := (some .int)) (own := RX5) (by decide) rfl rfl (Nat.le_of_ble_eq_true rfl) [(0, .ref (y 0)), (1, .int v), (2, .int w)] rfl ?_
  intro K hKl hKg hnL C hRx
  subst hKl
  subst hKg
  refine z_aload_n C 0 rfl rfl dX5_due_0 1 rfl ?_
  refine z_iload_n C 1 rfl rfl dX5_due_1 2 rfl ?_
  refine z_callV C [.int v] [] (tX5_isJob K.l K.g y all kept hist hl slo sav beg prt frm txt tl sp tol rd st r n v (by first | omega | assumption) (by first | omega | assumption)) gX5_due_X5_isJob rfl rfl rfl hdX5_isJob ⟨Nat.le_of_ble_eq_true rfl, Nat.le_of_ble_eq_true rfl⟩ ⟨Nat.zero_le _, Nat.zero_le _⟩ 0 0 rfl rfl rfl [0] rfl rfl (zlc (N := 1) rfl rfl) [1] rfl (by decide) (fun _ : Unit => [wM K.g y all kept hist hl slo sav beg prt frm txt tl sp tol rd]) (fun _ => rfl) rfl rfl (Nat.le_of_ble_eq_true rfl) dX5_due_2 5 rfl (fun u9 hu9 => ?_)
  show Z K 0 0 [wM K.g y all kept hist hl slo sav beg prt frm txt tl sp tol rd] [(0, .ref (y 0)), (1, .int v), (2, .int w)] 5 [.int (bI (isJ v n))]
  refine z_ifb_ne C 10 dX5_due_5 (by decide) 8 rfl (fun c_1 => ?_) (fun c_1 => ?_)
  · exfalso; rw [hb] at c_1; exact Bool.noConfusion c_1
  refine z_iconst C (v := (-1)) rfl dX5_due_8 9 rfl ?_
  exact z_iret C hRx dX5_due_9 () rfl trivial rfl

set_option maxHeartbeats 4000000 in
set_option maxRecDepth 100000 in
theorem tX5_due_bv (l : Launch) (g : zG) (y all kept hist : Nat → Nat) (hl : Nat) (slo sav beg prt frm txt : Nat → Nat) (tl sp : Nat) (tol : Nat → Nat) (rd : Nat) (st : Nat → Nat) (r : Nat → Nat → Nat) (n : Nat) (j : Nat) (w : Int32) (hn : n ≤ 12) (hB : Bd all st r n) (hj : j < n) (hb : rg w.toInt (Int.ofNat 0) (Int.ofNat 3000) = false) : Met l yX5_due wsX5_due ({ frames := 4, cells := 0, slots := 0, locals := 91 } : Room) (zPre g [.ref (y 0), .int (nI j), .int w] [wM g y all kept hist hl slo sav beg prt frm txt tl sp tol rd]) (zQ g (fun _ : Unit => some (.int (-2)) ) (fun _ : Unit => True) (fun _ : Unit => [wM g y all kept hist hl slo sav beg prt frm txt tl sp tol rd]) (zA [wM g y all kept hist hl slo sav beg prt frm txt tl sp tol rd])) 0 0 (zA [wM g y all kept hist hl slo sav beg prt frm txt tl sp tol rd]) := by
  refine z_entry (cc := cX5_due) (maxL := 3) (ret := (some .int)) (own := RX5) (by decide) rfl rfl (Nat.le_of_ble_eq_true rfl) [(0, .ref (y 0)), (1, .int (nI j)), (2, .int w)] rfl ?_
  intro K hKl hKg hnL C hRx
  subst hKl
  subst hKg
  refine z_aload_n C 0 rfl rfl dX5_due_0 1 rfl ?_
  refine z_iload_n C 1 rfl rfl dX5_due_1 2 rfl ?_
  refine z_callV C [.int (nI j)] [] (tX5_isJob K.l K.g y all kept hist hl slo sav beg prt frm txt tl sp tol rd st r n (nI j) (by first | omega | assumption) (by first | omega | assumption)) gX5_due_X5_isJob rfl rfl rfl hdX5_isJob ⟨Nat.le_of_ble_eq_true rfl, Nat.le_of_ble_eq_true rfl⟩ ⟨Nat.zero_le _, Nat.zero_le _⟩ 0 0 rfl rfl rfl [0] rfl rfl (zlc (N := 1) rfl rfl) [1] rfl (by decide) (fun _ : Unit => [wM K.g y all kept hist hl slo sav beg prt frm txt tl sp tol rd]) (fun _ => rfl) rfl rfl (Nat.le_of_ble_eq_true rfl) dX5_due_2 5 rfl (fun u9 hu9 => ?_)
  show Z K 0 0 [wM K.g y all kept hist hl slo sav beg prt frm txt tl sp tol rd] [(0, .ref (y 0)), (1, .int (nI j)), (2, .int w)] 5 [.int (bI (isJ (nI j) n))]
  refine z_ifb_ne C 10 dX5_due_5 (by decide) 8 rfl (fun c_1 => ?_) (fun c_1 => ?_)
  rotate_left
  · exfalso; rw [isJ_t (by omega) (by omega)] at c_1; exact Bool.noConfusion c_1
  refine z_iload_n C 2 rfl rfl dX5_due_10 11 rfl ?_
  refine z_i2l C dX5_due_11 12 rfl ?_
  refine z_lconst C (v := lN 0) rfl dX5_due_12 13 rfl ?_
  refine z_ldc2 C (v := lN 3000) (List.mem_of_getElem? (i := 1) rfl) dX5_due_13 16 rfl ?_
  refine z_callP C [.long ((w).toInt64), .long (lN 0), .long (lN 3000)] [] (tX5_inI K.l K.g w 0 3000 (by first | omega | assumption) (by first | omega | assumption)) gX5_due_X5_in rfl rfl rfl hdX5_in ⟨Nat.le_of_ble_eq_true rfl, Nat.le_of_ble_eq_true rfl⟩ ⟨Nat.zero_le _, Nat.zero_le _⟩ rfl rfl (Nat.le_of_ble_eq_true rfl) dX5_due_16 19 rfl (fun u9 hu9 => ?_)
  show Z K 0 0 [wM K.g y all kept hist hl slo sav beg prt frm txt tl sp tol rd] [(0, .ref (y 0)), (1, .int (nI j)), (2, .int w)] 19 [.int (bI (rg w.toInt (Int.ofNat 0) (Int.ofNat 3000)))]
  refine z_ifb_ne C 25 dX5_due_19 (by decide) 22 rfl (fun c_2 => ?_) (fun c_2 => ?_)
  · exfalso; rw [hb] at c_2; exact Bool.noConfusion c_2
  refine z_bipush C (v := (-2)) rfl dX5_due_22 24 rfl ?_
  exact z_iret C hRx dX5_due_24 () rfl trivial rfl

theorem iX5_due_X5 : ∀ w ∈ u_ws RX5 TX5 14, w ∈ wsX5_due := fun w h => (List.mem_cons_of_mem _ (List.mem_append_right _ h))
set_option maxHeartbeats 4000000 in
set_option maxRecDepth 100000 in
theorem tX5_due_ok (l : Launch) (g : zG) (y all kept hist : Nat → Nat) (hl : Nat) (slo sav beg prt frm txt : Nat → Nat) (tl sp : Nat) (tol : Nat → Nat) (rd : Nat) (st : Nat → Nat) (r : Nat → Nat → Nat) (n : Nat) (j w : Nat) (hn : n ≤ 12) (hB : Bd all st r n) (hS : okS st) (hJ : okJ r n) (hR : okR st r n (st 5)) (hl6 : hl ≤ 6) (hj : j < n) (hw : w ≤ 3000) : Met l yX5_due wsX5_due ({ frames := 4, cells := 0, slots := 0, locals := 91 } : Room) (zPre g [.ref (y 0), .int (nI j), .int (nI w)] [wM g y all kept hist hl slo sav beg prt frm txt tl sp tol rd]) (zQ g (fun u : (Nat → Nat) × (Nat → Nat) × (Nat) × (Nat → Nat) × (Nat → Nat) => match u with | (all2, hist2, hl2, beg2, prt2) => some (.int (nI (PL st (un r 3 (un (r 3) j w)) (st 5) n j))) ) (fun u : (Nat → Nat) × (Nat → Nat) × (Nat) × (Nat → Nat) × (Nat → Nat) => match u with | (all2, hist2, hl2, beg2, prt2) => (Bd all2 st (un r 3 (un (r 3) j w)) n) ∧ (HCh all hist hl hist2 hl2)) (fun u : (Nat → Nat) × (Nat → Nat) × (Nat) × (Nat → Nat) × (Nat → Nat) => match u with | (all2, hist2, hl2, beg2, prt2) => [wM g y all2 kept hist2 hl2 slo sav beg2 prt2 frm txt tl sp tol rd]) (zA [wM g y all kept hist hl slo sav beg prt frm txt tl sp tol rd])) 0 0 (zA [wM g y all kept hist hl slo sav beg prt frm txt tl sp tol rd]) := by
  refine z_entry (cc := cX5_due) (maxL := 3) (ret := (some .int)) (own := RX5) (by decide) rfl rfl (Nat.le_of_ble_eq_true rfl) [(0, .ref (y 0)), (1, .int (nI j)), (2, .int (nI w))] rfl ?_
  intro K hKl hKg hnL C hRx
  subst hKl
  subst hKg
  have hB3 := Bd_due (w := w) hB hj
  have hJ3 := okJ_due (j := j) hJ hw
  refine z_aload_n C 0 rfl rfl dX5_due_0 1 rfl ?_
  refine z_iload_n C 1 rfl rfl dX5_due_1 2 rfl ?_
  refine z_callV C [.int (nI j)] [] (tX5_isJob K.l K.g y all kept hist hl slo sav beg prt frm txt tl sp tol rd st r n (nI j) (by first | omega | assumption) (by first | omega | assumption)) gX5_due_X5_isJob rfl rfl rfl hdX5_isJob ⟨Nat.le_of_ble_eq_true rfl, Nat.le_of_ble_eq_true rfl⟩ ⟨Nat.zero_le _, Nat.zero_le _⟩ 0 0 rfl rfl rfl [0] rfl rfl (zlc (N := 1) rfl rfl) [1] rfl (by decide) (fun _ : Unit => [wM K.g y all kept hist hl slo sav beg prt frm txt tl sp tol rd]) (fun _ => rfl) rfl rfl (Nat.le_of_ble_eq_true rfl) dX5_due_2 5 rfl (fun u9 hu9 => ?_)
  show Z K 0 0 [wM K.g y all kept hist hl slo sav beg prt frm txt tl sp tol rd] [(0, .ref (y 0)), (1, .int (nI j)), (2, .int (nI w))] 5 [.int (bI (isJ (nI j) n))]
  refine z_ifb_ne C 10 dX5_due_5 (by decide) 8 rfl (fun c_1 => ?_) (fun c_1 => ?_)
  rotate_left
  · exfalso; rw [isJ_t (by omega) (by omega)] at c_1; exact Bool.noConfusion c_1
  refine z_iload_n C 2 rfl rfl dX5_due_10 11 rfl ?_
  refine z_i2l C dX5_due_11 12 rfl ?_
  refine z_lconst C (v := lN 0) rfl dX5_due_12 13 rfl ?_
  refine z_ldc2 C (v := lN 3000) (List.mem_of_getElem? (i := 1) rfl) dX5_due_13 16 rfl ?_
  refine z_callP C [.long ((nI w).toInt64), .long (lN 0), .long (lN 3000)] [] (tX5_inI K.l K.g (nI w) 0 3000 (by first | omega | assumption) (by first | omega | assumption)) gX5_due_X5_in rfl rfl rfl hdX5_in ⟨Nat.le_of_ble_eq_true rfl, Nat.le_of_ble_eq_true rfl⟩ ⟨Nat.zero_le _, Nat.zero_le _⟩ rfl rfl (Nat.le_of_ble_eq_true rfl) dX5_due_16 19 rfl (fun u9 hu9 => ?_)
  show Z K 0 0 [wM K.g y all kept hist hl slo sav beg prt frm txt tl sp tol rd] [(0, .ref (y 0)), (1, .int (nI j)), (2, .int (nI w))] 19 [.int (bI (rg (nI w).toInt (Int.ofNat 0) (Int.ofNat 3000)))]
  refine z_ifb_ne C 25 dX5_due_19 (by decide) 22 rfl (fun c_2 => ?_) (fun c_2 => ?_)
  rotate_left
  · exfalso; rw [rgN_t (by omega) (by omega) (by omega)] at c_2; exact Bool.noConfusion c_2
  refine z_aload_n C 0 rfl rfl dX5_due_25 26 rfl ?_
  refine z_callV C [] [] (tX5_changes K.l K.g y all kept hist hl slo sav beg prt frm txt tl sp tol rd (by first | omega | assumption)) gX5_due_X5_changes rfl rfl rfl hdX5_changes ⟨Nat.le_of_ble_eq_true rfl, Nat.le_of_ble_eq_true rfl⟩ ⟨Nat.zero_le _, Nat.zero_le _⟩ 0 0 rfl rfl rfl [0] rfl rfl (zlc (N := 1) rfl rfl) [1] rfl (by decide) (fun u : (Nat → Nat) × (Nat) => match u with | (hist2, hl2) => [wM K.g y all kept hist2 hl2 slo sav beg prt frm txt tl sp tol rd]) (fun _ => rfl) rfl rfl (Nat.le_of_ble_eq_true rfl) dX5_due_26 29 rfl (fun u9 hu9 => ?_)
  obtain ⟨hist2, hl2⟩ := u9
  obtain ⟨hh1, hh2, hh3⟩ := hu9
  have hh1 : hl2 = min (hl + 1) 6 := hh1
  have hh2 : ∀ u, u < 56 → hist2 (56 * (hl2 - 1) + u) = all u := hh2
  have hh3 : ∀ e u, e + 1 < hl2 → u < 56 → hist2 (56 * e + u) = hist (56 * (e + (hl + 1 - hl2)) + u) := hh3
  show Z K 0 0 [wM K.g y all kept hist2 hl2 slo sav beg prt frm txt tl sp tol rd] [(0, .ref (y 0)), (1, .int (nI j)), (2, .int (nI w))] 29 []
  have hC : HCh all hist hl hist2 hl2 := ⟨hh1, hh2, hh3⟩
  refine z_aload_n C 0 rfl rfl dX5_due_29 30 rfl ?_
  refine z_get C zc5 iX5_due_X5 0 0 rfl rfl 0 (Nat.le_of_ble_eq_true rfl) (List.mem_of_getElem? (i := 2) rfl) (v := .ref (y 1)) rfl dX5_due_30 33 rfl ?_
  refine z_bipush C (v := nI 8) rfl dX5_due_33 35 rfl ?_
  refine z_iconst C (v := nI 4) rfl dX5_due_35 36 rfl ?_
  refine z_iload_n C 1 rfl rfl dX5_due_36 37 rfl ?_
  refine z_imul C dX5_due_37 38 rfl ?_
  refine z_iadd C dX5_due_38 39 rfl ?_
  refine z_iconst C (v := nI 3) rfl dX5_due_39 40 rfl ?_
  refine z_iadd C dX5_due_40 41 rfl ?_
  refine z_iload_n C 2 rfl rfl dX5_due_41 42 rfl ?_
  refine z_iast C (f := all) 0 1 rfl rfl (by omega) (by decide) (wM K.g y (un all ((8 + (4 * j)) + 3) w) kept hist2 hl2 slo sav beg prt frm txt tl sp tol rd) rfl [wM K.g y (un all ((8 + (4 * j)) + 3) w) kept hist2 hl2 slo sav beg prt frm txt tl sp tol rd] rfl dX5_due_42 43 rfl ?_
  refine z_aload_n C 0 rfl rfl dX5_due_43 44 rfl ?_
  refine z_callV C [] [] (tX5_prints K.l K.g y (un all ((8 + (4 * j)) + 3) w) kept hist2 hl2 slo sav beg prt frm txt tl sp tol rd st (un r 3 (un (r 3) j w)) n hn hB3 hS hJ3 (fun i hi => hR i hi)) gX5_due_X5_prints rfl rfl rfl hdX5_prints ⟨Nat.le_of_ble_eq_true rfl, Nat.le_of_ble_eq_true rfl⟩ ⟨Nat.zero_le _, Nat.zero_le _⟩ 0 0 rfl rfl rfl [0] rfl rfl (zlc (N := 1) rfl rfl) [1] rfl (by decide) (fun u : (Nat → Nat) × (Nat → Nat) => match u with | (beg2, prt2) => [wM K.g y (un all ((8 + (4 * j)) + 3) w) kept hist2 hl2 slo sav beg2 prt2 frm txt tl sp tol rd]) (fun _ => rfl) rfl rfl (Nat.le_of_ble_eq_true rfl) dX5_due_44 47 rfl (fun u9 hu9 => ?_)
  obtain ⟨beg2, prt2⟩ := u9
  obtain ⟨hP, hE, hp⟩ := hu9
  have hP : isP st (un r 3 (un (r 3) j w)) (st 5) prt2 n := hP
  have hE : ∀ i, i < n → beg2 i + (rdy st (un r 3 (un (r 3) j w)) i + (un r 3 (un (r 3) j w)) 2 i * st 3) = prt2 i := hE
  have hp : ∀ i, i < n → prt2 i ≤ 14400 := hp
  show Z K 0 0 [wM K.g y (un all ((8 + (4 * j)) + 3) w) kept hist2 hl2 slo sav beg2 prt2 frm txt tl sp tol rd] [(0, .ref (y 0)), (1, .int (nI j)), (2, .int (nI w))] 47 []
  have hp30 : ∀ i, i < n → prt2 i ≤ 30000 := fun i hi => Nat.le_trans (hp i hi) (by decide)
  refine z_aload_n C 0 rfl rfl dX5_due_47 48 rfl ?_
  refine z_iload_n C 1 rfl rfl dX5_due_48 49 rfl ?_
  refine z_callV C [.int (nI j)] [] (tX5_late K.l K.g y (un all ((8 + (4 * j)) + 3) w) kept hist2 hl2 slo sav beg2 prt2 frm txt tl sp tol rd st (un r 3 (un (r 3) j w)) n j hn hB3 hS hJ3 hj hp30) gX5_due_X5_late rfl rfl rfl hdX5_late ⟨Nat.le_of_ble_eq_true rfl, Nat.le_of_ble_eq_true rfl⟩ ⟨Nat.zero_le _, Nat.zero_le _⟩ 0 0 rfl rfl rfl [0] rfl rfl (zlc (N := 1) rfl rfl) [1] rfl (by decide) (fun _ : Unit => [wM K.g y (un all ((8 + (4 * j)) + 3) w) kept hist2 hl2 slo sav beg2 prt2 frm txt tl sp tol rd]) (fun _ => rfl) rfl rfl (Nat.le_of_ble_eq_true rfl) dX5_due_49 52 rfl (fun u9 hu9 => ?_)
  show Z K 0 0 [wM K.g y (un all ((8 + (4 * j)) + 3) w) kept hist2 hl2 slo sav beg2 prt2 frm txt tl sp tol rd] [(0, .ref (y 0)), (1, .int (nI j)), (2, .int (nI w))] 52 [.int (nI (prt2 j + st 4 - (un r 3 (un (r 3) j w)) 3 j))]
  exact z_iret C hRx dX5_due_52 ((un all ((8 + (4 * j)) + 3) w), hist2, hl2, beg2, prt2) (congrArg (fun z => some (Value.int (nI z))) (PL_e hP hj).symm) (⟨hB3, hC⟩) rfl

set_option maxHeartbeats 4000000 in
set_option maxRecDepth 100000 in
theorem tX5_order_bv (l : Launch) (g : zG) (y all kept hist : Nat → Nat) (hl : Nat) (slo sav beg prt frm txt : Nat → Nat) (tl sp : Nat) (tol : Nat → Nat) (rd : Nat) (v : Int32) (hb : rg v.toInt (Int.ofNat 0) (Int.ofNat 3) = false) : Met l yX5_order wsX5_order ({ frames := 3, cells := 0, slots := 0, locals := 70 } : Room) (zPre g [.ref (y 0), .int v] [wM g y all kept hist hl slo sav beg prt frm txt tl sp tol rd]) (zQ g (fun _ : Unit => some (.int (-2)) ) (fun _ : Unit => True) (fun _ : Unit => [wM g y all kept hist hl slo sav beg prt frm txt tl sp tol rd]) (zA [wM g y all kept hist hl slo sav beg prt frm txt tl sp tol rd])) 0 0 (zA [wM g y all kept hist hl slo sav beg prt frm txt tl sp tol rd]) := by
  refine z_entry (cc := cX5_order) (maxL := 4) (ret := (some .int)) (own := RX5) (by decide) rfl rfl (Nat.le_of_ble_eq_true rfl) [(0, .ref (y 0)), (1, .int v)] rfl ?_
  intro K hKl hKg hnL C hRx
  subst hKl
  subst hKg
  refine z_iload_n C 1 rfl rfl dX5_order_0 1 rfl ?_
  refine z_i2l C dX5_order_1 2 rfl ?_
  refine z_lconst C (v := lN 0) rfl dX5_order_2 3 rfl ?_
  refine z_ldc2 C (v := lN 3) (List.mem_of_getElem? (i := 1) rfl) dX5_order_3 6 rfl ?_
  refine z_callP C [.long ((v).toInt64), .long (lN 0), .long (lN 3)] [] (tX5_inI K.l K.g v 0 3 (by first | omega | assumption) (by first | omega | assumption)) gX5_order_X5_in rfl rfl rfl hdX5_in ⟨Nat.le_of_ble_eq_true rfl, Nat.le_of_ble_eq_true rfl⟩ ⟨Nat.zero_le _, Nat.zero_le _⟩ rfl rfl (Nat.le_of_ble_eq_true rfl) dX5_order_6 9 rfl (fun u9 hu9 => ?_)
  show Z K 0 0 [wM K.g y all kept hist hl slo sav beg prt frm txt tl sp tol rd] [(0, .ref (y 0)), (1, .int v)] 9 [.int (bI (rg v.toInt (Int.ofNat 0) (Int.ofNat 3)))]
  refine z_ifb_ne C 15 dX5_order_9 (by decide) 12 rfl (fun c_1 => ?_) (fun c_1 => ?_)
  · exfalso; rw [hb] at c_1; exact Bool.noConfusion c_1
  refine z_bipush C (v := (-2)) rfl dX5_order_12 14 rfl ?_
  exact z_iret C hRx dX5_order_14 () rfl trivial rfl

theorem iX5_order_X5 : ∀ w ∈ u_ws RX5 TX5 14, w ∈ wsX5_order := fun w h => (List.mem_cons_of_mem _ (List.mem_append_right _ h))
set_option maxHeartbeats 4000000 in
set_option maxRecDepth 100000 in
theorem tX5_order_ok (l : Launch) (g : zG) (y all kept hist : Nat → Nat) (hl : Nat) (slo sav beg prt frm txt : Nat → Nat) (tl sp : Nat) (tol : Nat → Nat) (rd : Nat) (st : Nat → Nat) (r : Nat → Nat → Nat) (n : Nat) (k : Nat) (hn : n ≤ 12) (hB : Bd all st r n) (hl6 : hl ≤ 6) (hJ : okJ r n) (hk3 : k ≤ 3) : Met l yX5_order wsX5_order ({ frames := 3, cells := 0, slots := 0, locals := 70 } : Room) (zPre g [.ref (y 0), .int (nI k)] [wM g y all kept hist hl slo sav beg prt frm txt tl sp tol rd]) (zQ g (fun u : (Nat → Nat) × (Nat → Nat) × (Nat) × (Nat → Nat) => match u with | (all2, hist2, hl2, frm2) => some (.int (nI (ct (fun y => decide (plc (r (foR k)) n y ≠ y)) n))) ) (fun u : (Nat → Nat) × (Nat → Nat) × (Nat) × (Nat → Nat) => match u with | (all2, hist2, hl2, frm2) => (Bd all2 st (oR r (foR k) n) n) ∧ (HCh all hist hl hist2 hl2)) (fun u : (Nat → Nat) × (Nat → Nat) × (Nat) × (Nat → Nat) => match u with | (all2, hist2, hl2, frm2) => [wM g y all2 kept hist2 hl2 slo sav beg prt frm2 txt tl sp tol rd]) (zA [wM g y all kept hist hl slo sav beg prt frm txt tl sp tol rd])) 0 0 (zA [wM g y all kept hist hl slo sav beg prt frm txt tl sp tol rd]) := by
  refine z_entry (cc := cX5_order) (maxL := 4) (ret := (some .int)) (own := RX5) (by decide) rfl rfl (Nat.le_of_ble_eq_true rfl) [(0, .ref (y 0)), (1, .int (nI k))] rfl ?_
  intro K hKl hKg hnL C hRx
  subst hKl
  subst hKg
  refine z_iload_n C 1 rfl rfl dX5_order_0 1 rfl ?_
  refine z_i2l C dX5_order_1 2 rfl ?_
  refine z_lconst C (v := lN 0) rfl dX5_order_2 3 rfl ?_
  refine z_ldc2 C (v := lN 3) (List.mem_of_getElem? (i := 1) rfl) dX5_order_3 6 rfl ?_
  refine z_callP C [.long ((nI k).toInt64), .long (lN 0), .long (lN 3)] [] (tX5_inI K.l K.g (nI k) 0 3 (by first | omega | assumption) (by first | omega | assumption)) gX5_order_X5_in rfl rfl rfl hdX5_in ⟨Nat.le_of_ble_eq_true rfl, Nat.le_of_ble_eq_true rfl⟩ ⟨Nat.zero_le _, Nat.zero_le _⟩ rfl rfl (Nat.le_of_ble_eq_true rfl) dX5_order_6 9 rfl (fun u9 hu9 => ?_)
  show Z K 0 0 [wM K.g y all kept hist hl slo sav beg prt frm txt tl sp tol rd] [(0, .ref (y 0)), (1, .int (nI k))] 9 [.int (bI (rg (nI k).toInt (Int.ofNat 0) (Int.ofNat 3)))]
  refine z_ifb_ne C 15 dX5_order_9 (by decide) 12 rfl (fun c_1 => ?_) (fun c_1 => ?_)
  rotate_left
  · exfalso; rw [rgN_t (by omega) (by omega) (by omega)] at c_1; exact Bool.noConfusion c_1
  refine z_aload_n C 0 rfl rfl dX5_order_15 16 rfl ?_
  refine z_callV C [] [] (tX5_changes K.l K.g y all kept hist hl slo sav beg prt frm txt tl sp tol rd (by first | omega | assumption)) gX5_order_X5_changes rfl rfl rfl hdX5_changes ⟨Nat.le_of_ble_eq_true rfl, Nat.le_of_ble_eq_true rfl⟩ ⟨Nat.zero_le _, Nat.zero_le _⟩ 0 0 rfl rfl rfl [0] rfl rfl (zlc (N := 1) rfl rfl) [1] rfl (by decide) (fun u : (Nat → Nat) × (Nat) => match u with | (hist2, hl2) => [wM K.g y all kept hist2 hl2 slo sav beg prt frm txt tl sp tol rd]) (fun _ => rfl) rfl rfl (Nat.le_of_ble_eq_true rfl) dX5_order_16 19 rfl (fun u9 hu9 => ?_)
  obtain ⟨hist2, hl2⟩ := u9
  obtain ⟨hh1, hh2, hh3⟩ := hu9
  have hh1 : hl2 = min (hl + 1) 6 := hh1
  have hh2 : ∀ u, u < 56 → hist2 (56 * (hl2 - 1) + u) = all u := hh2
  have hh3 : ∀ e u, e + 1 < hl2 → u < 56 → hist2 (56 * e + u) = hist (56 * (e + (hl + 1 - hl2)) + u) := hh3
  show Z K 0 0 [wM K.g y all kept hist2 hl2 slo sav beg prt frm txt tl sp tol rd] [(0, .ref (y 0)), (1, .int (nI k))] 19 []
  have hC : HCh all hist hl hist2 hl2 := ⟨hh1, hh2, hh3⟩
  refine z_aload_n C 0 rfl rfl dX5_order_19 20 rfl ?_
  refine z_iload_n C 1 rfl rfl dX5_order_20 21 rfl ?_
  refine z_callV C [.int (nI k)] [] (tX5_orders K.l K.g y all kept hist2 hl2 slo sav beg prt frm txt tl sp tol rd st r n k (by first | omega | assumption) (by first | omega | assumption) (by first | omega | assumption) (by first | omega | assumption)) gX5_order_X5_orders rfl rfl rfl hdX5_orders ⟨Nat.le_of_ble_eq_true rfl, Nat.le_of_ble_eq_true rfl⟩ ⟨Nat.zero_le _, Nat.zero_le _⟩ 0 0 rfl rfl rfl [0] rfl rfl (zlc (N := 1) rfl rfl) [1] rfl (by decide) (fun u : (Nat → Nat) × (Nat → Nat) => match u with | (all2, frm2) => [wM K.g y all2 kept hist2 hl2 slo sav beg prt frm2 txt tl sp tol rd]) (fun _ => rfl) rfl rfl (Nat.le_of_ble_eq_true rfl) dX5_order_21 24 rfl (fun u9 hu9 => ?_)
  obtain ⟨al2, fr2⟩ := u9
  obtain ⟨hB2, hF⟩ := hu9
  have hB2 : Bd al2 st (oR r (foR k) n) n := hB2
  have hF : ∀ i, i < n → fr2 i < n ∧ plc (r (foR k)) n (fr2 i) = i := hF
  show Z K 0 0 [wM K.g y al2 kept hist2 hl2 slo sav beg prt fr2 txt tl sp tol rd] [(0, .ref (y 0)), (1, .int (nI k))] 24 []
  refine z_iconst C (v := nI 0) rfl dX5_order_24 25 rfl ?_
  refine z_istore_n C hnL [1, 2, 0] [(0, .ref (y 0)), (1, .int (nI k)), (2, .int (nI 0))] rfl rfl (Nat.le_of_ble_eq_true rfl) dX5_order_25 26 rfl ?_
  refine z_iconst C (v := nI 0) rfl dX5_order_26 27 rfl ?_
  refine z_istore_n C hnL [1, 2, 3, 0] [(0, .ref (y 0)), (1, .int (nI k)), (2, .int (nI 0)), (3, .int (nI 0))] rfl rfl (Nat.le_of_ble_eq_true rfl) dX5_order_27 28 rfl ?_
  have loop28 : ∀ (mu : Nat) (i : Nat) (x : Nat), mu = n - i → i ≤ n → x = ct (fun y => decide (fr2 y ≠ y)) i → Z K 0 0 [wM K.g y al2 kept hist2 hl2 slo sav beg prt fr2 txt tl sp tol rd] [(0, .ref (y 0)), (1, .int (nI k)), (2, .int (nI x)), (3, .int (nI i))] 28 [] := by
    refine z_ind (fun mu ih28 => ?_)
    intro i x hmu28 hi hx
    refine z_iload_n C 3 rfl rfl dX5_order_28 29 rfl ?_
    refine z_aload_n C 0 rfl rfl dX5_order_29 30 rfl ?_
    refine z_get C zc5 iX5_order_X5 0 0 rfl rfl 0 (Nat.le_of_ble_eq_true rfl) (List.mem_of_getElem? (i := 2) rfl) (v := .ref (y 1)) rfl dX5_order_30 33 rfl ?_
    refine z_bipush C (v := nI 7) rfl dX5_order_33 35 rfl ?_
    refine z_iald C (f := al2) 0 1 rfl rfl (by omega) (by decide) dX5_order_35 36 rfl ?_
    refine z_top (show nI (al2 7) = nI n from by rw [hB2.2.1]) ?_
    refine z_icmp_ge C (by omega) (by omega) 63 dX5_order_36 (by decide) 39 rfl (fun c_2 => ?_) (fun c_2 => ?_)
    · skip
      refine z_iload_n C 2 rfl rfl dX5_order_63 64 rfl ?_
      obtain rfl : i = n := by omega
      exact z_iret C hRx dX5_order_64 (al2, hist2, hl2, fr2) (congrArg (fun z => some (Value.int (nI z))) (by rw [hx]; exact (ct_fr hF).symm)) (⟨hB2, hC⟩) rfl
    · skip
      refine z_iload_n C 2 rfl rfl dX5_order_39 40 rfl ?_
      refine z_aload_n C 0 rfl rfl dX5_order_40 41 rfl ?_
      refine z_get C zc5 iX5_order_X5 0 0 rfl rfl 8 (Nat.le_of_ble_eq_true rfl) (List.mem_of_getElem? (i := 3) rfl) (v := .ref (y 8)) rfl dX5_order_41 44 rfl ?_
      refine z_iload_n C 3 rfl rfl dX5_order_44 45 rfl ?_
      refine z_iald C (f := fr2) 0 8 rfl rfl (by omega) (by decide) dX5_order_45 46 rfl ?_
      have hfi := (hF i (by omega)).1
      refine z_iload_n C 3 rfl rfl dX5_order_46 47 rfl ?_
      refine z_icmp_ne C (by omega) (by omega) 54 dX5_order_47 (by decide) 50 rfl (fun c_3 => ?_) (fun c_3 => ?_)
      · skip
        refine z_iconst C (v := nI 1) rfl dX5_order_54 55 rfl ?_
        refine z_iadd C dX5_order_55 56 rfl ?_
        refine z_istore_n C hnL [1, 2, 0, 3] [(0, .ref (y 0)), (1, .int (nI k)), (2, .int (nI (x + 1))), (3, .int (nI i))] rfl rfl (Nat.le_of_ble_eq_true rfl) dX5_order_56 57 rfl ?_
        refine z_iinc C hnL 3 rfl (v := (nI (i + 1))) (nI_1 _) [1, 2, 3, 0] [(0, .ref (y 0)), (1, .int (nI k)), (2, .int (nI (x + 1))), (3, .int (nI (i + 1)))] rfl (Nat.le_of_ble_eq_true rfl) dX5_order_57 60 rfl ?_
        refine z_goto C 28 dX5_order_60 (by decide) ?_
        exact ih28 _ (by omega) (i + 1) (x + 1) rfl (by omega) (by rw [hx]; exact (ct_s (decide_eq_true (by omega))).symm)
      · skip
        refine z_iconst C (v := nI 0) rfl dX5_order_50 51 rfl ?_
        refine z_goto C 55 dX5_order_51 (by decide) ?_
        refine z_iadd C dX5_order_55 56 rfl ?_
        refine z_istore_n C hnL [1, 2, 0, 3] [(0, .ref (y 0)), (1, .int (nI k)), (2, .int (nI (x + 0))), (3, .int (nI i))] rfl rfl (Nat.le_of_ble_eq_true rfl) dX5_order_56 57 rfl ?_
        refine z_iinc C hnL 3 rfl (v := (nI (i + 1))) (nI_1 _) [1, 2, 3, 0] [(0, .ref (y 0)), (1, .int (nI k)), (2, .int (nI (x + 0))), (3, .int (nI (i + 1)))] rfl (Nat.le_of_ble_eq_true rfl) dX5_order_57 60 rfl ?_
        refine z_goto C 28 dX5_order_60 (by decide) ?_
        exact ih28 _ (by omega) (i + 1) (x + 0) rfl (by omega) (by rw [hx]; exact (ct_f (decide_eq_false (by omega))).symm)
  exact loop28 _ 0 0 rfl (by omega) rfl

set_option maxHeartbeats 4000000 in
set_option maxRecDepth 100000 in
theorem tX5_jobOf_ns (l : Launch) (g : zG) (y all kept hist : Nat → Nat) (hl : Nat) (slo sav beg prt frm txt : Nat → Nat) (tl sp : Nat) (tol : Nat → Nat) (rd : Nat) (st : Nat → Nat) (r : Nat → Nat → Nat) (n : Nat) (v w : Int32) (hn : n ≤ 12) (hB : Bd all st r n) (hb : isJ v n = false) : Met l yX5_jobOf wsX5_jobOf ({ frames := 4, cells := 0, slots := 0, locals := 91 } : Room) (zPre g [.ref (y 0), .int v, .int w] [wM g y all kept hist hl slo sav beg prt frm txt tl sp tol rd]) (zQ g (fun _ : Unit => some (.int (-1)) ) (fun _ : Unit => True) (fun _ : Unit => [wM g y all kept hist hl slo sav beg prt frm txt tl sp tol rd]) (zA [wM g y all kept hist hl slo sav beg prt frm txt tl sp tol rd])) 0 0 (zA [wM g y all kept hist hl slo sav beg prt frm txt tl sp tol rd]) := by
  refine z_entry (cc := cX5_jobOf) (maxL := 3) (ret := (some .int)) (own := RX5) (by decide) rfl rfl (Nat.le_of_ble_eq_true rfl) [(0, .ref (y 0)), (1, .int v), (2, .int w)] rfl ?_
  intro K hKl hKg hnL C hRx
  subst hKl
  subst hKg
  refine z_aload_n C 0 rfl rfl dX5_jobOf_0 1 rfl ?_
  refine z_iload_n C 1 rfl rfl dX5_jobOf_1 2 rfl ?_
  refine z_callV C [.int v] [] (tX5_isJob K.l K.g y all kept hist hl slo sav beg prt frm txt tl sp tol rd st r n v (by first | omega | assumption) (by first | omega | assumption)) gX5_jobOf_X5_isJob rfl rfl rfl hdX5_isJob ⟨Nat.le_of_ble_eq_true rfl, Nat.le_of_ble_eq_true rfl⟩ ⟨Nat.zero_le _, Nat.zero_le _⟩ 0 0 rfl rfl rfl [0] rfl rfl (zlc (N := 1) rfl rfl) [1] rfl (by decide) (fun _ : Unit => [wM K.g y all kept hist hl slo sav beg prt frm txt tl sp tol rd]) (fun _ => rfl) rfl rfl (Nat.le_of_ble_eq_true rfl) dX5_jobOf_2 5 rfl (fun u9 hu9 => ?_)
  show Z K 0 0 [wM K.g y all kept hist hl slo sav beg prt frm txt tl sp tol rd] [(0, .ref (y 0)), (1, .int v), (2, .int w)] 5 [.int (bI (isJ v n))]
  refine z_ifb_ne C 10 dX5_jobOf_5 (by decide) 8 rfl (fun c_1 => ?_) (fun c_1 => ?_)
  · exfalso; rw [hb] at c_1; exact Bool.noConfusion c_1
  refine z_iconst C (v := (-1)) rfl dX5_jobOf_8 9 rfl ?_
  exact z_iret C hRx dX5_jobOf_9 () rfl trivial rfl

set_option maxHeartbeats 4000000 in
set_option maxRecDepth 100000 in
theorem tX5_jobOf_bv (l : Launch) (g : zG) (y all kept hist : Nat → Nat) (hl : Nat) (slo sav beg prt frm txt : Nat → Nat) (tl sp : Nat) (tol : Nat → Nat) (rd : Nat) (st : Nat → Nat) (r : Nat → Nat → Nat) (n : Nat) (j : Nat) (w : Int32) (hn : n ≤ 12) (hB : Bd all st r n) (hS : okS st) (hJ : okJ r n) (hR : okR st r n (st 5)) (hj : j < n) (hb : rg w.toInt (Int.ofNat 0) (Int.ofNat 11) = false) : Met l yX5_jobOf wsX5_jobOf ({ frames := 4, cells := 0, slots := 0, locals := 91 } : Room) (zPre g [.ref (y 0), .int (nI j), .int w] [wM g y all kept hist hl slo sav beg prt frm txt tl sp tol rd]) (zQ g (fun u : (Nat → Nat) × (Nat → Nat) => match u with | (beg2, prt2) => some (.int (-2)) ) (fun u : (Nat → Nat) × (Nat → Nat) => match u with | (beg2, prt2) => True) (fun u : (Nat → Nat) × (Nat → Nat) => match u with | (beg2, prt2) => [wM g y all kept hist hl slo sav beg2 prt2 frm txt tl sp tol rd]) (zA [wM g y all kept hist hl slo sav beg prt frm txt tl sp tol rd])) 0 0 (zA [wM g y all kept hist hl slo sav beg prt frm txt tl sp tol rd]) := by
  refine z_entry (cc := cX5_jobOf) (maxL := 3) (ret := (some .int)) (own := RX5) (by decide) rfl rfl (Nat.le_of_ble_eq_true rfl) [(0, .ref (y 0)), (1, .int (nI j)), (2, .int w)] rfl ?_
  intro K hKl hKg hnL C hRx
  subst hKl
  subst hKg
  refine z_aload_n C 0 rfl rfl dX5_jobOf_0 1 rfl ?_
  refine z_iload_n C 1 rfl rfl dX5_jobOf_1 2 rfl ?_
  refine z_callV C [.int (nI j)] [] (tX5_isJob K.l K.g y all kept hist hl slo sav beg prt frm txt tl sp tol rd st r n (nI j) (by first | omega | assumption) (by first | omega | assumption)) gX5_jobOf_X5_isJob rfl rfl rfl hdX5_isJob ⟨Nat.le_of_ble_eq_true rfl, Nat.le_of_ble_eq_true rfl⟩ ⟨Nat.zero_le _, Nat.zero_le _⟩ 0 0 rfl rfl rfl [0] rfl rfl (zlc (N := 1) rfl rfl) [1] rfl (by decide) (fun _ : Unit => [wM K.g y all kept hist hl slo sav beg prt frm txt tl sp tol rd]) (fun _ => rfl) rfl rfl (Nat.le_of_ble_eq_true rfl) dX5_jobOf_2 5 rfl (fun u9 hu9 => ?_)
  show Z K 0 0 [wM K.g y all kept hist hl slo sav beg prt frm txt tl sp tol rd] [(0, .ref (y 0)), (1, .int (nI j)), (2, .int w)] 5 [.int (bI (isJ (nI j) n))]
  refine z_ifb_ne C 10 dX5_jobOf_5 (by decide) 8 rfl (fun c_1 => ?_) (fun c_1 => ?_)
  rotate_left
  · exfalso; rw [isJ_t (by omega) (by omega)] at c_1; exact Bool.noConfusion c_1
  refine z_aload_n C 0 rfl rfl dX5_jobOf_10 11 rfl ?_
  refine z_callV C [] [] (tX5_prints K.l K.g y all kept hist hl slo sav beg prt frm txt tl sp tol rd st r n (by first | omega | assumption) (by first | omega | assumption) (by first | omega | assumption) (by first | omega | assumption) (by first | omega | assumption)) gX5_jobOf_X5_prints rfl rfl rfl hdX5_prints ⟨Nat.le_of_ble_eq_true rfl, Nat.le_of_ble_eq_true rfl⟩ ⟨Nat.zero_le _, Nat.zero_le _⟩ 0 0 rfl rfl rfl [0] rfl rfl (zlc (N := 1) rfl rfl) [1] rfl (by decide) (fun u : (Nat → Nat) × (Nat → Nat) => match u with | (beg2, prt2) => [wM K.g y all kept hist hl slo sav beg2 prt2 frm txt tl sp tol rd]) (fun _ => rfl) rfl rfl (Nat.le_of_ble_eq_true rfl) dX5_jobOf_11 14 rfl (fun u9 hu9 => ?_)
  obtain ⟨beg2, prt2⟩ := u9
  obtain ⟨hP, hE, hp⟩ := hu9
  have hP : isP st r (st 5) prt2 n := hP
  have hE : ∀ i, i < n → beg2 i + (rdy st r i + r 2 i * st 3) = prt2 i := hE
  have hp : ∀ i, i < n → prt2 i ≤ 14400 := hp
  show Z K 0 0 [wM K.g y all kept hist hl slo sav beg2 prt2 frm txt tl sp tol rd] [(0, .ref (y 0)), (1, .int (nI j)), (2, .int w)] 14 []
  have hp30 : ∀ i, i < n → prt2 i ≤ 30000 := fun i hi => Nat.le_trans (hp i hi) (by decide)
  refine z_iload_n C 2 rfl rfl dX5_jobOf_14 15 rfl ?_
  refine z_tabO C 133 dX5_jobOf_15 (tab_i hb) (by decide) ?_
  refine z_bipush C (v := (-2)) rfl dX5_jobOf_133 135 rfl ?_
  exact z_iret C hRx dX5_jobOf_135 (beg2, prt2) rfl trivial rfl

theorem iX5_jobOf_X5 : ∀ w ∈ u_ws RX5 TX5 14, w ∈ wsX5_jobOf := fun w h => (List.mem_cons_of_mem _ (List.mem_append_right _ h))
set_option maxHeartbeats 4000000 in
set_option maxRecDepth 100000 in
theorem tX5_jobOf_ok (l : Launch) (g : zG) (y all kept hist : Nat → Nat) (hl : Nat) (slo sav beg prt frm txt : Nat → Nat) (tl sp : Nat) (tol : Nat → Nat) (rd : Nat) (st : Nat → Nat) (r : Nat → Nat → Nat) (n : Nat) (j k : Nat) (hn : n ≤ 12) (hB : Bd all st r n) (hS : okS st) (hJ : okJ r n) (hR : okR st r n (st 5)) (hj : j < n) (hk : k ≤ 11) : Met l yX5_jobOf wsX5_jobOf ({ frames := 4, cells := 0, slots := 0, locals := 91 } : Room) (zPre g [.ref (y 0), .int (nI j), .int (nI k)] [wM g y all kept hist hl slo sav beg prt frm txt tl sp tol rd]) (zQ g (fun u : (Nat → Nat) × (Nat → Nat) => match u with | (beg2, prt2) => some (.int (nI (JO st r n j k))) ) (fun u : (Nat → Nat) × (Nat → Nat) => match u with | (beg2, prt2) => True) (fun u : (Nat → Nat) × (Nat → Nat) => match u with | (beg2, prt2) => [wM g y all kept hist hl slo sav beg2 prt2 frm txt tl sp tol rd]) (zA [wM g y all kept hist hl slo sav beg prt frm txt tl sp tol rd])) 0 0 (zA [wM g y all kept hist hl slo sav beg prt frm txt tl sp tol rd]) := by
  refine z_entry (cc := cX5_jobOf) (maxL := 3) (ret := (some .int)) (own := RX5) (by decide) rfl rfl (Nat.le_of_ble_eq_true rfl) [(0, .ref (y 0)), (1, .int (nI j)), (2, .int (nI k))] rfl ?_
  intro K hKl hKg hnL C hRx
  subst hKl
  subst hKg
  rcases (show k = 0 ∨ k = 1 ∨ k = 2 ∨ k = 3 ∨ k = 4 ∨ k = 5 ∨ k = 6 ∨ k = 7 ∨ k = 8 ∨ k = 9 ∨ k = 10 ∨ k = 11 by omega) with rfl | rfl | rfl | rfl | rfl | rfl | rfl | rfl | rfl | rfl | rfl | rfl
  · skip
    refine z_aload_n C 0 rfl rfl dX5_jobOf_0 1 rfl ?_
    refine z_iload_n C 1 rfl rfl dX5_jobOf_1 2 rfl ?_
    refine z_callV C [.int (nI j)] [] (tX5_isJob K.l K.g y all kept hist hl slo sav beg prt frm txt tl sp tol rd st r n (nI j) (by first | omega | assumption) (by first | omega | assumption)) gX5_jobOf_X5_isJob rfl rfl rfl hdX5_isJob ⟨Nat.le_of_ble_eq_true rfl, Nat.le_of_ble_eq_true rfl⟩ ⟨Nat.zero_le _, Nat.zero_le _⟩ 0 0 rfl rfl rfl [0] rfl rfl (zlc (N := 1) rfl rfl) [1] rfl (by decide) (fun _ : Unit => [wM K.g y all kept hist hl slo sav beg prt frm txt tl sp tol rd]) (fun _ => rfl) rfl rfl (Nat.le_of_ble_eq_true rfl) dX5_jobOf_2 5 rfl (fun u9 hu9 => ?_)
    show Z K 0 0 [wM K.g y all kept hist hl slo sav beg prt frm txt tl sp tol rd] [(0, .ref (y 0)), (1, .int (nI j)), (2, .int (nI 0))] 5 [.int (bI (isJ (nI j) n))]
    refine z_ifb_ne C 10 dX5_jobOf_5 (by decide) 8 rfl (fun c_1 => ?_) (fun c_1 => ?_)
    rotate_left
    · exfalso; rw [isJ_t (by omega) (by omega)] at c_1; exact Bool.noConfusion c_1
    refine z_aload_n C 0 rfl rfl dX5_jobOf_10 11 rfl ?_
    refine z_callV C [] [] (tX5_prints K.l K.g y all kept hist hl slo sav beg prt frm txt tl sp tol rd st r n (by first | omega | assumption) (by first | omega | assumption) (by first | omega | assumption) (by first | omega | assumption) (by first | omega | assumption)) gX5_jobOf_X5_prints rfl rfl rfl hdX5_prints ⟨Nat.le_of_ble_eq_true rfl, Nat.le_of_ble_eq_true rfl⟩ ⟨Nat.zero_le _, Nat.zero_le _⟩ 0 0 rfl rfl rfl [0] rfl rfl (zlc (N := 1) rfl rfl) [1] rfl (by decide) (fun u : (Nat → Nat) × (Nat → Nat) => match u with | (beg2, prt2) => [wM K.g y all kept hist hl slo sav beg2 prt2 frm txt tl sp tol rd]) (fun _ => rfl) rfl rfl (Nat.le_of_ble_eq_true rfl) dX5_jobOf_11 14 rfl (fun u9 hu9 => ?_)
    obtain ⟨beg2, prt2⟩ := u9
    obtain ⟨hP, hE, hp⟩ := hu9
    have hP : isP st r (st 5) prt2 n := hP
    have hE : ∀ i, i < n → beg2 i + (rdy st r i + r 2 i * st 3) = prt2 i := hE
    have hp : ∀ i, i < n → prt2 i ≤ 14400 := hp
    show Z K 0 0 [wM K.g y all kept hist hl slo sav beg2 prt2 frm txt tl sp tol rd] [(0, .ref (y 0)), (1, .int (nI j)), (2, .int (nI 0))] 14 []
    have hp30 : ∀ i, i < n → prt2 i ≤ 30000 := fun i hi => Nat.le_trans (hp i hi) (by decide)
    refine z_iload_n C 2 rfl rfl dX5_jobOf_14 15 rfl ?_
    refine z_tab C (by decide) 76 dX5_jobOf_15 (by decide) (by decide) rfl (by decide) ?_
    refine z_aload_n C 0 rfl rfl dX5_jobOf_76 77 rfl ?_
    refine z_iload_n C 1 rfl rfl dX5_jobOf_77 78 rfl ?_
    refine z_iload_n C 2 rfl rfl dX5_jobOf_78 79 rfl ?_
    refine z_callV C [.int (nI j), .int (nI 0)] [] (tX5_itsb K.l K.g y all kept hist hl slo sav beg2 prt2 frm txt tl sp tol rd st r n j 0 (by first | omega | assumption) (by first | omega | assumption) (by first | omega | assumption) (by first | omega | assumption)) gX5_jobOf_X5_its rfl rfl rfl hdX5_its ⟨Nat.le_of_ble_eq_true rfl, Nat.le_of_ble_eq_true rfl⟩ ⟨Nat.zero_le _, Nat.zero_le _⟩ 0 0 rfl rfl rfl [0] rfl rfl (zlc (N := 1) rfl rfl) [1] rfl (by decide) (fun _ : Unit => [wM K.g y all kept hist hl slo sav beg2 prt2 frm txt tl sp tol rd]) (fun _ => rfl) rfl rfl (Nat.le_of_ble_eq_true rfl) dX5_jobOf_79 82 rfl (fun u9 hu9 => ?_)
    show Z K 0 0 [wM K.g y all kept hist hl slo sav beg2 prt2 frm txt tl sp tol rd] [(0, .ref (y 0)), (1, .int (nI j)), (2, .int (nI 0))] 82 [.int (nI (r 0 j))]
    exact z_iret C hRx dX5_jobOf_82 (beg2, prt2) rfl trivial rfl
  · skip
    refine z_aload_n C 0 rfl rfl dX5_jobOf_0 1 rfl ?_
    refine z_iload_n C 1 rfl rfl dX5_jobOf_1 2 rfl ?_
    refine z_callV C [.int (nI j)] [] (tX5_isJob K.l K.g y all kept hist hl slo sav beg prt frm txt tl sp tol rd st r n (nI j) (by first | omega | assumption) (by first | omega | assumption)) gX5_jobOf_X5_isJob rfl rfl rfl hdX5_isJob ⟨Nat.le_of_ble_eq_true rfl, Nat.le_of_ble_eq_true rfl⟩ ⟨Nat.zero_le _, Nat.zero_le _⟩ 0 0 rfl rfl rfl [0] rfl rfl (zlc (N := 1) rfl rfl) [1] rfl (by decide) (fun _ : Unit => [wM K.g y all kept hist hl slo sav beg prt frm txt tl sp tol rd]) (fun _ => rfl) rfl rfl (Nat.le_of_ble_eq_true rfl) dX5_jobOf_2 5 rfl (fun u9 hu9 => ?_)
    show Z K 0 0 [wM K.g y all kept hist hl slo sav beg prt frm txt tl sp tol rd] [(0, .ref (y 0)), (1, .int (nI j)), (2, .int (nI 1))] 5 [.int (bI (isJ (nI j) n))]
    refine z_ifb_ne C 10 dX5_jobOf_5 (by decide) 8 rfl (fun c_2 => ?_) (fun c_2 => ?_)
    rotate_left
    · exfalso; rw [isJ_t (by omega) (by omega)] at c_2; exact Bool.noConfusion c_2
    refine z_aload_n C 0 rfl rfl dX5_jobOf_10 11 rfl ?_
    refine z_callV C [] [] (tX5_prints K.l K.g y all kept hist hl slo sav beg prt frm txt tl sp tol rd st r n (by first | omega | assumption) (by first | omega | assumption) (by first | omega | assumption) (by first | omega | assumption) (by first | omega | assumption)) gX5_jobOf_X5_prints rfl rfl rfl hdX5_prints ⟨Nat.le_of_ble_eq_true rfl, Nat.le_of_ble_eq_true rfl⟩ ⟨Nat.zero_le _, Nat.zero_le _⟩ 0 0 rfl rfl rfl [0] rfl rfl (zlc (N := 1) rfl rfl) [1] rfl (by decide) (fun u : (Nat → Nat) × (Nat → Nat) => match u with | (beg2, prt2) => [wM K.g y all kept hist hl slo sav beg2 prt2 frm txt tl sp tol rd]) (fun _ => rfl) rfl rfl (Nat.le_of_ble_eq_true rfl) dX5_jobOf_11 14 rfl (fun u9 hu9 => ?_)
    obtain ⟨beg2, prt2⟩ := u9
    obtain ⟨hP, hE, hp⟩ := hu9
    have hP : isP st r (st 5) prt2 n := hP
    have hE : ∀ i, i < n → beg2 i + (rdy st r i + r 2 i * st 3) = prt2 i := hE
    have hp : ∀ i, i < n → prt2 i ≤ 14400 := hp
    show Z K 0 0 [wM K.g y all kept hist hl slo sav beg2 prt2 frm txt tl sp tol rd] [(0, .ref (y 0)), (1, .int (nI j)), (2, .int (nI 1))] 14 []
    have hp30 : ∀ i, i < n → prt2 i ≤ 30000 := fun i hi => Nat.le_trans (hp i hi) (by decide)
    refine z_iload_n C 2 rfl rfl dX5_jobOf_14 15 rfl ?_
    refine z_tab C (by decide) 76 dX5_jobOf_15 (by decide) (by decide) rfl (by decide) ?_
    refine z_aload_n C 0 rfl rfl dX5_jobOf_76 77 rfl ?_
    refine z_iload_n C 1 rfl rfl dX5_jobOf_77 78 rfl ?_
    refine z_iload_n C 2 rfl rfl dX5_jobOf_78 79 rfl ?_
    refine z_callV C [.int (nI j), .int (nI 1)] [] (tX5_itsb K.l K.g y all kept hist hl slo sav beg2 prt2 frm txt tl sp tol rd st r n j 1 (by first | omega | assumption) (by first | omega | assumption) (by first | omega | assumption) (by first | omega | assumption)) gX5_jobOf_X5_its rfl rfl rfl hdX5_its ⟨Nat.le_of_ble_eq_true rfl, Nat.le_of_ble_eq_true rfl⟩ ⟨Nat.zero_le _, Nat.zero_le _⟩ 0 0 rfl rfl rfl [0] rfl rfl (zlc (N := 1) rfl rfl) [1] rfl (by decide) (fun _ : Unit => [wM K.g y all kept hist hl slo sav beg2 prt2 frm txt tl sp tol rd]) (fun _ => rfl) rfl rfl (Nat.le_of_ble_eq_true rfl) dX5_jobOf_79 82 rfl (fun u9 hu9 => ?_)
    show Z K 0 0 [wM K.g y all kept hist hl slo sav beg2 prt2 frm txt tl sp tol rd] [(0, .ref (y 0)), (1, .int (nI j)), (2, .int (nI 1))] 82 [.int (nI (r 1 j))]
    exact z_iret C hRx dX5_jobOf_82 (beg2, prt2) rfl trivial rfl
  · skip
    refine z_aload_n C 0 rfl rfl dX5_jobOf_0 1 rfl ?_
    refine z_iload_n C 1 rfl rfl dX5_jobOf_1 2 rfl ?_
    refine z_callV C [.int (nI j)] [] (tX5_isJob K.l K.g y all kept hist hl slo sav beg prt frm txt tl sp tol rd st r n (nI j) (by first | omega | assumption) (by first | omega | assumption)) gX5_jobOf_X5_isJob rfl rfl rfl hdX5_isJob ⟨Nat.le_of_ble_eq_true rfl, Nat.le_of_ble_eq_true rfl⟩ ⟨Nat.zero_le _, Nat.zero_le _⟩ 0 0 rfl rfl rfl [0] rfl rfl (zlc (N := 1) rfl rfl) [1] rfl (by decide) (fun _ : Unit => [wM K.g y all kept hist hl slo sav beg prt frm txt tl sp tol rd]) (fun _ => rfl) rfl rfl (Nat.le_of_ble_eq_true rfl) dX5_jobOf_2 5 rfl (fun u9 hu9 => ?_)
    show Z K 0 0 [wM K.g y all kept hist hl slo sav beg prt frm txt tl sp tol rd] [(0, .ref (y 0)), (1, .int (nI j)), (2, .int (nI 2))] 5 [.int (bI (isJ (nI j) n))]
    refine z_ifb_ne C 10 dX5_jobOf_5 (by decide) 8 rfl (fun c_3 => ?_) (fun c_3 => ?_)
    rotate_left
    · exfalso; rw [isJ_t (by omega) (by omega)] at c_3; exact Bool.noConfusion c_3
    refine z_aload_n C 0 rfl rfl dX5_jobOf_10 11 rfl ?_
    refine z_callV C [] [] (tX5_prints K.l K.g y all kept hist hl slo sav beg prt frm txt tl sp tol rd st r n (by first | omega | assumption) (by first | omega | assumption) (by first | omega | assumption) (by first | omega | assumption) (by first | omega | assumption)) gX5_jobOf_X5_prints rfl rfl rfl hdX5_prints ⟨Nat.le_of_ble_eq_true rfl, Nat.le_of_ble_eq_true rfl⟩ ⟨Nat.zero_le _, Nat.zero_le _⟩ 0 0 rfl rfl rfl [0] rfl rfl (zlc (N := 1) rfl rfl) [1] rfl (by decide) (fun u : (Nat → Nat) × (Nat → Nat) => match u with | (beg2, prt2) => [wM K.g y all kept hist hl slo sav beg2 prt2 frm txt tl sp tol rd]) (fun _ => rfl) rfl rfl (Nat.le_of_ble_eq_true rfl) dX5_jobOf_11 14 rfl (fun u9 hu9 => ?_)
    obtain ⟨beg2, prt2⟩ := u9
    obtain ⟨hP, hE, hp⟩ := hu9
    have hP : isP st r (st 5) prt2 n := hP
    have hE : ∀ i, i < n → beg2 i + (rdy st r i + r 2 i * st 3) = prt2 i := hE
    have hp : ∀ i, i < n → prt2 i ≤ 14400 := hp
    show Z K 0 0 [wM K.g y all kept hist hl slo sav beg2 prt2 frm txt tl sp tol rd] [(0, .ref (y 0)), (1, .int (nI j)), (2, .int (nI 2))] 14 []
    have hp30 : ∀ i, i < n → prt2 i ≤ 30000 := fun i hi => Nat.le_trans (hp i hi) (by decide)
    refine z_iload_n C 2 rfl rfl dX5_jobOf_14 15 rfl ?_
    refine z_tab C (by decide) 76 dX5_jobOf_15 (by decide) (by decide) rfl (by decide) ?_
    refine z_aload_n C 0 rfl rfl dX5_jobOf_76 77 rfl ?_
    refine z_iload_n C 1 rfl rfl dX5_jobOf_77 78 rfl ?_
    refine z_iload_n C 2 rfl rfl dX5_jobOf_78 79 rfl ?_
    refine z_callV C [.int (nI j), .int (nI 2)] [] (tX5_itsb K.l K.g y all kept hist hl slo sav beg2 prt2 frm txt tl sp tol rd st r n j 2 (by first | omega | assumption) (by first | omega | assumption) (by first | omega | assumption) (by first | omega | assumption)) gX5_jobOf_X5_its rfl rfl rfl hdX5_its ⟨Nat.le_of_ble_eq_true rfl, Nat.le_of_ble_eq_true rfl⟩ ⟨Nat.zero_le _, Nat.zero_le _⟩ 0 0 rfl rfl rfl [0] rfl rfl (zlc (N := 1) rfl rfl) [1] rfl (by decide) (fun _ : Unit => [wM K.g y all kept hist hl slo sav beg2 prt2 frm txt tl sp tol rd]) (fun _ => rfl) rfl rfl (Nat.le_of_ble_eq_true rfl) dX5_jobOf_79 82 rfl (fun u9 hu9 => ?_)
    show Z K 0 0 [wM K.g y all kept hist hl slo sav beg2 prt2 frm txt tl sp tol rd] [(0, .ref (y 0)), (1, .int (nI j)), (2, .int (nI 2))] 82 [.int (nI (r 2 j))]
    exact z_iret C hRx dX5_jobOf_82 (beg2, prt2) rfl trivial rfl
  · skip
    refine z_aload_n C 0 rfl rfl dX5_jobOf_0 1 rfl ?_
    refine z_iload_n C 1 rfl rfl dX5_jobOf_1 2 rfl ?_
    refine z_callV C [.int (nI j)] [] (tX5_isJob K.l K.g y all kept hist hl slo sav beg prt frm txt tl sp tol rd st r n (nI j) (by first | omega | assumption) (by first | omega | assumption)) gX5_jobOf_X5_isJob rfl rfl rfl hdX5_isJob ⟨Nat.le_of_ble_eq_true rfl, Nat.le_of_ble_eq_true rfl⟩ ⟨Nat.zero_le _, Nat.zero_le _⟩ 0 0 rfl rfl rfl [0] rfl rfl (zlc (N := 1) rfl rfl) [1] rfl (by decide) (fun _ : Unit => [wM K.g y all kept hist hl slo sav beg prt frm txt tl sp tol rd]) (fun _ => rfl) rfl rfl (Nat.le_of_ble_eq_true rfl) dX5_jobOf_2 5 rfl (fun u9 hu9 => ?_)
    show Z K 0 0 [wM K.g y all kept hist hl slo sav beg prt frm txt tl sp tol rd] [(0, .ref (y 0)), (1, .int (nI j)), (2, .int (nI 3))] 5 [.int (bI (isJ (nI j) n))]
    refine z_ifb_ne C 10 dX5_jobOf_5 (by decide) 8 rfl (fun c_4 => ?_) (fun c_4 => ?_)
    rotate_left
    · exfalso; rw [isJ_t (by omega) (by omega)] at c_4; exact Bool.noConfusion c_4
    refine z_aload_n C 0 rfl rfl dX5_jobOf_10 11 rfl ?_
    refine z_callV C [] [] (tX5_prints K.l K.g y all kept hist hl slo sav beg prt frm txt tl sp tol rd st r n (by first | omega | assumption) (by first | omega | assumption) (by first | omega | assumption) (by first | omega | assumption) (by first | omega | assumption)) gX5_jobOf_X5_prints rfl rfl rfl hdX5_prints ⟨Nat.le_of_ble_eq_true rfl, Nat.le_of_ble_eq_true rfl⟩ ⟨Nat.zero_le _, Nat.zero_le _⟩ 0 0 rfl rfl rfl [0] rfl rfl (zlc (N := 1) rfl rfl) [1] rfl (by decide) (fun u : (Nat → Nat) × (Nat → Nat) => match u with | (beg2, prt2) => [wM K.g y all kept hist hl slo sav beg2 prt2 frm txt tl sp tol rd]) (fun _ => rfl) rfl rfl (Nat.le_of_ble_eq_true rfl) dX5_jobOf_11 14 rfl (fun u9 hu9 => ?_)
    obtain ⟨beg2, prt2⟩ := u9
    obtain ⟨hP, hE, hp⟩ := hu9
    have hP : isP st r (st 5) prt2 n := hP
    have hE : ∀ i, i < n → beg2 i + (rdy st r i + r 2 i * st 3) = prt2 i := hE
    have hp : ∀ i, i < n → prt2 i ≤ 14400 := hp
    show Z K 0 0 [wM K.g y all kept hist hl slo sav beg2 prt2 frm txt tl sp tol rd] [(0, .ref (y 0)), (1, .int (nI j)), (2, .int (nI 3))] 14 []
    have hp30 : ∀ i, i < n → prt2 i ≤ 30000 := fun i hi => Nat.le_trans (hp i hi) (by decide)
    refine z_iload_n C 2 rfl rfl dX5_jobOf_14 15 rfl ?_
    refine z_tab C (by decide) 76 dX5_jobOf_15 (by decide) (by decide) rfl (by decide) ?_
    refine z_aload_n C 0 rfl rfl dX5_jobOf_76 77 rfl ?_
    refine z_iload_n C 1 rfl rfl dX5_jobOf_77 78 rfl ?_
    refine z_iload_n C 2 rfl rfl dX5_jobOf_78 79 rfl ?_
    refine z_callV C [.int (nI j), .int (nI 3)] [] (tX5_itsb K.l K.g y all kept hist hl slo sav beg2 prt2 frm txt tl sp tol rd st r n j 3 (by first | omega | assumption) (by first | omega | assumption) (by first | omega | assumption) (by first | omega | assumption)) gX5_jobOf_X5_its rfl rfl rfl hdX5_its ⟨Nat.le_of_ble_eq_true rfl, Nat.le_of_ble_eq_true rfl⟩ ⟨Nat.zero_le _, Nat.zero_le _⟩ 0 0 rfl rfl rfl [0] rfl rfl (zlc (N := 1) rfl rfl) [1] rfl (by decide) (fun _ : Unit => [wM K.g y all kept hist hl slo sav beg2 prt2 frm txt tl sp tol rd]) (fun _ => rfl) rfl rfl (Nat.le_of_ble_eq_true rfl) dX5_jobOf_79 82 rfl (fun u9 hu9 => ?_)
    show Z K 0 0 [wM K.g y all kept hist hl slo sav beg2 prt2 frm txt tl sp tol rd] [(0, .ref (y 0)), (1, .int (nI j)), (2, .int (nI 3))] 82 [.int (nI (r 3 j))]
    exact z_iret C hRx dX5_jobOf_82 (beg2, prt2) rfl trivial rfl
  · skip
    refine z_aload_n C 0 rfl rfl dX5_jobOf_0 1 rfl ?_
    refine z_iload_n C 1 rfl rfl dX5_jobOf_1 2 rfl ?_
    refine z_callV C [.int (nI j)] [] (tX5_isJob K.l K.g y all kept hist hl slo sav beg prt frm txt tl sp tol rd st r n (nI j) (by first | omega | assumption) (by first | omega | assumption)) gX5_jobOf_X5_isJob rfl rfl rfl hdX5_isJob ⟨Nat.le_of_ble_eq_true rfl, Nat.le_of_ble_eq_true rfl⟩ ⟨Nat.zero_le _, Nat.zero_le _⟩ 0 0 rfl rfl rfl [0] rfl rfl (zlc (N := 1) rfl rfl) [1] rfl (by decide) (fun _ : Unit => [wM K.g y all kept hist hl slo sav beg prt frm txt tl sp tol rd]) (fun _ => rfl) rfl rfl (Nat.le_of_ble_eq_true rfl) dX5_jobOf_2 5 rfl (fun u9 hu9 => ?_)
    show Z K 0 0 [wM K.g y all kept hist hl slo sav beg prt frm txt tl sp tol rd] [(0, .ref (y 0)), (1, .int (nI j)), (2, .int (nI 4))] 5 [.int (bI (isJ (nI j) n))]
    refine z_ifb_ne C 10 dX5_jobOf_5 (by decide) 8 rfl (fun c_5 => ?_) (fun c_5 => ?_)
    rotate_left
    · exfalso; rw [isJ_t (by omega) (by omega)] at c_5; exact Bool.noConfusion c_5
    refine z_aload_n C 0 rfl rfl dX5_jobOf_10 11 rfl ?_
    refine z_callV C [] [] (tX5_prints K.l K.g y all kept hist hl slo sav beg prt frm txt tl sp tol rd st r n (by first | omega | assumption) (by first | omega | assumption) (by first | omega | assumption) (by first | omega | assumption) (by first | omega | assumption)) gX5_jobOf_X5_prints rfl rfl rfl hdX5_prints ⟨Nat.le_of_ble_eq_true rfl, Nat.le_of_ble_eq_true rfl⟩ ⟨Nat.zero_le _, Nat.zero_le _⟩ 0 0 rfl rfl rfl [0] rfl rfl (zlc (N := 1) rfl rfl) [1] rfl (by decide) (fun u : (Nat → Nat) × (Nat → Nat) => match u with | (beg2, prt2) => [wM K.g y all kept hist hl slo sav beg2 prt2 frm txt tl sp tol rd]) (fun _ => rfl) rfl rfl (Nat.le_of_ble_eq_true rfl) dX5_jobOf_11 14 rfl (fun u9 hu9 => ?_)
    obtain ⟨beg2, prt2⟩ := u9
    obtain ⟨hP, hE, hp⟩ := hu9
    have hP : isP st r (st 5) prt2 n := hP
    have hE : ∀ i, i < n → beg2 i + (rdy st r i + r 2 i * st 3) = prt2 i := hE
    have hp : ∀ i, i < n → prt2 i ≤ 14400 := hp
    show Z K 0 0 [wM K.g y all kept hist hl slo sav beg2 prt2 frm txt tl sp tol rd] [(0, .ref (y 0)), (1, .int (nI j)), (2, .int (nI 4))] 14 []
    have hp30 : ∀ i, i < n → prt2 i ≤ 30000 := fun i hi => Nat.le_trans (hp i hi) (by decide)
    refine z_iload_n C 2 rfl rfl dX5_jobOf_14 15 rfl ?_
    refine z_tab C (by decide) 83 dX5_jobOf_15 (by decide) (by decide) rfl (by decide) ?_
    refine z_aload_n C 0 rfl rfl dX5_jobOf_83 84 rfl ?_
    refine z_iload_n C 1 rfl rfl dX5_jobOf_84 85 rfl ?_
    refine z_callV C [.int (nI j)] [] (tX5_racksOf K.l K.g y all kept hist hl slo sav beg2 prt2 frm txt tl sp tol rd st r n j (by first | omega | assumption) (by first | omega | assumption) (by first | omega | assumption) (by first | omega | assumption) (by first | omega | assumption)) gX5_jobOf_X5_racksOf rfl rfl rfl hdX5_racksOf ⟨Nat.le_of_ble_eq_true rfl, Nat.le_of_ble_eq_true rfl⟩ ⟨Nat.zero_le _, Nat.zero_le _⟩ 0 0 rfl rfl rfl [0] rfl rfl (zlc (N := 1) rfl rfl) [1] rfl (by decide) (fun _ : Unit => [wM K.g y all kept hist hl slo sav beg2 prt2 frm txt tl sp tol rd]) (fun _ => rfl) rfl rfl (Nat.le_of_ble_eq_true rfl) dX5_jobOf_85 88 rfl (fun u9 hu9 => ?_)
    show Z K 0 0 [wM K.g y all kept hist hl slo sav beg2 prt2 frm txt tl sp tol rd] [(0, .ref (y 0)), (1, .int (nI j)), (2, .int (nI 4))] 88 [.int (nI (ndj st r j))]
    exact z_iret C hRx dX5_jobOf_88 (beg2, prt2) rfl trivial rfl
  · skip
    refine z_aload_n C 0 rfl rfl dX5_jobOf_0 1 rfl ?_
    refine z_iload_n C 1 rfl rfl dX5_jobOf_1 2 rfl ?_
    refine z_callV C [.int (nI j)] [] (tX5_isJob K.l K.g y all kept hist hl slo sav beg prt frm txt tl sp tol rd st r n (nI j) (by first | omega | assumption) (by first | omega | assumption)) gX5_jobOf_X5_isJob rfl rfl rfl hdX5_isJob ⟨Nat.le_of_ble_eq_true rfl, Nat.le_of_ble_eq_true rfl⟩ ⟨Nat.zero_le _, Nat.zero_le _⟩ 0 0 rfl rfl rfl [0] rfl rfl (zlc (N := 1) rfl rfl) [1] rfl (by decide) (fun _ : Unit => [wM K.g y all kept hist hl slo sav beg prt frm txt tl sp tol rd]) (fun _ => rfl) rfl rfl (Nat.le_of_ble_eq_true rfl) dX5_jobOf_2 5 rfl (fun u9 hu9 => ?_)
    show Z K 0 0 [wM K.g y all kept hist hl slo sav beg prt frm txt tl sp tol rd] [(0, .ref (y 0)), (1, .int (nI j)), (2, .int (nI 5))] 5 [.int (bI (isJ (nI j) n))]
    refine z_ifb_ne C 10 dX5_jobOf_5 (by decide) 8 rfl (fun c_6 => ?_) (fun c_6 => ?_)
    rotate_left
    · exfalso; rw [isJ_t (by omega) (by omega)] at c_6; exact Bool.noConfusion c_6
    refine z_aload_n C 0 rfl rfl dX5_jobOf_10 11 rfl ?_
    refine z_callV C [] [] (tX5_prints K.l K.g y all kept hist hl slo sav beg prt frm txt tl sp tol rd st r n (by first | omega | assumption) (by first | omega | assumption) (by first | omega | assumption) (by first | omega | assumption) (by first | omega | assumption)) gX5_jobOf_X5_prints rfl rfl rfl hdX5_prints ⟨Nat.le_of_ble_eq_true rfl, Nat.le_of_ble_eq_true rfl⟩ ⟨Nat.zero_le _, Nat.zero_le _⟩ 0 0 rfl rfl rfl [0] rfl rfl (zlc (N := 1) rfl rfl) [1] rfl (by decide) (fun u : (Nat → Nat) × (Nat → Nat) => match u with | (beg2, prt2) => [wM K.g y all kept hist hl slo sav beg2 prt2 frm txt tl sp tol rd]) (fun _ => rfl) rfl rfl (Nat.le_of_ble_eq_true rfl) dX5_jobOf_11 14 rfl (fun u9 hu9 => ?_)
    obtain ⟨beg2, prt2⟩ := u9
    obtain ⟨hP, hE, hp⟩ := hu9
    have hP : isP st r (st 5) prt2 n := hP
    have hE : ∀ i, i < n → beg2 i + (rdy st r i + r 2 i * st 3) = prt2 i := hE
    have hp : ∀ i, i < n → prt2 i ≤ 14400 := hp
    show Z K 0 0 [wM K.g y all kept hist hl slo sav beg2 prt2 frm txt tl sp tol rd] [(0, .ref (y 0)), (1, .int (nI j)), (2, .int (nI 5))] 14 []
    have hp30 : ∀ i, i < n → prt2 i ≤ 30000 := fun i hi => Nat.le_trans (hp i hi) (by decide)
    refine z_iload_n C 2 rfl rfl dX5_jobOf_14 15 rfl ?_
    refine z_tab C (by decide) 89 dX5_jobOf_15 (by decide) (by decide) rfl (by decide) ?_
    refine z_aload_n C 0 rfl rfl dX5_jobOf_89 90 rfl ?_
    refine z_get C zc5 iX5_jobOf_X5 0 0 rfl rfl 6 (Nat.le_of_ble_eq_true rfl) (List.mem_of_getElem? (i := 1) rfl) (v := .ref (y 6)) rfl dX5_jobOf_90 93 rfl ?_
    refine z_iload_n C 1 rfl rfl dX5_jobOf_93 94 rfl ?_
    refine z_iald C (f := beg2) 0 6 rfl rfl (by omega) (by decide) dX5_jobOf_94 95 rfl ?_
    exact z_iret C hRx dX5_jobOf_95 (beg2, prt2) (congrArg (fun z => some (Value.int (nI z))) (BG_e hP hE hj).symm) trivial rfl
  · skip
    refine z_aload_n C 0 rfl rfl dX5_jobOf_0 1 rfl ?_
    refine z_iload_n C 1 rfl rfl dX5_jobOf_1 2 rfl ?_
    refine z_callV C [.int (nI j)] [] (tX5_isJob K.l K.g y all kept hist hl slo sav beg prt frm txt tl sp tol rd st r n (nI j) (by first | omega | assumption) (by first | omega | assumption)) gX5_jobOf_X5_isJob rfl rfl rfl hdX5_isJob ⟨Nat.le_of_ble_eq_true rfl, Nat.le_of_ble_eq_true rfl⟩ ⟨Nat.zero_le _, Nat.zero_le _⟩ 0 0 rfl rfl rfl [0] rfl rfl (zlc (N := 1) rfl rfl) [1] rfl (by decide) (fun _ : Unit => [wM K.g y all kept hist hl slo sav beg prt frm txt tl sp tol rd]) (fun _ => rfl) rfl rfl (Nat.le_of_ble_eq_true rfl) dX5_jobOf_2 5 rfl (fun u9 hu9 => ?_)
    show Z K 0 0 [wM K.g y all kept hist hl slo sav beg prt frm txt tl sp tol rd] [(0, .ref (y 0)), (1, .int (nI j)), (2, .int (nI 6))] 5 [.int (bI (isJ (nI j) n))]
    refine z_ifb_ne C 10 dX5_jobOf_5 (by decide) 8 rfl (fun c_7 => ?_) (fun c_7 => ?_)
    rotate_left
    · exfalso; rw [isJ_t (by omega) (by omega)] at c_7; exact Bool.noConfusion c_7
    refine z_aload_n C 0 rfl rfl dX5_jobOf_10 11 rfl ?_
    refine z_callV C [] [] (tX5_prints K.l K.g y all kept hist hl slo sav beg prt frm txt tl sp tol rd st r n (by first | omega | assumption) (by first | omega | assumption) (by first | omega | assumption) (by first | omega | assumption) (by first | omega | assumption)) gX5_jobOf_X5_prints rfl rfl rfl hdX5_prints ⟨Nat.le_of_ble_eq_true rfl, Nat.le_of_ble_eq_true rfl⟩ ⟨Nat.zero_le _, Nat.zero_le _⟩ 0 0 rfl rfl rfl [0] rfl rfl (zlc (N := 1) rfl rfl) [1] rfl (by decide) (fun u : (Nat → Nat) × (Nat → Nat) => match u with | (beg2, prt2) => [wM K.g y all kept hist hl slo sav beg2 prt2 frm txt tl sp tol rd]) (fun _ => rfl) rfl rfl (Nat.le_of_ble_eq_true rfl) dX5_jobOf_11 14 rfl (fun u9 hu9 => ?_)
    obtain ⟨beg2, prt2⟩ := u9
    obtain ⟨hP, hE, hp⟩ := hu9
    have hP : isP st r (st 5) prt2 n := hP
    have hE : ∀ i, i < n → beg2 i + (rdy st r i + r 2 i * st 3) = prt2 i := hE
    have hp : ∀ i, i < n → prt2 i ≤ 14400 := hp
    show Z K 0 0 [wM K.g y all kept hist hl slo sav beg2 prt2 frm txt tl sp tol rd] [(0, .ref (y 0)), (1, .int (nI j)), (2, .int (nI 6))] 14 []
    have hp30 : ∀ i, i < n → prt2 i ≤ 30000 := fun i hi => Nat.le_trans (hp i hi) (by decide)
    refine z_iload_n C 2 rfl rfl dX5_jobOf_14 15 rfl ?_
    refine z_tab C (by decide) 96 dX5_jobOf_15 (by decide) (by decide) rfl (by decide) ?_
    refine z_aload_n C 0 rfl rfl dX5_jobOf_96 97 rfl ?_
    refine z_get C zc5 iX5_jobOf_X5 0 0 rfl rfl 7 (Nat.le_of_ble_eq_true rfl) (List.mem_of_getElem? (i := 2) rfl) (v := .ref (y 7)) rfl dX5_jobOf_97 100 rfl ?_
    refine z_iload_n C 1 rfl rfl dX5_jobOf_100 101 rfl ?_
    refine z_iald C (f := prt2) 0 7 rfl rfl (by omega) (by decide) dX5_jobOf_101 102 rfl ?_
    exact z_iret C hRx dX5_jobOf_102 (beg2, prt2) (congrArg (fun z => some (Value.int (nI z))) (PP_e hP j hj).symm) trivial rfl
  · skip
    refine z_aload_n C 0 rfl rfl dX5_jobOf_0 1 rfl ?_
    refine z_iload_n C 1 rfl rfl dX5_jobOf_1 2 rfl ?_
    refine z_callV C [.int (nI j)] [] (tX5_isJob K.l K.g y all kept hist hl slo sav beg prt frm txt tl sp tol rd st r n (nI j) (by first | omega | assumption) (by first | omega | assumption)) gX5_jobOf_X5_isJob rfl rfl rfl hdX5_isJob ⟨Nat.le_of_ble_eq_true rfl, Nat.le_of_ble_eq_true rfl⟩ ⟨Nat.zero_le _, Nat.zero_le _⟩ 0 0 rfl rfl rfl [0] rfl rfl (zlc (N := 1) rfl rfl) [1] rfl (by decide) (fun _ : Unit => [wM K.g y all kept hist hl slo sav beg prt frm txt tl sp tol rd]) (fun _ => rfl) rfl rfl (Nat.le_of_ble_eq_true rfl) dX5_jobOf_2 5 rfl (fun u9 hu9 => ?_)
    show Z K 0 0 [wM K.g y all kept hist hl slo sav beg prt frm txt tl sp tol rd] [(0, .ref (y 0)), (1, .int (nI j)), (2, .int (nI 7))] 5 [.int (bI (isJ (nI j) n))]
    refine z_ifb_ne C 10 dX5_jobOf_5 (by decide) 8 rfl (fun c_8 => ?_) (fun c_8 => ?_)
    rotate_left
    · exfalso; rw [isJ_t (by omega) (by omega)] at c_8; exact Bool.noConfusion c_8
    refine z_aload_n C 0 rfl rfl dX5_jobOf_10 11 rfl ?_
    refine z_callV C [] [] (tX5_prints K.l K.g y all kept hist hl slo sav beg prt frm txt tl sp tol rd st r n (by first | omega | assumption) (by first | omega | assumption) (by first | omega | assumption) (by first | omega | assumption) (by first | omega | assumption)) gX5_jobOf_X5_prints rfl rfl rfl hdX5_prints ⟨Nat.le_of_ble_eq_true rfl, Nat.le_of_ble_eq_true rfl⟩ ⟨Nat.zero_le _, Nat.zero_le _⟩ 0 0 rfl rfl rfl [0] rfl rfl (zlc (N := 1) rfl rfl) [1] rfl (by decide) (fun u : (Nat → Nat) × (Nat → Nat) => match u with | (beg2, prt2) => [wM K.g y all kept hist hl slo sav beg2 prt2 frm txt tl sp tol rd]) (fun _ => rfl) rfl rfl (Nat.le_of_ble_eq_true rfl) dX5_jobOf_11 14 rfl (fun u9 hu9 => ?_)
    obtain ⟨beg2, prt2⟩ := u9
    obtain ⟨hP, hE, hp⟩ := hu9
    have hP : isP st r (st 5) prt2 n := hP
    have hE : ∀ i, i < n → beg2 i + (rdy st r i + r 2 i * st 3) = prt2 i := hE
    have hp : ∀ i, i < n → prt2 i ≤ 14400 := hp
    show Z K 0 0 [wM K.g y all kept hist hl slo sav beg2 prt2 frm txt tl sp tol rd] [(0, .ref (y 0)), (1, .int (nI j)), (2, .int (nI 7))] 14 []
    have hp30 : ∀ i, i < n → prt2 i ≤ 30000 := fun i hi => Nat.le_trans (hp i hi) (by decide)
    refine z_iload_n C 2 rfl rfl dX5_jobOf_14 15 rfl ?_
    refine z_tab C (by decide) 103 dX5_jobOf_15 (by decide) (by decide) rfl (by decide) ?_
    refine z_aload_n C 0 rfl rfl dX5_jobOf_103 104 rfl ?_
    refine z_iload_n C 1 rfl rfl dX5_jobOf_104 105 rfl ?_
    refine z_callV C [.int (nI j)] [] (tX5_dry K.l K.g y all kept hist hl slo sav beg2 prt2 frm txt tl sp tol rd st r n j (by first | omega | assumption) (by first | omega | assumption) (by first | omega | assumption)) gX5_jobOf_X5_dry rfl rfl rfl hdX5_dry ⟨Nat.le_of_ble_eq_true rfl, Nat.le_of_ble_eq_true rfl⟩ ⟨Nat.zero_le _, Nat.zero_le _⟩ 0 0 rfl rfl rfl [0] rfl rfl (zlc (N := 1) rfl rfl) [1] rfl (by decide) (fun _ : Unit => [wM K.g y all kept hist hl slo sav beg2 prt2 frm txt tl sp tol rd]) (fun _ => rfl) rfl rfl (Nat.le_of_ble_eq_true rfl) dX5_jobOf_105 108 rfl (fun u9 hu9 => ?_)
    show Z K 0 0 [wM K.g y all kept hist hl slo sav beg2 prt2 frm txt tl sp tol rd] [(0, .ref (y 0)), (1, .int (nI j)), (2, .int (nI 7))] 108 [.int (nI (prt2 j + st 4))]
    exact z_iret C hRx dX5_jobOf_108 (beg2, prt2) (congrArg (fun z => some (Value.int (nI z))) (PD_e hP hj).symm) trivial rfl
  · skip
    refine z_aload_n C 0 rfl rfl dX5_jobOf_0 1 rfl ?_
    refine z_iload_n C 1 rfl rfl dX5_jobOf_1 2 rfl ?_
    refine z_callV C [.int (nI j)] [] (tX5_isJob K.l K.g y all kept hist hl slo sav beg prt frm txt tl sp tol rd st r n (nI j) (by first | omega | assumption) (by first | omega | assumption)) gX5_jobOf_X5_isJob rfl rfl rfl hdX5_isJob ⟨Nat.le_of_ble_eq_true rfl, Nat.le_of_ble_eq_true rfl⟩ ⟨Nat.zero_le _, Nat.zero_le _⟩ 0 0 rfl rfl rfl [0] rfl rfl (zlc (N := 1) rfl rfl) [1] rfl (by decide) (fun _ : Unit => [wM K.g y all kept hist hl slo sav beg prt frm txt tl sp tol rd]) (fun _ => rfl) rfl rfl (Nat.le_of_ble_eq_true rfl) dX5_jobOf_2 5 rfl (fun u9 hu9 => ?_)
    show Z K 0 0 [wM K.g y all kept hist hl slo sav beg prt frm txt tl sp tol rd] [(0, .ref (y 0)), (1, .int (nI j)), (2, .int (nI 8))] 5 [.int (bI (isJ (nI j) n))]
    refine z_ifb_ne C 10 dX5_jobOf_5 (by decide) 8 rfl (fun c_9 => ?_) (fun c_9 => ?_)
    rotate_left
    · exfalso; rw [isJ_t (by omega) (by omega)] at c_9; exact Bool.noConfusion c_9
    refine z_aload_n C 0 rfl rfl dX5_jobOf_10 11 rfl ?_
    refine z_callV C [] [] (tX5_prints K.l K.g y all kept hist hl slo sav beg prt frm txt tl sp tol rd st r n (by first | omega | assumption) (by first | omega | assumption) (by first | omega | assumption) (by first | omega | assumption) (by first | omega | assumption)) gX5_jobOf_X5_prints rfl rfl rfl hdX5_prints ⟨Nat.le_of_ble_eq_true rfl, Nat.le_of_ble_eq_true rfl⟩ ⟨Nat.zero_le _, Nat.zero_le _⟩ 0 0 rfl rfl rfl [0] rfl rfl (zlc (N := 1) rfl rfl) [1] rfl (by decide) (fun u : (Nat → Nat) × (Nat → Nat) => match u with | (beg2, prt2) => [wM K.g y all kept hist hl slo sav beg2 prt2 frm txt tl sp tol rd]) (fun _ => rfl) rfl rfl (Nat.le_of_ble_eq_true rfl) dX5_jobOf_11 14 rfl (fun u9 hu9 => ?_)
    obtain ⟨beg2, prt2⟩ := u9
    obtain ⟨hP, hE, hp⟩ := hu9
    have hP : isP st r (st 5) prt2 n := hP
    have hE : ∀ i, i < n → beg2 i + (rdy st r i + r 2 i * st 3) = prt2 i := hE
    have hp : ∀ i, i < n → prt2 i ≤ 14400 := hp
    show Z K 0 0 [wM K.g y all kept hist hl slo sav beg2 prt2 frm txt tl sp tol rd] [(0, .ref (y 0)), (1, .int (nI j)), (2, .int (nI 8))] 14 []
    have hp30 : ∀ i, i < n → prt2 i ≤ 30000 := fun i hi => Nat.le_trans (hp i hi) (by decide)
    refine z_iload_n C 2 rfl rfl dX5_jobOf_14 15 rfl ?_
    refine z_tab C (by decide) 109 dX5_jobOf_15 (by decide) (by decide) rfl (by decide) ?_
    refine z_aload_n C 0 rfl rfl dX5_jobOf_109 110 rfl ?_
    refine z_iload_n C 1 rfl rfl dX5_jobOf_110 111 rfl ?_
    refine z_callV C [.int (nI j)] [] (tX5_late K.l K.g y all kept hist hl slo sav beg2 prt2 frm txt tl sp tol rd st r n j (by first | omega | assumption) (by first | omega | assumption) (by first | omega | assumption) (by first | omega | assumption) (by first | omega | assumption) hp30) gX5_jobOf_X5_late rfl rfl rfl hdX5_late ⟨Nat.le_of_ble_eq_true rfl, Nat.le_of_ble_eq_true rfl⟩ ⟨Nat.zero_le _, Nat.zero_le _⟩ 0 0 rfl rfl rfl [0] rfl rfl (zlc (N := 1) rfl rfl) [1] rfl (by decide) (fun _ : Unit => [wM K.g y all kept hist hl slo sav beg2 prt2 frm txt tl sp tol rd]) (fun _ => rfl) rfl rfl (Nat.le_of_ble_eq_true rfl) dX5_jobOf_111 114 rfl (fun u9 hu9 => ?_)
    show Z K 0 0 [wM K.g y all kept hist hl slo sav beg2 prt2 frm txt tl sp tol rd] [(0, .ref (y 0)), (1, .int (nI j)), (2, .int (nI 8))] 114 [.int (nI (prt2 j + st 4 - r 3 j))]
    exact z_iret C hRx dX5_jobOf_114 (beg2, prt2) (congrArg (fun z => some (Value.int (nI z))) (PL_e hP hj).symm) trivial rfl
  · skip
    refine z_aload_n C 0 rfl rfl dX5_jobOf_0 1 rfl ?_
    refine z_iload_n C 1 rfl rfl dX5_jobOf_1 2 rfl ?_
    refine z_callV C [.int (nI j)] [] (tX5_isJob K.l K.g y all kept hist hl slo sav beg prt frm txt tl sp tol rd st r n (nI j) (by first | omega | assumption) (by first | omega | assumption)) gX5_jobOf_X5_isJob rfl rfl rfl hdX5_isJob ⟨Nat.le_of_ble_eq_true rfl, Nat.le_of_ble_eq_true rfl⟩ ⟨Nat.zero_le _, Nat.zero_le _⟩ 0 0 rfl rfl rfl [0] rfl rfl (zlc (N := 1) rfl rfl) [1] rfl (by decide) (fun _ : Unit => [wM K.g y all kept hist hl slo sav beg prt frm txt tl sp tol rd]) (fun _ => rfl) rfl rfl (Nat.le_of_ble_eq_true rfl) dX5_jobOf_2 5 rfl (fun u9 hu9 => ?_)
    show Z K 0 0 [wM K.g y all kept hist hl slo sav beg prt frm txt tl sp tol rd] [(0, .ref (y 0)), (1, .int (nI j)), (2, .int (nI 9))] 5 [.int (bI (isJ (nI j) n))]
    refine z_ifb_ne C 10 dX5_jobOf_5 (by decide) 8 rfl (fun c_10 => ?_) (fun c_10 => ?_)
    rotate_left
    · exfalso; rw [isJ_t (by omega) (by omega)] at c_10; exact Bool.noConfusion c_10
    refine z_aload_n C 0 rfl rfl dX5_jobOf_10 11 rfl ?_
    refine z_callV C [] [] (tX5_prints K.l K.g y all kept hist hl slo sav beg prt frm txt tl sp tol rd st r n (by first | omega | assumption) (by first | omega | assumption) (by first | omega | assumption) (by first | omega | assumption) (by first | omega | assumption)) gX5_jobOf_X5_prints rfl rfl rfl hdX5_prints ⟨Nat.le_of_ble_eq_true rfl, Nat.le_of_ble_eq_true rfl⟩ ⟨Nat.zero_le _, Nat.zero_le _⟩ 0 0 rfl rfl rfl [0] rfl rfl (zlc (N := 1) rfl rfl) [1] rfl (by decide) (fun u : (Nat → Nat) × (Nat → Nat) => match u with | (beg2, prt2) => [wM K.g y all kept hist hl slo sav beg2 prt2 frm txt tl sp tol rd]) (fun _ => rfl) rfl rfl (Nat.le_of_ble_eq_true rfl) dX5_jobOf_11 14 rfl (fun u9 hu9 => ?_)
    obtain ⟨beg2, prt2⟩ := u9
    obtain ⟨hP, hE, hp⟩ := hu9
    have hP : isP st r (st 5) prt2 n := hP
    have hE : ∀ i, i < n → beg2 i + (rdy st r i + r 2 i * st 3) = prt2 i := hE
    have hp : ∀ i, i < n → prt2 i ≤ 14400 := hp
    show Z K 0 0 [wM K.g y all kept hist hl slo sav beg2 prt2 frm txt tl sp tol rd] [(0, .ref (y 0)), (1, .int (nI j)), (2, .int (nI 9))] 14 []
    have hp30 : ∀ i, i < n → prt2 i ≤ 30000 := fun i hi => Nat.le_trans (hp i hi) (by decide)
    refine z_iload_n C 2 rfl rfl dX5_jobOf_14 15 rfl ?_
    refine z_tab C (by decide) 115 dX5_jobOf_15 (by decide) (by decide) rfl (by decide) ?_
    refine z_aload_n C 0 rfl rfl dX5_jobOf_115 116 rfl ?_
    refine z_iload_n C 1 rfl rfl dX5_jobOf_116 117 rfl ?_
    refine z_callV C [.int (nI j)] [] (tX5_waits K.l K.g y all kept hist hl slo sav beg2 prt2 frm txt tl sp tol rd j (by omega) (BF_e hP hE hj)) gX5_jobOf_X5_waits rfl rfl rfl hdX5_waits ⟨Nat.le_of_ble_eq_true rfl, Nat.le_of_ble_eq_true rfl⟩ ⟨Nat.zero_le _, Nat.zero_le _⟩ 0 0 rfl rfl rfl [0] rfl rfl (zlc (N := 1) rfl rfl) [1] rfl (by decide) (fun _ : Unit => [wM K.g y all kept hist hl slo sav beg2 prt2 frm txt tl sp tol rd]) (fun _ => rfl) rfl rfl (Nat.le_of_ble_eq_true rfl) dX5_jobOf_117 120 rfl (fun u9 hu9 => ?_)
    show Z K 0 0 [wM K.g y all kept hist hl slo sav beg2 prt2 frm txt tl sp tol rd] [(0, .ref (y 0)), (1, .int (nI j)), (2, .int (nI 9))] 120 [.int (nI (beg2 j - fre prt2 j))]
    exact z_iret C hRx dX5_jobOf_120 (beg2, prt2) (congrArg (fun z => some (Value.int (nI z))) (BW_e hP hE hj).symm) trivial rfl
  · skip
    refine z_aload_n C 0 rfl rfl dX5_jobOf_0 1 rfl ?_
    refine z_iload_n C 1 rfl rfl dX5_jobOf_1 2 rfl ?_
    refine z_callV C [.int (nI j)] [] (tX5_isJob K.l K.g y all kept hist hl slo sav beg prt frm txt tl sp tol rd st r n (nI j) (by first | omega | assumption) (by first | omega | assumption)) gX5_jobOf_X5_isJob rfl rfl rfl hdX5_isJob ⟨Nat.le_of_ble_eq_true rfl, Nat.le_of_ble_eq_true rfl⟩ ⟨Nat.zero_le _, Nat.zero_le _⟩ 0 0 rfl rfl rfl [0] rfl rfl (zlc (N := 1) rfl rfl) [1] rfl (by decide) (fun _ : Unit => [wM K.g y all kept hist hl slo sav beg prt frm txt tl sp tol rd]) (fun _ => rfl) rfl rfl (Nat.le_of_ble_eq_true rfl) dX5_jobOf_2 5 rfl (fun u9 hu9 => ?_)
    show Z K 0 0 [wM K.g y all kept hist hl slo sav beg prt frm txt tl sp tol rd] [(0, .ref (y 0)), (1, .int (nI j)), (2, .int (nI 10))] 5 [.int (bI (isJ (nI j) n))]
    refine z_ifb_ne C 10 dX5_jobOf_5 (by decide) 8 rfl (fun c_11 => ?_) (fun c_11 => ?_)
    rotate_left
    · exfalso; rw [isJ_t (by omega) (by omega)] at c_11; exact Bool.noConfusion c_11
    refine z_aload_n C 0 rfl rfl dX5_jobOf_10 11 rfl ?_
    refine z_callV C [] [] (tX5_prints K.l K.g y all kept hist hl slo sav beg prt frm txt tl sp tol rd st r n (by first | omega | assumption) (by first | omega | assumption) (by first | omega | assumption) (by first | omega | assumption) (by first | omega | assumption)) gX5_jobOf_X5_prints rfl rfl rfl hdX5_prints ⟨Nat.le_of_ble_eq_true rfl, Nat.le_of_ble_eq_true rfl⟩ ⟨Nat.zero_le _, Nat.zero_le _⟩ 0 0 rfl rfl rfl [0] rfl rfl (zlc (N := 1) rfl rfl) [1] rfl (by decide) (fun u : (Nat → Nat) × (Nat → Nat) => match u with | (beg2, prt2) => [wM K.g y all kept hist hl slo sav beg2 prt2 frm txt tl sp tol rd]) (fun _ => rfl) rfl rfl (Nat.le_of_ble_eq_true rfl) dX5_jobOf_11 14 rfl (fun u9 hu9 => ?_)
    obtain ⟨beg2, prt2⟩ := u9
    obtain ⟨hP, hE, hp⟩ := hu9
    have hP : isP st r (st 5) prt2 n := hP
    have hE : ∀ i, i < n → beg2 i + (rdy st r i + r 2 i * st 3) = prt2 i := hE
    have hp : ∀ i, i < n → prt2 i ≤ 14400 := hp
    show Z K 0 0 [wM K.g y all kept hist hl slo sav beg2 prt2 frm txt tl sp tol rd] [(0, .ref (y 0)), (1, .int (nI j)), (2, .int (nI 10))] 14 []
    have hp30 : ∀ i, i < n → prt2 i ≤ 30000 := fun i hi => Nat.le_trans (hp i hi) (by decide)
    refine z_iload_n C 2 rfl rfl dX5_jobOf_14 15 rfl ?_
    refine z_tab C (by decide) 121 dX5_jobOf_15 (by decide) (by decide) rfl (by decide) ?_
    refine z_aload_n C 0 rfl rfl dX5_jobOf_121 122 rfl ?_
    refine z_iload_n C 1 rfl rfl dX5_jobOf_122 123 rfl ?_
    refine z_callV C [.int (nI j)] [] (tX5_readyFor K.l K.g y all kept hist hl slo sav beg2 prt2 frm txt tl sp tol rd st r n j (by first | omega | assumption) (by first | omega | assumption) (by first | omega | assumption) (by first | omega | assumption) (by first | omega | assumption)) gX5_jobOf_X5_readyFor rfl rfl rfl hdX5_readyFor ⟨Nat.le_of_ble_eq_true rfl, Nat.le_of_ble_eq_true rfl⟩ ⟨Nat.zero_le _, Nat.zero_le _⟩ 0 0 rfl rfl rfl [0] rfl rfl (zlc (N := 1) rfl rfl) [1] rfl (by decide) (fun _ : Unit => [wM K.g y all kept hist hl slo sav beg2 prt2 frm txt tl sp tol rd]) (fun _ => rfl) rfl rfl (Nat.le_of_ble_eq_true rfl) dX5_jobOf_123 126 rfl (fun u9 hu9 => ?_)
    show Z K 0 0 [wM K.g y all kept hist hl slo sav beg2 prt2 frm txt tl sp tol rd] [(0, .ref (y 0)), (1, .int (nI j)), (2, .int (nI 10))] 126 [.int (nI (rdy st r j))]
    exact z_iret C hRx dX5_jobOf_126 (beg2, prt2) rfl trivial rfl
  · skip
    refine z_aload_n C 0 rfl rfl dX5_jobOf_0 1 rfl ?_
    refine z_iload_n C 1 rfl rfl dX5_jobOf_1 2 rfl ?_
    refine z_callV C [.int (nI j)] [] (tX5_isJob K.l K.g y all kept hist hl slo sav beg prt frm txt tl sp tol rd st r n (nI j) (by first | omega | assumption) (by first | omega | assumption)) gX5_jobOf_X5_isJob rfl rfl rfl hdX5_isJob ⟨Nat.le_of_ble_eq_true rfl, Nat.le_of_ble_eq_true rfl⟩ ⟨Nat.zero_le _, Nat.zero_le _⟩ 0 0 rfl rfl rfl [0] rfl rfl (zlc (N := 1) rfl rfl) [1] rfl (by decide) (fun _ : Unit => [wM K.g y all kept hist hl slo sav beg prt frm txt tl sp tol rd]) (fun _ => rfl) rfl rfl (Nat.le_of_ble_eq_true rfl) dX5_jobOf_2 5 rfl (fun u9 hu9 => ?_)
    show Z K 0 0 [wM K.g y all kept hist hl slo sav beg prt frm txt tl sp tol rd] [(0, .ref (y 0)), (1, .int (nI j)), (2, .int (nI 11))] 5 [.int (bI (isJ (nI j) n))]
    refine z_ifb_ne C 10 dX5_jobOf_5 (by decide) 8 rfl (fun c_12 => ?_) (fun c_12 => ?_)
    rotate_left
    · exfalso; rw [isJ_t (by omega) (by omega)] at c_12; exact Bool.noConfusion c_12
    refine z_aload_n C 0 rfl rfl dX5_jobOf_10 11 rfl ?_
    refine z_callV C [] [] (tX5_prints K.l K.g y all kept hist hl slo sav beg prt frm txt tl sp tol rd st r n (by first | omega | assumption) (by first | omega | assumption) (by first | omega | assumption) (by first | omega | assumption) (by first | omega | assumption)) gX5_jobOf_X5_prints rfl rfl rfl hdX5_prints ⟨Nat.le_of_ble_eq_true rfl, Nat.le_of_ble_eq_true rfl⟩ ⟨Nat.zero_le _, Nat.zero_le _⟩ 0 0 rfl rfl rfl [0] rfl rfl (zlc (N := 1) rfl rfl) [1] rfl (by decide) (fun u : (Nat → Nat) × (Nat → Nat) => match u with | (beg2, prt2) => [wM K.g y all kept hist hl slo sav beg2 prt2 frm txt tl sp tol rd]) (fun _ => rfl) rfl rfl (Nat.le_of_ble_eq_true rfl) dX5_jobOf_11 14 rfl (fun u9 hu9 => ?_)
    obtain ⟨beg2, prt2⟩ := u9
    obtain ⟨hP, hE, hp⟩ := hu9
    have hP : isP st r (st 5) prt2 n := hP
    have hE : ∀ i, i < n → beg2 i + (rdy st r i + r 2 i * st 3) = prt2 i := hE
    have hp : ∀ i, i < n → prt2 i ≤ 14400 := hp
    show Z K 0 0 [wM K.g y all kept hist hl slo sav beg2 prt2 frm txt tl sp tol rd] [(0, .ref (y 0)), (1, .int (nI j)), (2, .int (nI 11))] 14 []
    have hp30 : ∀ i, i < n → prt2 i ≤ 30000 := fun i hi => Nat.le_trans (hp i hi) (by decide)
    refine z_iload_n C 2 rfl rfl dX5_jobOf_14 15 rfl ?_
    refine z_tab C (by decide) 127 dX5_jobOf_15 (by decide) (by decide) rfl (by decide) ?_
    refine z_aload_n C 0 rfl rfl dX5_jobOf_127 128 rfl ?_
    refine z_iload_n C 1 rfl rfl dX5_jobOf_128 129 rfl ?_
    refine z_callV C [.int (nI j)] [] (tX5_washFor K.l K.g y all kept hist hl slo sav beg2 prt2 frm txt tl sp tol rd st r n j (by first | omega | assumption) (by first | omega | assumption) (by first | omega | assumption) (by first | omega | assumption) (by first | omega | assumption)) gX5_jobOf_X5_washFor rfl rfl rfl hdX5_washFor ⟨Nat.le_of_ble_eq_true rfl, Nat.le_of_ble_eq_true rfl⟩ ⟨Nat.zero_le _, Nat.zero_le _⟩ 0 0 rfl rfl rfl [0] rfl rfl (zlc (N := 1) rfl rfl) [1] rfl (by decide) (fun _ : Unit => [wM K.g y all kept hist hl slo sav beg2 prt2 frm txt tl sp tol rd]) (fun _ => rfl) rfl rfl (Nat.le_of_ble_eq_true rfl) dX5_jobOf_129 132 rfl (fun u9 hu9 => ?_)
    show Z K 0 0 [wM K.g y all kept hist hl slo sav beg2 prt2 frm txt tl sp tol rd] [(0, .ref (y 0)), (1, .int (nI j)), (2, .int (nI 11))] 132 [.int (nI (wsh st r j))]
    exact z_iret C hRx dX5_jobOf_132 (beg2, prt2) rfl trivial rfl

set_option maxHeartbeats 4000000 in
set_option maxRecDepth 100000 in
theorem tX5_count_bv (l : Launch) (g : zG) (y all kept hist : Nat → Nat) (hl : Nat) (slo sav beg prt frm txt : Nat → Nat) (tl sp : Nat) (tol : Nat → Nat) (rd : Nat) (st : Nat → Nat) (r : Nat → Nat → Nat) (n : Nat) (w : Int32) (hn : n ≤ 12) (hB : Bd all st r n) (hS : okS st) (hJ : okJ r n) (hR : okR st r n (st 5)) (hb : rg w.toInt (Int.ofNat 0) (Int.ofNat 19) = false) : Met l yX5_count wsX5_count ({ frames := 4, cells := 0, slots := 0, locals := 91 } : Room) (zPre g [.ref (y 0), .int w] [wM g y all kept hist hl slo sav beg prt frm txt tl sp tol rd]) (zQ g (fun u : (Nat → Nat) × (Nat → Nat) => match u with | (beg2, prt2) => some (.int (-2)) ) (fun u : (Nat → Nat) × (Nat → Nat) => match u with | (beg2, prt2) => True) (fun u : (Nat → Nat) × (Nat → Nat) => match u with | (beg2, prt2) => [wM g y all kept hist hl slo sav beg2 prt2 frm txt tl sp tol rd]) (zA [wM g y all kept hist hl slo sav beg prt frm txt tl sp tol rd])) 0 0 (zA [wM g y all kept hist hl slo sav beg prt frm txt tl sp tol rd]) := by
  refine z_entry (cc := cX5_count) (maxL := 2) (ret := (some .int)) (own := RX5) (by decide) rfl rfl (Nat.le_of_ble_eq_true rfl) [(0, .ref (y 0)), (1, .int w)] rfl ?_
  intro K hKl hKg hnL C hRx
  subst hKl
  subst hKg
  refine z_aload_n C 0 rfl rfl dX5_count_0 1 rfl ?_
  refine z_callV C [] [] (tX5_prints K.l K.g y all kept hist hl slo sav beg prt frm txt tl sp tol rd st r n (by first | omega | assumption) (by first | omega | assumption) (by first | omega | assumption) (by first | omega | assumption) (by first | omega | assumption)) gX5_count_X5_prints rfl rfl rfl hdX5_prints ⟨Nat.le_of_ble_eq_true rfl, Nat.le_of_ble_eq_true rfl⟩ ⟨Nat.zero_le _, Nat.zero_le _⟩ 0 0 rfl rfl rfl [0] rfl rfl (zlc (N := 1) rfl rfl) [1] rfl (by decide) (fun u : (Nat → Nat) × (Nat → Nat) => match u with | (beg2, prt2) => [wM K.g y all kept hist hl slo sav beg2 prt2 frm txt tl sp tol rd]) (fun _ => rfl) rfl rfl (Nat.le_of_ble_eq_true rfl) dX5_count_1 4 rfl (fun u9 hu9 => ?_)
  obtain ⟨beg2, prt2⟩ := u9
  obtain ⟨hP, hE, hp⟩ := hu9
  have hP : isP st r (st 5) prt2 n := hP
  have hE : ∀ i, i < n → beg2 i + (rdy st r i + r 2 i * st 3) = prt2 i := hE
  have hp : ∀ i, i < n → prt2 i ≤ 14400 := hp
  show Z K 0 0 [wM K.g y all kept hist hl slo sav beg2 prt2 frm txt tl sp tol rd] [(0, .ref (y 0)), (1, .int w)] 4 []
  have hp30 : ∀ i, i < n → prt2 i ≤ 30000 := fun i hi => Nat.le_trans (hp i hi) (by decide)
  refine z_iload_n C 1 rfl rfl dX5_count_4 5 rfl ?_
  refine z_tabO C 102 dX5_count_5 (tab_c hb) (by decide) ?_
  refine z_iload_n C 1 rfl rfl dX5_count_102 103 rfl ?_
  refine z_i2l C dX5_count_103 104 rfl ?_
  refine z_lconst C (v := lN 0) rfl dX5_count_104 105 rfl ?_
  refine z_ldc2 C (v := lN 6) (List.mem_of_getElem? (i := 4) rfl) dX5_count_105 108 rfl ?_
  refine z_callP C [.long ((w).toInt64), .long (lN 0), .long (lN 6)] [] (tX5_inI K.l K.g w 0 6 (by first | omega | assumption) (by first | omega | assumption)) gX5_count_X5_in rfl rfl rfl hdX5_in ⟨Nat.le_of_ble_eq_true rfl, Nat.le_of_ble_eq_true rfl⟩ ⟨Nat.zero_le _, Nat.zero_le _⟩ rfl rfl (Nat.le_of_ble_eq_true rfl) dX5_count_108 111 rfl (fun u9 hu9 => ?_)
  show Z K 0 0 [wM K.g y all kept hist hl slo sav beg2 prt2 frm txt tl sp tol rd] [(0, .ref (y 0)), (1, .int w)] 111 [.int (bI (rg w.toInt (Int.ofNat 0) (Int.ofNat 6)))]
  refine z_ifb_eq C 123 dX5_count_111 (by decide) 114 rfl (fun c_1 => ?_) (fun c_1 => ?_)
  rotate_left
  · exfalso; rw [(tab_d hb)] at c_1; exact Bool.noConfusion c_1
  refine z_bipush C (v := (-2)) rfl dX5_count_123 125 rfl ?_
  exact z_iret C hRx dX5_count_125 (beg2, prt2) rfl trivial rfl

theorem iX5_count_X5 : ∀ w ∈ u_ws RX5 TX5 14, w ∈ wsX5_count := fun w h => (List.mem_cons_of_mem _ (List.mem_append_right _ h))
set_option maxHeartbeats 4000000 in
set_option maxRecDepth 100000 in
theorem tX5_count_ok (l : Launch) (g : zG) (y all kept hist : Nat → Nat) (hl : Nat) (slo sav beg prt frm txt : Nat → Nat) (tl sp : Nat) (tol : Nat → Nat) (rd : Nat) (st : Nat → Nat) (r : Nat → Nat → Nat) (n : Nat) (k : Nat) (hn : n ≤ 12) (hB : Bd all st r n) (hS : okS st) (hJ : okJ r n) (hR : okR st r n (st 5)) (hk : k ≤ 19) : Met l yX5_count wsX5_count ({ frames := 4, cells := 0, slots := 0, locals := 91 } : Room) (zPre g [.ref (y 0), .int (nI k)] [wM g y all kept hist hl slo sav beg prt frm txt tl sp tol rd]) (zQ g (fun u : (Nat → Nat) × (Nat → Nat) => match u with | (beg2, prt2) => some (.int (nI (CN st r n tl hl k))) ) (fun u : (Nat → Nat) × (Nat → Nat) => match u with | (beg2, prt2) => True) (fun u : (Nat → Nat) × (Nat → Nat) => match u with | (beg2, prt2) => [wM g y all kept hist hl slo sav beg2 prt2 frm txt tl sp tol rd]) (zA [wM g y all kept hist hl slo sav beg prt frm txt tl sp tol rd])) 0 0 (zA [wM g y all kept hist hl slo sav beg prt frm txt tl sp tol rd]) := by
  refine z_entry (cc := cX5_count) (maxL := 2) (ret := (some .int)) (own := RX5) (by decide) rfl rfl (Nat.le_of_ble_eq_true rfl) [(0, .ref (y 0)), (1, .int (nI k))] rfl ?_
  intro K hKl hKg hnL C hRx
  subst hKl
  subst hKg
  rcases (show k = 0 ∨ k = 1 ∨ k = 2 ∨ k = 3 ∨ k = 4 ∨ k = 5 ∨ k = 6 ∨ k = 7 ∨ k = 8 ∨ k = 9 ∨ k = 10 ∨ k = 11 ∨ k = 12 ∨ k = 13 ∨ k = 14 ∨ k = 15 ∨ k = 16 ∨ k = 17 ∨ k = 18 ∨ k = 19 by omega) with rfl | rfl | rfl | rfl | rfl | rfl | rfl | rfl | rfl | rfl | rfl | rfl | rfl | rfl | rfl | rfl | rfl | rfl | rfl | rfl
  · skip
    refine z_aload_n C 0 rfl rfl dX5_count_0 1 rfl ?_
    refine z_callV C [] [] (tX5_prints K.l K.g y all kept hist hl slo sav beg prt frm txt tl sp tol rd st r n (by first | omega | assumption) (by first | omega | assumption) (by first | omega | assumption) (by first | omega | assumption) (by first | omega | assumption)) gX5_count_X5_prints rfl rfl rfl hdX5_prints ⟨Nat.le_of_ble_eq_true rfl, Nat.le_of_ble_eq_true rfl⟩ ⟨Nat.zero_le _, Nat.zero_le _⟩ 0 0 rfl rfl rfl [0] rfl rfl (zlc (N := 1) rfl rfl) [1] rfl (by decide) (fun u : (Nat → Nat) × (Nat → Nat) => match u with | (beg2, prt2) => [wM K.g y all kept hist hl slo sav beg2 prt2 frm txt tl sp tol rd]) (fun _ => rfl) rfl rfl (Nat.le_of_ble_eq_true rfl) dX5_count_1 4 rfl (fun u9 hu9 => ?_)
    obtain ⟨beg2, prt2⟩ := u9
    obtain ⟨hP, hE, hp⟩ := hu9
    have hP : isP st r (st 5) prt2 n := hP
    have hE : ∀ i, i < n → beg2 i + (rdy st r i + r 2 i * st 3) = prt2 i := hE
    have hp : ∀ i, i < n → prt2 i ≤ 14400 := hp
    show Z K 0 0 [wM K.g y all kept hist hl slo sav beg2 prt2 frm txt tl sp tol rd] [(0, .ref (y 0)), (1, .int (nI 0))] 4 []
    have hp30 : ∀ i, i < n → prt2 i ≤ 30000 := fun i hi => Nat.le_trans (hp i hi) (by decide)
    refine z_iload_n C 1 rfl rfl dX5_count_4 5 rfl ?_
    refine z_tabO C 102 dX5_count_5 (by decide) (by decide) ?_
    refine z_iload_n C 1 rfl rfl dX5_count_102 103 rfl ?_
    refine z_i2l C dX5_count_103 104 rfl ?_
    refine z_lconst C (v := lN 0) rfl dX5_count_104 105 rfl ?_
    refine z_ldc2 C (v := lN 6) (List.mem_of_getElem? (i := 4) rfl) dX5_count_105 108 rfl ?_
    refine z_callP C [.long ((nI 0).toInt64), .long (lN 0), .long (lN 6)] [] (tX5_inI K.l K.g (nI 0) 0 6 (by first | omega | assumption) (by first | omega | assumption)) gX5_count_X5_in rfl rfl rfl hdX5_in ⟨Nat.le_of_ble_eq_true rfl, Nat.le_of_ble_eq_true rfl⟩ ⟨Nat.zero_le _, Nat.zero_le _⟩ rfl rfl (Nat.le_of_ble_eq_true rfl) dX5_count_108 111 rfl (fun u9 hu9 => ?_)
    show Z K 0 0 [wM K.g y all kept hist hl slo sav beg2 prt2 frm txt tl sp tol rd] [(0, .ref (y 0)), (1, .int (nI 0))] 111 [.int (bI (rg (nI 0).toInt (Int.ofNat 0) (Int.ofNat 6)))]
    refine z_ifb_eq C 123 dX5_count_111 (by decide) 114 rfl (fun c_1 => ?_) (fun c_1 => ?_)
    · exfalso; rw [rgN_t (by omega) (by omega) (by omega)] at c_1; exact Bool.noConfusion c_1
    refine z_aload_n C 0 rfl rfl dX5_count_114 115 rfl ?_
    refine z_get C zc5 iX5_count_X5 0 0 rfl rfl 0 (Nat.le_of_ble_eq_true rfl) (List.mem_of_getElem? (i := 1) rfl) (v := .ref (y 1)) rfl dX5_count_115 118 rfl ?_
    refine z_iload_n C 1 rfl rfl dX5_count_118 119 rfl ?_
    refine z_iald C (f := all) 0 1 rfl rfl (by omega) (by decide) dX5_count_119 120 rfl ?_
    refine z_top (show nI (all 0) = nI (st 0) from by rw [hB.1 0 (by decide)]) ?_
    refine z_goto C 125 dX5_count_120 (by decide) ?_
    exact z_iret C hRx dX5_count_125 (beg2, prt2) rfl trivial rfl
  · skip
    refine z_aload_n C 0 rfl rfl dX5_count_0 1 rfl ?_
    refine z_callV C [] [] (tX5_prints K.l K.g y all kept hist hl slo sav beg prt frm txt tl sp tol rd st r n (by first | omega | assumption) (by first | omega | assumption) (by first | omega | assumption) (by first | omega | assumption) (by first | omega | assumption)) gX5_count_X5_prints rfl rfl rfl hdX5_prints ⟨Nat.le_of_ble_eq_true rfl, Nat.le_of_ble_eq_true rfl⟩ ⟨Nat.zero_le _, Nat.zero_le _⟩ 0 0 rfl rfl rfl [0] rfl rfl (zlc (N := 1) rfl rfl) [1] rfl (by decide) (fun u : (Nat → Nat) × (Nat → Nat) => match u with | (beg2, prt2) => [wM K.g y all kept hist hl slo sav beg2 prt2 frm txt tl sp tol rd]) (fun _ => rfl) rfl rfl (Nat.le_of_ble_eq_true rfl) dX5_count_1 4 rfl (fun u9 hu9 => ?_)
    obtain ⟨beg2, prt2⟩ := u9
    obtain ⟨hP, hE, hp⟩ := hu9
    have hP : isP st r (st 5) prt2 n := hP
    have hE : ∀ i, i < n → beg2 i + (rdy st r i + r 2 i * st 3) = prt2 i := hE
    have hp : ∀ i, i < n → prt2 i ≤ 14400 := hp
    show Z K 0 0 [wM K.g y all kept hist hl slo sav beg2 prt2 frm txt tl sp tol rd] [(0, .ref (y 0)), (1, .int (nI 1))] 4 []
    have hp30 : ∀ i, i < n → prt2 i ≤ 30000 := fun i hi => Nat.le_trans (hp i hi) (by decide)
    refine z_iload_n C 1 rfl rfl dX5_count_4 5 rfl ?_
    refine z_tabO C 102 dX5_count_5 (by decide) (by decide) ?_
    refine z_iload_n C 1 rfl rfl dX5_count_102 103 rfl ?_
    refine z_i2l C dX5_count_103 104 rfl ?_
    refine z_lconst C (v := lN 0) rfl dX5_count_104 105 rfl ?_
    refine z_ldc2 C (v := lN 6) (List.mem_of_getElem? (i := 4) rfl) dX5_count_105 108 rfl ?_
    refine z_callP C [.long ((nI 1).toInt64), .long (lN 0), .long (lN 6)] [] (tX5_inI K.l K.g (nI 1) 0 6 (by first | omega | assumption) (by first | omega | assumption)) gX5_count_X5_in rfl rfl rfl hdX5_in ⟨Nat.le_of_ble_eq_true rfl, Nat.le_of_ble_eq_true rfl⟩ ⟨Nat.zero_le _, Nat.zero_le _⟩ rfl rfl (Nat.le_of_ble_eq_true rfl) dX5_count_108 111 rfl (fun u9 hu9 => ?_)
    show Z K 0 0 [wM K.g y all kept hist hl slo sav beg2 prt2 frm txt tl sp tol rd] [(0, .ref (y 0)), (1, .int (nI 1))] 111 [.int (bI (rg (nI 1).toInt (Int.ofNat 0) (Int.ofNat 6)))]
    refine z_ifb_eq C 123 dX5_count_111 (by decide) 114 rfl (fun c_2 => ?_) (fun c_2 => ?_)
    · exfalso; rw [rgN_t (by omega) (by omega) (by omega)] at c_2; exact Bool.noConfusion c_2
    refine z_aload_n C 0 rfl rfl dX5_count_114 115 rfl ?_
    refine z_get C zc5 iX5_count_X5 0 0 rfl rfl 0 (Nat.le_of_ble_eq_true rfl) (List.mem_of_getElem? (i := 1) rfl) (v := .ref (y 1)) rfl dX5_count_115 118 rfl ?_
    refine z_iload_n C 1 rfl rfl dX5_count_118 119 rfl ?_
    refine z_iald C (f := all) 0 1 rfl rfl (by omega) (by decide) dX5_count_119 120 rfl ?_
    refine z_top (show nI (all 1) = nI (st 1) from by rw [hB.1 1 (by decide)]) ?_
    refine z_goto C 125 dX5_count_120 (by decide) ?_
    exact z_iret C hRx dX5_count_125 (beg2, prt2) rfl trivial rfl
  · skip
    refine z_aload_n C 0 rfl rfl dX5_count_0 1 rfl ?_
    refine z_callV C [] [] (tX5_prints K.l K.g y all kept hist hl slo sav beg prt frm txt tl sp tol rd st r n (by first | omega | assumption) (by first | omega | assumption) (by first | omega | assumption) (by first | omega | assumption) (by first | omega | assumption)) gX5_count_X5_prints rfl rfl rfl hdX5_prints ⟨Nat.le_of_ble_eq_true rfl, Nat.le_of_ble_eq_true rfl⟩ ⟨Nat.zero_le _, Nat.zero_le _⟩ 0 0 rfl rfl rfl [0] rfl rfl (zlc (N := 1) rfl rfl) [1] rfl (by decide) (fun u : (Nat → Nat) × (Nat → Nat) => match u with | (beg2, prt2) => [wM K.g y all kept hist hl slo sav beg2 prt2 frm txt tl sp tol rd]) (fun _ => rfl) rfl rfl (Nat.le_of_ble_eq_true rfl) dX5_count_1 4 rfl (fun u9 hu9 => ?_)
    obtain ⟨beg2, prt2⟩ := u9
    obtain ⟨hP, hE, hp⟩ := hu9
    have hP : isP st r (st 5) prt2 n := hP
    have hE : ∀ i, i < n → beg2 i + (rdy st r i + r 2 i * st 3) = prt2 i := hE
    have hp : ∀ i, i < n → prt2 i ≤ 14400 := hp
    show Z K 0 0 [wM K.g y all kept hist hl slo sav beg2 prt2 frm txt tl sp tol rd] [(0, .ref (y 0)), (1, .int (nI 2))] 4 []
    have hp30 : ∀ i, i < n → prt2 i ≤ 30000 := fun i hi => Nat.le_trans (hp i hi) (by decide)
    refine z_iload_n C 1 rfl rfl dX5_count_4 5 rfl ?_
    refine z_tabO C 102 dX5_count_5 (by decide) (by decide) ?_
    refine z_iload_n C 1 rfl rfl dX5_count_102 103 rfl ?_
    refine z_i2l C dX5_count_103 104 rfl ?_
    refine z_lconst C (v := lN 0) rfl dX5_count_104 105 rfl ?_
    refine z_ldc2 C (v := lN 6) (List.mem_of_getElem? (i := 4) rfl) dX5_count_105 108 rfl ?_
    refine z_callP C [.long ((nI 2).toInt64), .long (lN 0), .long (lN 6)] [] (tX5_inI K.l K.g (nI 2) 0 6 (by first | omega | assumption) (by first | omega | assumption)) gX5_count_X5_in rfl rfl rfl hdX5_in ⟨Nat.le_of_ble_eq_true rfl, Nat.le_of_ble_eq_true rfl⟩ ⟨Nat.zero_le _, Nat.zero_le _⟩ rfl rfl (Nat.le_of_ble_eq_true rfl) dX5_count_108 111 rfl (fun u9 hu9 => ?_)
    show Z K 0 0 [wM K.g y all kept hist hl slo sav beg2 prt2 frm txt tl sp tol rd] [(0, .ref (y 0)), (1, .int (nI 2))] 111 [.int (bI (rg (nI 2).toInt (Int.ofNat 0) (Int.ofNat 6)))]
    refine z_ifb_eq C 123 dX5_count_111 (by decide) 114 rfl (fun c_3 => ?_) (fun c_3 => ?_)
    · exfalso; rw [rgN_t (by omega) (by omega) (by omega)] at c_3; exact Bool.noConfusion c_3
    refine z_aload_n C 0 rfl rfl dX5_count_114 115 rfl ?_
    refine z_get C zc5 iX5_count_X5 0 0 rfl rfl 0 (Nat.le_of_ble_eq_true rfl) (List.mem_of_getElem? (i := 1) rfl) (v := .ref (y 1)) rfl dX5_count_115 118 rfl ?_
    refine z_iload_n C 1 rfl rfl dX5_count_118 119 rfl ?_
    refine z_iald C (f := all) 0 1 rfl rfl (by omega) (by decide) dX5_count_119 120 rfl ?_
    refine z_top (show nI (all 2) = nI (st 2) from by rw [hB.1 2 (by decide)]) ?_
    refine z_goto C 125 dX5_count_120 (by decide) ?_
    exact z_iret C hRx dX5_count_125 (beg2, prt2) rfl trivial rfl
  · skip
    refine z_aload_n C 0 rfl rfl dX5_count_0 1 rfl ?_
    refine z_callV C [] [] (tX5_prints K.l K.g y all kept hist hl slo sav beg prt frm txt tl sp tol rd st r n (by first | omega | assumption) (by first | omega | assumption) (by first | omega | assumption) (by first | omega | assumption) (by first | omega | assumption)) gX5_count_X5_prints rfl rfl rfl hdX5_prints ⟨Nat.le_of_ble_eq_true rfl, Nat.le_of_ble_eq_true rfl⟩ ⟨Nat.zero_le _, Nat.zero_le _⟩ 0 0 rfl rfl rfl [0] rfl rfl (zlc (N := 1) rfl rfl) [1] rfl (by decide) (fun u : (Nat → Nat) × (Nat → Nat) => match u with | (beg2, prt2) => [wM K.g y all kept hist hl slo sav beg2 prt2 frm txt tl sp tol rd]) (fun _ => rfl) rfl rfl (Nat.le_of_ble_eq_true rfl) dX5_count_1 4 rfl (fun u9 hu9 => ?_)
    obtain ⟨beg2, prt2⟩ := u9
    obtain ⟨hP, hE, hp⟩ := hu9
    have hP : isP st r (st 5) prt2 n := hP
    have hE : ∀ i, i < n → beg2 i + (rdy st r i + r 2 i * st 3) = prt2 i := hE
    have hp : ∀ i, i < n → prt2 i ≤ 14400 := hp
    show Z K 0 0 [wM K.g y all kept hist hl slo sav beg2 prt2 frm txt tl sp tol rd] [(0, .ref (y 0)), (1, .int (nI 3))] 4 []
    have hp30 : ∀ i, i < n → prt2 i ≤ 30000 := fun i hi => Nat.le_trans (hp i hi) (by decide)
    refine z_iload_n C 1 rfl rfl dX5_count_4 5 rfl ?_
    refine z_tabO C 102 dX5_count_5 (by decide) (by decide) ?_
    refine z_iload_n C 1 rfl rfl dX5_count_102 103 rfl ?_
    refine z_i2l C dX5_count_103 104 rfl ?_
    refine z_lconst C (v := lN 0) rfl dX5_count_104 105 rfl ?_
    refine z_ldc2 C (v := lN 6) (List.mem_of_getElem? (i := 4) rfl) dX5_count_105 108 rfl ?_
    refine z_callP C [.long ((nI 3).toInt64), .long (lN 0), .long (lN 6)] [] (tX5_inI K.l K.g (nI 3) 0 6 (by first | omega | assumption) (by first | omega | assumption)) gX5_count_X5_in rfl rfl rfl hdX5_in ⟨Nat.le_of_ble_eq_true rfl, Nat.le_of_ble_eq_true rfl⟩ ⟨Nat.zero_le _, Nat.zero_le _⟩ rfl rfl (Nat.le_of_ble_eq_true rfl) dX5_count_108 111 rfl (fun u9 hu9 => ?_)
    show Z K 0 0 [wM K.g y all kept hist hl slo sav beg2 prt2 frm txt tl sp tol rd] [(0, .ref (y 0)), (1, .int (nI 3))] 111 [.int (bI (rg (nI 3).toInt (Int.ofNat 0) (Int.ofNat 6)))]
    refine z_ifb_eq C 123 dX5_count_111 (by decide) 114 rfl (fun c_4 => ?_) (fun c_4 => ?_)
    · exfalso; rw [rgN_t (by omega) (by omega) (by omega)] at c_4; exact Bool.noConfusion c_4
    refine z_aload_n C 0 rfl rfl dX5_count_114 115 rfl ?_
    refine z_get C zc5 iX5_count_X5 0 0 rfl rfl 0 (Nat.le_of_ble_eq_true rfl) (List.mem_of_getElem? (i := 1) rfl) (v := .ref (y 1)) rfl dX5_count_115 118 rfl ?_
    refine z_iload_n C 1 rfl rfl dX5_count_118 119 rfl ?_
    refine z_iald C (f := all) 0 1 rfl rfl (by omega) (by decide) dX5_count_119 120 rfl ?_
    refine z_top (show nI (all 3) = nI (st 3) from by rw [hB.1 3 (by decide)]) ?_
    refine z_goto C 125 dX5_count_120 (by decide) ?_
    exact z_iret C hRx dX5_count_125 (beg2, prt2) rfl trivial rfl
  · skip
    refine z_aload_n C 0 rfl rfl dX5_count_0 1 rfl ?_
    refine z_callV C [] [] (tX5_prints K.l K.g y all kept hist hl slo sav beg prt frm txt tl sp tol rd st r n (by first | omega | assumption) (by first | omega | assumption) (by first | omega | assumption) (by first | omega | assumption) (by first | omega | assumption)) gX5_count_X5_prints rfl rfl rfl hdX5_prints ⟨Nat.le_of_ble_eq_true rfl, Nat.le_of_ble_eq_true rfl⟩ ⟨Nat.zero_le _, Nat.zero_le _⟩ 0 0 rfl rfl rfl [0] rfl rfl (zlc (N := 1) rfl rfl) [1] rfl (by decide) (fun u : (Nat → Nat) × (Nat → Nat) => match u with | (beg2, prt2) => [wM K.g y all kept hist hl slo sav beg2 prt2 frm txt tl sp tol rd]) (fun _ => rfl) rfl rfl (Nat.le_of_ble_eq_true rfl) dX5_count_1 4 rfl (fun u9 hu9 => ?_)
    obtain ⟨beg2, prt2⟩ := u9
    obtain ⟨hP, hE, hp⟩ := hu9
    have hP : isP st r (st 5) prt2 n := hP
    have hE : ∀ i, i < n → beg2 i + (rdy st r i + r 2 i * st 3) = prt2 i := hE
    have hp : ∀ i, i < n → prt2 i ≤ 14400 := hp
    show Z K 0 0 [wM K.g y all kept hist hl slo sav beg2 prt2 frm txt tl sp tol rd] [(0, .ref (y 0)), (1, .int (nI 4))] 4 []
    have hp30 : ∀ i, i < n → prt2 i ≤ 30000 := fun i hi => Nat.le_trans (hp i hi) (by decide)
    refine z_iload_n C 1 rfl rfl dX5_count_4 5 rfl ?_
    refine z_tabO C 102 dX5_count_5 (by decide) (by decide) ?_
    refine z_iload_n C 1 rfl rfl dX5_count_102 103 rfl ?_
    refine z_i2l C dX5_count_103 104 rfl ?_
    refine z_lconst C (v := lN 0) rfl dX5_count_104 105 rfl ?_
    refine z_ldc2 C (v := lN 6) (List.mem_of_getElem? (i := 4) rfl) dX5_count_105 108 rfl ?_
    refine z_callP C [.long ((nI 4).toInt64), .long (lN 0), .long (lN 6)] [] (tX5_inI K.l K.g (nI 4) 0 6 (by first | omega | assumption) (by first | omega | assumption)) gX5_count_X5_in rfl rfl rfl hdX5_in ⟨Nat.le_of_ble_eq_true rfl, Nat.le_of_ble_eq_true rfl⟩ ⟨Nat.zero_le _, Nat.zero_le _⟩ rfl rfl (Nat.le_of_ble_eq_true rfl) dX5_count_108 111 rfl (fun u9 hu9 => ?_)
    show Z K 0 0 [wM K.g y all kept hist hl slo sav beg2 prt2 frm txt tl sp tol rd] [(0, .ref (y 0)), (1, .int (nI 4))] 111 [.int (bI (rg (nI 4).toInt (Int.ofNat 0) (Int.ofNat 6)))]
    refine z_ifb_eq C 123 dX5_count_111 (by decide) 114 rfl (fun c_5 => ?_) (fun c_5 => ?_)
    · exfalso; rw [rgN_t (by omega) (by omega) (by omega)] at c_5; exact Bool.noConfusion c_5
    refine z_aload_n C 0 rfl rfl dX5_count_114 115 rfl ?_
    refine z_get C zc5 iX5_count_X5 0 0 rfl rfl 0 (Nat.le_of_ble_eq_true rfl) (List.mem_of_getElem? (i := 1) rfl) (v := .ref (y 1)) rfl dX5_count_115 118 rfl ?_
    refine z_iload_n C 1 rfl rfl dX5_count_118 119 rfl ?_
    refine z_iald C (f := all) 0 1 rfl rfl (by omega) (by decide) dX5_count_119 120 rfl ?_
    refine z_top (show nI (all 4) = nI (st 4) from by rw [hB.1 4 (by decide)]) ?_
    refine z_goto C 125 dX5_count_120 (by decide) ?_
    exact z_iret C hRx dX5_count_125 (beg2, prt2) rfl trivial rfl
  · skip
    refine z_aload_n C 0 rfl rfl dX5_count_0 1 rfl ?_
    refine z_callV C [] [] (tX5_prints K.l K.g y all kept hist hl slo sav beg prt frm txt tl sp tol rd st r n (by first | omega | assumption) (by first | omega | assumption) (by first | omega | assumption) (by first | omega | assumption) (by first | omega | assumption)) gX5_count_X5_prints rfl rfl rfl hdX5_prints ⟨Nat.le_of_ble_eq_true rfl, Nat.le_of_ble_eq_true rfl⟩ ⟨Nat.zero_le _, Nat.zero_le _⟩ 0 0 rfl rfl rfl [0] rfl rfl (zlc (N := 1) rfl rfl) [1] rfl (by decide) (fun u : (Nat → Nat) × (Nat → Nat) => match u with | (beg2, prt2) => [wM K.g y all kept hist hl slo sav beg2 prt2 frm txt tl sp tol rd]) (fun _ => rfl) rfl rfl (Nat.le_of_ble_eq_true rfl) dX5_count_1 4 rfl (fun u9 hu9 => ?_)
    obtain ⟨beg2, prt2⟩ := u9
    obtain ⟨hP, hE, hp⟩ := hu9
    have hP : isP st r (st 5) prt2 n := hP
    have hE : ∀ i, i < n → beg2 i + (rdy st r i + r 2 i * st 3) = prt2 i := hE
    have hp : ∀ i, i < n → prt2 i ≤ 14400 := hp
    show Z K 0 0 [wM K.g y all kept hist hl slo sav beg2 prt2 frm txt tl sp tol rd] [(0, .ref (y 0)), (1, .int (nI 5))] 4 []
    have hp30 : ∀ i, i < n → prt2 i ≤ 30000 := fun i hi => Nat.le_trans (hp i hi) (by decide)
    refine z_iload_n C 1 rfl rfl dX5_count_4 5 rfl ?_
    refine z_tabO C 102 dX5_count_5 (by decide) (by decide) ?_
    refine z_iload_n C 1 rfl rfl dX5_count_102 103 rfl ?_
    refine z_i2l C dX5_count_103 104 rfl ?_
    refine z_lconst C (v := lN 0) rfl dX5_count_104 105 rfl ?_
    refine z_ldc2 C (v := lN 6) (List.mem_of_getElem? (i := 4) rfl) dX5_count_105 108 rfl ?_
    refine z_callP C [.long ((nI 5).toInt64), .long (lN 0), .long (lN 6)] [] (tX5_inI K.l K.g (nI 5) 0 6 (by first | omega | assumption) (by first | omega | assumption)) gX5_count_X5_in rfl rfl rfl hdX5_in ⟨Nat.le_of_ble_eq_true rfl, Nat.le_of_ble_eq_true rfl⟩ ⟨Nat.zero_le _, Nat.zero_le _⟩ rfl rfl (Nat.le_of_ble_eq_true rfl) dX5_count_108 111 rfl (fun u9 hu9 => ?_)
    show Z K 0 0 [wM K.g y all kept hist hl slo sav beg2 prt2 frm txt tl sp tol rd] [(0, .ref (y 0)), (1, .int (nI 5))] 111 [.int (bI (rg (nI 5).toInt (Int.ofNat 0) (Int.ofNat 6)))]
    refine z_ifb_eq C 123 dX5_count_111 (by decide) 114 rfl (fun c_6 => ?_) (fun c_6 => ?_)
    · exfalso; rw [rgN_t (by omega) (by omega) (by omega)] at c_6; exact Bool.noConfusion c_6
    refine z_aload_n C 0 rfl rfl dX5_count_114 115 rfl ?_
    refine z_get C zc5 iX5_count_X5 0 0 rfl rfl 0 (Nat.le_of_ble_eq_true rfl) (List.mem_of_getElem? (i := 1) rfl) (v := .ref (y 1)) rfl dX5_count_115 118 rfl ?_
    refine z_iload_n C 1 rfl rfl dX5_count_118 119 rfl ?_
    refine z_iald C (f := all) 0 1 rfl rfl (by omega) (by decide) dX5_count_119 120 rfl ?_
    refine z_top (show nI (all 5) = nI (st 5) from by rw [hB.1 5 (by decide)]) ?_
    refine z_goto C 125 dX5_count_120 (by decide) ?_
    exact z_iret C hRx dX5_count_125 (beg2, prt2) rfl trivial rfl
  · skip
    refine z_aload_n C 0 rfl rfl dX5_count_0 1 rfl ?_
    refine z_callV C [] [] (tX5_prints K.l K.g y all kept hist hl slo sav beg prt frm txt tl sp tol rd st r n (by first | omega | assumption) (by first | omega | assumption) (by first | omega | assumption) (by first | omega | assumption) (by first | omega | assumption)) gX5_count_X5_prints rfl rfl rfl hdX5_prints ⟨Nat.le_of_ble_eq_true rfl, Nat.le_of_ble_eq_true rfl⟩ ⟨Nat.zero_le _, Nat.zero_le _⟩ 0 0 rfl rfl rfl [0] rfl rfl (zlc (N := 1) rfl rfl) [1] rfl (by decide) (fun u : (Nat → Nat) × (Nat → Nat) => match u with | (beg2, prt2) => [wM K.g y all kept hist hl slo sav beg2 prt2 frm txt tl sp tol rd]) (fun _ => rfl) rfl rfl (Nat.le_of_ble_eq_true rfl) dX5_count_1 4 rfl (fun u9 hu9 => ?_)
    obtain ⟨beg2, prt2⟩ := u9
    obtain ⟨hP, hE, hp⟩ := hu9
    have hP : isP st r (st 5) prt2 n := hP
    have hE : ∀ i, i < n → beg2 i + (rdy st r i + r 2 i * st 3) = prt2 i := hE
    have hp : ∀ i, i < n → prt2 i ≤ 14400 := hp
    show Z K 0 0 [wM K.g y all kept hist hl slo sav beg2 prt2 frm txt tl sp tol rd] [(0, .ref (y 0)), (1, .int (nI 6))] 4 []
    have hp30 : ∀ i, i < n → prt2 i ≤ 30000 := fun i hi => Nat.le_trans (hp i hi) (by decide)
    refine z_iload_n C 1 rfl rfl dX5_count_4 5 rfl ?_
    refine z_tabO C 102 dX5_count_5 (by decide) (by decide) ?_
    refine z_iload_n C 1 rfl rfl dX5_count_102 103 rfl ?_
    refine z_i2l C dX5_count_103 104 rfl ?_
    refine z_lconst C (v := lN 0) rfl dX5_count_104 105 rfl ?_
    refine z_ldc2 C (v := lN 6) (List.mem_of_getElem? (i := 4) rfl) dX5_count_105 108 rfl ?_
    refine z_callP C [.long ((nI 6).toInt64), .long (lN 0), .long (lN 6)] [] (tX5_inI K.l K.g (nI 6) 0 6 (by first | omega | assumption) (by first | omega | assumption)) gX5_count_X5_in rfl rfl rfl hdX5_in ⟨Nat.le_of_ble_eq_true rfl, Nat.le_of_ble_eq_true rfl⟩ ⟨Nat.zero_le _, Nat.zero_le _⟩ rfl rfl (Nat.le_of_ble_eq_true rfl) dX5_count_108 111 rfl (fun u9 hu9 => ?_)
    show Z K 0 0 [wM K.g y all kept hist hl slo sav beg2 prt2 frm txt tl sp tol rd] [(0, .ref (y 0)), (1, .int (nI 6))] 111 [.int (bI (rg (nI 6).toInt (Int.ofNat 0) (Int.ofNat 6)))]
    refine z_ifb_eq C 123 dX5_count_111 (by decide) 114 rfl (fun c_7 => ?_) (fun c_7 => ?_)
    · exfalso; rw [rgN_t (by omega) (by omega) (by omega)] at c_7; exact Bool.noConfusion c_7
    refine z_aload_n C 0 rfl rfl dX5_count_114 115 rfl ?_
    refine z_get C zc5 iX5_count_X5 0 0 rfl rfl 0 (Nat.le_of_ble_eq_true rfl) (List.mem_of_getElem? (i := 1) rfl) (v := .ref (y 1)) rfl dX5_count_115 118 rfl ?_
    refine z_iload_n C 1 rfl rfl dX5_count_118 119 rfl ?_
    refine z_iald C (f := all) 0 1 rfl rfl (by omega) (by decide) dX5_count_119 120 rfl ?_
    refine z_top (show nI (all 6) = nI (st 6) from by rw [hB.1 6 (by decide)]) ?_
    refine z_goto C 125 dX5_count_120 (by decide) ?_
    exact z_iret C hRx dX5_count_125 (beg2, prt2) rfl trivial rfl
  · skip
    refine z_aload_n C 0 rfl rfl dX5_count_0 1 rfl ?_
    refine z_callV C [] [] (tX5_prints K.l K.g y all kept hist hl slo sav beg prt frm txt tl sp tol rd st r n (by first | omega | assumption) (by first | omega | assumption) (by first | omega | assumption) (by first | omega | assumption) (by first | omega | assumption)) gX5_count_X5_prints rfl rfl rfl hdX5_prints ⟨Nat.le_of_ble_eq_true rfl, Nat.le_of_ble_eq_true rfl⟩ ⟨Nat.zero_le _, Nat.zero_le _⟩ 0 0 rfl rfl rfl [0] rfl rfl (zlc (N := 1) rfl rfl) [1] rfl (by decide) (fun u : (Nat → Nat) × (Nat → Nat) => match u with | (beg2, prt2) => [wM K.g y all kept hist hl slo sav beg2 prt2 frm txt tl sp tol rd]) (fun _ => rfl) rfl rfl (Nat.le_of_ble_eq_true rfl) dX5_count_1 4 rfl (fun u9 hu9 => ?_)
    obtain ⟨beg2, prt2⟩ := u9
    obtain ⟨hP, hE, hp⟩ := hu9
    have hP : isP st r (st 5) prt2 n := hP
    have hE : ∀ i, i < n → beg2 i + (rdy st r i + r 2 i * st 3) = prt2 i := hE
    have hp : ∀ i, i < n → prt2 i ≤ 14400 := hp
    show Z K 0 0 [wM K.g y all kept hist hl slo sav beg2 prt2 frm txt tl sp tol rd] [(0, .ref (y 0)), (1, .int (nI 7))] 4 []
    have hp30 : ∀ i, i < n → prt2 i ≤ 30000 := fun i hi => Nat.le_trans (hp i hi) (by decide)
    refine z_iload_n C 1 rfl rfl dX5_count_4 5 rfl ?_
    refine z_tab C (by decide) 72 dX5_count_5 (by decide) (by decide) rfl (by decide) ?_
    refine z_aload_n C 0 rfl rfl dX5_count_72 73 rfl ?_
    refine z_get C zc5 iX5_count_X5 0 0 rfl rfl 0 (Nat.le_of_ble_eq_true rfl) (List.mem_of_getElem? (i := 1) rfl) (v := .ref (y 1)) rfl dX5_count_73 76 rfl ?_
    refine z_bipush C (v := nI 7) rfl dX5_count_76 78 rfl ?_
    refine z_iald C (f := all) 0 1 rfl rfl (by omega) (by decide) dX5_count_78 79 rfl ?_
    refine z_top (show nI (all 7) = nI n from by rw [hB.2.1]) ?_
    exact z_iret C hRx dX5_count_79 (beg2, prt2) rfl trivial rfl
  · skip
    refine z_aload_n C 0 rfl rfl dX5_count_0 1 rfl ?_
    refine z_callV C [] [] (tX5_prints K.l K.g y all kept hist hl slo sav beg prt frm txt tl sp tol rd st r n (by first | omega | assumption) (by first | omega | assumption) (by first | omega | assumption) (by first | omega | assumption) (by first | omega | assumption)) gX5_count_X5_prints rfl rfl rfl hdX5_prints ⟨Nat.le_of_ble_eq_true rfl, Nat.le_of_ble_eq_true rfl⟩ ⟨Nat.zero_le _, Nat.zero_le _⟩ 0 0 rfl rfl rfl [0] rfl rfl (zlc (N := 1) rfl rfl) [1] rfl (by decide) (fun u : (Nat → Nat) × (Nat → Nat) => match u with | (beg2, prt2) => [wM K.g y all kept hist hl slo sav beg2 prt2 frm txt tl sp tol rd]) (fun _ => rfl) rfl rfl (Nat.le_of_ble_eq_true rfl) dX5_count_1 4 rfl (fun u9 hu9 => ?_)
    obtain ⟨beg2, prt2⟩ := u9
    obtain ⟨hP, hE, hp⟩ := hu9
    have hP : isP st r (st 5) prt2 n := hP
    have hE : ∀ i, i < n → beg2 i + (rdy st r i + r 2 i * st 3) = prt2 i := hE
    have hp : ∀ i, i < n → prt2 i ≤ 14400 := hp
    show Z K 0 0 [wM K.g y all kept hist hl slo sav beg2 prt2 frm txt tl sp tol rd] [(0, .ref (y 0)), (1, .int (nI 8))] 4 []
    have hp30 : ∀ i, i < n → prt2 i ≤ 30000 := fun i hi => Nat.le_trans (hp i hi) (by decide)
    refine z_iload_n C 1 rfl rfl dX5_count_4 5 rfl ?_
    refine z_tab C (by decide) 80 dX5_count_5 (by decide) (by decide) rfl (by decide) ?_
    refine z_aload_n C 0 rfl rfl dX5_count_80 81 rfl ?_
    refine z_iload_n C 1 rfl rfl dX5_count_81 82 rfl ?_
    refine z_callV C [.int (nI 8)] [] (tX5_sumOf_8 K.l K.g y all kept hist hl slo sav beg2 prt2 frm txt tl sp tol rd st r n (by first | omega | assumption) (by first | omega | assumption) (by first | omega | assumption) (by first | omega | assumption) (by first | omega | assumption)) gX5_count_X5_sumOf rfl rfl rfl hdX5_sumOf ⟨Nat.le_of_ble_eq_true rfl, Nat.le_of_ble_eq_true rfl⟩ ⟨Nat.zero_le _, Nat.zero_le _⟩ 0 0 rfl rfl rfl [0] rfl rfl (zlc (N := 1) rfl rfl) [1] rfl (by decide) (fun _ : Unit => [wM K.g y all kept hist hl slo sav beg2 prt2 frm txt tl sp tol rd]) (fun _ => rfl) rfl rfl (Nat.le_of_ble_eq_true rfl) dX5_count_82 85 rfl (fun u9 hu9 => ?_)
    show Z K 0 0 [wM K.g y all kept hist hl slo sav beg2 prt2 frm txt tl sp tol rd] [(0, .ref (y 0)), (1, .int (nI 8))] 85 [.int (nI (sm (r 2) n))]
    exact z_iret C hRx dX5_count_85 (beg2, prt2) rfl trivial rfl
  · skip
    refine z_aload_n C 0 rfl rfl dX5_count_0 1 rfl ?_
    refine z_callV C [] [] (tX5_prints K.l K.g y all kept hist hl slo sav beg prt frm txt tl sp tol rd st r n (by first | omega | assumption) (by first | omega | assumption) (by first | omega | assumption) (by first | omega | assumption) (by first | omega | assumption)) gX5_count_X5_prints rfl rfl rfl hdX5_prints ⟨Nat.le_of_ble_eq_true rfl, Nat.le_of_ble_eq_true rfl⟩ ⟨Nat.zero_le _, Nat.zero_le _⟩ 0 0 rfl rfl rfl [0] rfl rfl (zlc (N := 1) rfl rfl) [1] rfl (by decide) (fun u : (Nat → Nat) × (Nat → Nat) => match u with | (beg2, prt2) => [wM K.g y all kept hist hl slo sav beg2 prt2 frm txt tl sp tol rd]) (fun _ => rfl) rfl rfl (Nat.le_of_ble_eq_true rfl) dX5_count_1 4 rfl (fun u9 hu9 => ?_)
    obtain ⟨beg2, prt2⟩ := u9
    obtain ⟨hP, hE, hp⟩ := hu9
    have hP : isP st r (st 5) prt2 n := hP
    have hE : ∀ i, i < n → beg2 i + (rdy st r i + r 2 i * st 3) = prt2 i := hE
    have hp : ∀ i, i < n → prt2 i ≤ 14400 := hp
    show Z K 0 0 [wM K.g y all kept hist hl slo sav beg2 prt2 frm txt tl sp tol rd] [(0, .ref (y 0)), (1, .int (nI 9))] 4 []
    have hp30 : ∀ i, i < n → prt2 i ≤ 30000 := fun i hi => Nat.le_trans (hp i hi) (by decide)
    refine z_iload_n C 1 rfl rfl dX5_count_4 5 rfl ?_
    refine z_tab C (by decide) 86 dX5_count_5 (by decide) (by decide) rfl (by decide) ?_
    refine z_aload_n C 0 rfl rfl dX5_count_86 87 rfl ?_
    refine z_iload_n C 1 rfl rfl dX5_count_87 88 rfl ?_
    refine z_callV C [.int (nI 9)] [] (tX5_greatestOf_9 K.l K.g y all kept hist hl slo sav beg2 prt2 frm txt tl sp tol rd st r n (by first | omega | assumption) (by first | omega | assumption) (by first | omega | assumption) (by first | omega | assumption) (by first | omega | assumption)) gX5_count_X5_greatestOf rfl rfl rfl hdX5_greatestOf ⟨Nat.le_of_ble_eq_true rfl, Nat.le_of_ble_eq_true rfl⟩ ⟨Nat.zero_le _, Nat.zero_le _⟩ 0 0 rfl rfl rfl [0] rfl rfl (zlc (N := 1) rfl rfl) [1] rfl (by decide) (fun _ : Unit => [wM K.g y all kept hist hl slo sav beg2 prt2 frm txt tl sp tol rd]) (fun _ => rfl) rfl rfl (Nat.le_of_ble_eq_true rfl) dX5_count_88 91 rfl (fun u9 hu9 => ?_)
    show Z K 0 0 [wM K.g y all kept hist hl slo sav beg2 prt2 frm txt tl sp tol rd] [(0, .ref (y 0)), (1, .int (nI 9))] 91 [.int (nI (mx prt2 n))]
    exact z_iret C hRx dX5_count_91 (beg2, prt2) (congrArg (fun z => some (Value.int (nI z))) (mx_P hP).symm) trivial rfl
  · skip
    refine z_aload_n C 0 rfl rfl dX5_count_0 1 rfl ?_
    refine z_callV C [] [] (tX5_prints K.l K.g y all kept hist hl slo sav beg prt frm txt tl sp tol rd st r n (by first | omega | assumption) (by first | omega | assumption) (by first | omega | assumption) (by first | omega | assumption) (by first | omega | assumption)) gX5_count_X5_prints rfl rfl rfl hdX5_prints ⟨Nat.le_of_ble_eq_true rfl, Nat.le_of_ble_eq_true rfl⟩ ⟨Nat.zero_le _, Nat.zero_le _⟩ 0 0 rfl rfl rfl [0] rfl rfl (zlc (N := 1) rfl rfl) [1] rfl (by decide) (fun u : (Nat → Nat) × (Nat → Nat) => match u with | (beg2, prt2) => [wM K.g y all kept hist hl slo sav beg2 prt2 frm txt tl sp tol rd]) (fun _ => rfl) rfl rfl (Nat.le_of_ble_eq_true rfl) dX5_count_1 4 rfl (fun u9 hu9 => ?_)
    obtain ⟨beg2, prt2⟩ := u9
    obtain ⟨hP, hE, hp⟩ := hu9
    have hP : isP st r (st 5) prt2 n := hP
    have hE : ∀ i, i < n → beg2 i + (rdy st r i + r 2 i * st 3) = prt2 i := hE
    have hp : ∀ i, i < n → prt2 i ≤ 14400 := hp
    show Z K 0 0 [wM K.g y all kept hist hl slo sav beg2 prt2 frm txt tl sp tol rd] [(0, .ref (y 0)), (1, .int (nI 10))] 4 []
    have hp30 : ∀ i, i < n → prt2 i ≤ 30000 := fun i hi => Nat.le_trans (hp i hi) (by decide)
    refine z_iload_n C 1 rfl rfl dX5_count_4 5 rfl ?_
    refine z_tab C (by decide) 86 dX5_count_5 (by decide) (by decide) rfl (by decide) ?_
    refine z_aload_n C 0 rfl rfl dX5_count_86 87 rfl ?_
    refine z_iload_n C 1 rfl rfl dX5_count_87 88 rfl ?_
    refine z_callV C [.int (nI 10)] [] (tX5_greatestOf_10 K.l K.g y all kept hist hl slo sav beg2 prt2 frm txt tl sp tol rd st r n (by first | omega | assumption) (by first | omega | assumption) (by first | omega | assumption) (by first | omega | assumption) (by first | omega | assumption)) gX5_count_X5_greatestOf rfl rfl rfl hdX5_greatestOf ⟨Nat.le_of_ble_eq_true rfl, Nat.le_of_ble_eq_true rfl⟩ ⟨Nat.zero_le _, Nat.zero_le _⟩ 0 0 rfl rfl rfl [0] rfl rfl (zlc (N := 1) rfl rfl) [1] rfl (by decide) (fun _ : Unit => [wM K.g y all kept hist hl slo sav beg2 prt2 frm txt tl sp tol rd]) (fun _ => rfl) rfl rfl (Nat.le_of_ble_eq_true rfl) dX5_count_88 91 rfl (fun u9 hu9 => ?_)
    show Z K 0 0 [wM K.g y all kept hist hl slo sav beg2 prt2 frm txt tl sp tol rd] [(0, .ref (y 0)), (1, .int (nI 10))] 91 [.int (nI (mx (fun i => prt2 i + st 4) n))]
    exact z_iret C hRx dX5_count_91 (beg2, prt2) (congrArg (fun z => some (Value.int (nI z))) (mx_D hP).symm) trivial rfl
  · skip
    refine z_aload_n C 0 rfl rfl dX5_count_0 1 rfl ?_
    refine z_callV C [] [] (tX5_prints K.l K.g y all kept hist hl slo sav beg prt frm txt tl sp tol rd st r n (by first | omega | assumption) (by first | omega | assumption) (by first | omega | assumption) (by first | omega | assumption) (by first | omega | assumption)) gX5_count_X5_prints rfl rfl rfl hdX5_prints ⟨Nat.le_of_ble_eq_true rfl, Nat.le_of_ble_eq_true rfl⟩ ⟨Nat.zero_le _, Nat.zero_le _⟩ 0 0 rfl rfl rfl [0] rfl rfl (zlc (N := 1) rfl rfl) [1] rfl (by decide) (fun u : (Nat → Nat) × (Nat → Nat) => match u with | (beg2, prt2) => [wM K.g y all kept hist hl slo sav beg2 prt2 frm txt tl sp tol rd]) (fun _ => rfl) rfl rfl (Nat.le_of_ble_eq_true rfl) dX5_count_1 4 rfl (fun u9 hu9 => ?_)
    obtain ⟨beg2, prt2⟩ := u9
    obtain ⟨hP, hE, hp⟩ := hu9
    have hP : isP st r (st 5) prt2 n := hP
    have hE : ∀ i, i < n → beg2 i + (rdy st r i + r 2 i * st 3) = prt2 i := hE
    have hp : ∀ i, i < n → prt2 i ≤ 14400 := hp
    show Z K 0 0 [wM K.g y all kept hist hl slo sav beg2 prt2 frm txt tl sp tol rd] [(0, .ref (y 0)), (1, .int (nI 11))] 4 []
    have hp30 : ∀ i, i < n → prt2 i ≤ 30000 := fun i hi => Nat.le_trans (hp i hi) (by decide)
    refine z_iload_n C 1 rfl rfl dX5_count_4 5 rfl ?_
    refine z_tab C (by decide) 80 dX5_count_5 (by decide) (by decide) rfl (by decide) ?_
    refine z_aload_n C 0 rfl rfl dX5_count_80 81 rfl ?_
    refine z_iload_n C 1 rfl rfl dX5_count_81 82 rfl ?_
    refine z_callV C [.int (nI 11)] [] (tX5_sumOf_11 K.l K.g y all kept hist hl slo sav beg2 prt2 frm txt tl sp tol rd st r n (by first | omega | assumption) (by first | omega | assumption) (by first | omega | assumption) (by first | omega | assumption) (by first | omega | assumption)) gX5_count_X5_sumOf rfl rfl rfl hdX5_sumOf ⟨Nat.le_of_ble_eq_true rfl, Nat.le_of_ble_eq_true rfl⟩ ⟨Nat.zero_le _, Nat.zero_le _⟩ 0 0 rfl rfl rfl [0] rfl rfl (zlc (N := 1) rfl rfl) [1] rfl (by decide) (fun _ : Unit => [wM K.g y all kept hist hl slo sav beg2 prt2 frm txt tl sp tol rd]) (fun _ => rfl) rfl rfl (Nat.le_of_ble_eq_true rfl) dX5_count_82 85 rfl (fun u9 hu9 => ?_)
    show Z K 0 0 [wM K.g y all kept hist hl slo sav beg2 prt2 frm txt tl sp tol rd] [(0, .ref (y 0)), (1, .int (nI 11))] 85 [.int (nI (ct (fun i => decide (0 < prt2 i + st 4 - r 3 i)) n))]
    exact z_iret C hRx dX5_count_85 (beg2, prt2) (congrArg (fun z => some (Value.int (nI z))) (ct_L hP).symm) trivial rfl
  · skip
    refine z_aload_n C 0 rfl rfl dX5_count_0 1 rfl ?_
    refine z_callV C [] [] (tX5_prints K.l K.g y all kept hist hl slo sav beg prt frm txt tl sp tol rd st r n (by first | omega | assumption) (by first | omega | assumption) (by first | omega | assumption) (by first | omega | assumption) (by first | omega | assumption)) gX5_count_X5_prints rfl rfl rfl hdX5_prints ⟨Nat.le_of_ble_eq_true rfl, Nat.le_of_ble_eq_true rfl⟩ ⟨Nat.zero_le _, Nat.zero_le _⟩ 0 0 rfl rfl rfl [0] rfl rfl (zlc (N := 1) rfl rfl) [1] rfl (by decide) (fun u : (Nat → Nat) × (Nat → Nat) => match u with | (beg2, prt2) => [wM K.g y all kept hist hl slo sav beg2 prt2 frm txt tl sp tol rd]) (fun _ => rfl) rfl rfl (Nat.le_of_ble_eq_true rfl) dX5_count_1 4 rfl (fun u9 hu9 => ?_)
    obtain ⟨beg2, prt2⟩ := u9
    obtain ⟨hP, hE, hp⟩ := hu9
    have hP : isP st r (st 5) prt2 n := hP
    have hE : ∀ i, i < n → beg2 i + (rdy st r i + r 2 i * st 3) = prt2 i := hE
    have hp : ∀ i, i < n → prt2 i ≤ 14400 := hp
    show Z K 0 0 [wM K.g y all kept hist hl slo sav beg2 prt2 frm txt tl sp tol rd] [(0, .ref (y 0)), (1, .int (nI 12))] 4 []
    have hp30 : ∀ i, i < n → prt2 i ≤ 30000 := fun i hi => Nat.le_trans (hp i hi) (by decide)
    refine z_iload_n C 1 rfl rfl dX5_count_4 5 rfl ?_
    refine z_tab C (by decide) 80 dX5_count_5 (by decide) (by decide) rfl (by decide) ?_
    refine z_aload_n C 0 rfl rfl dX5_count_80 81 rfl ?_
    refine z_iload_n C 1 rfl rfl dX5_count_81 82 rfl ?_
    refine z_callV C [.int (nI 12)] [] (tX5_sumOf_12 K.l K.g y all kept hist hl slo sav beg2 prt2 frm txt tl sp tol rd st r n (by first | omega | assumption) (by first | omega | assumption) (by first | omega | assumption) (by first | omega | assumption) (by first | omega | assumption)) gX5_count_X5_sumOf rfl rfl rfl hdX5_sumOf ⟨Nat.le_of_ble_eq_true rfl, Nat.le_of_ble_eq_true rfl⟩ ⟨Nat.zero_le _, Nat.zero_le _⟩ 0 0 rfl rfl rfl [0] rfl rfl (zlc (N := 1) rfl rfl) [1] rfl (by decide) (fun _ : Unit => [wM K.g y all kept hist hl slo sav beg2 prt2 frm txt tl sp tol rd]) (fun _ => rfl) rfl rfl (Nat.le_of_ble_eq_true rfl) dX5_count_82 85 rfl (fun u9 hu9 => ?_)
    show Z K 0 0 [wM K.g y all kept hist hl slo sav beg2 prt2 frm txt tl sp tol rd] [(0, .ref (y 0)), (1, .int (nI 12))] 85 [.int (nI (sm (fun i => prt2 i + st 4 - r 3 i) n))]
    exact z_iret C hRx dX5_count_85 (beg2, prt2) (congrArg (fun z => some (Value.int (nI z))) (LS_e hP).symm) trivial rfl
  · skip
    refine z_aload_n C 0 rfl rfl dX5_count_0 1 rfl ?_
    refine z_callV C [] [] (tX5_prints K.l K.g y all kept hist hl slo sav beg prt frm txt tl sp tol rd st r n (by first | omega | assumption) (by first | omega | assumption) (by first | omega | assumption) (by first | omega | assumption) (by first | omega | assumption)) gX5_count_X5_prints rfl rfl rfl hdX5_prints ⟨Nat.le_of_ble_eq_true rfl, Nat.le_of_ble_eq_true rfl⟩ ⟨Nat.zero_le _, Nat.zero_le _⟩ 0 0 rfl rfl rfl [0] rfl rfl (zlc (N := 1) rfl rfl) [1] rfl (by decide) (fun u : (Nat → Nat) × (Nat → Nat) => match u with | (beg2, prt2) => [wM K.g y all kept hist hl slo sav beg2 prt2 frm txt tl sp tol rd]) (fun _ => rfl) rfl rfl (Nat.le_of_ble_eq_true rfl) dX5_count_1 4 rfl (fun u9 hu9 => ?_)
    obtain ⟨beg2, prt2⟩ := u9
    obtain ⟨hP, hE, hp⟩ := hu9
    have hP : isP st r (st 5) prt2 n := hP
    have hE : ∀ i, i < n → beg2 i + (rdy st r i + r 2 i * st 3) = prt2 i := hE
    have hp : ∀ i, i < n → prt2 i ≤ 14400 := hp
    show Z K 0 0 [wM K.g y all kept hist hl slo sav beg2 prt2 frm txt tl sp tol rd] [(0, .ref (y 0)), (1, .int (nI 13))] 4 []
    have hp30 : ∀ i, i < n → prt2 i ≤ 30000 := fun i hi => Nat.le_trans (hp i hi) (by decide)
    refine z_iload_n C 1 rfl rfl dX5_count_4 5 rfl ?_
    refine z_tab C (by decide) 86 dX5_count_5 (by decide) (by decide) rfl (by decide) ?_
    refine z_aload_n C 0 rfl rfl dX5_count_86 87 rfl ?_
    refine z_iload_n C 1 rfl rfl dX5_count_87 88 rfl ?_
    refine z_callV C [.int (nI 13)] [] (tX5_greatestOf_13 K.l K.g y all kept hist hl slo sav beg2 prt2 frm txt tl sp tol rd st r n (by first | omega | assumption) (by first | omega | assumption) (by first | omega | assumption) (by first | omega | assumption) (by first | omega | assumption)) gX5_count_X5_greatestOf rfl rfl rfl hdX5_greatestOf ⟨Nat.le_of_ble_eq_true rfl, Nat.le_of_ble_eq_true rfl⟩ ⟨Nat.zero_le _, Nat.zero_le _⟩ 0 0 rfl rfl rfl [0] rfl rfl (zlc (N := 1) rfl rfl) [1] rfl (by decide) (fun _ : Unit => [wM K.g y all kept hist hl slo sav beg2 prt2 frm txt tl sp tol rd]) (fun _ => rfl) rfl rfl (Nat.le_of_ble_eq_true rfl) dX5_count_88 91 rfl (fun u9 hu9 => ?_)
    show Z K 0 0 [wM K.g y all kept hist hl slo sav beg2 prt2 frm txt tl sp tol rd] [(0, .ref (y 0)), (1, .int (nI 13))] 91 [.int (nI (mx (fun i => prt2 i + st 4 - r 3 i) n))]
    exact z_iret C hRx dX5_count_91 (beg2, prt2) (congrArg (fun z => some (Value.int (nI z))) (mx_L hP).symm) trivial rfl
  · skip
    refine z_aload_n C 0 rfl rfl dX5_count_0 1 rfl ?_
    refine z_callV C [] [] (tX5_prints K.l K.g y all kept hist hl slo sav beg prt frm txt tl sp tol rd st r n (by first | omega | assumption) (by first | omega | assumption) (by first | omega | assumption) (by first | omega | assumption) (by first | omega | assumption)) gX5_count_X5_prints rfl rfl rfl hdX5_prints ⟨Nat.le_of_ble_eq_true rfl, Nat.le_of_ble_eq_true rfl⟩ ⟨Nat.zero_le _, Nat.zero_le _⟩ 0 0 rfl rfl rfl [0] rfl rfl (zlc (N := 1) rfl rfl) [1] rfl (by decide) (fun u : (Nat → Nat) × (Nat → Nat) => match u with | (beg2, prt2) => [wM K.g y all kept hist hl slo sav beg2 prt2 frm txt tl sp tol rd]) (fun _ => rfl) rfl rfl (Nat.le_of_ble_eq_true rfl) dX5_count_1 4 rfl (fun u9 hu9 => ?_)
    obtain ⟨beg2, prt2⟩ := u9
    obtain ⟨hP, hE, hp⟩ := hu9
    have hP : isP st r (st 5) prt2 n := hP
    have hE : ∀ i, i < n → beg2 i + (rdy st r i + r 2 i * st 3) = prt2 i := hE
    have hp : ∀ i, i < n → prt2 i ≤ 14400 := hp
    show Z K 0 0 [wM K.g y all kept hist hl slo sav beg2 prt2 frm txt tl sp tol rd] [(0, .ref (y 0)), (1, .int (nI 14))] 4 []
    have hp30 : ∀ i, i < n → prt2 i ≤ 30000 := fun i hi => Nat.le_trans (hp i hi) (by decide)
    refine z_iload_n C 1 rfl rfl dX5_count_4 5 rfl ?_
    refine z_tab C (by decide) 80 dX5_count_5 (by decide) (by decide) rfl (by decide) ?_
    refine z_aload_n C 0 rfl rfl dX5_count_80 81 rfl ?_
    refine z_iload_n C 1 rfl rfl dX5_count_81 82 rfl ?_
    refine z_callV C [.int (nI 14)] [] (tX5_sumOf_14 K.l K.g y all kept hist hl slo sav beg2 prt2 frm txt tl sp tol rd st r n (by first | omega | assumption) (by first | omega | assumption) (by first | omega | assumption) (by first | omega | assumption) (by first | omega | assumption)) gX5_count_X5_sumOf rfl rfl rfl hdX5_sumOf ⟨Nat.le_of_ble_eq_true rfl, Nat.le_of_ble_eq_true rfl⟩ ⟨Nat.zero_le _, Nat.zero_le _⟩ 0 0 rfl rfl rfl [0] rfl rfl (zlc (N := 1) rfl rfl) [1] rfl (by decide) (fun _ : Unit => [wM K.g y all kept hist hl slo sav beg2 prt2 frm txt tl sp tol rd]) (fun _ => rfl) rfl rfl (Nat.le_of_ble_eq_true rfl) dX5_count_82 85 rfl (fun u9 hu9 => ?_)
    show Z K 0 0 [wM K.g y all kept hist hl slo sav beg2 prt2 frm txt tl sp tol rd] [(0, .ref (y 0)), (1, .int (nI 14))] 85 [.int (nI (sm (wsh st r) n))]
    exact z_iret C hRx dX5_count_85 (beg2, prt2) rfl trivial rfl
  · skip
    refine z_aload_n C 0 rfl rfl dX5_count_0 1 rfl ?_
    refine z_callV C [] [] (tX5_prints K.l K.g y all kept hist hl slo sav beg prt frm txt tl sp tol rd st r n (by first | omega | assumption) (by first | omega | assumption) (by first | omega | assumption) (by first | omega | assumption) (by first | omega | assumption)) gX5_count_X5_prints rfl rfl rfl hdX5_prints ⟨Nat.le_of_ble_eq_true rfl, Nat.le_of_ble_eq_true rfl⟩ ⟨Nat.zero_le _, Nat.zero_le _⟩ 0 0 rfl rfl rfl [0] rfl rfl (zlc (N := 1) rfl rfl) [1] rfl (by decide) (fun u : (Nat → Nat) × (Nat → Nat) => match u with | (beg2, prt2) => [wM K.g y all kept hist hl slo sav beg2 prt2 frm txt tl sp tol rd]) (fun _ => rfl) rfl rfl (Nat.le_of_ble_eq_true rfl) dX5_count_1 4 rfl (fun u9 hu9 => ?_)
    obtain ⟨beg2, prt2⟩ := u9
    obtain ⟨hP, hE, hp⟩ := hu9
    have hP : isP st r (st 5) prt2 n := hP
    have hE : ∀ i, i < n → beg2 i + (rdy st r i + r 2 i * st 3) = prt2 i := hE
    have hp : ∀ i, i < n → prt2 i ≤ 14400 := hp
    show Z K 0 0 [wM K.g y all kept hist hl slo sav beg2 prt2 frm txt tl sp tol rd] [(0, .ref (y 0)), (1, .int (nI 15))] 4 []
    have hp30 : ∀ i, i < n → prt2 i ≤ 30000 := fun i hi => Nat.le_trans (hp i hi) (by decide)
    refine z_iload_n C 1 rfl rfl dX5_count_4 5 rfl ?_
    refine z_tab C (by decide) 80 dX5_count_5 (by decide) (by decide) rfl (by decide) ?_
    refine z_aload_n C 0 rfl rfl dX5_count_80 81 rfl ?_
    refine z_iload_n C 1 rfl rfl dX5_count_81 82 rfl ?_
    refine z_callV C [.int (nI 15)] [] (tX5_sumOf_15 K.l K.g y all kept hist hl slo sav beg2 prt2 frm txt tl sp tol rd st r n (by first | omega | assumption) (by first | omega | assumption) (by first | omega | assumption) (by first | omega | assumption) (by first | omega | assumption)) gX5_count_X5_sumOf rfl rfl rfl hdX5_sumOf ⟨Nat.le_of_ble_eq_true rfl, Nat.le_of_ble_eq_true rfl⟩ ⟨Nat.zero_le _, Nat.zero_le _⟩ 0 0 rfl rfl rfl [0] rfl rfl (zlc (N := 1) rfl rfl) [1] rfl (by decide) (fun _ : Unit => [wM K.g y all kept hist hl slo sav beg2 prt2 frm txt tl sp tol rd]) (fun _ => rfl) rfl rfl (Nat.le_of_ble_eq_true rfl) dX5_count_82 85 rfl (fun u9 hu9 => ?_)
    show Z K 0 0 [wM K.g y all kept hist hl slo sav beg2 prt2 frm txt tl sp tol rd] [(0, .ref (y 0)), (1, .int (nI 15))] 85 [.int (nI (sm (plt r) n))]
    exact z_iret C hRx dX5_count_85 (beg2, prt2) rfl trivial rfl
  · skip
    refine z_aload_n C 0 rfl rfl dX5_count_0 1 rfl ?_
    refine z_callV C [] [] (tX5_prints K.l K.g y all kept hist hl slo sav beg prt frm txt tl sp tol rd st r n (by first | omega | assumption) (by first | omega | assumption) (by first | omega | assumption) (by first | omega | assumption) (by first | omega | assumption)) gX5_count_X5_prints rfl rfl rfl hdX5_prints ⟨Nat.le_of_ble_eq_true rfl, Nat.le_of_ble_eq_true rfl⟩ ⟨Nat.zero_le _, Nat.zero_le _⟩ 0 0 rfl rfl rfl [0] rfl rfl (zlc (N := 1) rfl rfl) [1] rfl (by decide) (fun u : (Nat → Nat) × (Nat → Nat) => match u with | (beg2, prt2) => [wM K.g y all kept hist hl slo sav beg2 prt2 frm txt tl sp tol rd]) (fun _ => rfl) rfl rfl (Nat.le_of_ble_eq_true rfl) dX5_count_1 4 rfl (fun u9 hu9 => ?_)
    obtain ⟨beg2, prt2⟩ := u9
    obtain ⟨hP, hE, hp⟩ := hu9
    have hP : isP st r (st 5) prt2 n := hP
    have hE : ∀ i, i < n → beg2 i + (rdy st r i + r 2 i * st 3) = prt2 i := hE
    have hp : ∀ i, i < n → prt2 i ≤ 14400 := hp
    show Z K 0 0 [wM K.g y all kept hist hl slo sav beg2 prt2 frm txt tl sp tol rd] [(0, .ref (y 0)), (1, .int (nI 16))] 4 []
    have hp30 : ∀ i, i < n → prt2 i ≤ 30000 := fun i hi => Nat.le_trans (hp i hi) (by decide)
    refine z_iload_n C 1 rfl rfl dX5_count_4 5 rfl ?_
    refine z_tab C (by decide) 80 dX5_count_5 (by decide) (by decide) rfl (by decide) ?_
    refine z_aload_n C 0 rfl rfl dX5_count_80 81 rfl ?_
    refine z_iload_n C 1 rfl rfl dX5_count_81 82 rfl ?_
    refine z_callV C [.int (nI 16)] [] (tX5_sumOf_16 K.l K.g y all kept hist hl slo sav beg2 prt2 frm txt tl sp tol rd st r n (by first | omega | assumption) (by first | omega | assumption) (by first | omega | assumption) (by first | omega | assumption) (by first | omega | assumption) (fun i hi => BF_e hP hE hi)) gX5_count_X5_sumOf rfl rfl rfl hdX5_sumOf ⟨Nat.le_of_ble_eq_true rfl, Nat.le_of_ble_eq_true rfl⟩ ⟨Nat.zero_le _, Nat.zero_le _⟩ 0 0 rfl rfl rfl [0] rfl rfl (zlc (N := 1) rfl rfl) [1] rfl (by decide) (fun _ : Unit => [wM K.g y all kept hist hl slo sav beg2 prt2 frm txt tl sp tol rd]) (fun _ => rfl) rfl rfl (Nat.le_of_ble_eq_true rfl) dX5_count_82 85 rfl (fun u9 hu9 => ?_)
    show Z K 0 0 [wM K.g y all kept hist hl slo sav beg2 prt2 frm txt tl sp tol rd] [(0, .ref (y 0)), (1, .int (nI 16))] 85 [.int (nI (sm (fun i => beg2 i - fre prt2 i) n))]
    exact z_iret C hRx dX5_count_85 (beg2, prt2) (congrArg (fun z => some (Value.int (nI z))) (sm_W hP hE).symm) trivial rfl
  · skip
    refine z_aload_n C 0 rfl rfl dX5_count_0 1 rfl ?_
    refine z_callV C [] [] (tX5_prints K.l K.g y all kept hist hl slo sav beg prt frm txt tl sp tol rd st r n (by first | omega | assumption) (by first | omega | assumption) (by first | omega | assumption) (by first | omega | assumption) (by first | omega | assumption)) gX5_count_X5_prints rfl rfl rfl hdX5_prints ⟨Nat.le_of_ble_eq_true rfl, Nat.le_of_ble_eq_true rfl⟩ ⟨Nat.zero_le _, Nat.zero_le _⟩ 0 0 rfl rfl rfl [0] rfl rfl (zlc (N := 1) rfl rfl) [1] rfl (by decide) (fun u : (Nat → Nat) × (Nat → Nat) => match u with | (beg2, prt2) => [wM K.g y all kept hist hl slo sav beg2 prt2 frm txt tl sp tol rd]) (fun _ => rfl) rfl rfl (Nat.le_of_ble_eq_true rfl) dX5_count_1 4 rfl (fun u9 hu9 => ?_)
    obtain ⟨beg2, prt2⟩ := u9
    obtain ⟨hP, hE, hp⟩ := hu9
    have hP : isP st r (st 5) prt2 n := hP
    have hE : ∀ i, i < n → beg2 i + (rdy st r i + r 2 i * st 3) = prt2 i := hE
    have hp : ∀ i, i < n → prt2 i ≤ 14400 := hp
    show Z K 0 0 [wM K.g y all kept hist hl slo sav beg2 prt2 frm txt tl sp tol rd] [(0, .ref (y 0)), (1, .int (nI 17))] 4 []
    have hp30 : ∀ i, i < n → prt2 i ≤ 30000 := fun i hi => Nat.le_trans (hp i hi) (by decide)
    refine z_iload_n C 1 rfl rfl dX5_count_4 5 rfl ?_
    refine z_tab C (by decide) 86 dX5_count_5 (by decide) (by decide) rfl (by decide) ?_
    refine z_aload_n C 0 rfl rfl dX5_count_86 87 rfl ?_
    refine z_iload_n C 1 rfl rfl dX5_count_87 88 rfl ?_
    refine z_callV C [.int (nI 17)] [] (tX5_greatestOf_17 K.l K.g y all kept hist hl slo sav beg2 prt2 frm txt tl sp tol rd st r n (by first | omega | assumption) (by first | omega | assumption) (by first | omega | assumption) (by first | omega | assumption) (by first | omega | assumption) hP) gX5_count_X5_greatestOf rfl rfl rfl hdX5_greatestOf ⟨Nat.le_of_ble_eq_true rfl, Nat.le_of_ble_eq_true rfl⟩ ⟨Nat.zero_le _, Nat.zero_le _⟩ 0 0 rfl rfl rfl [0] rfl rfl (zlc (N := 1) rfl rfl) [1] rfl (by decide) (fun _ : Unit => [wM K.g y all kept hist hl slo sav beg2 prt2 frm txt tl sp tol rd]) (fun _ => rfl) rfl rfl (Nat.le_of_ble_eq_true rfl) dX5_count_88 91 rfl (fun u9 hu9 => ?_)
    show Z K 0 0 [wM K.g y all kept hist hl slo sav beg2 prt2 frm txt tl sp tol rd] [(0, .ref (y 0)), (1, .int (nI 17))] 91 [.int (nI (mx (fun i => tkn st r prt2 n (prt2 i)) n))]
    exact z_iret C hRx dX5_count_91 (beg2, prt2) (congrArg (fun z => some (Value.int (nI z))) (mx_T hS hJ hP).symm) trivial rfl
  · skip
    refine z_aload_n C 0 rfl rfl dX5_count_0 1 rfl ?_
    refine z_callV C [] [] (tX5_prints K.l K.g y all kept hist hl slo sav beg prt frm txt tl sp tol rd st r n (by first | omega | assumption) (by first | omega | assumption) (by first | omega | assumption) (by first | omega | assumption) (by first | omega | assumption)) gX5_count_X5_prints rfl rfl rfl hdX5_prints ⟨Nat.le_of_ble_eq_true rfl, Nat.le_of_ble_eq_true rfl⟩ ⟨Nat.zero_le _, Nat.zero_le _⟩ 0 0 rfl rfl rfl [0] rfl rfl (zlc (N := 1) rfl rfl) [1] rfl (by decide) (fun u : (Nat → Nat) × (Nat → Nat) => match u with | (beg2, prt2) => [wM K.g y all kept hist hl slo sav beg2 prt2 frm txt tl sp tol rd]) (fun _ => rfl) rfl rfl (Nat.le_of_ble_eq_true rfl) dX5_count_1 4 rfl (fun u9 hu9 => ?_)
    obtain ⟨beg2, prt2⟩ := u9
    obtain ⟨hP, hE, hp⟩ := hu9
    have hP : isP st r (st 5) prt2 n := hP
    have hE : ∀ i, i < n → beg2 i + (rdy st r i + r 2 i * st 3) = prt2 i := hE
    have hp : ∀ i, i < n → prt2 i ≤ 14400 := hp
    show Z K 0 0 [wM K.g y all kept hist hl slo sav beg2 prt2 frm txt tl sp tol rd] [(0, .ref (y 0)), (1, .int (nI 18))] 4 []
    have hp30 : ∀ i, i < n → prt2 i ≤ 30000 := fun i hi => Nat.le_trans (hp i hi) (by decide)
    refine z_iload_n C 1 rfl rfl dX5_count_4 5 rfl ?_
    refine z_tab C (by decide) 92 dX5_count_5 (by decide) (by decide) rfl (by decide) ?_
    refine z_aload_n C 0 rfl rfl dX5_count_92 93 rfl ?_
    refine z_get C zc5 iX5_count_X5 0 0 rfl rfl 10 (Nat.le_of_ble_eq_true rfl) (List.mem_of_getElem? (i := 2) rfl) (v := .int (nI tl)) rfl dX5_count_93 96 rfl ?_
    exact z_iret C hRx dX5_count_96 (beg2, prt2) rfl trivial rfl
  · skip
    refine z_aload_n C 0 rfl rfl dX5_count_0 1 rfl ?_
    refine z_callV C [] [] (tX5_prints K.l K.g y all kept hist hl slo sav beg prt frm txt tl sp tol rd st r n (by first | omega | assumption) (by first | omega | assumption) (by first | omega | assumption) (by first | omega | assumption) (by first | omega | assumption)) gX5_count_X5_prints rfl rfl rfl hdX5_prints ⟨Nat.le_of_ble_eq_true rfl, Nat.le_of_ble_eq_true rfl⟩ ⟨Nat.zero_le _, Nat.zero_le _⟩ 0 0 rfl rfl rfl [0] rfl rfl (zlc (N := 1) rfl rfl) [1] rfl (by decide) (fun u : (Nat → Nat) × (Nat → Nat) => match u with | (beg2, prt2) => [wM K.g y all kept hist hl slo sav beg2 prt2 frm txt tl sp tol rd]) (fun _ => rfl) rfl rfl (Nat.le_of_ble_eq_true rfl) dX5_count_1 4 rfl (fun u9 hu9 => ?_)
    obtain ⟨beg2, prt2⟩ := u9
    obtain ⟨hP, hE, hp⟩ := hu9
    have hP : isP st r (st 5) prt2 n := hP
    have hE : ∀ i, i < n → beg2 i + (rdy st r i + r 2 i * st 3) = prt2 i := hE
    have hp : ∀ i, i < n → prt2 i ≤ 14400 := hp
    show Z K 0 0 [wM K.g y all kept hist hl slo sav beg2 prt2 frm txt tl sp tol rd] [(0, .ref (y 0)), (1, .int (nI 19))] 4 []
    have hp30 : ∀ i, i < n → prt2 i ≤ 30000 := fun i hi => Nat.le_trans (hp i hi) (by decide)
    refine z_iload_n C 1 rfl rfl dX5_count_4 5 rfl ?_
    refine z_tab C (by decide) 97 dX5_count_5 (by decide) (by decide) rfl (by decide) ?_
    refine z_aload_n C 0 rfl rfl dX5_count_97 98 rfl ?_
    refine z_get C zc5 iX5_count_X5 0 0 rfl rfl 3 (Nat.le_of_ble_eq_true rfl) (List.mem_of_getElem? (i := 3) rfl) (v := .int (nI hl)) rfl dX5_count_98 101 rfl ?_
    exact z_iret C hRx dX5_count_101 (beg2, prt2) rfl trivial rfl

set_option maxHeartbeats 4000000 in
set_option maxRecDepth 100000 in
theorem tX5_at_bv (l : Launch) (g : zG) (y all kept hist : Nat → Nat) (hl : Nat) (slo sav beg prt frm txt : Nat → Nat) (tl sp : Nat) (tol : Nat → Nat) (rd : Nat) (v w : Int32) (hb : (rg v.toInt (Int.ofNat 0) (Int.ofNat 99999) && rg w.toInt (Int.ofNat 0) (Int.ofNat 3)) = false) : Met l yX5_at wsX5_at ({ frames := 4, cells := 0, slots := 0, locals := 91 } : Room) (zPre g [.ref (y 0), .int v, .int w] [wM g y all kept hist hl slo sav beg prt frm txt tl sp tol rd]) (zQ g (fun _ : Unit => some (.int (-2)) ) (fun _ : Unit => True) (fun _ : Unit => [wM g y all kept hist hl slo sav beg prt frm txt tl sp tol rd]) (zA [wM g y all kept hist hl slo sav beg prt frm txt tl sp tol rd])) 0 0 (zA [wM g y all kept hist hl slo sav beg prt frm txt tl sp tol rd]) := by
  refine z_entry (cc := cX5_at) (maxL := 5) (ret := (some .int)) (own := RX5) (by decide) rfl rfl (Nat.le_of_ble_eq_true rfl) [(0, .ref (y 0)), (1, .int v), (2, .int w)] rfl ?_
  intro K hKl hKg hnL C hRx
  subst hKl
  subst hKg
  refine z_iload_n C 1 rfl rfl dX5_at_0 1 rfl ?_
  refine z_i2l C dX5_at_1 2 rfl ?_
  refine z_lconst C (v := lN 0) rfl dX5_at_2 3 rfl ?_
  refine z_ldc2 C (v := lN 99999) (List.mem_of_getElem? (i := 1) rfl) dX5_at_3 6 rfl ?_
  refine z_callP C [.long ((v).toInt64), .long (lN 0), .long (lN 99999)] [] (tX5_inI K.l K.g v 0 99999 (by first | omega | assumption) (by first | omega | assumption)) gX5_at_X5_in rfl rfl rfl hdX5_in ⟨Nat.le_of_ble_eq_true rfl, Nat.le_of_ble_eq_true rfl⟩ ⟨Nat.zero_le _, Nat.zero_le _⟩ rfl rfl (Nat.le_of_ble_eq_true rfl) dX5_at_6 9 rfl (fun u9 hu9 => ?_)
  show Z K 0 0 [wM K.g y all kept hist hl slo sav beg prt frm txt tl sp tol rd] [(0, .ref (y 0)), (1, .int v), (2, .int w)] 9 [.int (bI (rg v.toInt (Int.ofNat 0) (Int.ofNat 99999)))]
  refine z_ifb_eq C 24 dX5_at_9 (by decide) 12 rfl (fun c_1 => ?_) (fun c_1 => ?_)
  · skip
    refine z_bipush C (v := (-2)) rfl dX5_at_24 26 rfl ?_
    exact z_iret C hRx dX5_at_26 () rfl trivial rfl
  · skip
    refine z_iload_n C 2 rfl rfl dX5_at_12 13 rfl ?_
    refine z_i2l C dX5_at_13 14 rfl ?_
    refine z_lconst C (v := lN 0) rfl dX5_at_14 15 rfl ?_
    refine z_ldc2 C (v := lN 3) (List.mem_of_getElem? (i := 2) rfl) dX5_at_15 18 rfl ?_
    refine z_callP C [.long ((w).toInt64), .long (lN 0), .long (lN 3)] [] (tX5_inI K.l K.g w 0 3 (by first | omega | assumption) (by first | omega | assumption)) gX5_at_X5_in rfl rfl rfl hdX5_in ⟨Nat.le_of_ble_eq_true rfl, Nat.le_of_ble_eq_true rfl⟩ ⟨Nat.zero_le _, Nat.zero_le _⟩ rfl rfl (Nat.le_of_ble_eq_true rfl) dX5_at_18 21 rfl (fun u9 hu9 => ?_)
    show Z K 0 0 [wM K.g y all kept hist hl slo sav beg prt frm txt tl sp tol rd] [(0, .ref (y 0)), (1, .int v), (2, .int w)] 21 [.int (bI (rg w.toInt (Int.ofNat 0) (Int.ofNat 3)))]
    refine z_ifb_ne C 27 dX5_at_21 (by decide) 24 rfl (fun c_2 => ?_) (fun c_2 => ?_)
    · exfalso; simp_all
    refine z_bipush C (v := (-2)) rfl dX5_at_24 26 rfl ?_
    exact z_iret C hRx dX5_at_26 () rfl trivial rfl

theorem iX5_at_X5 : ∀ w ∈ u_ws RX5 TX5 14, w ∈ wsX5_at := fun w h => (List.mem_cons_of_mem _ (List.mem_append_right _ h))
set_option maxHeartbeats 4000000 in
set_option maxRecDepth 100000 in
theorem tX5_at_ok (l : Launch) (g : zG) (y all kept hist : Nat → Nat) (hl : Nat) (slo sav beg prt frm txt : Nat → Nat) (tl sp : Nat) (tol : Nat → Nat) (rd : Nat) (st : Nat → Nat) (r : Nat → Nat → Nat) (n : Nat) (m k : Nat) (hn : n ≤ 12) (hB : Bd all st r n) (hS : okS st) (hJ : okJ r n) (hR : okR st r n (st 5)) (hm : m ≤ 99999) (hk : k ≤ 3) : Met l yX5_at wsX5_at ({ frames := 4, cells := 0, slots := 0, locals := 91 } : Room) (zPre g [.ref (y 0), .int (nI m), .int (nI k)] [wM g y all kept hist hl slo sav beg prt frm txt tl sp tol rd]) (zQ g (fun u : (Nat → Nat) × (Nat → Nat) => match u with | (beg2, prt2) => some (.int (AT st r n m k)) ) (fun u : (Nat → Nat) × (Nat → Nat) => match u with | (beg2, prt2) => True) (fun u : (Nat → Nat) × (Nat → Nat) => match u with | (beg2, prt2) => [wM g y all kept hist hl slo sav beg2 prt2 frm txt tl sp tol rd]) (zA [wM g y all kept hist hl slo sav beg prt frm txt tl sp tol rd])) 0 0 (zA [wM g y all kept hist hl slo sav beg prt frm txt tl sp tol rd]) := by
  refine z_entry (cc := cX5_at) (maxL := 5) (ret := (some .int)) (own := RX5) (by decide) rfl rfl (Nat.le_of_ble_eq_true rfl) [(0, .ref (y 0)), (1, .int (nI m)), (2, .int (nI k))] rfl ?_
  intro K hKl hKg hnL C hRx
  subst hKl
  subst hKg
  rcases (show k = 0 ∨ k = 1 ∨ k = 2 ∨ k = 3 by omega) with rfl | rfl | rfl | rfl
  · skip
    refine z_iload_n C 1 rfl rfl dX5_at_0 1 rfl ?_
    refine z_i2l C dX5_at_1 2 rfl ?_
    refine z_lconst C (v := lN 0) rfl dX5_at_2 3 rfl ?_
    refine z_ldc2 C (v := lN 99999) (List.mem_of_getElem? (i := 1) rfl) dX5_at_3 6 rfl ?_
    refine z_callP C [.long ((nI m).toInt64), .long (lN 0), .long (lN 99999)] [] (tX5_inI K.l K.g (nI m) 0 99999 (by first | omega | assumption) (by first | omega | assumption)) gX5_at_X5_in rfl rfl rfl hdX5_in ⟨Nat.le_of_ble_eq_true rfl, Nat.le_of_ble_eq_true rfl⟩ ⟨Nat.zero_le _, Nat.zero_le _⟩ rfl rfl (Nat.le_of_ble_eq_true rfl) dX5_at_6 9 rfl (fun u9 hu9 => ?_)
    show Z K 0 0 [wM K.g y all kept hist hl slo sav beg prt frm txt tl sp tol rd] [(0, .ref (y 0)), (1, .int (nI m)), (2, .int (nI 0))] 9 [.int (bI (rg (nI m).toInt (Int.ofNat 0) (Int.ofNat 99999)))]
    refine z_ifb_eq C 24 dX5_at_9 (by decide) 12 rfl (fun c_1 => ?_) (fun c_1 => ?_)
    · exfalso; rw [rgN_t (by omega) (by omega) (by omega)] at c_1; exact Bool.noConfusion c_1
    refine z_iload_n C 2 rfl rfl dX5_at_12 13 rfl ?_
    refine z_i2l C dX5_at_13 14 rfl ?_
    refine z_lconst C (v := lN 0) rfl dX5_at_14 15 rfl ?_
    refine z_ldc2 C (v := lN 3) (List.mem_of_getElem? (i := 2) rfl) dX5_at_15 18 rfl ?_
    refine z_callP C [.long ((nI 0).toInt64), .long (lN 0), .long (lN 3)] [] (tX5_inI K.l K.g (nI 0) 0 3 (by first | omega | assumption) (by first | omega | assumption)) gX5_at_X5_in rfl rfl rfl hdX5_in ⟨Nat.le_of_ble_eq_true rfl, Nat.le_of_ble_eq_true rfl⟩ ⟨Nat.zero_le _, Nat.zero_le _⟩ rfl rfl (Nat.le_of_ble_eq_true rfl) dX5_at_18 21 rfl (fun u9 hu9 => ?_)
    show Z K 0 0 [wM K.g y all kept hist hl slo sav beg prt frm txt tl sp tol rd] [(0, .ref (y 0)), (1, .int (nI m)), (2, .int (nI 0))] 21 [.int (bI (rg (nI 0).toInt (Int.ofNat 0) (Int.ofNat 3)))]
    refine z_ifb_ne C 27 dX5_at_21 (by decide) 24 rfl (fun c_2 => ?_) (fun c_2 => ?_)
    rotate_left
    · exfalso; rw [rgN_t (by omega) (by omega) (by omega)] at c_2; exact Bool.noConfusion c_2
    refine z_aload_n C 0 rfl rfl dX5_at_27 28 rfl ?_
    refine z_callV C [] [] (tX5_prints K.l K.g y all kept hist hl slo sav beg prt frm txt tl sp tol rd st r n (by first | omega | assumption) (by first | omega | assumption) (by first | omega | assumption) (by first | omega | assumption) (by first | omega | assumption)) gX5_at_X5_prints rfl rfl rfl hdX5_prints ⟨Nat.le_of_ble_eq_true rfl, Nat.le_of_ble_eq_true rfl⟩ ⟨Nat.zero_le _, Nat.zero_le _⟩ 0 0 rfl rfl rfl [0] rfl rfl (zlc (N := 1) rfl rfl) [1] rfl (by decide) (fun u : (Nat → Nat) × (Nat → Nat) => match u with | (beg2, prt2) => [wM K.g y all kept hist hl slo sav beg2 prt2 frm txt tl sp tol rd]) (fun _ => rfl) rfl rfl (Nat.le_of_ble_eq_true rfl) dX5_at_28 31 rfl (fun u9 hu9 => ?_)
    obtain ⟨beg2, prt2⟩ := u9
    obtain ⟨hP, hE, hp⟩ := hu9
    have hP : isP st r (st 5) prt2 n := hP
    have hE : ∀ i, i < n → beg2 i + (rdy st r i + r 2 i * st 3) = prt2 i := hE
    have hp : ∀ i, i < n → prt2 i ≤ 14400 := hp
    show Z K 0 0 [wM K.g y all kept hist hl slo sav beg2 prt2 frm txt tl sp tol rd] [(0, .ref (y 0)), (1, .int (nI m)), (2, .int (nI 0))] 31 []
    have hp30 : ∀ i, i < n → prt2 i ≤ 30000 := fun i hi => Nat.le_trans (hp i hi) (by decide)
    refine z_iload_n C 2 rfl rfl dX5_at_31 32 rfl ?_
    refine z_if_ne C (by omega) 40 dX5_at_32 (by decide) 35 rfl (fun c_3 => ?_) (fun c_3 => ?_)
    · exfalso; omega
    refine z_bipush C (v := (-6)) rfl dX5_at_35 37 rfl ?_
    refine z_goto C 41 dX5_at_37 (by decide) ?_
    refine z_istore_n C hnL [1, 2, 3, 0] [(0, .ref (y 0)), (1, .int (nI m)), (2, .int (nI 0)), (3, .int (-6))] rfl rfl (Nat.le_of_ble_eq_true rfl) dX5_at_41 42 rfl ?_
    refine z_iconst C (v := nI 0) rfl dX5_at_42 43 rfl ?_
    refine z_istore C hnL [1, 2, 3, 4, 0] [(0, .ref (y 0)), (1, .int (nI m)), (2, .int (nI 0)), (3, .int (-6)), (4, .int (nI 0))] rfl (Nat.le_of_ble_eq_true rfl) dX5_at_43 45 rfl ?_
    have loop45 : ∀ (mu : Nat) (i : Nat) (o : Int32), mu = n - i → i ≤ n → o = lop beg2 prt2 m i → Z K 0 0 [wM K.g y all kept hist hl slo sav beg2 prt2 frm txt tl sp tol rd] [(0, .ref (y 0)), (1, .int (nI m)), (2, .int (nI 0)), (3, .int o), (4, .int (nI i))] 45 [] := by
      refine z_ind (fun mu ih45 => ?_)
      intro i o hmu45 hi hx
      refine z_iload C 4 rfl dX5_at_45 47 rfl ?_
      refine z_aload_n C 0 rfl rfl dX5_at_47 48 rfl ?_
      refine z_get C zc5 iX5_at_X5 0 0 rfl rfl 0 (Nat.le_of_ble_eq_true rfl) (List.mem_of_getElem? (i := 3) rfl) (v := .ref (y 1)) rfl dX5_at_48 51 rfl ?_
      refine z_bipush C (v := nI 7) rfl dX5_at_51 53 rfl ?_
      refine z_iald C (f := all) 0 1 rfl rfl (by omega) (by decide) dX5_at_53 54 rfl ?_
      refine z_top (show nI (all 7) = nI n from by rw [hB.2.1]) ?_
      refine z_icmp_ge C (by omega) (by omega) 150 dX5_at_54 (by decide) 57 rfl (fun c_4 => ?_) (fun c_4 => ?_)
      · skip
        refine z_iload_n C 2 rfl rfl dX5_at_150 151 rfl ?_
        refine z_iconst C (v := nI 1) rfl dX5_at_151 152 rfl ?_
        refine z_icmp_ne C (by omega) (by omega) 170 dX5_at_152 (by decide) 155 rfl (fun c_5 => ?_) (fun c_5 => ?_)
        rotate_left
        · exfalso; omega
        refine z_iload_n C 3 rfl rfl dX5_at_170 171 rfl ?_
        obtain rfl : i = n := by omega
        exact z_iret C hRx dX5_at_171 (beg2, prt2) (congrArg (fun z => some (Value.int z)) (by rw [hx]; exact (lop_jop hP hE).symm)) trivial rfl
      · skip
        have hpi2 := hp30 i (by omega)
        have h4 := hS.2.2.2.2.2.1
        refine z_iload_n C 2 rfl rfl dX5_at_57 58 rfl ?_
        refine z_if_ne C (by omega) 93 dX5_at_58 (by decide) 61 rfl (fun c_6 => ?_) (fun c_6 => ?_)
        · exfalso; omega
        refine z_aload_n C 0 rfl rfl dX5_at_61 62 rfl ?_
        refine z_get C zc5 iX5_at_X5 0 0 rfl rfl 6 (Nat.le_of_ble_eq_true rfl) (List.mem_of_getElem? (i := 4) rfl) (v := .ref (y 6)) rfl dX5_at_62 65 rfl ?_
        refine z_iload C 4 rfl dX5_at_65 67 rfl ?_
        refine z_iald C (f := beg2) 0 6 rfl rfl (by omega) (by decide) dX5_at_67 68 rfl ?_
        have hbi := BP_e hE (i := i) (by omega)
        refine z_iload_n C 1 rfl rfl dX5_at_68 69 rfl ?_
        refine z_icmp_gt C (by omega) (by omega) 88 dX5_at_69 (by decide) 72 rfl (fun c_7 => ?_) (fun c_7 => ?_)
        · skip
          refine z_iload_n C 3 rfl rfl dX5_at_88 89 rfl ?_
          refine z_istore_n C hnL [1, 2, 3, 0, 4] [(0, .ref (y 0)), (1, .int (nI m)), (2, .int (nI 0)), (3, .int o), (4, .int (nI i))] rfl rfl (Nat.le_of_ble_eq_true rfl) dX5_at_89 90 rfl ?_
          refine z_goto C 144 dX5_at_90 (by decide) ?_
          refine z_iinc C hnL 4 rfl (v := (nI (i + 1))) (nI_1 _) [1, 2, 3, 4, 0] [(0, .ref (y 0)), (1, .int (nI m)), (2, .int (nI 0)), (3, .int o), (4, .int (nI (i + 1)))] rfl (Nat.le_of_ble_eq_true rfl) dX5_at_144 147 rfl ?_
          refine z_goto C 45 dX5_at_147 (by decide) ?_
          exact ih45 _ (by omega) (i + 1) o rfl (by omega) (by rw [hx]; exact (lop_n (by omega)).symm)
        · skip
          refine z_iload_n C 1 rfl rfl dX5_at_72 73 rfl ?_
          refine z_aload_n C 0 rfl rfl dX5_at_73 74 rfl ?_
          refine z_get C zc5 iX5_at_X5 0 0 rfl rfl 7 (Nat.le_of_ble_eq_true rfl) (List.mem_of_getElem? (i := 5) rfl) (v := .ref (y 7)) rfl dX5_at_74 77 rfl ?_
          refine z_iload C 4 rfl dX5_at_77 79 rfl ?_
          refine z_iald C (f := prt2) 0 7 rfl rfl (by omega) (by decide) dX5_at_79 80 rfl ?_
          have hpi := hp i (by omega)
          refine z_icmp_ge C (by omega) (by omega) 88 dX5_at_80 (by decide) 83 rfl (fun c_8 => ?_) (fun c_8 => ?_)
          · skip
            refine z_iload_n C 3 rfl rfl dX5_at_88 89 rfl ?_
            refine z_istore_n C hnL [1, 2, 3, 0, 4] [(0, .ref (y 0)), (1, .int (nI m)), (2, .int (nI 0)), (3, .int o), (4, .int (nI i))] rfl rfl (Nat.le_of_ble_eq_true rfl) dX5_at_89 90 rfl ?_
            refine z_goto C 144 dX5_at_90 (by decide) ?_
            refine z_iinc C hnL 4 rfl (v := (nI (i + 1))) (nI_1 _) [1, 2, 3, 4, 0] [(0, .ref (y 0)), (1, .int (nI m)), (2, .int (nI 0)), (3, .int o), (4, .int (nI (i + 1)))] rfl (Nat.le_of_ble_eq_true rfl) dX5_at_144 147 rfl ?_
            refine z_goto C 45 dX5_at_147 (by decide) ?_
            exact ih45 _ (by omega) (i + 1) o rfl (by omega) (by rw [hx]; exact (lop_n (by omega)).symm)
          · skip
            refine z_iload C 4 rfl dX5_at_83 85 rfl ?_
            refine z_goto C 89 dX5_at_85 (by decide) ?_
            refine z_istore_n C hnL [1, 2, 3, 0, 4] [(0, .ref (y 0)), (1, .int (nI m)), (2, .int (nI 0)), (3, .int (nI i)), (4, .int (nI i))] rfl rfl (Nat.le_of_ble_eq_true rfl) dX5_at_89 90 rfl ?_
            refine z_goto C 144 dX5_at_90 (by decide) ?_
            refine z_iinc C hnL 4 rfl (v := (nI (i + 1))) (nI_1 _) [1, 2, 3, 4, 0] [(0, .ref (y 0)), (1, .int (nI m)), (2, .int (nI 0)), (3, .int (nI i)), (4, .int (nI (i + 1)))] rfl (Nat.le_of_ble_eq_true rfl) dX5_at_144 147 rfl ?_
            refine z_goto C 45 dX5_at_147 (by decide) ?_
            exact ih45 _ (by omega) (i + 1) (nI i) rfl (by omega) ((lop_y (by omega)).symm)
    exact loop45 _ 0 (-6) rfl (by omega) rfl
  · skip
    refine z_iload_n C 1 rfl rfl dX5_at_0 1 rfl ?_
    refine z_i2l C dX5_at_1 2 rfl ?_
    refine z_lconst C (v := lN 0) rfl dX5_at_2 3 rfl ?_
    refine z_ldc2 C (v := lN 99999) (List.mem_of_getElem? (i := 1) rfl) dX5_at_3 6 rfl ?_
    refine z_callP C [.long ((nI m).toInt64), .long (lN 0), .long (lN 99999)] [] (tX5_inI K.l K.g (nI m) 0 99999 (by first | omega | assumption) (by first | omega | assumption)) gX5_at_X5_in rfl rfl rfl hdX5_in ⟨Nat.le_of_ble_eq_true rfl, Nat.le_of_ble_eq_true rfl⟩ ⟨Nat.zero_le _, Nat.zero_le _⟩ rfl rfl (Nat.le_of_ble_eq_true rfl) dX5_at_6 9 rfl (fun u9 hu9 => ?_)
    show Z K 0 0 [wM K.g y all kept hist hl slo sav beg prt frm txt tl sp tol rd] [(0, .ref (y 0)), (1, .int (nI m)), (2, .int (nI 1))] 9 [.int (bI (rg (nI m).toInt (Int.ofNat 0) (Int.ofNat 99999)))]
    refine z_ifb_eq C 24 dX5_at_9 (by decide) 12 rfl (fun c_9 => ?_) (fun c_9 => ?_)
    · exfalso; rw [rgN_t (by omega) (by omega) (by omega)] at c_9; exact Bool.noConfusion c_9
    refine z_iload_n C 2 rfl rfl dX5_at_12 13 rfl ?_
    refine z_i2l C dX5_at_13 14 rfl ?_
    refine z_lconst C (v := lN 0) rfl dX5_at_14 15 rfl ?_
    refine z_ldc2 C (v := lN 3) (List.mem_of_getElem? (i := 2) rfl) dX5_at_15 18 rfl ?_
    refine z_callP C [.long ((nI 1).toInt64), .long (lN 0), .long (lN 3)] [] (tX5_inI K.l K.g (nI 1) 0 3 (by first | omega | assumption) (by first | omega | assumption)) gX5_at_X5_in rfl rfl rfl hdX5_in ⟨Nat.le_of_ble_eq_true rfl, Nat.le_of_ble_eq_true rfl⟩ ⟨Nat.zero_le _, Nat.zero_le _⟩ rfl rfl (Nat.le_of_ble_eq_true rfl) dX5_at_18 21 rfl (fun u9 hu9 => ?_)
    show Z K 0 0 [wM K.g y all kept hist hl slo sav beg prt frm txt tl sp tol rd] [(0, .ref (y 0)), (1, .int (nI m)), (2, .int (nI 1))] 21 [.int (bI (rg (nI 1).toInt (Int.ofNat 0) (Int.ofNat 3)))]
    refine z_ifb_ne C 27 dX5_at_21 (by decide) 24 rfl (fun c_10 => ?_) (fun c_10 => ?_)
    rotate_left
    · exfalso; rw [rgN_t (by omega) (by omega) (by omega)] at c_10; exact Bool.noConfusion c_10
    refine z_aload_n C 0 rfl rfl dX5_at_27 28 rfl ?_
    refine z_callV C [] [] (tX5_prints K.l K.g y all kept hist hl slo sav beg prt frm txt tl sp tol rd st r n (by first | omega | assumption) (by first | omega | assumption) (by first | omega | assumption) (by first | omega | assumption) (by first | omega | assumption)) gX5_at_X5_prints rfl rfl rfl hdX5_prints ⟨Nat.le_of_ble_eq_true rfl, Nat.le_of_ble_eq_true rfl⟩ ⟨Nat.zero_le _, Nat.zero_le _⟩ 0 0 rfl rfl rfl [0] rfl rfl (zlc (N := 1) rfl rfl) [1] rfl (by decide) (fun u : (Nat → Nat) × (Nat → Nat) => match u with | (beg2, prt2) => [wM K.g y all kept hist hl slo sav beg2 prt2 frm txt tl sp tol rd]) (fun _ => rfl) rfl rfl (Nat.le_of_ble_eq_true rfl) dX5_at_28 31 rfl (fun u9 hu9 => ?_)
    obtain ⟨beg2, prt2⟩ := u9
    obtain ⟨hP, hE, hp⟩ := hu9
    have hP : isP st r (st 5) prt2 n := hP
    have hE : ∀ i, i < n → beg2 i + (rdy st r i + r 2 i * st 3) = prt2 i := hE
    have hp : ∀ i, i < n → prt2 i ≤ 14400 := hp
    show Z K 0 0 [wM K.g y all kept hist hl slo sav beg2 prt2 frm txt tl sp tol rd] [(0, .ref (y 0)), (1, .int (nI m)), (2, .int (nI 1))] 31 []
    have hp30 : ∀ i, i < n → prt2 i ≤ 30000 := fun i hi => Nat.le_trans (hp i hi) (by decide)
    refine z_iload_n C 2 rfl rfl dX5_at_31 32 rfl ?_
    refine z_if_ne C (by omega) 40 dX5_at_32 (by decide) 35 rfl (fun c_11 => ?_) (fun c_11 => ?_)
    rotate_left
    · exfalso; omega
    refine z_iconst C (v := nI 0) rfl dX5_at_40 41 rfl ?_
    refine z_istore_n C hnL [1, 2, 3, 0] [(0, .ref (y 0)), (1, .int (nI m)), (2, .int (nI 1)), (3, .int (nI 0))] rfl rfl (Nat.le_of_ble_eq_true rfl) dX5_at_41 42 rfl ?_
    refine z_iconst C (v := nI 0) rfl dX5_at_42 43 rfl ?_
    refine z_istore C hnL [1, 2, 3, 4, 0] [(0, .ref (y 0)), (1, .int (nI m)), (2, .int (nI 1)), (3, .int (nI 0)), (4, .int (nI 0))] rfl (Nat.le_of_ble_eq_true rfl) dX5_at_43 45 rfl ?_
    have loop45 : ∀ (mu : Nat) (i : Nat) (x : Nat), mu = n - i → i ≤ n → x = 0 → Z K 0 0 [wM K.g y all kept hist hl slo sav beg2 prt2 frm txt tl sp tol rd] [(0, .ref (y 0)), (1, .int (nI m)), (2, .int (nI 1)), (3, .int (nI x)), (4, .int (nI i))] 45 [] := by
      refine z_ind (fun mu ih45 => ?_)
      intro i x hmu45 hi hx
      refine z_iload C 4 rfl dX5_at_45 47 rfl ?_
      refine z_aload_n C 0 rfl rfl dX5_at_47 48 rfl ?_
      refine z_get C zc5 iX5_at_X5 0 0 rfl rfl 0 (Nat.le_of_ble_eq_true rfl) (List.mem_of_getElem? (i := 3) rfl) (v := .ref (y 1)) rfl dX5_at_48 51 rfl ?_
      refine z_bipush C (v := nI 7) rfl dX5_at_51 53 rfl ?_
      refine z_iald C (f := all) 0 1 rfl rfl (by omega) (by decide) dX5_at_53 54 rfl ?_
      refine z_top (show nI (all 7) = nI n from by rw [hB.2.1]) ?_
      refine z_icmp_ge C (by omega) (by omega) 150 dX5_at_54 (by decide) 57 rfl (fun c_12 => ?_) (fun c_12 => ?_)
      · skip
        refine z_iload_n C 2 rfl rfl dX5_at_150 151 rfl ?_
        refine z_iconst C (v := nI 1) rfl dX5_at_151 152 rfl ?_
        refine z_icmp_ne C (by omega) (by omega) 170 dX5_at_152 (by decide) 155 rfl (fun c_13 => ?_) (fun c_13 => ?_)
        · exfalso; omega
        refine z_aload_n C 0 rfl rfl dX5_at_155 156 rfl ?_
        refine z_aload_n C 0 rfl rfl dX5_at_156 157 rfl ?_
        refine z_get C zc5 iX5_at_X5 0 0 rfl rfl 0 (Nat.le_of_ble_eq_true rfl) (List.mem_of_getElem? (i := 3) rfl) (v := .ref (y 1)) rfl dX5_at_157 160 rfl ?_
        refine z_bipush C (v := nI 7) rfl dX5_at_160 162 rfl ?_
        refine z_iald C (f := all) 0 1 rfl rfl (by omega) (by decide) dX5_at_162 163 rfl ?_
        refine z_top (show nI (all 7) = nI n from by rw [hB.2.1]) ?_
        refine z_iload_n C 1 rfl rfl dX5_at_163 164 rfl ?_
        refine z_callV C [.int (nI n), .int (nI m)] [] (tX5_taken K.l K.g y all kept hist hl slo sav beg2 prt2 frm txt tl sp tol rd st r n n m (by first | omega | assumption) (by first | omega | assumption) (by first | omega | assumption) (by first | omega | assumption) (by first | omega | assumption) (by omega) hp30) gX5_at_X5_taken rfl rfl rfl hdX5_taken ⟨Nat.le_of_ble_eq_true rfl, Nat.le_of_ble_eq_true rfl⟩ ⟨Nat.zero_le _, Nat.zero_le _⟩ 0 0 rfl rfl rfl [0] rfl rfl (zlc (N := 1) rfl rfl) [1] rfl (by decide) (fun _ : Unit => [wM K.g y all kept hist hl slo sav beg2 prt2 frm txt tl sp tol rd]) (fun _ => rfl) rfl rfl (Nat.le_of_ble_eq_true rfl) dX5_at_164 167 rfl (fun u9 hu9 => ?_)
        show Z K 0 0 [wM K.g y all kept hist hl slo sav beg2 prt2 frm txt tl sp tol rd] [(0, .ref (y 0)), (1, .int (nI m)), (2, .int (nI 1)), (3, .int (nI x)), (4, .int (nI i))] 167 [.int (nI (tkn st r prt2 n m))]
        refine z_goto C 171 dX5_at_167 (by decide) ?_
        exact z_iret C hRx dX5_at_171 (beg2, prt2) (congrArg (fun z => some (Value.int (nI z))) (tkn_cg (fun i hi => PP_e hP i hi)).symm) trivial rfl
      · skip
        have hpi2 := hp30 i (by omega)
        have h4 := hS.2.2.2.2.2.1
        refine z_iload_n C 2 rfl rfl dX5_at_57 58 rfl ?_
        refine z_if_ne C (by omega) 93 dX5_at_58 (by decide) 61 rfl (fun c_14 => ?_) (fun c_14 => ?_)
        rotate_left
        · exfalso; omega
        refine z_iload_n C 3 rfl rfl dX5_at_93 94 rfl ?_
        refine z_iload_n C 2 rfl rfl dX5_at_94 95 rfl ?_
        refine z_iconst C (v := nI 2) rfl dX5_at_95 96 rfl ?_
        refine z_icmp_ne C (by omega) (by omega) 118 dX5_at_96 (by decide) 99 rfl (fun c_15 => ?_) (fun c_15 => ?_)
        rotate_left
        · exfalso; omega
        refine z_iload_n C 2 rfl rfl dX5_at_118 119 rfl ?_
        refine z_iconst C (v := nI 3) rfl dX5_at_119 120 rfl ?_
        refine z_icmp_ne C (by omega) (by omega) 141 dX5_at_120 (by decide) 123 rfl (fun c_16 => ?_) (fun c_16 => ?_)
        rotate_left
        · exfalso; omega
        refine z_iconst C (v := nI 0) rfl dX5_at_141 142 rfl ?_
        refine z_iadd C dX5_at_142 143 rfl ?_
        refine z_istore_n C hnL [1, 2, 3, 0, 4] [(0, .ref (y 0)), (1, .int (nI m)), (2, .int (nI 1)), (3, .int (nI (x + 0))), (4, .int (nI i))] rfl rfl (Nat.le_of_ble_eq_true rfl) dX5_at_143 144 rfl ?_
        refine z_iinc C hnL 4 rfl (v := (nI (i + 1))) (nI_1 _) [1, 2, 3, 4, 0] [(0, .ref (y 0)), (1, .int (nI m)), (2, .int (nI 1)), (3, .int (nI (x + 0))), (4, .int (nI (i + 1)))] rfl (Nat.le_of_ble_eq_true rfl) dX5_at_144 147 rfl ?_
        refine z_goto C 45 dX5_at_147 (by decide) ?_
        exact ih45 _ (by omega) (i + 1) (x + 0) rfl (by omega) (by omega)
    exact loop45 _ 0 0 rfl (by omega) rfl
  · skip
    refine z_iload_n C 1 rfl rfl dX5_at_0 1 rfl ?_
    refine z_i2l C dX5_at_1 2 rfl ?_
    refine z_lconst C (v := lN 0) rfl dX5_at_2 3 rfl ?_
    refine z_ldc2 C (v := lN 99999) (List.mem_of_getElem? (i := 1) rfl) dX5_at_3 6 rfl ?_
    refine z_callP C [.long ((nI m).toInt64), .long (lN 0), .long (lN 99999)] [] (tX5_inI K.l K.g (nI m) 0 99999 (by first | omega | assumption) (by first | omega | assumption)) gX5_at_X5_in rfl rfl rfl hdX5_in ⟨Nat.le_of_ble_eq_true rfl, Nat.le_of_ble_eq_true rfl⟩ ⟨Nat.zero_le _, Nat.zero_le _⟩ rfl rfl (Nat.le_of_ble_eq_true rfl) dX5_at_6 9 rfl (fun u9 hu9 => ?_)
    show Z K 0 0 [wM K.g y all kept hist hl slo sav beg prt frm txt tl sp tol rd] [(0, .ref (y 0)), (1, .int (nI m)), (2, .int (nI 2))] 9 [.int (bI (rg (nI m).toInt (Int.ofNat 0) (Int.ofNat 99999)))]
    refine z_ifb_eq C 24 dX5_at_9 (by decide) 12 rfl (fun c_17 => ?_) (fun c_17 => ?_)
    · exfalso; rw [rgN_t (by omega) (by omega) (by omega)] at c_17; exact Bool.noConfusion c_17
    refine z_iload_n C 2 rfl rfl dX5_at_12 13 rfl ?_
    refine z_i2l C dX5_at_13 14 rfl ?_
    refine z_lconst C (v := lN 0) rfl dX5_at_14 15 rfl ?_
    refine z_ldc2 C (v := lN 3) (List.mem_of_getElem? (i := 2) rfl) dX5_at_15 18 rfl ?_
    refine z_callP C [.long ((nI 2).toInt64), .long (lN 0), .long (lN 3)] [] (tX5_inI K.l K.g (nI 2) 0 3 (by first | omega | assumption) (by first | omega | assumption)) gX5_at_X5_in rfl rfl rfl hdX5_in ⟨Nat.le_of_ble_eq_true rfl, Nat.le_of_ble_eq_true rfl⟩ ⟨Nat.zero_le _, Nat.zero_le _⟩ rfl rfl (Nat.le_of_ble_eq_true rfl) dX5_at_18 21 rfl (fun u9 hu9 => ?_)
    show Z K 0 0 [wM K.g y all kept hist hl slo sav beg prt frm txt tl sp tol rd] [(0, .ref (y 0)), (1, .int (nI m)), (2, .int (nI 2))] 21 [.int (bI (rg (nI 2).toInt (Int.ofNat 0) (Int.ofNat 3)))]
    refine z_ifb_ne C 27 dX5_at_21 (by decide) 24 rfl (fun c_18 => ?_) (fun c_18 => ?_)
    rotate_left
    · exfalso; rw [rgN_t (by omega) (by omega) (by omega)] at c_18; exact Bool.noConfusion c_18
    refine z_aload_n C 0 rfl rfl dX5_at_27 28 rfl ?_
    refine z_callV C [] [] (tX5_prints K.l K.g y all kept hist hl slo sav beg prt frm txt tl sp tol rd st r n (by first | omega | assumption) (by first | omega | assumption) (by first | omega | assumption) (by first | omega | assumption) (by first | omega | assumption)) gX5_at_X5_prints rfl rfl rfl hdX5_prints ⟨Nat.le_of_ble_eq_true rfl, Nat.le_of_ble_eq_true rfl⟩ ⟨Nat.zero_le _, Nat.zero_le _⟩ 0 0 rfl rfl rfl [0] rfl rfl (zlc (N := 1) rfl rfl) [1] rfl (by decide) (fun u : (Nat → Nat) × (Nat → Nat) => match u with | (beg2, prt2) => [wM K.g y all kept hist hl slo sav beg2 prt2 frm txt tl sp tol rd]) (fun _ => rfl) rfl rfl (Nat.le_of_ble_eq_true rfl) dX5_at_28 31 rfl (fun u9 hu9 => ?_)
    obtain ⟨beg2, prt2⟩ := u9
    obtain ⟨hP, hE, hp⟩ := hu9
    have hP : isP st r (st 5) prt2 n := hP
    have hE : ∀ i, i < n → beg2 i + (rdy st r i + r 2 i * st 3) = prt2 i := hE
    have hp : ∀ i, i < n → prt2 i ≤ 14400 := hp
    show Z K 0 0 [wM K.g y all kept hist hl slo sav beg2 prt2 frm txt tl sp tol rd] [(0, .ref (y 0)), (1, .int (nI m)), (2, .int (nI 2))] 31 []
    have hp30 : ∀ i, i < n → prt2 i ≤ 30000 := fun i hi => Nat.le_trans (hp i hi) (by decide)
    refine z_iload_n C 2 rfl rfl dX5_at_31 32 rfl ?_
    refine z_if_ne C (by omega) 40 dX5_at_32 (by decide) 35 rfl (fun c_19 => ?_) (fun c_19 => ?_)
    rotate_left
    · exfalso; omega
    refine z_iconst C (v := nI 0) rfl dX5_at_40 41 rfl ?_
    refine z_istore_n C hnL [1, 2, 3, 0] [(0, .ref (y 0)), (1, .int (nI m)), (2, .int (nI 2)), (3, .int (nI 0))] rfl rfl (Nat.le_of_ble_eq_true rfl) dX5_at_41 42 rfl ?_
    refine z_iconst C (v := nI 0) rfl dX5_at_42 43 rfl ?_
    refine z_istore C hnL [1, 2, 3, 4, 0] [(0, .ref (y 0)), (1, .int (nI m)), (2, .int (nI 2)), (3, .int (nI 0)), (4, .int (nI 0))] rfl (Nat.le_of_ble_eq_true rfl) dX5_at_43 45 rfl ?_
    have loop45 : ∀ (mu : Nat) (i : Nat) (x : Nat), mu = n - i → i ≤ n → x = ct (fun y => decide (prt2 y ≤ m)) i → Z K 0 0 [wM K.g y all kept hist hl slo sav beg2 prt2 frm txt tl sp tol rd] [(0, .ref (y 0)), (1, .int (nI m)), (2, .int (nI 2)), (3, .int (nI x)), (4, .int (nI i))] 45 [] := by
      refine z_ind (fun mu ih45 => ?_)
      intro i x hmu45 hi hx
      refine z_iload C 4 rfl dX5_at_45 47 rfl ?_
      refine z_aload_n C 0 rfl rfl dX5_at_47 48 rfl ?_
      refine z_get C zc5 iX5_at_X5 0 0 rfl rfl 0 (Nat.le_of_ble_eq_true rfl) (List.mem_of_getElem? (i := 3) rfl) (v := .ref (y 1)) rfl dX5_at_48 51 rfl ?_
      refine z_bipush C (v := nI 7) rfl dX5_at_51 53 rfl ?_
      refine z_iald C (f := all) 0 1 rfl rfl (by omega) (by decide) dX5_at_53 54 rfl ?_
      refine z_top (show nI (all 7) = nI n from by rw [hB.2.1]) ?_
      refine z_icmp_ge C (by omega) (by omega) 150 dX5_at_54 (by decide) 57 rfl (fun c_20 => ?_) (fun c_20 => ?_)
      · skip
        refine z_iload_n C 2 rfl rfl dX5_at_150 151 rfl ?_
        refine z_iconst C (v := nI 1) rfl dX5_at_151 152 rfl ?_
        refine z_icmp_ne C (by omega) (by omega) 170 dX5_at_152 (by decide) 155 rfl (fun c_21 => ?_) (fun c_21 => ?_)
        rotate_left
        · exfalso; omega
        refine z_iload_n C 3 rfl rfl dX5_at_170 171 rfl ?_
        obtain rfl : i = n := by omega
        exact z_iret C hRx dX5_at_171 (beg2, prt2) (congrArg (fun z => some (Value.int (nI z))) (by rw [hx]; exact (ct_cg i (fun y hy => by rw [PP_e hP y hy])).symm)) trivial rfl
      · skip
        have hpi2 := hp30 i (by omega)
        have h4 := hS.2.2.2.2.2.1
        refine z_iload_n C 2 rfl rfl dX5_at_57 58 rfl ?_
        refine z_if_ne C (by omega) 93 dX5_at_58 (by decide) 61 rfl (fun c_22 => ?_) (fun c_22 => ?_)
        rotate_left
        · exfalso; omega
        refine z_iload_n C 3 rfl rfl dX5_at_93 94 rfl ?_
        refine z_iload_n C 2 rfl rfl dX5_at_94 95 rfl ?_
        refine z_iconst C (v := nI 2) rfl dX5_at_95 96 rfl ?_
        refine z_icmp_ne C (by omega) (by omega) 118 dX5_at_96 (by decide) 99 rfl (fun c_23 => ?_) (fun c_23 => ?_)
        · exfalso; omega
        refine z_aload_n C 0 rfl rfl dX5_at_99 100 rfl ?_
        refine z_get C zc5 iX5_at_X5 0 0 rfl rfl 7 (Nat.le_of_ble_eq_true rfl) (List.mem_of_getElem? (i := 5) rfl) (v := .ref (y 7)) rfl dX5_at_100 103 rfl ?_
        refine z_iload C 4 rfl dX5_at_103 105 rfl ?_
        refine z_iald C (f := prt2) 0 7 rfl rfl (by omega) (by decide) dX5_at_105 106 rfl ?_
        have hpi := hp i (by omega)
        refine z_iload_n C 1 rfl rfl dX5_at_106 107 rfl ?_
        refine z_icmp_gt C (by omega) (by omega) 114 dX5_at_107 (by decide) 110 rfl (fun c_24 => ?_) (fun c_24 => ?_)
        · skip
          refine z_iconst C (v := nI 0) rfl dX5_at_114 115 rfl ?_
          refine z_goto C 142 dX5_at_115 (by decide) ?_
          refine z_iadd C dX5_at_142 143 rfl ?_
          refine z_istore_n C hnL [1, 2, 3, 0, 4] [(0, .ref (y 0)), (1, .int (nI m)), (2, .int (nI 2)), (3, .int (nI (x + 0))), (4, .int (nI i))] rfl rfl (Nat.le_of_ble_eq_true rfl) dX5_at_143 144 rfl ?_
          refine z_iinc C hnL 4 rfl (v := (nI (i + 1))) (nI_1 _) [1, 2, 3, 4, 0] [(0, .ref (y 0)), (1, .int (nI m)), (2, .int (nI 2)), (3, .int (nI (x + 0))), (4, .int (nI (i + 1)))] rfl (Nat.le_of_ble_eq_true rfl) dX5_at_144 147 rfl ?_
          refine z_goto C 45 dX5_at_147 (by decide) ?_
          exact ih45 _ (by omega) (i + 1) (x + 0) rfl (by omega) (by rw [hx]; exact (ct_f (decide_eq_false (by omega))).symm)
        · skip
          refine z_iconst C (v := nI 1) rfl dX5_at_110 111 rfl ?_
          refine z_goto C 142 dX5_at_111 (by decide) ?_
          refine z_iadd C dX5_at_142 143 rfl ?_
          refine z_istore_n C hnL [1, 2, 3, 0, 4] [(0, .ref (y 0)), (1, .int (nI m)), (2, .int (nI 2)), (3, .int (nI (x + 1))), (4, .int (nI i))] rfl rfl (Nat.le_of_ble_eq_true rfl) dX5_at_143 144 rfl ?_
          refine z_iinc C hnL 4 rfl (v := (nI (i + 1))) (nI_1 _) [1, 2, 3, 4, 0] [(0, .ref (y 0)), (1, .int (nI m)), (2, .int (nI 2)), (3, .int (nI (x + 1))), (4, .int (nI (i + 1)))] rfl (Nat.le_of_ble_eq_true rfl) dX5_at_144 147 rfl ?_
          refine z_goto C 45 dX5_at_147 (by decide) ?_
          exact ih45 _ (by omega) (i + 1) (x + 1) rfl (by omega) (by rw [hx]; exact (ct_s (decide_eq_true (by omega))).symm)
    exact loop45 _ 0 0 rfl (by omega) rfl
  · skip
    refine z_iload_n C 1 rfl rfl dX5_at_0 1 rfl ?_
    refine z_i2l C dX5_at_1 2 rfl ?_
    refine z_lconst C (v := lN 0) rfl dX5_at_2 3 rfl ?_
    refine z_ldc2 C (v := lN 99999) (List.mem_of_getElem? (i := 1) rfl) dX5_at_3 6 rfl ?_
    refine z_callP C [.long ((nI m).toInt64), .long (lN 0), .long (lN 99999)] [] (tX5_inI K.l K.g (nI m) 0 99999 (by first | omega | assumption) (by first | omega | assumption)) gX5_at_X5_in rfl rfl rfl hdX5_in ⟨Nat.le_of_ble_eq_true rfl, Nat.le_of_ble_eq_true rfl⟩ ⟨Nat.zero_le _, Nat.zero_le _⟩ rfl rfl (Nat.le_of_ble_eq_true rfl) dX5_at_6 9 rfl (fun u9 hu9 => ?_)
    show Z K 0 0 [wM K.g y all kept hist hl slo sav beg prt frm txt tl sp tol rd] [(0, .ref (y 0)), (1, .int (nI m)), (2, .int (nI 3))] 9 [.int (bI (rg (nI m).toInt (Int.ofNat 0) (Int.ofNat 99999)))]
    refine z_ifb_eq C 24 dX5_at_9 (by decide) 12 rfl (fun c_25 => ?_) (fun c_25 => ?_)
    · exfalso; rw [rgN_t (by omega) (by omega) (by omega)] at c_25; exact Bool.noConfusion c_25
    refine z_iload_n C 2 rfl rfl dX5_at_12 13 rfl ?_
    refine z_i2l C dX5_at_13 14 rfl ?_
    refine z_lconst C (v := lN 0) rfl dX5_at_14 15 rfl ?_
    refine z_ldc2 C (v := lN 3) (List.mem_of_getElem? (i := 2) rfl) dX5_at_15 18 rfl ?_
    refine z_callP C [.long ((nI 3).toInt64), .long (lN 0), .long (lN 3)] [] (tX5_inI K.l K.g (nI 3) 0 3 (by first | omega | assumption) (by first | omega | assumption)) gX5_at_X5_in rfl rfl rfl hdX5_in ⟨Nat.le_of_ble_eq_true rfl, Nat.le_of_ble_eq_true rfl⟩ ⟨Nat.zero_le _, Nat.zero_le _⟩ rfl rfl (Nat.le_of_ble_eq_true rfl) dX5_at_18 21 rfl (fun u9 hu9 => ?_)
    show Z K 0 0 [wM K.g y all kept hist hl slo sav beg prt frm txt tl sp tol rd] [(0, .ref (y 0)), (1, .int (nI m)), (2, .int (nI 3))] 21 [.int (bI (rg (nI 3).toInt (Int.ofNat 0) (Int.ofNat 3)))]
    refine z_ifb_ne C 27 dX5_at_21 (by decide) 24 rfl (fun c_26 => ?_) (fun c_26 => ?_)
    rotate_left
    · exfalso; rw [rgN_t (by omega) (by omega) (by omega)] at c_26; exact Bool.noConfusion c_26
    refine z_aload_n C 0 rfl rfl dX5_at_27 28 rfl ?_
    refine z_callV C [] [] (tX5_prints K.l K.g y all kept hist hl slo sav beg prt frm txt tl sp tol rd st r n (by first | omega | assumption) (by first | omega | assumption) (by first | omega | assumption) (by first | omega | assumption) (by first | omega | assumption)) gX5_at_X5_prints rfl rfl rfl hdX5_prints ⟨Nat.le_of_ble_eq_true rfl, Nat.le_of_ble_eq_true rfl⟩ ⟨Nat.zero_le _, Nat.zero_le _⟩ 0 0 rfl rfl rfl [0] rfl rfl (zlc (N := 1) rfl rfl) [1] rfl (by decide) (fun u : (Nat → Nat) × (Nat → Nat) => match u with | (beg2, prt2) => [wM K.g y all kept hist hl slo sav beg2 prt2 frm txt tl sp tol rd]) (fun _ => rfl) rfl rfl (Nat.le_of_ble_eq_true rfl) dX5_at_28 31 rfl (fun u9 hu9 => ?_)
    obtain ⟨beg2, prt2⟩ := u9
    obtain ⟨hP, hE, hp⟩ := hu9
    have hP : isP st r (st 5) prt2 n := hP
    have hE : ∀ i, i < n → beg2 i + (rdy st r i + r 2 i * st 3) = prt2 i := hE
    have hp : ∀ i, i < n → prt2 i ≤ 14400 := hp
    show Z K 0 0 [wM K.g y all kept hist hl slo sav beg2 prt2 frm txt tl sp tol rd] [(0, .ref (y 0)), (1, .int (nI m)), (2, .int (nI 3))] 31 []
    have hp30 : ∀ i, i < n → prt2 i ≤ 30000 := fun i hi => Nat.le_trans (hp i hi) (by decide)
    refine z_iload_n C 2 rfl rfl dX5_at_31 32 rfl ?_
    refine z_if_ne C (by omega) 40 dX5_at_32 (by decide) 35 rfl (fun c_27 => ?_) (fun c_27 => ?_)
    rotate_left
    · exfalso; omega
    refine z_iconst C (v := nI 0) rfl dX5_at_40 41 rfl ?_
    refine z_istore_n C hnL [1, 2, 3, 0] [(0, .ref (y 0)), (1, .int (nI m)), (2, .int (nI 3)), (3, .int (nI 0))] rfl rfl (Nat.le_of_ble_eq_true rfl) dX5_at_41 42 rfl ?_
    refine z_iconst C (v := nI 0) rfl dX5_at_42 43 rfl ?_
    refine z_istore C hnL [1, 2, 3, 4, 0] [(0, .ref (y 0)), (1, .int (nI m)), (2, .int (nI 3)), (3, .int (nI 0)), (4, .int (nI 0))] rfl (Nat.le_of_ble_eq_true rfl) dX5_at_43 45 rfl ?_
    have loop45 : ∀ (mu : Nat) (i : Nat) (x : Nat), mu = n - i → i ≤ n → x = ct (fun y => decide (prt2 y + st 4 ≤ m)) i → Z K 0 0 [wM K.g y all kept hist hl slo sav beg2 prt2 frm txt tl sp tol rd] [(0, .ref (y 0)), (1, .int (nI m)), (2, .int (nI 3)), (3, .int (nI x)), (4, .int (nI i))] 45 [] := by
      refine z_ind (fun mu ih45 => ?_)
      intro i x hmu45 hi hx
      refine z_iload C 4 rfl dX5_at_45 47 rfl ?_
      refine z_aload_n C 0 rfl rfl dX5_at_47 48 rfl ?_
      refine z_get C zc5 iX5_at_X5 0 0 rfl rfl 0 (Nat.le_of_ble_eq_true rfl) (List.mem_of_getElem? (i := 3) rfl) (v := .ref (y 1)) rfl dX5_at_48 51 rfl ?_
      refine z_bipush C (v := nI 7) rfl dX5_at_51 53 rfl ?_
      refine z_iald C (f := all) 0 1 rfl rfl (by omega) (by decide) dX5_at_53 54 rfl ?_
      refine z_top (show nI (all 7) = nI n from by rw [hB.2.1]) ?_
      refine z_icmp_ge C (by omega) (by omega) 150 dX5_at_54 (by decide) 57 rfl (fun c_28 => ?_) (fun c_28 => ?_)
      · skip
        refine z_iload_n C 2 rfl rfl dX5_at_150 151 rfl ?_
        refine z_iconst C (v := nI 1) rfl dX5_at_151 152 rfl ?_
        refine z_icmp_ne C (by omega) (by omega) 170 dX5_at_152 (by decide) 155 rfl (fun c_29 => ?_) (fun c_29 => ?_)
        rotate_left
        · exfalso; omega
        refine z_iload_n C 3 rfl rfl dX5_at_170 171 rfl ?_
        obtain rfl : i = n := by omega
        exact z_iret C hRx dX5_at_171 (beg2, prt2) (congrArg (fun z => some (Value.int (nI z))) (by rw [hx]; exact (ct_cg i (fun y hy => by rw [PD_e hP hy])).symm)) trivial rfl
      · skip
        have hpi2 := hp30 i (by omega)
        have h4 := hS.2.2.2.2.2.1
        refine z_iload_n C 2 rfl rfl dX5_at_57 58 rfl ?_
        refine z_if_ne C (by omega) 93 dX5_at_58 (by decide) 61 rfl (fun c_30 => ?_) (fun c_30 => ?_)
        rotate_left
        · exfalso; omega
        refine z_iload_n C 3 rfl rfl dX5_at_93 94 rfl ?_
        refine z_iload_n C 2 rfl rfl dX5_at_94 95 rfl ?_
        refine z_iconst C (v := nI 2) rfl dX5_at_95 96 rfl ?_
        refine z_icmp_ne C (by omega) (by omega) 118 dX5_at_96 (by decide) 99 rfl (fun c_31 => ?_) (fun c_31 => ?_)
        rotate_left
        · exfalso; omega
        refine z_iload_n C 2 rfl rfl dX5_at_118 119 rfl ?_
        refine z_iconst C (v := nI 3) rfl dX5_at_119 120 rfl ?_
        refine z_icmp_ne C (by omega) (by omega) 141 dX5_at_120 (by decide) 123 rfl (fun c_32 => ?_) (fun c_32 => ?_)
        · exfalso; omega
        refine z_aload_n C 0 rfl rfl dX5_at_123 124 rfl ?_
        refine z_iload C 4 rfl dX5_at_124 126 rfl ?_
        refine z_callV C [.int (nI i)] [.int (nI x)] (tX5_dry K.l K.g y all kept hist hl slo sav beg2 prt2 frm txt tl sp tol rd st r n i (by first | omega | assumption) (by first | omega | assumption) (by first | omega | assumption)) gX5_at_X5_dry rfl rfl rfl hdX5_dry ⟨Nat.le_of_ble_eq_true rfl, Nat.le_of_ble_eq_true rfl⟩ ⟨Nat.zero_le _, Nat.zero_le _⟩ 0 0 rfl rfl rfl [0] rfl rfl (zlc (N := 1) rfl rfl) [1] rfl (by decide) (fun _ : Unit => [wM K.g y all kept hist hl slo sav beg2 prt2 frm txt tl sp tol rd]) (fun _ => rfl) rfl rfl (Nat.le_of_ble_eq_true rfl) dX5_at_126 129 rfl (fun u9 hu9 => ?_)
        show Z K 0 0 [wM K.g y all kept hist hl slo sav beg2 prt2 frm txt tl sp tol rd] [(0, .ref (y 0)), (1, .int (nI m)), (2, .int (nI 3)), (3, .int (nI x)), (4, .int (nI i))] 129 [.int (nI (prt2 i + st 4)), .int (nI x)]
        refine z_iload_n C 1 rfl rfl dX5_at_129 130 rfl ?_
        refine z_icmp_gt C (by omega) (by omega) 137 dX5_at_130 (by decide) 133 rfl (fun c_33 => ?_) (fun c_33 => ?_)
        · skip
          refine z_iconst C (v := nI 0) rfl dX5_at_137 138 rfl ?_
          refine z_goto C 142 dX5_at_138 (by decide) ?_
          refine z_iadd C dX5_at_142 143 rfl ?_
          refine z_istore_n C hnL [1, 2, 3, 0, 4] [(0, .ref (y 0)), (1, .int (nI m)), (2, .int (nI 3)), (3, .int (nI (x + 0))), (4, .int (nI i))] rfl rfl (Nat.le_of_ble_eq_true rfl) dX5_at_143 144 rfl ?_
          refine z_iinc C hnL 4 rfl (v := (nI (i + 1))) (nI_1 _) [1, 2, 3, 4, 0] [(0, .ref (y 0)), (1, .int (nI m)), (2, .int (nI 3)), (3, .int (nI (x + 0))), (4, .int (nI (i + 1)))] rfl (Nat.le_of_ble_eq_true rfl) dX5_at_144 147 rfl ?_
          refine z_goto C 45 dX5_at_147 (by decide) ?_
          exact ih45 _ (by omega) (i + 1) (x + 0) rfl (by omega) (by rw [hx]; exact (ct_f (decide_eq_false (by omega))).symm)
        · skip
          refine z_iconst C (v := nI 1) rfl dX5_at_133 134 rfl ?_
          refine z_goto C 142 dX5_at_134 (by decide) ?_
          refine z_iadd C dX5_at_142 143 rfl ?_
          refine z_istore_n C hnL [1, 2, 3, 0, 4] [(0, .ref (y 0)), (1, .int (nI m)), (2, .int (nI 3)), (3, .int (nI (x + 1))), (4, .int (nI i))] rfl rfl (Nat.le_of_ble_eq_true rfl) dX5_at_143 144 rfl ?_
          refine z_iinc C hnL 4 rfl (v := (nI (i + 1))) (nI_1 _) [1, 2, 3, 4, 0] [(0, .ref (y 0)), (1, .int (nI m)), (2, .int (nI 3)), (3, .int (nI (x + 1))), (4, .int (nI (i + 1)))] rfl (Nat.le_of_ble_eq_true rfl) dX5_at_144 147 rfl ?_
          refine z_goto C 45 dX5_at_147 (by decide) ?_
          exact ih45 _ (by omega) (i + 1) (x + 1) rfl (by omega) (by rw [hx]; exact (ct_s (decide_eq_true (by omega))).symm)
    exact loop45 _ 0 0 rfl (by omega) rfl

set_option maxHeartbeats 4000000 in
set_option maxRecDepth 100000 in
theorem tX5_ifOrdered_bv (l : Launch) (g : zG) (y all kept hist : Nat → Nat) (hl : Nat) (slo sav beg prt frm txt : Nat → Nat) (tl sp : Nat) (tol : Nat → Nat) (rd : Nat) (v w : Int32) (hb : (rg v.toInt (Int.ofNat 0) (Int.ofNat 3) && rg w.toInt (Int.ofNat 0) (Int.ofNat 3)) = false) : Met l yX5_ifOrdered wsX5_ifOrdered ({ frames := 4, cells := 0, slots := 0, locals := 91 } : Room) (zPre g [.ref (y 0), .int v, .int w] [wM g y all kept hist hl slo sav beg prt frm txt tl sp tol rd]) (zQ g (fun _ : Unit => some (.int (-2)) ) (fun _ : Unit => True) (fun _ : Unit => [wM g y all kept hist hl slo sav beg prt frm txt tl sp tol rd]) (zA [wM g y all kept hist hl slo sav beg prt frm txt tl sp tol rd])) 0 0 (zA [wM g y all kept hist hl slo sav beg prt frm txt tl sp tol rd]) := by
  refine z_entry (cc := cX5_ifOrdered) (maxL := 4) (ret := (some .int)) (own := RX5) (by decide) rfl rfl (Nat.le_of_ble_eq_true rfl) [(0, .ref (y 0)), (1, .int v), (2, .int w)] rfl ?_
  intro K hKl hKg hnL C hRx
  subst hKl
  subst hKg
  refine z_iload_n C 1 rfl rfl dX5_ifOrdered_0 1 rfl ?_
  refine z_i2l C dX5_ifOrdered_1 2 rfl ?_
  refine z_lconst C (v := lN 0) rfl dX5_ifOrdered_2 3 rfl ?_
  refine z_ldc2 C (v := lN 3) (List.mem_of_getElem? (i := 1) rfl) dX5_ifOrdered_3 6 rfl ?_
  refine z_callP C [.long ((v).toInt64), .long (lN 0), .long (lN 3)] [] (tX5_inI K.l K.g v 0 3 (by first | omega | assumption) (by first | omega | assumption)) gX5_ifOrdered_X5_in rfl rfl rfl hdX5_in ⟨Nat.le_of_ble_eq_true rfl, Nat.le_of_ble_eq_true rfl⟩ ⟨Nat.zero_le _, Nat.zero_le _⟩ rfl rfl (Nat.le_of_ble_eq_true rfl) dX5_ifOrdered_6 9 rfl (fun u9 hu9 => ?_)
  show Z K 0 0 [wM K.g y all kept hist hl slo sav beg prt frm txt tl sp tol rd] [(0, .ref (y 0)), (1, .int v), (2, .int w)] 9 [.int (bI (rg v.toInt (Int.ofNat 0) (Int.ofNat 3)))]
  refine z_ifb_eq C 24 dX5_ifOrdered_9 (by decide) 12 rfl (fun c_1 => ?_) (fun c_1 => ?_)
  · skip
    refine z_bipush C (v := (-2)) rfl dX5_ifOrdered_24 26 rfl ?_
    exact z_iret C hRx dX5_ifOrdered_26 () rfl trivial rfl
  · skip
    refine z_iload_n C 2 rfl rfl dX5_ifOrdered_12 13 rfl ?_
    refine z_i2l C dX5_ifOrdered_13 14 rfl ?_
    refine z_lconst C (v := lN 0) rfl dX5_ifOrdered_14 15 rfl ?_
    refine z_ldc2 C (v := lN 3) (List.mem_of_getElem? (i := 1) rfl) dX5_ifOrdered_15 18 rfl ?_
    refine z_callP C [.long ((w).toInt64), .long (lN 0), .long (lN 3)] [] (tX5_inI K.l K.g w 0 3 (by first | omega | assumption) (by first | omega | assumption)) gX5_ifOrdered_X5_in rfl rfl rfl hdX5_in ⟨Nat.le_of_ble_eq_true rfl, Nat.le_of_ble_eq_true rfl⟩ ⟨Nat.zero_le _, Nat.zero_le _⟩ rfl rfl (Nat.le_of_ble_eq_true rfl) dX5_ifOrdered_18 21 rfl (fun u9 hu9 => ?_)
    show Z K 0 0 [wM K.g y all kept hist hl slo sav beg prt frm txt tl sp tol rd] [(0, .ref (y 0)), (1, .int v), (2, .int w)] 21 [.int (bI (rg w.toInt (Int.ofNat 0) (Int.ofNat 3)))]
    refine z_ifb_ne C 27 dX5_ifOrdered_21 (by decide) 24 rfl (fun c_2 => ?_) (fun c_2 => ?_)
    · exfalso; simp_all
    refine z_bipush C (v := (-2)) rfl dX5_ifOrdered_24 26 rfl ?_
    exact z_iret C hRx dX5_ifOrdered_26 () rfl trivial rfl

set_option maxHeartbeats 4000000 in
set_option maxRecDepth 100000 in
theorem tX5_ifOrdered_ok (l : Launch) (g : zG) (y all kept hist : Nat → Nat) (hl : Nat) (slo sav beg prt frm txt : Nat → Nat) (tl sp : Nat) (tol : Nat → Nat) (rd : Nat) (st : Nat → Nat) (r : Nat → Nat → Nat) (n : Nat) (m k : Nat) (hn : n ≤ 12) (hB : Bd all st r n) (hS : okS st) (hJ : okJ r n) (hR : okR st r n (st 5)) (hm : m ≤ 3) (hk : k ≤ 3) : Met l yX5_ifOrdered wsX5_ifOrdered ({ frames := 4, cells := 0, slots := 0, locals := 91 } : Room) (zPre g [.ref (y 0), .int (nI m), .int (nI k)] [wM g y all kept hist hl slo sav beg prt frm txt tl sp tol rd]) (zQ g (fun u : (Nat → Nat) × (Nat → Nat) × (Nat → Nat) × (Nat → Nat) × (Nat → Nat) => match u with | (all2, kept2, beg2, prt2, frm2) => some (.int (nI (IO st (oR r (foR m) n) n k))) ) (fun u : (Nat → Nat) × (Nat → Nat) × (Nat → Nat) × (Nat → Nat) × (Nat → Nat) => match u with | (all2, kept2, beg2, prt2, frm2) => (Bd all2 st r n)) (fun u : (Nat → Nat) × (Nat → Nat) × (Nat → Nat) × (Nat → Nat) × (Nat → Nat) => match u with | (all2, kept2, beg2, prt2, frm2) => [wM g y all2 kept2 hist hl slo sav beg2 prt2 frm2 txt tl sp tol rd]) (zA [wM g y all kept hist hl slo sav beg prt frm txt tl sp tol rd])) 0 0 (zA [wM g y all kept hist hl slo sav beg prt frm txt tl sp tol rd]) := by
  refine z_entry (cc := cX5_ifOrdered) (maxL := 4) (ret := (some .int)) (own := RX5) (by decide) rfl rfl (Nat.le_of_ble_eq_true rfl) [(0, .ref (y 0)), (1, .int (nI m)), (2, .int (nI k))] rfl ?_
  intro K hKl hKg hnL C hRx
  subst hKl
  subst hKg
  rcases (show k = 0 ∨ k = 1 ∨ k = 2 ∨ k = 3 by omega) with rfl | rfl | rfl | rfl
  · skip
    refine z_iload_n C 1 rfl rfl dX5_ifOrdered_0 1 rfl ?_
    refine z_i2l C dX5_ifOrdered_1 2 rfl ?_
    refine z_lconst C (v := lN 0) rfl dX5_ifOrdered_2 3 rfl ?_
    refine z_ldc2 C (v := lN 3) (List.mem_of_getElem? (i := 1) rfl) dX5_ifOrdered_3 6 rfl ?_
    refine z_callP C [.long ((nI m).toInt64), .long (lN 0), .long (lN 3)] [] (tX5_inI K.l K.g (nI m) 0 3 (by first | omega | assumption) (by first | omega | assumption)) gX5_ifOrdered_X5_in rfl rfl rfl hdX5_in ⟨Nat.le_of_ble_eq_true rfl, Nat.le_of_ble_eq_true rfl⟩ ⟨Nat.zero_le _, Nat.zero_le _⟩ rfl rfl (Nat.le_of_ble_eq_true rfl) dX5_ifOrdered_6 9 rfl (fun u9 hu9 => ?_)
    show Z K 0 0 [wM K.g y all kept hist hl slo sav beg prt frm txt tl sp tol rd] [(0, .ref (y 0)), (1, .int (nI m)), (2, .int (nI 0))] 9 [.int (bI (rg (nI m).toInt (Int.ofNat 0) (Int.ofNat 3)))]
    refine z_ifb_eq C 24 dX5_ifOrdered_9 (by decide) 12 rfl (fun c_1 => ?_) (fun c_1 => ?_)
    · exfalso; rw [rgN_t (by omega) (by omega) (by omega)] at c_1; exact Bool.noConfusion c_1
    refine z_iload_n C 2 rfl rfl dX5_ifOrdered_12 13 rfl ?_
    refine z_i2l C dX5_ifOrdered_13 14 rfl ?_
    refine z_lconst C (v := lN 0) rfl dX5_ifOrdered_14 15 rfl ?_
    refine z_ldc2 C (v := lN 3) (List.mem_of_getElem? (i := 1) rfl) dX5_ifOrdered_15 18 rfl ?_
    refine z_callP C [.long ((nI 0).toInt64), .long (lN 0), .long (lN 3)] [] (tX5_inI K.l K.g (nI 0) 0 3 (by first | omega | assumption) (by first | omega | assumption)) gX5_ifOrdered_X5_in rfl rfl rfl hdX5_in ⟨Nat.le_of_ble_eq_true rfl, Nat.le_of_ble_eq_true rfl⟩ ⟨Nat.zero_le _, Nat.zero_le _⟩ rfl rfl (Nat.le_of_ble_eq_true rfl) dX5_ifOrdered_18 21 rfl (fun u9 hu9 => ?_)
    show Z K 0 0 [wM K.g y all kept hist hl slo sav beg prt frm txt tl sp tol rd] [(0, .ref (y 0)), (1, .int (nI m)), (2, .int (nI 0))] 21 [.int (bI (rg (nI 0).toInt (Int.ofNat 0) (Int.ofNat 3)))]
    refine z_ifb_ne C 27 dX5_ifOrdered_21 (by decide) 24 rfl (fun c_2 => ?_) (fun c_2 => ?_)
    rotate_left
    · exfalso; rw [rgN_t (by omega) (by omega) (by omega)] at c_2; exact Bool.noConfusion c_2
    refine z_aload_n C 0 rfl rfl dX5_ifOrdered_27 28 rfl ?_
    refine z_callV C [] [] (tX5_keeps K.l K.g y all kept hist hl slo sav beg prt frm txt tl sp tol rd ) gX5_ifOrdered_X5_keeps rfl rfl rfl hdX5_keeps ⟨Nat.le_of_ble_eq_true rfl, Nat.le_of_ble_eq_true rfl⟩ ⟨Nat.zero_le _, Nat.zero_le _⟩ 0 0 rfl rfl rfl [0] rfl rfl (zlc (N := 1) rfl rfl) [1] rfl (by decide) (fun kept2 : Nat → Nat => [wM K.g y all kept2 hist hl slo sav beg prt frm txt tl sp tol rd]) (fun _ => rfl) rfl rfl (Nat.le_of_ble_eq_true rfl) dX5_ifOrdered_28 31 rfl (fun u9 hu9 => ?_)
    obtain ⟨kp2, rfl⟩ : ∃ z, z = u9 := ⟨_, rfl⟩
    have hck := hu9
    have hck : ∀ u, u < 56 → kp2 u = all u := hck
    show Z K 0 0 [wM K.g y all kp2 hist hl slo sav beg prt frm txt tl sp tol rd] [(0, .ref (y 0)), (1, .int (nI m)), (2, .int (nI 0))] 31 []
    refine z_aload_n C 0 rfl rfl dX5_ifOrdered_31 32 rfl ?_
    refine z_iload_n C 1 rfl rfl dX5_ifOrdered_32 33 rfl ?_
    refine z_callV C [.int (nI m)] [] (tX5_orders K.l K.g y all kp2 hist hl slo sav beg prt frm txt tl sp tol rd st r n m (by first | omega | assumption) (by first | omega | assumption) (by first | omega | assumption) (by first | omega | assumption)) gX5_ifOrdered_X5_orders rfl rfl rfl hdX5_orders ⟨Nat.le_of_ble_eq_true rfl, Nat.le_of_ble_eq_true rfl⟩ ⟨Nat.zero_le _, Nat.zero_le _⟩ 0 0 rfl rfl rfl [0] rfl rfl (zlc (N := 1) rfl rfl) [1] rfl (by decide) (fun u : (Nat → Nat) × (Nat → Nat) => match u with | (all2, frm2) => [wM K.g y all2 kp2 hist hl slo sav beg prt frm2 txt tl sp tol rd]) (fun _ => rfl) rfl rfl (Nat.le_of_ble_eq_true rfl) dX5_ifOrdered_33 36 rfl (fun u9 hu9 => ?_)
    obtain ⟨al3, fr2⟩ := u9
    obtain ⟨hB3, hF⟩ := hu9
    have hB3 : Bd al3 st (oR r (foR m) n) n := hB3
    have hF : ∀ i, i < n → fr2 i < n ∧ plc (r (foR m)) n (fr2 i) = i := hF
    show Z K 0 0 [wM K.g y al3 kp2 hist hl slo sav beg prt fr2 txt tl sp tol rd] [(0, .ref (y 0)), (1, .int (nI m)), (2, .int (nI 0))] 36 []
    refine z_aload_n C 0 rfl rfl dX5_ifOrdered_36 37 rfl ?_
    refine z_callV C [] [] (tX5_prints K.l K.g y al3 kp2 hist hl slo sav beg prt fr2 txt tl sp tol rd st (oR r (foR m) n) n hn hB3 hS (okJ_oR hJ) (okR_oR hR)) gX5_ifOrdered_X5_prints rfl rfl rfl hdX5_prints ⟨Nat.le_of_ble_eq_true rfl, Nat.le_of_ble_eq_true rfl⟩ ⟨Nat.zero_le _, Nat.zero_le _⟩ 0 0 rfl rfl rfl [0] rfl rfl (zlc (N := 1) rfl rfl) [1] rfl (by decide) (fun u : (Nat → Nat) × (Nat → Nat) => match u with | (beg2, prt2) => [wM K.g y al3 kp2 hist hl slo sav beg2 prt2 fr2 txt tl sp tol rd]) (fun _ => rfl) rfl rfl (Nat.le_of_ble_eq_true rfl) dX5_ifOrdered_37 40 rfl (fun u9 hu9 => ?_)
    obtain ⟨beg2, prt2⟩ := u9
    obtain ⟨hP, hE, hp⟩ := hu9
    have hP : isP st (oR r (foR m) n) (st 5) prt2 n := hP
    have hE : ∀ i, i < n → beg2 i + (rdy st (oR r (foR m) n) i + (oR r (foR m) n) 2 i * st 3) = prt2 i := hE
    have hp : ∀ i, i < n → prt2 i ≤ 14400 := hp
    show Z K 0 0 [wM K.g y al3 kp2 hist hl slo sav beg2 prt2 fr2 txt tl sp tol rd] [(0, .ref (y 0)), (1, .int (nI m)), (2, .int (nI 0))] 40 []
    have hp30 : ∀ i, i < n → prt2 i ≤ 30000 := fun i hi => Nat.le_trans (hp i hi) (by decide)
    refine z_iload_n C 2 rfl rfl dX5_ifOrdered_40 41 rfl ?_
    refine z_if_ne C (by omega) 53 dX5_ifOrdered_41 (by decide) 44 rfl (fun c_3 => ?_) (fun c_3 => ?_)
    · exfalso; omega
    refine z_aload_n C 0 rfl rfl dX5_ifOrdered_44 45 rfl ?_
    refine z_bipush C (v := nI 10) rfl dX5_ifOrdered_45 47 rfl ?_
    refine z_callV C [.int (nI 10)] [] (tX5_greatestOf_10 K.l K.g y al3 kp2 hist hl slo sav beg2 prt2 fr2 txt tl sp tol rd st (oR r (foR m) n) n hn hB3 hS (okJ_oR hJ) (by first | omega | assumption)) gX5_ifOrdered_X5_greatestOf rfl rfl rfl hdX5_greatestOf ⟨Nat.le_of_ble_eq_true rfl, Nat.le_of_ble_eq_true rfl⟩ ⟨Nat.zero_le _, Nat.zero_le _⟩ 0 0 rfl rfl rfl [0] rfl rfl (zlc (N := 1) rfl rfl) [1] rfl (by decide) (fun _ : Unit => [wM K.g y al3 kp2 hist hl slo sav beg2 prt2 fr2 txt tl sp tol rd]) (fun _ => rfl) rfl rfl (Nat.le_of_ble_eq_true rfl) dX5_ifOrdered_47 50 rfl (fun u9 hu9 => ?_)
    show Z K 0 0 [wM K.g y al3 kp2 hist hl slo sav beg2 prt2 fr2 txt tl sp tol rd] [(0, .ref (y 0)), (1, .int (nI m)), (2, .int (nI 0))] 50 [.int (nI (mx (fun i => prt2 i + st 4) n))]
    refine z_goto C 79 dX5_ifOrdered_50 (by decide) ?_
    refine z_istore_n C hnL [1, 2, 3, 0] [(0, .ref (y 0)), (1, .int (nI m)), (2, .int (nI 0)), (3, .int (nI (mx (fun i => prt2 i + st 4) n)))] rfl rfl (Nat.le_of_ble_eq_true rfl) dX5_ifOrdered_79 80 rfl ?_
    refine z_aload_n C 0 rfl rfl dX5_ifOrdered_80 81 rfl ?_
    refine z_callV C [] [] (tX5_comesBack K.l K.g y al3 kp2 hist hl slo sav beg2 prt2 fr2 txt tl sp tol rd ) gX5_ifOrdered_X5_comesBack rfl rfl rfl hdX5_comesBack ⟨Nat.le_of_ble_eq_true rfl, Nat.le_of_ble_eq_true rfl⟩ ⟨Nat.zero_le _, Nat.zero_le _⟩ 0 0 rfl rfl rfl [0] rfl rfl (zlc (N := 1) rfl rfl) [1] rfl (by decide) (fun all2 : Nat → Nat => [wM K.g y all2 kp2 hist hl slo sav beg2 prt2 fr2 txt tl sp tol rd]) (fun _ => rfl) rfl rfl (Nat.le_of_ble_eq_true rfl) dX5_ifOrdered_81 84 rfl (fun u9 hu9 => ?_)
    obtain ⟨al4, rfl⟩ : ∃ z, z = u9 := ⟨_, rfl⟩
    have hc4 := hu9
    have hc4 : ∀ u, u < 56 → al4 u = kp2 u := hc4
    show Z K 0 0 [wM K.g y al4 kp2 hist hl slo sav beg2 prt2 fr2 txt tl sp tol rd] [(0, .ref (y 0)), (1, .int (nI m)), (2, .int (nI 0)), (3, .int (nI (mx (fun i => prt2 i + st 4) n)))] 84 []
    refine z_iload_n C 3 rfl rfl dX5_ifOrdered_84 85 rfl ?_
    exact z_iret C hRx dX5_ifOrdered_85 (al4, kp2, beg2, prt2, fr2) (congrArg (fun z => some (Value.int (nI z))) (mx_D hP).symm) (Bd_cp hB hn (fun u hu => by rw [hc4 u hu, hck u hu])) rfl
  · skip
    refine z_iload_n C 1 rfl rfl dX5_ifOrdered_0 1 rfl ?_
    refine z_i2l C dX5_ifOrdered_1 2 rfl ?_
    refine z_lconst C (v := lN 0) rfl dX5_ifOrdered_2 3 rfl ?_
    refine z_ldc2 C (v := lN 3) (List.mem_of_getElem? (i := 1) rfl) dX5_ifOrdered_3 6 rfl ?_
    refine z_callP C [.long ((nI m).toInt64), .long (lN 0), .long (lN 3)] [] (tX5_inI K.l K.g (nI m) 0 3 (by first | omega | assumption) (by first | omega | assumption)) gX5_ifOrdered_X5_in rfl rfl rfl hdX5_in ⟨Nat.le_of_ble_eq_true rfl, Nat.le_of_ble_eq_true rfl⟩ ⟨Nat.zero_le _, Nat.zero_le _⟩ rfl rfl (Nat.le_of_ble_eq_true rfl) dX5_ifOrdered_6 9 rfl (fun u9 hu9 => ?_)
    show Z K 0 0 [wM K.g y all kept hist hl slo sav beg prt frm txt tl sp tol rd] [(0, .ref (y 0)), (1, .int (nI m)), (2, .int (nI 1))] 9 [.int (bI (rg (nI m).toInt (Int.ofNat 0) (Int.ofNat 3)))]
    refine z_ifb_eq C 24 dX5_ifOrdered_9 (by decide) 12 rfl (fun c_4 => ?_) (fun c_4 => ?_)
    · exfalso; rw [rgN_t (by omega) (by omega) (by omega)] at c_4; exact Bool.noConfusion c_4
    refine z_iload_n C 2 rfl rfl dX5_ifOrdered_12 13 rfl ?_
    refine z_i2l C dX5_ifOrdered_13 14 rfl ?_
    refine z_lconst C (v := lN 0) rfl dX5_ifOrdered_14 15 rfl ?_
    refine z_ldc2 C (v := lN 3) (List.mem_of_getElem? (i := 1) rfl) dX5_ifOrdered_15 18 rfl ?_
    refine z_callP C [.long ((nI 1).toInt64), .long (lN 0), .long (lN 3)] [] (tX5_inI K.l K.g (nI 1) 0 3 (by first | omega | assumption) (by first | omega | assumption)) gX5_ifOrdered_X5_in rfl rfl rfl hdX5_in ⟨Nat.le_of_ble_eq_true rfl, Nat.le_of_ble_eq_true rfl⟩ ⟨Nat.zero_le _, Nat.zero_le _⟩ rfl rfl (Nat.le_of_ble_eq_true rfl) dX5_ifOrdered_18 21 rfl (fun u9 hu9 => ?_)
    show Z K 0 0 [wM K.g y all kept hist hl slo sav beg prt frm txt tl sp tol rd] [(0, .ref (y 0)), (1, .int (nI m)), (2, .int (nI 1))] 21 [.int (bI (rg (nI 1).toInt (Int.ofNat 0) (Int.ofNat 3)))]
    refine z_ifb_ne C 27 dX5_ifOrdered_21 (by decide) 24 rfl (fun c_5 => ?_) (fun c_5 => ?_)
    rotate_left
    · exfalso; rw [rgN_t (by omega) (by omega) (by omega)] at c_5; exact Bool.noConfusion c_5
    refine z_aload_n C 0 rfl rfl dX5_ifOrdered_27 28 rfl ?_
    refine z_callV C [] [] (tX5_keeps K.l K.g y all kept hist hl slo sav beg prt frm txt tl sp tol rd ) gX5_ifOrdered_X5_keeps rfl rfl rfl hdX5_keeps ⟨Nat.le_of_ble_eq_true rfl, Nat.le_of_ble_eq_true rfl⟩ ⟨Nat.zero_le _, Nat.zero_le _⟩ 0 0 rfl rfl rfl [0] rfl rfl (zlc (N := 1) rfl rfl) [1] rfl (by decide) (fun kept2 : Nat → Nat => [wM K.g y all kept2 hist hl slo sav beg prt frm txt tl sp tol rd]) (fun _ => rfl) rfl rfl (Nat.le_of_ble_eq_true rfl) dX5_ifOrdered_28 31 rfl (fun u9 hu9 => ?_)
    obtain ⟨kp2, rfl⟩ : ∃ z, z = u9 := ⟨_, rfl⟩
    have hck := hu9
    have hck : ∀ u, u < 56 → kp2 u = all u := hck
    show Z K 0 0 [wM K.g y all kp2 hist hl slo sav beg prt frm txt tl sp tol rd] [(0, .ref (y 0)), (1, .int (nI m)), (2, .int (nI 1))] 31 []
    refine z_aload_n C 0 rfl rfl dX5_ifOrdered_31 32 rfl ?_
    refine z_iload_n C 1 rfl rfl dX5_ifOrdered_32 33 rfl ?_
    refine z_callV C [.int (nI m)] [] (tX5_orders K.l K.g y all kp2 hist hl slo sav beg prt frm txt tl sp tol rd st r n m (by first | omega | assumption) (by first | omega | assumption) (by first | omega | assumption) (by first | omega | assumption)) gX5_ifOrdered_X5_orders rfl rfl rfl hdX5_orders ⟨Nat.le_of_ble_eq_true rfl, Nat.le_of_ble_eq_true rfl⟩ ⟨Nat.zero_le _, Nat.zero_le _⟩ 0 0 rfl rfl rfl [0] rfl rfl (zlc (N := 1) rfl rfl) [1] rfl (by decide) (fun u : (Nat → Nat) × (Nat → Nat) => match u with | (all2, frm2) => [wM K.g y all2 kp2 hist hl slo sav beg prt frm2 txt tl sp tol rd]) (fun _ => rfl) rfl rfl (Nat.le_of_ble_eq_true rfl) dX5_ifOrdered_33 36 rfl (fun u9 hu9 => ?_)
    obtain ⟨al3, fr2⟩ := u9
    obtain ⟨hB3, hF⟩ := hu9
    have hB3 : Bd al3 st (oR r (foR m) n) n := hB3
    have hF : ∀ i, i < n → fr2 i < n ∧ plc (r (foR m)) n (fr2 i) = i := hF
    show Z K 0 0 [wM K.g y al3 kp2 hist hl slo sav beg prt fr2 txt tl sp tol rd] [(0, .ref (y 0)), (1, .int (nI m)), (2, .int (nI 1))] 36 []
    refine z_aload_n C 0 rfl rfl dX5_ifOrdered_36 37 rfl ?_
    refine z_callV C [] [] (tX5_prints K.l K.g y al3 kp2 hist hl slo sav beg prt fr2 txt tl sp tol rd st (oR r (foR m) n) n hn hB3 hS (okJ_oR hJ) (okR_oR hR)) gX5_ifOrdered_X5_prints rfl rfl rfl hdX5_prints ⟨Nat.le_of_ble_eq_true rfl, Nat.le_of_ble_eq_true rfl⟩ ⟨Nat.zero_le _, Nat.zero_le _⟩ 0 0 rfl rfl rfl [0] rfl rfl (zlc (N := 1) rfl rfl) [1] rfl (by decide) (fun u : (Nat → Nat) × (Nat → Nat) => match u with | (beg2, prt2) => [wM K.g y al3 kp2 hist hl slo sav beg2 prt2 fr2 txt tl sp tol rd]) (fun _ => rfl) rfl rfl (Nat.le_of_ble_eq_true rfl) dX5_ifOrdered_37 40 rfl (fun u9 hu9 => ?_)
    obtain ⟨beg2, prt2⟩ := u9
    obtain ⟨hP, hE, hp⟩ := hu9
    have hP : isP st (oR r (foR m) n) (st 5) prt2 n := hP
    have hE : ∀ i, i < n → beg2 i + (rdy st (oR r (foR m) n) i + (oR r (foR m) n) 2 i * st 3) = prt2 i := hE
    have hp : ∀ i, i < n → prt2 i ≤ 14400 := hp
    show Z K 0 0 [wM K.g y al3 kp2 hist hl slo sav beg2 prt2 fr2 txt tl sp tol rd] [(0, .ref (y 0)), (1, .int (nI m)), (2, .int (nI 1))] 40 []
    have hp30 : ∀ i, i < n → prt2 i ≤ 30000 := fun i hi => Nat.le_trans (hp i hi) (by decide)
    refine z_iload_n C 2 rfl rfl dX5_ifOrdered_40 41 rfl ?_
    refine z_if_ne C (by omega) 53 dX5_ifOrdered_41 (by decide) 44 rfl (fun c_6 => ?_) (fun c_6 => ?_)
    rotate_left
    · exfalso; omega
    refine z_aload_n C 0 rfl rfl dX5_ifOrdered_53 54 rfl ?_
    refine z_iload_n C 2 rfl rfl dX5_ifOrdered_54 55 rfl ?_
    refine z_iconst C (v := nI 1) rfl dX5_ifOrdered_55 56 rfl ?_
    refine z_icmp_ne C (by omega) (by omega) 64 dX5_ifOrdered_56 (by decide) 59 rfl (fun c_7 => ?_) (fun c_7 => ?_)
    · exfalso; omega
    refine z_bipush C (v := nI 12) rfl dX5_ifOrdered_59 61 rfl ?_
    refine z_goto C 76 dX5_ifOrdered_61 (by decide) ?_
    refine z_callV C [.int (nI 12)] [] (tX5_sumOf_12 K.l K.g y al3 kp2 hist hl slo sav beg2 prt2 fr2 txt tl sp tol rd st (oR r (foR m) n) n hn hB3 hS (okJ_oR hJ) (by first | omega | assumption)) gX5_ifOrdered_X5_sumOf rfl rfl rfl hdX5_sumOf ⟨Nat.le_of_ble_eq_true rfl, Nat.le_of_ble_eq_true rfl⟩ ⟨Nat.zero_le _, Nat.zero_le _⟩ 0 0 rfl rfl rfl [0] rfl rfl (zlc (N := 1) rfl rfl) [1] rfl (by decide) (fun _ : Unit => [wM K.g y al3 kp2 hist hl slo sav beg2 prt2 fr2 txt tl sp tol rd]) (fun _ => rfl) rfl rfl (Nat.le_of_ble_eq_true rfl) dX5_ifOrdered_76 79 rfl (fun u9 hu9 => ?_)
    show Z K 0 0 [wM K.g y al3 kp2 hist hl slo sav beg2 prt2 fr2 txt tl sp tol rd] [(0, .ref (y 0)), (1, .int (nI m)), (2, .int (nI 1))] 79 [.int (nI (sm (fun i => prt2 i + st 4 - (oR r (foR m) n) 3 i) n))]
    refine z_istore_n C hnL [1, 2, 3, 0] [(0, .ref (y 0)), (1, .int (nI m)), (2, .int (nI 1)), (3, .int (nI (sm (fun i => prt2 i + st 4 - (oR r (foR m) n) 3 i) n)))] rfl rfl (Nat.le_of_ble_eq_true rfl) dX5_ifOrdered_79 80 rfl ?_
    refine z_aload_n C 0 rfl rfl dX5_ifOrdered_80 81 rfl ?_
    refine z_callV C [] [] (tX5_comesBack K.l K.g y al3 kp2 hist hl slo sav beg2 prt2 fr2 txt tl sp tol rd ) gX5_ifOrdered_X5_comesBack rfl rfl rfl hdX5_comesBack ⟨Nat.le_of_ble_eq_true rfl, Nat.le_of_ble_eq_true rfl⟩ ⟨Nat.zero_le _, Nat.zero_le _⟩ 0 0 rfl rfl rfl [0] rfl rfl (zlc (N := 1) rfl rfl) [1] rfl (by decide) (fun all2 : Nat → Nat => [wM K.g y all2 kp2 hist hl slo sav beg2 prt2 fr2 txt tl sp tol rd]) (fun _ => rfl) rfl rfl (Nat.le_of_ble_eq_true rfl) dX5_ifOrdered_81 84 rfl (fun u9 hu9 => ?_)
    obtain ⟨al4, rfl⟩ : ∃ z, z = u9 := ⟨_, rfl⟩
    have hc4 := hu9
    have hc4 : ∀ u, u < 56 → al4 u = kp2 u := hc4
    show Z K 0 0 [wM K.g y al4 kp2 hist hl slo sav beg2 prt2 fr2 txt tl sp tol rd] [(0, .ref (y 0)), (1, .int (nI m)), (2, .int (nI 1)), (3, .int (nI (sm (fun i => prt2 i + st 4 - (oR r (foR m) n) 3 i) n)))] 84 []
    refine z_iload_n C 3 rfl rfl dX5_ifOrdered_84 85 rfl ?_
    exact z_iret C hRx dX5_ifOrdered_85 (al4, kp2, beg2, prt2, fr2) (congrArg (fun z => some (Value.int (nI z))) (LS_e hP).symm) (Bd_cp hB hn (fun u hu => by rw [hc4 u hu, hck u hu])) rfl
  · skip
    refine z_iload_n C 1 rfl rfl dX5_ifOrdered_0 1 rfl ?_
    refine z_i2l C dX5_ifOrdered_1 2 rfl ?_
    refine z_lconst C (v := lN 0) rfl dX5_ifOrdered_2 3 rfl ?_
    refine z_ldc2 C (v := lN 3) (List.mem_of_getElem? (i := 1) rfl) dX5_ifOrdered_3 6 rfl ?_
    refine z_callP C [.long ((nI m).toInt64), .long (lN 0), .long (lN 3)] [] (tX5_inI K.l K.g (nI m) 0 3 (by first | omega | assumption) (by first | omega | assumption)) gX5_ifOrdered_X5_in rfl rfl rfl hdX5_in ⟨Nat.le_of_ble_eq_true rfl, Nat.le_of_ble_eq_true rfl⟩ ⟨Nat.zero_le _, Nat.zero_le _⟩ rfl rfl (Nat.le_of_ble_eq_true rfl) dX5_ifOrdered_6 9 rfl (fun u9 hu9 => ?_)
    show Z K 0 0 [wM K.g y all kept hist hl slo sav beg prt frm txt tl sp tol rd] [(0, .ref (y 0)), (1, .int (nI m)), (2, .int (nI 2))] 9 [.int (bI (rg (nI m).toInt (Int.ofNat 0) (Int.ofNat 3)))]
    refine z_ifb_eq C 24 dX5_ifOrdered_9 (by decide) 12 rfl (fun c_8 => ?_) (fun c_8 => ?_)
    · exfalso; rw [rgN_t (by omega) (by omega) (by omega)] at c_8; exact Bool.noConfusion c_8
    refine z_iload_n C 2 rfl rfl dX5_ifOrdered_12 13 rfl ?_
    refine z_i2l C dX5_ifOrdered_13 14 rfl ?_
    refine z_lconst C (v := lN 0) rfl dX5_ifOrdered_14 15 rfl ?_
    refine z_ldc2 C (v := lN 3) (List.mem_of_getElem? (i := 1) rfl) dX5_ifOrdered_15 18 rfl ?_
    refine z_callP C [.long ((nI 2).toInt64), .long (lN 0), .long (lN 3)] [] (tX5_inI K.l K.g (nI 2) 0 3 (by first | omega | assumption) (by first | omega | assumption)) gX5_ifOrdered_X5_in rfl rfl rfl hdX5_in ⟨Nat.le_of_ble_eq_true rfl, Nat.le_of_ble_eq_true rfl⟩ ⟨Nat.zero_le _, Nat.zero_le _⟩ rfl rfl (Nat.le_of_ble_eq_true rfl) dX5_ifOrdered_18 21 rfl (fun u9 hu9 => ?_)
    show Z K 0 0 [wM K.g y all kept hist hl slo sav beg prt frm txt tl sp tol rd] [(0, .ref (y 0)), (1, .int (nI m)), (2, .int (nI 2))] 21 [.int (bI (rg (nI 2).toInt (Int.ofNat 0) (Int.ofNat 3)))]
    refine z_ifb_ne C 27 dX5_ifOrdered_21 (by decide) 24 rfl (fun c_9 => ?_) (fun c_9 => ?_)
    rotate_left
    · exfalso; rw [rgN_t (by omega) (by omega) (by omega)] at c_9; exact Bool.noConfusion c_9
    refine z_aload_n C 0 rfl rfl dX5_ifOrdered_27 28 rfl ?_
    refine z_callV C [] [] (tX5_keeps K.l K.g y all kept hist hl slo sav beg prt frm txt tl sp tol rd ) gX5_ifOrdered_X5_keeps rfl rfl rfl hdX5_keeps ⟨Nat.le_of_ble_eq_true rfl, Nat.le_of_ble_eq_true rfl⟩ ⟨Nat.zero_le _, Nat.zero_le _⟩ 0 0 rfl rfl rfl [0] rfl rfl (zlc (N := 1) rfl rfl) [1] rfl (by decide) (fun kept2 : Nat → Nat => [wM K.g y all kept2 hist hl slo sav beg prt frm txt tl sp tol rd]) (fun _ => rfl) rfl rfl (Nat.le_of_ble_eq_true rfl) dX5_ifOrdered_28 31 rfl (fun u9 hu9 => ?_)
    obtain ⟨kp2, rfl⟩ : ∃ z, z = u9 := ⟨_, rfl⟩
    have hck := hu9
    have hck : ∀ u, u < 56 → kp2 u = all u := hck
    show Z K 0 0 [wM K.g y all kp2 hist hl slo sav beg prt frm txt tl sp tol rd] [(0, .ref (y 0)), (1, .int (nI m)), (2, .int (nI 2))] 31 []
    refine z_aload_n C 0 rfl rfl dX5_ifOrdered_31 32 rfl ?_
    refine z_iload_n C 1 rfl rfl dX5_ifOrdered_32 33 rfl ?_
    refine z_callV C [.int (nI m)] [] (tX5_orders K.l K.g y all kp2 hist hl slo sav beg prt frm txt tl sp tol rd st r n m (by first | omega | assumption) (by first | omega | assumption) (by first | omega | assumption) (by first | omega | assumption)) gX5_ifOrdered_X5_orders rfl rfl rfl hdX5_orders ⟨Nat.le_of_ble_eq_true rfl, Nat.le_of_ble_eq_true rfl⟩ ⟨Nat.zero_le _, Nat.zero_le _⟩ 0 0 rfl rfl rfl [0] rfl rfl (zlc (N := 1) rfl rfl) [1] rfl (by decide) (fun u : (Nat → Nat) × (Nat → Nat) => match u with | (all2, frm2) => [wM K.g y all2 kp2 hist hl slo sav beg prt frm2 txt tl sp tol rd]) (fun _ => rfl) rfl rfl (Nat.le_of_ble_eq_true rfl) dX5_ifOrdered_33 36 rfl (fun u9 hu9 => ?_)
    obtain ⟨al3, fr2⟩ := u9
    obtain ⟨hB3, hF⟩ := hu9
    have hB3 : Bd al3 st (oR r (foR m) n) n := hB3
    have hF : ∀ i, i < n → fr2 i < n ∧ plc (r (foR m)) n (fr2 i) = i := hF
    show Z K 0 0 [wM K.g y al3 kp2 hist hl slo sav beg prt fr2 txt tl sp tol rd] [(0, .ref (y 0)), (1, .int (nI m)), (2, .int (nI 2))] 36 []
    refine z_aload_n C 0 rfl rfl dX5_ifOrdered_36 37 rfl ?_
    refine z_callV C [] [] (tX5_prints K.l K.g y al3 kp2 hist hl slo sav beg prt fr2 txt tl sp tol rd st (oR r (foR m) n) n hn hB3 hS (okJ_oR hJ) (okR_oR hR)) gX5_ifOrdered_X5_prints rfl rfl rfl hdX5_prints ⟨Nat.le_of_ble_eq_true rfl, Nat.le_of_ble_eq_true rfl⟩ ⟨Nat.zero_le _, Nat.zero_le _⟩ 0 0 rfl rfl rfl [0] rfl rfl (zlc (N := 1) rfl rfl) [1] rfl (by decide) (fun u : (Nat → Nat) × (Nat → Nat) => match u with | (beg2, prt2) => [wM K.g y al3 kp2 hist hl slo sav beg2 prt2 fr2 txt tl sp tol rd]) (fun _ => rfl) rfl rfl (Nat.le_of_ble_eq_true rfl) dX5_ifOrdered_37 40 rfl (fun u9 hu9 => ?_)
    obtain ⟨beg2, prt2⟩ := u9
    obtain ⟨hP, hE, hp⟩ := hu9
    have hP : isP st (oR r (foR m) n) (st 5) prt2 n := hP
    have hE : ∀ i, i < n → beg2 i + (rdy st (oR r (foR m) n) i + (oR r (foR m) n) 2 i * st 3) = prt2 i := hE
    have hp : ∀ i, i < n → prt2 i ≤ 14400 := hp
    show Z K 0 0 [wM K.g y al3 kp2 hist hl slo sav beg2 prt2 fr2 txt tl sp tol rd] [(0, .ref (y 0)), (1, .int (nI m)), (2, .int (nI 2))] 40 []
    have hp30 : ∀ i, i < n → prt2 i ≤ 30000 := fun i hi => Nat.le_trans (hp i hi) (by decide)
    refine z_iload_n C 2 rfl rfl dX5_ifOrdered_40 41 rfl ?_
    refine z_if_ne C (by omega) 53 dX5_ifOrdered_41 (by decide) 44 rfl (fun c_10 => ?_) (fun c_10 => ?_)
    rotate_left
    · exfalso; omega
    refine z_aload_n C 0 rfl rfl dX5_ifOrdered_53 54 rfl ?_
    refine z_iload_n C 2 rfl rfl dX5_ifOrdered_54 55 rfl ?_
    refine z_iconst C (v := nI 1) rfl dX5_ifOrdered_55 56 rfl ?_
    refine z_icmp_ne C (by omega) (by omega) 64 dX5_ifOrdered_56 (by decide) 59 rfl (fun c_11 => ?_) (fun c_11 => ?_)
    rotate_left
    · exfalso; omega
    refine z_iload_n C 2 rfl rfl dX5_ifOrdered_64 65 rfl ?_
    refine z_iconst C (v := nI 2) rfl dX5_ifOrdered_65 66 rfl ?_
    refine z_icmp_ne C (by omega) (by omega) 74 dX5_ifOrdered_66 (by decide) 69 rfl (fun c_12 => ?_) (fun c_12 => ?_)
    · exfalso; omega
    refine z_bipush C (v := nI 14) rfl dX5_ifOrdered_69 71 rfl ?_
    refine z_goto C 76 dX5_ifOrdered_71 (by decide) ?_
    refine z_callV C [.int (nI 14)] [] (tX5_sumOf_14 K.l K.g y al3 kp2 hist hl slo sav beg2 prt2 fr2 txt tl sp tol rd st (oR r (foR m) n) n hn hB3 hS (okJ_oR hJ) (by first | omega | assumption)) gX5_ifOrdered_X5_sumOf rfl rfl rfl hdX5_sumOf ⟨Nat.le_of_ble_eq_true rfl, Nat.le_of_ble_eq_true rfl⟩ ⟨Nat.zero_le _, Nat.zero_le _⟩ 0 0 rfl rfl rfl [0] rfl rfl (zlc (N := 1) rfl rfl) [1] rfl (by decide) (fun _ : Unit => [wM K.g y al3 kp2 hist hl slo sav beg2 prt2 fr2 txt tl sp tol rd]) (fun _ => rfl) rfl rfl (Nat.le_of_ble_eq_true rfl) dX5_ifOrdered_76 79 rfl (fun u9 hu9 => ?_)
    show Z K 0 0 [wM K.g y al3 kp2 hist hl slo sav beg2 prt2 fr2 txt tl sp tol rd] [(0, .ref (y 0)), (1, .int (nI m)), (2, .int (nI 2))] 79 [.int (nI (sm (wsh st (oR r (foR m) n)) n))]
    refine z_istore_n C hnL [1, 2, 3, 0] [(0, .ref (y 0)), (1, .int (nI m)), (2, .int (nI 2)), (3, .int (nI (sm (wsh st (oR r (foR m) n)) n)))] rfl rfl (Nat.le_of_ble_eq_true rfl) dX5_ifOrdered_79 80 rfl ?_
    refine z_aload_n C 0 rfl rfl dX5_ifOrdered_80 81 rfl ?_
    refine z_callV C [] [] (tX5_comesBack K.l K.g y al3 kp2 hist hl slo sav beg2 prt2 fr2 txt tl sp tol rd ) gX5_ifOrdered_X5_comesBack rfl rfl rfl hdX5_comesBack ⟨Nat.le_of_ble_eq_true rfl, Nat.le_of_ble_eq_true rfl⟩ ⟨Nat.zero_le _, Nat.zero_le _⟩ 0 0 rfl rfl rfl [0] rfl rfl (zlc (N := 1) rfl rfl) [1] rfl (by decide) (fun all2 : Nat → Nat => [wM K.g y all2 kp2 hist hl slo sav beg2 prt2 fr2 txt tl sp tol rd]) (fun _ => rfl) rfl rfl (Nat.le_of_ble_eq_true rfl) dX5_ifOrdered_81 84 rfl (fun u9 hu9 => ?_)
    obtain ⟨al4, rfl⟩ : ∃ z, z = u9 := ⟨_, rfl⟩
    have hc4 := hu9
    have hc4 : ∀ u, u < 56 → al4 u = kp2 u := hc4
    show Z K 0 0 [wM K.g y al4 kp2 hist hl slo sav beg2 prt2 fr2 txt tl sp tol rd] [(0, .ref (y 0)), (1, .int (nI m)), (2, .int (nI 2)), (3, .int (nI (sm (wsh st (oR r (foR m) n)) n)))] 84 []
    refine z_iload_n C 3 rfl rfl dX5_ifOrdered_84 85 rfl ?_
    exact z_iret C hRx dX5_ifOrdered_85 (al4, kp2, beg2, prt2, fr2) rfl (Bd_cp hB hn (fun u hu => by rw [hc4 u hu, hck u hu])) rfl
  · skip
    refine z_iload_n C 1 rfl rfl dX5_ifOrdered_0 1 rfl ?_
    refine z_i2l C dX5_ifOrdered_1 2 rfl ?_
    refine z_lconst C (v := lN 0) rfl dX5_ifOrdered_2 3 rfl ?_
    refine z_ldc2 C (v := lN 3) (List.mem_of_getElem? (i := 1) rfl) dX5_ifOrdered_3 6 rfl ?_
    refine z_callP C [.long ((nI m).toInt64), .long (lN 0), .long (lN 3)] [] (tX5_inI K.l K.g (nI m) 0 3 (by first | omega | assumption) (by first | omega | assumption)) gX5_ifOrdered_X5_in rfl rfl rfl hdX5_in ⟨Nat.le_of_ble_eq_true rfl, Nat.le_of_ble_eq_true rfl⟩ ⟨Nat.zero_le _, Nat.zero_le _⟩ rfl rfl (Nat.le_of_ble_eq_true rfl) dX5_ifOrdered_6 9 rfl (fun u9 hu9 => ?_)
    show Z K 0 0 [wM K.g y all kept hist hl slo sav beg prt frm txt tl sp tol rd] [(0, .ref (y 0)), (1, .int (nI m)), (2, .int (nI 3))] 9 [.int (bI (rg (nI m).toInt (Int.ofNat 0) (Int.ofNat 3)))]
    refine z_ifb_eq C 24 dX5_ifOrdered_9 (by decide) 12 rfl (fun c_13 => ?_) (fun c_13 => ?_)
    · exfalso; rw [rgN_t (by omega) (by omega) (by omega)] at c_13; exact Bool.noConfusion c_13
    refine z_iload_n C 2 rfl rfl dX5_ifOrdered_12 13 rfl ?_
    refine z_i2l C dX5_ifOrdered_13 14 rfl ?_
    refine z_lconst C (v := lN 0) rfl dX5_ifOrdered_14 15 rfl ?_
    refine z_ldc2 C (v := lN 3) (List.mem_of_getElem? (i := 1) rfl) dX5_ifOrdered_15 18 rfl ?_
    refine z_callP C [.long ((nI 3).toInt64), .long (lN 0), .long (lN 3)] [] (tX5_inI K.l K.g (nI 3) 0 3 (by first | omega | assumption) (by first | omega | assumption)) gX5_ifOrdered_X5_in rfl rfl rfl hdX5_in ⟨Nat.le_of_ble_eq_true rfl, Nat.le_of_ble_eq_true rfl⟩ ⟨Nat.zero_le _, Nat.zero_le _⟩ rfl rfl (Nat.le_of_ble_eq_true rfl) dX5_ifOrdered_18 21 rfl (fun u9 hu9 => ?_)
    show Z K 0 0 [wM K.g y all kept hist hl slo sav beg prt frm txt tl sp tol rd] [(0, .ref (y 0)), (1, .int (nI m)), (2, .int (nI 3))] 21 [.int (bI (rg (nI 3).toInt (Int.ofNat 0) (Int.ofNat 3)))]
    refine z_ifb_ne C 27 dX5_ifOrdered_21 (by decide) 24 rfl (fun c_14 => ?_) (fun c_14 => ?_)
    rotate_left
    · exfalso; rw [rgN_t (by omega) (by omega) (by omega)] at c_14; exact Bool.noConfusion c_14
    refine z_aload_n C 0 rfl rfl dX5_ifOrdered_27 28 rfl ?_
    refine z_callV C [] [] (tX5_keeps K.l K.g y all kept hist hl slo sav beg prt frm txt tl sp tol rd ) gX5_ifOrdered_X5_keeps rfl rfl rfl hdX5_keeps ⟨Nat.le_of_ble_eq_true rfl, Nat.le_of_ble_eq_true rfl⟩ ⟨Nat.zero_le _, Nat.zero_le _⟩ 0 0 rfl rfl rfl [0] rfl rfl (zlc (N := 1) rfl rfl) [1] rfl (by decide) (fun kept2 : Nat → Nat => [wM K.g y all kept2 hist hl slo sav beg prt frm txt tl sp tol rd]) (fun _ => rfl) rfl rfl (Nat.le_of_ble_eq_true rfl) dX5_ifOrdered_28 31 rfl (fun u9 hu9 => ?_)
    obtain ⟨kp2, rfl⟩ : ∃ z, z = u9 := ⟨_, rfl⟩
    have hck := hu9
    have hck : ∀ u, u < 56 → kp2 u = all u := hck
    show Z K 0 0 [wM K.g y all kp2 hist hl slo sav beg prt frm txt tl sp tol rd] [(0, .ref (y 0)), (1, .int (nI m)), (2, .int (nI 3))] 31 []
    refine z_aload_n C 0 rfl rfl dX5_ifOrdered_31 32 rfl ?_
    refine z_iload_n C 1 rfl rfl dX5_ifOrdered_32 33 rfl ?_
    refine z_callV C [.int (nI m)] [] (tX5_orders K.l K.g y all kp2 hist hl slo sav beg prt frm txt tl sp tol rd st r n m (by first | omega | assumption) (by first | omega | assumption) (by first | omega | assumption) (by first | omega | assumption)) gX5_ifOrdered_X5_orders rfl rfl rfl hdX5_orders ⟨Nat.le_of_ble_eq_true rfl, Nat.le_of_ble_eq_true rfl⟩ ⟨Nat.zero_le _, Nat.zero_le _⟩ 0 0 rfl rfl rfl [0] rfl rfl (zlc (N := 1) rfl rfl) [1] rfl (by decide) (fun u : (Nat → Nat) × (Nat → Nat) => match u with | (all2, frm2) => [wM K.g y all2 kp2 hist hl slo sav beg prt frm2 txt tl sp tol rd]) (fun _ => rfl) rfl rfl (Nat.le_of_ble_eq_true rfl) dX5_ifOrdered_33 36 rfl (fun u9 hu9 => ?_)
    obtain ⟨al3, fr2⟩ := u9
    obtain ⟨hB3, hF⟩ := hu9
    have hB3 : Bd al3 st (oR r (foR m) n) n := hB3
    have hF : ∀ i, i < n → fr2 i < n ∧ plc (r (foR m)) n (fr2 i) = i := hF
    show Z K 0 0 [wM K.g y al3 kp2 hist hl slo sav beg prt fr2 txt tl sp tol rd] [(0, .ref (y 0)), (1, .int (nI m)), (2, .int (nI 3))] 36 []
    refine z_aload_n C 0 rfl rfl dX5_ifOrdered_36 37 rfl ?_
    refine z_callV C [] [] (tX5_prints K.l K.g y al3 kp2 hist hl slo sav beg prt fr2 txt tl sp tol rd st (oR r (foR m) n) n hn hB3 hS (okJ_oR hJ) (okR_oR hR)) gX5_ifOrdered_X5_prints rfl rfl rfl hdX5_prints ⟨Nat.le_of_ble_eq_true rfl, Nat.le_of_ble_eq_true rfl⟩ ⟨Nat.zero_le _, Nat.zero_le _⟩ 0 0 rfl rfl rfl [0] rfl rfl (zlc (N := 1) rfl rfl) [1] rfl (by decide) (fun u : (Nat → Nat) × (Nat → Nat) => match u with | (beg2, prt2) => [wM K.g y al3 kp2 hist hl slo sav beg2 prt2 fr2 txt tl sp tol rd]) (fun _ => rfl) rfl rfl (Nat.le_of_ble_eq_true rfl) dX5_ifOrdered_37 40 rfl (fun u9 hu9 => ?_)
    obtain ⟨beg2, prt2⟩ := u9
    obtain ⟨hP, hE, hp⟩ := hu9
    have hP : isP st (oR r (foR m) n) (st 5) prt2 n := hP
    have hE : ∀ i, i < n → beg2 i + (rdy st (oR r (foR m) n) i + (oR r (foR m) n) 2 i * st 3) = prt2 i := hE
    have hp : ∀ i, i < n → prt2 i ≤ 14400 := hp
    show Z K 0 0 [wM K.g y al3 kp2 hist hl slo sav beg2 prt2 fr2 txt tl sp tol rd] [(0, .ref (y 0)), (1, .int (nI m)), (2, .int (nI 3))] 40 []
    have hp30 : ∀ i, i < n → prt2 i ≤ 30000 := fun i hi => Nat.le_trans (hp i hi) (by decide)
    refine z_iload_n C 2 rfl rfl dX5_ifOrdered_40 41 rfl ?_
    refine z_if_ne C (by omega) 53 dX5_ifOrdered_41 (by decide) 44 rfl (fun c_15 => ?_) (fun c_15 => ?_)
    rotate_left
    · exfalso; omega
    refine z_aload_n C 0 rfl rfl dX5_ifOrdered_53 54 rfl ?_
    refine z_iload_n C 2 rfl rfl dX5_ifOrdered_54 55 rfl ?_
    refine z_iconst C (v := nI 1) rfl dX5_ifOrdered_55 56 rfl ?_
    refine z_icmp_ne C (by omega) (by omega) 64 dX5_ifOrdered_56 (by decide) 59 rfl (fun c_16 => ?_) (fun c_16 => ?_)
    rotate_left
    · exfalso; omega
    refine z_iload_n C 2 rfl rfl dX5_ifOrdered_64 65 rfl ?_
    refine z_iconst C (v := nI 2) rfl dX5_ifOrdered_65 66 rfl ?_
    refine z_icmp_ne C (by omega) (by omega) 74 dX5_ifOrdered_66 (by decide) 69 rfl (fun c_17 => ?_) (fun c_17 => ?_)
    rotate_left
    · exfalso; omega
    refine z_bipush C (v := nI 15) rfl dX5_ifOrdered_74 76 rfl ?_
    refine z_callV C [.int (nI 15)] [] (tX5_sumOf_15 K.l K.g y al3 kp2 hist hl slo sav beg2 prt2 fr2 txt tl sp tol rd st (oR r (foR m) n) n hn hB3 hS (okJ_oR hJ) (by first | omega | assumption)) gX5_ifOrdered_X5_sumOf rfl rfl rfl hdX5_sumOf ⟨Nat.le_of_ble_eq_true rfl, Nat.le_of_ble_eq_true rfl⟩ ⟨Nat.zero_le _, Nat.zero_le _⟩ 0 0 rfl rfl rfl [0] rfl rfl (zlc (N := 1) rfl rfl) [1] rfl (by decide) (fun _ : Unit => [wM K.g y al3 kp2 hist hl slo sav beg2 prt2 fr2 txt tl sp tol rd]) (fun _ => rfl) rfl rfl (Nat.le_of_ble_eq_true rfl) dX5_ifOrdered_76 79 rfl (fun u9 hu9 => ?_)
    show Z K 0 0 [wM K.g y al3 kp2 hist hl slo sav beg2 prt2 fr2 txt tl sp tol rd] [(0, .ref (y 0)), (1, .int (nI m)), (2, .int (nI 3))] 79 [.int (nI (sm (plt (oR r (foR m) n)) n))]
    refine z_istore_n C hnL [1, 2, 3, 0] [(0, .ref (y 0)), (1, .int (nI m)), (2, .int (nI 3)), (3, .int (nI (sm (plt (oR r (foR m) n)) n)))] rfl rfl (Nat.le_of_ble_eq_true rfl) dX5_ifOrdered_79 80 rfl ?_
    refine z_aload_n C 0 rfl rfl dX5_ifOrdered_80 81 rfl ?_
    refine z_callV C [] [] (tX5_comesBack K.l K.g y al3 kp2 hist hl slo sav beg2 prt2 fr2 txt tl sp tol rd ) gX5_ifOrdered_X5_comesBack rfl rfl rfl hdX5_comesBack ⟨Nat.le_of_ble_eq_true rfl, Nat.le_of_ble_eq_true rfl⟩ ⟨Nat.zero_le _, Nat.zero_le _⟩ 0 0 rfl rfl rfl [0] rfl rfl (zlc (N := 1) rfl rfl) [1] rfl (by decide) (fun all2 : Nat → Nat => [wM K.g y all2 kp2 hist hl slo sav beg2 prt2 fr2 txt tl sp tol rd]) (fun _ => rfl) rfl rfl (Nat.le_of_ble_eq_true rfl) dX5_ifOrdered_81 84 rfl (fun u9 hu9 => ?_)
    obtain ⟨al4, rfl⟩ : ∃ z, z = u9 := ⟨_, rfl⟩
    have hc4 := hu9
    have hc4 : ∀ u, u < 56 → al4 u = kp2 u := hc4
    show Z K 0 0 [wM K.g y al4 kp2 hist hl slo sav beg2 prt2 fr2 txt tl sp tol rd] [(0, .ref (y 0)), (1, .int (nI m)), (2, .int (nI 3)), (3, .int (nI (sm (plt (oR r (foR m) n)) n)))] 84 []
    refine z_iload_n C 3 rfl rfl dX5_ifOrdered_84 85 rfl ?_
    exact z_iret C hRx dX5_ifOrdered_85 (al4, kp2, beg2, prt2, fr2) rfl (Bd_cp hB hn (fun u hu => by rw [hc4 u hu, hck u hu])) rfl

set_option maxHeartbeats 4000000 in
set_option maxRecDepth 100000 in
theorem tX5_bestExchange_bv (l : Launch) (g : zG) (y all kept hist : Nat → Nat) (hl : Nat) (slo sav beg prt frm txt : Nat → Nat) (tl sp : Nat) (tol : Nat → Nat) (rd : Nat) (w : Int32) (hb : rg w.toInt (Int.ofNat 0) (Int.ofNat 2) = false) : Met l yX5_bestExchange wsX5_bestExchange ({ frames := 5, cells := 0, slots := 0, locals := 111 } : Room) (zPre g [.ref (y 0), .int w] [wM g y all kept hist hl slo sav beg prt frm txt tl sp tol rd]) (zQ g (fun _ : Unit => some (.int (-2)) ) (fun _ : Unit => True) (fun _ : Unit => [wM g y all kept hist hl slo sav beg prt frm txt tl sp tol rd]) (zA [wM g y all kept hist hl slo sav beg prt frm txt tl sp tol rd])) 0 0 (zA [wM g y all kept hist hl slo sav beg prt frm txt tl sp tol rd]) := by
  refine z_entry (cc := cX5_bestExchange) (maxL := 9) (ret := (some .int)) (own := RX5) (by decide) rfl rfl (Nat.le_of_ble_eq_true rfl) [(0, .ref (y 0)), (1, .int w)] rfl ?_
  intro K hKl hKg hnL C hRx
  subst hKl
  subst hKg
  refine z_iload_n C 1 rfl rfl dX5_bestExchange_0 1 rfl ?_
  refine z_i2l C dX5_bestExchange_1 2 rfl ?_
  refine z_lconst C (v := lN 0) rfl dX5_bestExchange_2 3 rfl ?_
  refine z_ldc2 C (v := lN 2) (List.mem_of_getElem? (i := 1) rfl) dX5_bestExchange_3 6 rfl ?_
  refine z_callP C [.long ((w).toInt64), .long (lN 0), .long (lN 2)] [] (tX5_inI K.l K.g w 0 2 (by first | omega | assumption) (by first | omega | assumption)) gX5_bestExchange_X5_in rfl rfl rfl hdX5_in ⟨Nat.le_of_ble_eq_true rfl, Nat.le_of_ble_eq_true rfl⟩ ⟨Nat.zero_le _, Nat.zero_le _⟩ rfl rfl (Nat.le_of_ble_eq_true rfl) dX5_bestExchange_6 9 rfl (fun u9 hu9 => ?_)
  show Z K 0 0 [wM K.g y all kept hist hl slo sav beg prt frm txt tl sp tol rd] [(0, .ref (y 0)), (1, .int w)] 9 [.int (bI (rg w.toInt (Int.ofNat 0) (Int.ofNat 2)))]
  refine z_ifb_ne C 15 dX5_bestExchange_9 (by decide) 12 rfl (fun c_1 => ?_) (fun c_1 => ?_)
  · exfalso; rw [hb] at c_1; exact Bool.noConfusion c_1
  refine z_bipush C (v := (-2)) rfl dX5_bestExchange_12 14 rfl ?_
  exact z_iret C hRx dX5_bestExchange_14 () rfl trivial rfl

theorem iX5_bestExchange_X5 : ∀ w ∈ u_ws RX5 TX5 14, w ∈ wsX5_bestExchange := fun w h => (List.mem_cons_of_mem _ (List.mem_append_right _ h))
set_option maxHeartbeats 4000000 in
set_option maxRecDepth 100000 in
theorem tX5_bestExchange_ok (l : Launch) (g : zG) (y all kept hist : Nat → Nat) (hl : Nat) (slo sav beg prt frm txt : Nat → Nat) (tl sp : Nat) (tol : Nat → Nat) (rd : Nat) (st : Nat → Nat) (r : Nat → Nat → Nat) (n : Nat) (k : Nat) (hn : n ≤ 12) (hB : Bd all st r n) (hS : okS st) (hJ : okJ r n) (hR : okR st r n (st 5)) (hk : k ≤ 2) : Met l yX5_bestExchange wsX5_bestExchange ({ frames := 5, cells := 0, slots := 0, locals := 111 } : Room) (zPre g [.ref (y 0), .int (nI k)] [wM g y all kept hist hl slo sav beg prt frm txt tl sp tol rd]) (zQ g (fun u : (Nat → Nat) × (Nat → Nat) × (Nat → Nat) => match u with | (all2, beg2, prt2) => some (.int (BE st r n k)) ) (fun u : (Nat → Nat) × (Nat → Nat) × (Nat → Nat) => match u with | (all2, beg2, prt2) => (Bd all2 st r n)) (fun u : (Nat → Nat) × (Nat → Nat) × (Nat → Nat) => match u with | (all2, beg2, prt2) => [wM g y all2 kept hist hl slo sav beg2 prt2 frm txt tl sp tol rd]) (zA [wM g y all kept hist hl slo sav beg prt frm txt tl sp tol rd])) 0 0 (zA [wM g y all kept hist hl slo sav beg prt frm txt tl sp tol rd]) := by
  refine z_entry (cc := cX5_bestExchange) (maxL := 9) (ret := (some .int)) (own := RX5) (by decide) rfl rfl (Nat.le_of_ble_eq_true rfl) [(0, .ref (y 0)), (1, .int (nI k))] rfl ?_
  intro K hKl hKg hnL C hRx
  subst hKl
  subst hKg
  rcases (show k = 0 ∨ k = 1 ∨ k = 2 by omega) with rfl | rfl | rfl
  · skip
    refine z_iload_n C 1 rfl rfl dX5_bestExchange_0 1 rfl ?_
    refine z_i2l C dX5_bestExchange_1 2 rfl ?_
    refine z_lconst C (v := lN 0) rfl dX5_bestExchange_2 3 rfl ?_
    refine z_ldc2 C (v := lN 2) (List.mem_of_getElem? (i := 1) rfl) dX5_bestExchange_3 6 rfl ?_
    refine z_callP C [.long ((nI 0).toInt64), .long (lN 0), .long (lN 2)] [] (tX5_inI K.l K.g (nI 0) 0 2 (by first | omega | assumption) (by first | omega | assumption)) gX5_bestExchange_X5_in rfl rfl rfl hdX5_in ⟨Nat.le_of_ble_eq_true rfl, Nat.le_of_ble_eq_true rfl⟩ ⟨Nat.zero_le _, Nat.zero_le _⟩ rfl rfl (Nat.le_of_ble_eq_true rfl) dX5_bestExchange_6 9 rfl (fun u9 hu9 => ?_)
    show Z K 0 0 [wM K.g y all kept hist hl slo sav beg prt frm txt tl sp tol rd] [(0, .ref (y 0)), (1, .int (nI 0))] 9 [.int (bI (rg (nI 0).toInt (Int.ofNat 0) (Int.ofNat 2)))]
    refine z_ifb_ne C 15 dX5_bestExchange_9 (by decide) 12 rfl (fun c_1 => ?_) (fun c_1 => ?_)
    rotate_left
    · exfalso; rw [rgN_t (by omega) (by omega) (by omega)] at c_1; exact Bool.noConfusion c_1
    refine z_aload_n C 0 rfl rfl dX5_bestExchange_15 16 rfl ?_
    refine z_callV C [] [] (tX5_lateAll K.l K.g y all kept hist hl slo sav beg prt frm txt tl sp tol rd st r n (by first | omega | assumption) (by first | omega | assumption) (by first | omega | assumption) (by first | omega | assumption) (by first | omega | assumption)) gX5_bestExchange_X5_lateAll rfl rfl rfl hdX5_lateAll ⟨Nat.le_of_ble_eq_true rfl, Nat.le_of_ble_eq_true rfl⟩ ⟨Nat.zero_le _, Nat.zero_le _⟩ 0 0 rfl rfl rfl [0] rfl rfl (zlc (N := 1) rfl rfl) [1] rfl (by decide) (fun u : (Nat → Nat) × (Nat → Nat) => match u with | (beg2, prt2) => [wM K.g y all kept hist hl slo sav beg2 prt2 frm txt tl sp tol rd]) (fun _ => rfl) rfl rfl (Nat.le_of_ble_eq_true rfl) dX5_bestExchange_16 19 rfl (fun u9 hu9 => ?_)
    obtain ⟨beg2_2, prt2_3⟩ := u9
    have hls0 := hu9
    have hls0 : LSm st r (st 5) n ≤ 1000000 := hls0
    show Z K 0 0 [wM K.g y all kept hist hl slo sav beg2_2 prt2_3 frm txt tl sp tol rd] [(0, .ref (y 0)), (1, .int (nI 0))] 19 [.int (nI (LSm st r (st 5) n))]
    refine z_istore_n C hnL [1, 2, 0] [(0, .ref (y 0)), (1, .int (nI 0)), (2, .int (nI (LSm st r (st 5) n)))] rfl rfl (Nat.le_of_ble_eq_true rfl) dX5_bestExchange_19 20 rfl ?_
    refine z_bipush C (v := (-6)) rfl dX5_bestExchange_20 22 rfl ?_
    refine z_istore_n C hnL [1, 2, 3, 0] [(0, .ref (y 0)), (1, .int (nI 0)), (2, .int (nI (LSm st r (st 5) n))), (3, .int (-6))] rfl rfl (Nat.le_of_ble_eq_true rfl) dX5_bestExchange_22 23 rfl ?_
    refine z_bipush C (v := (-6)) rfl dX5_bestExchange_23 25 rfl ?_
    refine z_istore C hnL [1, 2, 3, 4, 0] [(0, .ref (y 0)), (1, .int (nI 0)), (2, .int (nI (LSm st r (st 5) n))), (3, .int (-6)), (4, .int (-6))] rfl (Nat.le_of_ble_eq_true rfl) dX5_bestExchange_25 27 rfl ?_
    refine z_iconst C (v := nI 0) rfl dX5_bestExchange_27 28 rfl ?_
    refine z_istore C hnL [1, 2, 3, 4, 5, 0] [(0, .ref (y 0)), (1, .int (nI 0)), (2, .int (nI (LSm st r (st 5) n))), (3, .int (-6)), (4, .int (-6)), (5, .int (nI 0))] rfl (Nat.le_of_ble_eq_true rfl) dX5_bestExchange_28 30 rfl ?_
    have loop30 : ∀ (mu : Nat) (i : Nat) (b : Nat) (o1 : Int32) (o2 : Int32) (al1 : Nat → Nat) (bg1 : Nat → Nat) (pr1 : Nat → Nat), mu = n - i → i ≤ n → Bd al1 st r n → (b, o1, o2) = beO st r n i → b ≤ 1000000 → Z K 0 0 [wM K.g y al1 kept hist hl slo sav bg1 pr1 frm txt tl sp tol rd] [(0, .ref (y 0)), (1, .int (nI 0)), (2, .int (nI b)), (3, .int o1), (4, .int o2), (5, .int (nI i))] 30 [] := by
      refine z_ind (fun mu ih30 => ?_)
      intro i b o1 o2 al1 bg1 pr1 hmu30 hi hB1 hs hbb
      refine z_iload C 5 rfl dX5_bestExchange_30 32 rfl ?_
      refine z_aload_n C 0 rfl rfl dX5_bestExchange_32 33 rfl ?_
      refine z_get C zc5 iX5_bestExchange_X5 0 0 rfl rfl 0 (Nat.le_of_ble_eq_true rfl) (List.mem_of_getElem? (i := 2) rfl) (v := .ref (y 1)) rfl dX5_bestExchange_33 36 rfl ?_
      refine z_bipush C (v := nI 7) rfl dX5_bestExchange_36 38 rfl ?_
      refine z_iald C (f := al1) 0 1 rfl rfl (by omega) (by decide) dX5_bestExchange_38 39 rfl ?_
      refine z_top (show nI (al1 7) = nI n from by rw [hB1.2.1]) ?_
      refine z_icmp_ge C (by omega) (by omega) 145 dX5_bestExchange_39 (by decide) 42 rfl (fun c_4 => ?_) (fun c_4 => ?_)
      · skip
        refine z_iload_n C 3 rfl rfl dX5_bestExchange_145 146 rfl ?_
        refine z_bipush C (v := (-6)) rfl dX5_bestExchange_146 148 rfl ?_
        refine z_icmpI_eq C 155 dX5_bestExchange_148 (by decide) 151 rfl (fun c_5 => ?_) (fun c_5 => ?_)
        · skip
          refine z_iload_n C 3 rfl rfl dX5_bestExchange_155 156 rfl ?_
          refine z_goto C 170 dX5_bestExchange_156 (by decide) ?_
          obtain rfl : i = n := by omega
          exact z_iret C hRx dX5_bestExchange_170 (al1, bg1, pr1) (by rw [show BE st r i 0 = (-6) from by unfold BE; rw [← hs]; exact if_pos (by assumption)]; exact congrArg (fun z => some (Value.int z)) (by simp_all)) hB1 rfl
        · skip
          refine z_iload_n C 1 rfl rfl dX5_bestExchange_151 152 rfl ?_
          refine z_if_ne C (by omega) 159 dX5_bestExchange_152 (by decide) 155 rfl (fun c_6 => ?_) (fun c_6 => ?_)
          · exfalso; omega
          refine z_iload_n C 3 rfl rfl dX5_bestExchange_155 156 rfl ?_
          refine z_goto C 170 dX5_bestExchange_156 (by decide) ?_
          obtain rfl : i = n := by omega
          exact z_iret C hRx dX5_bestExchange_170 (al1, bg1, pr1) (by rw [show BE st r i 0 = o1 from by unfold BE; rw [← hs]; exact if_neg (by assumption)]) hB1 rfl
      · skip
        refine z_iload C 5 rfl dX5_bestExchange_42 44 rfl ?_
        refine z_iconst C (v := nI 1) rfl dX5_bestExchange_44 45 rfl ?_
        refine z_iadd C dX5_bestExchange_45 46 rfl ?_
        refine z_istore C hnL [1, 2, 3, 4, 5, 6, 0] [(0, .ref (y 0)), (1, .int (nI 0)), (2, .int (nI b)), (3, .int o1), (4, .int o2), (5, .int (nI i)), (6, .int (nI (i + 1)))] rfl (Nat.le_of_ble_eq_true rfl) dX5_bestExchange_46 48 rfl ?_
        have loop48 : ∀ (mu : Nat) (j : Nat) (b4 : Nat) (p1 : Int32) (p2 : Int32) (al4 : Nat → Nat) (bg4 : Nat → Nat) (pr4 : Nat → Nat), mu = n - j → j ≤ n → i + 1 ≤ j → Bd al4 st r n → (b4, p1, p2) = beI st r n i (beO st r n i) (j - (i + 1)) → b4 ≤ 1000000 → Z K 0 0 [wM K.g y al4 kept hist hl slo sav bg4 pr4 frm txt tl sp tol rd] [(0, .ref (y 0)), (1, .int (nI 0)), (2, .int (nI b4)), (3, .int p1), (4, .int p2), (5, .int (nI i)), (6, .int (nI j))] 48 [] := by
          refine z_ind (fun mu ih48 => ?_)
          intro j b4 p1 p2 al4 bg4 pr4 hmu48 hj hj2 hB4 hs2 hbb2
          refine z_iload C 6 rfl dX5_bestExchange_48 50 rfl ?_
          refine z_aload_n C 0 rfl rfl dX5_bestExchange_50 51 rfl ?_
          refine z_get C zc5 iX5_bestExchange_X5 0 0 rfl rfl 0 (Nat.le_of_ble_eq_true rfl) (List.mem_of_getElem? (i := 2) rfl) (v := .ref (y 1)) rfl dX5_bestExchange_51 54 rfl ?_
          refine z_bipush C (v := nI 7) rfl dX5_bestExchange_54 56 rfl ?_
          refine z_iald C (f := al4) 0 1 rfl rfl (by omega) (by decide) dX5_bestExchange_56 57 rfl ?_
          refine z_top (show nI (al4 7) = nI n from by rw [hB4.2.1]) ?_
          refine z_icmp_ge C (by omega) (by omega) 139 dX5_bestExchange_57 (by decide) 60 rfl (fun c_7 => ?_) (fun c_7 => ?_)
          · skip
            refine z_iinc C hnL 5 rfl (v := (nI (i + 1))) (nI_1 _) [1, 2, 3, 4, 5, 0, 6] [(0, .ref (y 0)), (1, .int (nI 0)), (2, .int (nI b4)), (3, .int p1), (4, .int p2), (5, .int (nI (i + 1))), (6, .int (nI j))] rfl (Nat.le_of_ble_eq_true rfl) dX5_bestExchange_139 142 rfl ?_
            refine z_goto C 30 dX5_bestExchange_142 (by decide) ?_
            refine z_lv [0, 1, 2, 3, 4, 5] [(0, .ref (y 0)), (1, .int (nI 0)), (2, .int (nI b4)), (3, .int p1), (4, .int p2), (5, .int (nI (i + 1)))] rfl ?_
            exact ih30 _ (by omega) (i + 1) b4 p1 p2 al4 bg4 pr4 rfl (by omega) hB4 (by rw [hs2, show j = n by omega]; rfl) (by omega)
          · skip
            refine z_aload_n C 0 rfl rfl dX5_bestExchange_60 61 rfl ?_
            refine z_iload C 5 rfl dX5_bestExchange_61 63 rfl ?_
            refine z_iload C 6 rfl dX5_bestExchange_63 65 rfl ?_
            refine z_callV C [.int (nI i), .int (nI j)] [] (tX5_exchanges K.l K.g y al4 kept hist hl slo sav bg4 pr4 frm txt tl sp tol rd i j (by first | omega | assumption) (by first | omega | assumption)) gX5_bestExchange_X5_exchanges rfl rfl rfl hdX5_exchanges ⟨Nat.le_of_ble_eq_true rfl, Nat.le_of_ble_eq_true rfl⟩ ⟨Nat.zero_le _, Nat.zero_le _⟩ 0 0 rfl rfl rfl [0] rfl rfl (zlc (N := 1) rfl rfl) [1] rfl (by decide) (fun _ : Unit => [wM K.g y (xch al4 i j 4) kept hist hl slo sav bg4 pr4 frm txt tl sp tol rd]) (fun _ => rfl) rfl rfl (Nat.le_of_ble_eq_true rfl) dX5_bestExchange_65 68 rfl (fun u9 hu9 => ?_)
            show Z K 0 0 [wM K.g y (xch al4 i j 4) kept hist hl slo sav bg4 pr4 frm txt tl sp tol rd] [(0, .ref (y 0)), (1, .int (nI 0)), (2, .int (nI b4)), (3, .int p1), (4, .int p2), (5, .int (nI i)), (6, .int (nI j))] 68 []
            refine z_aload_n C 0 rfl rfl dX5_bestExchange_68 69 rfl ?_
            refine z_callV C [] [] (tX5_lateAll K.l K.g y (xch al4 i j 4) kept hist hl slo sav bg4 pr4 frm txt tl sp tol rd st (fun k => swp (r k) i j) n hn (Bd_xch hB4 (by omega) (by omega) hn) hS (okJ_swp (by omega) (by omega) hJ) (okR_swp (by omega) (by omega) hR)) gX5_bestExchange_X5_lateAll rfl rfl rfl hdX5_lateAll ⟨Nat.le_of_ble_eq_true rfl, Nat.le_of_ble_eq_true rfl⟩ ⟨Nat.zero_le _, Nat.zero_le _⟩ 0 0 rfl rfl rfl [0] rfl rfl (zlc (N := 1) rfl rfl) [1] rfl (by decide) (fun u : (Nat → Nat) × (Nat → Nat) => match u with | (beg2, prt2) => [wM K.g y (xch al4 i j 4) kept hist hl slo sav beg2 prt2 frm txt tl sp tol rd]) (fun _ => rfl) rfl rfl (Nat.le_of_ble_eq_true rfl) dX5_bestExchange_69 72 rfl (fun u9 hu9 => ?_)
            obtain ⟨beg2_8, prt2_9⟩ := u9
            have hls := hu9
            have hls : LSm st (fun k => swp (r k) i j) (st 5) n ≤ 1000000 := hls
            show Z K 0 0 [wM K.g y (xch al4 i j 4) kept hist hl slo sav beg2_8 prt2_9 frm txt tl sp tol rd] [(0, .ref (y 0)), (1, .int (nI 0)), (2, .int (nI b4)), (3, .int p1), (4, .int p2), (5, .int (nI i)), (6, .int (nI j))] 72 [.int (nI (LSm st (fun k => swp (r k) i j) (st 5) n))]
            refine z_istore C hnL [1, 2, 3, 4, 5, 6, 7, 0] [(0, .ref (y 0)), (1, .int (nI 0)), (2, .int (nI b4)), (3, .int p1), (4, .int p2), (5, .int (nI i)), (6, .int (nI j)), (7, .int (nI (LSm st (fun k => swp (r k) i j) (st 5) n)))] rfl (Nat.le_of_ble_eq_true rfl) dX5_bestExchange_72 74 rfl ?_
            refine z_aload_n C 0 rfl rfl dX5_bestExchange_74 75 rfl ?_
            refine z_iload C 5 rfl dX5_bestExchange_75 77 rfl ?_
            refine z_iload C 6 rfl dX5_bestExchange_77 79 rfl ?_
            refine z_callV C [.int (nI i), .int (nI j)] [] (tX5_exchanges K.l K.g y (xch al4 i j 4) kept hist hl slo sav beg2_8 prt2_9 frm txt tl sp tol rd i j (by first | omega | assumption) (by first | omega | assumption)) gX5_bestExchange_X5_exchanges rfl rfl rfl hdX5_exchanges ⟨Nat.le_of_ble_eq_true rfl, Nat.le_of_ble_eq_true rfl⟩ ⟨Nat.zero_le _, Nat.zero_le _⟩ 0 0 rfl rfl rfl [0] rfl rfl (zlc (N := 1) rfl rfl) [1] rfl (by decide) (fun _ : Unit => [wM K.g y (xch (xch al4 i j 4) i j 4) kept hist hl slo sav beg2_8 prt2_9 frm txt tl sp tol rd]) (fun _ => rfl) rfl rfl (Nat.le_of_ble_eq_true rfl) dX5_bestExchange_79 82 rfl (fun u9 hu9 => ?_)
            show Z K 0 0 [wM K.g y (xch (xch al4 i j 4) i j 4) kept hist hl slo sav beg2_8 prt2_9 frm txt tl sp tol rd] [(0, .ref (y 0)), (1, .int (nI 0)), (2, .int (nI b4)), (3, .int p1), (4, .int p2), (5, .int (nI i)), (6, .int (nI j)), (7, .int (nI (LSm st (fun k => swp (r k) i j) (st 5) n)))] 82 []
            refine z_iload C 7 rfl dX5_bestExchange_82 84 rfl ?_
            refine z_iload_n C 2 rfl rfl dX5_bestExchange_84 85 rfl ?_
            refine z_icmp_ge C (by omega) (by omega) 92 dX5_bestExchange_85 (by decide) 88 rfl (fun c_10 => ?_) (fun c_10 => ?_)
            · skip
              refine z_iconst C (v := nI 0) rfl dX5_bestExchange_92 93 rfl ?_
              refine z_istore C hnL [1, 2, 3, 4, 5, 6, 7, 8, 0] [(0, .ref (y 0)), (1, .int (nI 0)), (2, .int (nI b4)), (3, .int p1), (4, .int p2), (5, .int (nI i)), (6, .int (nI j)), (7, .int (nI (LSm st (fun k => swp (r k) i j) (st 5) n))), (8, .int (nI 0))] rfl (Nat.le_of_ble_eq_true rfl) dX5_bestExchange_93 95 rfl ?_
              refine z_iload C 8 rfl dX5_bestExchange_95 97 rfl ?_
              refine z_if_eq C (by omega) 105 dX5_bestExchange_97 (by decide) 100 rfl (fun c_11 => ?_) (fun c_11 => ?_)
              rotate_left
              · exfalso; omega
              refine z_iload_n C 3 rfl rfl dX5_bestExchange_105 106 rfl ?_
              refine z_istore_n C hnL [1, 2, 3, 0, 4, 5, 6, 7, 8] [(0, .ref (y 0)), (1, .int (nI 0)), (2, .int (nI b4)), (3, .int p1), (4, .int p2), (5, .int (nI i)), (6, .int (nI j)), (7, .int (nI (LSm st (fun k => swp (r k) i j) (st 5) n))), (8, .int (nI 0))] rfl rfl (Nat.le_of_ble_eq_true rfl) dX5_bestExchange_106 107 rfl ?_
              refine z_iload C 8 rfl dX5_bestExchange_107 109 rfl ?_
              refine z_if_eq C (by omega) 117 dX5_bestExchange_109 (by decide) 112 rfl (fun c_12 => ?_) (fun c_12 => ?_)
              rotate_left
              · exfalso; omega
              refine z_iload C 4 rfl dX5_bestExchange_117 119 rfl ?_
              refine z_istore C hnL [1, 2, 3, 4, 0, 5, 6, 7, 8] [(0, .ref (y 0)), (1, .int (nI 0)), (2, .int (nI b4)), (3, .int p1), (4, .int p2), (5, .int (nI i)), (6, .int (nI j)), (7, .int (nI (LSm st (fun k => swp (r k) i j) (st 5) n))), (8, .int (nI 0))] rfl (Nat.le_of_ble_eq_true rfl) dX5_bestExchange_119 121 rfl ?_
              refine z_iload C 8 rfl dX5_bestExchange_121 123 rfl ?_
              refine z_if_eq C (by omega) 131 dX5_bestExchange_123 (by decide) 126 rfl (fun c_13 => ?_) (fun c_13 => ?_)
              rotate_left
              · exfalso; omega
              refine z_iload_n C 2 rfl rfl dX5_bestExchange_131 132 rfl ?_
              refine z_istore_n C hnL [1, 2, 0, 3, 4, 5, 6, 7, 8] [(0, .ref (y 0)), (1, .int (nI 0)), (2, .int (nI b4)), (3, .int p1), (4, .int p2), (5, .int (nI i)), (6, .int (nI j)), (7, .int (nI (LSm st (fun k => swp (r k) i j) (st 5) n))), (8, .int (nI 0))] rfl rfl (Nat.le_of_ble_eq_true rfl) dX5_bestExchange_132 133 rfl ?_
              refine z_iinc C hnL 6 rfl (v := (nI (j + 1))) (nI_1 _) [1, 2, 3, 4, 5, 6, 0, 7, 8] [(0, .ref (y 0)), (1, .int (nI 0)), (2, .int (nI b4)), (3, .int p1), (4, .int p2), (5, .int (nI i)), (6, .int (nI (j + 1))), (7, .int (nI (LSm st (fun k => swp (r k) i j) (st 5) n))), (8, .int (nI 0))] rfl (Nat.le_of_ble_eq_true rfl) dX5_bestExchange_133 136 rfl ?_
              refine z_goto C 48 dX5_bestExchange_136 (by decide) ?_
              refine z_lv [0, 1, 2, 3, 4, 5, 6] [(0, .ref (y 0)), (1, .int (nI 0)), (2, .int (nI b4)), (3, .int p1), (4, .int p2), (5, .int (nI i)), (6, .int (nI (j + 1)))] rfl ?_
              exact ih48 _ (by omega) (j + 1) b4 p1 p2 (xch (xch al4 i j 4) i j 4) beg2_8 prt2_9 rfl (by omega) (by omega) (Bd_sw2 hB4 (by omega) (by omega) hn) (by rw [beI_s (by omega), ← hs2]; unfold beS; rw [if_neg (by dsimp only; omega)]) (by omega)
            · skip
              refine z_iconst C (v := nI 1) rfl dX5_bestExchange_88 89 rfl ?_
              refine z_goto C 93 dX5_bestExchange_89 (by decide) ?_
              refine z_istore C hnL [1, 2, 3, 4, 5, 6, 7, 8, 0] [(0, .ref (y 0)), (1, .int (nI 0)), (2, .int (nI b4)), (3, .int p1), (4, .int p2), (5, .int (nI i)), (6, .int (nI j)), (7, .int (nI (LSm st (fun k => swp (r k) i j) (st 5) n))), (8, .int (nI 1))] rfl (Nat.le_of_ble_eq_true rfl) dX5_bestExchange_93 95 rfl ?_
              refine z_iload C 8 rfl dX5_bestExchange_95 97 rfl ?_
              refine z_if_eq C (by omega) 105 dX5_bestExchange_97 (by decide) 100 rfl (fun c_14 => ?_) (fun c_14 => ?_)
              · exfalso; omega
              refine z_iload C 5 rfl dX5_bestExchange_100 102 rfl ?_
              refine z_goto C 106 dX5_bestExchange_102 (by decide) ?_
              refine z_istore_n C hnL [1, 2, 3, 0, 4, 5, 6, 7, 8] [(0, .ref (y 0)), (1, .int (nI 0)), (2, .int (nI b4)), (3, .int (nI i)), (4, .int p2), (5, .int (nI i)), (6, .int (nI j)), (7, .int (nI (LSm st (fun k => swp (r k) i j) (st 5) n))), (8, .int (nI 1))] rfl rfl (Nat.le_of_ble_eq_true rfl) dX5_bestExchange_106 107 rfl ?_
              refine z_iload C 8 rfl dX5_bestExchange_107 109 rfl ?_
              refine z_if_eq C (by omega) 117 dX5_bestExchange_109 (by decide) 112 rfl (fun c_15 => ?_) (fun c_15 => ?_)
              · exfalso; omega
              refine z_iload C 6 rfl dX5_bestExchange_112 114 rfl ?_
              refine z_goto C 119 dX5_bestExchange_114 (by decide) ?_
              refine z_istore C hnL [1, 2, 3, 4, 0, 5, 6, 7, 8] [(0, .ref (y 0)), (1, .int (nI 0)), (2, .int (nI b4)), (3, .int (nI i)), (4, .int (nI j)), (5, .int (nI i)), (6, .int (nI j)), (7, .int (nI (LSm st (fun k => swp (r k) i j) (st 5) n))), (8, .int (nI 1))] rfl (Nat.le_of_ble_eq_true rfl) dX5_bestExchange_119 121 rfl ?_
              refine z_iload C 8 rfl dX5_bestExchange_121 123 rfl ?_
              refine z_if_eq C (by omega) 131 dX5_bestExchange_123 (by decide) 126 rfl (fun c_16 => ?_) (fun c_16 => ?_)
              · exfalso; omega
              refine z_iload C 7 rfl dX5_bestExchange_126 128 rfl ?_
              refine z_goto C 132 dX5_bestExchange_128 (by decide) ?_
              refine z_istore_n C hnL [1, 2, 0, 3, 4, 5, 6, 7, 8] [(0, .ref (y 0)), (1, .int (nI 0)), (2, .int (nI (LSm st (fun k => swp (r k) i j) (st 5) n))), (3, .int (nI i)), (4, .int (nI j)), (5, .int (nI i)), (6, .int (nI j)), (7, .int (nI (LSm st (fun k => swp (r k) i j) (st 5) n))), (8, .int (nI 1))] rfl rfl (Nat.le_of_ble_eq_true rfl) dX5_bestExchange_132 133 rfl ?_
              refine z_iinc C hnL 6 rfl (v := (nI (j + 1))) (nI_1 _) [1, 2, 3, 4, 5, 6, 0, 7, 8] [(0, .ref (y 0)), (1, .int (nI 0)), (2, .int (nI (LSm st (fun k => swp (r k) i j) (st 5) n))), (3, .int (nI i)), (4, .int (nI j)), (5, .int (nI i)), (6, .int (nI (j + 1))), (7, .int (nI (LSm st (fun k => swp (r k) i j) (st 5) n))), (8, .int (nI 1))] rfl (Nat.le_of_ble_eq_true rfl) dX5_bestExchange_133 136 rfl ?_
              refine z_goto C 48 dX5_bestExchange_136 (by decide) ?_
              refine z_lv [0, 1, 2, 3, 4, 5, 6] [(0, .ref (y 0)), (1, .int (nI 0)), (2, .int (nI (LSm st (fun k => swp (r k) i j) (st 5) n))), (3, .int (nI i)), (4, .int (nI j)), (5, .int (nI i)), (6, .int (nI (j + 1)))] rfl ?_
              exact ih48 _ (by omega) (j + 1) (LSm st (fun k => swp (r k) i j) (st 5) n) (nI i) (nI j) (xch (xch al4 i j 4) i j 4) beg2_8 prt2_9 rfl (by omega) (by omega) (Bd_sw2 hB4 (by omega) (by omega) hn) (by rw [beI_s (by omega), ← hs2]; unfold beS; rw [if_pos (by dsimp only; omega)]) (by omega)
        exact loop48 _ (i + 1) b o1 o2 al1 bg1 pr1 rfl (by omega) (Nat.le_refl _) hB1 (by rw [Nat.sub_self, hs]; rfl) (by omega)
    exact loop30 _ 0 (LSm st r (st 5) n) (-6) (-6) all beg2_2 prt2_3 rfl (by omega) hB rfl (by omega)
  · skip
    refine z_iload_n C 1 rfl rfl dX5_bestExchange_0 1 rfl ?_
    refine z_i2l C dX5_bestExchange_1 2 rfl ?_
    refine z_lconst C (v := lN 0) rfl dX5_bestExchange_2 3 rfl ?_
    refine z_ldc2 C (v := lN 2) (List.mem_of_getElem? (i := 1) rfl) dX5_bestExchange_3 6 rfl ?_
    refine z_callP C [.long ((nI 1).toInt64), .long (lN 0), .long (lN 2)] [] (tX5_inI K.l K.g (nI 1) 0 2 (by first | omega | assumption) (by first | omega | assumption)) gX5_bestExchange_X5_in rfl rfl rfl hdX5_in ⟨Nat.le_of_ble_eq_true rfl, Nat.le_of_ble_eq_true rfl⟩ ⟨Nat.zero_le _, Nat.zero_le _⟩ rfl rfl (Nat.le_of_ble_eq_true rfl) dX5_bestExchange_6 9 rfl (fun u9 hu9 => ?_)
    show Z K 0 0 [wM K.g y all kept hist hl slo sav beg prt frm txt tl sp tol rd] [(0, .ref (y 0)), (1, .int (nI 1))] 9 [.int (bI (rg (nI 1).toInt (Int.ofNat 0) (Int.ofNat 2)))]
    refine z_ifb_ne C 15 dX5_bestExchange_9 (by decide) 12 rfl (fun c_17 => ?_) (fun c_17 => ?_)
    rotate_left
    · exfalso; rw [rgN_t (by omega) (by omega) (by omega)] at c_17; exact Bool.noConfusion c_17
    refine z_aload_n C 0 rfl rfl dX5_bestExchange_15 16 rfl ?_
    refine z_callV C [] [] (tX5_lateAll K.l K.g y all kept hist hl slo sav beg prt frm txt tl sp tol rd st r n (by first | omega | assumption) (by first | omega | assumption) (by first | omega | assumption) (by first | omega | assumption) (by first | omega | assumption)) gX5_bestExchange_X5_lateAll rfl rfl rfl hdX5_lateAll ⟨Nat.le_of_ble_eq_true rfl, Nat.le_of_ble_eq_true rfl⟩ ⟨Nat.zero_le _, Nat.zero_le _⟩ 0 0 rfl rfl rfl [0] rfl rfl (zlc (N := 1) rfl rfl) [1] rfl (by decide) (fun u : (Nat → Nat) × (Nat → Nat) => match u with | (beg2, prt2) => [wM K.g y all kept hist hl slo sav beg2 prt2 frm txt tl sp tol rd]) (fun _ => rfl) rfl rfl (Nat.le_of_ble_eq_true rfl) dX5_bestExchange_16 19 rfl (fun u9 hu9 => ?_)
    obtain ⟨beg2_18, prt2_19⟩ := u9
    have hls0 := hu9
    have hls0 : LSm st r (st 5) n ≤ 1000000 := hls0
    show Z K 0 0 [wM K.g y all kept hist hl slo sav beg2_18 prt2_19 frm txt tl sp tol rd] [(0, .ref (y 0)), (1, .int (nI 1))] 19 [.int (nI (LSm st r (st 5) n))]
    refine z_istore_n C hnL [1, 2, 0] [(0, .ref (y 0)), (1, .int (nI 1)), (2, .int (nI (LSm st r (st 5) n)))] rfl rfl (Nat.le_of_ble_eq_true rfl) dX5_bestExchange_19 20 rfl ?_
    refine z_bipush C (v := (-6)) rfl dX5_bestExchange_20 22 rfl ?_
    refine z_istore_n C hnL [1, 2, 3, 0] [(0, .ref (y 0)), (1, .int (nI 1)), (2, .int (nI (LSm st r (st 5) n))), (3, .int (-6))] rfl rfl (Nat.le_of_ble_eq_true rfl) dX5_bestExchange_22 23 rfl ?_
    refine z_bipush C (v := (-6)) rfl dX5_bestExchange_23 25 rfl ?_
    refine z_istore C hnL [1, 2, 3, 4, 0] [(0, .ref (y 0)), (1, .int (nI 1)), (2, .int (nI (LSm st r (st 5) n))), (3, .int (-6)), (4, .int (-6))] rfl (Nat.le_of_ble_eq_true rfl) dX5_bestExchange_25 27 rfl ?_
    refine z_iconst C (v := nI 0) rfl dX5_bestExchange_27 28 rfl ?_
    refine z_istore C hnL [1, 2, 3, 4, 5, 0] [(0, .ref (y 0)), (1, .int (nI 1)), (2, .int (nI (LSm st r (st 5) n))), (3, .int (-6)), (4, .int (-6)), (5, .int (nI 0))] rfl (Nat.le_of_ble_eq_true rfl) dX5_bestExchange_28 30 rfl ?_
    have loop30 : ∀ (mu : Nat) (i : Nat) (b : Nat) (o1 : Int32) (o2 : Int32) (al1 : Nat → Nat) (bg1 : Nat → Nat) (pr1 : Nat → Nat), mu = n - i → i ≤ n → Bd al1 st r n → (b, o1, o2) = beO st r n i → b ≤ 1000000 → Z K 0 0 [wM K.g y al1 kept hist hl slo sav bg1 pr1 frm txt tl sp tol rd] [(0, .ref (y 0)), (1, .int (nI 1)), (2, .int (nI b)), (3, .int o1), (4, .int o2), (5, .int (nI i))] 30 [] := by
      refine z_ind (fun mu ih30 => ?_)
      intro i b o1 o2 al1 bg1 pr1 hmu30 hi hB1 hs hbb
      refine z_iload C 5 rfl dX5_bestExchange_30 32 rfl ?_
      refine z_aload_n C 0 rfl rfl dX5_bestExchange_32 33 rfl ?_
      refine z_get C zc5 iX5_bestExchange_X5 0 0 rfl rfl 0 (Nat.le_of_ble_eq_true rfl) (List.mem_of_getElem? (i := 2) rfl) (v := .ref (y 1)) rfl dX5_bestExchange_33 36 rfl ?_
      refine z_bipush C (v := nI 7) rfl dX5_bestExchange_36 38 rfl ?_
      refine z_iald C (f := al1) 0 1 rfl rfl (by omega) (by decide) dX5_bestExchange_38 39 rfl ?_
      refine z_top (show nI (al1 7) = nI n from by rw [hB1.2.1]) ?_
      refine z_icmp_ge C (by omega) (by omega) 145 dX5_bestExchange_39 (by decide) 42 rfl (fun c_20 => ?_) (fun c_20 => ?_)
      · skip
        refine z_iload_n C 3 rfl rfl dX5_bestExchange_145 146 rfl ?_
        refine z_bipush C (v := (-6)) rfl dX5_bestExchange_146 148 rfl ?_
        refine z_icmpI_eq C 155 dX5_bestExchange_148 (by decide) 151 rfl (fun c_21 => ?_) (fun c_21 => ?_)
        · skip
          refine z_iload_n C 3 rfl rfl dX5_bestExchange_155 156 rfl ?_
          refine z_goto C 170 dX5_bestExchange_156 (by decide) ?_
          obtain rfl : i = n := by omega
          exact z_iret C hRx dX5_bestExchange_170 (al1, bg1, pr1) (by rw [show BE st r i 1 = (-6) from by unfold BE; rw [← hs]; exact if_pos (by assumption)]; exact congrArg (fun z => some (Value.int z)) (by simp_all)) hB1 rfl
        · skip
          refine z_iload_n C 1 rfl rfl dX5_bestExchange_151 152 rfl ?_
          refine z_if_ne C (by omega) 159 dX5_bestExchange_152 (by decide) 155 rfl (fun c_22 => ?_) (fun c_22 => ?_)
          rotate_left
          · exfalso; omega
          refine z_iload_n C 1 rfl rfl dX5_bestExchange_159 160 rfl ?_
          refine z_iconst C (v := nI 1) rfl dX5_bestExchange_160 161 rfl ?_
          refine z_icmp_ne C (by omega) (by omega) 169 dX5_bestExchange_161 (by decide) 164 rfl (fun c_23 => ?_) (fun c_23 => ?_)
          · exfalso; omega
          refine z_iload C 4 rfl dX5_bestExchange_164 166 rfl ?_
          refine z_goto C 170 dX5_bestExchange_166 (by decide) ?_
          obtain rfl : i = n := by omega
          exact z_iret C hRx dX5_bestExchange_170 (al1, bg1, pr1) (by rw [show BE st r i 1 = o2 from by unfold BE; rw [← hs]; exact if_neg (by assumption)]) hB1 rfl
      · skip
        refine z_iload C 5 rfl dX5_bestExchange_42 44 rfl ?_
        refine z_iconst C (v := nI 1) rfl dX5_bestExchange_44 45 rfl ?_
        refine z_iadd C dX5_bestExchange_45 46 rfl ?_
        refine z_istore C hnL [1, 2, 3, 4, 5, 6, 0] [(0, .ref (y 0)), (1, .int (nI 1)), (2, .int (nI b)), (3, .int o1), (4, .int o2), (5, .int (nI i)), (6, .int (nI (i + 1)))] rfl (Nat.le_of_ble_eq_true rfl) dX5_bestExchange_46 48 rfl ?_
        have loop48 : ∀ (mu : Nat) (j : Nat) (b4 : Nat) (p1 : Int32) (p2 : Int32) (al4 : Nat → Nat) (bg4 : Nat → Nat) (pr4 : Nat → Nat), mu = n - j → j ≤ n → i + 1 ≤ j → Bd al4 st r n → (b4, p1, p2) = beI st r n i (beO st r n i) (j - (i + 1)) → b4 ≤ 1000000 → Z K 0 0 [wM K.g y al4 kept hist hl slo sav bg4 pr4 frm txt tl sp tol rd] [(0, .ref (y 0)), (1, .int (nI 1)), (2, .int (nI b4)), (3, .int p1), (4, .int p2), (5, .int (nI i)), (6, .int (nI j))] 48 [] := by
          refine z_ind (fun mu ih48 => ?_)
          intro j b4 p1 p2 al4 bg4 pr4 hmu48 hj hj2 hB4 hs2 hbb2
          refine z_iload C 6 rfl dX5_bestExchange_48 50 rfl ?_
          refine z_aload_n C 0 rfl rfl dX5_bestExchange_50 51 rfl ?_
          refine z_get C zc5 iX5_bestExchange_X5 0 0 rfl rfl 0 (Nat.le_of_ble_eq_true rfl) (List.mem_of_getElem? (i := 2) rfl) (v := .ref (y 1)) rfl dX5_bestExchange_51 54 rfl ?_
          refine z_bipush C (v := nI 7) rfl dX5_bestExchange_54 56 rfl ?_
          refine z_iald C (f := al4) 0 1 rfl rfl (by omega) (by decide) dX5_bestExchange_56 57 rfl ?_
          refine z_top (show nI (al4 7) = nI n from by rw [hB4.2.1]) ?_
          refine z_icmp_ge C (by omega) (by omega) 139 dX5_bestExchange_57 (by decide) 60 rfl (fun c_24 => ?_) (fun c_24 => ?_)
          · skip
            refine z_iinc C hnL 5 rfl (v := (nI (i + 1))) (nI_1 _) [1, 2, 3, 4, 5, 0, 6] [(0, .ref (y 0)), (1, .int (nI 1)), (2, .int (nI b4)), (3, .int p1), (4, .int p2), (5, .int (nI (i + 1))), (6, .int (nI j))] rfl (Nat.le_of_ble_eq_true rfl) dX5_bestExchange_139 142 rfl ?_
            refine z_goto C 30 dX5_bestExchange_142 (by decide) ?_
            refine z_lv [0, 1, 2, 3, 4, 5] [(0, .ref (y 0)), (1, .int (nI 1)), (2, .int (nI b4)), (3, .int p1), (4, .int p2), (5, .int (nI (i + 1)))] rfl ?_
            exact ih30 _ (by omega) (i + 1) b4 p1 p2 al4 bg4 pr4 rfl (by omega) hB4 (by rw [hs2, show j = n by omega]; rfl) (by omega)
          · skip
            refine z_aload_n C 0 rfl rfl dX5_bestExchange_60 61 rfl ?_
            refine z_iload C 5 rfl dX5_bestExchange_61 63 rfl ?_
            refine z_iload C 6 rfl dX5_bestExchange_63 65 rfl ?_
            refine z_callV C [.int (nI i), .int (nI j)] [] (tX5_exchanges K.l K.g y al4 kept hist hl slo sav bg4 pr4 frm txt tl sp tol rd i j (by first | omega | assumption) (by first | omega | assumption)) gX5_bestExchange_X5_exchanges rfl rfl rfl hdX5_exchanges ⟨Nat.le_of_ble_eq_true rfl, Nat.le_of_ble_eq_true rfl⟩ ⟨Nat.zero_le _, Nat.zero_le _⟩ 0 0 rfl rfl rfl [0] rfl rfl (zlc (N := 1) rfl rfl) [1] rfl (by decide) (fun _ : Unit => [wM K.g y (xch al4 i j 4) kept hist hl slo sav bg4 pr4 frm txt tl sp tol rd]) (fun _ => rfl) rfl rfl (Nat.le_of_ble_eq_true rfl) dX5_bestExchange_65 68 rfl (fun u9 hu9 => ?_)
            show Z K 0 0 [wM K.g y (xch al4 i j 4) kept hist hl slo sav bg4 pr4 frm txt tl sp tol rd] [(0, .ref (y 0)), (1, .int (nI 1)), (2, .int (nI b4)), (3, .int p1), (4, .int p2), (5, .int (nI i)), (6, .int (nI j))] 68 []
            refine z_aload_n C 0 rfl rfl dX5_bestExchange_68 69 rfl ?_
            refine z_callV C [] [] (tX5_lateAll K.l K.g y (xch al4 i j 4) kept hist hl slo sav bg4 pr4 frm txt tl sp tol rd st (fun k => swp (r k) i j) n hn (Bd_xch hB4 (by omega) (by omega) hn) hS (okJ_swp (by omega) (by omega) hJ) (okR_swp (by omega) (by omega) hR)) gX5_bestExchange_X5_lateAll rfl rfl rfl hdX5_lateAll ⟨Nat.le_of_ble_eq_true rfl, Nat.le_of_ble_eq_true rfl⟩ ⟨Nat.zero_le _, Nat.zero_le _⟩ 0 0 rfl rfl rfl [0] rfl rfl (zlc (N := 1) rfl rfl) [1] rfl (by decide) (fun u : (Nat → Nat) × (Nat → Nat) => match u with | (beg2, prt2) => [wM K.g y (xch al4 i j 4) kept hist hl slo sav beg2 prt2 frm txt tl sp tol rd]) (fun _ => rfl) rfl rfl (Nat.le_of_ble_eq_true rfl) dX5_bestExchange_69 72 rfl (fun u9 hu9 => ?_)
            obtain ⟨beg2_25, prt2_26⟩ := u9
            have hls := hu9
            have hls : LSm st (fun k => swp (r k) i j) (st 5) n ≤ 1000000 := hls
            show Z K 0 0 [wM K.g y (xch al4 i j 4) kept hist hl slo sav beg2_25 prt2_26 frm txt tl sp tol rd] [(0, .ref (y 0)), (1, .int (nI 1)), (2, .int (nI b4)), (3, .int p1), (4, .int p2), (5, .int (nI i)), (6, .int (nI j))] 72 [.int (nI (LSm st (fun k => swp (r k) i j) (st 5) n))]
            refine z_istore C hnL [1, 2, 3, 4, 5, 6, 7, 0] [(0, .ref (y 0)), (1, .int (nI 1)), (2, .int (nI b4)), (3, .int p1), (4, .int p2), (5, .int (nI i)), (6, .int (nI j)), (7, .int (nI (LSm st (fun k => swp (r k) i j) (st 5) n)))] rfl (Nat.le_of_ble_eq_true rfl) dX5_bestExchange_72 74 rfl ?_
            refine z_aload_n C 0 rfl rfl dX5_bestExchange_74 75 rfl ?_
            refine z_iload C 5 rfl dX5_bestExchange_75 77 rfl ?_
            refine z_iload C 6 rfl dX5_bestExchange_77 79 rfl ?_
            refine z_callV C [.int (nI i), .int (nI j)] [] (tX5_exchanges K.l K.g y (xch al4 i j 4) kept hist hl slo sav beg2_25 prt2_26 frm txt tl sp tol rd i j (by first | omega | assumption) (by first | omega | assumption)) gX5_bestExchange_X5_exchanges rfl rfl rfl hdX5_exchanges ⟨Nat.le_of_ble_eq_true rfl, Nat.le_of_ble_eq_true rfl⟩ ⟨Nat.zero_le _, Nat.zero_le _⟩ 0 0 rfl rfl rfl [0] rfl rfl (zlc (N := 1) rfl rfl) [1] rfl (by decide) (fun _ : Unit => [wM K.g y (xch (xch al4 i j 4) i j 4) kept hist hl slo sav beg2_25 prt2_26 frm txt tl sp tol rd]) (fun _ => rfl) rfl rfl (Nat.le_of_ble_eq_true rfl) dX5_bestExchange_79 82 rfl (fun u9 hu9 => ?_)
            show Z K 0 0 [wM K.g y (xch (xch al4 i j 4) i j 4) kept hist hl slo sav beg2_25 prt2_26 frm txt tl sp tol rd] [(0, .ref (y 0)), (1, .int (nI 1)), (2, .int (nI b4)), (3, .int p1), (4, .int p2), (5, .int (nI i)), (6, .int (nI j)), (7, .int (nI (LSm st (fun k => swp (r k) i j) (st 5) n)))] 82 []
            refine z_iload C 7 rfl dX5_bestExchange_82 84 rfl ?_
            refine z_iload_n C 2 rfl rfl dX5_bestExchange_84 85 rfl ?_
            refine z_icmp_ge C (by omega) (by omega) 92 dX5_bestExchange_85 (by decide) 88 rfl (fun c_27 => ?_) (fun c_27 => ?_)
            · skip
              refine z_iconst C (v := nI 0) rfl dX5_bestExchange_92 93 rfl ?_
              refine z_istore C hnL [1, 2, 3, 4, 5, 6, 7, 8, 0] [(0, .ref (y 0)), (1, .int (nI 1)), (2, .int (nI b4)), (3, .int p1), (4, .int p2), (5, .int (nI i)), (6, .int (nI j)), (7, .int (nI (LSm st (fun k => swp (r k) i j) (st 5) n))), (8, .int (nI 0))] rfl (Nat.le_of_ble_eq_true rfl) dX5_bestExchange_93 95 rfl ?_
              refine z_iload C 8 rfl dX5_bestExchange_95 97 rfl ?_
              refine z_if_eq C (by omega) 105 dX5_bestExchange_97 (by decide) 100 rfl (fun c_28 => ?_) (fun c_28 => ?_)
              rotate_left
              · exfalso; omega
              refine z_iload_n C 3 rfl rfl dX5_bestExchange_105 106 rfl ?_
              refine z_istore_n C hnL [1, 2, 3, 0, 4, 5, 6, 7, 8] [(0, .ref (y 0)), (1, .int (nI 1)), (2, .int (nI b4)), (3, .int p1), (4, .int p2), (5, .int (nI i)), (6, .int (nI j)), (7, .int (nI (LSm st (fun k => swp (r k) i j) (st 5) n))), (8, .int (nI 0))] rfl rfl (Nat.le_of_ble_eq_true rfl) dX5_bestExchange_106 107 rfl ?_
              refine z_iload C 8 rfl dX5_bestExchange_107 109 rfl ?_
              refine z_if_eq C (by omega) 117 dX5_bestExchange_109 (by decide) 112 rfl (fun c_29 => ?_) (fun c_29 => ?_)
              rotate_left
              · exfalso; omega
              refine z_iload C 4 rfl dX5_bestExchange_117 119 rfl ?_
              refine z_istore C hnL [1, 2, 3, 4, 0, 5, 6, 7, 8] [(0, .ref (y 0)), (1, .int (nI 1)), (2, .int (nI b4)), (3, .int p1), (4, .int p2), (5, .int (nI i)), (6, .int (nI j)), (7, .int (nI (LSm st (fun k => swp (r k) i j) (st 5) n))), (8, .int (nI 0))] rfl (Nat.le_of_ble_eq_true rfl) dX5_bestExchange_119 121 rfl ?_
              refine z_iload C 8 rfl dX5_bestExchange_121 123 rfl ?_
              refine z_if_eq C (by omega) 131 dX5_bestExchange_123 (by decide) 126 rfl (fun c_30 => ?_) (fun c_30 => ?_)
              rotate_left
              · exfalso; omega
              refine z_iload_n C 2 rfl rfl dX5_bestExchange_131 132 rfl ?_
              refine z_istore_n C hnL [1, 2, 0, 3, 4, 5, 6, 7, 8] [(0, .ref (y 0)), (1, .int (nI 1)), (2, .int (nI b4)), (3, .int p1), (4, .int p2), (5, .int (nI i)), (6, .int (nI j)), (7, .int (nI (LSm st (fun k => swp (r k) i j) (st 5) n))), (8, .int (nI 0))] rfl rfl (Nat.le_of_ble_eq_true rfl) dX5_bestExchange_132 133 rfl ?_
              refine z_iinc C hnL 6 rfl (v := (nI (j + 1))) (nI_1 _) [1, 2, 3, 4, 5, 6, 0, 7, 8] [(0, .ref (y 0)), (1, .int (nI 1)), (2, .int (nI b4)), (3, .int p1), (4, .int p2), (5, .int (nI i)), (6, .int (nI (j + 1))), (7, .int (nI (LSm st (fun k => swp (r k) i j) (st 5) n))), (8, .int (nI 0))] rfl (Nat.le_of_ble_eq_true rfl) dX5_bestExchange_133 136 rfl ?_
              refine z_goto C 48 dX5_bestExchange_136 (by decide) ?_
              refine z_lv [0, 1, 2, 3, 4, 5, 6] [(0, .ref (y 0)), (1, .int (nI 1)), (2, .int (nI b4)), (3, .int p1), (4, .int p2), (5, .int (nI i)), (6, .int (nI (j + 1)))] rfl ?_
              exact ih48 _ (by omega) (j + 1) b4 p1 p2 (xch (xch al4 i j 4) i j 4) beg2_25 prt2_26 rfl (by omega) (by omega) (Bd_sw2 hB4 (by omega) (by omega) hn) (by rw [beI_s (by omega), ← hs2]; unfold beS; rw [if_neg (by dsimp only; omega)]) (by omega)
            · skip
              refine z_iconst C (v := nI 1) rfl dX5_bestExchange_88 89 rfl ?_
              refine z_goto C 93 dX5_bestExchange_89 (by decide) ?_
              refine z_istore C hnL [1, 2, 3, 4, 5, 6, 7, 8, 0] [(0, .ref (y 0)), (1, .int (nI 1)), (2, .int (nI b4)), (3, .int p1), (4, .int p2), (5, .int (nI i)), (6, .int (nI j)), (7, .int (nI (LSm st (fun k => swp (r k) i j) (st 5) n))), (8, .int (nI 1))] rfl (Nat.le_of_ble_eq_true rfl) dX5_bestExchange_93 95 rfl ?_
              refine z_iload C 8 rfl dX5_bestExchange_95 97 rfl ?_
              refine z_if_eq C (by omega) 105 dX5_bestExchange_97 (by decide) 100 rfl (fun c_31 => ?_) (fun c_31 => ?_)
              · exfalso; omega
              refine z_iload C 5 rfl dX5_bestExchange_100 102 rfl ?_
              refine z_goto C 106 dX5_bestExchange_102 (by decide) ?_
              refine z_istore_n C hnL [1, 2, 3, 0, 4, 5, 6, 7, 8] [(0, .ref (y 0)), (1, .int (nI 1)), (2, .int (nI b4)), (3, .int (nI i)), (4, .int p2), (5, .int (nI i)), (6, .int (nI j)), (7, .int (nI (LSm st (fun k => swp (r k) i j) (st 5) n))), (8, .int (nI 1))] rfl rfl (Nat.le_of_ble_eq_true rfl) dX5_bestExchange_106 107 rfl ?_
              refine z_iload C 8 rfl dX5_bestExchange_107 109 rfl ?_
              refine z_if_eq C (by omega) 117 dX5_bestExchange_109 (by decide) 112 rfl (fun c_32 => ?_) (fun c_32 => ?_)
              · exfalso; omega
              refine z_iload C 6 rfl dX5_bestExchange_112 114 rfl ?_
              refine z_goto C 119 dX5_bestExchange_114 (by decide) ?_
              refine z_istore C hnL [1, 2, 3, 4, 0, 5, 6, 7, 8] [(0, .ref (y 0)), (1, .int (nI 1)), (2, .int (nI b4)), (3, .int (nI i)), (4, .int (nI j)), (5, .int (nI i)), (6, .int (nI j)), (7, .int (nI (LSm st (fun k => swp (r k) i j) (st 5) n))), (8, .int (nI 1))] rfl (Nat.le_of_ble_eq_true rfl) dX5_bestExchange_119 121 rfl ?_
              refine z_iload C 8 rfl dX5_bestExchange_121 123 rfl ?_
              refine z_if_eq C (by omega) 131 dX5_bestExchange_123 (by decide) 126 rfl (fun c_33 => ?_) (fun c_33 => ?_)
              · exfalso; omega
              refine z_iload C 7 rfl dX5_bestExchange_126 128 rfl ?_
              refine z_goto C 132 dX5_bestExchange_128 (by decide) ?_
              refine z_istore_n C hnL [1, 2, 0, 3, 4, 5, 6, 7, 8] [(0, .ref (y 0)), (1, .int (nI 1)), (2, .int (nI (LSm st (fun k => swp (r k) i j) (st 5) n))), (3, .int (nI i)), (4, .int (nI j)), (5, .int (nI i)), (6, .int (nI j)), (7, .int (nI (LSm st (fun k => swp (r k) i j) (st 5) n))), (8, .int (nI 1))] rfl rfl (Nat.le_of_ble_eq_true rfl) dX5_bestExchange_132 133 rfl ?_
              refine z_iinc C hnL 6 rfl (v := (nI (j + 1))) (nI_1 _) [1, 2, 3, 4, 5, 6, 0, 7, 8] [(0, .ref (y 0)), (1, .int (nI 1)), (2, .int (nI (LSm st (fun k => swp (r k) i j) (st 5) n))), (3, .int (nI i)), (4, .int (nI j)), (5, .int (nI i)), (6, .int (nI (j + 1))), (7, .int (nI (LSm st (fun k => swp (r k) i j) (st 5) n))), (8, .int (nI 1))] rfl (Nat.le_of_ble_eq_true rfl) dX5_bestExchange_133 136 rfl ?_
              refine z_goto C 48 dX5_bestExchange_136 (by decide) ?_
              refine z_lv [0, 1, 2, 3, 4, 5, 6] [(0, .ref (y 0)), (1, .int (nI 1)), (2, .int (nI (LSm st (fun k => swp (r k) i j) (st 5) n))), (3, .int (nI i)), (4, .int (nI j)), (5, .int (nI i)), (6, .int (nI (j + 1)))] rfl ?_
              exact ih48 _ (by omega) (j + 1) (LSm st (fun k => swp (r k) i j) (st 5) n) (nI i) (nI j) (xch (xch al4 i j 4) i j 4) beg2_25 prt2_26 rfl (by omega) (by omega) (Bd_sw2 hB4 (by omega) (by omega) hn) (by rw [beI_s (by omega), ← hs2]; unfold beS; rw [if_pos (by dsimp only; omega)]) (by omega)
        exact loop48 _ (i + 1) b o1 o2 al1 bg1 pr1 rfl (by omega) (Nat.le_refl _) hB1 (by rw [Nat.sub_self, hs]; rfl) (by omega)
    exact loop30 _ 0 (LSm st r (st 5) n) (-6) (-6) all beg2_18 prt2_19 rfl (by omega) hB rfl (by omega)
  · skip
    refine z_iload_n C 1 rfl rfl dX5_bestExchange_0 1 rfl ?_
    refine z_i2l C dX5_bestExchange_1 2 rfl ?_
    refine z_lconst C (v := lN 0) rfl dX5_bestExchange_2 3 rfl ?_
    refine z_ldc2 C (v := lN 2) (List.mem_of_getElem? (i := 1) rfl) dX5_bestExchange_3 6 rfl ?_
    refine z_callP C [.long ((nI 2).toInt64), .long (lN 0), .long (lN 2)] [] (tX5_inI K.l K.g (nI 2) 0 2 (by first | omega | assumption) (by first | omega | assumption)) gX5_bestExchange_X5_in rfl rfl rfl hdX5_in ⟨Nat.le_of_ble_eq_true rfl, Nat.le_of_ble_eq_true rfl⟩ ⟨Nat.zero_le _, Nat.zero_le _⟩ rfl rfl (Nat.le_of_ble_eq_true rfl) dX5_bestExchange_6 9 rfl (fun u9 hu9 => ?_)
    show Z K 0 0 [wM K.g y all kept hist hl slo sav beg prt frm txt tl sp tol rd] [(0, .ref (y 0)), (1, .int (nI 2))] 9 [.int (bI (rg (nI 2).toInt (Int.ofNat 0) (Int.ofNat 2)))]
    refine z_ifb_ne C 15 dX5_bestExchange_9 (by decide) 12 rfl (fun c_34 => ?_) (fun c_34 => ?_)
    rotate_left
    · exfalso; rw [rgN_t (by omega) (by omega) (by omega)] at c_34; exact Bool.noConfusion c_34
    refine z_aload_n C 0 rfl rfl dX5_bestExchange_15 16 rfl ?_
    refine z_callV C [] [] (tX5_lateAll K.l K.g y all kept hist hl slo sav beg prt frm txt tl sp tol rd st r n (by first | omega | assumption) (by first | omega | assumption) (by first | omega | assumption) (by first | omega | assumption) (by first | omega | assumption)) gX5_bestExchange_X5_lateAll rfl rfl rfl hdX5_lateAll ⟨Nat.le_of_ble_eq_true rfl, Nat.le_of_ble_eq_true rfl⟩ ⟨Nat.zero_le _, Nat.zero_le _⟩ 0 0 rfl rfl rfl [0] rfl rfl (zlc (N := 1) rfl rfl) [1] rfl (by decide) (fun u : (Nat → Nat) × (Nat → Nat) => match u with | (beg2, prt2) => [wM K.g y all kept hist hl slo sav beg2 prt2 frm txt tl sp tol rd]) (fun _ => rfl) rfl rfl (Nat.le_of_ble_eq_true rfl) dX5_bestExchange_16 19 rfl (fun u9 hu9 => ?_)
    obtain ⟨beg2_35, prt2_36⟩ := u9
    have hls0 := hu9
    have hls0 : LSm st r (st 5) n ≤ 1000000 := hls0
    show Z K 0 0 [wM K.g y all kept hist hl slo sav beg2_35 prt2_36 frm txt tl sp tol rd] [(0, .ref (y 0)), (1, .int (nI 2))] 19 [.int (nI (LSm st r (st 5) n))]
    refine z_istore_n C hnL [1, 2, 0] [(0, .ref (y 0)), (1, .int (nI 2)), (2, .int (nI (LSm st r (st 5) n)))] rfl rfl (Nat.le_of_ble_eq_true rfl) dX5_bestExchange_19 20 rfl ?_
    refine z_bipush C (v := (-6)) rfl dX5_bestExchange_20 22 rfl ?_
    refine z_istore_n C hnL [1, 2, 3, 0] [(0, .ref (y 0)), (1, .int (nI 2)), (2, .int (nI (LSm st r (st 5) n))), (3, .int (-6))] rfl rfl (Nat.le_of_ble_eq_true rfl) dX5_bestExchange_22 23 rfl ?_
    refine z_bipush C (v := (-6)) rfl dX5_bestExchange_23 25 rfl ?_
    refine z_istore C hnL [1, 2, 3, 4, 0] [(0, .ref (y 0)), (1, .int (nI 2)), (2, .int (nI (LSm st r (st 5) n))), (3, .int (-6)), (4, .int (-6))] rfl (Nat.le_of_ble_eq_true rfl) dX5_bestExchange_25 27 rfl ?_
    refine z_iconst C (v := nI 0) rfl dX5_bestExchange_27 28 rfl ?_
    refine z_istore C hnL [1, 2, 3, 4, 5, 0] [(0, .ref (y 0)), (1, .int (nI 2)), (2, .int (nI (LSm st r (st 5) n))), (3, .int (-6)), (4, .int (-6)), (5, .int (nI 0))] rfl (Nat.le_of_ble_eq_true rfl) dX5_bestExchange_28 30 rfl ?_
    have loop30 : ∀ (mu : Nat) (i : Nat) (b : Nat) (o1 : Int32) (o2 : Int32) (al1 : Nat → Nat) (bg1 : Nat → Nat) (pr1 : Nat → Nat), mu = n - i → i ≤ n → Bd al1 st r n → (b, o1, o2) = beO st r n i → b ≤ 1000000 → Z K 0 0 [wM K.g y al1 kept hist hl slo sav bg1 pr1 frm txt tl sp tol rd] [(0, .ref (y 0)), (1, .int (nI 2)), (2, .int (nI b)), (3, .int o1), (4, .int o2), (5, .int (nI i))] 30 [] := by
      refine z_ind (fun mu ih30 => ?_)
      intro i b o1 o2 al1 bg1 pr1 hmu30 hi hB1 hs hbb
      refine z_iload C 5 rfl dX5_bestExchange_30 32 rfl ?_
      refine z_aload_n C 0 rfl rfl dX5_bestExchange_32 33 rfl ?_
      refine z_get C zc5 iX5_bestExchange_X5 0 0 rfl rfl 0 (Nat.le_of_ble_eq_true rfl) (List.mem_of_getElem? (i := 2) rfl) (v := .ref (y 1)) rfl dX5_bestExchange_33 36 rfl ?_
      refine z_bipush C (v := nI 7) rfl dX5_bestExchange_36 38 rfl ?_
      refine z_iald C (f := al1) 0 1 rfl rfl (by omega) (by decide) dX5_bestExchange_38 39 rfl ?_
      refine z_top (show nI (al1 7) = nI n from by rw [hB1.2.1]) ?_
      refine z_icmp_ge C (by omega) (by omega) 145 dX5_bestExchange_39 (by decide) 42 rfl (fun c_37 => ?_) (fun c_37 => ?_)
      · skip
        refine z_iload_n C 3 rfl rfl dX5_bestExchange_145 146 rfl ?_
        refine z_bipush C (v := (-6)) rfl dX5_bestExchange_146 148 rfl ?_
        refine z_icmpI_eq C 155 dX5_bestExchange_148 (by decide) 151 rfl (fun c_38 => ?_) (fun c_38 => ?_)
        · skip
          refine z_iload_n C 3 rfl rfl dX5_bestExchange_155 156 rfl ?_
          refine z_goto C 170 dX5_bestExchange_156 (by decide) ?_
          obtain rfl : i = n := by omega
          exact z_iret C hRx dX5_bestExchange_170 (al1, bg1, pr1) (by rw [show BE st r i 2 = (-6) from by unfold BE; rw [← hs]; exact if_pos (by assumption)]; exact congrArg (fun z => some (Value.int z)) (by simp_all)) hB1 rfl
        · skip
          refine z_iload_n C 1 rfl rfl dX5_bestExchange_151 152 rfl ?_
          refine z_if_ne C (by omega) 159 dX5_bestExchange_152 (by decide) 155 rfl (fun c_39 => ?_) (fun c_39 => ?_)
          rotate_left
          · exfalso; omega
          refine z_iload_n C 1 rfl rfl dX5_bestExchange_159 160 rfl ?_
          refine z_iconst C (v := nI 1) rfl dX5_bestExchange_160 161 rfl ?_
          refine z_icmp_ne C (by omega) (by omega) 169 dX5_bestExchange_161 (by decide) 164 rfl (fun c_40 => ?_) (fun c_40 => ?_)
          rotate_left
          · exfalso; omega
          refine z_iload_n C 2 rfl rfl dX5_bestExchange_169 170 rfl ?_
          obtain rfl : i = n := by omega
          exact z_iret C hRx dX5_bestExchange_170 (al1, bg1, pr1) (by rw [show BE st r i 2 = nI b from by unfold BE; rw [← hs]; exact if_neg (by assumption)]) hB1 rfl
      · skip
        refine z_iload C 5 rfl dX5_bestExchange_42 44 rfl ?_
        refine z_iconst C (v := nI 1) rfl dX5_bestExchange_44 45 rfl ?_
        refine z_iadd C dX5_bestExchange_45 46 rfl ?_
        refine z_istore C hnL [1, 2, 3, 4, 5, 6, 0] [(0, .ref (y 0)), (1, .int (nI 2)), (2, .int (nI b)), (3, .int o1), (4, .int o2), (5, .int (nI i)), (6, .int (nI (i + 1)))] rfl (Nat.le_of_ble_eq_true rfl) dX5_bestExchange_46 48 rfl ?_
        have loop48 : ∀ (mu : Nat) (j : Nat) (b4 : Nat) (p1 : Int32) (p2 : Int32) (al4 : Nat → Nat) (bg4 : Nat → Nat) (pr4 : Nat → Nat), mu = n - j → j ≤ n → i + 1 ≤ j → Bd al4 st r n → (b4, p1, p2) = beI st r n i (beO st r n i) (j - (i + 1)) → b4 ≤ 1000000 → Z K 0 0 [wM K.g y al4 kept hist hl slo sav bg4 pr4 frm txt tl sp tol rd] [(0, .ref (y 0)), (1, .int (nI 2)), (2, .int (nI b4)), (3, .int p1), (4, .int p2), (5, .int (nI i)), (6, .int (nI j))] 48 [] := by
          refine z_ind (fun mu ih48 => ?_)
          intro j b4 p1 p2 al4 bg4 pr4 hmu48 hj hj2 hB4 hs2 hbb2
          refine z_iload C 6 rfl dX5_bestExchange_48 50 rfl ?_
          refine z_aload_n C 0 rfl rfl dX5_bestExchange_50 51 rfl ?_
          refine z_get C zc5 iX5_bestExchange_X5 0 0 rfl rfl 0 (Nat.le_of_ble_eq_true rfl) (List.mem_of_getElem? (i := 2) rfl) (v := .ref (y 1)) rfl dX5_bestExchange_51 54 rfl ?_
          refine z_bipush C (v := nI 7) rfl dX5_bestExchange_54 56 rfl ?_
          refine z_iald C (f := al4) 0 1 rfl rfl (by omega) (by decide) dX5_bestExchange_56 57 rfl ?_
          refine z_top (show nI (al4 7) = nI n from by rw [hB4.2.1]) ?_
          refine z_icmp_ge C (by omega) (by omega) 139 dX5_bestExchange_57 (by decide) 60 rfl (fun c_41 => ?_) (fun c_41 => ?_)
          · skip
            refine z_iinc C hnL 5 rfl (v := (nI (i + 1))) (nI_1 _) [1, 2, 3, 4, 5, 0, 6] [(0, .ref (y 0)), (1, .int (nI 2)), (2, .int (nI b4)), (3, .int p1), (4, .int p2), (5, .int (nI (i + 1))), (6, .int (nI j))] rfl (Nat.le_of_ble_eq_true rfl) dX5_bestExchange_139 142 rfl ?_
            refine z_goto C 30 dX5_bestExchange_142 (by decide) ?_
            refine z_lv [0, 1, 2, 3, 4, 5] [(0, .ref (y 0)), (1, .int (nI 2)), (2, .int (nI b4)), (3, .int p1), (4, .int p2), (5, .int (nI (i + 1)))] rfl ?_
            exact ih30 _ (by omega) (i + 1) b4 p1 p2 al4 bg4 pr4 rfl (by omega) hB4 (by rw [hs2, show j = n by omega]; rfl) (by omega)
          · skip
            refine z_aload_n C 0 rfl rfl dX5_bestExchange_60 61 rfl ?_
            refine z_iload C 5 rfl dX5_bestExchange_61 63 rfl ?_
            refine z_iload C 6 rfl dX5_bestExchange_63 65 rfl ?_
            refine z_callV C [.int (nI i), .int (nI j)] [] (tX5_exchanges K.l K.g y al4 kept hist hl slo sav bg4 pr4 frm txt tl sp tol rd i j (by first | omega | assumption) (by first | omega | assumption)) gX5_bestExchange_X5_exchanges rfl rfl rfl hdX5_exchanges ⟨Nat.le_of_ble_eq_true rfl, Nat.le_of_ble_eq_true rfl⟩ ⟨Nat.zero_le _, Nat.zero_le _⟩ 0 0 rfl rfl rfl [0] rfl rfl (zlc (N := 1) rfl rfl) [1] rfl (by decide) (fun _ : Unit => [wM K.g y (xch al4 i j 4) kept hist hl slo sav bg4 pr4 frm txt tl sp tol rd]) (fun _ => rfl) rfl rfl (Nat.le_of_ble_eq_true rfl) dX5_bestExchange_65 68 rfl (fun u9 hu9 => ?_)
            show Z K 0 0 [wM K.g y (xch al4 i j 4) kept hist hl slo sav bg4 pr4 frm txt tl sp tol rd] [(0, .ref (y 0)), (1, .int (nI 2)), (2, .int (nI b4)), (3, .int p1), (4, .int p2), (5, .int (nI i)), (6, .int (nI j))] 68 []
            refine z_aload_n C 0 rfl rfl dX5_bestExchange_68 69 rfl ?_
            refine z_callV C [] [] (tX5_lateAll K.l K.g y (xch al4 i j 4) kept hist hl slo sav bg4 pr4 frm txt tl sp tol rd st (fun k => swp (r k) i j) n hn (Bd_xch hB4 (by omega) (by omega) hn) hS (okJ_swp (by omega) (by omega) hJ) (okR_swp (by omega) (by omega) hR)) gX5_bestExchange_X5_lateAll rfl rfl rfl hdX5_lateAll ⟨Nat.le_of_ble_eq_true rfl, Nat.le_of_ble_eq_true rfl⟩ ⟨Nat.zero_le _, Nat.zero_le _⟩ 0 0 rfl rfl rfl [0] rfl rfl (zlc (N := 1) rfl rfl) [1] rfl (by decide) (fun u : (Nat → Nat) × (Nat → Nat) => match u with | (beg2, prt2) => [wM K.g y (xch al4 i j 4) kept hist hl slo sav beg2 prt2 frm txt tl sp tol rd]) (fun _ => rfl) rfl rfl (Nat.le_of_ble_eq_true rfl) dX5_bestExchange_69 72 rfl (fun u9 hu9 => ?_)
            obtain ⟨beg2_42, prt2_43⟩ := u9
            have hls := hu9
            have hls : LSm st (fun k => swp (r k) i j) (st 5) n ≤ 1000000 := hls
            show Z K 0 0 [wM K.g y (xch al4 i j 4) kept hist hl slo sav beg2_42 prt2_43 frm txt tl sp tol rd] [(0, .ref (y 0)), (1, .int (nI 2)), (2, .int (nI b4)), (3, .int p1), (4, .int p2), (5, .int (nI i)), (6, .int (nI j))] 72 [.int (nI (LSm st (fun k => swp (r k) i j) (st 5) n))]
            refine z_istore C hnL [1, 2, 3, 4, 5, 6, 7, 0] [(0, .ref (y 0)), (1, .int (nI 2)), (2, .int (nI b4)), (3, .int p1), (4, .int p2), (5, .int (nI i)), (6, .int (nI j)), (7, .int (nI (LSm st (fun k => swp (r k) i j) (st 5) n)))] rfl (Nat.le_of_ble_eq_true rfl) dX5_bestExchange_72 74 rfl ?_
            refine z_aload_n C 0 rfl rfl dX5_bestExchange_74 75 rfl ?_
            refine z_iload C 5 rfl dX5_bestExchange_75 77 rfl ?_
            refine z_iload C 6 rfl dX5_bestExchange_77 79 rfl ?_
            refine z_callV C [.int (nI i), .int (nI j)] [] (tX5_exchanges K.l K.g y (xch al4 i j 4) kept hist hl slo sav beg2_42 prt2_43 frm txt tl sp tol rd i j (by first | omega | assumption) (by first | omega | assumption)) gX5_bestExchange_X5_exchanges rfl rfl rfl hdX5_exchanges ⟨Nat.le_of_ble_eq_true rfl, Nat.le_of_ble_eq_true rfl⟩ ⟨Nat.zero_le _, Nat.zero_le _⟩ 0 0 rfl rfl rfl [0] rfl rfl (zlc (N := 1) rfl rfl) [1] rfl (by decide) (fun _ : Unit => [wM K.g y (xch (xch al4 i j 4) i j 4) kept hist hl slo sav beg2_42 prt2_43 frm txt tl sp tol rd]) (fun _ => rfl) rfl rfl (Nat.le_of_ble_eq_true rfl) dX5_bestExchange_79 82 rfl (fun u9 hu9 => ?_)
            show Z K 0 0 [wM K.g y (xch (xch al4 i j 4) i j 4) kept hist hl slo sav beg2_42 prt2_43 frm txt tl sp tol rd] [(0, .ref (y 0)), (1, .int (nI 2)), (2, .int (nI b4)), (3, .int p1), (4, .int p2), (5, .int (nI i)), (6, .int (nI j)), (7, .int (nI (LSm st (fun k => swp (r k) i j) (st 5) n)))] 82 []
            refine z_iload C 7 rfl dX5_bestExchange_82 84 rfl ?_
            refine z_iload_n C 2 rfl rfl dX5_bestExchange_84 85 rfl ?_
            refine z_icmp_ge C (by omega) (by omega) 92 dX5_bestExchange_85 (by decide) 88 rfl (fun c_44 => ?_) (fun c_44 => ?_)
            · skip
              refine z_iconst C (v := nI 0) rfl dX5_bestExchange_92 93 rfl ?_
              refine z_istore C hnL [1, 2, 3, 4, 5, 6, 7, 8, 0] [(0, .ref (y 0)), (1, .int (nI 2)), (2, .int (nI b4)), (3, .int p1), (4, .int p2), (5, .int (nI i)), (6, .int (nI j)), (7, .int (nI (LSm st (fun k => swp (r k) i j) (st 5) n))), (8, .int (nI 0))] rfl (Nat.le_of_ble_eq_true rfl) dX5_bestExchange_93 95 rfl ?_
              refine z_iload C 8 rfl dX5_bestExchange_95 97 rfl ?_
              refine z_if_eq C (by omega) 105 dX5_bestExchange_97 (by decide) 100 rfl (fun c_45 => ?_) (fun c_45 => ?_)
              rotate_left
              · exfalso; omega
              refine z_iload_n C 3 rfl rfl dX5_bestExchange_105 106 rfl ?_
              refine z_istore_n C hnL [1, 2, 3, 0, 4, 5, 6, 7, 8] [(0, .ref (y 0)), (1, .int (nI 2)), (2, .int (nI b4)), (3, .int p1), (4, .int p2), (5, .int (nI i)), (6, .int (nI j)), (7, .int (nI (LSm st (fun k => swp (r k) i j) (st 5) n))), (8, .int (nI 0))] rfl rfl (Nat.le_of_ble_eq_true rfl) dX5_bestExchange_106 107 rfl ?_
              refine z_iload C 8 rfl dX5_bestExchange_107 109 rfl ?_
              refine z_if_eq C (by omega) 117 dX5_bestExchange_109 (by decide) 112 rfl (fun c_46 => ?_) (fun c_46 => ?_)
              rotate_left
              · exfalso; omega
              refine z_iload C 4 rfl dX5_bestExchange_117 119 rfl ?_
              refine z_istore C hnL [1, 2, 3, 4, 0, 5, 6, 7, 8] [(0, .ref (y 0)), (1, .int (nI 2)), (2, .int (nI b4)), (3, .int p1), (4, .int p2), (5, .int (nI i)), (6, .int (nI j)), (7, .int (nI (LSm st (fun k => swp (r k) i j) (st 5) n))), (8, .int (nI 0))] rfl (Nat.le_of_ble_eq_true rfl) dX5_bestExchange_119 121 rfl ?_
              refine z_iload C 8 rfl dX5_bestExchange_121 123 rfl ?_
              refine z_if_eq C (by omega) 131 dX5_bestExchange_123 (by decide) 126 rfl (fun c_47 => ?_) (fun c_47 => ?_)
              rotate_left
              · exfalso; omega
              refine z_iload_n C 2 rfl rfl dX5_bestExchange_131 132 rfl ?_
              refine z_istore_n C hnL [1, 2, 0, 3, 4, 5, 6, 7, 8] [(0, .ref (y 0)), (1, .int (nI 2)), (2, .int (nI b4)), (3, .int p1), (4, .int p2), (5, .int (nI i)), (6, .int (nI j)), (7, .int (nI (LSm st (fun k => swp (r k) i j) (st 5) n))), (8, .int (nI 0))] rfl rfl (Nat.le_of_ble_eq_true rfl) dX5_bestExchange_132 133 rfl ?_
              refine z_iinc C hnL 6 rfl (v := (nI (j + 1))) (nI_1 _) [1, 2, 3, 4, 5, 6, 0, 7, 8] [(0, .ref (y 0)), (1, .int (nI 2)), (2, .int (nI b4)), (3, .int p1), (4, .int p2), (5, .int (nI i)), (6, .int (nI (j + 1))), (7, .int (nI (LSm st (fun k => swp (r k) i j) (st 5) n))), (8, .int (nI 0))] rfl (Nat.le_of_ble_eq_true rfl) dX5_bestExchange_133 136 rfl ?_
              refine z_goto C 48 dX5_bestExchange_136 (by decide) ?_
              refine z_lv [0, 1, 2, 3, 4, 5, 6] [(0, .ref (y 0)), (1, .int (nI 2)), (2, .int (nI b4)), (3, .int p1), (4, .int p2), (5, .int (nI i)), (6, .int (nI (j + 1)))] rfl ?_
              exact ih48 _ (by omega) (j + 1) b4 p1 p2 (xch (xch al4 i j 4) i j 4) beg2_42 prt2_43 rfl (by omega) (by omega) (Bd_sw2 hB4 (by omega) (by omega) hn) (by rw [beI_s (by omega), ← hs2]; unfold beS; rw [if_neg (by dsimp only; omega)]) (by omega)
            · skip
              refine z_iconst C (v := nI 1) rfl dX5_bestExchange_88 89 rfl ?_
              refine z_goto C 93 dX5_bestExchange_89 (by decide) ?_
              refine z_istore C hnL [1, 2, 3, 4, 5, 6, 7, 8, 0] [(0, .ref (y 0)), (1, .int (nI 2)), (2, .int (nI b4)), (3, .int p1), (4, .int p2), (5, .int (nI i)), (6, .int (nI j)), (7, .int (nI (LSm st (fun k => swp (r k) i j) (st 5) n))), (8, .int (nI 1))] rfl (Nat.le_of_ble_eq_true rfl) dX5_bestExchange_93 95 rfl ?_
              refine z_iload C 8 rfl dX5_bestExchange_95 97 rfl ?_
              refine z_if_eq C (by omega) 105 dX5_bestExchange_97 (by decide) 100 rfl (fun c_48 => ?_) (fun c_48 => ?_)
              · exfalso; omega
              refine z_iload C 5 rfl dX5_bestExchange_100 102 rfl ?_
              refine z_goto C 106 dX5_bestExchange_102 (by decide) ?_
              refine z_istore_n C hnL [1, 2, 3, 0, 4, 5, 6, 7, 8] [(0, .ref (y 0)), (1, .int (nI 2)), (2, .int (nI b4)), (3, .int (nI i)), (4, .int p2), (5, .int (nI i)), (6, .int (nI j)), (7, .int (nI (LSm st (fun k => swp (r k) i j) (st 5) n))), (8, .int (nI 1))] rfl rfl (Nat.le_of_ble_eq_true rfl) dX5_bestExchange_106 107 rfl ?_
              refine z_iload C 8 rfl dX5_bestExchange_107 109 rfl ?_
              refine z_if_eq C (by omega) 117 dX5_bestExchange_109 (by decide) 112 rfl (fun c_49 => ?_) (fun c_49 => ?_)
              · exfalso; omega
              refine z_iload C 6 rfl dX5_bestExchange_112 114 rfl ?_
              refine z_goto C 119 dX5_bestExchange_114 (by decide) ?_
              refine z_istore C hnL [1, 2, 3, 4, 0, 5, 6, 7, 8] [(0, .ref (y 0)), (1, .int (nI 2)), (2, .int (nI b4)), (3, .int (nI i)), (4, .int (nI j)), (5, .int (nI i)), (6, .int (nI j)), (7, .int (nI (LSm st (fun k => swp (r k) i j) (st 5) n))), (8, .int (nI 1))] rfl (Nat.le_of_ble_eq_true rfl) dX5_bestExchange_119 121 rfl ?_
              refine z_iload C 8 rfl dX5_bestExchange_121 123 rfl ?_
              refine z_if_eq C (by omega) 131 dX5_bestExchange_123 (by decide) 126 rfl (fun c_50 => ?_) (fun c_50 => ?_)
              · exfalso; omega
              refine z_iload C 7 rfl dX5_bestExchange_126 128 rfl ?_
              refine z_goto C 132 dX5_bestExchange_128 (by decide) ?_
              refine z_istore_n C hnL [1, 2, 0, 3, 4, 5, 6, 7, 8] [(0, .ref (y 0)), (1, .int (nI 2)), (2, .int (nI (LSm st (fun k => swp (r k) i j) (st 5) n))), (3, .int (nI i)), (4, .int (nI j)), (5, .int (nI i)), (6, .int (nI j)), (7, .int (nI (LSm st (fun k => swp (r k) i j) (st 5) n))), (8, .int (nI 1))] rfl rfl (Nat.le_of_ble_eq_true rfl) dX5_bestExchange_132 133 rfl ?_
              refine z_iinc C hnL 6 rfl (v := (nI (j + 1))) (nI_1 _) [1, 2, 3, 4, 5, 6, 0, 7, 8] [(0, .ref (y 0)), (1, .int (nI 2)), (2, .int (nI (LSm st (fun k => swp (r k) i j) (st 5) n))), (3, .int (nI i)), (4, .int (nI j)), (5, .int (nI i)), (6, .int (nI (j + 1))), (7, .int (nI (LSm st (fun k => swp (r k) i j) (st 5) n))), (8, .int (nI 1))] rfl (Nat.le_of_ble_eq_true rfl) dX5_bestExchange_133 136 rfl ?_
              refine z_goto C 48 dX5_bestExchange_136 (by decide) ?_
              refine z_lv [0, 1, 2, 3, 4, 5, 6] [(0, .ref (y 0)), (1, .int (nI 2)), (2, .int (nI (LSm st (fun k => swp (r k) i j) (st 5) n))), (3, .int (nI i)), (4, .int (nI j)), (5, .int (nI i)), (6, .int (nI (j + 1)))] rfl ?_
              exact ih48 _ (by omega) (j + 1) (LSm st (fun k => swp (r k) i j) (st 5) n) (nI i) (nI j) (xch (xch al4 i j 4) i j 4) beg2_42 prt2_43 rfl (by omega) (by omega) (Bd_sw2 hB4 (by omega) (by omega) hn) (by rw [beI_s (by omega), ← hs2]; unfold beS; rw [if_pos (by dsimp only; omega)]) (by omega)
        exact loop48 _ (i + 1) b o1 o2 al1 bg1 pr1 rfl (by omega) (Nat.le_refl _) hB1 (by rw [Nat.sub_self, hs]; rfl) (by omega)
    exact loop30 _ 0 (LSm st r (st 5) n) (-6) (-6) all beg2_35 prt2_36 rfl (by omega) hB rfl (by omega)

theorem iX5_bestFirst_X5 : ∀ w ∈ u_ws RX5 TX5 14, w ∈ wsX5_bestFirst := fun w h => (List.mem_cons_of_mem _ (List.mem_append_right _ h))
set_option maxHeartbeats 4000000 in
set_option maxRecDepth 100000 in
theorem tX5_bestFirst (l : Launch) (g : zG) (y all kept hist : Nat → Nat) (hl : Nat) (slo sav beg prt frm txt : Nat → Nat) (tl sp : Nat) (tol : Nat → Nat) (rd : Nat) (st : Nat → Nat) (r : Nat → Nat → Nat) (n : Nat) (hn : n ≤ 12) (hB : Bd all st r n) (hS : okS st) (hJ : okJ r n) (hR : okR st r n (st 5)) : Met l yX5_bestFirst wsX5_bestFirst ({ frames := 5, cells := 0, slots := 0, locals := 111 } : Room) (zPre g [.ref (y 0)] [wM g y all kept hist hl slo sav beg prt frm txt tl sp tol rd]) (zQ g (fun u : (Nat → Nat) × (Nat → Nat) × (Nat → Nat) => match u with | (all2, beg2, prt2) => some (.int ((bfO st r n n).1)) ) (fun u : (Nat → Nat) × (Nat → Nat) × (Nat → Nat) => match u with | (all2, beg2, prt2) => (Bd all2 st r n)) (fun u : (Nat → Nat) × (Nat → Nat) × (Nat → Nat) => match u with | (all2, beg2, prt2) => [wM g y all2 kept hist hl slo sav beg2 prt2 frm txt tl sp tol rd]) (zA [wM g y all kept hist hl slo sav beg prt frm txt tl sp tol rd])) 0 0 (zA [wM g y all kept hist hl slo sav beg prt frm txt tl sp tol rd]) := by
  refine z_entry (cc := cX5_bestFirst) (maxL := 6) (ret := (some .int)) (own := RX5) (by decide) rfl rfl (Nat.le_of_ble_eq_true rfl) [(0, .ref (y 0))] rfl ?_
  intro K hKl hKg hnL C hRx
  subst hKl
  subst hKg
  refine z_bipush C (v := (-6)) rfl dX5_bestFirst_0 2 rfl ?_
  refine z_istore_n C hnL [1, 0] [(0, .ref (y 0)), (1, .int (-6))] rfl rfl (Nat.le_of_ble_eq_true rfl) dX5_bestFirst_2 3 rfl ?_
  refine z_iconst C (v := nI 0) rfl dX5_bestFirst_3 4 rfl ?_
  refine z_istore_n C hnL [1, 2, 0] [(0, .ref (y 0)), (1, .int (-6)), (2, .int (nI 0))] rfl rfl (Nat.le_of_ble_eq_true rfl) dX5_bestFirst_4 5 rfl ?_
  refine z_iconst C (v := nI 0) rfl dX5_bestFirst_5 6 rfl ?_
  refine z_istore_n C hnL [1, 2, 3, 0] [(0, .ref (y 0)), (1, .int (-6)), (2, .int (nI 0)), (3, .int (nI 0))] rfl rfl (Nat.le_of_ble_eq_true rfl) dX5_bestFirst_6 7 rfl ?_
  have loop7 : ∀ (mu : Nat) (j : Nat) (o : Int32) (b : Nat) (al1 : Nat → Nat) (bg1 : Nat → Nat) (pr1 : Nat → Nat), mu = n - j → j ≤ n → Bd al1 st r n → (o, b) = bfO st r n j → b ≤ 1000000 → Z K 0 0 [wM K.g y al1 kept hist hl slo sav bg1 pr1 frm txt tl sp tol rd] [(0, .ref (y 0)), (1, .int o), (2, .int (nI b)), (3, .int (nI j))] 7 [] := by
    refine z_ind (fun mu ih7 => ?_)
    intro j o b al1 bg1 pr1 hmu7 hj hB1 hs hbb
    refine z_iload_n C 3 rfl rfl dX5_bestFirst_7 8 rfl ?_
    refine z_aload_n C 0 rfl rfl dX5_bestFirst_8 9 rfl ?_
    refine z_get C zc5 iX5_bestFirst_X5 0 0 rfl rfl 0 (Nat.le_of_ble_eq_true rfl) (List.mem_of_getElem? (i := 1) rfl) (v := .ref (y 1)) rfl dX5_bestFirst_9 12 rfl ?_
    refine z_bipush C (v := nI 7) rfl dX5_bestFirst_12 14 rfl ?_
    refine z_iald C (f := al1) 0 1 rfl rfl (by omega) (by decide) dX5_bestFirst_14 15 rfl ?_
    refine z_top (show nI (al1 7) = nI n from by rw [hB1.2.1]) ?_
    refine z_icmp_ge C (by omega) (by omega) 84 dX5_bestFirst_15 (by decide) 18 rfl (fun c_1 => ?_) (fun c_1 => ?_)
    · skip
      refine z_iload_n C 1 rfl rfl dX5_bestFirst_84 85 rfl ?_
      obtain rfl : j = n := by omega
      exact z_iret C hRx dX5_bestFirst_85 (al1, bg1, pr1) (by rw [← hs]) hB1 rfl
    · skip
      refine z_aload_n C 0 rfl rfl dX5_bestFirst_18 19 rfl ?_
      refine z_iload_n C 3 rfl rfl dX5_bestFirst_19 20 rfl ?_
      refine z_iconst C (v := nI 0) rfl dX5_bestFirst_20 21 rfl ?_
      refine z_callV C [.int (nI j), .int (nI 0)] [] (tX5_moves K.l K.g y al1 kept hist hl slo sav bg1 pr1 frm txt tl sp tol rd st r n j 0 hn hB1 (by omega) (by omega)) gX5_bestFirst_X5_moves rfl rfl rfl hdX5_moves ⟨Nat.le_of_ble_eq_true rfl, Nat.le_of_ble_eq_true rfl⟩ ⟨Nat.zero_le _, Nat.zero_le _⟩ 0 0 rfl rfl rfl [0] rfl rfl (zlc (N := 1) rfl rfl) [1] rfl (by decide) (fun all2 : Nat → Nat => [wM K.g y all2 kept hist hl slo sav bg1 pr1 frm txt tl sp tol rd]) (fun _ => rfl) rfl rfl (Nat.le_of_ble_eq_true rfl) dX5_bestFirst_21 24 rfl (fun u9 hu9 => ?_)
      obtain ⟨al5, rfl⟩ : ∃ z, z = u9 := ⟨_, rfl⟩
      have hB5 := hu9
      have hB5 : Bd al5 st (fun k => shf (r k) j 0) n := hB5
      show Z K 0 0 [wM K.g y al5 kept hist hl slo sav bg1 pr1 frm txt tl sp tol rd] [(0, .ref (y 0)), (1, .int o), (2, .int (nI b)), (3, .int (nI j))] 24 []
      refine z_aload_n C 0 rfl rfl dX5_bestFirst_24 25 rfl ?_
      refine z_callV C [] [] (tX5_lateAll K.l K.g y al5 kept hist hl slo sav bg1 pr1 frm txt tl sp tol rd st (fun k => shf (r k) j 0) n hn hB5 hS (okJ_shf (by omega) (by omega) hJ) (okR_shf (by omega) (by omega) hR)) gX5_bestFirst_X5_lateAll rfl rfl rfl hdX5_lateAll ⟨Nat.le_of_ble_eq_true rfl, Nat.le_of_ble_eq_true rfl⟩ ⟨Nat.zero_le _, Nat.zero_le _⟩ 0 0 rfl rfl rfl [0] rfl rfl (zlc (N := 1) rfl rfl) [1] rfl (by decide) (fun u : (Nat → Nat) × (Nat → Nat) => match u with | (beg2, prt2) => [wM K.g y al5 kept hist hl slo sav beg2 prt2 frm txt tl sp tol rd]) (fun _ => rfl) rfl rfl (Nat.le_of_ble_eq_true rfl) dX5_bestFirst_25 28 rfl (fun u9 hu9 => ?_)
      obtain ⟨beg2_2, prt2_3⟩ := u9
      have hls := hu9
      have hls : LSm st (fun k => shf (r k) j 0) (st 5) n ≤ 1000000 := hls
      show Z K 0 0 [wM K.g y al5 kept hist hl slo sav beg2_2 prt2_3 frm txt tl sp tol rd] [(0, .ref (y 0)), (1, .int o), (2, .int (nI b)), (3, .int (nI j))] 28 [.int (nI (LSm st (fun k => shf (r k) j 0) (st 5) n))]
      refine z_istore C hnL [1, 2, 3, 4, 0] [(0, .ref (y 0)), (1, .int o), (2, .int (nI b)), (3, .int (nI j)), (4, .int (nI (LSm st (fun k => shf (r k) j 0) (st 5) n)))] rfl (Nat.le_of_ble_eq_true rfl) dX5_bestFirst_28 30 rfl ?_
      refine z_aload_n C 0 rfl rfl dX5_bestFirst_30 31 rfl ?_
      refine z_iconst C (v := nI 0) rfl dX5_bestFirst_31 32 rfl ?_
      refine z_iload_n C 3 rfl rfl dX5_bestFirst_32 33 rfl ?_
      refine z_callV C [.int (nI 0), .int (nI j)] [] (tX5_moves K.l K.g y al5 kept hist hl slo sav beg2_2 prt2_3 frm txt tl sp tol rd st (fun k => shf (r k) j 0) n 0 j hn hB5 (by omega) (by omega)) gX5_bestFirst_X5_moves rfl rfl rfl hdX5_moves ⟨Nat.le_of_ble_eq_true rfl, Nat.le_of_ble_eq_true rfl⟩ ⟨Nat.zero_le _, Nat.zero_le _⟩ 0 0 rfl rfl rfl [0] rfl rfl (zlc (N := 1) rfl rfl) [1] rfl (by decide) (fun all2 : Nat → Nat => [wM K.g y all2 kept hist hl slo sav beg2_2 prt2_3 frm txt tl sp tol rd]) (fun _ => rfl) rfl rfl (Nat.le_of_ble_eq_true rfl) dX5_bestFirst_33 36 rfl (fun u9 hu9 => ?_)
      obtain ⟨al6, rfl⟩ : ∃ z, z = u9 := ⟨_, rfl⟩
      have hB6 := hu9
      have hB6 : Bd al6 st (fun k => shf ((fun k => shf (r k) j 0) k) 0 j) n := hB6
      show Z K 0 0 [wM K.g y al6 kept hist hl slo sav beg2_2 prt2_3 frm txt tl sp tol rd] [(0, .ref (y 0)), (1, .int o), (2, .int (nI b)), (3, .int (nI j)), (4, .int (nI (LSm st (fun k => shf (r k) j 0) (st 5) n)))] 36 []
      refine z_iload_n C 1 rfl rfl dX5_bestFirst_36 37 rfl ?_
      refine z_bipush C (v := (-6)) rfl dX5_bestFirst_37 39 rfl ?_
      refine z_icmpI_eq C 48 dX5_bestFirst_39 (by decide) 42 rfl (fun c_4 => ?_) (fun c_4 => ?_)
      · skip
        refine z_iconst C (v := nI 1) rfl dX5_bestFirst_48 49 rfl ?_
        refine z_goto C 53 dX5_bestFirst_49 (by decide) ?_
        refine z_istore C hnL [1, 2, 3, 4, 5, 0] [(0, .ref (y 0)), (1, .int o), (2, .int (nI b)), (3, .int (nI j)), (4, .int (nI (LSm st (fun k => shf (r k) j 0) (st 5) n))), (5, .int (nI 1))] rfl (Nat.le_of_ble_eq_true rfl) dX5_bestFirst_53 55 rfl ?_
        refine z_iload C 5 rfl dX5_bestFirst_55 57 rfl ?_
        refine z_if_eq C (by omega) 64 dX5_bestFirst_57 (by decide) 60 rfl (fun c_5 => ?_) (fun c_5 => ?_)
        · exfalso; omega
        refine z_iload_n C 3 rfl rfl dX5_bestFirst_60 61 rfl ?_
        refine z_goto C 65 dX5_bestFirst_61 (by decide) ?_
        refine z_istore_n C hnL [1, 0, 2, 3, 4, 5] [(0, .ref (y 0)), (1, .int (nI j)), (2, .int (nI b)), (3, .int (nI j)), (4, .int (nI (LSm st (fun k => shf (r k) j 0) (st 5) n))), (5, .int (nI 1))] rfl rfl (Nat.le_of_ble_eq_true rfl) dX5_bestFirst_65 66 rfl ?_
        refine z_iload C 5 rfl dX5_bestFirst_66 68 rfl ?_
        refine z_if_eq C (by omega) 76 dX5_bestFirst_68 (by decide) 71 rfl (fun c_6 => ?_) (fun c_6 => ?_)
        · exfalso; omega
        refine z_iload C 4 rfl dX5_bestFirst_71 73 rfl ?_
        refine z_goto C 77 dX5_bestFirst_73 (by decide) ?_
        refine z_istore_n C hnL [1, 2, 0, 3, 4, 5] [(0, .ref (y 0)), (1, .int (nI j)), (2, .int (nI (LSm st (fun k => shf (r k) j 0) (st 5) n))), (3, .int (nI j)), (4, .int (nI (LSm st (fun k => shf (r k) j 0) (st 5) n))), (5, .int (nI 1))] rfl rfl (Nat.le_of_ble_eq_true rfl) dX5_bestFirst_77 78 rfl ?_
        refine z_iinc C hnL 3 rfl (v := (nI (j + 1))) (nI_1 _) [1, 2, 3, 0, 4, 5] [(0, .ref (y 0)), (1, .int (nI j)), (2, .int (nI (LSm st (fun k => shf (r k) j 0) (st 5) n))), (3, .int (nI (j + 1))), (4, .int (nI (LSm st (fun k => shf (r k) j 0) (st 5) n))), (5, .int (nI 1))] rfl (Nat.le_of_ble_eq_true rfl) dX5_bestFirst_78 81 rfl ?_
        refine z_goto C 7 dX5_bestFirst_81 (by decide) ?_
        refine z_lv [0, 1, 2, 3] [(0, .ref (y 0)), (1, .int (nI j)), (2, .int (nI (LSm st (fun k => shf (r k) j 0) (st 5) n))), (3, .int (nI (j + 1)))] rfl ?_
        exact ih7 _ (by omega) (j + 1) (nI j) (LSm st (fun k => shf (r k) j 0) (st 5) n) al6 beg2_2 prt2_3 rfl (by omega) (Bd_cg hB6 (fun k _ x hx => shf_bk (by omega))) (by rw [bfO_s, ← hs, if_pos (by dsimp only; first | exact Or.inl (by assumption) | exact Or.inr (by omega))]) (by omega)
      · skip
        refine z_iload C 4 rfl dX5_bestFirst_42 44 rfl ?_
        refine z_iload_n C 2 rfl rfl dX5_bestFirst_44 45 rfl ?_
        refine z_icmp_ge C (by omega) (by omega) 52 dX5_bestFirst_45 (by decide) 48 rfl (fun c_7 => ?_) (fun c_7 => ?_)
        · skip
          refine z_iconst C (v := nI 0) rfl dX5_bestFirst_52 53 rfl ?_
          refine z_istore C hnL [1, 2, 3, 4, 5, 0] [(0, .ref (y 0)), (1, .int o), (2, .int (nI b)), (3, .int (nI j)), (4, .int (nI (LSm st (fun k => shf (r k) j 0) (st 5) n))), (5, .int (nI 0))] rfl (Nat.le_of_ble_eq_true rfl) dX5_bestFirst_53 55 rfl ?_
          refine z_iload C 5 rfl dX5_bestFirst_55 57 rfl ?_
          refine z_if_eq C (by omega) 64 dX5_bestFirst_57 (by decide) 60 rfl (fun c_8 => ?_) (fun c_8 => ?_)
          rotate_left
          · exfalso; omega
          refine z_iload_n C 1 rfl rfl dX5_bestFirst_64 65 rfl ?_
          refine z_istore_n C hnL [1, 0, 2, 3, 4, 5] [(0, .ref (y 0)), (1, .int o), (2, .int (nI b)), (3, .int (nI j)), (4, .int (nI (LSm st (fun k => shf (r k) j 0) (st 5) n))), (5, .int (nI 0))] rfl rfl (Nat.le_of_ble_eq_true rfl) dX5_bestFirst_65 66 rfl ?_
          refine z_iload C 5 rfl dX5_bestFirst_66 68 rfl ?_
          refine z_if_eq C (by omega) 76 dX5_bestFirst_68 (by decide) 71 rfl (fun c_9 => ?_) (fun c_9 => ?_)
          rotate_left
          · exfalso; omega
          refine z_iload_n C 2 rfl rfl dX5_bestFirst_76 77 rfl ?_
          refine z_istore_n C hnL [1, 2, 0, 3, 4, 5] [(0, .ref (y 0)), (1, .int o), (2, .int (nI b)), (3, .int (nI j)), (4, .int (nI (LSm st (fun k => shf (r k) j 0) (st 5) n))), (5, .int (nI 0))] rfl rfl (Nat.le_of_ble_eq_true rfl) dX5_bestFirst_77 78 rfl ?_
          refine z_iinc C hnL 3 rfl (v := (nI (j + 1))) (nI_1 _) [1, 2, 3, 0, 4, 5] [(0, .ref (y 0)), (1, .int o), (2, .int (nI b)), (3, .int (nI (j + 1))), (4, .int (nI (LSm st (fun k => shf (r k) j 0) (st 5) n))), (5, .int (nI 0))] rfl (Nat.le_of_ble_eq_true rfl) dX5_bestFirst_78 81 rfl ?_
          refine z_goto C 7 dX5_bestFirst_81 (by decide) ?_
          refine z_lv [0, 1, 2, 3] [(0, .ref (y 0)), (1, .int o), (2, .int (nI b)), (3, .int (nI (j + 1)))] rfl ?_
          exact ih7 _ (by omega) (j + 1) o b al6 beg2_2 prt2_3 rfl (by omega) (Bd_cg hB6 (fun k _ x hx => shf_bk (by omega))) (by rw [bfO_s, ← hs, if_neg (by dsimp only; intro h9; rcases h9 with h9 | h9 <;> first | contradiction | omega)]) (by omega)
        · skip
          refine z_iconst C (v := nI 1) rfl dX5_bestFirst_48 49 rfl ?_
          refine z_goto C 53 dX5_bestFirst_49 (by decide) ?_
          refine z_istore C hnL [1, 2, 3, 4, 5, 0] [(0, .ref (y 0)), (1, .int o), (2, .int (nI b)), (3, .int (nI j)), (4, .int (nI (LSm st (fun k => shf (r k) j 0) (st 5) n))), (5, .int (nI 1))] rfl (Nat.le_of_ble_eq_true rfl) dX5_bestFirst_53 55 rfl ?_
          refine z_iload C 5 rfl dX5_bestFirst_55 57 rfl ?_
          refine z_if_eq C (by omega) 64 dX5_bestFirst_57 (by decide) 60 rfl (fun c_10 => ?_) (fun c_10 => ?_)
          · exfalso; omega
          refine z_iload_n C 3 rfl rfl dX5_bestFirst_60 61 rfl ?_
          refine z_goto C 65 dX5_bestFirst_61 (by decide) ?_
          refine z_istore_n C hnL [1, 0, 2, 3, 4, 5] [(0, .ref (y 0)), (1, .int (nI j)), (2, .int (nI b)), (3, .int (nI j)), (4, .int (nI (LSm st (fun k => shf (r k) j 0) (st 5) n))), (5, .int (nI 1))] rfl rfl (Nat.le_of_ble_eq_true rfl) dX5_bestFirst_65 66 rfl ?_
          refine z_iload C 5 rfl dX5_bestFirst_66 68 rfl ?_
          refine z_if_eq C (by omega) 76 dX5_bestFirst_68 (by decide) 71 rfl (fun c_11 => ?_) (fun c_11 => ?_)
          · exfalso; omega
          refine z_iload C 4 rfl dX5_bestFirst_71 73 rfl ?_
          refine z_goto C 77 dX5_bestFirst_73 (by decide) ?_
          refine z_istore_n C hnL [1, 2, 0, 3, 4, 5] [(0, .ref (y 0)), (1, .int (nI j)), (2, .int (nI (LSm st (fun k => shf (r k) j 0) (st 5) n))), (3, .int (nI j)), (4, .int (nI (LSm st (fun k => shf (r k) j 0) (st 5) n))), (5, .int (nI 1))] rfl rfl (Nat.le_of_ble_eq_true rfl) dX5_bestFirst_77 78 rfl ?_
          refine z_iinc C hnL 3 rfl (v := (nI (j + 1))) (nI_1 _) [1, 2, 3, 0, 4, 5] [(0, .ref (y 0)), (1, .int (nI j)), (2, .int (nI (LSm st (fun k => shf (r k) j 0) (st 5) n))), (3, .int (nI (j + 1))), (4, .int (nI (LSm st (fun k => shf (r k) j 0) (st 5) n))), (5, .int (nI 1))] rfl (Nat.le_of_ble_eq_true rfl) dX5_bestFirst_78 81 rfl ?_
          refine z_goto C 7 dX5_bestFirst_81 (by decide) ?_
          refine z_lv [0, 1, 2, 3] [(0, .ref (y 0)), (1, .int (nI j)), (2, .int (nI (LSm st (fun k => shf (r k) j 0) (st 5) n))), (3, .int (nI (j + 1)))] rfl ?_
          exact ih7 _ (by omega) (j + 1) (nI j) (LSm st (fun k => shf (r k) j 0) (st 5) n) al6 beg2_2 prt2_3 rfl (by omega) (Bd_cg hB6 (fun k _ x hx => shf_bk (by omega))) (by rw [bfO_s, ← hs, if_pos (by dsimp only; first | exact Or.inl (by assumption) | exact Or.inr (by omega))]) (by omega)
  exact loop7 _ 0 (-6) 0 all beg prt rfl (by omega) hB rfl (by omega)

theorem iX5_leastRacks_X5 : ∀ w ∈ u_ws RX5 TX5 14, w ∈ wsX5_leastRacks := fun w h => (List.mem_cons_of_mem _ (List.mem_append_right _ h))
set_option maxHeartbeats 4000000 in
set_option maxRecDepth 100000 in
theorem tX5_leastRacks (l : Launch) (g : zG) (y all kept hist : Nat → Nat) (hl : Nat) (slo sav beg prt frm txt : Nat → Nat) (tl sp : Nat) (tol : Nat → Nat) (rd : Nat) (st : Nat → Nat) (r : Nat → Nat → Nat) (n : Nat) (hn : n ≤ 12) (hB : Bd all st r n) (hS : okS st) (hJ : okJ r n) : Met l yX5_leastRacks wsX5_leastRacks ({ frames := 4, cells := 0, slots := 0, locals := 91 } : Room) (zPre g [.ref (y 0)] [wM g y all kept hist hl slo sav beg prt frm txt tl sp tol rd]) (zQ g (fun u : (Nat → Nat) × (Nat → Nat) × (Nat → Nat) => match u with | (all2, beg2, prt2) => some (.int (lrF st r n 4 17)) ) (fun u : (Nat → Nat) × (Nat → Nat) × (Nat → Nat) => match u with | (all2, beg2, prt2) => (Bd all2 st r n)) (fun u : (Nat → Nat) × (Nat → Nat) × (Nat → Nat) => match u with | (all2, beg2, prt2) => [wM g y all2 kept hist hl slo sav beg2 prt2 frm txt tl sp tol rd]) (zA [wM g y all kept hist hl slo sav beg prt frm txt tl sp tol rd])) 0 0 (zA [wM g y all kept hist hl slo sav beg prt frm txt tl sp tol rd]) := by
  refine z_entry (cc := cX5_leastRacks) (maxL := 4) (ret := (some .int)) (own := RX5) (by decide) rfl rfl (Nat.le_of_ble_eq_true rfl) [(0, .ref (y 0))] rfl ?_
  intro K hKl hKg hnL C hRx
  subst hKl
  subst hKg
  refine z_aload_n C 0 rfl rfl dX5_leastRacks_0 1 rfl ?_
  refine z_get C zc5 iX5_leastRacks_X5 0 0 rfl rfl 0 (Nat.le_of_ble_eq_true rfl) (List.mem_of_getElem? (i := 1) rfl) (v := .ref (y 1)) rfl dX5_leastRacks_1 4 rfl ?_
  refine z_iconst C (v := nI 5) rfl dX5_leastRacks_4 5 rfl ?_
  refine z_iald C (f := all) 0 1 rfl rfl (by omega) (by decide) dX5_leastRacks_5 6 rfl ?_
  refine z_top (show nI (all 5) = nI (st 5) from by rw [hB.1 5 (by decide)]) ?_
  refine z_istore_n C hnL [1, 0] [(0, .ref (y 0)), (1, .int (nI (st 5)))] rfl rfl (Nat.le_of_ble_eq_true rfl) dX5_leastRacks_6 7 rfl ?_
  refine z_iconst C (v := nI 3) rfl dX5_leastRacks_7 8 rfl ?_
  refine z_istore_n C hnL [1, 2, 0] [(0, .ref (y 0)), (1, .int (nI (st 5))), (2, .int (nI 3))] rfl rfl (Nat.le_of_ble_eq_true rfl) dX5_leastRacks_8 9 rfl ?_
  refine z_iconst C (v := nI 0) rfl dX5_leastRacks_9 10 rfl ?_
  refine z_istore_n C hnL [1, 2, 3, 0] [(0, .ref (y 0)), (1, .int (nI (st 5))), (2, .int (nI 3)), (3, .int (nI 0))] rfl rfl (Nat.le_of_ble_eq_true rfl) dX5_leastRacks_10 11 rfl ?_
  have loop11 : ∀ (mu : Nat) (y4 : Nat) (f : Nat) (v : Nat) (al1 : Nat → Nat) (bg1 : Nat → Nat) (pr1 : Nat → Nat), mu = 2 * (20 - y4) + (1 - f) → 3 ≤ y4 ∧ y4 ≤ 20 → Bd al1 (un st 5 v) r n → (f = 0 ∧ lrF st r n 4 17 = lrF st r n (y4 + 1) (20 - y4)) ∨ (f = 1 ∧ lrF st r n 4 17 = nI y4) → Z K 0 0 [wM K.g y al1 kept hist hl slo sav bg1 pr1 frm txt tl sp tol rd] [(0, .ref (y 0)), (1, .int (nI (st 5))), (2, .int (nI y4)), (3, .int (nI f))] 11 [] := by
    refine z_ind (fun mu ih11 => ?_)
    intro y4 f v al1 bg1 pr1 hmu11 hy hB1 hs
    refine z_iload_n C 2 rfl rfl dX5_leastRacks_11 12 rfl ?_
    refine z_bipush C (v := nI 20) rfl dX5_leastRacks_12 14 rfl ?_
    refine z_icmp_ge C (by omega) (by omega) 61 dX5_leastRacks_14 (by decide) 17 rfl (fun c_1 => ?_) (fun c_1 => ?_)
    · skip
      refine z_aload_n C 0 rfl rfl dX5_leastRacks_61 62 rfl ?_
      refine z_get C zc5 iX5_leastRacks_X5 0 0 rfl rfl 0 (Nat.le_of_ble_eq_true rfl) (List.mem_of_getElem? (i := 1) rfl) (v := .ref (y 1)) rfl dX5_leastRacks_62 65 rfl ?_
      refine z_iconst C (v := nI 5) rfl dX5_leastRacks_65 66 rfl ?_
      refine z_iload_n C 1 rfl rfl dX5_leastRacks_66 67 rfl ?_
      refine z_iast C (f := al1) 0 1 rfl rfl (by omega) (by decide) (wM K.g y (un al1 5 (st 5)) kept hist hl slo sav bg1 pr1 frm txt tl sp tol rd) rfl [wM K.g y (un al1 5 (st 5)) kept hist hl slo sav bg1 pr1 frm txt tl sp tol rd] rfl dX5_leastRacks_67 68 rfl ?_
      refine z_iload_n C 3 rfl rfl dX5_leastRacks_68 69 rfl ?_
      refine z_if_eq C (by omega) 76 dX5_leastRacks_69 (by decide) 72 rfl (fun c_2 => ?_) (fun c_2 => ?_)
      · skip
        refine z_bipush C (v := (-6)) rfl dX5_leastRacks_76 78 rfl ?_
        exact z_iret C hRx dX5_leastRacks_78 ((un al1 5 (st 5)), bg1, pr1) (by rcases hs with ⟨-, h⟩ | ⟨h, -⟩; rw [h, show 20 - y4 = 0 by omega]; rfl; omega) (Bd_s7 hB1) rfl
      · skip
        refine z_iload_n C 2 rfl rfl dX5_leastRacks_72 73 rfl ?_
        refine z_goto C 78 dX5_leastRacks_73 (by decide) ?_
        exact z_iret C hRx dX5_leastRacks_78 ((un al1 5 (st 5)), bg1, pr1) (by rcases hs with ⟨h, -⟩ | ⟨-, h⟩; exact absurd h (by assumption); rw [h]) (Bd_s7 hB1) rfl
    · skip
      refine z_iload_n C 3 rfl rfl dX5_leastRacks_17 18 rfl ?_
      refine z_if_ne C (by omega) 61 dX5_leastRacks_18 (by decide) 21 rfl (fun c_3 => ?_) (fun c_3 => ?_)
      · skip
        refine z_aload_n C 0 rfl rfl dX5_leastRacks_61 62 rfl ?_
        refine z_get C zc5 iX5_leastRacks_X5 0 0 rfl rfl 0 (Nat.le_of_ble_eq_true rfl) (List.mem_of_getElem? (i := 1) rfl) (v := .ref (y 1)) rfl dX5_leastRacks_62 65 rfl ?_
        refine z_iconst C (v := nI 5) rfl dX5_leastRacks_65 66 rfl ?_
        refine z_iload_n C 1 rfl rfl dX5_leastRacks_66 67 rfl ?_
        refine z_iast C (f := al1) 0 1 rfl rfl (by omega) (by decide) (wM K.g y (un al1 5 (st 5)) kept hist hl slo sav bg1 pr1 frm txt tl sp tol rd) rfl [wM K.g y (un al1 5 (st 5)) kept hist hl slo sav bg1 pr1 frm txt tl sp tol rd] rfl dX5_leastRacks_67 68 rfl ?_
        refine z_iload_n C 3 rfl rfl dX5_leastRacks_68 69 rfl ?_
        refine z_if_eq C (by omega) 76 dX5_leastRacks_69 (by decide) 72 rfl (fun c_4 => ?_) (fun c_4 => ?_)
        · skip
          refine z_bipush C (v := (-6)) rfl dX5_leastRacks_76 78 rfl ?_
          exact z_iret C hRx dX5_leastRacks_78 ((un al1 5 (st 5)), bg1, pr1) (by rcases hs with ⟨-, h⟩ | ⟨h, -⟩; rw [h, show 20 - y4 = 0 by omega]; rfl; omega) (Bd_s7 hB1) rfl
        · skip
          refine z_iload_n C 2 rfl rfl dX5_leastRacks_72 73 rfl ?_
          refine z_goto C 78 dX5_leastRacks_73 (by decide) ?_
          exact z_iret C hRx dX5_leastRacks_78 ((un al1 5 (st 5)), bg1, pr1) (by rcases hs with ⟨h, -⟩ | ⟨-, h⟩; exact absurd h (by assumption); rw [h]) (Bd_s7 hB1) rfl
      · skip
        refine z_iinc C hnL 2 rfl (v := (nI (y4 + 1))) (nI_1 _) [1, 2, 0, 3] [(0, .ref (y 0)), (1, .int (nI (st 5))), (2, .int (nI (y4 + 1))), (3, .int (nI f))] rfl (Nat.le_of_ble_eq_true rfl) dX5_leastRacks_21 24 rfl ?_
        have hs0 : lrF st r n 4 17 = lrF st r n (y4 + 1) (20 - y4) := by rcases hs with ⟨-, h⟩ | ⟨h, -⟩; exact h; omega
        have hB7 : Bd (un al1 5 (y4 + 1)) (un st 5 (y4 + 1)) r n := Bd_s6 hB1
        have hS7 := okS_un (k := 5) (v := y4 + 1) hS (by decide) (show 4 ≤ y4 + 1 by omega) (show y4 + 1 ≤ 20 by omega)
        have hmb7 := mND_le hS7 hJ
        have hmb : mND st r n ≤ 20 := hmb7
        refine z_aload_n C 0 rfl rfl dX5_leastRacks_24 25 rfl ?_
        refine z_get C zc5 iX5_leastRacks_X5 0 0 rfl rfl 0 (Nat.le_of_ble_eq_true rfl) (List.mem_of_getElem? (i := 1) rfl) (v := .ref (y 1)) rfl dX5_leastRacks_25 28 rfl ?_
        refine z_iconst C (v := nI 5) rfl dX5_leastRacks_28 29 rfl ?_
        refine z_iload_n C 2 rfl rfl dX5_leastRacks_29 30 rfl ?_
        refine z_iast C (f := al1) 0 1 rfl rfl (by omega) (by decide) (wM K.g y (un al1 5 (y4 + 1)) kept hist hl slo sav bg1 pr1 frm txt tl sp tol rd) rfl [wM K.g y (un al1 5 (y4 + 1)) kept hist hl slo sav bg1 pr1 frm txt tl sp tol rd] rfl dX5_leastRacks_30 31 rfl ?_
        refine z_aload_n C 0 rfl rfl dX5_leastRacks_31 32 rfl ?_
        refine z_callV C [] [] (tX5_mostNeeded K.l K.g y (un al1 5 (y4 + 1)) kept hist hl slo sav bg1 pr1 frm txt tl sp tol rd (un st 5 (y4 + 1)) r n hn hB7 hS7 hJ) gX5_leastRacks_X5_mostNeeded rfl rfl rfl hdX5_mostNeeded ⟨Nat.le_of_ble_eq_true rfl, Nat.le_of_ble_eq_true rfl⟩ ⟨Nat.zero_le _, Nat.zero_le _⟩ 0 0 rfl rfl rfl [0] rfl rfl (zlc (N := 1) rfl rfl) [1] rfl (by decide) (fun _ : Unit => [wM K.g y (un al1 5 (y4 + 1)) kept hist hl slo sav bg1 pr1 frm txt tl sp tol rd]) (fun _ => rfl) rfl rfl (Nat.le_of_ble_eq_true rfl) dX5_leastRacks_32 35 rfl (fun u9 hu9 => ?_)
        show Z K 0 0 [wM K.g y (un al1 5 (y4 + 1)) kept hist hl slo sav bg1 pr1 frm txt tl sp tol rd] [(0, .ref (y 0)), (1, .int (nI (st 5))), (2, .int (nI (y4 + 1))), (3, .int (nI f))] 35 [.int (nI (mND (un st 5 (y4 + 1)) r n))]
        refine z_top (show nI (mND (un st 5 (y4 + 1)) r n) = nI (mND st r n) from rfl) ?_
        refine z_iload_n C 2 rfl rfl dX5_leastRacks_35 36 rfl ?_
        refine z_icmp_gt C (by omega) (by omega) 11 dX5_leastRacks_36 (by decide) 39 rfl (fun c_5 => ?_) (fun c_5 => ?_)
        · skip
          exact ih11 _ (by omega) (y4 + 1) f (y4 + 1) (un al1 5 (y4 + 1)) bg1 pr1 rfl (by omega) hB7 (Or.inl ⟨by omega, by rw [hs0]; exact lrF_n4 (by omega) (fun z => by first | omega | (have h6 := sm_W5 hP hE; omega))⟩)
        · skip
          refine z_aload_n C 0 rfl rfl dX5_leastRacks_39 40 rfl ?_
          refine z_callV C [] [] (tX5_prints K.l K.g y (un al1 5 (y4 + 1)) kept hist hl slo sav bg1 pr1 frm txt tl sp tol rd (un st 5 (y4 + 1)) r n hn hB7 hS7 hJ (fun j hj => Nat.le_trans (mND_ge (st := st) hj) (by rw [un_s]; omega))) gX5_leastRacks_X5_prints rfl rfl rfl hdX5_prints ⟨Nat.le_of_ble_eq_true rfl, Nat.le_of_ble_eq_true rfl⟩ ⟨Nat.zero_le _, Nat.zero_le _⟩ 0 0 rfl rfl rfl [0] rfl rfl (zlc (N := 1) rfl rfl) [1] rfl (by decide) (fun u : (Nat → Nat) × (Nat → Nat) => match u with | (beg2, prt2) => [wM K.g y (un al1 5 (y4 + 1)) kept hist hl slo sav beg2 prt2 frm txt tl sp tol rd]) (fun _ => rfl) rfl rfl (Nat.le_of_ble_eq_true rfl) dX5_leastRacks_40 43 rfl (fun u9 hu9 => ?_)
          obtain ⟨beg2, prt2⟩ := u9
          obtain ⟨hP, hE, hp⟩ := hu9
          have hP : isP (un st 5 (y4 + 1)) r ((un st 5 (y4 + 1)) 5) prt2 n := hP
          have hE : ∀ i, i < n → beg2 i + (rdy (un st 5 (y4 + 1)) r i + r 2 i * (un st 5 (y4 + 1)) 3) = prt2 i := hE
          have hp : ∀ i, i < n → prt2 i ≤ 14400 := hp
          show Z K 0 0 [wM K.g y (un al1 5 (y4 + 1)) kept hist hl slo sav beg2 prt2 frm txt tl sp tol rd] [(0, .ref (y 0)), (1, .int (nI (st 5))), (2, .int (nI (y4 + 1))), (3, .int (nI f))] 43 []
          have hp30 : ∀ i, i < n → prt2 i ≤ 30000 := fun i hi => Nat.le_trans (hp i hi) (by decide)
          refine z_aload_n C 0 rfl rfl dX5_leastRacks_43 44 rfl ?_
          refine z_bipush C (v := nI 16) rfl dX5_leastRacks_44 46 rfl ?_
          refine z_callV C [.int (nI 16)] [] (tX5_sumOf_16 K.l K.g y (un al1 5 (y4 + 1)) kept hist hl slo sav beg2 prt2 frm txt tl sp tol rd (un st 5 (y4 + 1)) r n hn hB7 hS7 hJ (by first | omega | assumption) (fun i hi => BF_e hP hE hi)) gX5_leastRacks_X5_sumOf rfl rfl rfl hdX5_sumOf ⟨Nat.le_of_ble_eq_true rfl, Nat.le_of_ble_eq_true rfl⟩ ⟨Nat.zero_le _, Nat.zero_le _⟩ 0 0 rfl rfl rfl [0] rfl rfl (zlc (N := 1) rfl rfl) [1] rfl (by decide) (fun _ : Unit => [wM K.g y (un al1 5 (y4 + 1)) kept hist hl slo sav beg2 prt2 frm txt tl sp tol rd]) (fun _ => rfl) rfl rfl (Nat.le_of_ble_eq_true rfl) dX5_leastRacks_46 49 rfl (fun u9 hu9 => ?_)
          show Z K 0 0 [wM K.g y (un al1 5 (y4 + 1)) kept hist hl slo sav beg2 prt2 frm txt tl sp tol rd] [(0, .ref (y 0)), (1, .int (nI (st 5))), (2, .int (nI (y4 + 1))), (3, .int (nI f))] 49 [.int (nI (sm (fun i => beg2 i - fre prt2 i) n))]
          have hsb := sm_Wb hn hP hE hp
          refine z_if_ne C (by omega) 56 dX5_leastRacks_49 (by decide) 52 rfl (fun c_6 => ?_) (fun c_6 => ?_)
          · skip
            refine z_iconst C (v := nI 0) rfl dX5_leastRacks_56 57 rfl ?_
            refine z_istore_n C hnL [1, 2, 3, 0] [(0, .ref (y 0)), (1, .int (nI (st 5))), (2, .int (nI (y4 + 1))), (3, .int (nI 0))] rfl rfl (Nat.le_of_ble_eq_true rfl) dX5_leastRacks_57 58 rfl ?_
            refine z_goto C 11 dX5_leastRacks_58 (by decide) ?_
            exact ih11 _ (by omega) (y4 + 1) 0 (y4 + 1) (un al1 5 (y4 + 1)) beg2 prt2 rfl (by omega) hB7 (Or.inl ⟨by omega, by rw [hs0]; exact lrF_n4 (by omega) (fun z => by first | omega | (have h6 := sm_W5 hP hE; omega))⟩)
          · skip
            refine z_iconst C (v := nI 1) rfl dX5_leastRacks_52 53 rfl ?_
            refine z_goto C 57 dX5_leastRacks_53 (by decide) ?_
            refine z_istore_n C hnL [1, 2, 3, 0] [(0, .ref (y 0)), (1, .int (nI (st 5))), (2, .int (nI (y4 + 1))), (3, .int (nI 1))] rfl rfl (Nat.le_of_ble_eq_true rfl) dX5_leastRacks_57 58 rfl ?_
            refine z_goto C 11 dX5_leastRacks_58 (by decide) ?_
            exact ih11 _ (by omega) (y4 + 1) 1 (y4 + 1) (un al1 5 (y4 + 1)) beg2 prt2 rfl (by omega) hB7 (Or.inr ⟨rfl, by rw [hs0]; exact lrF_y4 (by omega) (by omega) (by rw [← sm_W5 hP hE]; omega)⟩)
  exact loop11 _ 3 0 (st 5) all beg prt rfl (by omega) (Bd_s5 hB) (Or.inl ⟨rfl, rfl⟩)

theorem iX5_undo_X5 : ∀ w ∈ u_ws RX5 TX5 14, w ∈ wsX5_undo := fun w h => (List.mem_cons_of_mem _ (List.mem_append_right _ h))
set_option maxHeartbeats 4000000 in
set_option maxRecDepth 100000 in
theorem tX5_undo_np (l : Launch) (g : zG) (y all kept hist : Nat → Nat) (hl : Nat) (slo sav beg prt frm txt : Nat → Nat) (tl sp : Nat) (tol : Nat → Nat) (rd : Nat) (hk : hl = 0) : Met l yX5_undo wsX5_undo ({ frames := 0, cells := 0, slots := 0, locals := 0 } : Room) (zPre g [.ref (y 0)] [wM g y all kept hist hl slo sav beg prt frm txt tl sp tol rd]) (zQ g (fun _ : Unit => some (.int (-5)) ) (fun _ : Unit => True) (fun _ : Unit => [wM g y all kept hist hl slo sav beg prt frm txt tl sp tol rd]) (zA [wM g y all kept hist hl slo sav beg prt frm txt tl sp tol rd])) 0 0 (zA [wM g y all kept hist hl slo sav beg prt frm txt tl sp tol rd]) := by
  refine z_entry (cc := cX5_undo) (maxL := 2) (ret := (some .int)) (own := RX5) (by decide) rfl rfl (Nat.le_of_ble_eq_true rfl) [(0, .ref (y 0))] rfl ?_
  intro K hKl hKg hnL C hRx
  subst hKl
  subst hKg
  refine z_aload_n C 0 rfl rfl dX5_undo_0 1 rfl ?_
  refine z_get C zc5 iX5_undo_X5 0 0 rfl rfl 3 (Nat.le_of_ble_eq_true rfl) (List.mem_of_getElem? (i := 1) rfl) (v := .int (nI hl)) rfl dX5_undo_1 4 rfl ?_
  refine z_if_ne C (by omega) 10 dX5_undo_4 (by decide) 7 rfl (fun c_1 => ?_) (fun c_1 => ?_)
  · exfalso; omega
  refine z_bipush C (v := (-5)) rfl dX5_undo_7 9 rfl ?_
  exact z_iret C hRx dX5_undo_9 () rfl trivial rfl

set_option maxHeartbeats 4000000 in
set_option maxRecDepth 100000 in
theorem tX5_undo_ok (l : Launch) (g : zG) (y all kept hist : Nat → Nat) (hl : Nat) (slo sav beg prt frm txt : Nat → Nat) (tl sp : Nat) (tol : Nat → Nat) (rd : Nat) (st : Nat → Nat) (r : Nat → Nat → Nat) (n : Nat) (hl6 : hl ≤ 6) (hk : 0 < hl) (hBs : Bd (fun u => hist (56 * (hl - 1) + u)) st r n) (hn : n ≤ 12) : Met l yX5_undo wsX5_undo ({ frames := 0, cells := 0, slots := 0, locals := 0 } : Room) (zPre g [.ref (y 0)] [wM g y all kept hist hl slo sav beg prt frm txt tl sp tol rd]) (zQ g (fun all2 : Nat → Nat => some (.int (nI (hl - 1))) ) (fun all2 : Nat → Nat => (Bd all2 st r n)) (fun all2 : Nat → Nat => [wM g y all2 kept hist (hl - 1) slo sav beg prt frm txt tl sp tol rd]) (zA [wM g y all kept hist hl slo sav beg prt frm txt tl sp tol rd])) 0 0 (zA [wM g y all kept hist hl slo sav beg prt frm txt tl sp tol rd]) := by
  refine z_entry (cc := cX5_undo) (maxL := 2) (ret := (some .int)) (own := RX5) (by decide) rfl rfl (Nat.le_of_ble_eq_true rfl) [(0, .ref (y 0))] rfl ?_
  intro K hKl hKg hnL C hRx
  subst hKl
  subst hKg
  refine z_aload_n C 0 rfl rfl dX5_undo_0 1 rfl ?_
  refine z_get C zc5 iX5_undo_X5 0 0 rfl rfl 3 (Nat.le_of_ble_eq_true rfl) (List.mem_of_getElem? (i := 1) rfl) (v := .int (nI hl)) rfl dX5_undo_1 4 rfl ?_
  refine z_if_ne C (by omega) 10 dX5_undo_4 (by decide) 7 rfl (fun c_1 => ?_) (fun c_1 => ?_)
  rotate_left
  · exfalso; omega
  refine z_aload_n C 0 rfl rfl dX5_undo_10 11 rfl ?_
  refine z_dup C rfl dX5_undo_11 12 rfl ?_
  refine z_get C zc5 iX5_undo_X5 0 0 rfl rfl 3 (Nat.le_of_ble_eq_true rfl) (List.mem_of_getElem? (i := 1) rfl) (v := .int (nI hl)) rfl dX5_undo_12 15 rfl ?_
  refine z_iconst C (v := nI 1) rfl dX5_undo_15 16 rfl ?_
  refine z_isub C (by omega) dX5_undo_16 17 rfl ?_
  refine z_put C zc5 iX5_undo_X5 0 0 rfl rfl 3 (Nat.le_of_ble_eq_true rfl) (List.mem_of_getElem? (i := 1) rfl) rfl rfl rfl (Nat.le_of_ble_eq_true rfl) (wM K.g y all kept hist (hl - 1) slo sav beg prt frm txt tl sp tol rd) rfl [wM K.g y all kept hist (hl - 1) slo sav beg prt frm txt tl sp tol rd] rfl dX5_undo_17 20 rfl ?_
  refine z_iconst C (v := nI 0) rfl dX5_undo_20 21 rfl ?_
  refine z_istore_n C hnL [1, 0] [(0, .ref (y 0)), (1, .int (nI 0))] rfl rfl (Nat.le_of_ble_eq_true rfl) dX5_undo_21 22 rfl ?_
  have loop22 : ∀ (mu : Nat) (k9 : Nat) (f : Nat → Nat), mu = 56 - k9 → k9 ≤ 56 → (∀ u, u < k9 → f u = hist (56 * (hl - 1) + u)) → Z K 0 0 [wM K.g y f kept hist (hl - 1) slo sav beg prt frm txt tl sp tol rd] [(0, .ref (y 0)), (1, .int (nI k9))] 22 [] := by
    refine z_ind (fun mu ih22 => ?_)
    intro k9 f hmu22 hk9 hf
    refine z_iload_n C 1 rfl rfl dX5_undo_22 23 rfl ?_
    refine z_bipush C (v := nI 56) rfl dX5_undo_23 25 rfl ?_
    refine z_icmp_ge C (by omega) (by omega) 54 dX5_undo_25 (by decide) 28 rfl (fun c_2 => ?_) (fun c_2 => ?_)
    · skip
      refine z_aload_n C 0 rfl rfl dX5_undo_54 55 rfl ?_
      refine z_get C zc5 iX5_undo_X5 0 0 rfl rfl 3 (Nat.le_of_ble_eq_true rfl) (List.mem_of_getElem? (i := 1) rfl) (v := .int (nI (hl - 1))) rfl dX5_undo_55 58 rfl ?_
      exact z_iret C hRx dX5_undo_58 f rfl (Bd_cp hBs hn (fun u hu => hf u (by omega))) rfl
    · skip
      refine z_aload_n C 0 rfl rfl dX5_undo_28 29 rfl ?_
      refine z_get C zc5 iX5_undo_X5 0 0 rfl rfl 0 (Nat.le_of_ble_eq_true rfl) (List.mem_of_getElem? (i := 2) rfl) (v := .ref (y 1)) rfl dX5_undo_29 32 rfl ?_
      refine z_iload_n C 1 rfl rfl dX5_undo_32 33 rfl ?_
      refine z_aload_n C 0 rfl rfl dX5_undo_33 34 rfl ?_
      refine z_get C zc5 iX5_undo_X5 0 0 rfl rfl 2 (Nat.le_of_ble_eq_true rfl) (List.mem_of_getElem? (i := 3) rfl) (v := .ref (y 3)) rfl dX5_undo_34 37 rfl ?_
      refine z_bipush C (v := nI 56) rfl dX5_undo_37 39 rfl ?_
      refine z_aload_n C 0 rfl rfl dX5_undo_39 40 rfl ?_
      refine z_get C zc5 iX5_undo_X5 0 0 rfl rfl 3 (Nat.le_of_ble_eq_true rfl) (List.mem_of_getElem? (i := 1) rfl) (v := .int (nI (hl - 1))) rfl dX5_undo_40 43 rfl ?_
      refine z_imul C dX5_undo_43 44 rfl ?_
      refine z_iload_n C 1 rfl rfl dX5_undo_44 45 rfl ?_
      refine z_iadd C dX5_undo_45 46 rfl ?_
      refine z_iald C (f := hist) 0 3 rfl rfl (by omega) (by decide) dX5_undo_46 47 rfl ?_
      refine z_iast C (f := f) 0 1 rfl rfl (by omega) (by decide) (wM K.g y (un f k9 (hist ((56 * (hl - 1)) + k9))) kept hist (hl - 1) slo sav beg prt frm txt tl sp tol rd) rfl [wM K.g y (un f k9 (hist ((56 * (hl - 1)) + k9))) kept hist (hl - 1) slo sav beg prt frm txt tl sp tol rd] rfl dX5_undo_47 48 rfl ?_
      refine z_iinc C hnL 1 rfl (v := (nI (k9 + 1))) (nI_1 _) [1, 0] [(0, .ref (y 0)), (1, .int (nI (k9 + 1)))] rfl (Nat.le_of_ble_eq_true rfl) dX5_undo_48 51 rfl ?_
      refine z_goto C 22 dX5_undo_51 (by decide) ?_
      exact ih22 _ (by omega) (k9 + 1) (un f k9 (hist ((56 * (hl - 1)) + k9))) rfl (by omega) (fun u hu => by
      by_cases e : u = k9
      · subst e; rw [un_s]
      · rw [un_n e]; exact hf u (by omega))
  exact loop22 _ 0 all rfl (by omega) (fun u hu => by omega)

set_option maxHeartbeats 4000000 in
set_option maxRecDepth 100000 in
theorem tX5_isSlot_n (l : Launch) (g : zG) (w : Int32) (hb : rg w.toInt (Int.ofNat 0) (Int.ofNat 1) = false) : Met l yX5_isSlot wsX5_isSlot ({ frames := 0, cells := 0, slots := 0, locals := 0 } : Room) (zPre g [.int w] []) (zQ g (fun _ : Unit => some (.int (bI false)) ) (fun _ : Unit => True) (fun _ : Unit => []) (zA [])) 0 0 (zA []) := by
  refine z_entry (cc := cX5_isSlot) (maxL := 1) (ret := (some .boolean)) (own := RX5) (by decide) rfl rfl (Nat.le_of_ble_eq_true rfl) [(0, .int w)] rfl ?_
  intro K hKl hKg hnL C hRx
  subst hKl
  subst hKg
  refine z_iload_n C 0 rfl rfl dX5_isSlot_0 1 rfl ?_
  refine z_ifI_eq C 9 dX5_isSlot_1 (by decide) 4 rfl (fun c_1 => ?_) (fun c_1 => ?_)
  · exfalso; exact slot_n hb (Or.inl c_1)
  refine z_iload_n C 0 rfl rfl dX5_isSlot_4 5 rfl ?_
  refine z_iconst C (v := nI 1) rfl dX5_isSlot_5 6 rfl ?_
  refine z_icmpI_ne C 13 dX5_isSlot_6 (by decide) 9 rfl (fun c_2 => ?_) (fun c_2 => ?_)
  rotate_left
  · exfalso; exact slot_n hb (Or.inr (by first | exact c_2 | exact Decidable.not_not.mp c_2))
  refine z_iconst C (v := nI 0) rfl dX5_isSlot_13 14 rfl ?_
  refine z_eq (st2 := [.int (bI false)]) ?_ rfl rfl rfl
  exact z_bret C hRx dX5_isSlot_14 () rfl trivial rfl

set_option maxHeartbeats 4000000 in
set_option maxRecDepth 100000 in
theorem tX5_isSlot (l : Launch) (g : zG) (k : Nat) (hk : k ≤ 1) : Met l yX5_isSlot wsX5_isSlot ({ frames := 0, cells := 0, slots := 0, locals := 0 } : Room) (zPre g [.int (nI k)] []) (zQ g (fun _ : Unit => some (.int (bI true)) ) (fun _ : Unit => True) (fun _ : Unit => []) (zA [])) 0 0 (zA []) := by
  refine z_entry (cc := cX5_isSlot) (maxL := 1) (ret := (some .boolean)) (own := RX5) (by decide) rfl rfl (Nat.le_of_ble_eq_true rfl) [(0, .int (nI k))] rfl ?_
  intro K hKl hKg hnL C hRx
  subst hKl
  subst hKg
  refine z_iload_n C 0 rfl rfl dX5_isSlot_0 1 rfl ?_
  refine z_if_eq C (by omega) 9 dX5_isSlot_1 (by decide) 4 rfl (fun c_1 => ?_) (fun c_1 => ?_)
  · skip
    refine z_iconst C (v := nI 1) rfl dX5_isSlot_9 10 rfl ?_
    refine z_goto C 14 dX5_isSlot_10 (by decide) ?_
    refine z_eq (st2 := [.int (bI true)]) ?_ rfl rfl rfl
    exact z_bret C hRx dX5_isSlot_14 () rfl trivial rfl
  · skip
    refine z_iload_n C 0 rfl rfl dX5_isSlot_4 5 rfl ?_
    refine z_iconst C (v := nI 1) rfl dX5_isSlot_5 6 rfl ?_
    refine z_icmp_ne C (by omega) (by omega) 13 dX5_isSlot_6 (by decide) 9 rfl (fun c_2 => ?_) (fun c_2 => ?_)
    · exfalso; omega
    refine z_iconst C (v := nI 1) rfl dX5_isSlot_9 10 rfl ?_
    refine z_goto C 14 dX5_isSlot_10 (by decide) ?_
    refine z_eq (st2 := [.int (bI true)]) ?_ rfl rfl rfl
    exact z_bret C hRx dX5_isSlot_14 () rfl trivial rfl

set_option maxHeartbeats 4000000 in
set_option maxRecDepth 100000 in
theorem tX5_save_bv (l : Launch) (g : zG) (y all kept hist : Nat → Nat) (hl : Nat) (slo sav beg prt frm txt : Nat → Nat) (tl sp : Nat) (tol : Nat → Nat) (rd : Nat) (w : Int32) (hb : rg w.toInt (Int.ofNat 0) (Int.ofNat 1) = false) : Met l yX5_save wsX5_save ({ frames := 1, cells := 0, slots := 0, locals := 20 } : Room) (zPre g [.ref (y 0), .int w] [wM g y all kept hist hl slo sav beg prt frm txt tl sp tol rd]) (zQ g (fun _ : Unit => some (.int (-2)) ) (fun _ : Unit => True) (fun _ : Unit => [wM g y all kept hist hl slo sav beg prt frm txt tl sp tol rd]) (zA [wM g y all kept hist hl slo sav beg prt frm txt tl sp tol rd])) 0 0 (zA [wM g y all kept hist hl slo sav beg prt frm txt tl sp tol rd]) := by
  refine z_entry (cc := cX5_save) (maxL := 3) (ret := (some .int)) (own := RX5) (by decide) rfl rfl (Nat.le_of_ble_eq_true rfl) [(0, .ref (y 0)), (1, .int w)] rfl ?_
  intro K hKl hKg hnL C hRx
  subst hKl
  subst hKg
  refine z_iload_n C 1 rfl rfl dX5_save_0 1 rfl ?_
  refine z_callP C [.int w] [] (tX5_isSlot_n K.l K.g w (by first | omega | assumption)) gX5_save_X5_isSlot rfl rfl rfl hdX5_isSlot ⟨Nat.le_of_ble_eq_true rfl, Nat.le_of_ble_eq_true rfl⟩ ⟨Nat.zero_le _, Nat.zero_le _⟩ rfl rfl (Nat.le_of_ble_eq_true rfl) dX5_save_1 4 rfl (fun u9 hu9 => ?_)
  show Z K 0 0 [wM K.g y all kept hist hl slo sav beg prt frm txt tl sp tol rd] [(0, .ref (y 0)), (1, .int w)] 4 [.int (bI false)]
  refine z_ifb_ne C 10 dX5_save_4 (by decide) 7 rfl (fun c_1 => ?_) (fun c_1 => ?_)
  · exfalso; exact absurd c_1 (by decide)
  refine z_bipush C (v := (-2)) rfl dX5_save_7 9 rfl ?_
  exact z_iret C hRx dX5_save_9 () rfl trivial rfl

set_option maxHeartbeats 4000000 in
set_option maxRecDepth 100000 in
theorem tX5_restore_bv (l : Launch) (g : zG) (y all kept hist : Nat → Nat) (hl : Nat) (slo sav beg prt frm txt : Nat → Nat) (tl sp : Nat) (tol : Nat → Nat) (rd : Nat) (w : Int32) (hb : rg w.toInt (Int.ofNat 0) (Int.ofNat 1) = false) : Met l yX5_restore wsX5_restore ({ frames := 1, cells := 0, slots := 0, locals := 21 } : Room) (zPre g [.ref (y 0), .int w] [wM g y all kept hist hl slo sav beg prt frm txt tl sp tol rd]) (zQ g (fun _ : Unit => some (.int (-2)) ) (fun _ : Unit => True) (fun _ : Unit => [wM g y all kept hist hl slo sav beg prt frm txt tl sp tol rd]) (zA [wM g y all kept hist hl slo sav beg prt frm txt tl sp tol rd])) 0 0 (zA [wM g y all kept hist hl slo sav beg prt frm txt tl sp tol rd]) := by
  refine z_entry (cc := cX5_restore) (maxL := 3) (ret := (some .int)) (own := RX5) (by decide) rfl rfl (Nat.le_of_ble_eq_true rfl) [(0, .ref (y 0)), (1, .int w)] rfl ?_
  intro K hKl hKg hnL C hRx
  subst hKl
  subst hKg
  refine z_iload_n C 1 rfl rfl dX5_restore_0 1 rfl ?_
  refine z_callP C [.int w] [] (tX5_isSlot_n K.l K.g w (by first | omega | assumption)) gX5_restore_X5_isSlot rfl rfl rfl hdX5_isSlot ⟨Nat.le_of_ble_eq_true rfl, Nat.le_of_ble_eq_true rfl⟩ ⟨Nat.zero_le _, Nat.zero_le _⟩ rfl rfl (Nat.le_of_ble_eq_true rfl) dX5_restore_1 4 rfl (fun u9 hu9 => ?_)
  show Z K 0 0 [wM K.g y all kept hist hl slo sav beg prt frm txt tl sp tol rd] [(0, .ref (y 0)), (1, .int w)] 4 [.int (bI false)]
  refine z_ifb_ne C 10 dX5_restore_4 (by decide) 7 rfl (fun c_1 => ?_) (fun c_1 => ?_)
  · exfalso; exact absurd c_1 (by decide)
  refine z_bipush C (v := (-2)) rfl dX5_restore_7 9 rfl ?_
  exact z_iret C hRx dX5_restore_9 () rfl trivial rfl

theorem iX5_save_X5 : ∀ w ∈ u_ws RX5 TX5 14, w ∈ wsX5_save := fun w h => (List.mem_cons_of_mem _ (List.mem_append_right _ h))
set_option maxHeartbeats 4000000 in
set_option maxRecDepth 100000 in
theorem tX5_save_ok (l : Launch) (g : zG) (y all kept hist : Nat → Nat) (hl : Nat) (slo sav beg prt frm txt : Nat → Nat) (tl sp : Nat) (tol : Nat → Nat) (rd : Nat) (st : Nat → Nat) (r : Nat → Nat → Nat) (n : Nat) (k : Nat) (hn : n ≤ 12) (hB : Bd all st r n) (hk : k ≤ 1) : Met l yX5_save wsX5_save ({ frames := 1, cells := 0, slots := 0, locals := 20 } : Room) (zPre g [.ref (y 0), .int (nI k)] [wM g y all kept hist hl slo sav beg prt frm txt tl sp tol rd]) (zQ g (fun slo2 : Nat → Nat => some (.int (nI n)) ) (fun slo2 : Nat → Nat => (∀ u, u < 112 → slo2 u = if 56 * k ≤ u ∧ u < 56 * k + 56 then all (u - 56 * k) else slo u)) (fun slo2 : Nat → Nat => [wM g y all kept hist hl slo2 (un sav k 1) beg prt frm txt tl sp tol rd]) (zA [wM g y all kept hist hl slo sav beg prt frm txt tl sp tol rd])) 0 0 (zA [wM g y all kept hist hl slo sav beg prt frm txt tl sp tol rd]) := by
  refine z_entry (cc := cX5_save) (maxL := 3) (ret := (some .int)) (own := RX5) (by decide) rfl rfl (Nat.le_of_ble_eq_true rfl) [(0, .ref (y 0)), (1, .int (nI k))] rfl ?_
  intro K hKl hKg hnL C hRx
  subst hKl
  subst hKg
  refine z_iload_n C 1 rfl rfl dX5_save_0 1 rfl ?_
  refine z_callP C [.int (nI k)] [] (tX5_isSlot K.l K.g k (by first | omega | assumption)) gX5_save_X5_isSlot rfl rfl rfl hdX5_isSlot ⟨Nat.le_of_ble_eq_true rfl, Nat.le_of_ble_eq_true rfl⟩ ⟨Nat.zero_le _, Nat.zero_le _⟩ rfl rfl (Nat.le_of_ble_eq_true rfl) dX5_save_1 4 rfl (fun u9 hu9 => ?_)
  show Z K 0 0 [wM K.g y all kept hist hl slo sav beg prt frm txt tl sp tol rd] [(0, .ref (y 0)), (1, .int (nI k))] 4 [.int (bI true)]
  refine z_ifb_ne C 10 dX5_save_4 (by decide) 7 rfl (fun c_1 => ?_) (fun c_1 => ?_)
  rotate_left
  · exfalso; exact absurd c_1 (by decide)
  refine z_iconst C (v := nI 0) rfl dX5_save_10 11 rfl ?_
  refine z_istore_n C hnL [1, 2, 0] [(0, .ref (y 0)), (1, .int (nI k)), (2, .int (nI 0))] rfl rfl (Nat.le_of_ble_eq_true rfl) dX5_save_11 12 rfl ?_
  have loop12 : ∀ (mu : Nat) (i : Nat) (f : Nat → Nat), mu = 56 - i → i ≤ 56 → (∀ u, u < 112 → f u = if 56 * k ≤ u ∧ u < 56 * k + i then all (u - 56 * k) else slo u) → Z K 0 0 [wM K.g y all kept hist hl f sav beg prt frm txt tl sp tol rd] [(0, .ref (y 0)), (1, .int (nI k)), (2, .int (nI i))] 12 [] := by
    refine z_ind (fun mu ih12 => ?_)
    intro i f hmu12 hi hf
    refine z_iload_n C 2 rfl rfl dX5_save_12 13 rfl ?_
    refine z_bipush C (v := nI 56) rfl dX5_save_13 15 rfl ?_
    refine z_icmp_ge C (by omega) (by omega) 41 dX5_save_15 (by decide) 18 rfl (fun c_2 => ?_) (fun c_2 => ?_)
    · skip
      refine z_aload_n C 0 rfl rfl dX5_save_41 42 rfl ?_
      refine z_get C zc5 iX5_save_X5 0 0 rfl rfl 5 (Nat.le_of_ble_eq_true rfl) (List.mem_of_getElem? (i := 3) rfl) (v := .ref (y 5)) rfl dX5_save_42 45 rfl ?_
      refine z_iload_n C 1 rfl rfl dX5_save_45 46 rfl ?_
      refine z_iconst C (v := nI 1) rfl dX5_save_46 47 rfl ?_
      refine z_iast C (f := sav) 0 5 rfl rfl (by omega) (by decide) (wM K.g y all kept hist hl f (un sav k 1) beg prt frm txt tl sp tol rd) rfl [wM K.g y all kept hist hl f (un sav k 1) beg prt frm txt tl sp tol rd] rfl dX5_save_47 48 rfl ?_
      refine z_aload_n C 0 rfl rfl dX5_save_48 49 rfl ?_
      refine z_get C zc5 iX5_save_X5 0 0 rfl rfl 0 (Nat.le_of_ble_eq_true rfl) (List.mem_of_getElem? (i := 2) rfl) (v := .ref (y 1)) rfl dX5_save_49 52 rfl ?_
      refine z_bipush C (v := nI 7) rfl dX5_save_52 54 rfl ?_
      refine z_iald C (f := all) 0 1 rfl rfl (by omega) (by decide) dX5_save_54 55 rfl ?_
      refine z_top (show nI (all 7) = nI n from by rw [hB.2.1]) ?_
      obtain rfl : i = 56 := by omega
      exact z_iret C hRx dX5_save_55 f rfl hf rfl
    · skip
      refine z_aload_n C 0 rfl rfl dX5_save_18 19 rfl ?_
      refine z_get C zc5 iX5_save_X5 0 0 rfl rfl 4 (Nat.le_of_ble_eq_true rfl) (List.mem_of_getElem? (i := 1) rfl) (v := .ref (y 4)) rfl dX5_save_19 22 rfl ?_
      refine z_bipush C (v := nI 56) rfl dX5_save_22 24 rfl ?_
      refine z_iload_n C 1 rfl rfl dX5_save_24 25 rfl ?_
      refine z_imul C dX5_save_25 26 rfl ?_
      refine z_iload_n C 2 rfl rfl dX5_save_26 27 rfl ?_
      refine z_iadd C dX5_save_27 28 rfl ?_
      refine z_aload_n C 0 rfl rfl dX5_save_28 29 rfl ?_
      refine z_get C zc5 iX5_save_X5 0 0 rfl rfl 0 (Nat.le_of_ble_eq_true rfl) (List.mem_of_getElem? (i := 2) rfl) (v := .ref (y 1)) rfl dX5_save_29 32 rfl ?_
      refine z_iload_n C 2 rfl rfl dX5_save_32 33 rfl ?_
      refine z_iald C (f := all) 0 1 rfl rfl (by omega) (by decide) dX5_save_33 34 rfl ?_
      refine z_iast C (f := f) 0 4 rfl rfl (by omega) (by decide) (wM K.g y all kept hist hl (un f ((56 * k) + i) (all i)) sav beg prt frm txt tl sp tol rd) rfl [wM K.g y all kept hist hl (un f ((56 * k) + i) (all i)) sav beg prt frm txt tl sp tol rd] rfl dX5_save_34 35 rfl ?_
      refine z_iinc C hnL 2 rfl (v := (nI (i + 1))) (nI_1 _) [1, 2, 0] [(0, .ref (y 0)), (1, .int (nI k)), (2, .int (nI (i + 1)))] rfl (Nat.le_of_ble_eq_true rfl) dX5_save_35 38 rfl ?_
      refine z_goto C 12 dX5_save_38 (by decide) ?_
      exact ih12 _ (by omega) (i + 1) (un f ((56 * k) + i) (all i)) rfl (by omega) (fun u hu => by
      by_cases e : u = 56 * k + i
      · subst e; rw [un_s, if_pos (by omega)]; congr 1; omega
      · rw [un_n e, hf u hu]; by_cases q : 56 * k ≤ u ∧ u < 56 * k + i
        · rw [if_pos q, if_pos (by omega)]
        · rw [if_neg q, if_neg (by omega)])
  exact loop12 _ 0 slo rfl (by omega) (fun u hu => by rw [if_neg (by omega)])

theorem iX5_restore_X5 : ∀ w ∈ u_ws RX5 TX5 14, w ∈ wsX5_restore := fun w h => (List.mem_cons_of_mem _ (List.mem_append_right _ h))
set_option maxHeartbeats 4000000 in
set_option maxRecDepth 100000 in
theorem tX5_restore_np (l : Launch) (g : zG) (y all kept hist : Nat → Nat) (hl : Nat) (slo sav beg prt frm txt : Nat → Nat) (tl sp : Nat) (tol : Nat → Nat) (rd : Nat) (k : Nat) (hk : k ≤ 1) (hb : sav k = 0) : Met l yX5_restore wsX5_restore ({ frames := 1, cells := 0, slots := 0, locals := 21 } : Room) (zPre g [.ref (y 0), .int (nI k)] [wM g y all kept hist hl slo sav beg prt frm txt tl sp tol rd]) (zQ g (fun _ : Unit => some (.int (-5)) ) (fun _ : Unit => True) (fun _ : Unit => [wM g y all kept hist hl slo sav beg prt frm txt tl sp tol rd]) (zA [wM g y all kept hist hl slo sav beg prt frm txt tl sp tol rd])) 0 0 (zA [wM g y all kept hist hl slo sav beg prt frm txt tl sp tol rd]) := by
  refine z_entry (cc := cX5_restore) (maxL := 3) (ret := (some .int)) (own := RX5) (by decide) rfl rfl (Nat.le_of_ble_eq_true rfl) [(0, .ref (y 0)), (1, .int (nI k))] rfl ?_
  intro K hKl hKg hnL C hRx
  subst hKl
  subst hKg
  refine z_iload_n C 1 rfl rfl dX5_restore_0 1 rfl ?_
  refine z_callP C [.int (nI k)] [] (tX5_isSlot K.l K.g k (by first | omega | assumption)) gX5_restore_X5_isSlot rfl rfl rfl hdX5_isSlot ⟨Nat.le_of_ble_eq_true rfl, Nat.le_of_ble_eq_true rfl⟩ ⟨Nat.zero_le _, Nat.zero_le _⟩ rfl rfl (Nat.le_of_ble_eq_true rfl) dX5_restore_1 4 rfl (fun u9 hu9 => ?_)
  show Z K 0 0 [wM K.g y all kept hist hl slo sav beg prt frm txt tl sp tol rd] [(0, .ref (y 0)), (1, .int (nI k))] 4 [.int (bI true)]
  refine z_ifb_ne C 10 dX5_restore_4 (by decide) 7 rfl (fun c_1 => ?_) (fun c_1 => ?_)
  rotate_left
  · exfalso; exact absurd c_1 (by decide)
  refine z_aload_n C 0 rfl rfl dX5_restore_10 11 rfl ?_
  refine z_get C zc5 iX5_restore_X5 0 0 rfl rfl 5 (Nat.le_of_ble_eq_true rfl) (List.mem_of_getElem? (i := 1) rfl) (v := .ref (y 5)) rfl dX5_restore_11 14 rfl ?_
  refine z_iload_n C 1 rfl rfl dX5_restore_14 15 rfl ?_
  refine z_iald C (f := sav) 0 5 rfl rfl (by omega) (by decide) dX5_restore_15 16 rfl ?_
  refine z_if_ne C (by omega) 22 dX5_restore_16 (by decide) 19 rfl (fun c_2 => ?_) (fun c_2 => ?_)
  · exfalso; omega
  refine z_bipush C (v := (-5)) rfl dX5_restore_19 21 rfl ?_
  exact z_iret C hRx dX5_restore_21 () rfl trivial rfl

set_option maxHeartbeats 4000000 in
set_option maxRecDepth 100000 in
theorem tX5_restore_ok (l : Launch) (g : zG) (y all kept hist : Nat → Nat) (hl : Nat) (slo sav beg prt frm txt : Nat → Nat) (tl sp : Nat) (tol : Nat → Nat) (rd : Nat) (st : Nat → Nat) (r : Nat → Nat → Nat) (n : Nat) (k : Nat) (hl6 : hl ≤ 6) (hk : k ≤ 1) (hb : sav k = 1) (hBs : Bd (fun u => slo (56 * k + u)) st r n) (hn : n ≤ 12) : Met l yX5_restore wsX5_restore ({ frames := 1, cells := 0, slots := 0, locals := 21 } : Room) (zPre g [.ref (y 0), .int (nI k)] [wM g y all kept hist hl slo sav beg prt frm txt tl sp tol rd]) (zQ g (fun u : (Nat → Nat) × (Nat → Nat) × (Nat) => match u with | (all2, hist2, hl2) => some (.int (nI n)) ) (fun u : (Nat → Nat) × (Nat → Nat) × (Nat) => match u with | (all2, hist2, hl2) => (Bd all2 st r n) ∧ (HCh all hist hl hist2 hl2)) (fun u : (Nat → Nat) × (Nat → Nat) × (Nat) => match u with | (all2, hist2, hl2) => [wM g y all2 kept hist2 hl2 slo sav beg prt frm txt tl sp tol rd]) (zA [wM g y all kept hist hl slo sav beg prt frm txt tl sp tol rd])) 0 0 (zA [wM g y all kept hist hl slo sav beg prt frm txt tl sp tol rd]) := by
  refine z_entry (cc := cX5_restore) (maxL := 3) (ret := (some .int)) (own := RX5) (by decide) rfl rfl (Nat.le_of_ble_eq_true rfl) [(0, .ref (y 0)), (1, .int (nI k))] rfl ?_
  intro K hKl hKg hnL C hRx
  subst hKl
  subst hKg
  refine z_iload_n C 1 rfl rfl dX5_restore_0 1 rfl ?_
  refine z_callP C [.int (nI k)] [] (tX5_isSlot K.l K.g k (by first | omega | assumption)) gX5_restore_X5_isSlot rfl rfl rfl hdX5_isSlot ⟨Nat.le_of_ble_eq_true rfl, Nat.le_of_ble_eq_true rfl⟩ ⟨Nat.zero_le _, Nat.zero_le _⟩ rfl rfl (Nat.le_of_ble_eq_true rfl) dX5_restore_1 4 rfl (fun u9 hu9 => ?_)
  show Z K 0 0 [wM K.g y all kept hist hl slo sav beg prt frm txt tl sp tol rd] [(0, .ref (y 0)), (1, .int (nI k))] 4 [.int (bI true)]
  refine z_ifb_ne C 10 dX5_restore_4 (by decide) 7 rfl (fun c_1 => ?_) (fun c_1 => ?_)
  rotate_left
  · exfalso; exact absurd c_1 (by decide)
  refine z_aload_n C 0 rfl rfl dX5_restore_10 11 rfl ?_
  refine z_get C zc5 iX5_restore_X5 0 0 rfl rfl 5 (Nat.le_of_ble_eq_true rfl) (List.mem_of_getElem? (i := 1) rfl) (v := .ref (y 5)) rfl dX5_restore_11 14 rfl ?_
  refine z_iload_n C 1 rfl rfl dX5_restore_14 15 rfl ?_
  refine z_iald C (f := sav) 0 5 rfl rfl (by omega) (by decide) dX5_restore_15 16 rfl ?_
  refine z_if_ne C (by omega) 22 dX5_restore_16 (by decide) 19 rfl (fun c_2 => ?_) (fun c_2 => ?_)
  rotate_left
  · exfalso; omega
  refine z_aload_n C 0 rfl rfl dX5_restore_22 23 rfl ?_
  refine z_callV C [] [] (tX5_changes K.l K.g y all kept hist hl slo sav beg prt frm txt tl sp tol rd (by first | omega | assumption)) gX5_restore_X5_changes rfl rfl rfl hdX5_changes ⟨Nat.le_of_ble_eq_true rfl, Nat.le_of_ble_eq_true rfl⟩ ⟨Nat.zero_le _, Nat.zero_le _⟩ 0 0 rfl rfl rfl [0] rfl rfl (zlc (N := 1) rfl rfl) [1] rfl (by decide) (fun u : (Nat → Nat) × (Nat) => match u with | (hist2, hl2) => [wM K.g y all kept hist2 hl2 slo sav beg prt frm txt tl sp tol rd]) (fun _ => rfl) rfl rfl (Nat.le_of_ble_eq_true rfl) dX5_restore_23 26 rfl (fun u9 hu9 => ?_)
  obtain ⟨hist2, hl2⟩ := u9
  obtain ⟨hh1, hh2, hh3⟩ := hu9
  have hh1 : hl2 = min (hl + 1) 6 := hh1
  have hh2 : ∀ u, u < 56 → hist2 (56 * (hl2 - 1) + u) = all u := hh2
  have hh3 : ∀ e u, e + 1 < hl2 → u < 56 → hist2 (56 * e + u) = hist (56 * (e + (hl + 1 - hl2)) + u) := hh3
  show Z K 0 0 [wM K.g y all kept hist2 hl2 slo sav beg prt frm txt tl sp tol rd] [(0, .ref (y 0)), (1, .int (nI k))] 26 []
  have hC : HCh all hist hl hist2 hl2 := ⟨hh1, hh2, hh3⟩
  refine z_iconst C (v := nI 0) rfl dX5_restore_26 27 rfl ?_
  refine z_istore_n C hnL [1, 2, 0] [(0, .ref (y 0)), (1, .int (nI k)), (2, .int (nI 0))] rfl rfl (Nat.le_of_ble_eq_true rfl) dX5_restore_27 28 rfl ?_
  have loop28 : ∀ (mu : Nat) (k9 : Nat) (f : Nat → Nat), mu = 56 - k9 → k9 ≤ 56 → (∀ u, u < k9 → f u = slo (56 * k + u)) → Z K 0 0 [wM K.g y f kept hist2 hl2 slo sav beg prt frm txt tl sp tol rd] [(0, .ref (y 0)), (1, .int (nI k)), (2, .int (nI k9))] 28 [] := by
    refine z_ind (fun mu ih28 => ?_)
    intro k9 f hmu28 hk9 hf
    refine z_iload_n C 2 rfl rfl dX5_restore_28 29 rfl ?_
    refine z_bipush C (v := nI 56) rfl dX5_restore_29 31 rfl ?_
    refine z_icmp_ge C (by omega) (by omega) 57 dX5_restore_31 (by decide) 34 rfl (fun c_3 => ?_) (fun c_3 => ?_)
    · skip
      have hB9 : Bd f st r n := Bd_cp hBs hn (fun u hu => hf u (by omega))
      refine z_aload_n C 0 rfl rfl dX5_restore_57 58 rfl ?_
      refine z_get C zc5 iX5_restore_X5 0 0 rfl rfl 0 (Nat.le_of_ble_eq_true rfl) (List.mem_of_getElem? (i := 2) rfl) (v := .ref (y 1)) rfl dX5_restore_58 61 rfl ?_
      refine z_bipush C (v := nI 7) rfl dX5_restore_61 63 rfl ?_
      refine z_iald C (f := f) 0 1 rfl rfl (by omega) (by decide) dX5_restore_63 64 rfl ?_
      refine z_top (show nI (f 7) = nI n from by rw [hB9.2.1]) ?_
      exact z_iret C hRx dX5_restore_64 (f, hist2, hl2) rfl (⟨hB9, hC⟩) rfl
    · skip
      refine z_aload_n C 0 rfl rfl dX5_restore_34 35 rfl ?_
      refine z_get C zc5 iX5_restore_X5 0 0 rfl rfl 0 (Nat.le_of_ble_eq_true rfl) (List.mem_of_getElem? (i := 2) rfl) (v := .ref (y 1)) rfl dX5_restore_35 38 rfl ?_
      refine z_iload_n C 2 rfl rfl dX5_restore_38 39 rfl ?_
      refine z_aload_n C 0 rfl rfl dX5_restore_39 40 rfl ?_
      refine z_get C zc5 iX5_restore_X5 0 0 rfl rfl 4 (Nat.le_of_ble_eq_true rfl) (List.mem_of_getElem? (i := 3) rfl) (v := .ref (y 4)) rfl dX5_restore_40 43 rfl ?_
      refine z_bipush C (v := nI 56) rfl dX5_restore_43 45 rfl ?_
      refine z_iload_n C 1 rfl rfl dX5_restore_45 46 rfl ?_
      refine z_imul C dX5_restore_46 47 rfl ?_
      refine z_iload_n C 2 rfl rfl dX5_restore_47 48 rfl ?_
      refine z_iadd C dX5_restore_48 49 rfl ?_
      refine z_iald C (f := slo) 0 4 rfl rfl (by omega) (by decide) dX5_restore_49 50 rfl ?_
      refine z_iast C (f := f) 0 1 rfl rfl (by omega) (by decide) (wM K.g y (un f k9 (slo ((56 * k) + k9))) kept hist2 hl2 slo sav beg prt frm txt tl sp tol rd) rfl [wM K.g y (un f k9 (slo ((56 * k) + k9))) kept hist2 hl2 slo sav beg prt frm txt tl sp tol rd] rfl dX5_restore_50 51 rfl ?_
      refine z_iinc C hnL 2 rfl (v := (nI (k9 + 1))) (nI_1 _) [1, 2, 0] [(0, .ref (y 0)), (1, .int (nI k)), (2, .int (nI (k9 + 1)))] rfl (Nat.le_of_ble_eq_true rfl) dX5_restore_51 54 rfl ?_
      refine z_goto C 28 dX5_restore_54 (by decide) ?_
      exact ih28 _ (by omega) (k9 + 1) (un f k9 (slo ((56 * k) + k9))) rfl (by omega) (fun u hu => by
      by_cases e : u = k9
      · subst e; rw [un_s]
      · rw [un_n e]; exact hf u (by omega))
  exact loop28 _ 0 all rfl (by omega) (fun u hu => by omega)

theorem iX5_wipe_X5 : ∀ w ∈ u_ws RX5 TX5 14, w ∈ wsX5_wipe := fun w h => (List.mem_cons_of_mem _ (List.mem_append_right _ h))
set_option maxHeartbeats 4000000 in
set_option maxRecDepth 100000 in
theorem tX5_wipe (l : Launch) (g : zG) (y all kept hist : Nat → Nat) (hl : Nat) (slo sav beg prt frm txt : Nat → Nat) (tl sp : Nat) (tol : Nat → Nat) (rd : Nat) : Met l yX5_wipe wsX5_wipe ({ frames := 0, cells := 0, slots := 0, locals := 0 } : Room) (zPre g [.ref (y 0)] [wM g y all kept hist hl slo sav beg prt frm txt tl sp tol rd]) (zQ g (fun _ : Unit => some (.int (nI tl)) ) (fun _ : Unit => True) (fun _ : Unit => [wM g y all kept hist hl slo sav beg prt frm txt 0 sp tol rd]) (zA [wM g y all kept hist hl slo sav beg prt frm txt tl sp tol rd])) 0 0 (zA [wM g y all kept hist hl slo sav beg prt frm txt tl sp tol rd]) := by
  refine z_entry (cc := cX5_wipe) (maxL := 2) (ret := (some .int)) (own := RX5) (by decide) rfl rfl (Nat.le_of_ble_eq_true rfl) [(0, .ref (y 0))] rfl ?_
  intro K hKl hKg hnL C hRx
  subst hKl
  subst hKg
  refine z_aload_n C 0 rfl rfl dX5_wipe_0 1 rfl ?_
  refine z_get C zc5 iX5_wipe_X5 0 0 rfl rfl 10 (Nat.le_of_ble_eq_true rfl) (List.mem_of_getElem? (i := 1) rfl) (v := .int (nI tl)) rfl dX5_wipe_1 4 rfl ?_
  refine z_istore_n C hnL [1, 0] [(0, .ref (y 0)), (1, .int (nI tl))] rfl rfl (Nat.le_of_ble_eq_true rfl) dX5_wipe_4 5 rfl ?_
  refine z_aload_n C 0 rfl rfl dX5_wipe_5 6 rfl ?_
  refine z_iconst C (v := nI 0) rfl dX5_wipe_6 7 rfl ?_
  refine z_put C zc5 iX5_wipe_X5 0 0 rfl rfl 10 (Nat.le_of_ble_eq_true rfl) (List.mem_of_getElem? (i := 1) rfl) rfl rfl rfl (Nat.le_of_ble_eq_true rfl) (wM K.g y all kept hist hl slo sav beg prt frm txt 0 sp tol rd) rfl [wM K.g y all kept hist hl slo sav beg prt frm txt 0 sp tol rd] rfl dX5_wipe_7 10 rfl ?_
  refine z_iload_n C 1 rfl rfl dX5_wipe_10 11 rfl ?_
  exact z_iret C hRx dX5_wipe_11 () rfl trivial rfl

/-! PQ: the answers, in numbers; static rows; a start with more premises. -/
noncomputable def PP (st : Nat → Nat) (r : Nat → Nat → Nat) (R n : Nat) : Nat → Nat := Classical.epsilon (fun p => isP st r R p n)
theorem PP_e {st : Nat → Nat} {r : Nat → Nat → Nat} {R n : Nat} {p : Nat → Nat} (h : isP st r R p n) : ∀ j, j < n → p j = PP st r R n j := isP_un h (Classical.epsilon_spec (p := fun p => isP st r R p n) ⟨p, h⟩)
theorem PP_is {st : Nat → Nat} {r : Nat → Nat → Nat} {R n : Nat} {p : Nat → Nat} (h : isP st r R p n) : isP st r R (PP st r R n) n := Classical.epsilon_spec (p := fun p => isP st r R p n) ⟨p, h⟩
noncomputable def PW (st : Nat → Nat) (r : Nat → Nat → Nat) (R n j : Nat) : Nat := PP st r R n j - erl st r (PP st r R n) j
noncomputable def PB (st : Nat → Nat) (r : Nat → Nat → Nat) (R n j : Nat) : Nat := fre (PP st r R n) j + PW st r R n j
noncomputable def PD (st : Nat → Nat) (r : Nat → Nat → Nat) (R n j : Nat) : Nat := PP st r R n j + st 4
noncomputable def PL (st : Nat → Nat) (r : Nat → Nat → Nat) (R n j : Nat) : Nat := PD st r R n j - r 3 j
noncomputable def LSm (st : Nat → Nat) (r : Nat → Nat → Nat) (R n : Nat) : Nat := sm (PL st r R n) n
noncomputable def PT (st : Nat → Nat) (r : Nat → Nat → Nat) (R n j : Nat) : Nat := tkn st r (PP st r R n) (j + 1) (PP st r R n j)
/-- what a printed press holds, in the words of PP -/
theorem PI_all {st : Nat → Nat} {r : Nat → Nat → Nat} {R n : Nat} {a0 a1 a2 a3 a4 a5 a6 a7 : Nat → Nat} {s1 s2 s3 s4 s5 s6 s7 s8 s9 : Nat} (h : PI st r R n a0 a1 a2 a3 a4 a5 a6 a7 s1 s2 s3 s4 s5 s6 s7 s8 s9) :
    isP st r R (PP st r R n) n ∧ (∀ i, i < n → a0 i = ndj st r i ∧ a1 i = wsh st r i ∧ a2 i = rdy st r i ∧ a3 i = PW st r R n i ∧ a4 i = PB st r R n i ∧ a5 i = PP st r R n i ∧ a6 i = PD st r R n i ∧ a7 i = PL st r R n i) ∧
    s1 = ct (fun i => decide (0 < PL st r R n i)) n ∧ s2 = LSm st r R n ∧ s3 = mx (PL st r R n) n ∧ s4 = sm (wsh st r) n ∧ s5 = sm (plt r) n ∧ s6 = sm (PW st r R n) n ∧ s7 = mx (PT st r R n) n := by
  obtain ⟨hP, hA, e1, e2, e3, e4, e5, e6, e7, -⟩ := h
  have h5 := PP_e hP
  have hcg : ∀ i, i < n → ∀ x, x < i → a5 x = PP st r R n x := fun i hi x hx => h5 x (by omega)
  have hB : ∀ i, i < n → a0 i = ndj st r i ∧ a1 i = wsh st r i ∧ a2 i = rdy st r i ∧ a3 i = PW st r R n i ∧ a4 i = PB st r R n i ∧ a5 i = PP st r R n i ∧ a6 i = PD st r R n i ∧ a7 i = PL st r R n i := by
    intro i hi
    obtain ⟨b0, b1, b2, b3, b4, b6, b7⟩ := hA i hi
    have e3 : a3 i = PW st r R n i := by rw [b3, h5 i hi, erl_cg (hcg i hi)]; rfl
    have e4 : a4 i = PB st r R n i := by rw [b4, e3, fre_cg (hcg i hi)]; rfl
    have e6 : a6 i = PD st r R n i := by rw [b6, h5 i hi]; rfl
    have e7 : a7 i = PL st r R n i := by rw [b7, e6]; rfl
    exact ⟨b0, b1, b2, e3, e4, h5 i hi, e6, e7⟩
  have h7 : ∀ i, i < n → a7 i = PL st r R n i := fun i hi => (hB i hi).2.2.2.2.2.2.2
  refine ⟨PP_is hP, hB, ?_, ?_, ?_, e4, e5, ?_, ?_⟩
  · rw [e1]; exact ct_cg n (fun j hj => by rw [h7 j hj])
  · rw [e2]; exact sm_cg n h7
  · rw [e3]; exact mx_cg n h7
  · rw [e6]; exact sm_cg n (fun j hj => (hB j hj).2.2.2.1)
  · rw [e7]; exact mx_cg n (fun j hj => by
      show tkn st r a5 (j + 1) (a5 j) = tkn st r (PP st r R n) (j + 1) (PP st r R n j)
      rw [h5 j hj, tkn_cg (p' := PP st r R n) (fun x hx => h5 x (by omega))])
theorem PP_bd {st : Nat → Nat} {r : Nat → Nat → Nat} {R n : Nat} {a0 a1 a2 a3 a4 a5 a6 a7 : Nat → Nat} {s1 s2 s3 s4 s5 s6 s7 s8 s9 : Nat} (hS : okS st) (hJ : okJ r n) (hn : n ≤ 12) (h : PI st r R n a0 a1 a2 a3 a4 a5 a6 a7 s1 s2 s3 s4 s5 s6 s7 s8 s9) :
    ∀ i, i < n → a4 i ≤ 30000 ∧ a5 i ≤ 30000 ∧ a6 i ≤ 30000 := by
  intro i hi
  have hb := PI_bd hS hJ hn (Nat.le_refl n) h
  obtain ⟨hP, hA, -⟩ := h
  obtain ⟨-, -, -, b3, b4, b6, -⟩ := hA i hi
  have h6 := hb.1 i hi
  have h1 := (hP i hi).1
  unfold erl at h1 b3
  omega
/-- something of a job -/
noncomputable def JO (st : Nat → Nat) (r : Nat → Nat → Nat) (n j : Nat) (k : Nat) : Nat := match k with
  | 0 => r 0 j
  | 1 => r 1 j
  | 2 => r 2 j
  | 3 => r 3 j
  | 4 => ndj st r j
  | 5 => PB st r (st 5) n j
  | 6 => PP st r (st 5) n j
  | 7 => PD st r (st 5) n j
  | 8 => PL st r (st 5) n j
  | 9 => PW st r (st 5) n j
  | 10 => rdy st r j
  | _ => wsh st r j
/-- a number of the whole -/
noncomputable def CN (st : Nat → Nat) (r : Nat → Nat → Nat) (n len kp : Nat) (k : Nat) : Nat := match k with
  | 0 => st 0
  | 1 => st 1
  | 2 => st 2
  | 3 => st 3
  | 4 => st 4
  | 5 => st 5
  | 6 => st 6
  | 7 => n
  | 8 => sm (r 2) n
  | 9 => fre (PP st r (st 5) n) n
  | 10 => fre (PD st r (st 5) n) n
  | 11 => ct (fun i => decide (0 < PL st r (st 5) n i)) n
  | 12 => LSm st r (st 5) n
  | 13 => mx (PL st r (st 5) n) n
  | 14 => sm (wsh st r) n
  | 15 => sm (plt r) n
  | 16 => sm (PW st r (st 5) n) n
  | 17 => mx (PT st r (st 5) n) n
  | 18 => len
  | _ => kp
/-- something of a minute -/
noncomputable def AT (st : Nat → Nat) (r : Nat → Nat → Nat) (n m : Nat) (k : Nat) : Int32 := match k with
  | 0 => jop (PB st r (st 5) n) (PP st r (st 5) n) m 0 n
  | 1 => nI (tkn st r (PP st r (st 5) n) n m)
  | 2 => nI (ct (fun i => decide (PP st r (st 5) n i ≤ m)) n)
  | _ => nI (ct (fun i => decide (PD st r (st 5) n i ≤ m)) n)
theorem jop_cg {a4 a5 b4 b5 : Nat → Nat} {m : Nat} : ∀ (d i : Nat), (∀ j, i ≤ j → j < i + d → a4 j = b4 j ∧ a5 j = b5 j) → jop a4 a5 m i d = jop b4 b5 m i d
  | 0, _, _ => rfl
  | d + 1, i, h => by
    show (if a4 i ≤ m ∧ m < a5 i then nI i else jop a4 a5 m (i + 1) d) = (if b4 i ≤ m ∧ m < b5 i then nI i else jop b4 b5 m (i + 1) d)
    obtain ⟨h1, h2⟩ := h i (Nat.le_refl i) (by omega)
    rw [h1, h2, jop_cg d (i + 1) (fun j a b => h j (by omega) (by omega))]
/-- what an order would bring -/
noncomputable def IO (st : Nat → Nat) (r : Nat → Nat → Nat) (n : Nat) (k : Nat) : Nat := match k with
  | 0 => fre (PD st r (st 5) n) n
  | 1 => LSm st r (st 5) n
  | 2 => sm (wsh st r) n
  | _ => sm (plt r) n
def isJ (x : Int32) (n : Nat) : Bool := rg x.toInt 0 ((n : Int) - 1)
theorem isJ_t {k n : Nat} (h : k < n) (hn : n ≤ 12) : isJ (nI k) n = true := by
  unfold isJ
  rw [nI_toInt (by omega)]
  exact rg_t (by omega) (by omega)
theorem isJ_i {x : Int32} {n : Nat} (hn : n ≤ 12) (h : isJ x n = true) : ∃ k, k < n ∧ x = nI k := by
  obtain ⟨h1, h2⟩ := rg_i h
  have hx : ¬ x < 0 := by
    rw [Int32.lt_iff_toInt_lt, Int32.toInt_zero]
    omega
  obtain ⟨j, hj, rfl⟩ := nI_of hx
  rw [nI_toInt hj] at h1 h2
  exact ⟨j, by omega, rfl⟩
/-! permutations by a key -/
theorem ct_mono {p q : Nat → Bool} : ∀ n, (∀ j, j < n → p j = true → q j = true) → ct p n ≤ ct q n
  | 0, _ => Nat.le_refl 0
  | n + 1, h => by
    have h1 := ct_mono n (fun j hj => h j (by omega))
    show ct p n + (if p n = true then 1 else 0) ≤ ct q n + (if q n = true then 1 else 0)
    by_cases e : p n = true
    · rw [if_pos e, if_pos (h n (by omega) e)]; omega
    · rw [if_neg e]; omega
theorem ct_strict {p q : Nat → Bool} {i : Nat} : ∀ n, i < n → (∀ j, j < n → p j = true → q j = true) → p i = false → q i = true → ct p n < ct q n
  | 0, hi, _, _, _ => by omega
  | n + 1, hi, h, h1, h2 => by
    by_cases e : i = n
    · subst e
      rw [ct_f h1, ct_s h2]
      have := ct_mono i (fun j hj => h j (by omega))
      omega
    · have h3 := ct_strict n (by omega) (fun j hj => h j (by omega)) h1 h2
      show ct p n + (if p n = true then 1 else 0) < ct q n + (if q n = true then 1 else 0)
      by_cases e2 : p n = true
      · rw [if_pos e2, if_pos (h n (by omega) e2)]; omega
      · rw [if_neg e2]; omega
theorem plc_mono {h : Nat → Nat} {n i j : Nat} (hi : i < n) (hb : h i < h j ∨ (h i = h j ∧ i < j)) : plc h n i < plc h n j :=
  ct_strict (i := i) n hi (fun o _ ho => decide_eq_true (by have := of_decide_eq_true ho; omega)) (decide_eq_false (by omega)) (decide_eq_true hb)
theorem plc_inj {h : Nat → Nat} {n i j : Nat} (hi : i < n) (hj : j < n) (e : plc h n i = plc h n j) : i = j := by
  rcases Nat.lt_trichotomy (h i) (h j) with q | q | q
  · have := plc_mono (h := h) hi (Or.inl q); omega
  · rcases Nat.lt_trichotomy i j with z | z | z
    · have := plc_mono (h := h) hi (Or.inr ⟨q, z⟩); omega
    · exact z
    · have := plc_mono (h := h) hj (Or.inr ⟨q.symm, z⟩); omega
  · have := plc_mono (h := h) hj (Or.inl q); omega
theorem pigeon : ∀ (n : Nat) (f : Nat → Nat), (∀ i, i < n → f i < n) → (∀ i j, i < n → j < n → f i = f j → i = j) → ∀ y, y < n → ∃ i, i < n ∧ f i = y
  | 0, _, _, _, y, hy => by omega
  | n + 1, f, hf, hi, y, hy => by
    have hfn := hf n (by omega)
    have hne : ∀ i, i < n → f i ≠ f n := fun i hin e => by have := hi i n (by omega) (by omega) e; omega
    have ih := pigeon n (fun i => if f i = n then f n else f i) (fun i hin => by
      show (if f i = n then f n else f i) < n
      have h1 := hf i (by omega)
      have h2 := hne i hin
      split <;> omega) (fun i j hin hjn e => by
      have e : (if f i = n then f n else f i) = (if f j = n then f n else f j) := e
      have h1 := hne i hin
      have h2 := hne j hjn
      by_cases a : f i = n <;> by_cases b : f j = n
      · exact hi i j (by omega) (by omega) (by omega)
      · rw [if_pos a, if_neg b] at e; omega
      · rw [if_neg a, if_pos b] at e; omega
      · rw [if_neg a, if_neg b] at e; exact hi i j (by omega) (by omega) e)
    by_cases e1 : y = f n
    · exact ⟨n, by omega, e1.symm⟩
    · by_cases e2 : y = n
      · obtain ⟨i, h1, h2⟩ := ih (f n) (by omega)
        have h2 : (if f i = n then f n else f i) = f n := h2
        by_cases a : f i = n
        · exact ⟨i, by omega, by omega⟩
        · rw [if_neg a] at h2
          exact absurd h2 (hne i h1)
      · obtain ⟨i, h1, h2⟩ := ih y (by omega)
        have h2 : (if f i = n then f n else f i) = y := h2
        by_cases a : f i = n
        · rw [if_pos a] at h2; omega
        · rw [if_neg a] at h2; exact ⟨i, by omega, h2⟩
theorem plc_sur {h : Nat → Nat} {n y : Nat} (hy : y < n) : ∃ i, i < n ∧ plc h n i = y := pigeon n (plc h n) (fun i hi => plc_lt hi) (fun i j hi hj e => plc_inj hi hj e) y hy
theorem arR_at {ro : Nat → Nat → Nat} {pl : Nat → Nat} {N : Nat} (hinj : ∀ i j, i < N → j < N → pl i = pl j → i = j) {k : Nat} : ∀ n, n ≤ N → ∀ i, i < n → arR ro pl n k (pl i) = ro k i
  | 0, _, i, hi => by omega
  | n + 1, hn, i, hi => by
    show un (arR ro pl n k) (pl n) (ro k n) (pl i) = ro k i
    by_cases e : i = n
    · subst e; exact un_s
    · rw [un_n (fun z => e (hinj i n (by omega) (by omega) z))]
      exact arR_at hinj n (by omega) i (by omega)
/-- the board ordered by a key -/
def oR (r : Nat → Nat → Nat) (f n : Nat) : Nat → Nat → Nat := arR r (plc (r f) n) n
theorem oR_at {r : Nat → Nat → Nat} {f n k i : Nat} (hi : i < n) : oR r f n k (plc (r f) n i) = r k i := arR_at (fun a b ha hb e => plc_inj ha hb e) n (Nat.le_refl n) i hi
theorem okJ_oR {r : Nat → Nat → Nat} {f n : Nat} (h : okJ r n) : okJ (oR r f n) n := by
  intro j hj
  obtain ⟨i, hi, rfl⟩ := plc_sur (h := r f) hj
  rw [oR_at hi, oR_at hi, oR_at hi, oR_at hi]
  exact h i hi
theorem okR_oR {st : Nat → Nat} {r : Nat → Nat → Nat} {f n R : Nat} (h : okR st r n R) : okR st (oR r f n) n R := by
  intro j hj
  obtain ⟨i, hi, rfl⟩ := plc_sur (h := r f) hj
  unfold ndj
  rw [oR_at hi]
  exact h i hi
theorem okJ_pm {r : Nat → Nat → Nat} {n : Nat} (pm : Nat → Nat) (hp : ∀ j, j < n → pm j < n) {r2 : Nat → Nat → Nat} (e : ∀ k j, j < n → r2 k j = r k (pm j)) (h : okJ r n) : okJ r2 n := by
  intro j hj
  rw [e 0 j hj, e 1 j hj, e 2 j hj, e 3 j hj]
  exact h _ (hp j hj)
theorem okR_pm {st : Nat → Nat} {r : Nat → Nat → Nat} {n R : Nat} (pm : Nat → Nat) (hp : ∀ j, j < n → pm j < n) {r2 : Nat → Nat → Nat} (e : ∀ k j, j < n → r2 k j = r k (pm j)) (h : okR st r n R) : okR st r2 n R := by
  intro j hj
  unfold ndj
  rw [e 2 j hj]
  exact h _ (hp j hj)
theorem swp_at {h : Nat → Nat} {f t y : Nat} : swp h f t y = h (if y = t then f else if y = f then t else y) := by
  unfold swp un
  split
  · rfl
  · split <;> rfl
theorem shf_at {h : Nat → Nat} {f t y : Nat} : shf h f t y = h (if y = t then f else if f ≤ y ∧ y < t then y + 1 else if t < y ∧ y ≤ f then y - 1 else y) := by
  unfold shf
  split
  · rfl
  · split
    · rfl
    · split <;> rfl
theorem okJ_swp {r : Nat → Nat → Nat} {n f t : Nat} (hf : f < n) (ht : t < n) (h : okJ r n) : okJ (fun k => swp (r k) f t) n :=
  okJ_pm (fun y => if y = t then f else if y = f then t else y) (fun j hj => by show (if j = t then f else if j = f then t else j) < n; split; · exact hf
                                                                                · split <;> omega) (fun k j _ => swp_at) h
theorem okR_swp {st : Nat → Nat} {r : Nat → Nat → Nat} {n f t R : Nat} (hf : f < n) (ht : t < n) (h : okR st r n R) : okR st (fun k => swp (r k) f t) n R :=
  okR_pm (fun y => if y = t then f else if y = f then t else y) (fun j hj => by show (if j = t then f else if j = f then t else j) < n; split; · exact hf
                                                                                · split <;> omega) (fun k j _ => swp_at) h
theorem okJ_shf {r : Nat → Nat → Nat} {n f t : Nat} (hf : f < n) (ht : t < n) (h : okJ r n) : okJ (fun k => shf (r k) f t) n :=
  okJ_pm (fun y => if y = t then f else if f ≤ y ∧ y < t then y + 1 else if t < y ∧ y ≤ f then y - 1 else y) (fun j hj => by show (if j = t then f else if f ≤ j ∧ j < t then j + 1 else if t < j ∧ j ≤ f then j - 1 else j) < n; (repeat' split) <;> omega) (fun k j _ => shf_at) h
theorem okR_shf {st : Nat → Nat} {r : Nat → Nat → Nat} {n f t R : Nat} (hf : f < n) (ht : t < n) (h : okR st r n R) : okR st (fun k => shf (r k) f t) n R :=
  okR_pm (fun y => if y = t then f else if f ≤ y ∧ y < t then y + 1 else if t < y ∧ y ≤ f then y - 1 else y) (fun j hj => by show (if j = t then f else if f ≤ j ∧ j < t then j + 1 else if t < j ∧ j ≤ f then j - 1 else j) < n; (repeat' split) <;> omega) (fun k j _ => shf_at) h
/-! what if -/
noncomputable def beS (st : Nat → Nat) (r : Nat → Nat → Nat) (n i j : Nat) (s : Nat × Int32 × Int32) : Nat × Int32 × Int32 := if LSm st (fun k => swp (r k) i j) (st 5) n < s.1 then (LSm st (fun k => swp (r k) i j) (st 5) n, nI i, nI j) else s
noncomputable def beI (st : Nat → Nat) (r : Nat → Nat → Nat) (n i : Nat) (s : Nat × Int32 × Int32) : Nat → Nat × Int32 × Int32
  | 0 => s
  | d + 1 => beS st r n i (i + 1 + d) (beI st r n i s d)
noncomputable def beO (st : Nat → Nat) (r : Nat → Nat → Nat) (n : Nat) : Nat → Nat × Int32 × Int32
  | 0 => (LSm st r (st 5) n, (-6), (-6))
  | i + 1 => beI st r n i (beO st r n i) (n - (i + 1))
noncomputable def BE (st : Nat → Nat) (r : Nat → Nat → Nat) (n k : Nat) : Int32 := if (beO st r n n).2.1 = (-6) then (-6) else match k with
  | 0 => (beO st r n n).2.1
  | 1 => (beO st r n n).2.2
  | _ => nI (beO st r n n).1
noncomputable def bfO (st : Nat → Nat) (r : Nat → Nat → Nat) (n : Nat) : Nat → Int32 × Nat
  | 0 => ((-6), 0)
  | j + 1 => if (bfO st r n j).1 = (-6) ∨ LSm st (fun k => shf (r k) j 0) (st 5) n < (bfO st r n j).2 then (nI j, LSm st (fun k => shf (r k) j 0) (st 5) n) else bfO st r n j
def mND (st : Nat → Nat) (r : Nat → Nat → Nat) (n : Nat) : Nat := mx (ndj st r) n
/-- the least racks from x on, in so many -/
noncomputable def lrF (st : Nat → Nat) (r : Nat → Nat → Nat) (n x : Nat) : Nat → Int32
  | 0 => (-6)
  | d + 1 => if mND st r n ≤ x ∧ sm (PW st r x n) n = 0 then nI x else lrF st r n (x + 1) d
/-! statics -/
def leS (j : Nat) : Nat := match j with
  | 3 => 1
  | 5 => 4
  | 6 => 1
  | _ => 0
def moS (j : Nat) : Nat := match j with
  | 0 => 60
  | 1 => 60
  | 2 => 9
  | 3 => 20
  | 4 => 500
  | 5 => 20
  | 6 => 10
  | _ => 0
def fiS (j : Nat) : Nat := match j with
  | 0 => 10
  | 1 => 15
  | 2 => 2
  | 3 => 4
  | 4 => 60
  | 5 => 8
  | 6 => 5
  | _ => 0
def foR (j : Nat) : Nat := match j with
  | 0 => 3
  | 1 => 1
  | 2 => 0
  | 3 => 2
  | _ => 0
theorem foR_lt {j : Nat} (h : j ≤ 3) : foR j < 4 := by
  rcases (show j = 0 ∨ j = 1 ∨ j = 2 ∨ j = 3 by omega) with rfl | rfl | rfl | rfl <;> decide
def zStA (A : Nat → Prop) (U : State) (nm : String) (N : Nat) (f : Nat → Nat) (sa : Nat) : Prop := va_Z RX4 nm "[I" (.ref sa) A U U.heap ∧ va_X sa N (fun j => nI (f j)) U U.heap ∧ sa < U.heap.size ∧ ¬ A sa
theorem zStA.same {A : Nat → Prop} {u U : State} {nm : String} {N : Nat} {f : Nat → Nat} {sa : Nat} (e : u.vm = U.vm) (e2 : u.heap = U.heap) (h : zStA A u nm N f sa) : zStA A U nm N f sa := by
  obtain ⟨h1, h2, h3, h4⟩ := h
  have ha : u.vm.Alike U.vm := by rw [e]; exact Vm.Alike.refl U.vm
  rw [e2] at h1 h2 h3
  exact ⟨h1.moved ha, h2.moved ha, h3, h4⟩
/-- a static array, later, seen by a part of the world -/
theorem zStA.later {A B : Nat → Prop} {s U : State} {nm : String} {N : Nat} {f : Nat → Nat} {sa : Nat} {locs : List Loc} (h : zStA A s nm N f sa) (hS : va_S A s.heap U.heap locs) (hW : s.WarmedH U.vm) (hAB : ∀ q, B q → A q) : zStA B U nm N f sa := by
  obtain ⟨h1, h2, h3, h4⟩ := h
  refine ⟨((h1.kept hS.2.1).narrow hAB).moved hW.alike, (h2.kept (hS.2.1 sa h3 h4)).moved hW.alike, Nat.lt_of_lt_of_le h3 hS.1, fun z => h4 (hAB sa z)⟩
def eNo (_ : Nat → Prop) (_ : State) : Prop := True
def eSet (A : Nat → Prop) (U : State) : Prop := ∃ s1 s2 : Nat, zStA A U "LEAST_SETTING" 7 leS s1 ∧ zStA A U "MOST_SETTING" 7 moS s2
def eOrd (A : Nat → Prop) (U : State) : Prop := ∃ s1 : Nat, zStA A U "FIELD_OF_RULE" 4 foR s1
def zPreE (g : zG) (E : (Nat → Prop) → State → Prop) (av : List Value) (cs : List va_W) : Array Value → State → Prop := fun v U => zPre g av cs v U ∧ E (zA cs) U
theorem z_entryE {l : Launch} {g : zG} {y : MethodName} {ws ws' : List Cond} {cc : ByteArray} {maxL : Nat} {ret : Option FieldType} {S : Type} {rv : S → Option Value} {post : S → Prop} {cs' : S → List va_W} {cs0 : List va_W} {av : List Value} {rm : Room} {own : String} {E : (Nat → Prop) → State → Prop}
    (hy : plainName y.cls = true) (hw : ws = Cond.code y cc maxL ret :: ws') (hown : y.cls = own) (hn : (lg_sl av).length ≤ maxL) (lv0 : List (Nat × Value)) (hlv : lv_args 0 av = lv0)
    (body : ∀ K : zK, K.l = l → K.g = g → K.nL = maxL → Cx K rm own cc ws → Rx K ret rv post cs' (zA cs0) → E K.A K.s → Z K 0 0 cs0 lv0 0 []) : Met l y ws rm (zPreE g E av cs0) (zQ g rv post cs' (zA cs0)) 0 0 (zA cs0) := by
  refine Met.ofW (cc := cc) (maxL := maxL) (ret := ret) hy hw ?_
  intro p e s m args below meth c s₁ B hml hv
  obtain ⟨⟨rfl, hP, hK, hD0⟩, hE⟩ := hv
  have hx := B.exec
  have hb := B.bytes
  have hr := B.returns
  have hts := atoms_spec (ws := ws) B.pre
  have hown2 : s.vm.findClass own = some m.cls := by rw [← hown]; exact findClass_of_methodNamed B.named
  have hlocks := B.notSynchronized
  have hD : va_D (zA cs0) cs0.flatten := ⟨hD0.1, fun k q h => ⟨k, q.2, h⟩⟩
  have hl := lv_entry av (n := maxL) hn
  rw [lg_entry_eq]
  generalize (lg_sl av ++ List.replicate (maxL - (lg_sl av).length) Slot.unset).toArray = ls at hl ⊢
  rw [hlv] at hl
  exact body ⟨(p, l, e, (headSpec ws rm).room, s, m, av.toArray, below, meth, c), MQ below (zQ g rv post cs' (zA cs0)) av.toArray s 0 0 (zA cs0), g, zA cs0, maxL⟩ rfl rfl rfl ⟨⟨hx, hb, hml, hown2, hts⟩, hK, rfl⟩ ⟨rfl, rfl, hr, hlocks⟩ hE s.heap [] ls hP hD va_S.rf hl
theorem z_gets {K : zK} {R0 : Room} {own : String} {cc : ByteArray} {Ts : List Cond} {n k : Nat} {cs : List va_W} {lv : List (Nat × Value)} {pc : Nat} {st : List Value} (C : Cx K R0 own cc Ts) {index sa : Nat} {nm : String} (hZ : va_Z RX4 nm "[I" (.ref sa) K.A K.s K.s.heap) (hw : Cond.fieldLink own index RX4 nm "[I" ∈ Ts) (hd : decode cc pc = .ok (.getstatic index, 3)) (q : Nat) (hq : pc + 3 = q) (kk : Z K n k cs lv q (.ref sa :: st)) : Z K n k cs lv pc st := by
  subst hq
  exact fun H locs ls hP hD hS hl => va_gets C.x C.b hZ hS C.ow (C.ts _ hw) (fun _ h => h) hd (kk H locs ls hP hD hS hl)
theorem z_sld {K : zK} {R0 : Room} {own : String} {cc : ByteArray} {Ts : List Cond} {n k : Nat} {cs : List va_W} {lv : List (Nat × Value)} {pc : Nat} {st : List Value} (C : Cx K R0 own cc Ts) {sa N x : Nat} {f : Nat → Nat} (hX : va_X sa N (fun j => nI (f j)) K.s K.s.heap) (hlt : sa < K.s.heap.size) (hA : ¬ K.A sa) (hx : x < N) (hN : N < 2 ^ 31) (hd : decode cc pc = .ok (.iaload, 1)) (q : Nat) (hq : pc + 1 = q) (kk : Z K n k cs lv q (.int (nI (f x)) :: st)) : Z K n k cs lv pc (.int (nI x) :: .ref sa :: st) := by
  subst hq
  intro H locs ls hP hD hS hl
  have h := kk H locs ls hP hD hS hl
  rw [show f x = f (nI x).toNatClampNeg by rw [nI_clamp (Nat.lt_trans hx hN)]] at h
  exact va_sld (xs := fun j => nI (f j)) C.x C.b hX hlt hA hS (vp_in_nI hx hN) hd h

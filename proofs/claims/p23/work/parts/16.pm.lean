/-! PM: what printing comes to, in numbers. -/
def wsh (st : Nat → Nat) (r : Nat → Nat → Nat) (j : Nat) : Nat := if j = 0 then 0 else if r 1 j < r 1 (j - 1) then st 1 + (r 1 (j - 1) - r 1 j) * st 2 else if r 1 (j - 1) < r 1 j then st 2 else 0
def plt (r : Nat → Nat → Nat) (j : Nat) : Nat := if 0 < j ∧ r 0 (j - 1) = r 0 j then 0 else 1
def rdy (st : Nat → Nat) (r : Nat → Nat → Nat) (j : Nat) : Nat := wsh st r j + (if 0 < j ∧ r 0 (j - 1) = r 0 j then 0 else st 0)
def ndj (st : Nat → Nat) (r : Nat → Nat → Nat) (j : Nat) : Nat := nd (st 6) (r 2 j)
def fre (p : Nat → Nat) (j : Nat) : Nat := if j = 0 then 0 else p (j - 1)
def erl (st : Nat → Nat) (r : Nat → Nat → Nat) (p : Nat → Nat) (j : Nat) : Nat := fre p j + rdy st r j + r 2 j * st 3
def tkn (st : Nat → Nat) (r : Nat → Nat → Nat) (p : Nat → Nat) (J m : Nat) : Nat := sm (fun i => if p i ≤ m ∧ m < p i + st 4 then ndj st r i else 0) J
def isP (st : Nat → Nat) (r : Nat → Nat → Nat) (R : Nat) (p : Nat → Nat) (n : Nat) : Prop := ∀ j, j < n → erl st r p j ≤ p j ∧ tkn st r p j (p j) + ndj st r j ≤ R ∧ ∀ m, erl st r p j ≤ m → m < p j → R < tkn st r p j m + ndj st r j
def okS (st : Nat → Nat) : Prop := st 0 ≤ 60 ∧ st 1 ≤ 60 ∧ st 2 ≤ 9 ∧ 1 ≤ st 3 ∧ st 3 ≤ 20 ∧ st 4 ≤ 500 ∧ 4 ≤ st 5 ∧ st 5 ≤ 20 ∧ 1 ≤ st 6 ∧ st 6 ≤ 10
def okJ (r : Nat → Nat → Nat) (n : Nat) : Prop := ∀ j, j < n → r 0 j ≤ 9 ∧ r 1 j ≤ 9 ∧ 1 ≤ r 2 j ∧ r 2 j ≤ 20 ∧ r 3 j ≤ 3000
def okR (st : Nat → Nat) (r : Nat → Nat → Nat) (n R : Nat) : Prop := ∀ j, j < n → ndj st r j ≤ R
theorem wsh_le {st : Nat → Nat} {r : Nat → Nat → Nat} {n j : Nat} (hS : okS st) (hJ : okJ r n) (hj : j < n) : wsh st r j ≤ 141 := by
  obtain ⟨h0, h1, h2, -⟩ := hS
  unfold wsh
  by_cases e : j = 0
  · rw [if_pos e]; omega
  · rw [if_neg e]
    have a := (hJ j hj).2.1
    have b := (hJ (j - 1) (by omega)).2.1
    have m := Nat.mul_le_mul (show r 1 (j - 1) - r 1 j ≤ 9 by omega) h2
    split
    · omega
    · split <;> omega
theorem rdy_le {st : Nat → Nat} {r : Nat → Nat → Nat} {n j : Nat} (hS : okS st) (hJ : okJ r n) (hj : j < n) : rdy st r j ≤ 201 := by
  have h := wsh_le hS hJ hj
  have h0 := hS.1
  unfold rdy
  split <;> omega
theorem run_le {st : Nat → Nat} {r : Nat → Nat → Nat} {n j : Nat} (hS : okS st) (hJ : okJ r n) (hj : j < n) : 1 ≤ r 2 j * st 3 ∧ r 2 j * st 3 ≤ 400 := by
  obtain ⟨-, -, -, h3, h3b, -⟩ := hS
  obtain ⟨-, -, h2, h2b, -⟩ := hJ j hj
  have a := Nat.mul_le_mul h2 h3
  have b := Nat.mul_le_mul h2b h3b
  omega
theorem ndj_le {st : Nat → Nat} {r : Nat → Nat → Nat} {n j : Nat} (hS : okS st) (hJ : okJ r n) (hj : j < n) : ndj st r j ≤ 20 := by
  obtain ⟨-, -, -, -, -, -, -, -, h6, -⟩ := hS
  obtain ⟨-, -, -, h2b, -⟩ := hJ j hj
  exact Nat.le_trans (nd_le h6) h2b
theorem sm_un {f : Nat → Nat} {k v : Nat} : ∀ n, n ≤ k → sm (un f k v) n = sm f n := fun n hn => sm_cg n (fun j hj => un_n (by omega))
theorem sm_mono {f : Nat → Nat} {o j : Nat} (h : o < j) : sm f o + f o ≤ sm f j := by
  obtain ⟨d, rfl⟩ : ∃ d, j = o + 1 + d := ⟨j - (o + 1), by omega⟩
  clear h
  induction d with
  | zero => exact Nat.le_refl _
  | succ d ih =>
    rw [← Nat.add_assoc, sm_s]
    omega
theorem sm_ge {f g : Nat → Nat} {o : Nat} : ∀ j, o ≤ j → (∀ i, o ≤ i → i < j → g i = f i) → sm f j ≤ sm f o + sm g j
  | 0, ho, _ => by
    have : o = 0 := by omega
    subst this
    exact Nat.zero_le _
  | j + 1, ho, h => by
    by_cases e : o = j + 1
    · subst e
      omega
    · have h1 := sm_ge j (by omega) (fun i a b => h i a (by omega))
      have h2 := h j (by omega) (by omega)
      rw [sm_s, sm_s]
      omega
theorem sm_two {f g : Nat → Nat} {o : Nat} : ∀ j, o ≤ j → (∀ i, i < o → g i = 0) → (∀ i, o ≤ i → i < j → g i = f i) → sm g j + sm f o = sm f j
  | 0, ho, _, _ => by
    have : o = 0 := by omega
    subst this
    rfl
  | j + 1, ho, h0, h => by
    by_cases e : o = j + 1
    · subst e
      have : ∀ m, m ≤ j + 1 → sm g m = 0 := by
        intro m
        induction m with
        | zero => intro _; rfl
        | succ m ih => intro hm; rw [sm_s, ih (by omega), h0 m (by omega)]
      rw [this (j + 1) (Nat.le_refl _), Nat.zero_add]
    · have h1 := sm_two j (by omega) h0 (fun i a b => h i a (by omega))
      have h2 := h j (by omega) (by omega)
      rw [sm_s, sm_s]
      omega
theorem isP_fre {st : Nat → Nat} {r : Nat → Nat → Nat} {R : Nat} {p : Nat → Nat} {n : Nat} (h : isP st r R p n) {i j : Nat} (hij : i < j) (hj : j ≤ n) : p i ≤ fre p j := by
  obtain ⟨d, rfl⟩ : ∃ d, j = i + 1 + d := ⟨j - (i + 1), by omega⟩
  clear hij
  induction d with
  | zero =>
    show p i ≤ fre p (i + 1)
    unfold fre
    rw [if_neg (by omega)]
    exact Nat.le_refl _
  | succ d ih =>
    have h1 := ih (by omega)
    have h2 := (h (i + 1 + d) (by omega)).1
    have h3 : fre p (i + 1 + (d + 1)) = p (i + 1 + d) := by
      unfold fre
      rw [if_neg (by omega)]
      rfl
    rw [h3]
    unfold erl at h2
    omega
theorem isP_mono {st : Nat → Nat} {r : Nat → Nat → Nat} {R : Nat} {p : Nat → Nat} {n : Nat} (h : isP st r R p n) {i j : Nat} (hij : i ≤ j) (hj : j < n) : p i ≤ p j := by
  by_cases e : i = j
  · subst e; exact Nat.le_refl _
  · have h1 := isP_fre h (show i < j by omega) (by omega)
    have h2 := (h j hj).1
    unfold erl at h2
    omega
theorem fre_cg {p p' : Nat → Nat} {j : Nat} (h : ∀ i, i < j → p i = p' i) : fre p j = fre p' j := by
  unfold fre
  by_cases e : j = 0
  · rw [if_pos e, if_pos e]
  · rw [if_neg e, if_neg e, h _ (by omega)]
theorem erl_cg {st : Nat → Nat} {r : Nat → Nat → Nat} {p p' : Nat → Nat} {j : Nat} (h : ∀ i, i < j → p i = p' i) : erl st r p j = erl st r p' j := by
  unfold erl
  rw [fre_cg h]
theorem tkn_cg {st : Nat → Nat} {r : Nat → Nat → Nat} {p p' : Nat → Nat} {j m : Nat} (h : ∀ i, i < j → p i = p' i) : tkn st r p j m = tkn st r p' j m := by
  unfold tkn
  exact sm_cg j (fun i hi => by rw [h i hi])
/-- there is one way to print -/
theorem isP_un {st : Nat → Nat} {r : Nat → Nat → Nat} {R : Nat} {p p' : Nat → Nat} {n : Nat} (h : isP st r R p n) (h' : isP st r R p' n) : ∀ j, j < n → p j = p' j := by
  intro j
  induction j using Nat.strongRecOn with
  | _ j ih =>
    intro hj
    have hc : ∀ i, i < j → p i = p' i := fun i hi => ih i hi (by omega)
    obtain ⟨a1, a2, a3⟩ := h j hj
    obtain ⟨b1, b2, b3⟩ := h' j hj
    rcases Nat.lt_trichotomy (p j) (p' j) with q | q | q
    · have := b3 (p j) (by rw [← erl_cg hc]; exact a1) q
      rw [← tkn_cg hc] at this
      omega
    · exact q
    · have := a3 (p' j) (by rw [erl_cg hc]; exact b1) q
      rw [tkn_cg hc] at this
      omega
theorem isP_cg {st : Nat → Nat} {r : Nat → Nat → Nat} {R : Nat} {p p' : Nat → Nat} {n : Nat} (h : isP st r R p n) (hc : ∀ i, i < n → p i = p' i) : isP st r R p' n := by
  intro j hj
  have hcj : ∀ i, i < j → p i = p' i := fun i hi => hc i (by omega)
  obtain ⟨a1, a2, a3⟩ := h j hj
  rw [erl_cg hcj, hc j hj] at a1
  rw [tkn_cg hcj, hc j hj] at a2
  refine ⟨a1, a2, fun m h1 h2 => ?_⟩
  rw [← tkn_cg hcj]
  exact a3 m (by rw [erl_cg hcj]; exact h1) (by rw [hc j hj]; exact h2)
/-- what the press finds when it waits for racks: m the minute, s8 s9 the ring -/
def WR (a6 a0 : Nat → Nat) (j e most s9 m t8 t9 : Nat) : Prop := e ≤ m ∧ s9 ≤ t9 ∧ t9 ≤ j ∧ t8 + sm a0 t9 = sm a0 j ∧ (∀ i, s9 ≤ i → i < t9 → a6 i ≤ m) ∧ (m = e ∨ ∃ o, o < j ∧ m = a6 o) ∧ (∀ x, e ≤ x → x < m → ∃ o, s9 ≤ o ∧ o < j ∧ x < a6 o ∧ most + sm a0 o < sm a0 j)
/-- j jobs are printed -/
def PI (st : Nat → Nat) (r : Nat → Nat → Nat) (R j : Nat) (a0 a1 a2 a3 a4 a5 a6 a7 : Nat → Nat) (s1 s2 s3 s4 s5 s6 s7 s8 s9 : Nat) : Prop :=
  isP st r R a5 j ∧ (∀ i, i < j → a0 i = ndj st r i ∧ a1 i = wsh st r i ∧ a2 i = rdy st r i ∧ a3 i = a5 i - erl st r a5 i ∧ a4 i = fre a5 i + a3 i ∧ a6 i = a5 i + st 4 ∧ a7 i = a6 i - r 3 i) ∧
  s1 = ct (fun i => decide (0 < a7 i)) j ∧ s2 = sm a7 j ∧ s3 = mx a7 j ∧ s4 = sm (wsh st r) j ∧ s5 = sm (plt r) j ∧ s6 = sm a3 j ∧ s7 = mx (fun i => tkn st r a5 (i + 1) (a5 i)) j ∧
  s9 ≤ j ∧ s8 + sm a0 s9 = sm a0 j ∧ (∀ i, i < s9 → a6 i ≤ fre a5 j) ∧ (∀ i, i < j → a5 i ≤ 1200 * (i + 1))
theorem ct_cg {p q : Nat → Bool} : ∀ n, (∀ j, j < n → p j = q j) → ct p n = ct q n
  | 0, _ => rfl
  | n + 1, h => by
    show ct p n + (if p n = true then 1 else 0) = ct q n + (if q n = true then 1 else 0)
    rw [ct_cg n (fun j hj => h j (by omega)), h n (by omega)]
theorem PI_0 (st : Nat → Nat) (r : Nat → Nat → Nat) (R : Nat) (a0 a1 a2 a3 a4 a5 a6 a7 : Nat → Nat) : PI st r R 0 a0 a1 a2 a3 a4 a5 a6 a7 0 0 0 0 0 0 0 0 0 :=
  ⟨fun j h => by omega, fun i h => by omega, rfl, rfl, rfl, rfl, rfl, rfl, rfl, Nat.le_refl 0, rfl, fun i h => by omega, fun i h => by omega⟩
theorem PI_step {st : Nat → Nat} {r : Nat → Nat → Nat} {R n j : Nat} {a0 a1 a2 a3 a4 a5 a6 a7 : Nat → Nat} {s1 s2 s3 s4 s5 s6 s7 s8 s9 m t8 t9 : Nat} (hS : okS st) (hJ : okJ r n) (hR : okR st r n R) (hj : j < n)
    (h : PI st r R j a0 a1 a2 a3 a4 a5 a6 a7 s1 s2 s3 s4 s5 s6 s7 s8 s9) (hw : WR a6 (un a0 j (ndj st r j)) j (erl st r a5 j) (R - ndj st r j) s9 m t8 t9) (he : t9 < j → m < a6 t9 ∧ t8 ≤ R - ndj st r j) :
    PI st r R (j + 1) (un a0 j (ndj st r j)) (un a1 j (wsh st r j)) (un a2 j (rdy st r j)) (un a3 j (m - erl st r a5 j)) (un a4 j (fre a5 j + (m - erl st r a5 j))) (un a5 j m) (un a6 j (m + st 4)) (un a7 j (m + st 4 - r 3 j))
      (s1 + if 0 < m + st 4 - r 3 j then 1 else 0) (s2 + (m + st 4 - r 3 j)) (max s3 (m + st 4 - r 3 j)) (s4 + wsh st r j) (s5 + plt r j) (s6 + (m - erl st r a5 j)) (if 0 < st 4 then max s7 (t8 + ndj st r j) else s7) (t8 + ndj st r j) t9 := by
  obtain ⟨hP, hA, e1, e2, e3, e4, e5, e6, e7, e9, e8, hod, hbd⟩ := h
  obtain ⟨w1, w2, w3, w4, w5, w6, w7⟩ := hw
  have hRj := hR j hj
  have cg : ∀ i, i < j → a5 i = un a5 j m i := fun i hi => (un_n (by omega)).symm
  have cgl : ∀ i, i ≤ j → ∀ x, x < i → a5 x = un a5 j m x := fun i hi x hx => cg x (by omega)
  have hfre : ∀ i, i < j → a5 i ≤ fre a5 j := fun i hi => isP_fre hP hi (Nat.le_refl j)
  have herl : fre a5 j ≤ erl st r a5 j := by unfold erl; omega
  have hs0 : ∀ o, o ≤ j → sm (un a0 j (ndj st r j)) o = sm a0 o := fun o ho => sm_un o ho
  rw [hs0 t9 w3, hs0 j (Nat.le_refl j)] at w4
  have hg : ∀ x, erl st r a5 j ≤ x → ∀ i, i < j → (if a5 i ≤ x ∧ x < a5 i + st 4 then ndj st r i else 0) = if x < a6 i then a0 i else 0 := by
    intro x hx i hi
    have h1 := hfre i hi
    obtain ⟨b0, -, -, -, -, b6, -⟩ := hA i hi
    rw [b0, b6]
    by_cases q : x < a5 i + st 4
    · rw [if_pos ⟨by omega, q⟩, if_pos q]
    · rw [if_neg (fun z => q z.2), if_neg q]
  have ht : ∀ x, erl st r a5 j ≤ x → tkn st r a5 j x = sm (fun i => if x < a6 i then a0 i else 0) j := fun x hx => sm_cg j (hg x hx)
  have hmono : ∀ o i, o ≤ i → i < j → a6 o ≤ a6 i := by
    intro o i h1 h2
    rw [(hA o (by omega)).2.2.2.2.2.1, (hA i h2).2.2.2.2.2.1]
    have := isP_mono hP h1 h2
    omega
  have htm : tkn st r a5 j m = t8 := by
    rw [ht m w1]
    have := sm_two (f := a0) (g := fun i => if m < a6 i then a0 i else 0) (o := t9) j w3 (fun i hi => by
      show (if m < a6 i then a0 i else 0) = 0
      have : a6 i ≤ m := by
        by_cases q : i < s9
        · have := hod i q; omega
        · exact w5 i (by omega) hi
      rw [if_neg (by omega)]) (fun i h1 h2 => by
      show (if m < a6 i then a0 i else 0) = a0 i
      have h3 := (he (by omega)).1
      have h4 := hmono t9 i h1 h2
      rw [if_pos (by omega)])
    omega
  have hfit : t8 + ndj st r j ≤ R := by
    by_cases q : t9 < j
    · have := (he q).2; omega
    · have : t9 = j := by omega
      subst this
      omega
  have hPj : isP st r R (un a5 j m) (j + 1) := by
    intro i hi
    by_cases q : i = j
    · subst q
      rw [← erl_cg (cgl i (Nat.le_refl i)), un_s, ← tkn_cg (cgl i (Nat.le_refl i)), htm]
      refine ⟨w1, hfit, fun x h1 h2 => ?_⟩
      rw [← tkn_cg (cgl i (Nat.le_refl i)), ht x h1]
      obtain ⟨o, -, o2, o3, o4⟩ := w7 x h1 h2
      rw [hs0 o (by omega), hs0 i (Nat.le_refl i)] at o4
      have := sm_ge (f := a0) (g := fun y => if x < a6 y then a0 y else 0) (o := o) i (by omega) (fun y h3 h4 => by
        show (if x < a6 y then a0 y else 0) = a0 y
        have := hmono o y h3 h4
        rw [if_pos (by omega)])
      omega
    · obtain ⟨c1, c2, c3⟩ := hP i (by omega)
      rw [← erl_cg (cgl i (by omega)), ← cg i (by omega), ← tkn_cg (cgl i (by omega))]
      refine ⟨c1, c2, fun x h1 h2 => ?_⟩
      rw [← tkn_cg (cgl i (by omega))]
      exact c3 x h1 h2
  have hmb : m ≤ 1200 * j + 1101 := by
    have q1 := rdy_le hS hJ hj
    have q2 := (run_le hS hJ hj).2
    have q3 : fre a5 j ≤ 1200 * j := by
      unfold fre
      by_cases q : j = 0
      · rw [if_pos q]; omega
      · rw [if_neg q]
        have := hbd (j - 1) (by omega)
        omega
    rcases w6 with w6 | ⟨o, o1, o2⟩
    · rw [w6]; unfold erl; omega
    · rw [o2, (hA o o1).2.2.2.2.2.1]
      have := hbd o o1
      have := hS.2.2.2.2.2.1
      omega
  refine ⟨hPj, fun i hi => ?_, ?_, ?_, ?_, ?_, ?_, ?_, ?_, by omega, ?_, fun i hi => ?_, fun i hi => ?_⟩
  · by_cases q : i = j
    · subst q
      rw [un_s, un_s, un_s, un_s, un_s, un_s, un_s, un_s, ← erl_cg (cgl i (Nat.le_refl i)), ← fre_cg (cgl i (Nat.le_refl i))]
      exact ⟨rfl, rfl, rfl, rfl, rfl, rfl, rfl⟩
    · rw [un_n q, un_n q, un_n q, un_n q, un_n q, un_n q, un_n q, un_n q, ← erl_cg (cgl i (by omega)), ← fre_cg (cgl i (by omega))]
      exact hA i (by omega)
  · show _ = ct (fun i => decide (0 < un a7 j (m + st 4 - r 3 j) i)) j + (if decide (0 < un a7 j (m + st 4 - r 3 j) j) = true then 1 else 0)
    rw [un_s, e1, ct_cg (q := fun i => decide (0 < un a7 j (m + st 4 - r 3 j) i)) j (fun i hi => by rw [un_n (by omega)])]
    congr 1
    by_cases q : 0 < m + st 4 - r 3 j
    · rw [if_pos q, if_pos (decide_eq_true q)]
    · rw [if_neg q, if_neg (by simpa using q)]
  · rw [sm_s, un_s, sm_un j (Nat.le_refl j), e2]
  · rw [mx_s, un_s, mx_cg (g := a7) j (fun i hi => un_n (by omega)), e3]
  · rw [sm_s, e4]
  · rw [sm_s, e5]
  · rw [sm_s, un_s, sm_un j (Nat.le_refl j), e6]
  · rw [mx_s, mx_cg (g := fun i => tkn st r a5 (i + 1) (a5 i)) j (fun i hi => by rw [un_n (show i ≠ j by omega), ← tkn_cg (cgl (i + 1) (by omega))]), ← e7, un_s]
    have : tkn st r (un a5 j m) (j + 1) m = t8 + (if 0 < st 4 then ndj st r j else 0) := by
      show tkn st r (un a5 j m) j m + (if un a5 j m j ≤ m ∧ m < un a5 j m j + st 4 then ndj st r j else 0) = _
      rw [← tkn_cg (cgl j (Nat.le_refl j)), htm, un_s]
      congr 1
      by_cases q : 0 < st 4
      · rw [if_pos ⟨Nat.le_refl m, by omega⟩, if_pos q]
      · rw [if_neg (fun z => q (by omega)), if_neg q]
    rw [this]
    by_cases q : 0 < st 4
    · rw [if_pos q, if_pos q]
    · rw [if_neg q, if_neg q]
      have h0 : tkn st r a5 j m = 0 := by
        unfold tkn
        have : ∀ k, sm (fun i => if a5 i ≤ m ∧ m < a5 i + st 4 then ndj st r i else 0) k = 0 := by
          intro k
          induction k with
          | zero => rfl
          | succ k ih => rw [sm_s, ih, if_neg (by omega)]
        exact this j
      omega
  · rw [sm_s, un_s, hs0 t9 w3, hs0 j (Nat.le_refl j)]
    omega
  · show un a6 j (m + st 4) i ≤ fre (un a5 j m) (j + 1)
    unfold fre
    rw [if_neg (by omega), Nat.add_sub_cancel, un_s, un_n (by omega)]
    by_cases q : i < s9
    · have := hod i q; omega
    · exact w5 i (by omega) hi
  · by_cases q : i = j
    · subst q
      rw [un_s]; omega
    · rw [un_n q]; exact hbd i (by omega)

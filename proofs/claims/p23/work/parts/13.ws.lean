/-! WS: the worlds: a Board, a Press, the Pad, the History, the object itself, the reference; and small functions on numbers. -/
def wB (g : zG) (b st : Nat → Nat) (r : Nat → Nat → Nat) (n : Nat) : va_W := [(b 0, .inr (0, [.ref (b 1), .ref (b 2), .int (nI n)])), (b 1, .inl (g.2 0, 7, .inl (fun y => nI (st y)))), (b 2, .inl (g.2 1, 4, .inr (.inr (.inr (.inr (fun i => some (b (3 + i)))))))), (b 3, .inl (g.2 0, 12, .inl (fun y => nI (r 0 y)))), (b 4, .inl (g.2 0, 12, .inl (fun y => nI (r 1 y)))), (b 5, .inl (g.2 0, 12, .inl (fun y => nI (r 2 y)))), (b 6, .inl (g.2 0, 12, .inl (fun y => nI (r 3 y))))]
def wP (g : zG) (q a0 a1 a2 a3 a4 a5 a6 a7 : Nat → Nat) (s0 s1 s2 s3 s4 s5 s6 s7 s8 s9 : Nat) : va_W := [(q 0, .inr (3, [.ref (q 1), .ref (q 2), .ref (q 3), .ref (q 4), .ref (q 5), .ref (q 6), .ref (q 7), .ref (q 8), .int (nI s0), .int (nI s1), .int (nI s2), .int (nI s3), .int (nI s4), .int (nI s5), .int (nI s6), .int (nI s7), .int (nI s8), .int (nI s9)])), (q 1, .inl (g.2 0, 12, .inl (fun y => nI (a0 y)))), (q 2, .inl (g.2 0, 12, .inl (fun y => nI (a1 y)))), (q 3, .inl (g.2 0, 12, .inl (fun y => nI (a2 y)))), (q 4, .inl (g.2 0, 12, .inl (fun y => nI (a3 y)))), (q 5, .inl (g.2 0, 12, .inl (fun y => nI (a4 y)))), (q 6, .inl (g.2 0, 12, .inl (fun y => nI (a5 y)))), (q 7, .inl (g.2 0, 12, .inl (fun y => nI (a6 y)))), (q 8, .inl (g.2 0, 12, .inl (fun y => nI (a7 y))))]
def wPd (g : zG) (p fb tx : Nat → Nat) (len ex : Nat) (pl sh hu du : Int32) : va_W := [(p 0, .inr (2, [.ref (fb 0), .int (nI len), .ref (p 1), .int (nI ex), .int pl, .int sh, .int hu, .int du])), (p 1, .inl (g.2 0, 60, .inl (fun y => nI (tx y))))]
def wH (g : zG) (h : Nat → Nat) (hb : Nat → Nat → Nat) (kp nx : Nat) : va_W := [(h 0, .inr (1, [.int (nI kp), .ref (h 1), .int (nI nx)])), (h 1, .inl (g.2 2, 6, .inr (.inr (.inr (.inr (fun i => some (hb i 0)))))))]
def wX (g : zG) (x bd tr q p h : Nat → Nat) (sb : Nat → Nat → Nat) (sv : Nat → Bool) : va_W := [(x 0, .inr (4, [.ref (bd 0), .ref (tr 0), .ref (q 0), .ref (p 0), .ref (h 0), .ref (x 1), .ref (x 2)])), (x 1, .inl (g.2 2, 2, .inr (.inr (.inr (.inr (fun i => some (sb i 0))))))), (x 2, .inl (g.2 3, 2, .inl (fun y => bI (sv y))))]
def wM (g : zG) (y all kept hist : Nat → Nat) (hl : Nat) (slo sav beg prt frm txt : Nat → Nat) (tl sp : Nat) (tol : Nat → Nat) (rd : Nat) : va_W := [(y 0, .inr (5, [.ref (y 1), .ref (y 2), .ref (y 3), .int (nI hl), .ref (y 4), .ref (y 5), .ref (y 6), .ref (y 7), .ref (y 8), .ref (y 9), .int (nI tl), .int (nI sp), .ref (y 10), .int (nI rd)])), (y 1, .inl (g.2 0, 56, .inl (fun y => nI (all y)))), (y 2, .inl (g.2 0, 56, .inl (fun y => nI (kept y)))), (y 3, .inl (g.2 0, 336, .inl (fun y => nI (hist y)))), (y 4, .inl (g.2 0, 112, .inl (fun y => nI (slo y)))), (y 5, .inl (g.2 0, 2, .inl (fun y => nI (sav y)))), (y 6, .inl (g.2 0, 12, .inl (fun y => nI (beg y)))), (y 7, .inl (g.2 0, 12, .inl (fun y => nI (prt y)))), (y 8, .inl (g.2 0, 12, .inl (fun y => nI (frm y)))), (y 9, .inl (g.2 0, 60, .inl (fun y => nI (txt y)))), (y 10, .inl (g.2 0, 60, .inl (fun y => nI (tol y))))]
theorem wB_row {g : zG} {b st : Nat → Nat} {r : Nat → Nat → Nat} {n i : Nat} (h : i < 4) : (wB g b st r n)[3 + i]? = some (b (3 + i), .inl (g.2 0, 12, .inl (fun y => nI (r i y)))) := by
  rcases (show i = 0 ∨ i = 1 ∨ i = 2 ∨ i = 3 by omega) with rfl | rfl | rfl | rfl <;> rfl
theorem wB_set {g : zG} {b st : Nat → Nat} {r : Nat → Nat → Nat} {n i : Nat} {f : Nat → Nat} (h : i < 4) : (wB g b st r n).set (3 + i) (b (3 + i), .inl (g.2 0, 12, .inl (fun y => nI (f y)))) = wB g b st (un r i f) n := by
  rcases (show i = 0 ∨ i = 1 ∨ i = 2 ∨ i = 3 by omega) with rfl | rfl | rfl | rfl <;> rfl
section WSs
variable {K : zK} {n k : Nat} {cs : List va_W} {lv : List (Nat × Value)} {pc : Nat} {st : List Value}
theorem zset_get {cs : List va_W} {i : Nat} {c d : va_W} (h : cs[i]? = some c) : (cs.set i d)[i]? = some d := List.getElem?_set_self (List.getElem?_eq_some_iff.mp h).1
/-- a board's content, told otherwise -/
theorem z_wB (i : Nat) {b s1 : Nat → Nat} {r1 : Nat → Nat → Nat} {m : Nat} (hi : cs[i]? = some (wB K.g b s1 r1 m)) (s2 : Nat → Nat) (r2 : Nat → Nat → Nat) (hst : ∀ y, y < 7 → s1 y = s2 y) (hr : ∀ j, j < 4 → ∀ y, y < 12 → r1 j y = r2 j y) (cs2 : List va_W) (hcs : cs.set i (wB K.g b s2 r2 m) = cs2) (kk : Z K n k cs2 lv pc st) : Z K n k cs lv pc st := by
  refine z_arr (g := fun y => nI (s2 y)) i 1 hi rfl (fun y hy => by rw [hst y hy]) (wB K.g b s2 r1 m) rfl _ rfl ?_
  refine z_arr (g := fun y => nI (r2 0 y)) i 3 (zset_get hi) rfl (fun y hy => by rw [hr 0 (by decide) y hy]) (wB K.g b s2 (un r1 0 (r2 0)) m) rfl _ rfl ?_
  refine z_arr (g := fun y => nI (r2 1 y)) i 4 (zset_get (zset_get hi)) rfl (fun y hy => by rw [← hr 1 (by decide) y hy]; rfl) (wB K.g b s2 (un (un r1 0 (r2 0)) 1 (r2 1)) m) rfl _ rfl ?_
  refine z_arr (g := fun y => nI (r2 2 y)) i 5 (zset_get (zset_get (zset_get hi))) rfl (fun y hy => by rw [← hr 2 (by decide) y hy]; rfl) (wB K.g b s2 (un (un (un r1 0 (r2 0)) 1 (r2 1)) 2 (r2 2)) m) rfl _ rfl ?_
  refine z_arr (g := fun y => nI (r2 3 y)) i 6 (zset_get (zset_get (zset_get (zset_get hi)))) rfl (fun y hy => by rw [← hr 3 (by decide) y hy]; rfl) (wB K.g b s2 r2 m) rfl _ rfl ?_
  rw [List.set_set, List.set_set, List.set_set, List.set_set, hcs]
  exact kk
end WSs
/-- in a range, as Booleans -/
def rg (x lo hi : Int) : Bool := decide (lo ≤ x ∧ x ≤ hi)
theorem rg_t {x lo hi : Int} (h : lo ≤ x) (h2 : x ≤ hi) : rg x lo hi = true := decide_eq_true ⟨h, h2⟩
theorem rg_f {x lo hi : Int} (h : ¬ (lo ≤ x ∧ x ≤ hi)) : rg x lo hi = false := decide_eq_false h
theorem rg_i {x lo hi : Int} (h : rg x lo hi = true) : lo ≤ x ∧ x ≤ hi := of_decide_eq_true h
theorem rg_n {x lo hi : Int} (h : rg x lo hi = false) : ¬ (lo ≤ x ∧ x ≤ hi) := of_decide_eq_false h
/-- an int that is in a range of numbers that are not negative -/
theorem rg_nI {x : Int32} {lo hi : Nat} (h : rg x.toInt lo hi = true) : ∃ j : Nat, lo ≤ j ∧ j ≤ hi ∧ x = nI j := by
  obtain ⟨h1, h2⟩ := rg_i h
  have hx : ¬ x < 0 := by
    rw [Int32.lt_iff_toInt_lt, Int32.toInt_zero]
    omega
  obtain ⟨j, hj, rfl⟩ := nI_of hx
  rw [nI_toInt hj] at h1 h2
  exact ⟨j, by omega, by omega, rfl⟩
/-- racks that so many hundreds need -/
def nd (d h : Nat) : Nat := (h + d - 1) / d
theorem nd_le {d h : Nat} (hd : 0 < d) : nd d h ≤ h := by
  unfold nd
  rcases Nat.eq_zero_or_pos h with rfl | hh
  · rw [Nat.zero_add, Nat.div_eq_of_lt (by omega)]
    exact Nat.le_refl 0
  · refine Nat.div_le_of_le_mul ?_
    have := Nat.mul_le_mul hd hh
    have h2 : d * h ≥ h + d - 1 := by
      obtain ⟨a, rfl⟩ : ∃ a, d = a + 1 := ⟨d - 1, by omega⟩
      obtain ⟨c, rfl⟩ : ∃ c, h = c + 1 := ⟨h - 1, by omega⟩
      have : (a + 1) * (c + 1) = a * c + a + c + 1 := by rw [Nat.add_mul, Nat.mul_add]; omega
      omega
    exact h2
/-- how many below n are so -/
def ct (p : Nat → Bool) : Nat → Nat
  | 0 => 0
  | n + 1 => ct p n + (if p n = true then 1 else 0)
theorem ct_s {p : Nat → Bool} {n : Nat} (h : p n = true) : ct p (n + 1) = ct p n + 1 := by
  show ct p n + (if p n = true then 1 else 0) = _
  rw [if_pos h]
theorem ct_f {p : Nat → Bool} {n : Nat} (h : p n = false) : ct p (n + 1) = ct p n := by
  show ct p n + (if p n = true then 1 else 0) = _
  rw [if_neg (by rw [h]; decide)]
  rfl
theorem ct_le (p : Nat → Bool) : ∀ n, ct p n ≤ n
  | 0 => Nat.le_refl 0
  | n + 1 => by
    have := ct_le p n
    show ct p n + (if p n = true then 1 else 0) ≤ n + 1
    split <;> omega
theorem ct_lt {p : Nat → Bool} {j : Nat} (h : p j = false) : ∀ n, j < n → ct p n < n
  | 0, hj => by omega
  | n + 1, hj => by
    by_cases e : j = n
    · subst e
      rw [ct_f h]
      have := ct_le p j
      omega
    · have := ct_lt h n (by omega)
      show ct p n + (if p n = true then 1 else 0) < n + 1
      split <;> omega
def sm (f : Nat → Nat) : Nat → Nat
  | 0 => 0
  | n + 1 => sm f n + f n
theorem sm_s (f : Nat → Nat) (n : Nat) : sm f (n + 1) = sm f n + f n := rfl
theorem sm_le {f : Nat → Nat} {B : Nat} : ∀ n, (∀ j, j < n → f j ≤ B) → sm f n ≤ n * B
  | 0, _ => by rw [Nat.zero_mul]; exact Nat.le_refl 0
  | n + 1, h => by
    have h1 := sm_le n (fun j hj => h j (by omega))
    have h2 := h n (by omega)
    rw [sm_s, Nat.add_mul]
    omega
theorem sm_cg {f g : Nat → Nat} : ∀ n, (∀ j, j < n → f j = g j) → sm f n = sm g n
  | 0, _ => rfl
  | n + 1, h => by rw [sm_s, sm_s, sm_cg n (fun j hj => h j (by omega)), h n (by omega)]
def mx (f : Nat → Nat) : Nat → Nat
  | 0 => 0
  | n + 1 => max (mx f n) (f n)
theorem mx_s (f : Nat → Nat) (n : Nat) : mx f (n + 1) = max (mx f n) (f n) := rfl
theorem mx_le {f : Nat → Nat} {B : Nat} : ∀ n, (∀ j, j < n → f j ≤ B) → mx f n ≤ B
  | 0, _ => Nat.zero_le B
  | n + 1, h => by
    have h1 := mx_le n (fun j hj => h j (by omega))
    have h2 := h n (by omega)
    rw [mx_s]
    omega
theorem mx_cg {f g : Nat → Nat} : ∀ n, (∀ j, j < n → f j = g j) → mx f n = mx g n
  | 0, _ => rfl
  | n + 1, h => by rw [mx_s, mx_s, mx_cg n (fun j hj => h j (by omega)), h n (by omega)]
theorem zia {α β : Type} {c : Prop} [Decidable c] (f g : α → β) (x : α) : (if c then f else g) x = if c then f x else g x := by split <;> rfl
theorem zlc {α : Type} {cs : List α} {isC : List Nat} {N : Nat} (h : isC.all (fun x => decide (x < N)) = true) (hN : cs.length = N) : ∀ x ∈ isC, x < cs.length := fun x hx => by
  rw [hN]
  exact of_decide_eq_true (List.all_eq_true.mp h x hx)

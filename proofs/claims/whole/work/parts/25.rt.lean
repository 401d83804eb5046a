/-! RT: the reference: its text. -/
theorem nI_lN {a : Nat} (h : a < 2 ^ 31) : (nI a).toInt64 = lN a := Int64.toInt_inj.mp (by rw [Int32.toInt_toInt64, nI_toInt h, lN_toInt h])
theorem rgL_i {k a b : Nat} (hk : k < 2 ^ 31) (ha : a < 2 ^ 31) (hb : b < 2 ^ 31) (h : rg (lN k).toInt (lN a).toInt (lN b).toInt = true) : a ≤ k ∧ k ≤ b := by
  rw [lN_toInt hk, lN_toInt ha, lN_toInt hb] at h
  have := rg_i h
  omega
theorem rgL_n {k a b : Nat} (hk : k < 2 ^ 31) (ha : a < 2 ^ 31) (hb : b < 2 ^ 31) (h : rg (lN k).toInt (lN a).toInt (lN b).toInt = false) : ¬ (a ≤ k ∧ k ≤ b) := by
  rw [lN_toInt hk, lN_toInt ha, lN_toInt hb] at h
  have := rg_n h
  omega
theorem chF_z {i z : Nat} (hi : 8 ≤ i) (hz : z < 256 ^ (8 - i)) : z = 0 := by
  rw [show 8 - i = 0 by omega] at hz
  omega
/-- a digit that a number takes -/
def NC (tx : Nat → Nat) (tl hi s v : Nat) : Prop := 0 < v ∧ s < tl ∧ 48 ≤ tx s ∧ tx s ≤ 57 ∧ 10 * v + tx s - 48 ≤ hi
def nv (tx : Nat → Nat) (s v : Nat) : Nat → Nat
  | 0 => v
  | d + 1 => 10 * nv tx s v d + tx (s + d) - 48
def NR (tx : Nat → Nat) (tl hi s v s2 v2 : Nat) : Prop := ∃ d, s2 = s + d ∧ v2 = nv tx s v d ∧ (∀ i, i < d → NC tx tl hi (s + i) (nv tx s v i)) ∧ ¬ NC tx tl hi (s + d) (nv tx s v d)
def RN (tx : Nat → Nat) (tl sp lt q lo hi rd : Nat) (tol : Nat → Nat) (b : Bool) (sp2 : Nat) (tol2 : Nat → Nat) : Prop :=
  (b = false ∧ tol2 = tol ∧ sp2 = sp ∧ ¬ (sp < tl ∧ tx sp = lt)) ∨
  (b = false ∧ tol2 = tol ∧ sp2 = sp + 1 ∧ sp < tl ∧ tx sp = lt ∧ ¬ (sp + 1 < tl ∧ 48 + lo ≤ tx (sp + 1) ∧ tx (sp + 1) ≤ 57)) ∨
  (b = true ∧ sp < tl ∧ tx sp = lt ∧ sp + 1 < tl ∧ 48 + lo ≤ tx (sp + 1) ∧ tx (sp + 1) ≤ 57 ∧ ∃ v, NR tx tl hi (sp + 2) (tx (sp + 1) - 48) sp2 v ∧ tol2 = un tol (4 * rd + q) v)
/-- where reading stops for a fault -/
def FA (tx : Nat → Nat) (fr : Nat → Nat → Nat) (tl s : Nat) : Prop := s ≤ tl ∧ auGd tx fr s ∧ ((s < tl ∧ auG tx fr s = false) ∨ (s = tl ∧ (auR tx fr s).1 ≠ 6 ∧ (auR tx fr s).1 ≠ 8))
theorem auG_e {tx : Nat → Nat} {fr : Nat → Nat → Nat} {i e a s h d n : Nat} {r1 : Nat → Nat → Nat} (hR : auR tx fr i = (e, a, s, h, d, n, r1)) : auG tx fr i = auOK e h d (tx i) := by
  unfold auG
  rw [hR]
theorem FA_of {tx : Nat → Nat} {fr : Nat → Nat → Nat} {tl i e a s h d n : Nat} {r1 : Nat → Nat → Nat} (hR : auR tx fr i = (e, a, s, h, d, n, r1)) (hG : auGd tx fr i) (hi : i ≤ tl) (h6 : e ≠ 6) (h8 : e ≠ 8) (hk : i < tl → auOK e h d (tx i) = false) : FA tx fr tl i := by
  refine ⟨hi, hG, ?_⟩
  by_cases q : i < tl
  · exact Or.inl ⟨q, by rw [auG_e hR]; exact hk q⟩
  · exact Or.inr ⟨by omega, by rw [hR]; exact h6, by rw [hR]; exact h8⟩
theorem au_st {tx : Nat → Nat} {fr : Nat → Nat → Nat} {i e a s h d n : Nat} {r1 : Nat → Nat → Nat} (hR : auR tx fr i = (e, a, s, h, d, n, r1)) {x : AS} (hx : auN (e, a, s, h, d, n, r1) (tx i) = x) : auR tx fr (i + 1) = x := by
  show auN (auR tx fr i) (tx i) = x
  rw [hR, hx]
theorem NR_9 {tx : Nat → Nat} {tl s v s2 v2 : Nat} (h : NR tx tl 9 s v s2 v2) : s2 = s ∧ v2 = v := by
  obtain ⟨d, e1, e2, h1, -⟩ := h
  cases d with
  | zero => exact ⟨e1, e2⟩
  | succ d =>
    obtain ⟨q1, q2, q3, q4, q5⟩ := h1 0 (by omega)
    have q1 : 0 < v := q1
    have q5 : 10 * v + tx (s + 0) - 48 ≤ 9 := q5
    have q3 : 48 ≤ tx (s + 0) := q3
    omega
theorem dg_n {c : Nat} (h : ¬ (48 ≤ c ∧ c ≤ 57)) : isD c = false := decide_eq_false h
theorem dg_y {c : Nat} (h1 : 48 ≤ c) (h2 : c ≤ 57) : isD c = true := decide_eq_true ⟨h1, h2⟩
variable {tx : Nat → Nat} {fr r1 : Nat → Nat → Nat} {tl sp a s h d rd : Nat} {tol tol2 : Nat → Nat} {b : Bool} {sp2 : Nat}
theorem RN_pF (hR : auR tx fr sp = (0, a, s, h, d, rd, r1)) (hG : auGd tx fr sp) (hs : sp ≤ tl) (hN : RN tx tl sp 112 0 0 9 rd tol b sp2 tol2) (hb : b = false) : FA tx fr tl sp2 := by
  rcases hN with ⟨-, -, rfl, hz⟩ | ⟨-, -, rfl, h1, h2, h3⟩ | ⟨hx, -⟩
  · exact FA_of hR hG hs (by omega) (by omega) (fun q => decide_eq_false (fun z => hz ⟨q, z⟩))
  · have hok : auOK 0 h d (tx sp) = true := decide_eq_true h2
    exact FA_of (au_st hR rfl) (auGd_s hG hR hok) (by omega) (by omega) (by omega) (fun q => dg_n (fun z => h3 ⟨q, by omega, z.2⟩))
  · exact absurd (hx.symm.trans hb) (by decide)
theorem RN_pT (hR : auR tx fr sp = (0, a, s, h, d, rd, r1)) (hG : auGd tx fr sp) (_hs : sp ≤ tl) (hN : RN tx tl sp 112 0 0 9 rd tol b sp2 tol2) (hb : b = true) : ∃ v, auR tx fr sp2 = (2, v, s, h, d, rd, r1) ∧ auGd tx fr sp2 ∧ sp2 ≤ tl ∧ tol2 = un tol (4 * rd + 0) v := by
  rcases hN with ⟨hx, -⟩ | ⟨hx, -⟩ | ⟨-, h1, h2, h3, h4, h5, v, hv, ht⟩
  · exact absurd (hx.symm.trans hb) (by decide)
  · exact absurd (hx.symm.trans hb) (by decide)
  · obtain ⟨rfl, rfl⟩ := NR_9 hv
    have hok : auOK 0 h d (tx sp) = true := decide_eq_true h2
    have hR1 : auR tx fr (sp + 1) = (1, a, s, h, d, rd, r1) := au_st hR rfl
    have hG1 := auGd_s hG hR hok
    have hok1 : auOK 1 h d (tx (sp + 1)) = true := dg_y (by omega) h5
    exact ⟨_, au_st hR1 rfl, auGd_s hG1 hR1 hok1, by omega, ht⟩
theorem RN_sF (hR : auR tx fr sp = (2, a, s, h, d, rd, r1)) (hG : auGd tx fr sp) (hs : sp ≤ tl) (hN : RN tx tl sp 115 1 0 9 rd tol b sp2 tol2) (hb : b = false) : FA tx fr tl sp2 := by
  rcases hN with ⟨-, -, rfl, hz⟩ | ⟨-, -, rfl, h1, h2, h3⟩ | ⟨hx, -⟩
  · exact FA_of hR hG hs (by omega) (by omega) (fun q => decide_eq_false (fun z => hz ⟨q, z⟩))
  · have hok : auOK 2 h d (tx sp) = true := decide_eq_true h2
    exact FA_of (au_st hR rfl) (auGd_s hG hR hok) (by omega) (by omega) (by omega) (fun q => dg_n (fun z => h3 ⟨q, by omega, z.2⟩))
  · exact absurd (hx.symm.trans hb) (by decide)
theorem RN_sT (hR : auR tx fr sp = (2, a, s, h, d, rd, r1)) (hG : auGd tx fr sp) (_hs : sp ≤ tl) (hN : RN tx tl sp 115 1 0 9 rd tol b sp2 tol2) (hb : b = true) : ∃ v, auR tx fr sp2 = (4, a, v, h, d, rd, r1) ∧ auGd tx fr sp2 ∧ sp2 ≤ tl ∧ tol2 = un tol (4 * rd + 1) v := by
  rcases hN with ⟨hx, -⟩ | ⟨hx, -⟩ | ⟨-, h1, h2, h3, h4, h5, v, hv, ht⟩
  · exact absurd (hx.symm.trans hb) (by decide)
  · exact absurd (hx.symm.trans hb) (by decide)
  · obtain ⟨rfl, rfl⟩ := NR_9 hv
    have hok : auOK 2 h d (tx sp) = true := decide_eq_true h2
    have hR1 : auR tx fr (sp + 1) = (3, a, s, h, d, rd, r1) := au_st hR rfl
    have hG1 := auGd_s hG hR hok
    have hok1 : auOK 3 h d (tx (sp + 1)) = true := dg_y (by omega) h5
    exact ⟨_, au_st hR1 rfl, auGd_s hG1 hR1 hok1, by omega, ht⟩
theorem RN_nF (hR : auR tx fr sp = (4, a, s, h, d, rd, r1)) (hG : auGd tx fr sp) (hs : sp ≤ tl) (hN : RN tx tl sp 110 2 1 20 rd tol b sp2 tol2) (hb : b = false) : FA tx fr tl sp2 := by
  rcases hN with ⟨-, -, rfl, hz⟩ | ⟨-, -, rfl, h1, h2, h3⟩ | ⟨hx, -⟩
  · exact FA_of hR hG hs (by omega) (by omega) (fun q => decide_eq_false (fun z => hz ⟨q, z⟩))
  · have hok : auOK 4 h d (tx sp) = true := decide_eq_true h2
    refine FA_of (au_st hR rfl) (auGd_s hG hR hok) (by omega) (by omega) (by omega) (fun q => ?_)
    rw [auOK_5]
    by_cases z : 48 ≤ tx (sp + 1) ∧ tx (sp + 1) ≤ 57
    · rw [decide_eq_false (show ¬ tx (sp + 1) ≠ 48 from fun y => h3 ⟨q, by omega, z.2⟩), Bool.and_false]
    · rw [dg_n z]; rfl
  · exact absurd (hx.symm.trans hb) (by decide)
theorem NR_6 {v : Nat} : ∀ k, auR tx fr sp = (6, a, s, v, d, rd, r1) → auGd tx fr sp → (∀ i, i < k → NC tx tl 20 (sp + i) (nv tx sp v i)) → auR tx fr (sp + k) = (6, a, s, nv tx sp v k, d, rd, r1) ∧ auGd tx fr (sp + k)
  | 0, hR, hG, _ => ⟨hR, hG⟩
  | k + 1, hR, hG, hA => by
    obtain ⟨hR1, hG1⟩ := NR_6 k hR hG (fun i hi => hA i (by omega))
    obtain ⟨q1, q2, q3, q4, q5⟩ := hA k (by omega)
    have e : 10 * nv tx sp v k + (tx (sp + k) - 48) = nv tx sp v (k + 1) := by
      show _ = 10 * nv tx sp v k + tx (sp + k) - 48
      omega
    have hok : auOK 6 (nv tx sp v k) d (tx (sp + k)) = true := by
      rw [auOK_6, if_pos (dg_y q3 q4)]
      exact decide_eq_true (by omega)
    exact ⟨au_st hR1 (by rw [auN_6, if_pos (dg_y q3 q4), e]), auGd_s hG1 hR1 hok⟩
theorem NR_8 {v : Nat} : ∀ k, auR tx fr sp = (8, a, s, h, v, rd, r1) → auGd tx fr sp → (∀ i, i < k → NC tx tl 3000 (sp + i) (nv tx sp v i)) → auR tx fr (sp + k) = (8, a, s, h, nv tx sp v k, rd, r1) ∧ auGd tx fr (sp + k)
  | 0, hR, hG, _ => ⟨hR, hG⟩
  | k + 1, hR, hG, hA => by
    obtain ⟨hR1, hG1⟩ := NR_8 k hR hG (fun i hi => hA i (by omega))
    obtain ⟨q1, q2, q3, q4, q5⟩ := hA k (by omega)
    have e : 10 * nv tx sp v k + (tx (sp + k) - 48) = nv tx sp v (k + 1) := by
      show _ = 10 * nv tx sp v k + tx (sp + k) - 48
      omega
    have hok : auOK 8 h (nv tx sp v k) (tx (sp + k)) = true := by
      rw [auOK_8, if_pos (dg_y q3 q4)]
      exact decide_eq_true (by omega)
    exact ⟨au_st hR1 (by rw [auN_8, if_pos (dg_y q3 q4), e]), auGd_s hG1 hR1 hok⟩
theorem NR_le {tx : Nat → Nat} {tl hi s v s2 v2 : Nat} (h : NR tx tl hi s v s2 v2) (hs : s ≤ tl) : s2 ≤ tl := by
  obtain ⟨d, rfl, -, hA, -⟩ := h
  cases d with
  | zero => exact hs
  | succ d => have := (hA d (by omega)).2.1; omega
theorem nv_pos {tx : Nat → Nat} {tl hi s v : Nat} (hv : 0 < v) : ∀ k, (∀ i, i < k → NC tx tl hi (s + i) (nv tx s v i)) → 0 < nv tx s v k
  | 0, _ => hv
  | k + 1, hA => by
    obtain ⟨q1, q2, q3, q4, q5⟩ := hA k (by omega)
    show 0 < 10 * nv tx s v k + tx (s + k) - 48
    omega
theorem RN_nT (hR : auR tx fr sp = (4, a, s, h, d, rd, r1)) (hG : auGd tx fr sp) (_hs : sp ≤ tl) (hN : RN tx tl sp 110 2 1 20 rd tol b sp2 tol2) (hb : b = true) : ∃ v, auR tx fr sp2 = (6, a, s, v, 3000, rd, r1) ∧ auGd tx fr sp2 ∧ sp2 ≤ tl ∧ (0 < v ∧ ¬ NC tx tl 20 sp2 v) ∧ tol2 = un tol (4 * rd + 2) v := by
  rcases hN with ⟨hx, -⟩ | ⟨hx, -⟩ | ⟨-, h1, h2, h3, h4, h5, v, hv, ht⟩
  · exact absurd (hx.symm.trans hb) (by decide)
  · exact absurd (hx.symm.trans hb) (by decide)
  · have hle := NR_le hv (by omega)
    obtain ⟨k, rfl, rfl, hA, hst⟩ := hv
    have hok : auOK 4 h d (tx sp) = true := decide_eq_true h2
    have hR1 : auR tx fr (sp + 1) = (5, a, s, h, d, rd, r1) := au_st hR rfl
    have hG1 := auGd_s hG hR hok
    have hok1 : auOK 5 h d (tx (sp + 1)) = true := by
      rw [auOK_5, dg_y (by omega) h5, decide_eq_true (show tx (sp + 1) ≠ 48 by omega)]
      rfl
    obtain ⟨hR2, hG2⟩ := NR_6 k (au_st hR1 rfl : auR tx fr (sp + 2) = (6, a, s, tx (sp + 1) - 48, 3000, rd, r1)) (auGd_s hG1 hR1 hok1) hA
    exact ⟨_, hR2, hG2, hle, ⟨nv_pos (by omega) k hA, hst⟩, ht⟩
theorem ok6d {h d : Nat} : auOK 6 h d 100 = true := rfl
theorem RN_dF (hR : auR tx fr sp = (6, a, s, h, d, rd, r1)) (hG : auGd tx fr sp) (hs : sp < tl) (hc : tx sp = 100) (hN : RN tx tl sp 100 3 0 3000 rd tol b sp2 tol2) (hb : b = false) : FA tx fr tl sp2 := by
  rcases hN with ⟨-, -, rfl, hz⟩ | ⟨-, -, rfl, h1, h2, h3⟩ | ⟨hx, -⟩
  · exact absurd ⟨hs, hc⟩ hz
  · exact FA_of (au_st hR (by rw [hc]; rfl) : auR tx fr (sp + 1) = (7, a, s, h, d, rd, r1)) (auGd_s hG hR (by rw [hc]; exact ok6d)) (by omega) (by omega) (by omega) (fun q => dg_n (fun z => h3 ⟨q, by omega, z.2⟩))
  · exact absurd (hx.symm.trans hb) (by decide)
theorem RN_dT (hR : auR tx fr sp = (6, a, s, h, d, rd, r1)) (hG : auGd tx fr sp) (_hs : sp < tl) (hc : tx sp = 100) (hN : RN tx tl sp 100 3 0 3000 rd tol b sp2 tol2) (hb : b = true) : ∃ v, auR tx fr sp2 = (8, a, s, h, v, rd, r1) ∧ auGd tx fr sp2 ∧ sp2 ≤ tl ∧ ¬ NC tx tl 3000 sp2 v ∧ tol2 = un tol (4 * rd + 3) v := by
  rcases hN with ⟨hx, -⟩ | ⟨hx, -⟩ | ⟨-, h1, h2, h3, h4, h5, v, hv, ht⟩
  · exact absurd (hx.symm.trans hb) (by decide)
  · exact absurd (hx.symm.trans hb) (by decide)
  · have hle := NR_le hv (by omega)
    obtain ⟨k, rfl, rfl, hA, hst⟩ := hv
    have hR1 : auR tx fr (sp + 1) = (7, a, s, h, d, rd, r1) := au_st hR (by rw [hc]; rfl)
    have hG1 := auGd_s hG hR (by rw [hc]; exact ok6d)
    have hok1 : auOK 7 h d (tx (sp + 1)) = true := dg_y (by omega) h5
    obtain ⟨hR2, hG2⟩ := NR_8 k (au_st hR1 rfl : auR tx fr (sp + 2) = (8, a, s, h, tx (sp + 1) - 48, rd, r1)) (auGd_s hG1 hR1 hok1) hA
    exact ⟨_, hR2, hG2, hle, hst, ht⟩
/-- one job is read -/
def RJ (tx : Nat → Nat) (fr : Nat → Nat → Nat) (tl rd : Nat) (r1 : Nat → Nat → Nat) (b : Bool) (sp2 : Nat) (tol2 : Nat → Nat) (rd2 : Nat) : Prop :=
  sp2 ≤ tl ∧ auGd tx fr sp2 ∧ ((b = false ∧ ((sp2 < tl ∧ auG tx fr sp2 = false) ∨ (sp2 = tl ∧ (auR tx fr sp2).1 ≠ 6 ∧ (auR tx fr sp2).1 ≠ 8))) ∨
    (b = true ∧ rd2 = rd + 1 ∧ ∃ ex a s h d, (ex = 6 ∨ ex = 8) ∧ auR tx fr sp2 = (ex, a, s, h, d, rd, r1) ∧ (∀ j, j < rd + 1 → ∀ k, k < 4 → tol2 (4 * j + k) = apR r1 rd a s h d k j) ∧ (sp2 < tl → tx sp2 ≠ 59 → auG tx fr sp2 = false)))
theorem RJ_F {rd2 : Nat} (hF : FA tx fr tl sp2) : RJ tx fr tl rd r1 false sp2 tol2 rd2 := ⟨hF.1, hF.2.1, Or.inl ⟨rfl, hF.2.2⟩⟩
theorem TOL_4 {to0 to1 to2 to3 to4 : Nat → Nat} {v1 v2 v3 v4 w : Nat} (hM : ∀ j, j < rd → ∀ k, k < 4 → to0 (4 * j + k) = r1 k j) (e1 : to1 = un (un to0 (4 * rd + 3) w) (4 * rd + 0) v1) (e2 : to2 = un to1 (4 * rd + 1) v2) (e3 : to3 = un to2 (4 * rd + 2) v3) (e4 : to4 = un to3 (4 * rd + 3) v4) :
    ∀ j, j < rd + 1 → ∀ k, k < 4 → to4 (4 * j + k) = apR r1 rd v1 v2 v3 v4 k j := by
  subst e1; subst e2; subst e3; subst e4
  intro j hj k hk
  by_cases e : j = rd
  · subst e
    rcases (show k = 0 ∨ k = 1 ∨ k = 2 ∨ k = 3 by omega) with rfl | rfl | rfl | rfl
    · rw [un_n (by omega), un_n (by omega), un_n (by omega), un_s]; exact un_s.symm
    · rw [un_n (by omega), un_n (by omega), un_s]; exact un_s.symm
    · rw [un_n (by omega), un_s]; exact un_s.symm
    · rw [un_s]; exact un_s.symm
  · rw [un_n (by omega), un_n (by omega), un_n (by omega), un_n (by omega), un_n (by omega), hM j (by omega) k hk]
    exact (un_n e).symm
theorem un_0 {f : Nat → Nat} {k v : Nat} (h : f k = v) : un f k v = f := by
  funext y
  by_cases e : y = k
  · subst e; rw [un_s, h]
  · rw [un_n e]
theorem TOL_3 {to0 to1 to2 to3 : Nat → Nat} {v1 v2 v3 w : Nat} (hM : ∀ j, j < rd → ∀ k, k < 4 → to0 (4 * j + k) = r1 k j) (e1 : to1 = un (un to0 (4 * rd + 3) w) (4 * rd + 0) v1) (e2 : to2 = un to1 (4 * rd + 1) v2) (e3 : to3 = un to2 (4 * rd + 2) v3) :
    ∀ j, j < rd + 1 → ∀ k, k < 4 → to3 (4 * j + k) = apR r1 rd v1 v2 v3 w k j := by
  have h : un to3 (4 * rd + 3) w = to3 := un_0 (by subst e1; subst e2; subst e3; rw [un_n (by omega), un_n (by omega), un_n (by omega), un_s])
  exact TOL_4 hM e1 e2 e3 h.symm
theorem RJ_6 {tol3 : Nat → Nat} {v1 v2 v3 : Nat} (hR : auR tx fr sp = (6, v1, v2, v3, 3000, rd, r1)) (hG : auGd tx fr sp) (hs : sp ≤ tl) (hp : 0 < v3 ∧ ¬ NC tx tl 20 sp v3) (hd : ¬ (sp < tl ∧ tx sp = 100)) (hT : ∀ j, j < rd + 1 → ∀ k, k < 4 → tol3 (4 * j + k) = apR r1 rd v1 v2 v3 3000 k j) : RJ tx fr tl rd r1 true sp tol3 (rd + 1) := by
  refine ⟨hs, hG, Or.inr ⟨rfl, rfl, 6, v1, v2, v3, 3000, Or.inl rfl, hR, hT, fun h1 h2 => ?_⟩⟩
  rw [auG_e hR, auOK_6]
  by_cases z : 48 ≤ tx sp ∧ tx sp ≤ 57
  · rw [if_pos (dg_y z.1 z.2)]
    exact decide_eq_false (fun y => hp.2 ⟨hp.1, h1, z.1, z.2, by omega⟩)
  · rw [if_neg (by rw [dg_n z]; decide)]
    exact decide_eq_false (fun y => by
      rcases y with y | y
      · exact hd ⟨h1, y⟩
      · exact h2 y)
theorem RJ_8 {tol3 : Nat → Nat} {v1 v2 v3 v4 : Nat} (hR : auR tx fr sp = (8, v1, v2, v3, v4, rd, r1)) (hG : auGd tx fr sp) (hs : sp ≤ tl) (hp : ¬ NC tx tl 3000 sp v4) (hT : ∀ j, j < rd + 1 → ∀ k, k < 4 → tol3 (4 * j + k) = apR r1 rd v1 v2 v3 v4 k j) : RJ tx fr tl rd r1 true sp tol3 (rd + 1) := by
  refine ⟨hs, hG, Or.inr ⟨rfl, rfl, 8, v1, v2, v3, v4, Or.inr rfl, hR, hT, fun h1 h2 => ?_⟩⟩
  rw [auG_e hR, auOK_8]
  by_cases z : 48 ≤ tx sp ∧ tx sp ≤ 57
  · rw [if_pos (dg_y z.1 z.2)]
    exact decide_eq_false (fun y => hp ⟨by omega, h1, z.1, z.2, by omega⟩)
  · rw [if_neg (by rw [dg_n z]; decide)]
    exact decide_eq_false h2
theorem au_59 {ex : Nat} (hR : auR tx fr sp = (ex, a, s, h, d, rd, r1)) (hx : ex = 6 ∨ ex = 8) (hc : tx sp = 59) : auR tx fr (sp + 1) = (0, a, s, h, d, rd + 1, apR r1 rd a s h d) := by
  rcases hx with rfl | rfl <;> exact au_st hR (by rw [hc]; rfl)
theorem au_59g {ex : Nat} (hR : auR tx fr sp = (ex, a, s, h, d, rd, r1)) (hG : auGd tx fr sp) (hx : ex = 6 ∨ ex = 8) (hc : tx sp = 59) : auGd tx fr (sp + 1) := by
  rcases hx with rfl | rfl <;> exact auGd_s hG hR (by rw [hc]; rfl)
theorem PAR_3 {ex : Nat} (hs : sp = tl) (hR : auR tx fr sp = (ex, a, s, h, d, rd, r1)) (hG : auGd tx fr sp) (hx : ex = 6 ∨ ex = 8) (hl : tl ≤ 60) : PAR tx fr tl (-6) (rd + 1) (apR r1 rd a s h d) := by
  subst hs
  have h1 := au_cnt hR hG
  have h2 := (au_ok hR hG).1
  exact Or.inr (Or.inr ⟨hG, rfl, by omega, ex, a, s, h, d, rd, r1, hx, hR, rfl, rfl, h2.1 (by omega), h2.2.1 (by omega), (h2.2.2 (by omega)).1, (h2.2.2 (by omega)).2.1, (h2.2.2 (by omega)).2.2⟩)
theorem RJ_PAR {rd2 n2 : Nat} {r2 : Nat → Nat → Nat} (hJ : RJ tx fr tl rd r1 b sp2 tol2 rd2) (hb : b = false) : PAR tx fr tl (nI sp2) n2 r2 := by
  obtain ⟨h1, h2, ⟨-, h3⟩ | ⟨hx, -⟩⟩ := hJ
  · rcases h3 with ⟨q1, q2⟩ | ⟨q1, q2, q3⟩
    · exact Or.inl ⟨sp2, q1, h2, q2, rfl⟩
    · subst q1; exact Or.inr (Or.inl ⟨h2, q2, q3, rfl⟩)
  · exact absurd (hx.symm.trans hb) (by decide)
theorem PAR_lt {v v2 : Int32} {n2 n3 i : Nat} {r2 r3 : Nat → Nat → Nat} (h1 : PAR tx fr tl v n2 r2) (hi : i < tl) (hg : auGd tx fr i) (hf : auG tx fr i = false) (_h2 : v2 = nI i) (_e : n3 = n3) (_e2 : r3 = r3) : v = nI i := by
  have bad : ∀ m, i < m → auGd tx fr m → False := fun m hm z => by have := z i hm; rw [hf] at this; exact Bool.noConfusion this
  rcases h1 with ⟨k, hk, g1, g2, e⟩ | ⟨g1, -⟩ | ⟨g1, -⟩
  · rcases Nat.lt_trichotomy i k with q | q | q
    · exact (bad k q g1).elim
    · rw [e, q]
    · have := hg k q; rw [g2] at this; exact Bool.noConfusion this
  · exact (bad tl hi g1).elim
  · exact (bad tl hi g1).elim
/-- reading comes to one thing -/
theorem PAR_un {v v2 : Int32} {n2 n3 : Nat} {r2 r3 : Nat → Nat → Nat} (hl : tl ≤ 60) (h1 : PAR tx fr tl v n2 r2) (h2 : PAR tx fr tl v2 n3 r3) : v = v2 ∧ (v = (-6) → n2 = n3 ∧ r2 = r3) := by
  rcases h1 with ⟨i, hi, g1, g2, e⟩ | ⟨g1, q6, q8, e⟩ | ⟨g1, e, -, ex, a, s, h, d, n, r4, hx, hR, e1, e2, -⟩
  · have := PAR_lt (v2 := v) (n3 := n2) (r3 := r2) h2 hi g1 g2 e rfl rfl
    exact ⟨by rw [e, this], fun z => absurd (e.symm.trans z) (nI_n6 (by omega))⟩
  · rcases h2 with ⟨k, hk, g3, g4, e3⟩ | ⟨-, -, -, e3⟩ | ⟨-, -, -, ex, a, s, h, d, n, r4, hx, hR, -⟩
    · have := g1 k hk; rw [g4] at this; exact Bool.noConfusion this
    · exact ⟨by rw [e, e3], fun z => absurd (e.symm.trans z) (nI_n6 (by omega))⟩
    · rw [hR] at q6 q8
      have q6 : ex ≠ 6 := q6
      have q8 : ex ≠ 8 := q8
      omega
  · rcases h2 with ⟨k, hk, g3, g4, e3⟩ | ⟨-, q6, q8, e3⟩ | ⟨-, e3, -, ex2, a2, s2, h2, d2, n4, r5, hx2, hR2, f1, f2, -⟩
    · have := g1 k hk; rw [g4] at this; exact Bool.noConfusion this
    · rw [hR] at q6 q8
      have q6 : ex ≠ 6 := q6
      have q8 : ex ≠ 8 := q8
      omega
    · rw [hR] at hR2
      cases hR2
      exact ⟨by rw [e, e3], fun _ => ⟨by rw [e1, f1], by rw [e2, f2]⟩⟩
theorem hdX5_charactersOf : yX5_charactersOf.cls ≠ "java/lang/invoke/MethodHandle" ∧ yX5_charactersOf.cls ≠ "java/lang/invoke/VarHandle" ∧ (parseMethodDescriptor yX5_charactersOf.desc).map (fun d => d.parameters.length) = some 1 := by decide +kernel
theorem hdX5_fault : yX5_fault.cls = RX5 ∧ yX5_fault.cls ≠ "java/lang/invoke/MethodHandle" ∧ yX5_fault.cls ≠ "java/lang/invoke/VarHandle" ∧ (parseMethodDescriptor yX5_fault.desc).map (fun d => d.parameters.length) = some 0 := by decide +kernel
theorem hdX5_isHere : yX5_isHere.cls = RX5 ∧ yX5_isHere.cls ≠ "java/lang/invoke/MethodHandle" ∧ yX5_isHere.cls ≠ "java/lang/invoke/VarHandle" ∧ (parseMethodDescriptor yX5_isHere.desc).map (fun d => d.parameters.length) = some 2 := by decide +kernel
theorem hdX5_readsJob : yX5_readsJob.cls = RX5 ∧ yX5_readsJob.cls ≠ "java/lang/invoke/MethodHandle" ∧ yX5_readsJob.cls ≠ "java/lang/invoke/VarHandle" ∧ (parseMethodDescriptor yX5_readsJob.desc).map (fun d => d.parameters.length) = some 0 := by decide +kernel
theorem hdX5_readsNumber : yX5_readsNumber.cls = RX5 ∧ yX5_readsNumber.cls ≠ "java/lang/invoke/MethodHandle" ∧ yX5_readsNumber.cls ≠ "java/lang/invoke/VarHandle" ∧ (parseMethodDescriptor yX5_readsNumber.desc).map (fun d => d.parameters.length) = some 4 := by decide +kernel
theorem hdX5_takesOne : yX5_takesOne.cls = RX5 ∧ yX5_takesOne.cls ≠ "java/lang/invoke/MethodHandle" ∧ yX5_takesOne.cls ≠ "java/lang/invoke/VarHandle" ∧ (parseMethodDescriptor yX5_takesOne.desc).map (fun d => d.parameters.length) = some 1 := by decide +kernel
set_option maxHeartbeats 4000000 in
set_option maxRecDepth 100000 in
theorem tX5_charactersOf (l : Launch) (g : zG) (w : Nat) (hw : w < 2 ^ 64) : Met l yX5_charactersOf wsX5_charactersOf ({ frames := 1, cells := 0, slots := 0, locals := 25 } : Room) (zPre g [.long (lN w)] []) (zQ g (fun _ : Unit => some (.int (nI (chF 0 8 w))) ) (fun _ : Unit => True) (fun _ : Unit => []) (zA [])) 0 0 (zA []) := by
  refine z_entry (cc := cX5_charactersOf) (maxL := 5) (ret := (some .int)) (own := RX5) (by decide) rfl rfl (Nat.le_of_ble_eq_true rfl) [(0, .long (lN w))] rfl ?_
  intro K hKl hKg hnL C hRx
  subst hKl
  subst hKg
  refine z_lload_n C 0 rfl rfl dX5_charactersOf_0 1 rfl ?_
  refine z_lstore_n C hnL [1, 0] [(0, .long (lN w)), (2, .long (lN w))] rfl rfl (Nat.le_of_ble_eq_true rfl) dX5_charactersOf_1 2 rfl ?_
  refine z_iconst C (v := nI 0) rfl dX5_charactersOf_2 3 rfl ?_
  refine z_istore C hnL [1, 2, 0] [(0, .long (lN w)), (2, .long (lN w)), (4, .int (nI 0))] rfl (Nat.le_of_ble_eq_true rfl) dX5_charactersOf_3 5 rfl ?_
  have loop5 : ∀ (mu : Nat) (i : Nat) (z : Nat), mu = 8 - i → i ≤ 8 → z < 2 ^ 64 → z < 256 ^ (8 - i) → chF 0 8 w = chF i (8 - i) z → Z K 0 0 [] [(0, .long (lN w)), (2, .long (lN z)), (4, .int (nI i))] 5 [] := by
    refine z_ind (fun mu ih5 => ?_)
    intro i z hmu5 hi hz hz2 hs
    refine z_iload C 2 rfl dX5_charactersOf_5 7 rfl ?_
    refine z_bipush C (v := nI 8) rfl dX5_charactersOf_7 9 rfl ?_
    refine z_icmp_ge C (by omega) (by omega) 40 dX5_charactersOf_9 (by decide) 12 rfl (fun c_1 => ?_) (fun c_1 => ?_)
    · skip
      refine z_lload_n C 1 rfl rfl dX5_charactersOf_40 41 rfl ?_
      refine z_lconst C (v := lN 0) rfl dX5_charactersOf_41 42 rfl ?_
      refine z_lcmp C dX5_charactersOf_42 43 rfl ?_
      refine z_ifI_ne C 51 dX5_charactersOf_43 (by decide) 46 rfl (fun c_2 => ?_) (fun c_2 => ?_)
      · skip
        have hz0 : z ≠ 0 := fun e => c_2 (by rw [e]; exact (lg_cmp_eq _ _).mpr rfl)
        refine z_iconst C (v := nI 0) rfl dX5_charactersOf_51 52 rfl ?_
        exact z_iret C hRx dX5_charactersOf_52 () (congrArg (fun z => some (Value.int (nI z))) (by rw [hs]; exact chF_b (by first | omega | (exfalso; exact hz0 (chF_z (by omega) hz2))) hz0 (by first | exact hvb | (exfalso; exact hz0 (chF_z (by omega) hz2))))) trivial rfl
      · skip
        have hz0 : z = 0 := lN_e0 hz (by first | exact c_2 | exact Decidable.not_not.mp c_2)
        refine z_iload C 2 rfl dX5_charactersOf_46 48 rfl ?_
        refine z_goto C 52 dX5_charactersOf_48 (by decide) ?_
        exact z_iret C hRx dX5_charactersOf_52 () (congrArg (fun z => some (Value.int (nI z))) (by rw [hs]; exact chF_e hz0 hz2)) trivial rfl
    · skip
      refine z_lload_n C 1 rfl rfl dX5_charactersOf_12 13 rfl ?_
      refine z_ldc2 C (v := lN 255) (List.mem_of_getElem? (i := 1) rfl) dX5_charactersOf_13 16 rfl ?_
      refine z_land C dX5_charactersOf_16 17 rfl ?_
      refine z_topL (show (lN z) &&& (lN 255) = lN (z % 256) from (wb_mask (k := 8) hz (by decide))) ?_
      refine z_ldc2 C (v := lN 33) (List.mem_of_getElem? (i := 2) rfl) dX5_charactersOf_17 20 rfl ?_
      refine z_ldc2 C (v := lN 126) (List.mem_of_getElem? (i := 3) rfl) dX5_charactersOf_20 23 rfl ?_
      refine z_callP C [.long (lN (z % 256)), .long (lN 33), .long (lN 126)] [] (tX5_in K.l K.g (lN (z % 256)) (lN 33) (lN 126) ) gX5_charactersOf_X5_in rfl rfl rfl hdX5_in ⟨Nat.le_of_ble_eq_true rfl, Nat.le_of_ble_eq_true rfl⟩ ⟨Nat.zero_le _, Nat.zero_le _⟩ rfl rfl (Nat.le_of_ble_eq_true rfl) dX5_charactersOf_23 26 rfl (fun u9 hu9 => ?_)
      show Z K 0 0 [] [(0, .long (lN w)), (2, .long (lN z)), (4, .int (nI i))] 26 [.int (bI (rg (lN (z % 256)).toInt (lN 33).toInt (lN 126).toInt))]
      refine z_ifb_eq C 40 dX5_charactersOf_26 (by decide) 29 rfl (fun c_3 => ?_) (fun c_3 => ?_)
      · skip
        have hvb : ¬ (33 ≤ z % 256 ∧ z % 256 ≤ 126) := rgL_n (by omega) (by decide) (by decide) c_3
        refine z_lload_n C 1 rfl rfl dX5_charactersOf_40 41 rfl ?_
        refine z_lconst C (v := lN 0) rfl dX5_charactersOf_41 42 rfl ?_
        refine z_lcmp C dX5_charactersOf_42 43 rfl ?_
        refine z_ifI_ne C 51 dX5_charactersOf_43 (by decide) 46 rfl (fun c_4 => ?_) (fun c_4 => ?_)
        · skip
          have hz0 : z ≠ 0 := fun e => c_4 (by rw [e]; exact (lg_cmp_eq _ _).mpr rfl)
          refine z_iconst C (v := nI 0) rfl dX5_charactersOf_51 52 rfl ?_
          exact z_iret C hRx dX5_charactersOf_52 () (congrArg (fun z => some (Value.int (nI z))) (by rw [hs]; exact chF_b (by first | omega | (exfalso; exact hz0 (chF_z (by omega) hz2))) hz0 (by first | exact hvb | (exfalso; exact hz0 (chF_z (by omega) hz2))))) trivial rfl
        · skip
          have hz0 : z = 0 := lN_e0 hz (by first | exact c_4 | exact Decidable.not_not.mp c_4)
          refine z_iload C 2 rfl dX5_charactersOf_46 48 rfl ?_
          refine z_goto C 52 dX5_charactersOf_48 (by decide) ?_
          exact z_iret C hRx dX5_charactersOf_52 () (congrArg (fun z => some (Value.int (nI z))) (by rw [hs]; exact chF_e hz0 hz2)) trivial rfl
      · skip
        have hvb : 33 ≤ z % 256 ∧ z % 256 ≤ 126 := rgL_i (by omega) (by decide) (by decide) c_3
        refine z_lload_n C 1 rfl rfl dX5_charactersOf_29 30 rfl ?_
        refine z_bipush C (v := nI 8) rfl dX5_charactersOf_30 32 rfl ?_
        refine z_lushr C dX5_charactersOf_32 33 rfl ?_
        refine z_topL (show ((lN z).toUInt64 >>> ((nI 8).toInt64.toUInt64 &&& Int64.toUInt64 63)).toInt64 = lN (z / 256) from (wb_shr (k := 8) hz (by decide))) ?_
        refine z_lstore_n C hnL [1, 0, 2] [(0, .long (lN w)), (2, .long (lN (z / 256))), (4, .int (nI i))] rfl rfl (Nat.le_of_ble_eq_true rfl) dX5_charactersOf_33 34 rfl ?_
        refine z_iinc C hnL 2 rfl (v := (nI (i + 1))) (nI_1 _) [1, 2, 0] [(0, .long (lN w)), (2, .long (lN (z / 256))), (4, .int (nI (i + 1)))] rfl (Nat.le_of_ble_eq_true rfl) dX5_charactersOf_34 37 rfl ?_
        refine z_goto C 5 dX5_charactersOf_37 (by decide) ?_
        exact ih5 _ (by omega) (i + 1) (z / 256) rfl (by omega) (by omega) (chF_lt hz2 (by omega)) (by rw [hs]; exact chF_n (by omega) (by omega) hvb)
  exact loop5 _ 0 w rfl (by omega) hw (by exact hw) rfl

set_option maxHeartbeats 4000000 in
set_option maxRecDepth 100000 in
theorem tX5_put_b (l : Launch) (g : zG) (y all kept hist : Nat → Nat) (hl : Nat) (slo sav beg prt frm txt : Nat → Nat) (tl sp : Nat) (tol : Nat → Nat) (rd : Nat) (w : Nat) (hw : w < 2 ^ 64) (hb : chF 0 8 w = 0) : Met l yX5_put wsX5_put ({ frames := 2, cells := 0, slots := 0, locals := 49 } : Room) (zPre g [.ref (y 0), .long (lN w)] [wM g y all kept hist hl slo sav beg prt frm txt tl sp tol rd]) (zQ g (fun _ : Unit => some (.int (-2)) ) (fun _ : Unit => True) (fun _ : Unit => [wM g y all kept hist hl slo sav beg prt frm txt tl sp tol rd]) (zA [wM g y all kept hist hl slo sav beg prt frm txt tl sp tol rd])) 0 0 (zA [wM g y all kept hist hl slo sav beg prt frm txt tl sp tol rd]) := by
  refine z_entry (cc := cX5_put) (maxL := 5) (ret := (some .int)) (own := RX5) (by decide) rfl rfl (Nat.le_of_ble_eq_true rfl) [(0, .ref (y 0)), (1, .long (lN w))] rfl ?_
  intro K hKl hKg hnL C hRx
  subst hKl
  subst hKg
  refine z_lload_n C 1 rfl rfl dX5_put_0 1 rfl ?_
  refine z_callP C [.long (lN w)] [] (tX5_charactersOf K.l K.g w (by first | omega | assumption)) gX5_put_X5_charactersOf rfl rfl rfl hdX5_charactersOf ⟨Nat.le_of_ble_eq_true rfl, Nat.le_of_ble_eq_true rfl⟩ ⟨Nat.zero_le _, Nat.zero_le _⟩ rfl rfl (Nat.le_of_ble_eq_true rfl) dX5_put_1 4 rfl (fun u9 hu9 => ?_)
  show Z K 0 0 [wM K.g y all kept hist hl slo sav beg prt frm txt tl sp tol rd] [(0, .ref (y 0)), (1, .long (lN w))] 4 [.int (nI (chF 0 8 w))]
  refine z_top (show nI (chF 0 8 w) = nI 0 from by rw [hb]) ?_
  refine z_istore_n C hnL [1, 2, 0] [(0, .ref (y 0)), (1, .long (lN w)), (3, .int (nI 0))] rfl rfl (Nat.le_of_ble_eq_true rfl) dX5_put_4 5 rfl ?_
  refine z_iload_n C 2 rfl rfl dX5_put_5 6 rfl ?_
  refine z_if_ne C (by omega) 12 dX5_put_6 (by decide) 9 rfl (fun c_1 => ?_) (fun c_1 => ?_)
  · exfalso; omega
  refine z_bipush C (v := (-2)) rfl dX5_put_9 11 rfl ?_
  exact z_iret C hRx dX5_put_11 () rfl trivial rfl

theorem iX5_put_X5 : ∀ w ∈ u_ws RX5 TX5 14, w ∈ wsX5_put := fun w h => (List.mem_cons_of_mem _ (List.mem_append_right _ h))
set_option maxHeartbeats 4000000 in
set_option maxRecDepth 100000 in
theorem tX5_put_tm (l : Launch) (g : zG) (y all kept hist : Nat → Nat) (hl : Nat) (slo sav beg prt frm txt : Nat → Nat) (tl sp : Nat) (tol : Nat → Nat) (rd : Nat) (w a : Nat) (hw : w < 2 ^ 64) (hb : chF 0 8 w = a) (ha : 0 < a) (ha8 : a ≤ 8) (htl : tl ≤ 60) (hf : 60 < tl + a) : Met l yX5_put wsX5_put ({ frames := 2, cells := 0, slots := 0, locals := 49 } : Room) (zPre g [.ref (y 0), .long (lN w)] [wM g y all kept hist hl slo sav beg prt frm txt tl sp tol rd]) (zQ g (fun _ : Unit => some (.int (-4)) ) (fun _ : Unit => True) (fun _ : Unit => [wM g y all kept hist hl slo sav beg prt frm txt tl sp tol rd]) (zA [wM g y all kept hist hl slo sav beg prt frm txt tl sp tol rd])) 0 0 (zA [wM g y all kept hist hl slo sav beg prt frm txt tl sp tol rd]) := by
  refine z_entry (cc := cX5_put) (maxL := 5) (ret := (some .int)) (own := RX5) (by decide) rfl rfl (Nat.le_of_ble_eq_true rfl) [(0, .ref (y 0)), (1, .long (lN w))] rfl ?_
  intro K hKl hKg hnL C hRx
  subst hKl
  subst hKg
  refine z_lload_n C 1 rfl rfl dX5_put_0 1 rfl ?_
  refine z_callP C [.long (lN w)] [] (tX5_charactersOf K.l K.g w (by first | omega | assumption)) gX5_put_X5_charactersOf rfl rfl rfl hdX5_charactersOf ⟨Nat.le_of_ble_eq_true rfl, Nat.le_of_ble_eq_true rfl⟩ ⟨Nat.zero_le _, Nat.zero_le _⟩ rfl rfl (Nat.le_of_ble_eq_true rfl) dX5_put_1 4 rfl (fun u9 hu9 => ?_)
  show Z K 0 0 [wM K.g y all kept hist hl slo sav beg prt frm txt tl sp tol rd] [(0, .ref (y 0)), (1, .long (lN w))] 4 [.int (nI (chF 0 8 w))]
  refine z_top (show nI (chF 0 8 w) = nI a from by rw [hb]) ?_
  refine z_istore_n C hnL [1, 2, 0] [(0, .ref (y 0)), (1, .long (lN w)), (3, .int (nI a))] rfl rfl (Nat.le_of_ble_eq_true rfl) dX5_put_4 5 rfl ?_
  refine z_iload_n C 2 rfl rfl dX5_put_5 6 rfl ?_
  refine z_if_ne C (by omega) 12 dX5_put_6 (by decide) 9 rfl (fun c_1 => ?_) (fun c_1 => ?_)
  rotate_left
  · exfalso; omega
  refine z_aload_n C 0 rfl rfl dX5_put_12 13 rfl ?_
  refine z_get C zc5 iX5_put_X5 0 0 rfl rfl 10 (Nat.le_of_ble_eq_true rfl) (List.mem_of_getElem? (i := 1) rfl) (v := .int (nI tl)) rfl dX5_put_13 16 rfl ?_
  refine z_iload_n C 2 rfl rfl dX5_put_16 17 rfl ?_
  refine z_iadd C dX5_put_17 18 rfl ?_
  refine z_bipush C (v := nI 60) rfl dX5_put_18 20 rfl ?_
  refine z_icmp_le C (by omega) (by omega) 26 dX5_put_20 (by decide) 23 rfl (fun c_2 => ?_) (fun c_2 => ?_)
  · exfalso; omega
  refine z_bipush C (v := (-4)) rfl dX5_put_23 25 rfl ?_
  exact z_iret C hRx dX5_put_25 () rfl trivial rfl

set_option maxHeartbeats 4000000 in
set_option maxRecDepth 100000 in
theorem tX5_put_ok (l : Launch) (g : zG) (y all kept hist : Nat → Nat) (hl : Nat) (slo sav beg prt frm txt : Nat → Nat) (tl sp : Nat) (tol : Nat → Nat) (rd : Nat) (w a : Nat) (hw : w < 2 ^ 64) (hb : chF 0 8 w = a) (ha : 0 < a) (ha8 : a ≤ 8) (hf : tl + a ≤ 60) : Met l yX5_put wsX5_put ({ frames := 2, cells := 0, slots := 0, locals := 49 } : Room) (zPre g [.ref (y 0), .long (lN w)] [wM g y all kept hist hl slo sav beg prt frm txt tl sp tol rd]) (zQ g (fun _ : Unit => some (.int (nI (tl + a))) ) (fun _ : Unit => True) (fun _ : Unit => [wM g y all kept hist hl slo sav beg prt frm (ptx txt tl w a a) (tl + a) sp tol rd]) (zA [wM g y all kept hist hl slo sav beg prt frm txt tl sp tol rd])) 0 0 (zA [wM g y all kept hist hl slo sav beg prt frm txt tl sp tol rd]) := by
  refine z_entry (cc := cX5_put) (maxL := 5) (ret := (some .int)) (own := RX5) (by decide) rfl rfl (Nat.le_of_ble_eq_true rfl) [(0, .ref (y 0)), (1, .long (lN w))] rfl ?_
  intro K hKl hKg hnL C hRx
  subst hKl
  subst hKg
  refine z_lload_n C 1 rfl rfl dX5_put_0 1 rfl ?_
  refine z_callP C [.long (lN w)] [] (tX5_charactersOf K.l K.g w (by first | omega | assumption)) gX5_put_X5_charactersOf rfl rfl rfl hdX5_charactersOf ⟨Nat.le_of_ble_eq_true rfl, Nat.le_of_ble_eq_true rfl⟩ ⟨Nat.zero_le _, Nat.zero_le _⟩ rfl rfl (Nat.le_of_ble_eq_true rfl) dX5_put_1 4 rfl (fun u9 hu9 => ?_)
  show Z K 0 0 [wM K.g y all kept hist hl slo sav beg prt frm txt tl sp tol rd] [(0, .ref (y 0)), (1, .long (lN w))] 4 [.int (nI (chF 0 8 w))]
  refine z_top (show nI (chF 0 8 w) = nI a from by rw [hb]) ?_
  refine z_istore_n C hnL [1, 2, 0] [(0, .ref (y 0)), (1, .long (lN w)), (3, .int (nI a))] rfl rfl (Nat.le_of_ble_eq_true rfl) dX5_put_4 5 rfl ?_
  refine z_iload_n C 2 rfl rfl dX5_put_5 6 rfl ?_
  refine z_if_ne C (by omega) 12 dX5_put_6 (by decide) 9 rfl (fun c_1 => ?_) (fun c_1 => ?_)
  rotate_left
  · exfalso; omega
  refine z_aload_n C 0 rfl rfl dX5_put_12 13 rfl ?_
  refine z_get C zc5 iX5_put_X5 0 0 rfl rfl 10 (Nat.le_of_ble_eq_true rfl) (List.mem_of_getElem? (i := 1) rfl) (v := .int (nI tl)) rfl dX5_put_13 16 rfl ?_
  refine z_iload_n C 2 rfl rfl dX5_put_16 17 rfl ?_
  refine z_iadd C dX5_put_17 18 rfl ?_
  refine z_bipush C (v := nI 60) rfl dX5_put_18 20 rfl ?_
  refine z_icmp_le C (by omega) (by omega) 26 dX5_put_20 (by decide) 23 rfl (fun c_2 => ?_) (fun c_2 => ?_)
  rotate_left
  · exfalso; omega
  refine z_iconst C (v := nI 0) rfl dX5_put_26 27 rfl ?_
  refine z_istore C hnL [1, 2, 3, 0] [(0, .ref (y 0)), (1, .long (lN w)), (3, .int (nI a)), (4, .int (nI 0))] rfl (Nat.le_of_ble_eq_true rfl) dX5_put_27 29 rfl ?_
  have loop29 : ∀ (mu : Nat) (d : Nat), mu = a - d → d ≤ a → Z K 0 0 [wM K.g y all kept hist hl slo sav beg prt frm (ptx txt tl w a d) tl sp tol rd] [(0, .ref (y 0)), (1, .long (lN w)), (3, .int (nI a)), (4, .int (nI d))] 29 [] := by
    refine z_ind (fun mu ih29 => ?_)
    intro d hmu29 hd
    refine z_iload C 3 rfl dX5_put_29 31 rfl ?_
    refine z_iload_n C 2 rfl rfl dX5_put_31 32 rfl ?_
    refine z_icmp_ge C (by omega) (by omega) 69 dX5_put_32 (by decide) 35 rfl (fun c_3 => ?_) (fun c_3 => ?_)
    · skip
      obtain rfl : a = d := by omega
      refine z_aload_n C 0 rfl rfl dX5_put_69 70 rfl ?_
      refine z_dup C rfl dX5_put_70 71 rfl ?_
      refine z_get C zc5 iX5_put_X5 0 0 rfl rfl 10 (Nat.le_of_ble_eq_true rfl) (List.mem_of_getElem? (i := 1) rfl) (v := .int (nI tl)) rfl dX5_put_71 74 rfl ?_
      refine z_iload_n C 2 rfl rfl dX5_put_74 75 rfl ?_
      refine z_iadd C dX5_put_75 76 rfl ?_
      refine z_put C zc5 iX5_put_X5 0 0 rfl rfl 10 (Nat.le_of_ble_eq_true rfl) (List.mem_of_getElem? (i := 1) rfl) rfl rfl rfl (Nat.le_of_ble_eq_true rfl) (wM K.g y all kept hist hl slo sav beg prt frm (ptx txt tl w a a) (tl + a) sp tol rd) rfl [wM K.g y all kept hist hl slo sav beg prt frm (ptx txt tl w a a) (tl + a) sp tol rd] rfl dX5_put_76 79 rfl ?_
      refine z_aload_n C 0 rfl rfl dX5_put_79 80 rfl ?_
      refine z_get C zc5 iX5_put_X5 0 0 rfl rfl 10 (Nat.le_of_ble_eq_true rfl) (List.mem_of_getElem? (i := 1) rfl) (v := .int (nI (tl + a))) rfl dX5_put_80 83 rfl ?_
      exact z_iret C hRx dX5_put_83 () rfl trivial rfl
    · skip
      refine z_aload_n C 0 rfl rfl dX5_put_35 36 rfl ?_
      refine z_get C zc5 iX5_put_X5 0 0 rfl rfl 9 (Nat.le_of_ble_eq_true rfl) (List.mem_of_getElem? (i := 2) rfl) (v := .ref (y 9)) rfl dX5_put_36 39 rfl ?_
      refine z_aload_n C 0 rfl rfl dX5_put_39 40 rfl ?_
      refine z_get C zc5 iX5_put_X5 0 0 rfl rfl 10 (Nat.le_of_ble_eq_true rfl) (List.mem_of_getElem? (i := 1) rfl) (v := .int (nI tl)) rfl dX5_put_40 43 rfl ?_
      refine z_iload C 3 rfl dX5_put_43 45 rfl ?_
      refine z_iadd C dX5_put_45 46 rfl ?_
      refine z_lload_n C 1 rfl rfl dX5_put_46 47 rfl ?_
      refine z_bipush C (v := nI 8) rfl dX5_put_47 49 rfl ?_
      refine z_iload_n C 2 rfl rfl dX5_put_49 50 rfl ?_
      refine z_iconst C (v := nI 1) rfl dX5_put_50 51 rfl ?_
      refine z_isub C (by omega) dX5_put_51 52 rfl ?_
      refine z_iload C 3 rfl dX5_put_52 54 rfl ?_
      refine z_isub C (by omega) dX5_put_54 55 rfl ?_
      refine z_imul C dX5_put_55 56 rfl ?_
      refine z_lushr C dX5_put_56 57 rfl ?_
      refine z_topL (show ((lN w).toUInt64 >>> ((nI (8 * ((a - 1) - d))).toInt64.toUInt64 &&& Int64.toUInt64 63)).toInt64 = lN (w / 2 ^ (8 * (a - d - 1))) from (by rw [show a - 1 - d = a - d - 1 by omega]; exact wb_shr hw (by omega))) ?_
      refine z_ldc2 C (v := lN 255) (List.mem_of_getElem? (i := 3) rfl) dX5_put_57 60 rfl ?_
      refine z_land C dX5_put_60 61 rfl ?_
      refine z_topL (show (lN (w / 2 ^ (8 * (a - d - 1)))) &&& (lN 255) = lN (w / 2 ^ (8 * (a - d - 1)) % 256) from (wb_mask (k := 8) (Nat.lt_of_le_of_lt (Nat.div_le_self _ _) hw) (by decide))) ?_
      refine z_l2i C dX5_put_61 62 rfl ?_
      refine z_top (show (lN (w / 2 ^ (8 * (a - d - 1)) % 256)).toInt32 = nI (w / 2 ^ (8 * (a - d - 1)) % 256) from (lN_i _)) ?_
      refine z_iast C (f := (ptx txt tl w a d)) 0 9 rfl rfl (by omega) (by decide) (wM K.g y all kept hist hl slo sav beg prt frm (un (ptx txt tl w a d) (tl + d) (w / 2 ^ (8 * (a - d - 1)) % 256)) tl sp tol rd) rfl [wM K.g y all kept hist hl slo sav beg prt frm (un (ptx txt tl w a d) (tl + d) (w / 2 ^ (8 * (a - d - 1)) % 256)) tl sp tol rd] rfl dX5_put_62 63 rfl ?_
      refine z_iinc C hnL 3 rfl (v := (nI (d + 1))) (nI_1 _) [1, 2, 3, 0] [(0, .ref (y 0)), (1, .long (lN w)), (3, .int (nI a)), (4, .int (nI (d + 1)))] rfl (Nat.le_of_ble_eq_true rfl) dX5_put_63 66 rfl ?_
      refine z_goto C 29 dX5_put_66 (by decide) ?_
      exact ih29 _ (by omega) (d + 1) rfl (by omega)
  exact loop29 _ 0 rfl (by omega)

theorem iX5_isHere_X5 : ∀ w ∈ u_ws RX5 TX5 14, w ∈ wsX5_isHere := fun w h => (List.mem_cons_of_mem _ (List.mem_append_right _ h))
set_option maxHeartbeats 4000000 in
set_option maxRecDepth 100000 in
theorem tX5_isHere (l : Launch) (g : zG) (y all kept hist : Nat → Nat) (hl : Nat) (slo sav beg prt frm txt : Nat → Nat) (tl sp : Nat) (tol : Nat → Nat) (rd : Nat) (lo hi : Nat) (htl : tl ≤ 60) (ht : ∀ i, i < tl → txt i ≤ 126) (hs : sp ≤ 60) (h1 : lo ≤ 1000) (h2 : hi ≤ 1000) : Met l yX5_isHere wsX5_isHere ({ frames := 1, cells := 0, slots := 0, locals := 25 } : Room) (zPre g [.ref (y 0), .int (nI lo), .int (nI hi)] [wM g y all kept hist hl slo sav beg prt frm txt tl sp tol rd]) (zQ g (fun b : Bool => some (.int (bI b)) ) (fun b : Bool => (b = true → sp < tl ∧ lo ≤ txt sp ∧ txt sp ≤ hi) ∧ (b = false → ¬ (sp < tl ∧ lo ≤ txt sp ∧ txt sp ≤ hi))) (fun b : Bool => [wM g y all kept hist hl slo sav beg prt frm txt tl sp tol rd]) (zA [wM g y all kept hist hl slo sav beg prt frm txt tl sp tol rd])) 0 0 (zA [wM g y all kept hist hl slo sav beg prt frm txt tl sp tol rd]) := by
  refine z_entry (cc := cX5_isHere) (maxL := 3) (ret := (some .boolean)) (own := RX5) (by decide) rfl rfl (Nat.le_of_ble_eq_true rfl) [(0, .ref (y 0)), (1, .int (nI lo)), (2, .int (nI hi))] rfl ?_
  intro K hKl hKg hnL C hRx
  subst hKl
  subst hKg
  refine z_aload_n C 0 rfl rfl dX5_isHere_0 1 rfl ?_
  refine z_get C zc5 iX5_isHere_X5 0 0 rfl rfl 11 (Nat.le_of_ble_eq_true rfl) (List.mem_of_getElem? (i := 1) rfl) (v := .int (nI sp)) rfl dX5_isHere_1 4 rfl ?_
  refine z_aload_n C 0 rfl rfl dX5_isHere_4 5 rfl ?_
  refine z_get C zc5 iX5_isHere_X5 0 0 rfl rfl 10 (Nat.le_of_ble_eq_true rfl) (List.mem_of_getElem? (i := 2) rfl) (v := .int (nI tl)) rfl dX5_isHere_5 8 rfl ?_
  refine z_icmp_ge C (by omega) (by omega) 35 dX5_isHere_8 (by decide) 11 rfl (fun c_1 => ?_) (fun c_1 => ?_)
  · skip
    refine z_iconst C (v := nI 0) rfl dX5_isHere_35 36 rfl ?_
    refine z_eq (st2 := [.int (bI false)]) ?_ rfl rfl rfl
    exact z_bret C hRx dX5_isHere_36 false rfl (⟨fun h => Bool.noConfusion h, fun _ z => by omega⟩) rfl
  · skip
    refine z_aload_n C 0 rfl rfl dX5_isHere_11 12 rfl ?_
    refine z_get C zc5 iX5_isHere_X5 0 0 rfl rfl 9 (Nat.le_of_ble_eq_true rfl) (List.mem_of_getElem? (i := 3) rfl) (v := .ref (y 9)) rfl dX5_isHere_12 15 rfl ?_
    refine z_aload_n C 0 rfl rfl dX5_isHere_15 16 rfl ?_
    refine z_get C zc5 iX5_isHere_X5 0 0 rfl rfl 11 (Nat.le_of_ble_eq_true rfl) (List.mem_of_getElem? (i := 1) rfl) (v := .int (nI sp)) rfl dX5_isHere_16 19 rfl ?_
    refine z_iald C (f := txt) 0 9 rfl rfl (by omega) (by decide) dX5_isHere_19 20 rfl ?_
    have htb := ht sp (by omega)
    refine z_i2l C dX5_isHere_20 21 rfl ?_
    refine z_iload_n C 1 rfl rfl dX5_isHere_21 22 rfl ?_
    refine z_i2l C dX5_isHere_22 23 rfl ?_
    refine z_topL (show (nI lo).toInt64 = lN lo from (nI_lN (by omega))) ?_
    refine z_iload_n C 2 rfl rfl dX5_isHere_23 24 rfl ?_
    refine z_i2l C dX5_isHere_24 25 rfl ?_
    refine z_topL (show (nI hi).toInt64 = lN hi from (nI_lN (by omega))) ?_
    refine z_callP C [.long ((nI (txt sp)).toInt64), .long (lN lo), .long (lN hi)] [] (tX5_inI K.l K.g (nI (txt sp)) lo hi (by first | omega | assumption) (by first | omega | assumption)) gX5_isHere_X5_in rfl rfl rfl hdX5_in ⟨Nat.le_of_ble_eq_true rfl, Nat.le_of_ble_eq_true rfl⟩ ⟨Nat.zero_le _, Nat.zero_le _⟩ rfl rfl (Nat.le_of_ble_eq_true rfl) dX5_isHere_25 28 rfl (fun u9 hu9 => ?_)
    show Z K 0 0 [wM K.g y all kept hist hl slo sav beg prt frm txt tl sp tol rd] [(0, .ref (y 0)), (1, .int (nI lo)), (2, .int (nI hi))] 28 [.int (bI (rg (nI (txt sp)).toInt (Int.ofNat lo) (Int.ofNat hi)))]
    refine z_ifb_eq C 35 dX5_isHere_28 (by decide) 31 rfl (fun c_2 => ?_) (fun c_2 => ?_)
    · skip
      have hv := rgN_n (by omega) c_2
      refine z_iconst C (v := nI 0) rfl dX5_isHere_35 36 rfl ?_
      refine z_eq (st2 := [.int (bI false)]) ?_ rfl rfl rfl
      exact z_bret C hRx dX5_isHere_36 false rfl (⟨fun h => Bool.noConfusion h, fun _ z => by omega⟩) rfl
    · skip
      have hv := rgN_i (by omega) c_2
      refine z_iconst C (v := nI 1) rfl dX5_isHere_31 32 rfl ?_
      refine z_goto C 36 dX5_isHere_32 (by decide) ?_
      refine z_eq (st2 := [.int (bI true)]) ?_ rfl rfl rfl
      exact z_bret C hRx dX5_isHere_36 true rfl (⟨fun _ => ⟨by omega, hv.1, hv.2⟩, fun h => Bool.noConfusion h⟩) rfl

theorem iX5_takesOne_X5 : ∀ w ∈ u_ws RX5 TX5 14, w ∈ wsX5_takesOne := fun w h => (List.mem_cons_of_mem _ (List.mem_append_right _ h))
set_option maxHeartbeats 4000000 in
set_option maxRecDepth 100000 in
theorem tX5_takesOne (l : Launch) (g : zG) (y all kept hist : Nat → Nat) (hl : Nat) (slo sav beg prt frm txt : Nat → Nat) (tl sp : Nat) (tol : Nat → Nat) (rd : Nat) (c : Nat) (htl : tl ≤ 60) (ht : ∀ i, i < tl → txt i ≤ 126) (hs : sp ≤ 60) (hc : c ≤ 1000) : Met l yX5_takesOne wsX5_takesOne ({ frames := 2, cells := 0, slots := 0, locals := 47 } : Room) (zPre g [.ref (y 0), .int (nI c)] [wM g y all kept hist hl slo sav beg prt frm txt tl sp tol rd]) (zQ g (fun u : (Bool) × (Nat) => match u with | (b, sp2) => some (.int (bI b)) ) (fun u : (Bool) × (Nat) => match u with | (b, sp2) => (b = true → sp < tl ∧ txt sp = c ∧ sp2 = sp + 1) ∧ (b = false → ¬ (sp < tl ∧ txt sp = c) ∧ sp2 = sp)) (fun u : (Bool) × (Nat) => match u with | (b, sp2) => [wM g y all kept hist hl slo sav beg prt frm txt tl sp2 tol rd]) (zA [wM g y all kept hist hl slo sav beg prt frm txt tl sp tol rd])) 0 0 (zA [wM g y all kept hist hl slo sav beg prt frm txt tl sp tol rd]) := by
  refine z_entry (cc := cX5_takesOne) (maxL := 3) (ret := (some .boolean)) (own := RX5) (by decide) rfl rfl (Nat.le_of_ble_eq_true rfl) [(0, .ref (y 0)), (1, .int (nI c))] rfl ?_
  intro K hKl hKg hnL C hRx
  subst hKl
  subst hKg
  refine z_aload_n C 0 rfl rfl dX5_takesOne_0 1 rfl ?_
  refine z_iload_n C 1 rfl rfl dX5_takesOne_1 2 rfl ?_
  refine z_iload_n C 1 rfl rfl dX5_takesOne_2 3 rfl ?_
  refine z_callV C [.int (nI c), .int (nI c)] [] (tX5_isHere K.l K.g y all kept hist hl slo sav beg prt frm txt tl sp tol rd c c (by first | omega | assumption) (by first | omega | assumption) (by first | omega | assumption) (by first | omega | assumption) (by first | omega | assumption)) gX5_takesOne_X5_isHere rfl rfl rfl hdX5_isHere ⟨Nat.le_of_ble_eq_true rfl, Nat.le_of_ble_eq_true rfl⟩ ⟨Nat.zero_le _, Nat.zero_le _⟩ 0 0 rfl rfl rfl [0] rfl rfl (zlc (N := 1) rfl rfl) [1] rfl (by decide) (fun b : Bool => [wM K.g y all kept hist hl slo sav beg prt frm txt tl sp tol rd]) (fun _ => rfl) rfl rfl (Nat.le_of_ble_eq_true rfl) dX5_takesOne_3 6 rfl (fun u9 hu9 => ?_)
  obtain ⟨b, rfl⟩ : ∃ z, z = u9 := ⟨_, rfl⟩
  obtain ⟨hT9, hF9⟩ := hu9
  have hT9 : b = true → sp < tl ∧ c ≤ txt sp ∧ txt sp ≤ c := hT9
  have hF9 : b = false → ¬ (sp < tl ∧ c ≤ txt sp ∧ txt sp ≤ c) := hF9
  show Z K 0 0 [wM K.g y all kept hist hl slo sav beg prt frm txt tl sp tol rd] [(0, .ref (y 0)), (1, .int (nI c))] 6 [.int (bI b)]
  refine z_istore_n C hnL [1, 2, 0] [(0, .ref (y 0)), (1, .int (nI c)), (2, .int (bI b))] rfl rfl (Nat.le_of_ble_eq_true rfl) dX5_takesOne_6 7 rfl ?_
  refine z_aload_n C 0 rfl rfl dX5_takesOne_7 8 rfl ?_
  refine z_dup C rfl dX5_takesOne_8 9 rfl ?_
  refine z_get C zc5 iX5_takesOne_X5 0 0 rfl rfl 11 (Nat.le_of_ble_eq_true rfl) (List.mem_of_getElem? (i := 1) rfl) (v := .int (nI sp)) rfl dX5_takesOne_9 12 rfl ?_
  refine z_iload_n C 2 rfl rfl dX5_takesOne_12 13 rfl ?_
  refine z_ifb_eq C 20 dX5_takesOne_13 (by decide) 16 rfl (fun c_1 => ?_) (fun c_1 => ?_)
  · skip
    have hb9 := c_1
    refine z_iconst C (v := nI 0) rfl dX5_takesOne_20 21 rfl ?_
    refine z_iadd C dX5_takesOne_21 22 rfl ?_
    refine z_put C zc5 iX5_takesOne_X5 0 0 rfl rfl 11 (Nat.le_of_ble_eq_true rfl) (List.mem_of_getElem? (i := 1) rfl) rfl rfl rfl (Nat.le_of_ble_eq_true rfl) (wM K.g y all kept hist hl slo sav beg prt frm txt tl (sp + 0) tol rd) rfl [wM K.g y all kept hist hl slo sav beg prt frm txt tl (sp + 0) tol rd] rfl dX5_takesOne_22 25 rfl ?_
    refine z_iload_n C 2 rfl rfl dX5_takesOne_25 26 rfl ?_
    exact z_bret C hRx dX5_takesOne_26 (b, sp) rfl (⟨fun h => absurd h (by rw [hb9]; decide), fun _ => ⟨fun z => hF9 hb9 ⟨z.1, by omega, by omega⟩, rfl⟩⟩) rfl
  · skip
    have hb9 := c_1
    refine z_iconst C (v := nI 1) rfl dX5_takesOne_16 17 rfl ?_
    refine z_goto C 21 dX5_takesOne_17 (by decide) ?_
    refine z_iadd C dX5_takesOne_21 22 rfl ?_
    refine z_put C zc5 iX5_takesOne_X5 0 0 rfl rfl 11 (Nat.le_of_ble_eq_true rfl) (List.mem_of_getElem? (i := 1) rfl) rfl rfl rfl (Nat.le_of_ble_eq_true rfl) (wM K.g y all kept hist hl slo sav beg prt frm txt tl (sp + 1) tol rd) rfl [wM K.g y all kept hist hl slo sav beg prt frm txt tl (sp + 1) tol rd] rfl dX5_takesOne_22 25 rfl ?_
    refine z_iload_n C 2 rfl rfl dX5_takesOne_25 26 rfl ?_
    exact z_bret C hRx dX5_takesOne_26 (b, sp + 1) rfl (⟨fun _ => ⟨(hT9 hb9).1, by have := hT9 hb9; omega, rfl⟩, fun h => absurd h (by rw [hb9]; decide)⟩) rfl

theorem iX5_readsNumber_X5 : ∀ w ∈ u_ws RX5 TX5 14, w ∈ wsX5_readsNumber := fun w h => (List.mem_cons_of_mem _ (List.mem_append_right _ h))
set_option maxHeartbeats 4000000 in
set_option maxRecDepth 100000 in
theorem tX5_readsNumber (l : Launch) (g : zG) (y all kept hist : Nat → Nat) (hl : Nat) (slo sav beg prt frm txt : Nat → Nat) (tl sp : Nat) (tol : Nat → Nat) (rd : Nat) (lt q lo hi : Nat) (htl : tl ≤ 60) (ht : ∀ i, i < tl → txt i ≤ 126) (hs : sp ≤ 60) (hlt : lt ≤ 1000) (hq : q ≤ 3) (hlo : lo ≤ 9) (hhi : hi ≤ 3000) (hrd : rd ≤ 8) : Met l yX5_readsNumber wsX5_readsNumber ({ frames := 3, cells := 0, slots := 0, locals := 69 } : Room) (zPre g [.ref (y 0), .int (nI lt), .int (nI q), .int (nI lo), .int (nI hi)] [wM g y all kept hist hl slo sav beg prt frm txt tl sp tol rd]) (zQ g (fun u : (Bool) × (Nat) × (Nat → Nat) => match u with | (b, sp2, tol2) => some (.int (bI b)) ) (fun u : (Bool) × (Nat) × (Nat → Nat) => match u with | (b, sp2, tol2) => (RN txt tl sp lt q lo hi rd tol b sp2 tol2)) (fun u : (Bool) × (Nat) × (Nat → Nat) => match u with | (b, sp2, tol2) => [wM g y all kept hist hl slo sav beg prt frm txt tl sp2 tol2 rd]) (zA [wM g y all kept hist hl slo sav beg prt frm txt tl sp tol rd])) 0 0 (zA [wM g y all kept hist hl slo sav beg prt frm txt tl sp tol rd]) := by
  refine z_entry (cc := cX5_readsNumber) (maxL := 6) (ret := (some .boolean)) (own := RX5) (by decide) rfl rfl (Nat.le_of_ble_eq_true rfl) [(0, .ref (y 0)), (1, .int (nI lt)), (2, .int (nI q)), (3, .int (nI lo)), (4, .int (nI hi))] rfl ?_
  intro K hKl hKg hnL C hRx
  subst hKl
  subst hKg
  refine z_aload_n C 0 rfl rfl dX5_readsNumber_0 1 rfl ?_
  refine z_iload_n C 1 rfl rfl dX5_readsNumber_1 2 rfl ?_
  refine z_callV C [.int (nI lt)] [] (tX5_takesOne K.l K.g y all kept hist hl slo sav beg prt frm txt tl sp tol rd lt (by first | omega | assumption) (by first | omega | assumption) (by first | omega | assumption) (by first | omega | assumption)) gX5_readsNumber_X5_takesOne rfl rfl rfl hdX5_takesOne ⟨Nat.le_of_ble_eq_true rfl, Nat.le_of_ble_eq_true rfl⟩ ⟨Nat.zero_le _, Nat.zero_le _⟩ 0 0 rfl rfl rfl [0] rfl rfl (zlc (N := 1) rfl rfl) [1] rfl (by decide) (fun u : (Bool) × (Nat) => match u with | (b, sp2) => [wM K.g y all kept hist hl slo sav beg prt frm txt tl sp2 tol rd]) (fun _ => rfl) rfl rfl (Nat.le_of_ble_eq_true rfl) dX5_readsNumber_2 5 rfl (fun u9 hu9 => ?_)
  obtain ⟨b1, sp1⟩ := u9
  obtain ⟨hT1, hF1⟩ := hu9
  have hT1 : b1 = true → sp < tl ∧ txt sp = lt ∧ sp1 = sp + 1 := hT1
  have hF1 : b1 = false → ¬ (sp < tl ∧ txt sp = lt) ∧ sp1 = sp := hF1
  show Z K 0 0 [wM K.g y all kept hist hl slo sav beg prt frm txt tl sp1 tol rd] [(0, .ref (y 0)), (1, .int (nI lt)), (2, .int (nI q)), (3, .int (nI lo)), (4, .int (nI hi))] 5 [.int (bI b1)]
  refine z_ifb_eq C 21 dX5_readsNumber_5 (by decide) 8 rfl (fun c_1 => ?_) (fun c_1 => ?_)
  · skip
    have hb1 := c_1
    obtain ⟨hz1, hz2⟩ := hF1 hb1
    obtain rfl := hz2.symm
    refine z_iconst C (v := nI 0) rfl dX5_readsNumber_21 22 rfl ?_
    refine z_eq (st2 := [.int (bI false)]) ?_ rfl rfl rfl
    exact z_bret C hRx dX5_readsNumber_22 (false, sp, tol) rfl (Or.inl ⟨rfl, rfl, rfl, hz1⟩) rfl
  · skip
    have hb1 := c_1
    obtain ⟨hy1, hy2, rfl⟩ := hT1 hb1
    refine z_aload_n C 0 rfl rfl dX5_readsNumber_8 9 rfl ?_
    refine z_bipush C (v := nI 48) rfl dX5_readsNumber_9 11 rfl ?_
    refine z_iload_n C 3 rfl rfl dX5_readsNumber_11 12 rfl ?_
    refine z_iadd C dX5_readsNumber_12 13 rfl ?_
    refine z_bipush C (v := nI 57) rfl dX5_readsNumber_13 15 rfl ?_
    refine z_callV C [.int (nI (48 + lo)), .int (nI 57)] [] (tX5_isHere K.l K.g y all kept hist hl slo sav beg prt frm txt tl (sp + 1) tol rd (48 + lo) 57 (by first | omega | assumption) (by first | omega | assumption) (by first | omega | assumption) (by first | omega | assumption) (by first | omega | assumption)) gX5_readsNumber_X5_isHere rfl rfl rfl hdX5_isHere ⟨Nat.le_of_ble_eq_true rfl, Nat.le_of_ble_eq_true rfl⟩ ⟨Nat.zero_le _, Nat.zero_le _⟩ 0 0 rfl rfl rfl [0] rfl rfl (zlc (N := 1) rfl rfl) [1] rfl (by decide) (fun b : Bool => [wM K.g y all kept hist hl slo sav beg prt frm txt tl (sp + 1) tol rd]) (fun _ => rfl) rfl rfl (Nat.le_of_ble_eq_true rfl) dX5_readsNumber_15 18 rfl (fun u9 hu9 => ?_)
    obtain ⟨b3, rfl⟩ : ∃ z, z = u9 := ⟨_, rfl⟩
    obtain ⟨hT3, hF3⟩ := hu9
    have hT3 : b3 = true → (sp + 1) < tl ∧ (48 + lo) ≤ txt (sp + 1) ∧ txt (sp + 1) ≤ 57 := hT3
    have hF3 : b3 = false → ¬ ((sp + 1) < tl ∧ (48 + lo) ≤ txt (sp + 1) ∧ txt (sp + 1) ≤ 57) := hF3
    show Z K 0 0 [wM K.g y all kept hist hl slo sav beg prt frm txt tl (sp + 1) tol rd] [(0, .ref (y 0)), (1, .int (nI lt)), (2, .int (nI q)), (3, .int (nI lo)), (4, .int (nI hi))] 18 [.int (bI b3)]
    refine z_ifb_ne C 23 dX5_readsNumber_18 (by decide) 21 rfl (fun c_2 => ?_) (fun c_2 => ?_)
    · skip
      have hb3 := c_2
      have hw1 := hT3 hb3
      have hwt := ht (sp + 1) hw1.1
      refine z_aload_n C 0 rfl rfl dX5_readsNumber_23 24 rfl ?_
      refine z_get C zc5 iX5_readsNumber_X5 0 0 rfl rfl 9 (Nat.le_of_ble_eq_true rfl) (List.mem_of_getElem? (i := 1) rfl) (v := .ref (y 9)) rfl dX5_readsNumber_24 27 rfl ?_
      refine z_aload_n C 0 rfl rfl dX5_readsNumber_27 28 rfl ?_
      refine z_get C zc5 iX5_readsNumber_X5 0 0 rfl rfl 11 (Nat.le_of_ble_eq_true rfl) (List.mem_of_getElem? (i := 2) rfl) (v := .int (nI (sp + 1))) rfl dX5_readsNumber_28 31 rfl ?_
      refine z_iald C (f := txt) 0 9 rfl rfl (by omega) (by decide) dX5_readsNumber_31 32 rfl ?_
      refine z_bipush C (v := nI 48) rfl dX5_readsNumber_32 34 rfl ?_
      refine z_isub C (by omega) dX5_readsNumber_34 35 rfl ?_
      refine z_istore C hnL [1, 2, 3, 4, 5, 0] [(0, .ref (y 0)), (1, .int (nI lt)), (2, .int (nI q)), (3, .int (nI lo)), (4, .int (nI hi)), (5, .int (nI ((txt (sp + 1)) - 48)))] rfl (Nat.le_of_ble_eq_true rfl) dX5_readsNumber_35 37 rfl ?_
      refine z_aload_n C 0 rfl rfl dX5_readsNumber_37 38 rfl ?_
      refine z_dup C rfl dX5_readsNumber_38 39 rfl ?_
      refine z_get C zc5 iX5_readsNumber_X5 0 0 rfl rfl 11 (Nat.le_of_ble_eq_true rfl) (List.mem_of_getElem? (i := 2) rfl) (v := .int (nI (sp + 1))) rfl dX5_readsNumber_39 42 rfl ?_
      refine z_iconst C (v := nI 1) rfl dX5_readsNumber_42 43 rfl ?_
      refine z_iadd C dX5_readsNumber_43 44 rfl ?_
      refine z_put C zc5 iX5_readsNumber_X5 0 0 rfl rfl 11 (Nat.le_of_ble_eq_true rfl) (List.mem_of_getElem? (i := 2) rfl) rfl rfl rfl (Nat.le_of_ble_eq_true rfl) (wM K.g y all kept hist hl slo sav beg prt frm txt tl ((sp + 1) + 1) tol rd) rfl [wM K.g y all kept hist hl slo sav beg prt frm txt tl ((sp + 1) + 1) tol rd] rfl dX5_readsNumber_44 47 rfl ?_
      have loop47 : ∀ (mu : Nat) (d : Nat) (v : Nat), mu = 60 - (sp + 2 + d) → v = nv txt (sp + 2) (txt (sp + 1) - 48) d → (∀ i, i < d → NC txt tl hi (sp + 2 + i) (nv txt (sp + 2) (txt (sp + 1) - 48) i)) → v ≤ 3000 → sp + 2 + d ≤ 60 → Z K 0 0 [wM K.g y all kept hist hl slo sav beg prt frm txt tl (sp + 2 + d) tol rd] [(0, .ref (y 0)), (1, .int (nI lt)), (2, .int (nI q)), (3, .int (nI lo)), (4, .int (nI hi)), (5, .int (nI v))] 47 [] := by
        refine z_ind (fun mu ih47 => ?_)
        intro d v hmu47 hv hA hvb hsd
        refine z_iload C 5 rfl dX5_readsNumber_47 49 rfl ?_
        refine z_if_le C (by omega) 119 dX5_readsNumber_49 (by decide) 52 rfl (fun c_3 => ?_) (fun c_3 => ?_)
        · skip
          have hst : ¬ NC txt tl hi (sp + 2 + d) v := fun z => absurd z.1 (by omega)
          refine z_aload_n C 0 rfl rfl dX5_readsNumber_119 120 rfl ?_
          refine z_get C zc5 iX5_readsNumber_X5 0 0 rfl rfl 12 (Nat.le_of_ble_eq_true rfl) (List.mem_of_getElem? (i := 3) rfl) (v := .ref (y 10)) rfl dX5_readsNumber_120 123 rfl ?_
          refine z_iconst C (v := nI 4) rfl dX5_readsNumber_123 124 rfl ?_
          refine z_aload_n C 0 rfl rfl dX5_readsNumber_124 125 rfl ?_
          refine z_get C zc5 iX5_readsNumber_X5 0 0 rfl rfl 13 (Nat.le_of_ble_eq_true rfl) (List.mem_of_getElem? (i := 4) rfl) (v := .int (nI rd)) rfl dX5_readsNumber_125 128 rfl ?_
          refine z_imul C dX5_readsNumber_128 129 rfl ?_
          refine z_iload_n C 2 rfl rfl dX5_readsNumber_129 130 rfl ?_
          refine z_iadd C dX5_readsNumber_130 131 rfl ?_
          refine z_iload C 5 rfl dX5_readsNumber_131 133 rfl ?_
          refine z_iast C (f := tol) 0 10 rfl rfl (by omega) (by decide) (wM K.g y all kept hist hl slo sav beg prt frm txt tl (sp + 2 + d) (un tol ((4 * rd) + q) v) rd) rfl [wM K.g y all kept hist hl slo sav beg prt frm txt tl (sp + 2 + d) (un tol ((4 * rd) + q) v) rd] rfl dX5_readsNumber_133 134 rfl ?_
          refine z_iconst C (v := nI 1) rfl dX5_readsNumber_134 135 rfl ?_
          refine z_eq (st2 := [.int (bI true)]) ?_ rfl rfl rfl
          exact z_bret C hRx dX5_readsNumber_135 (true, sp + 2 + d, un tol (4 * rd + q) v) rfl (Or.inr (Or.inr ⟨rfl, hy1, hy2, hw1.1, hw1.2.1, hw1.2.2, v, ⟨d, rfl, hv, hA, by rw [← hv]; exact hst⟩, rfl⟩)) rfl
        · skip
          refine z_aload_n C 0 rfl rfl dX5_readsNumber_52 53 rfl ?_
          refine z_bipush C (v := nI 48) rfl dX5_readsNumber_53 55 rfl ?_
          refine z_bipush C (v := nI 57) rfl dX5_readsNumber_55 57 rfl ?_
          refine z_callV C [.int (nI 48), .int (nI 57)] [] (tX5_isHere K.l K.g y all kept hist hl slo sav beg prt frm txt tl (sp + 2 + d) tol rd 48 57 (by first | omega | assumption) (by first | omega | assumption) (by first | omega | assumption) (by first | omega | assumption) (by first | omega | assumption)) gX5_readsNumber_X5_isHere rfl rfl rfl hdX5_isHere ⟨Nat.le_of_ble_eq_true rfl, Nat.le_of_ble_eq_true rfl⟩ ⟨Nat.zero_le _, Nat.zero_le _⟩ 0 0 rfl rfl rfl [0] rfl rfl (zlc (N := 1) rfl rfl) [1] rfl (by decide) (fun b : Bool => [wM K.g y all kept hist hl slo sav beg prt frm txt tl (sp + 2 + d) tol rd]) (fun _ => rfl) rfl rfl (Nat.le_of_ble_eq_true rfl) dX5_readsNumber_57 60 rfl (fun u9 hu9 => ?_)
          obtain ⟨b5, rfl⟩ : ∃ z, z = u9 := ⟨_, rfl⟩
          obtain ⟨hT5, hF5⟩ := hu9
          have hT5 : b5 = true → (sp + 2 + d) < tl ∧ 48 ≤ txt (sp + 2 + d) ∧ txt (sp + 2 + d) ≤ 57 := hT5
          have hF5 : b5 = false → ¬ ((sp + 2 + d) < tl ∧ 48 ≤ txt (sp + 2 + d) ∧ txt (sp + 2 + d) ≤ 57) := hF5
          show Z K 0 0 [wM K.g y all kept hist hl slo sav beg prt frm txt tl (sp + 2 + d) tol rd] [(0, .ref (y 0)), (1, .int (nI lt)), (2, .int (nI q)), (3, .int (nI lo)), (4, .int (nI hi)), (5, .int (nI v))] 60 [.int (bI b5)]
          refine z_ifb_eq C 119 dX5_readsNumber_60 (by decide) 63 rfl (fun c_4 => ?_) (fun c_4 => ?_)
          · skip
            have hb5 := c_4
            have hst : ¬ NC txt tl hi (sp + 2 + d) v := fun z => hF5 hb5 ⟨z.2.1, z.2.2.1, z.2.2.2.1⟩
            refine z_aload_n C 0 rfl rfl dX5_readsNumber_119 120 rfl ?_
            refine z_get C zc5 iX5_readsNumber_X5 0 0 rfl rfl 12 (Nat.le_of_ble_eq_true rfl) (List.mem_of_getElem? (i := 3) rfl) (v := .ref (y 10)) rfl dX5_readsNumber_120 123 rfl ?_
            refine z_iconst C (v := nI 4) rfl dX5_readsNumber_123 124 rfl ?_
            refine z_aload_n C 0 rfl rfl dX5_readsNumber_124 125 rfl ?_
            refine z_get C zc5 iX5_readsNumber_X5 0 0 rfl rfl 13 (Nat.le_of_ble_eq_true rfl) (List.mem_of_getElem? (i := 4) rfl) (v := .int (nI rd)) rfl dX5_readsNumber_125 128 rfl ?_
            refine z_imul C dX5_readsNumber_128 129 rfl ?_
            refine z_iload_n C 2 rfl rfl dX5_readsNumber_129 130 rfl ?_
            refine z_iadd C dX5_readsNumber_130 131 rfl ?_
            refine z_iload C 5 rfl dX5_readsNumber_131 133 rfl ?_
            refine z_iast C (f := tol) 0 10 rfl rfl (by omega) (by decide) (wM K.g y all kept hist hl slo sav beg prt frm txt tl (sp + 2 + d) (un tol ((4 * rd) + q) v) rd) rfl [wM K.g y all kept hist hl slo sav beg prt frm txt tl (sp + 2 + d) (un tol ((4 * rd) + q) v) rd] rfl dX5_readsNumber_133 134 rfl ?_
            refine z_iconst C (v := nI 1) rfl dX5_readsNumber_134 135 rfl ?_
            refine z_eq (st2 := [.int (bI true)]) ?_ rfl rfl rfl
            exact z_bret C hRx dX5_readsNumber_135 (true, sp + 2 + d, un tol (4 * rd + q) v) rfl (Or.inr (Or.inr ⟨rfl, hy1, hy2, hw1.1, hw1.2.1, hw1.2.2, v, ⟨d, rfl, hv, hA, by rw [← hv]; exact hst⟩, rfl⟩)) rfl
          · skip
            have hb5 := c_4
            have hq5 := hT5 hb5
            refine z_bipush C (v := nI 10) rfl dX5_readsNumber_63 65 rfl ?_
            refine z_iload C 5 rfl dX5_readsNumber_65 67 rfl ?_
            refine z_imul C dX5_readsNumber_67 68 rfl ?_
            refine z_aload_n C 0 rfl rfl dX5_readsNumber_68 69 rfl ?_
            refine z_get C zc5 iX5_readsNumber_X5 0 0 rfl rfl 9 (Nat.le_of_ble_eq_true rfl) (List.mem_of_getElem? (i := 1) rfl) (v := .ref (y 9)) rfl dX5_readsNumber_69 72 rfl ?_
            refine z_aload_n C 0 rfl rfl dX5_readsNumber_72 73 rfl ?_
            refine z_get C zc5 iX5_readsNumber_X5 0 0 rfl rfl 11 (Nat.le_of_ble_eq_true rfl) (List.mem_of_getElem? (i := 2) rfl) (v := .int (nI (sp + 2 + d))) rfl dX5_readsNumber_73 76 rfl ?_
            refine z_iald C (f := txt) 0 9 rfl rfl (by omega) (by decide) dX5_readsNumber_76 77 rfl ?_
            refine z_iadd C dX5_readsNumber_77 78 rfl ?_
            refine z_bipush C (v := nI 48) rfl dX5_readsNumber_78 80 rfl ?_
            refine z_isub C (by omega) dX5_readsNumber_80 81 rfl ?_
            refine z_iload C 4 rfl dX5_readsNumber_81 83 rfl ?_
            refine z_icmp_gt C (by omega) (by omega) 119 dX5_readsNumber_83 (by decide) 86 rfl (fun c_5 => ?_) (fun c_5 => ?_)
            · skip
              have hst : ¬ NC txt tl hi (sp + 2 + d) v := fun z => absurd z.2.2.2.2 (by omega)
              refine z_aload_n C 0 rfl rfl dX5_readsNumber_119 120 rfl ?_
              refine z_get C zc5 iX5_readsNumber_X5 0 0 rfl rfl 12 (Nat.le_of_ble_eq_true rfl) (List.mem_of_getElem? (i := 3) rfl) (v := .ref (y 10)) rfl dX5_readsNumber_120 123 rfl ?_
              refine z_iconst C (v := nI 4) rfl dX5_readsNumber_123 124 rfl ?_
              refine z_aload_n C 0 rfl rfl dX5_readsNumber_124 125 rfl ?_
              refine z_get C zc5 iX5_readsNumber_X5 0 0 rfl rfl 13 (Nat.le_of_ble_eq_true rfl) (List.mem_of_getElem? (i := 4) rfl) (v := .int (nI rd)) rfl dX5_readsNumber_125 128 rfl ?_
              refine z_imul C dX5_readsNumber_128 129 rfl ?_
              refine z_iload_n C 2 rfl rfl dX5_readsNumber_129 130 rfl ?_
              refine z_iadd C dX5_readsNumber_130 131 rfl ?_
              refine z_iload C 5 rfl dX5_readsNumber_131 133 rfl ?_
              refine z_iast C (f := tol) 0 10 rfl rfl (by omega) (by decide) (wM K.g y all kept hist hl slo sav beg prt frm txt tl (sp + 2 + d) (un tol ((4 * rd) + q) v) rd) rfl [wM K.g y all kept hist hl slo sav beg prt frm txt tl (sp + 2 + d) (un tol ((4 * rd) + q) v) rd] rfl dX5_readsNumber_133 134 rfl ?_
              refine z_iconst C (v := nI 1) rfl dX5_readsNumber_134 135 rfl ?_
              refine z_eq (st2 := [.int (bI true)]) ?_ rfl rfl rfl
              exact z_bret C hRx dX5_readsNumber_135 (true, sp + 2 + d, un tol (4 * rd + q) v) rfl (Or.inr (Or.inr ⟨rfl, hy1, hy2, hw1.1, hw1.2.1, hw1.2.2, v, ⟨d, rfl, hv, hA, by rw [← hv]; exact hst⟩, rfl⟩)) rfl
            · skip
              refine z_bipush C (v := nI 10) rfl dX5_readsNumber_86 88 rfl ?_
              refine z_iload C 5 rfl dX5_readsNumber_88 90 rfl ?_
              refine z_imul C dX5_readsNumber_90 91 rfl ?_
              refine z_aload_n C 0 rfl rfl dX5_readsNumber_91 92 rfl ?_
              refine z_get C zc5 iX5_readsNumber_X5 0 0 rfl rfl 9 (Nat.le_of_ble_eq_true rfl) (List.mem_of_getElem? (i := 1) rfl) (v := .ref (y 9)) rfl dX5_readsNumber_92 95 rfl ?_
              refine z_aload_n C 0 rfl rfl dX5_readsNumber_95 96 rfl ?_
              refine z_get C zc5 iX5_readsNumber_X5 0 0 rfl rfl 11 (Nat.le_of_ble_eq_true rfl) (List.mem_of_getElem? (i := 2) rfl) (v := .int (nI (sp + 2 + d))) rfl dX5_readsNumber_96 99 rfl ?_
              refine z_iald C (f := txt) 0 9 rfl rfl (by omega) (by decide) dX5_readsNumber_99 100 rfl ?_
              refine z_iadd C dX5_readsNumber_100 101 rfl ?_
              refine z_bipush C (v := nI 48) rfl dX5_readsNumber_101 103 rfl ?_
              refine z_isub C (by omega) dX5_readsNumber_103 104 rfl ?_
              refine z_istore C hnL [1, 2, 3, 4, 5, 0] [(0, .ref (y 0)), (1, .int (nI lt)), (2, .int (nI q)), (3, .int (nI lo)), (4, .int (nI hi)), (5, .int (nI (((10 * v) + (txt (sp + 2 + d))) - 48)))] rfl (Nat.le_of_ble_eq_true rfl) dX5_readsNumber_104 106 rfl ?_
              refine z_aload_n C 0 rfl rfl dX5_readsNumber_106 107 rfl ?_
              refine z_dup C rfl dX5_readsNumber_107 108 rfl ?_
              refine z_get C zc5 iX5_readsNumber_X5 0 0 rfl rfl 11 (Nat.le_of_ble_eq_true rfl) (List.mem_of_getElem? (i := 2) rfl) (v := .int (nI (sp + 2 + d))) rfl dX5_readsNumber_108 111 rfl ?_
              refine z_iconst C (v := nI 1) rfl dX5_readsNumber_111 112 rfl ?_
              refine z_iadd C dX5_readsNumber_112 113 rfl ?_
              refine z_put C zc5 iX5_readsNumber_X5 0 0 rfl rfl 11 (Nat.le_of_ble_eq_true rfl) (List.mem_of_getElem? (i := 2) rfl) rfl rfl rfl (Nat.le_of_ble_eq_true rfl) (wM K.g y all kept hist hl slo sav beg prt frm txt tl ((sp + 2 + d) + 1) tol rd) rfl [wM K.g y all kept hist hl slo sav beg prt frm txt tl ((sp + 2 + d) + 1) tol rd] rfl dX5_readsNumber_113 116 rfl ?_
              refine z_goto C 47 dX5_readsNumber_116 (by decide) ?_
              exact ih47 _ (by omega) (d + 1) (((10 * v) + (txt (sp + 2 + d))) - 48) rfl (by rw [hv]; rfl) (fun i hi9 => by
      by_cases e : i = d
      · subst e; rw [← hv]; exact ⟨by omega, hq5.1, hq5.2.1, hq5.2.2, by omega⟩
      · exact hA i (by omega)) (by omega) (by omega)
      exact loop47 _ 0 (txt (sp + 1) - 48) rfl rfl (fun i hi => by omega) (by omega) (by omega)
    · skip
      have hb3 := c_2
      refine z_iconst C (v := nI 0) rfl dX5_readsNumber_21 22 rfl ?_
      refine z_eq (st2 := [.int (bI false)]) ?_ rfl rfl rfl
      exact z_bret C hRx dX5_readsNumber_22 (false, sp + 1, tol) rfl (Or.inr (Or.inl ⟨rfl, rfl, rfl, hy1, hy2, hF3 hb3⟩)) rfl

theorem iX5_readsJob_X5 : ∀ w ∈ u_ws RX5 TX5 14, w ∈ wsX5_readsJob := fun w h => (List.mem_cons_of_mem _ (List.mem_append_right _ h))
set_option maxHeartbeats 4000000 in
set_option maxRecDepth 100000 in
theorem tX5_readsJob (l : Launch) (g : zG) (y all kept hist : Nat → Nat) (hl : Nat) (slo sav beg prt frm txt : Nat → Nat) (tl sp : Nat) (tol : Nat → Nat) (rd : Nat) (fr : Nat → Nat → Nat) (a s h d : Nat) (r1 : Nat → Nat → Nat) (htl : tl ≤ 60) (ht : ∀ i, i < tl → txt i ≤ 126) (hs : sp ≤ tl) (hR : auR txt fr sp = (0, a, s, h, d, rd, r1)) (hG : auGd txt fr sp) (hM : ∀ j, j < rd → ∀ k, k < 4 → tol (4 * j + k) = r1 k j) : Met l yX5_readsJob wsX5_readsJob ({ frames := 4, cells := 0, slots := 0, locals := 94 } : Room) (zPre g [.ref (y 0)] [wM g y all kept hist hl slo sav beg prt frm txt tl sp tol rd]) (zQ g (fun u : (Bool) × (Nat) × (Nat → Nat) × (Nat) => match u with | (b, sp2, tol2, rd2) => some (.int (bI b)) ) (fun u : (Bool) × (Nat) × (Nat → Nat) × (Nat) => match u with | (b, sp2, tol2, rd2) => (RJ txt fr tl rd r1 b sp2 tol2 rd2)) (fun u : (Bool) × (Nat) × (Nat → Nat) × (Nat) => match u with | (b, sp2, tol2, rd2) => [wM g y all kept hist hl slo sav beg prt frm txt tl sp2 tol2 rd2]) (zA [wM g y all kept hist hl slo sav beg prt frm txt tl sp tol rd])) 0 0 (zA [wM g y all kept hist hl slo sav beg prt frm txt tl sp tol rd]) := by
  refine z_entry (cc := cX5_readsJob) (maxL := 2) (ret := (some .boolean)) (own := RX5) (by decide) rfl rfl (Nat.le_of_ble_eq_true rfl) [(0, .ref (y 0))] rfl ?_
  intro K hKl hKg hnL C hRx
  subst hKl
  subst hKg
  have hrd8 : rd ≤ 8 := by have := au_cnt hR hG; omega
  refine z_aload_n C 0 rfl rfl dX5_readsJob_0 1 rfl ?_
  refine z_get C zc5 iX5_readsJob_X5 0 0 rfl rfl 12 (Nat.le_of_ble_eq_true rfl) (List.mem_of_getElem? (i := 1) rfl) (v := .ref (y 10)) rfl dX5_readsJob_1 4 rfl ?_
  refine z_iconst C (v := nI 4) rfl dX5_readsJob_4 5 rfl ?_
  refine z_aload_n C 0 rfl rfl dX5_readsJob_5 6 rfl ?_
  refine z_get C zc5 iX5_readsJob_X5 0 0 rfl rfl 13 (Nat.le_of_ble_eq_true rfl) (List.mem_of_getElem? (i := 2) rfl) (v := .int (nI rd)) rfl dX5_readsJob_6 9 rfl ?_
  refine z_imul C dX5_readsJob_9 10 rfl ?_
  refine z_iconst C (v := nI 3) rfl dX5_readsJob_10 11 rfl ?_
  refine z_iadd C dX5_readsJob_11 12 rfl ?_
  refine z_sipush C (v := nI 3000) rfl dX5_readsJob_12 15 rfl ?_
  refine z_iast C (f := tol) 0 10 rfl rfl (by omega) (by decide) (wM K.g y all kept hist hl slo sav beg prt frm txt tl sp (un tol ((4 * rd) + 3) 3000) rd) rfl [wM K.g y all kept hist hl slo sav beg prt frm txt tl sp (un tol ((4 * rd) + 3) 3000) rd] rfl dX5_readsJob_15 16 rfl ?_
  refine z_aload_n C 0 rfl rfl dX5_readsJob_16 17 rfl ?_
  refine z_bipush C (v := nI 112) rfl dX5_readsJob_17 19 rfl ?_
  refine z_iconst C (v := nI 0) rfl dX5_readsJob_19 20 rfl ?_
  refine z_iconst C (v := nI 0) rfl dX5_readsJob_20 21 rfl ?_
  refine z_bipush C (v := nI 9) rfl dX5_readsJob_21 23 rfl ?_
  refine z_callV C [.int (nI 112), .int (nI 0), .int (nI 0), .int (nI 9)] [] (tX5_readsNumber K.l K.g y all kept hist hl slo sav beg prt frm txt tl sp (un tol ((4 * rd) + 3) 3000) rd 112 0 0 9 (by first | omega | assumption) (by first | omega | assumption) (by first | omega | assumption) (by first | omega | assumption) (by first | omega | assumption) (by first | omega | assumption) (by first | omega | assumption) (by first | omega | assumption)) gX5_readsJob_X5_readsNumber rfl rfl rfl hdX5_readsNumber ⟨Nat.le_of_ble_eq_true rfl, Nat.le_of_ble_eq_true rfl⟩ ⟨Nat.zero_le _, Nat.zero_le _⟩ 0 0 rfl rfl rfl [0] rfl rfl (zlc (N := 1) rfl rfl) [1] rfl (by decide) (fun u : (Bool) × (Nat) × (Nat → Nat) => match u with | (b, sp2, tol2) => [wM K.g y all kept hist hl slo sav beg prt frm txt tl sp2 tol2 rd]) (fun _ => rfl) rfl rfl (Nat.le_of_ble_eq_true rfl) dX5_readsJob_23 26 rfl (fun u9 hu9 => ?_)
  obtain ⟨b1, sp1, to1⟩ := u9
  have hN1 := hu9
  have hN1 : RN txt tl sp 112 0 0 9 rd (un tol ((4 * rd) + 3) 3000) b1 sp1 to1 := hN1
  show Z K 0 0 [wM K.g y all kept hist hl slo sav beg prt frm txt tl sp1 to1 rd] [(0, .ref (y 0))] 26 [.int (bI b1)]
  refine z_ifb_eq C 84 dX5_readsJob_26 (by decide) 29 rfl (fun c_1 => ?_) (fun c_1 => ?_)
  · skip
    have hb1 := c_1
    have hFA := RN_pF hR hG hs hN1 hb1
    refine z_iconst C (v := nI 0) rfl dX5_readsJob_84 85 rfl ?_
    refine z_istore_n C hnL [1, 0] [(0, .ref (y 0)), (1, .int (nI 0))] rfl rfl (Nat.le_of_ble_eq_true rfl) dX5_readsJob_85 86 rfl ?_
    refine z_aload_n C 0 rfl rfl dX5_readsJob_86 87 rfl ?_
    refine z_dup C rfl dX5_readsJob_87 88 rfl ?_
    refine z_get C zc5 iX5_readsJob_X5 0 0 rfl rfl 13 (Nat.le_of_ble_eq_true rfl) (List.mem_of_getElem? (i := 2) rfl) (v := .int (nI rd)) rfl dX5_readsJob_88 91 rfl ?_
    refine z_iload_n C 1 rfl rfl dX5_readsJob_91 92 rfl ?_
    refine z_if_eq C (by omega) 99 dX5_readsJob_92 (by decide) 95 rfl (fun c_2 => ?_) (fun c_2 => ?_)
    rotate_left
    · exfalso; omega
    refine z_iconst C (v := nI 0) rfl dX5_readsJob_99 100 rfl ?_
    refine z_iadd C dX5_readsJob_100 101 rfl ?_
    refine z_put C zc5 iX5_readsJob_X5 0 0 rfl rfl 13 (Nat.le_of_ble_eq_true rfl) (List.mem_of_getElem? (i := 2) rfl) rfl rfl rfl (Nat.le_of_ble_eq_true rfl) (wM K.g y all kept hist hl slo sav beg prt frm txt tl sp1 to1 (rd + 0)) rfl [wM K.g y all kept hist hl slo sav beg prt frm txt tl sp1 to1 (rd + 0)] rfl dX5_readsJob_101 104 rfl ?_
    refine z_iload_n C 1 rfl rfl dX5_readsJob_104 105 rfl ?_
    refine z_eq (st2 := [.int (bI false)]) ?_ rfl rfl rfl
    exact z_bret C hRx dX5_readsJob_105 (false, sp1, to1, rd) rfl (RJ_F hFA) rfl
  · skip
    have hb1 := c_1
    obtain ⟨v1, hR1, hG1, hs1, ht1⟩ := RN_pT hR hG hs hN1 hb1
    refine z_aload_n C 0 rfl rfl dX5_readsJob_29 30 rfl ?_
    refine z_bipush C (v := nI 115) rfl dX5_readsJob_30 32 rfl ?_
    refine z_iconst C (v := nI 1) rfl dX5_readsJob_32 33 rfl ?_
    refine z_iconst C (v := nI 0) rfl dX5_readsJob_33 34 rfl ?_
    refine z_bipush C (v := nI 9) rfl dX5_readsJob_34 36 rfl ?_
    refine z_callV C [.int (nI 115), .int (nI 1), .int (nI 0), .int (nI 9)] [] (tX5_readsNumber K.l K.g y all kept hist hl slo sav beg prt frm txt tl sp1 to1 rd 115 1 0 9 (by first | omega | assumption) (by first | omega | assumption) (by first | omega | assumption) (by first | omega | assumption) (by first | omega | assumption) (by first | omega | assumption) (by first | omega | assumption) (by first | omega | assumption)) gX5_readsJob_X5_readsNumber rfl rfl rfl hdX5_readsNumber ⟨Nat.le_of_ble_eq_true rfl, Nat.le_of_ble_eq_true rfl⟩ ⟨Nat.zero_le _, Nat.zero_le _⟩ 0 0 rfl rfl rfl [0] rfl rfl (zlc (N := 1) rfl rfl) [1] rfl (by decide) (fun u : (Bool) × (Nat) × (Nat → Nat) => match u with | (b, sp2, tol2) => [wM K.g y all kept hist hl slo sav beg prt frm txt tl sp2 tol2 rd]) (fun _ => rfl) rfl rfl (Nat.le_of_ble_eq_true rfl) dX5_readsJob_36 39 rfl (fun u9 hu9 => ?_)
    obtain ⟨b2, sp2, to2⟩ := u9
    have hN2 := hu9
    have hN2 : RN txt tl sp1 115 1 0 9 rd to1 b2 sp2 to2 := hN2
    show Z K 0 0 [wM K.g y all kept hist hl slo sav beg prt frm txt tl sp2 to2 rd] [(0, .ref (y 0))] 39 [.int (bI b2)]
    refine z_ifb_eq C 84 dX5_readsJob_39 (by decide) 42 rfl (fun c_3 => ?_) (fun c_3 => ?_)
    · skip
      have hb2 := c_3
      have hFA := RN_sF hR1 hG1 hs1 hN2 hb2
      refine z_iconst C (v := nI 0) rfl dX5_readsJob_84 85 rfl ?_
      refine z_istore_n C hnL [1, 0] [(0, .ref (y 0)), (1, .int (nI 0))] rfl rfl (Nat.le_of_ble_eq_true rfl) dX5_readsJob_85 86 rfl ?_
      refine z_aload_n C 0 rfl rfl dX5_readsJob_86 87 rfl ?_
      refine z_dup C rfl dX5_readsJob_87 88 rfl ?_
      refine z_get C zc5 iX5_readsJob_X5 0 0 rfl rfl 13 (Nat.le_of_ble_eq_true rfl) (List.mem_of_getElem? (i := 2) rfl) (v := .int (nI rd)) rfl dX5_readsJob_88 91 rfl ?_
      refine z_iload_n C 1 rfl rfl dX5_readsJob_91 92 rfl ?_
      refine z_if_eq C (by omega) 99 dX5_readsJob_92 (by decide) 95 rfl (fun c_4 => ?_) (fun c_4 => ?_)
      rotate_left
      · exfalso; omega
      refine z_iconst C (v := nI 0) rfl dX5_readsJob_99 100 rfl ?_
      refine z_iadd C dX5_readsJob_100 101 rfl ?_
      refine z_put C zc5 iX5_readsJob_X5 0 0 rfl rfl 13 (Nat.le_of_ble_eq_true rfl) (List.mem_of_getElem? (i := 2) rfl) rfl rfl rfl (Nat.le_of_ble_eq_true rfl) (wM K.g y all kept hist hl slo sav beg prt frm txt tl sp2 to2 (rd + 0)) rfl [wM K.g y all kept hist hl slo sav beg prt frm txt tl sp2 to2 (rd + 0)] rfl dX5_readsJob_101 104 rfl ?_
      refine z_iload_n C 1 rfl rfl dX5_readsJob_104 105 rfl ?_
      refine z_eq (st2 := [.int (bI false)]) ?_ rfl rfl rfl
      exact z_bret C hRx dX5_readsJob_105 (false, sp2, to2, rd) rfl (RJ_F hFA) rfl
    · skip
      have hb2 := c_3
      obtain ⟨v2, hR2, hG2, hs2, ht2⟩ := RN_sT hR1 hG1 hs1 hN2 hb2
      refine z_aload_n C 0 rfl rfl dX5_readsJob_42 43 rfl ?_
      refine z_bipush C (v := nI 110) rfl dX5_readsJob_43 45 rfl ?_
      refine z_iconst C (v := nI 2) rfl dX5_readsJob_45 46 rfl ?_
      refine z_iconst C (v := nI 1) rfl dX5_readsJob_46 47 rfl ?_
      refine z_bipush C (v := nI 20) rfl dX5_readsJob_47 49 rfl ?_
      refine z_callV C [.int (nI 110), .int (nI 2), .int (nI 1), .int (nI 20)] [] (tX5_readsNumber K.l K.g y all kept hist hl slo sav beg prt frm txt tl sp2 to2 rd 110 2 1 20 (by first | omega | assumption) (by first | omega | assumption) (by first | omega | assumption) (by first | omega | assumption) (by first | omega | assumption) (by first | omega | assumption) (by first | omega | assumption) (by first | omega | assumption)) gX5_readsJob_X5_readsNumber rfl rfl rfl hdX5_readsNumber ⟨Nat.le_of_ble_eq_true rfl, Nat.le_of_ble_eq_true rfl⟩ ⟨Nat.zero_le _, Nat.zero_le _⟩ 0 0 rfl rfl rfl [0] rfl rfl (zlc (N := 1) rfl rfl) [1] rfl (by decide) (fun u : (Bool) × (Nat) × (Nat → Nat) => match u with | (b, sp2, tol2) => [wM K.g y all kept hist hl slo sav beg prt frm txt tl sp2 tol2 rd]) (fun _ => rfl) rfl rfl (Nat.le_of_ble_eq_true rfl) dX5_readsJob_49 52 rfl (fun u9 hu9 => ?_)
      obtain ⟨b3, sp3, to3⟩ := u9
      have hN3 := hu9
      have hN3 : RN txt tl sp2 110 2 1 20 rd to2 b3 sp3 to3 := hN3
      show Z K 0 0 [wM K.g y all kept hist hl slo sav beg prt frm txt tl sp3 to3 rd] [(0, .ref (y 0))] 52 [.int (bI b3)]
      refine z_ifb_eq C 84 dX5_readsJob_52 (by decide) 55 rfl (fun c_5 => ?_) (fun c_5 => ?_)
      · skip
        have hb3 := c_5
        have hFA := RN_nF hR2 hG2 hs2 hN3 hb3
        refine z_iconst C (v := nI 0) rfl dX5_readsJob_84 85 rfl ?_
        refine z_istore_n C hnL [1, 0] [(0, .ref (y 0)), (1, .int (nI 0))] rfl rfl (Nat.le_of_ble_eq_true rfl) dX5_readsJob_85 86 rfl ?_
        refine z_aload_n C 0 rfl rfl dX5_readsJob_86 87 rfl ?_
        refine z_dup C rfl dX5_readsJob_87 88 rfl ?_
        refine z_get C zc5 iX5_readsJob_X5 0 0 rfl rfl 13 (Nat.le_of_ble_eq_true rfl) (List.mem_of_getElem? (i := 2) rfl) (v := .int (nI rd)) rfl dX5_readsJob_88 91 rfl ?_
        refine z_iload_n C 1 rfl rfl dX5_readsJob_91 92 rfl ?_
        refine z_if_eq C (by omega) 99 dX5_readsJob_92 (by decide) 95 rfl (fun c_6 => ?_) (fun c_6 => ?_)
        rotate_left
        · exfalso; omega
        refine z_iconst C (v := nI 0) rfl dX5_readsJob_99 100 rfl ?_
        refine z_iadd C dX5_readsJob_100 101 rfl ?_
        refine z_put C zc5 iX5_readsJob_X5 0 0 rfl rfl 13 (Nat.le_of_ble_eq_true rfl) (List.mem_of_getElem? (i := 2) rfl) rfl rfl rfl (Nat.le_of_ble_eq_true rfl) (wM K.g y all kept hist hl slo sav beg prt frm txt tl sp3 to3 (rd + 0)) rfl [wM K.g y all kept hist hl slo sav beg prt frm txt tl sp3 to3 (rd + 0)] rfl dX5_readsJob_101 104 rfl ?_
        refine z_iload_n C 1 rfl rfl dX5_readsJob_104 105 rfl ?_
        refine z_eq (st2 := [.int (bI false)]) ?_ rfl rfl rfl
        exact z_bret C hRx dX5_readsJob_105 (false, sp3, to3, rd) rfl (RJ_F hFA) rfl
      · skip
        have hb3 := c_5
        obtain ⟨v3, hR3, hG3, hs3, hp3, ht3⟩ := RN_nT hR2 hG2 hs2 hN3 hb3
        refine z_aload_n C 0 rfl rfl dX5_readsJob_55 56 rfl ?_
        refine z_bipush C (v := nI 100) rfl dX5_readsJob_56 58 rfl ?_
        refine z_bipush C (v := nI 100) rfl dX5_readsJob_58 60 rfl ?_
        refine z_callV C [.int (nI 100), .int (nI 100)] [] (tX5_isHere K.l K.g y all kept hist hl slo sav beg prt frm txt tl sp3 to3 rd 100 100 (by first | omega | assumption) (by first | omega | assumption) (by first | omega | assumption) (by first | omega | assumption) (by first | omega | assumption)) gX5_readsJob_X5_isHere rfl rfl rfl hdX5_isHere ⟨Nat.le_of_ble_eq_true rfl, Nat.le_of_ble_eq_true rfl⟩ ⟨Nat.zero_le _, Nat.zero_le _⟩ 0 0 rfl rfl rfl [0] rfl rfl (zlc (N := 1) rfl rfl) [1] rfl (by decide) (fun b : Bool => [wM K.g y all kept hist hl slo sav beg prt frm txt tl sp3 to3 rd]) (fun _ => rfl) rfl rfl (Nat.le_of_ble_eq_true rfl) dX5_readsJob_60 63 rfl (fun u9 hu9 => ?_)
        obtain ⟨b4, rfl⟩ : ∃ z, z = u9 := ⟨_, rfl⟩
        obtain ⟨hT4, hF4⟩ := hu9
        have hT4 : b4 = true → sp3 < tl ∧ 100 ≤ txt sp3 ∧ txt sp3 ≤ 100 := hT4
        have hF4 : b4 = false → ¬ (sp3 < tl ∧ 100 ≤ txt sp3 ∧ txt sp3 ≤ 100) := hF4
        show Z K 0 0 [wM K.g y all kept hist hl slo sav beg prt frm txt tl sp3 to3 rd] [(0, .ref (y 0))] 63 [.int (bI b4)]
        refine z_ifb_eq C 80 dX5_readsJob_63 (by decide) 66 rfl (fun c_7 => ?_) (fun c_7 => ?_)
        · skip
          have hb4 := c_7
          have hnd := hF4 hb4
          have hEN := RJ_6 hR3 hG3 hs3 hp3 (fun z => hnd ⟨z.1, by omega, by omega⟩) (TOL_3 hM ht1 ht2 ht3)
          refine z_iconst C (v := nI 1) rfl dX5_readsJob_80 81 rfl ?_
          refine z_goto C 85 dX5_readsJob_81 (by decide) ?_
          refine z_istore_n C hnL [1, 0] [(0, .ref (y 0)), (1, .int (nI 1))] rfl rfl (Nat.le_of_ble_eq_true rfl) dX5_readsJob_85 86 rfl ?_
          refine z_aload_n C 0 rfl rfl dX5_readsJob_86 87 rfl ?_
          refine z_dup C rfl dX5_readsJob_87 88 rfl ?_
          refine z_get C zc5 iX5_readsJob_X5 0 0 rfl rfl 13 (Nat.le_of_ble_eq_true rfl) (List.mem_of_getElem? (i := 2) rfl) (v := .int (nI rd)) rfl dX5_readsJob_88 91 rfl ?_
          refine z_iload_n C 1 rfl rfl dX5_readsJob_91 92 rfl ?_
          refine z_if_eq C (by omega) 99 dX5_readsJob_92 (by decide) 95 rfl (fun c_8 => ?_) (fun c_8 => ?_)
          · exfalso; omega
          refine z_iconst C (v := nI 1) rfl dX5_readsJob_95 96 rfl ?_
          refine z_goto C 100 dX5_readsJob_96 (by decide) ?_
          refine z_iadd C dX5_readsJob_100 101 rfl ?_
          refine z_put C zc5 iX5_readsJob_X5 0 0 rfl rfl 13 (Nat.le_of_ble_eq_true rfl) (List.mem_of_getElem? (i := 2) rfl) rfl rfl rfl (Nat.le_of_ble_eq_true rfl) (wM K.g y all kept hist hl slo sav beg prt frm txt tl sp3 to3 (rd + 1)) rfl [wM K.g y all kept hist hl slo sav beg prt frm txt tl sp3 to3 (rd + 1)] rfl dX5_readsJob_101 104 rfl ?_
          refine z_iload_n C 1 rfl rfl dX5_readsJob_104 105 rfl ?_
          refine z_eq (st2 := [.int (bI true)]) ?_ rfl rfl rfl
          exact z_bret C hRx dX5_readsJob_105 (true, sp3, to3, rd + 1) rfl hEN rfl
        · skip
          have hb4 := c_7
          have hyd := hT4 hb4
          have hyd2 : txt sp3 = 100 := by omega
          refine z_aload_n C 0 rfl rfl dX5_readsJob_66 67 rfl ?_
          refine z_bipush C (v := nI 100) rfl dX5_readsJob_67 69 rfl ?_
          refine z_iconst C (v := nI 3) rfl dX5_readsJob_69 70 rfl ?_
          refine z_iconst C (v := nI 0) rfl dX5_readsJob_70 71 rfl ?_
          refine z_sipush C (v := nI 3000) rfl dX5_readsJob_71 74 rfl ?_
          refine z_callV C [.int (nI 100), .int (nI 3), .int (nI 0), .int (nI 3000)] [] (tX5_readsNumber K.l K.g y all kept hist hl slo sav beg prt frm txt tl sp3 to3 rd 100 3 0 3000 (by first | omega | assumption) (by first | omega | assumption) (by first | omega | assumption) (by first | omega | assumption) (by first | omega | assumption) (by first | omega | assumption) (by first | omega | assumption) (by first | omega | assumption)) gX5_readsJob_X5_readsNumber rfl rfl rfl hdX5_readsNumber ⟨Nat.le_of_ble_eq_true rfl, Nat.le_of_ble_eq_true rfl⟩ ⟨Nat.zero_le _, Nat.zero_le _⟩ 0 0 rfl rfl rfl [0] rfl rfl (zlc (N := 1) rfl rfl) [1] rfl (by decide) (fun u : (Bool) × (Nat) × (Nat → Nat) => match u with | (b, sp2, tol2) => [wM K.g y all kept hist hl slo sav beg prt frm txt tl sp2 tol2 rd]) (fun _ => rfl) rfl rfl (Nat.le_of_ble_eq_true rfl) dX5_readsJob_74 77 rfl (fun u9 hu9 => ?_)
          obtain ⟨b5, sp5, to5⟩ := u9
          have hN5 := hu9
          have hN5 : RN txt tl sp3 100 3 0 3000 rd to3 b5 sp5 to5 := hN5
          show Z K 0 0 [wM K.g y all kept hist hl slo sav beg prt frm txt tl sp5 to5 rd] [(0, .ref (y 0))] 77 [.int (bI b5)]
          refine z_ifb_eq C 84 dX5_readsJob_77 (by decide) 80 rfl (fun c_9 => ?_) (fun c_9 => ?_)
          · skip
            have hb5 := c_9
            have hFA := RN_dF hR3 hG3 hyd.1 hyd2 hN5 hb5
            refine z_iconst C (v := nI 0) rfl dX5_readsJob_84 85 rfl ?_
            refine z_istore_n C hnL [1, 0] [(0, .ref (y 0)), (1, .int (nI 0))] rfl rfl (Nat.le_of_ble_eq_true rfl) dX5_readsJob_85 86 rfl ?_
            refine z_aload_n C 0 rfl rfl dX5_readsJob_86 87 rfl ?_
            refine z_dup C rfl dX5_readsJob_87 88 rfl ?_
            refine z_get C zc5 iX5_readsJob_X5 0 0 rfl rfl 13 (Nat.le_of_ble_eq_true rfl) (List.mem_of_getElem? (i := 2) rfl) (v := .int (nI rd)) rfl dX5_readsJob_88 91 rfl ?_
            refine z_iload_n C 1 rfl rfl dX5_readsJob_91 92 rfl ?_
            refine z_if_eq C (by omega) 99 dX5_readsJob_92 (by decide) 95 rfl (fun c_10 => ?_) (fun c_10 => ?_)
            rotate_left
            · exfalso; omega
            refine z_iconst C (v := nI 0) rfl dX5_readsJob_99 100 rfl ?_
            refine z_iadd C dX5_readsJob_100 101 rfl ?_
            refine z_put C zc5 iX5_readsJob_X5 0 0 rfl rfl 13 (Nat.le_of_ble_eq_true rfl) (List.mem_of_getElem? (i := 2) rfl) rfl rfl rfl (Nat.le_of_ble_eq_true rfl) (wM K.g y all kept hist hl slo sav beg prt frm txt tl sp5 to5 (rd + 0)) rfl [wM K.g y all kept hist hl slo sav beg prt frm txt tl sp5 to5 (rd + 0)] rfl dX5_readsJob_101 104 rfl ?_
            refine z_iload_n C 1 rfl rfl dX5_readsJob_104 105 rfl ?_
            refine z_eq (st2 := [.int (bI false)]) ?_ rfl rfl rfl
            exact z_bret C hRx dX5_readsJob_105 (false, sp5, to5, rd) rfl (RJ_F hFA) rfl
          · skip
            have hb5 := c_9
            obtain ⟨v5, hR5, hG5, hs5, hp5, ht5⟩ := RN_dT hR3 hG3 hyd.1 hyd2 hN5 hb5
            have hEN := RJ_8 hR5 hG5 hs5 hp5 (TOL_4 hM ht1 ht2 ht3 ht5)
            refine z_iconst C (v := nI 1) rfl dX5_readsJob_80 81 rfl ?_
            refine z_goto C 85 dX5_readsJob_81 (by decide) ?_
            refine z_istore_n C hnL [1, 0] [(0, .ref (y 0)), (1, .int (nI 1))] rfl rfl (Nat.le_of_ble_eq_true rfl) dX5_readsJob_85 86 rfl ?_
            refine z_aload_n C 0 rfl rfl dX5_readsJob_86 87 rfl ?_
            refine z_dup C rfl dX5_readsJob_87 88 rfl ?_
            refine z_get C zc5 iX5_readsJob_X5 0 0 rfl rfl 13 (Nat.le_of_ble_eq_true rfl) (List.mem_of_getElem? (i := 2) rfl) (v := .int (nI rd)) rfl dX5_readsJob_88 91 rfl ?_
            refine z_iload_n C 1 rfl rfl dX5_readsJob_91 92 rfl ?_
            refine z_if_eq C (by omega) 99 dX5_readsJob_92 (by decide) 95 rfl (fun c_11 => ?_) (fun c_11 => ?_)
            · exfalso; omega
            refine z_iconst C (v := nI 1) rfl dX5_readsJob_95 96 rfl ?_
            refine z_goto C 100 dX5_readsJob_96 (by decide) ?_
            refine z_iadd C dX5_readsJob_100 101 rfl ?_
            refine z_put C zc5 iX5_readsJob_X5 0 0 rfl rfl 13 (Nat.le_of_ble_eq_true rfl) (List.mem_of_getElem? (i := 2) rfl) rfl rfl rfl (Nat.le_of_ble_eq_true rfl) (wM K.g y all kept hist hl slo sav beg prt frm txt tl sp5 to5 (rd + 1)) rfl [wM K.g y all kept hist hl slo sav beg prt frm txt tl sp5 to5 (rd + 1)] rfl dX5_readsJob_101 104 rfl ?_
            refine z_iload_n C 1 rfl rfl dX5_readsJob_104 105 rfl ?_
            refine z_eq (st2 := [.int (bI true)]) ?_ rfl rfl rfl
            exact z_bret C hRx dX5_readsJob_105 (true, sp5, to5, rd + 1) rfl hEN rfl

theorem iX5_fault_X5 : ∀ w ∈ u_ws RX5 TX5 14, w ∈ wsX5_fault := fun w h => (List.mem_cons_of_mem _ (List.mem_append_right _ h))
set_option maxHeartbeats 4000000 in
set_option maxRecDepth 100000 in
theorem tX5_fault (l : Launch) (g : zG) (y all kept hist : Nat → Nat) (hl : Nat) (slo sav beg prt frm txt : Nat → Nat) (tl sp : Nat) (tol : Nat → Nat) (rd : Nat) (fr : Nat → Nat → Nat) (htl : tl ≤ 60) (ht : ∀ i, i < tl → txt i ≤ 126) : Met l yX5_fault wsX5_fault ({ frames := 5, cells := 0, slots := 0, locals := 115 } : Room) (zPre g [.ref (y 0)] [wM g y all kept hist hl slo sav beg prt frm txt tl sp tol rd]) (zQ g (fun u : (Int32) × (Nat) × (Nat → Nat) × (Nat) × (Nat) × (Nat → Nat → Nat) => match u with | (v, sp2, tol2, rd2, n2, r2) => some (.int v) ) (fun u : (Int32) × (Nat) × (Nat → Nat) × (Nat) × (Nat) × (Nat → Nat → Nat) => match u with | (v, sp2, tol2, rd2, n2, r2) => (PAR txt fr tl v n2 r2) ∧ (v = (-6) → rd2 = n2 ∧ ∀ j, j < n2 → ∀ k, k < 4 → tol2 (4 * j + k) = r2 k j)) (fun u : (Int32) × (Nat) × (Nat → Nat) × (Nat) × (Nat) × (Nat → Nat → Nat) => match u with | (v, sp2, tol2, rd2, n2, r2) => [wM g y all kept hist hl slo sav beg prt frm txt tl sp2 tol2 rd2]) (zA [wM g y all kept hist hl slo sav beg prt frm txt tl sp tol rd])) 0 0 (zA [wM g y all kept hist hl slo sav beg prt frm txt tl sp tol rd]) := by
  refine z_entry (cc := cX5_fault) (maxL := 2) (ret := (some .int)) (own := RX5) (by decide) rfl rfl (Nat.le_of_ble_eq_true rfl) [(0, .ref (y 0))] rfl ?_
  intro K hKl hKg hnL C hRx
  subst hKl
  subst hKg
  refine z_aload_n C 0 rfl rfl dX5_fault_0 1 rfl ?_
  refine z_iconst C (v := nI 0) rfl dX5_fault_1 2 rfl ?_
  refine z_put C zc5 iX5_fault_X5 0 0 rfl rfl 11 (Nat.le_of_ble_eq_true rfl) (List.mem_of_getElem? (i := 1) rfl) rfl rfl rfl (Nat.le_of_ble_eq_true rfl) (wM K.g y all kept hist hl slo sav beg prt frm txt tl 0 tol rd) rfl [wM K.g y all kept hist hl slo sav beg prt frm txt tl 0 tol rd] rfl dX5_fault_2 5 rfl ?_
  refine z_aload_n C 0 rfl rfl dX5_fault_5 6 rfl ?_
  refine z_iconst C (v := nI 0) rfl dX5_fault_6 7 rfl ?_
  refine z_put C zc5 iX5_fault_X5 0 0 rfl rfl 13 (Nat.le_of_ble_eq_true rfl) (List.mem_of_getElem? (i := 2) rfl) rfl rfl rfl (Nat.le_of_ble_eq_true rfl) (wM K.g y all kept hist hl slo sav beg prt frm txt tl 0 tol 0) rfl [wM K.g y all kept hist hl slo sav beg prt frm txt tl 0 tol 0] rfl dX5_fault_7 10 rfl ?_
  refine z_iconst C (v := nI 1) rfl dX5_fault_10 11 rfl ?_
  refine z_istore_n C hnL [1, 0] [(0, .ref (y 0)), (1, .int (nI 1))] rfl rfl (Nat.le_of_ble_eq_true rfl) dX5_fault_11 12 rfl ?_
  have loop12 : ∀ (mu : Nat) (s9 : Nat) (to9 : Nat → Nat) (n9 : Nat) (a9 : Nat) (b9 : Nat) (h9 : Nat) (d9 : Nat) (r9 : Nat → Nat → Nat), mu = 9 - n9 → s9 ≤ tl → auR txt fr s9 = (0, a9, b9, h9, d9, n9, r9) → auGd txt fr s9 → (∀ j, j < n9 → ∀ k, k < 4 → to9 (4 * j + k) = r9 k j) → Z K 0 0 [wM K.g y all kept hist hl slo sav beg prt frm txt tl s9 to9 n9] [(0, .ref (y 0)), (1, .int (bI true))] 12 [] := by
    refine z_ind (fun mu ih12 => ?_)
    intro s9 to9 n9 a9 b9 h9 d9 r9 hmu12 hs hR hG hM
    have hcn := au_cnt hR hG
    refine z_iload_n C 1 rfl rfl dX5_fault_12 13 rfl ?_
    refine z_ifb_eq C 38 dX5_fault_13 (by decide) 16 rfl (fun c_1 => ?_) (fun c_1 => ?_)
    · exfalso; exact absurd c_1 (by decide)
    refine z_aload_n C 0 rfl rfl dX5_fault_16 17 rfl ?_
    refine z_callV C [] [] (tX5_readsJob K.l K.g y all kept hist hl slo sav beg prt frm txt tl s9 to9 n9 fr a9 b9 h9 d9 r9 (by first | omega | assumption) (by first | omega | assumption) hs hR hG hM) gX5_fault_X5_readsJob rfl rfl rfl hdX5_readsJob ⟨Nat.le_of_ble_eq_true rfl, Nat.le_of_ble_eq_true rfl⟩ ⟨Nat.zero_le _, Nat.zero_le _⟩ 0 0 rfl rfl rfl [0] rfl rfl (zlc (N := 1) rfl rfl) [1] rfl (by decide) (fun u : (Bool) × (Nat) × (Nat → Nat) × (Nat) => match u with | (b, sp2, tol2, rd2) => [wM K.g y all kept hist hl slo sav beg prt frm txt tl sp2 tol2 rd2]) (fun _ => rfl) rfl rfl (Nat.le_of_ble_eq_true rfl) dX5_fault_17 20 rfl (fun u9 hu9 => ?_)
    obtain ⟨b5, s5, to5, rd5⟩ := u9
    have hJ5 := hu9
    have hJ5 : RJ txt fr tl n9 r9 b5 s5 to5 rd5 := hJ5
    show Z K 0 0 [wM K.g y all kept hist hl slo sav beg prt frm txt tl s5 to5 rd5] [(0, .ref (y 0)), (1, .int (bI true))] 20 [.int (bI b5)]
    refine z_ifb_ne C 28 dX5_fault_20 (by decide) 23 rfl (fun c_2 => ?_) (fun c_2 => ?_)
    · skip
      have hb5 := c_2
      obtain ⟨hs5, hG5, ⟨hx5, -⟩ | ⟨-, hrd5, ex5, ea, es, eh, ed, hex, hR5, hM5, hN5⟩⟩ := hJ5
      · exact absurd (hb5.symm.trans hx5) (by decide)
      subst hrd5
      refine z_aload_n C 0 rfl rfl dX5_fault_28 29 rfl ?_
      refine z_bipush C (v := nI 59) rfl dX5_fault_29 31 rfl ?_
      refine z_callV C [.int (nI 59)] [] (tX5_takesOne K.l K.g y all kept hist hl slo sav beg prt frm txt tl s5 to5 (n9 + 1) 59 (by first | omega | assumption) (by first | omega | assumption) (by first | omega | assumption) (by first | omega | assumption)) gX5_fault_X5_takesOne rfl rfl rfl hdX5_takesOne ⟨Nat.le_of_ble_eq_true rfl, Nat.le_of_ble_eq_true rfl⟩ ⟨Nat.zero_le _, Nat.zero_le _⟩ 0 0 rfl rfl rfl [0] rfl rfl (zlc (N := 1) rfl rfl) [1] rfl (by decide) (fun u : (Bool) × (Nat) => match u with | (b, sp2) => [wM K.g y all kept hist hl slo sav beg prt frm txt tl sp2 to5 (n9 + 1)]) (fun _ => rfl) rfl rfl (Nat.le_of_ble_eq_true rfl) dX5_fault_31 34 rfl (fun u9 hu9 => ?_)
      obtain ⟨b6, s6⟩ := u9
      obtain ⟨hT6, hF6⟩ := hu9
      have hT6 : b6 = true → s5 < tl ∧ txt s5 = 59 ∧ s6 = s5 + 1 := hT6
      have hF6 : b6 = false → ¬ (s5 < tl ∧ txt s5 = 59) ∧ s6 = s5 := hF6
      show Z K 0 0 [wM K.g y all kept hist hl slo sav beg prt frm txt tl s6 to5 (n9 + 1)] [(0, .ref (y 0)), (1, .int (bI true))] 34 [.int (bI b6)]
      by_cases hb6 : b6 = true
      · skip
        obtain ⟨hy1, hy2, rfl⟩ := hT6 hb6
        refine z_istore_n C hnL [1, 0] [(0, .ref (y 0)), (1, .int (bI b6))] rfl rfl (Nat.le_of_ble_eq_true rfl) dX5_fault_34 35 rfl ?_
        refine z_goto C 12 dX5_fault_35 (by decide) ?_
        refine z_eq (lv2 := [(0, .ref (y 0)), (1, .int (bI true))]) ?_ rfl (by rw [hb6]) rfl
        exact ih12 _ (by omega) (s5 + 1) to5 (n9 + 1) ea es eh ed (apR r9 n9 ea es eh ed) rfl (by omega) (au_59 hR5 hex hy2) (au_59g hR5 hG5 hex hy2) hM5
      · skip
        have hb6 : b6 = false := by cases b6 <;> first | rfl | exact absurd rfl hb6
        obtain ⟨hz1, hz2⟩ := hF6 hb6
        obtain rfl := hz2.symm
        refine z_eq (st2 := [.int (bI false)]) ?_ rfl rfl (by rw [hb6])
        refine z_istore_n C hnL [1, 0] [(0, .ref (y 0)), (1, .int (bI false))] rfl rfl (Nat.le_of_ble_eq_true rfl) dX5_fault_34 35 rfl ?_
        refine z_goto C 12 dX5_fault_35 (by decide) ?_
        refine z_iload_n C 1 rfl rfl dX5_fault_12 13 rfl ?_
        refine z_ifb_eq C 38 dX5_fault_13 (by decide) 16 rfl (fun c_3 => ?_) (fun c_3 => ?_)
        rotate_left
        · exfalso; exact absurd c_3 (by decide)
        refine z_aload_n C 0 rfl rfl dX5_fault_38 39 rfl ?_
        refine z_get C zc5 iX5_fault_X5 0 0 rfl rfl 11 (Nat.le_of_ble_eq_true rfl) (List.mem_of_getElem? (i := 1) rfl) (v := .int (nI s5)) rfl dX5_fault_39 42 rfl ?_
        refine z_aload_n C 0 rfl rfl dX5_fault_42 43 rfl ?_
        refine z_get C zc5 iX5_fault_X5 0 0 rfl rfl 10 (Nat.le_of_ble_eq_true rfl) (List.mem_of_getElem? (i := 3) rfl) (v := .int (nI tl)) rfl dX5_fault_43 46 rfl ?_
        refine z_icmp_ne C (by omega) (by omega) 54 dX5_fault_46 (by decide) 49 rfl (fun c_4 => ?_) (fun c_4 => ?_)
        · skip
          refine z_aload_n C 0 rfl rfl dX5_fault_54 55 rfl ?_
          refine z_get C zc5 iX5_fault_X5 0 0 rfl rfl 11 (Nat.le_of_ble_eq_true rfl) (List.mem_of_getElem? (i := 1) rfl) (v := .int (nI s5)) rfl dX5_fault_55 58 rfl ?_
          exact z_iret C hRx dX5_fault_58 (nI s5, s5, to5, (n9 + 1), 0, fr) rfl (⟨Or.inl ⟨s5, by omega, hG5, hN5 (by omega) (fun z => hz1 ⟨by omega, z⟩), rfl⟩, fun h6 => absurd h6 (nI_n6 (by omega))⟩) rfl
        · skip
          refine z_bipush C (v := (-6)) rfl dX5_fault_49 51 rfl ?_
          refine z_goto C 58 dX5_fault_51 (by decide) ?_
          exact z_iret C hRx dX5_fault_58 ((-6), s5, to5, (n9 + 1), n9 + 1, apR r9 n9 ea es eh ed) rfl (⟨PAR_3 (by omega) hR5 hG5 hex htl, fun _ => ⟨rfl, hM5⟩⟩) rfl
    · skip
      have hb5 := c_2
      refine z_aload_n C 0 rfl rfl dX5_fault_23 24 rfl ?_
      refine z_get C zc5 iX5_fault_X5 0 0 rfl rfl 11 (Nat.le_of_ble_eq_true rfl) (List.mem_of_getElem? (i := 1) rfl) (v := .int (nI s5)) rfl dX5_fault_24 27 rfl ?_
      exact z_iret C hRx dX5_fault_27 (nI s5, s5, to5, rd5, 0, fr) rfl (⟨RJ_PAR hJ5 hb5, fun h6 => absurd h6 (nI_n6 (by have := hJ5.1; omega))⟩) rfl
  refine z_eq (lv2 := [(0, .ref (y 0)), (1, .int (bI true))]) ?_ rfl rfl rfl
  exact loop12 _ 0 tol 0 0 0 0 0 fr rfl (Nat.zero_le _) rfl (fun j h9 => absurd h9 (by omega)) (fun j hj => by omega)

theorem iX5_read_X5 : ∀ w ∈ u_ws RX5 TX5 14, w ∈ wsX5_read := fun w h => (List.mem_cons_of_mem _ (List.mem_append_right _ h))
set_option maxHeartbeats 4000000 in
set_option maxRecDepth 100000 in
theorem tX5_read (l : Launch) (g : zG) (y all kept hist : Nat → Nat) (hl : Nat) (slo sav beg prt frm txt : Nat → Nat) (tl sp : Nat) (tol : Nat → Nat) (rd : Nat) (st : Nat → Nat) (r : Nat → Nat → Nat) (n : Nat) (fr : Nat → Nat → Nat) (hn : n ≤ 12) (hB : Bd all st r n) (hS : okS st) (hl6 : hl ≤ 6) (htl : tl ≤ 60) (ht : ∀ i, i < tl → txt i ≤ 126) : Met l yX5_read wsX5_read ({ frames := 6, cells := 0, slots := 0, locals := 136 } : Room) (zPre g [.ref (y 0)] [wM g y all kept hist hl slo sav beg prt frm txt tl sp tol rd]) (zQ g (fun u : (Int32) × (Int32) × (Nat) × (Nat → Nat → Nat) × (Nat → Nat) × (Nat → Nat) × (Nat) × (Nat) × (Nat) × (Nat → Nat) × (Nat) => match u with | (v, w, n2, r2, all2, hist2, hl2, tl2, sp2, tol2, rd2) => some (.int v) ) (fun u : (Int32) × (Int32) × (Nat) × (Nat → Nat → Nat) × (Nat → Nat) × (Nat → Nat) × (Nat) × (Nat) × (Nat) × (Nat → Nat) × (Nat) => match u with | (v, w, n2, r2, all2, hist2, hl2, tl2, sp2, tol2, rd2) => (PAR txt fr tl w n2 r2) ∧ ((w ≠ (-6) ∧ v = (-3) ∧ all2 = all ∧ hist2 = hist ∧ hl2 = hl ∧ tl2 = tl) ∨ (w = (-6) ∧ st 5 < mND st r2 n2 ∧ v = (-5) ∧ all2 = all ∧ hist2 = hist ∧ hl2 = hl ∧ tl2 = tl) ∨ (w = (-6) ∧ mND st r2 n2 ≤ st 5 ∧ 12 < n + n2 ∧ v = (-4) ∧ all2 = all ∧ hist2 = hist ∧ hl2 = hl ∧ tl2 = tl) ∨ (w = (-6) ∧ mND st r2 n2 ≤ st 5 ∧ n + n2 ≤ 12 ∧ v = nI (n + n2) ∧ tl2 = 0 ∧ Bd all2 st (apA r n r2 n2) (n + n2) ∧ HCh all hist hl hist2 hl2))) (fun u : (Int32) × (Int32) × (Nat) × (Nat → Nat → Nat) × (Nat → Nat) × (Nat → Nat) × (Nat) × (Nat) × (Nat) × (Nat → Nat) × (Nat) => match u with | (v, w, n2, r2, all2, hist2, hl2, tl2, sp2, tol2, rd2) => [wM g y all2 kept hist2 hl2 slo sav beg prt frm txt tl2 sp2 tol2 rd2]) (zA [wM g y all kept hist hl slo sav beg prt frm txt tl sp tol rd])) 0 0 (zA [wM g y all kept hist hl slo sav beg prt frm txt tl sp tol rd]) := by
  refine z_entry (cc := cX5_read) (maxL := 2) (ret := (some .int)) (own := RX5) (by decide) rfl rfl (Nat.le_of_ble_eq_true rfl) [(0, .ref (y 0))] rfl ?_
  intro K hKl hKg hnL C hRx
  subst hKl
  subst hKg
  refine z_aload_n C 0 rfl rfl dX5_read_0 1 rfl ?_
  refine z_callV C [] [] (tX5_fault K.l K.g y all kept hist hl slo sav beg prt frm txt tl sp tol rd fr (by first | omega | assumption) (by first | omega | assumption)) gX5_read_X5_fault rfl rfl rfl hdX5_fault ⟨Nat.le_of_ble_eq_true rfl, Nat.le_of_ble_eq_true rfl⟩ ⟨Nat.zero_le _, Nat.zero_le _⟩ 0 0 rfl rfl rfl [0] rfl rfl (zlc (N := 1) rfl rfl) [1] rfl (by decide) (fun u : (Int32) × (Nat) × (Nat → Nat) × (Nat) × (Nat) × (Nat → Nat → Nat) => match u with | (v, sp2, tol2, rd2, n2, r2) => [wM K.g y all kept hist hl slo sav beg prt frm txt tl sp2 tol2 rd2]) (fun _ => rfl) rfl rfl (Nat.le_of_ble_eq_true rfl) dX5_read_1 4 rfl (fun u9 hu9 => ?_)
  obtain ⟨w, sp2, tol2, rd2, n2, r2⟩ := u9
  obtain ⟨hp, hm⟩ := hu9
  have hp : PAR txt fr tl w n2 r2 := hp
  have hm : w = (-6) → rd2 = n2 ∧ ∀ j, j < n2 → ∀ k, k < 4 → tol2 (4 * j + k) = r2 k j := hm
  show Z K 0 0 [wM K.g y all kept hist hl slo sav beg prt frm txt tl sp2 tol2 rd2] [(0, .ref (y 0))] 4 [.int w]
  refine z_bipush C (v := (-6)) rfl dX5_read_4 6 rfl ?_
  refine z_icmpI_eq C 12 dX5_read_6 (by decide) 9 rfl (fun c_1 => ?_) (fun c_1 => ?_)
  · skip
    have hw6 := c_1
    obtain ⟨hrd2, hM2⟩ := hm hw6
    obtain rfl := hrd2.symm
    have hok := PAR_ok hp htl hw6
    have hn28 := hok.1
    have h5b := hS.2.2.2.2.2.2.2.1
    refine z_iconst C (v := nI 0) rfl dX5_read_12 13 rfl ?_
    refine z_istore_n C hnL [1, 0] [(0, .ref (y 0)), (1, .int (nI 0))] rfl rfl (Nat.le_of_ble_eq_true rfl) dX5_read_13 14 rfl ?_
    have loop14 : ∀ (mu : Nat) (i : Nat), mu = n2 - i → i ≤ n2 → (∀ j, j < i → ndj st r2 j ≤ st 5) → Z K 0 0 [wM K.g y all kept hist hl slo sav beg prt frm txt tl sp2 tol2 n2] [(0, .ref (y 0)), (1, .int (nI i))] 14 [] := by
      refine z_ind (fun mu ih14 => ?_)
      intro i hmu14 hi hx
      refine z_iload_n C 1 rfl rfl dX5_read_14 15 rfl ?_
      refine z_aload_n C 0 rfl rfl dX5_read_15 16 rfl ?_
      refine z_get C zc5 iX5_read_X5 0 0 rfl rfl 13 (Nat.le_of_ble_eq_true rfl) (List.mem_of_getElem? (i := 1) rfl) (v := .int (nI n2)) rfl dX5_read_16 19 rfl ?_
      refine z_icmp_ge C (by omega) (by omega) 54 dX5_read_19 (by decide) 22 rfl (fun c_2 => ?_) (fun c_2 => ?_)
      · skip
        have hmn : mND st r2 n2 ≤ st 5 := mx_le n2 (fun j hj => hx j (by omega))
        refine z_aload_n C 0 rfl rfl dX5_read_54 55 rfl ?_
        refine z_get C zc5 iX5_read_X5 0 0 rfl rfl 0 (Nat.le_of_ble_eq_true rfl) (List.mem_of_getElem? (i := 3) rfl) (v := .ref (y 1)) rfl dX5_read_55 58 rfl ?_
        refine z_bipush C (v := nI 7) rfl dX5_read_58 60 rfl ?_
        refine z_iald C (f := all) 0 1 rfl rfl (by omega) (by decide) dX5_read_60 61 rfl ?_
        refine z_top (show nI (all 7) = nI n from by rw [hB.2.1]) ?_
        refine z_aload_n C 0 rfl rfl dX5_read_61 62 rfl ?_
        refine z_get C zc5 iX5_read_X5 0 0 rfl rfl 13 (Nat.le_of_ble_eq_true rfl) (List.mem_of_getElem? (i := 1) rfl) (v := .int (nI n2)) rfl dX5_read_62 65 rfl ?_
        refine z_iadd C dX5_read_65 66 rfl ?_
        refine z_bipush C (v := nI 12) rfl dX5_read_66 68 rfl ?_
        refine z_icmp_le C (by omega) (by omega) 74 dX5_read_68 (by decide) 71 rfl (fun c_3 => ?_) (fun c_3 => ?_)
        · skip
          refine z_aload_n C 0 rfl rfl dX5_read_74 75 rfl ?_
          refine z_callV C [] [] (tX5_changes K.l K.g y all kept hist hl slo sav beg prt frm txt tl sp2 tol2 n2 (by first | omega | assumption)) gX5_read_X5_changes rfl rfl rfl hdX5_changes ⟨Nat.le_of_ble_eq_true rfl, Nat.le_of_ble_eq_true rfl⟩ ⟨Nat.zero_le _, Nat.zero_le _⟩ 0 0 rfl rfl rfl [0] rfl rfl (zlc (N := 1) rfl rfl) [1] rfl (by decide) (fun u : (Nat → Nat) × (Nat) => match u with | (hist2, hl2) => [wM K.g y all kept hist2 hl2 slo sav beg prt frm txt tl sp2 tol2 n2]) (fun _ => rfl) rfl rfl (Nat.le_of_ble_eq_true rfl) dX5_read_75 78 rfl (fun u9 hu9 => ?_)
          obtain ⟨hist2, hl2⟩ := u9
          obtain ⟨hh1, hh2, hh3⟩ := hu9
          have hh1 : hl2 = min (hl + 1) 6 := hh1
          have hh2 : ∀ u, u < 56 → hist2 (56 * (hl2 - 1) + u) = all u := hh2
          have hh3 : ∀ e u, e + 1 < hl2 → u < 56 → hist2 (56 * e + u) = hist (56 * (e + (hl + 1 - hl2)) + u) := hh3
          show Z K 0 0 [wM K.g y all kept hist2 hl2 slo sav beg prt frm txt tl sp2 tol2 n2] [(0, .ref (y 0)), (1, .int (nI i))] 78 []
          have hC : HCh all hist hl hist2 hl2 := ⟨hh1, hh2, hh3⟩
          refine z_iconst C (v := nI 0) rfl dX5_read_78 79 rfl ?_
          refine z_istore_n C hnL [1, 0] [(0, .ref (y 0)), (1, .int (nI 0))] rfl rfl (Nat.le_of_ble_eq_true rfl) dX5_read_79 80 rfl ?_
          have loop80 : ∀ (mu : Nat) (i4 : Nat) (al4 : Nat → Nat), mu = n2 - i4 → i4 ≤ n2 → Bd al4 st (apA r n r2 i4) (n + i4) → Z K 0 0 [wM K.g y al4 kept hist2 hl2 slo sav beg prt frm txt tl sp2 tol2 n2] [(0, .ref (y 0)), (1, .int (nI i4))] 80 [] := by
            refine z_ind (fun mu ih80 => ?_)
            intro i4 al4 hmu80 hi4 hB4
            refine z_iload_n C 1 rfl rfl dX5_read_80 81 rfl ?_
            refine z_aload_n C 0 rfl rfl dX5_read_81 82 rfl ?_
            refine z_get C zc5 iX5_read_X5 0 0 rfl rfl 13 (Nat.le_of_ble_eq_true rfl) (List.mem_of_getElem? (i := 1) rfl) (v := .int (nI n2)) rfl dX5_read_82 85 rfl ?_
            refine z_icmp_ge C (by omega) (by omega) 136 dX5_read_85 (by decide) 88 rfl (fun c_4 => ?_) (fun c_4 => ?_)
            · skip
              obtain rfl : n2 = i4 := by omega
              refine z_aload_n C 0 rfl rfl dX5_read_136 137 rfl ?_
              refine z_iconst C (v := nI 0) rfl dX5_read_137 138 rfl ?_
              refine z_put C zc5 iX5_read_X5 0 0 rfl rfl 10 (Nat.le_of_ble_eq_true rfl) (List.mem_of_getElem? (i := 4) rfl) rfl rfl rfl (Nat.le_of_ble_eq_true rfl) (wM K.g y al4 kept hist2 hl2 slo sav beg prt frm txt 0 sp2 tol2 n2) rfl [wM K.g y al4 kept hist2 hl2 slo sav beg prt frm txt 0 sp2 tol2 n2] rfl dX5_read_138 141 rfl ?_
              refine z_aload_n C 0 rfl rfl dX5_read_141 142 rfl ?_
              refine z_get C zc5 iX5_read_X5 0 0 rfl rfl 0 (Nat.le_of_ble_eq_true rfl) (List.mem_of_getElem? (i := 3) rfl) (v := .ref (y 1)) rfl dX5_read_142 145 rfl ?_
              refine z_bipush C (v := nI 7) rfl dX5_read_145 147 rfl ?_
              refine z_iald C (f := al4) 0 1 rfl rfl (by omega) (by decide) dX5_read_147 148 rfl ?_
              refine z_top (show nI (al4 7) = nI (n + n2) from by rw [hB4.2.1]) ?_
              exact z_iret C hRx dX5_read_148 (nI (n + n2), w, n2, r2, al4, hist2, hl2, 0, sp2, tol2, n2) rfl (⟨hp, Or.inr (Or.inr (Or.inr ⟨hw6, hmn, by omega, rfl, rfl, hB4, hC⟩))⟩) rfl
            · skip
              refine z_aload_n C 0 rfl rfl dX5_read_88 89 rfl ?_
              refine z_aload_n C 0 rfl rfl dX5_read_89 90 rfl ?_
              refine z_get C zc5 iX5_read_X5 0 0 rfl rfl 12 (Nat.le_of_ble_eq_true rfl) (List.mem_of_getElem? (i := 2) rfl) (v := .ref (y 10)) rfl dX5_read_90 93 rfl ?_
              refine z_iconst C (v := nI 4) rfl dX5_read_93 94 rfl ?_
              refine z_iload_n C 1 rfl rfl dX5_read_94 95 rfl ?_
              refine z_imul C dX5_read_95 96 rfl ?_
              refine z_iald C (f := tol2) 0 10 rfl rfl (by omega) (by decide) dX5_read_96 97 rfl ?_
              refine z_top (show nI (tol2 (4 * i4 + 0)) = nI (r2 0 i4) from by rw [hM2 i4 (by omega) 0 (by decide)]) ?_
              refine z_aload_n C 0 rfl rfl dX5_read_97 98 rfl ?_
              refine z_get C zc5 iX5_read_X5 0 0 rfl rfl 12 (Nat.le_of_ble_eq_true rfl) (List.mem_of_getElem? (i := 2) rfl) (v := .ref (y 10)) rfl dX5_read_98 101 rfl ?_
              refine z_iconst C (v := nI 4) rfl dX5_read_101 102 rfl ?_
              refine z_iload_n C 1 rfl rfl dX5_read_102 103 rfl ?_
              refine z_imul C dX5_read_103 104 rfl ?_
              refine z_iconst C (v := nI 1) rfl dX5_read_104 105 rfl ?_
              refine z_iadd C dX5_read_105 106 rfl ?_
              refine z_iald C (f := tol2) 0 10 rfl rfl (by omega) (by decide) dX5_read_106 107 rfl ?_
              refine z_top (show nI (tol2 ((4 * i4) + 1)) = nI (r2 1 i4) from by rw [hM2 i4 (by omega) 1 (by decide)]) ?_
              refine z_aload_n C 0 rfl rfl dX5_read_107 108 rfl ?_
              refine z_get C zc5 iX5_read_X5 0 0 rfl rfl 12 (Nat.le_of_ble_eq_true rfl) (List.mem_of_getElem? (i := 2) rfl) (v := .ref (y 10)) rfl dX5_read_108 111 rfl ?_
              refine z_iconst C (v := nI 4) rfl dX5_read_111 112 rfl ?_
              refine z_iload_n C 1 rfl rfl dX5_read_112 113 rfl ?_
              refine z_imul C dX5_read_113 114 rfl ?_
              refine z_iconst C (v := nI 2) rfl dX5_read_114 115 rfl ?_
              refine z_iadd C dX5_read_115 116 rfl ?_
              refine z_iald C (f := tol2) 0 10 rfl rfl (by omega) (by decide) dX5_read_116 117 rfl ?_
              refine z_top (show nI (tol2 ((4 * i4) + 2)) = nI (r2 2 i4) from by rw [hM2 i4 (by omega) 2 (by decide)]) ?_
              refine z_aload_n C 0 rfl rfl dX5_read_117 118 rfl ?_
              refine z_get C zc5 iX5_read_X5 0 0 rfl rfl 12 (Nat.le_of_ble_eq_true rfl) (List.mem_of_getElem? (i := 2) rfl) (v := .ref (y 10)) rfl dX5_read_118 121 rfl ?_
              refine z_iconst C (v := nI 4) rfl dX5_read_121 122 rfl ?_
              refine z_iload_n C 1 rfl rfl dX5_read_122 123 rfl ?_
              refine z_imul C dX5_read_123 124 rfl ?_
              refine z_iconst C (v := nI 3) rfl dX5_read_124 125 rfl ?_
              refine z_iadd C dX5_read_125 126 rfl ?_
              refine z_iald C (f := tol2) 0 10 rfl rfl (by omega) (by decide) dX5_read_126 127 rfl ?_
              refine z_top (show nI (tol2 ((4 * i4) + 3)) = nI (r2 3 i4) from by rw [hM2 i4 (by omega) 3 (by decide)]) ?_
              refine z_callV C [.int (nI (r2 0 i4)), .int (nI (r2 1 i4)), .int (nI (r2 2 i4)), .int (nI (r2 3 i4))] [] (tX5_puts K.l K.g y al4 kept hist2 hl2 slo sav beg prt frm txt tl sp2 tol2 n2 st (apA r n r2 i4) (n + i4) (r2 0 i4) (r2 1 i4) (r2 2 i4) (r2 3 i4) (by omega) hB4) gX5_read_X5_puts rfl rfl rfl hdX5_puts ⟨Nat.le_of_ble_eq_true rfl, Nat.le_of_ble_eq_true rfl⟩ ⟨Nat.zero_le _, Nat.zero_le _⟩ 0 0 rfl rfl rfl [0] rfl rfl (zlc (N := 1) rfl rfl) [1] rfl (by decide) (fun all2 : Nat → Nat => [wM K.g y all2 kept hist2 hl2 slo sav beg prt frm txt tl sp2 tol2 n2]) (fun _ => rfl) rfl rfl (Nat.le_of_ble_eq_true rfl) dX5_read_127 130 rfl (fun u9 hu9 => ?_)
              obtain ⟨al5, rfl⟩ : ∃ z, z = u9 := ⟨_, rfl⟩
              have hB5 := hu9
              have hB5 : Bd al5 st (apR (apA r n r2 i4) (n + i4) (r2 0 i4) (r2 1 i4) (r2 2 i4) (r2 3 i4)) ((n + i4) + 1) := hB5
              show Z K 0 0 [wM K.g y al5 kept hist2 hl2 slo sav beg prt frm txt tl sp2 tol2 n2] [(0, .ref (y 0)), (1, .int (nI i4))] 130 []
              refine z_iinc C hnL 1 rfl (v := (nI (i4 + 1))) (nI_1 _) [1, 0] [(0, .ref (y 0)), (1, .int (nI (i4 + 1)))] rfl (Nat.le_of_ble_eq_true rfl) dX5_read_130 133 rfl ?_
              refine z_goto C 80 dX5_read_133 (by decide) ?_
              exact ih80 _ (by omega) (i4 + 1) al5 rfl (by omega) hB5
          exact loop80 _ 0 all rfl (by omega) hB
        · skip
          refine z_bipush C (v := (-4)) rfl dX5_read_71 73 rfl ?_
          exact z_iret C hRx dX5_read_73 ((-4), w, n2, r2, all, hist, hl, tl, sp2, tol2, n2) rfl (⟨hp, Or.inr (Or.inr (Or.inl ⟨hw6, hmn, by omega, rfl, rfl, rfl, rfl, rfl⟩))⟩) rfl
      · skip
        have hin : i < n2 := by omega
        have hib := (hok.2 i hin).2.2.2.1
        have hnb := nd_le (h := r2 2 i) hS.2.2.2.2.2.2.2.2.1
        have hnb2 : ndj st r2 i ≤ r2 2 i := hnb
        refine z_aload_n C 0 rfl rfl dX5_read_22 23 rfl ?_
        refine z_aload_n C 0 rfl rfl dX5_read_23 24 rfl ?_
        refine z_get C zc5 iX5_read_X5 0 0 rfl rfl 12 (Nat.le_of_ble_eq_true rfl) (List.mem_of_getElem? (i := 2) rfl) (v := .ref (y 10)) rfl dX5_read_24 27 rfl ?_
        refine z_iconst C (v := nI 4) rfl dX5_read_27 28 rfl ?_
        refine z_iload_n C 1 rfl rfl dX5_read_28 29 rfl ?_
        refine z_imul C dX5_read_29 30 rfl ?_
        refine z_iconst C (v := nI 2) rfl dX5_read_30 31 rfl ?_
        refine z_iadd C dX5_read_31 32 rfl ?_
        refine z_iald C (f := tol2) 0 10 rfl rfl (by omega) (by decide) dX5_read_32 33 rfl ?_
        refine z_top (show nI (tol2 ((4 * i) + 2)) = nI (r2 2 i) from by rw [hM2 i (by omega) 2 (by decide)]) ?_
        refine z_callV C [.int (nI (r2 2 i))] [] (tX5_racksFor K.l K.g y all kept hist hl slo sav beg prt frm txt tl sp2 tol2 n2 st r n (r2 2 i) (by first | omega | assumption) (by first | omega | assumption) (by first | omega | assumption) (by omega)) gX5_read_X5_racksFor rfl rfl rfl hdX5_racksFor ⟨Nat.le_of_ble_eq_true rfl, Nat.le_of_ble_eq_true rfl⟩ ⟨Nat.zero_le _, Nat.zero_le _⟩ 0 0 rfl rfl rfl [0] rfl rfl (zlc (N := 1) rfl rfl) [1] rfl (by decide) (fun _ : Unit => [wM K.g y all kept hist hl slo sav beg prt frm txt tl sp2 tol2 n2]) (fun _ => rfl) rfl rfl (Nat.le_of_ble_eq_true rfl) dX5_read_33 36 rfl (fun u9 hu9 => ?_)
        show Z K 0 0 [wM K.g y all kept hist hl slo sav beg prt frm txt tl sp2 tol2 n2] [(0, .ref (y 0)), (1, .int (nI i))] 36 [.int (nI (nd (st 6) (r2 2 i)))]
        refine z_top (show nI (nd (st 6) (r2 2 i)) = nI (ndj st r2 i) from rfl) ?_
        refine z_aload_n C 0 rfl rfl dX5_read_36 37 rfl ?_
        refine z_get C zc5 iX5_read_X5 0 0 rfl rfl 0 (Nat.le_of_ble_eq_true rfl) (List.mem_of_getElem? (i := 3) rfl) (v := .ref (y 1)) rfl dX5_read_37 40 rfl ?_
        refine z_iconst C (v := nI 5) rfl dX5_read_40 41 rfl ?_
        refine z_iald C (f := all) 0 1 rfl rfl (by omega) (by decide) dX5_read_41 42 rfl ?_
        refine z_top (show nI (all 5) = nI (st 5) from by rw [hB.1 5 (by decide)]) ?_
        refine z_icmp_le C (by omega) (by omega) 48 dX5_read_42 (by decide) 45 rfl (fun c_5 => ?_) (fun c_5 => ?_)
        · skip
          refine z_iinc C hnL 1 rfl (v := (nI (i + 1))) (nI_1 _) [1, 0] [(0, .ref (y 0)), (1, .int (nI (i + 1)))] rfl (Nat.le_of_ble_eq_true rfl) dX5_read_48 51 rfl ?_
          refine z_goto C 14 dX5_read_51 (by decide) ?_
          exact ih14 _ (by omega) (i + 1) rfl (by omega) (fun j hj => by
      by_cases e : j = i
      · subst e; omega
      · exact hx j (by omega))
        · skip
          refine z_bipush C (v := (-5)) rfl dX5_read_45 47 rfl ?_
          exact z_iret C hRx dX5_read_47 ((-5), w, n2, r2, all, hist, hl, tl, sp2, tol2, n2) rfl (⟨hp, Or.inr (Or.inl ⟨hw6, Nat.lt_of_lt_of_le (by omega) (mND_ge (st := st) (r := r2) hin), rfl, rfl, rfl, rfl, rfl⟩)⟩) rfl
    exact loop14 _ 0 rfl (by omega) (fun j hj => by omega)
  · skip
    refine z_bipush C (v := (-3)) rfl dX5_read_9 11 rfl ?_
    exact z_iret C hRx dX5_read_11 ((-3), w, n2, r2, all, hist, hl, tl, sp2, tol2, rd2) rfl (⟨hp, Or.inl ⟨by assumption, rfl, rfl, rfl, rfl, rfl⟩⟩) rfl

/-! DB: one way to print there always is; two shops, in the second one all minutes twice as many. -/
theorem leastN {P : Nat → Prop} (h : ∃ m, P m) : ∃ m, P m ∧ ∀ x, x < m → ¬ P x := by
  obtain ⟨m, hm⟩ := h
  induction m using Nat.strongRecOn with
  | _ m ih =>
    by_cases q : ∃ x, x < m ∧ P x
    · obtain ⟨x, h1, h2⟩ := q
      exact ih x h1 h2
    · exact ⟨m, hm, fun x hx hp => q ⟨x, hx, hp⟩⟩
theorem bdN (f : Nat → Nat) : ∀ k, ∃ B, ∀ i, i < k → f i ≤ B
  | 0 => ⟨0, fun i hi => by omega⟩
  | k + 1 => by
    obtain ⟨B, hB⟩ := bdN f k
    refine ⟨max B (f k), fun i hi => ?_⟩
    by_cases e : i = k
    · subst e; exact Nat.le_max_right _ _
    · exact Nat.le_trans (hB i (by omega)) (Nat.le_max_left _ _)
theorem tkn_0 {st : Nat → Nat} {r : Nat → Nat → Nat} {p : Nat → Nat} {m : Nat} : ∀ {J : Nat}, (∀ i, i < J → p i + st 4 ≤ m) → tkn st r p J m = 0
  | 0, _ => rfl
  | J + 1, h => by
    have ih := tkn_0 (st := st) (r := r) (p := p) (m := m) (J := J) (fun i hi => h i (by omega))
    have hJ := h J (by omega)
    show tkn st r p J m + (if p J ≤ m ∧ m < p J + st 4 then ndj st r J else 0) = 0
    rw [ih, if_neg (by omega)]
theorem isP_ex {st : Nat → Nat} {r : Nat → Nat → Nat} {n R : Nat} (hR : okR st r n R) : ∀ k, k ≤ n → ∃ p, isP st r R p k
  | 0, _ => ⟨fun _ => 0, fun j hj => by omega⟩
  | k + 1, hk => by
    obtain ⟨p, hp⟩ := isP_ex hR k (by omega)
    obtain ⟨B, hB⟩ := bdN (fun i => p i + st 4) k
    obtain ⟨m, ⟨h1, h2⟩, h3⟩ := leastN (P := fun m => erl st r p k ≤ m ∧ tkn st r p k m + ndj st r k ≤ R) ⟨max (erl st r p k) B, Nat.le_max_left _ _, by
      rw [tkn_0 (fun i hi => Nat.le_trans (hB i hi) (Nat.le_max_right _ _)), Nat.zero_add]
      exact hR k (by omega)⟩
    have cg : ∀ i, i < k → p i = un p k m i := fun i hi => (un_n (by omega)).symm
    refine ⟨un p k m, fun j hj => ?_⟩
    by_cases e : j = k
    · subst e
      rw [← erl_cg cg, un_s, ← tkn_cg cg]
      refine ⟨h1, h2, fun x a b => ?_⟩
      rw [← tkn_cg cg]
      exact Nat.lt_of_not_le (fun z => h3 x b ⟨a, z⟩)
    · exact (isP_cg hp cg) j (by omega)
theorem PP_ok {st : Nat → Nat} {r : Nat → Nat → Nat} {n R : Nat} (hR : okR st r n R) : isP st r R (PP st r R n) n := by
  obtain ⟨p, hp⟩ := isP_ex hR n (Nat.le_refl n)
  exact PP_is hp
theorem isP_bd {st : Nat → Nat} {r : Nat → Nat → Nat} {n R : Nat} {p : Nat → Nat} (hS : okS st) (hJ : okJ r n) (hR : okR st r n R) (h : isP st r R p n) : ∀ j, j < n → p j ≤ 1200 * (j + 1) := by
  intro j
  induction j using Nat.strongRecOn with
  | _ j ih =>
    intro hj
    obtain ⟨h1, h2, h3⟩ := h j hj
    have a1 := rdy_le hS hJ hj
    have a2 := (run_le hS hJ hj).2
    have a3 : fre p j ≤ 1200 * j := by
      unfold fre
      by_cases q : j = 0
      · rw [if_pos q]; omega
      · rw [if_neg q]
        have := ih (j - 1) (by omega) (by omega)
        omega
    have a4 := hS.2.2.2.2.2.1
    have a5 : erl st r p j ≤ 1200 * j + 700 := by unfold erl; omega
    by_cases q : p j ≤ 1200 * (j + 1)
    · exact q
    · exfalso
      have h4 := h3 (1200 * j + 700) a5 (by omega)
      rw [tkn_0 (fun i hi => by have := ih i hi (by omega); omega)] at h4
      have := hR j hj
      omega
section DBs
variable {st st' : Nat → Nat} {r r' : Nat → Nat → Nat} {n R : Nat} {p : Nat → Nat}
/-- settings twice as many, in minutes -/
def dS (st st' : Nat → Nat) : Prop := (∀ k, k < 5 → st' k = 2 * st k) ∧ st' 5 = st 5 ∧ st' 6 = st 6
/-- jobs with due times twice as late -/
def dR (r r' : Nat → Nat → Nat) (n : Nat) : Prop := ∀ j, j < n → r' 0 j = r 0 j ∧ r' 1 j = r 1 j ∧ r' 2 j = r 2 j ∧ r' 3 j = 2 * r 3 j
theorem d_wsh {j : Nat} (hs : dS st st') (hr : dR r r' n) (hj : j < n) : wsh st' r' j = 2 * wsh st r j := by
  unfold wsh
  by_cases e : j = 0
  · rw [if_pos e, if_pos e]
  · obtain ⟨-, b1, -⟩ := hr j hj
    obtain ⟨-, c1, -⟩ := hr (j - 1) (by omega)
    rw [if_neg e, if_neg e, b1, c1, hs.1 1 (by decide), hs.1 2 (by decide)]
    by_cases q : r 1 j < r 1 (j - 1)
    · rw [if_pos q, if_pos q, Nat.mul_left_comm]
      omega
    · rw [if_neg q, if_neg q]
      by_cases q2 : r 1 (j - 1) < r 1 j
      · rw [if_pos q2, if_pos q2]
      · rw [if_neg q2, if_neg q2]
theorem d_same {j : Nat} (hr : dR r r' n) (hj : j < n) : (0 < j ∧ r' 0 (j - 1) = r' 0 j) ↔ (0 < j ∧ r 0 (j - 1) = r 0 j) := by
  by_cases z : 0 < j
  · rw [(hr j hj).1, (hr (j - 1) (by omega)).1]
  · exact ⟨fun h => absurd h.1 z, fun h => absurd h.1 z⟩
theorem d_plt {j : Nat} (hr : dR r r' n) (hj : j < n) : plt r' j = plt r j := by
  have e := d_same hr hj
  unfold plt
  by_cases q : 0 < j ∧ r 0 (j - 1) = r 0 j
  · rw [if_pos q, if_pos (e.mpr q)]
  · rw [if_neg q, if_neg (fun z => q (e.mp z))]
theorem d_rdy {j : Nat} (hs : dS st st') (hr : dR r r' n) (hj : j < n) : rdy st' r' j = 2 * rdy st r j := by
  have e := d_same hr hj
  unfold rdy
  rw [d_wsh hs hr hj, hs.1 0 (by decide)]
  by_cases q : 0 < j ∧ r 0 (j - 1) = r 0 j
  · rw [if_pos q, if_pos (e.mpr q)]
    omega
  · rw [if_neg q, if_neg (fun z => q (e.mp z))]
    omega
theorem d_ndj {j : Nat} (hs : dS st st') (hr : dR r r' n) (hj : j < n) : ndj st' r' j = ndj st r j := by
  unfold ndj
  rw [hs.2.2, (hr j hj).2.2.1]
theorem d_fre {j : Nat} : fre (fun i => 2 * p i) j = 2 * fre p j := by
  unfold fre
  by_cases e : j = 0
  · rw [if_pos e, if_pos e]
  · rw [if_neg e, if_neg e]
theorem d_erl {j : Nat} (hs : dS st st') (hr : dR r r' n) (hj : j < n) : erl st' r' (fun i => 2 * p i) j = 2 * erl st r p j := by
  unfold erl
  rw [d_fre, d_rdy hs hr hj, (hr j hj).2.2.1, hs.1 3 (by decide), Nat.mul_left_comm]
  omega
theorem d_tkn {J m b : Nat} (hs : dS st st') (hr : dR r r' n) (hb : b < 2) (hJ : J ≤ n) : tkn st' r' (fun i => 2 * p i) J (2 * m + b) = tkn st r p J m := by
  unfold tkn
  refine sm_cg J (fun i hi => ?_)
  show (if 2 * p i ≤ 2 * m + b ∧ 2 * m + b < 2 * p i + st' 4 then ndj st' r' i else 0) = (if p i ≤ m ∧ m < p i + st 4 then ndj st r i else 0)
  rw [d_ndj hs hr (by omega), hs.1 4 (by decide)]
  by_cases q : p i ≤ m ∧ m < p i + st 4
  · rw [if_pos (by omega), if_pos q]
  · rw [if_neg (by omega), if_neg q]
theorem d_isP (hs : dS st st') (hr : dR r r' n) (h : isP st r R p n) : isP st' r' R (fun i => 2 * p i) n := by
  intro j hj
  obtain ⟨h1, h2, h3⟩ := h j hj
  rw [d_erl hs hr hj]
  refine ⟨?_, ?_, fun m a b => ?_⟩
  · show 2 * erl st r p j ≤ 2 * p j
    omega
  · show tkn st' r' (fun i => 2 * p i) j (2 * p j + 0) + ndj st' r' j ≤ R
    rw [d_tkn hs hr (by decide) (Nat.le_of_lt hj), d_ndj hs hr hj]
    exact h2
  · have hb : m < 2 * p j := b
    rw [show m = 2 * (m / 2) + m % 2 by omega, d_tkn hs hr (Nat.mod_lt _ (by decide)) (Nat.le_of_lt hj), d_ndj hs hr hj]
    exact h3 (m / 2) (by omega) (by omega)
theorem d_okR (hs : dS st st') (hr : dR r r' n) (hR : okR st r n R) : okR st' r' n R := fun j hj => by
  rw [d_ndj hs hr hj]
  exact hR j hj
theorem d_PP (hs : dS st st') (hr : dR r r' n) (hR : okR st r n R) {j : Nat} (hj : j < n) : PP st' r' R n j = 2 * PP st r R n j := (PP_e (d_isP hs hr (PP_ok hR)) j hj).symm
theorem d_frePP (hs : dS st st') (hr : dR r r' n) (hR : okR st r n R) {j : Nat} (hj : j ≤ n) : fre (PP st' r' R n) j = 2 * fre (PP st r R n) j := by
  rw [fre_cg (p' := fun i => 2 * PP st r R n i) (fun i hi => d_PP hs hr hR (by omega)), d_fre]
theorem d_PW (hs : dS st st') (hr : dR r r' n) (hR : okR st r n R) {j : Nat} (hj : j < n) : PW st' r' R n j = 2 * PW st r R n j := by
  unfold PW
  rw [d_PP hs hr hR hj, erl_cg (p' := fun i => 2 * PP st r R n i) (fun i hi => d_PP hs hr hR (by omega)), d_erl hs hr hj]
  omega
theorem d_PB (hs : dS st st') (hr : dR r r' n) (hR : okR st r n R) {j : Nat} (hj : j < n) : PB st' r' R n j = 2 * PB st r R n j := by
  unfold PB
  rw [d_PW hs hr hR hj, d_frePP hs hr hR (Nat.le_of_lt hj)]
  omega
theorem d_PD (hs : dS st st') (hr : dR r r' n) (hR : okR st r n R) {j : Nat} (hj : j < n) : PD st' r' R n j = 2 * PD st r R n j := by
  unfold PD
  rw [d_PP hs hr hR hj, hs.1 4 (by decide)]
  omega
theorem d_PL (hs : dS st st') (hr : dR r r' n) (hR : okR st r n R) {j : Nat} (hj : j < n) : PL st' r' R n j = 2 * PL st r R n j := by
  unfold PL
  rw [d_PD hs hr hR hj, (hr j hj).2.2.2]
  omega
theorem d_PT (hs : dS st st') (hr : dR r r' n) (hR : okR st r n R) {j : Nat} (hj : j < n) : PT st' r' R n j = PT st r R n j := by
  unfold PT
  rw [d_PP hs hr hR hj, tkn_cg (p' := fun i => 2 * PP st r R n i) (fun i hi => d_PP hs hr hR (by omega))]
  exact d_tkn (b := 0) hs hr (by decide) (by omega)
theorem sm_dbl {f f' : Nat → Nat} : ∀ n, (∀ j, j < n → f' j = 2 * f j) → sm f' n = 2 * sm f n
  | 0, _ => rfl
  | n + 1, h => by
    rw [sm_s, sm_s, sm_dbl n (fun j hj => h j (by omega)), h n (by omega)]
    omega
theorem mx_dbl {f f' : Nat → Nat} : ∀ n, (∀ j, j < n → f' j = 2 * f j) → mx f' n = 2 * mx f n
  | 0, _ => rfl
  | n + 1, h => by
    rw [mx_s, mx_s, mx_dbl n (fun j hj => h j (by omega)), h n (by omega)]
    omega
theorem d_LSm (hs : dS st st') (hr : dR r r' n) (hR : okR st r n R) : LSm st' r' R n = 2 * LSm st r R n := sm_dbl n (fun _ hj => d_PL hs hr hR hj)
theorem d_frePD (hs : dS st st') (hr : dR r r' n) (hR : okR st r n R) : fre (PD st' r' R n) n = 2 * fre (PD st r R n) n := by
  rw [fre_cg (p' := fun i => 2 * PD st r R n i) (fun i hi => d_PD hs hr hR hi), d_fre]
theorem LSm_le (hS : okS st) (hJ : okJ r n) (hR : okR st r n R) (hn : n ≤ 12) : LSm st r R n ≤ 1000000 := by
  have h := sm_le (f := PL st r R n) (B := 20000) n (fun j hj => by
    have h1 := isP_bd hS hJ hR (PP_ok hR) j hj
    have h2 := hS.2.2.2.2.2.1
    unfold PL PD
    omega)
  unfold LSm
  omega
theorem mx_sat {f : Nat → Nat} {B n : Nat} (h : ∀ j, j < n → f j ≤ B) : mx f n ≤ B := mx_le n h
/-- told of a job -/
def jMin (k : Nat) : Bool := decide (k = 3 ∨ 4 < k)
theorem d_JO (hs : dS st st') (hr : dR r r' n) (hR : okR st r n (st 5)) {j k : Nat} (hj : j < n) (hk : k ≤ 11) : JO st' r' n j k = if jMin k = true then 2 * JO st r n j k else JO st r n j k := by
  have hq := hr j hj
  have e5 := hs.2.1
  rcases (show k = 0 ∨ k = 1 ∨ k = 2 ∨ k = 3 ∨ k = 4 ∨ k = 5 ∨ k = 6 ∨ k = 7 ∨ k = 8 ∨ k = 9 ∨ k = 10 ∨ k = 11 by omega) with rfl | rfl | rfl | rfl | rfl | rfl | rfl | rfl | rfl | rfl | rfl | rfl
  · exact hq.1
  · exact hq.2.1
  · exact hq.2.2.1
  · exact hq.2.2.2
  · exact d_ndj hs hr hj
  · show PB st' r' (st' 5) n j = 2 * PB st r (st 5) n j
    rw [e5]; exact d_PB hs hr hR hj
  · show PP st' r' (st' 5) n j = 2 * PP st r (st 5) n j
    rw [e5]; exact d_PP hs hr hR hj
  · show PD st' r' (st' 5) n j = 2 * PD st r (st 5) n j
    rw [e5]; exact d_PD hs hr hR hj
  · show PL st' r' (st' 5) n j = 2 * PL st r (st 5) n j
    rw [e5]; exact d_PL hs hr hR hj
  · show PW st' r' (st' 5) n j = 2 * PW st r (st 5) n j
    rw [e5]; exact d_PW hs hr hR hj
  · exact d_rdy hs hr hj
  · exact d_wsh hs hr hj
/-- told of the whole -/
def cMin (k : Nat) : Bool := decide (k < 5 ∨ k = 9 ∨ k = 10 ∨ k = 12 ∨ k = 13 ∨ k = 14 ∨ k = 16)
theorem d_CN (hs : dS st st') (hr : dR r r' n) (hR : okR st r n (st 5)) {len len' kp kp' k : Nat} (hk : k < 18) : CN st' r' n len' kp' k = if cMin k = true then 2 * CN st r n len kp k else CN st r n len kp k := by
  have e5 := hs.2.1
  rcases (show k = 0 ∨ k = 1 ∨ k = 2 ∨ k = 3 ∨ k = 4 ∨ k = 5 ∨ k = 6 ∨ k = 7 ∨ k = 8 ∨ k = 9 ∨ k = 10 ∨ k = 11 ∨ k = 12 ∨ k = 13 ∨ k = 14 ∨ k = 15 ∨ k = 16 ∨ k = 17 by omega) with rfl | rfl | rfl | rfl | rfl | rfl | rfl | rfl | rfl | rfl | rfl | rfl | rfl | rfl | rfl | rfl | rfl | rfl
  · exact hs.1 0 (by decide)
  · exact hs.1 1 (by decide)
  · exact hs.1 2 (by decide)
  · exact hs.1 3 (by decide)
  · exact hs.1 4 (by decide)
  · exact hs.2.1
  · exact hs.2.2
  · rfl
  · exact sm_cg n (fun j hj => (hr j hj).2.2.1)
  · show fre (PP st' r' (st' 5) n) n = 2 * fre (PP st r (st 5) n) n
    rw [e5]; exact d_frePP hs hr hR (Nat.le_refl n)
  · show fre (PD st' r' (st' 5) n) n = 2 * fre (PD st r (st 5) n) n
    rw [e5]; exact d_frePD hs hr hR
  · show ct (fun i => decide (0 < PL st' r' (st' 5) n i)) n = ct (fun i => decide (0 < PL st r (st 5) n i)) n
    rw [e5]
    exact ct_cg n (fun j hj => decide_eq_decide.mpr (by rw [d_PL hs hr hR hj]; omega))
  · show LSm st' r' (st' 5) n = 2 * LSm st r (st 5) n
    rw [e5]; exact d_LSm hs hr hR
  · show mx (PL st' r' (st' 5) n) n = 2 * mx (PL st r (st 5) n) n
    rw [e5]; exact mx_dbl n (fun j hj => d_PL hs hr hR hj)
  · exact sm_dbl n (fun j hj => d_wsh hs hr hj)
  · exact sm_cg n (fun j hj => d_plt hr hj)
  · show sm (PW st' r' (st' 5) n) n = 2 * sm (PW st r (st 5) n) n
    rw [e5]; exact sm_dbl n (fun j hj => d_PW hs hr hR hj)
  · show mx (PT st' r' (st' 5) n) n = mx (PT st r (st 5) n) n
    rw [e5]; exact mx_cg n (fun j hj => d_PT hs hr hR hj)
theorem jop_dbl {a4 a5 b4 b5 : Nat → Nat} {m : Nat} : ∀ (d i : Nat), (∀ j, i ≤ j → j < i + d → b4 j = 2 * a4 j ∧ b5 j = 2 * a5 j) → jop b4 b5 (2 * m) i d = jop a4 a5 m i d
  | 0, _, _ => rfl
  | d + 1, i, h => by
    show (if b4 i ≤ 2 * m ∧ 2 * m < b5 i then nI i else jop b4 b5 (2 * m) (i + 1) d) = (if a4 i ≤ m ∧ m < a5 i then nI i else jop a4 a5 m (i + 1) d)
    obtain ⟨h1, h2⟩ := h i (Nat.le_refl i) (by omega)
    rw [h1, h2, jop_dbl d (i + 1) (fun j a b => h j (by omega) (by omega))]
    by_cases q : a4 i ≤ m ∧ m < a5 i
    · rw [if_pos q, if_pos (by omega)]
    · rw [if_neg q, if_neg (by omega)]
theorem d_AT (hs : dS st st') (hr : dR r r' n) (hR : okR st r n (st 5)) {m b k : Nat} (hb : b < 2) (hk : k ≤ 3) (hkb : k = 0 → b = 0) : AT st' r' n (2 * m + b) k = AT st r n m k := by
  have e5 := hs.2.1
  rcases (show k = 0 ∨ k = 1 ∨ k = 2 ∨ k = 3 by omega) with rfl | rfl | rfl | rfl
  · obtain rfl := hkb rfl
    show jop (PB st' r' (st' 5) n) (PP st' r' (st' 5) n) (2 * m) 0 n = jop (PB st r (st 5) n) (PP st r (st 5) n) m 0 n
    rw [e5]
    exact jop_dbl n 0 (fun j _ hj => ⟨d_PB hs hr hR (by omega), d_PP hs hr hR (by omega)⟩)
  · show nI (tkn st' r' (PP st' r' (st' 5) n) n (2 * m + b)) = nI (tkn st r (PP st r (st 5) n) n m)
    rw [e5, tkn_cg (p' := fun i => 2 * PP st r (st 5) n i) (fun i hi => d_PP hs hr hR hi), d_tkn hs hr hb (Nat.le_refl n)]
  · show nI (ct (fun i => decide (PP st' r' (st' 5) n i ≤ 2 * m + b)) n) = nI (ct (fun i => decide (PP st r (st 5) n i ≤ m)) n)
    rw [e5, ct_cg (q := fun i => decide (PP st r (st 5) n i ≤ m)) n (fun j hj => decide_eq_decide.mpr (by rw [d_PP hs hr hR hj]; omega))]
  · show nI (ct (fun i => decide (PD st' r' (st' 5) n i ≤ 2 * m + b)) n) = nI (ct (fun i => decide (PD st r (st 5) n i ≤ m)) n)
    rw [e5, ct_cg (q := fun i => decide (PD st r (st 5) n i ≤ m)) n (fun j hj => decide_eq_decide.mpr (by rw [d_PD hs hr hR hj]; omega))]
theorem dR_pm {r2 r2' : Nat → Nat → Nat} (pm : Nat → Nat) (hp : ∀ j, j < n → pm j < n) (e : ∀ k j, r2 k j = r k (pm j)) (e' : ∀ k j, r2' k j = r' k (pm j)) (h : dR r r' n) : dR r2 r2' n := by
  intro j hj
  rw [e 0 j, e 1 j, e 2 j, e 3 j, e' 0 j, e' 1 j, e' 2 j, e' 3 j]
  exact h _ (hp j hj)
theorem dR_swp {f t : Nat} (hf : f < n) (ht : t < n) (h : dR r r' n) : dR (fun k => swp (r k) f t) (fun k => swp (r' k) f t) n :=
  dR_pm (fun y => if y = t then f else if y = f then t else y) (fun j hj => by show (if j = t then f else if j = f then t else j) < n; (repeat' split) <;> omega) (fun k j => swp_at) (fun k j => swp_at) h
theorem dR_shf {f t : Nat} (hf : f < n) (ht : t < n) (h : dR r r' n) : dR (fun k => shf (r k) f t) (fun k => shf (r' k) f t) n :=
  dR_pm (fun y => if y = t then f else if f ≤ y ∧ y < t then y + 1 else if t < y ∧ y ≤ f then y - 1 else y) (fun j hj => by show (if j = t then f else if f ≤ j ∧ j < t then j + 1 else if t < j ∧ j ≤ f then j - 1 else j) < n; (repeat' split) <;> omega) (fun k j => shf_at) (fun k j => shf_at) h
theorem d_plc {f i : Nat} (hf : f < 4) (hr : dR r r' n) (hi : i < n) : plc (r' f) n i = plc (r f) n i := by
  unfold plc
  refine ct_cg n (fun o ho => decide_eq_decide.mpr ?_)
  have a := hr o ho
  have b := hr i hi
  rcases (show f = 0 ∨ f = 1 ∨ f = 2 ∨ f = 3 by omega) with rfl | rfl | rfl | rfl <;> omega
theorem dR_oR {f : Nat} (hf : f < 4) (hr : dR r r' n) : dR (oR r f n) (oR r' f n) n := by
  intro j hj
  obtain ⟨i, hi, rfl⟩ := plc_sur (h := r f) hj
  have e : ∀ k, oR r' f n k (plc (r f) n i) = r' k i := fun k => by rw [← d_plc hf hr hi]; exact oR_at hi
  rw [e, e, e, e, oR_at hi, oR_at hi, oR_at hi, oR_at hi]
  exact hr i hi
theorem d_IO (hs : dS st st') (hr : dR r r' n) (hR : okR st r n (st 5)) {f k : Nat} (hf : f < 4) (hk : k ≤ 3) : IO st' (oR r' f n) n k = if k < 3 then 2 * IO st (oR r f n) n k else IO st (oR r f n) n k := by
  have e5 := hs.2.1
  have hr2 := dR_oR hf hr
  have hR2 : okR st (oR r f n) n (st 5) := okR_oR hR
  rcases (show k = 0 ∨ k = 1 ∨ k = 2 ∨ k = 3 by omega) with rfl | rfl | rfl | rfl
  · show fre (PD st' (oR r' f n) (st' 5) n) n = 2 * fre (PD st (oR r f n) (st 5) n) n
    rw [e5]; exact d_frePD hs hr2 hR2
  · show LSm st' (oR r' f n) (st' 5) n = 2 * LSm st (oR r f n) (st 5) n
    rw [e5]; exact d_LSm hs hr2 hR2
  · exact sm_dbl n (fun j hj => d_wsh hs hr2 hj)
  · exact sm_cg n (fun j hj => d_plt hr2 hj)
theorem d_mND (hs : dS st st') (hr : dR r r' n) : mND st' r' n = mND st r n := mx_cg n (fun _ hj => d_ndj hs hr hj)
theorem d_lrF (hs : dS st st') (hr : dR r r' n) : ∀ d x, lrF st' r' n x d = lrF st r n x d
  | 0, _ => rfl
  | d + 1, x => by
    show (if mND st' r' n ≤ x ∧ sm (PW st' r' x n) n = 0 then nI x else lrF st' r' n (x + 1) d) = (if mND st r n ≤ x ∧ sm (PW st r x n) n = 0 then nI x else lrF st r n (x + 1) d)
    rw [d_mND hs hr, d_lrF hs hr d (x + 1)]
    by_cases q : mND st r n ≤ x
    · have hR : okR st r n x := fun j hj => Nat.le_trans (mND_ge hj) q
      have e := sm_dbl (f := PW st r x n) (f' := PW st' r' x n) n (fun j hj => d_PW hs hr hR hj)
      rw [e]
      by_cases q2 : sm (PW st r x n) n = 0
      · rw [if_pos (show mND st r n ≤ x ∧ 2 * sm (PW st r x n) n = 0 from ⟨q, by omega⟩), if_pos ⟨q, q2⟩]
      · rw [if_neg (show ¬ (mND st r n ≤ x ∧ 2 * sm (PW st r x n) n = 0) from fun z => q2 (by have := z.2; omega)), if_neg (fun z => q2 z.2)]
    · rw [if_neg (fun z => q z.1), if_neg (fun z => q z.1)]
/-- a sum and two jobs, in both shops -/
def dBE (s s' : Nat × Int32 × Int32) : Prop := s'.1 = 2 * s.1 ∧ s'.2 = s.2
theorem d_beS (hs : dS st st') (hr : dR r r' n) (hR : okR st r n (st 5)) {i j : Nat} (hi : i < n) (hj : j < n) {s s' : Nat × Int32 × Int32} (h : dBE s s') : dBE (beS st r n i j s) (beS st' r' n i j s') := by
  have e := d_LSm hs (dR_swp hi hj hr) (okR_swp hi hj hR)
  unfold beS
  rw [hs.2.1, e, h.1]
  by_cases q : LSm st (fun k => swp (r k) i j) (st 5) n < s.1
  · rw [if_pos q, if_pos (by omega)]
    exact ⟨rfl, rfl⟩
  · rw [if_neg q, if_neg (by omega)]
    exact h
theorem d_beI (hs : dS st st') (hr : dR r r' n) (hR : okR st r n (st 5)) {i : Nat} {s s' : Nat × Int32 × Int32} (h : dBE s s') : ∀ d, i + d < n → dBE (beI st r n i s d) (beI st' r' n i s' d)
  | 0, _ => h
  | d + 1, hd => d_beS hs hr hR (by omega) (by omega) (d_beI hs hr hR h d (by omega))
theorem d_beO (hs : dS st st') (hr : dR r r' n) (hR : okR st r n (st 5)) : ∀ i, i ≤ n → dBE (beO st r n i) (beO st' r' n i)
  | 0, _ => ⟨by show LSm st' r' (st' 5) n = 2 * LSm st r (st 5) n; rw [hs.2.1]; exact d_LSm hs hr hR, rfl⟩
  | i + 1, hi => d_beI hs hr hR (d_beO hs hr hR i (by omega)) (n - (i + 1)) (by omega)
theorem d_BE (hs : dS st st') (hr : dR r r' n) (hR : okR st r n (st 5)) {k : Nat} (hk : k < 2) : BE st' r' n k = BE st r n k := by
  have h := (d_beO hs hr hR n (Nat.le_refl n)).2
  unfold BE
  rw [h]
  rcases (show k = 0 ∨ k = 1 by omega) with rfl | rfl <;> rfl
theorem beS_le (hS : okS st) (hJ : okJ r n) (hR : okR st r n (st 5)) (hn : n ≤ 12) {i j : Nat} (hi : i < n) (hj : j < n) {s : Nat × Int32 × Int32} (h : s.1 ≤ 1000000) : (beS st r n i j s).1 ≤ 1000000 := by
  unfold beS
  split
  · exact LSm_le hS (okJ_swp hi hj hJ) (okR_swp hi hj hR) hn
  · exact h
theorem beI_le (hS : okS st) (hJ : okJ r n) (hR : okR st r n (st 5)) (hn : n ≤ 12) {i : Nat} {s : Nat × Int32 × Int32} (h : s.1 ≤ 1000000) : ∀ d, i + d < n → (beI st r n i s d).1 ≤ 1000000
  | 0, _ => h
  | d + 1, hd => beS_le hS hJ hR hn (by omega) (by omega) (beI_le hS hJ hR hn h d (by omega))
theorem beO_le (hS : okS st) (hJ : okJ r n) (hR : okR st r n (st 5)) (hn : n ≤ 12) : ∀ i, i ≤ n → (beO st r n i).1 ≤ 1000000
  | 0, _ => LSm_le hS hJ hR hn
  | i + 1, hi => beI_le hS hJ hR hn (beO_le hS hJ hR hn i (by omega)) (n - (i + 1)) (by omega)
theorem d_bfO (hs : dS st st') (hr : dR r r' n) (hR : okR st r n (st 5)) : ∀ j, j ≤ n → (bfO st' r' n j).1 = (bfO st r n j).1 ∧ (bfO st' r' n j).2 = 2 * (bfO st r n j).2
  | 0, _ => ⟨rfl, rfl⟩
  | j + 1, hj => by
    obtain ⟨a, b⟩ := d_bfO hs hr hR j (by omega)
    have e := d_LSm hs (dR_shf (f := j) (t := 0) (by omega) (by omega) hr) (okR_shf (by omega) (by omega) hR)
    show ((if (bfO st' r' n j).1 = (-6) ∨ LSm st' (fun k => shf (r' k) j 0) (st' 5) n < (bfO st' r' n j).2 then (nI j, LSm st' (fun k => shf (r' k) j 0) (st' 5) n) else bfO st' r' n j) : Int32 × Nat).1 = ((if (bfO st r n j).1 = (-6) ∨ LSm st (fun k => shf (r k) j 0) (st 5) n < (bfO st r n j).2 then (nI j, LSm st (fun k => shf (r k) j 0) (st 5) n) else bfO st r n j) : Int32 × Nat).1 ∧ ((if (bfO st' r' n j).1 = (-6) ∨ LSm st' (fun k => shf (r' k) j 0) (st' 5) n < (bfO st' r' n j).2 then (nI j, LSm st' (fun k => shf (r' k) j 0) (st' 5) n) else bfO st' r' n j) : Int32 × Nat).2 = 2 * ((if (bfO st r n j).1 = (-6) ∨ LSm st (fun k => shf (r k) j 0) (st 5) n < (bfO st r n j).2 then (nI j, LSm st (fun k => shf (r k) j 0) (st 5) n) else bfO st r n j) : Int32 × Nat).2
    rw [hs.2.1, e, a, b]
    by_cases q : (bfO st r n j).1 = (-6) ∨ LSm st (fun k => shf (r k) j 0) (st 5) n < (bfO st r n j).2
    · have q' : (bfO st r n j).1 = (-6) ∨ 2 * LSm st (fun k => shf (r k) j 0) (st 5) n < 2 * (bfO st r n j).2 := q.imp_right (fun z => by omega)
      rw [if_pos q', if_pos q]
      exact ⟨rfl, rfl⟩
    · have q' : ¬ ((bfO st r n j).1 = (-6) ∨ 2 * LSm st (fun k => shf (r k) j 0) (st 5) n < 2 * (bfO st r n j).2) := fun z => q (z.imp_right (fun z => by omega))
      rw [if_neg q', if_neg q]
      exact ⟨a, b⟩
end DBs
/-! WE: what a printed board keeps. -/
section WEs
variable {st : Nat → Nat} {r : Nat → Nat → Nat} {n R : Nat} {p : Nat → Nat}
theorem isP_lt (hS : okS st) (hJ : okJ r n) (h : isP st r R p n) {i j : Nat} (hij : i < j) (hj : j < n) : p i < p j := by
  have h1 := isP_fre h hij (Nat.le_of_lt hj)
  have h2 := (h j hj).1
  have h3 := (run_le hS hJ hj).1
  unfold erl at h2
  omega
theorem tkn_cut {J m : Nat} : ∀ {n : Nat}, J ≤ n → (∀ i, J ≤ i → i < n → m < p i) → tkn st r p n m = tkn st r p J m
  | 0, hJ, _ => by
    obtain rfl : J = 0 := by omega
    rfl
  | n + 1, hJ, h => by
    by_cases e : J = n + 1
    · subst e; rfl
    · have ih := tkn_cut (n := n) (by omega) (fun i a b => h i a (by omega))
      have hn := h n (by omega) (by omega)
      show tkn st r p n m + (if p n ≤ m ∧ m < p n + st 4 then ndj st r n else 0) = _
      rw [ih, if_neg (by omega), Nat.add_zero]
theorem jop_at {a4 a5 : Nat → Nat} {m j : Nat} (hj : a4 j ≤ m ∧ m < a5 j) : ∀ (d i : Nat), i ≤ j → j < i + d → (∀ k, i ≤ k → k < j → ¬ (a4 k ≤ m ∧ m < a5 k)) → jop a4 a5 m i d = nI j
  | 0, _, _, _, _ => by omega
  | d + 1, i, h1, h2, h => by
    show (if a4 i ≤ m ∧ m < a5 i then nI i else jop a4 a5 m (i + 1) d) = nI j
    by_cases e : i = j
    · subst e; rw [if_pos hj]
    · rw [if_neg (h i (Nat.le_refl i) (by omega)), jop_at hj d (i + 1) (by omega) (by omega) (fun k a b => h k (by omega) b)]
theorem jop_no {a4 a5 : Nat → Nat} {m : Nat} : ∀ (d i : Nat), (∀ k, i ≤ k → k < i + d → ¬ (a4 k ≤ m ∧ m < a5 k)) → jop a4 a5 m i d = (-6)
  | 0, _, _ => rfl
  | d + 1, i, h => by
    show (if a4 i ≤ m ∧ m < a5 i then nI i else jop a4 a5 m (i + 1) d) = (-6)
    rw [if_neg (h i (Nat.le_refl i) (by omega)), jop_no d (i + 1) (fun k a b => h k (by omega) (by omega))]
theorem ct_pre {q : Nat → Bool} {J : Nat} : ∀ n, J ≤ n → (∀ i, i < J → q i = true) → (∀ i, J ≤ i → i < n → q i = false) → ct q n = J
  | 0, hJ, _, _ => by
    show 0 = J
    omega
  | n + 1, hJ, h1, h2 => by
    by_cases e : J = n + 1
    · subst e
      rw [ct_s (h1 n (by omega)), ct_pre n (Nat.le_refl n) (fun i hi => h1 i (by omega)) (fun i a b => by omega)]
    · rw [ct_f (h2 n (by omega) (by omega)), ct_pre n (by omega) h1 (fun i a b => h2 i a (by omega))]
/-- what holds of the job j of a printed board -/
theorem WJ (hS : okS st) (hJ : okJ r n) (hR : okR st r n R) {j : Nat} (hj : j < n) : PB st r R n j = fre (PP st r R n) j + PW st r R n j ∧ PP st r R n j = PB st r R n j + rdy st r j + st 3 * r 2 j ∧ PB st r R n j < PP st r R n j ∧ PD st r R n j = PP st r R n j + st 4 ∧ PP st r R n j ≤ 1200 * (j + 1) ∧ r 3 j ≤ 3000 ∧ PT st r R n j ≤ R := by
  have hP := PP_ok hR
  have h1 := hP j hj
  have h2 := (run_le hS hJ hj).1
  have e1 : PB st r R n j = fre (PP st r R n) j + PW st r R n j := rfl
  have e2 : PW st r R n j = PP st r R n j - erl st r (PP st r R n) j := rfl
  have e3 : erl st r (PP st r R n) j = fre (PP st r R n) j + rdy st r j + r 2 j * st 3 := rfl
  have e4 := Nat.mul_comm (st 3) (r 2 j)
  refine ⟨e1, by omega, by omega, rfl, isP_bd hS hJ hR hP j hj, (hJ j hj).2.2.2.2, ?_⟩
  show tkn st r (PP st r R n) j (PP st r R n j) + (if PP st r R n j ≤ PP st r R n j ∧ PP st r R n j < PP st r R n j + st 4 then ndj st r j else 0) ≤ R
  split <;> omega
theorem W_lt (hS : okS st) (hJ : okJ r n) (hR : okR st r n R) {i j : Nat} (hij : i < j) (hj : j < n) : PP st r R n i < PP st r R n j ∧ PP st r R n i ≤ PB st r R n j := by
  have hP := PP_ok hR
  have h1 := isP_fre hP hij (Nat.le_of_lt hj)
  exact ⟨isP_lt hS hJ hP hij hj, Nat.le_trans h1 (Nat.le_add_right _ _)⟩
theorem W_at1 (hS : okS st) (hJ : okJ r n) (hR : okR st r n (st 5)) {j : Nat} (hj : j < n) : AT st r n (PP st r (st 5) n j) 1 = nI (PT st r (st 5) n j) := by
  show nI (tkn st r (PP st r (st 5) n) n (PP st r (st 5) n j)) = nI (tkn st r (PP st r (st 5) n) (j + 1) (PP st r (st 5) n j))
  rw [tkn_cut (J := j + 1) (by omega) (fun i a b => (W_lt hS hJ hR (by omega) b).1)]
theorem W_on (hS : okS st) (hJ : okJ r n) (hR : okR st r n (st 5)) {j m : Nat} (hj : j < n) (h1 : PB st r (st 5) n j ≤ m) (h2 : m < PP st r (st 5) n j) : AT st r n m 0 = nI j :=
  jop_at ⟨h1, h2⟩ n 0 (Nat.zero_le _) (by omega) (fun k _ hk z => by have := (W_lt hS hJ hR hk hj).2; omega)
theorem W_at2 (hS : okS st) (hJ : okJ r n) (hR : okR st r n (st 5)) {j : Nat} (hj : j < n) : AT st r n (PP st r (st 5) n j) 2 = nI (j + 1) := by
  show nI (ct (fun i => decide (PP st r (st 5) n i ≤ PP st r (st 5) n j)) n) = nI (j + 1)
  rw [ct_pre n (J := j + 1) (by omega) (fun i hi => decide_eq_true (by
    by_cases e : i = j
    · subst e; exact Nat.le_refl _
    · exact Nat.le_of_lt (W_lt hS hJ hR (by omega) hj).1)) (fun i a b => decide_eq_false (by have := (W_lt hS hJ hR (show j < i by omega) b).1; omega))]
theorem tkn_le {J m : Nat} (hS : okS st) (hJ : okJ r n) (hJn : J ≤ n) : tkn st r p J m ≤ J * 20 := sm_le J (fun i hi => by
  have := ndj_le hS hJ (show i < n by omega)
  show (if p i ≤ m ∧ m < p i + st 4 then ndj st r i else 0) ≤ 20
  split <;> omega)
/-- a job that waits could not be printed a minute earlier -/
theorem W_wait (hS : okS st) (hJ : okJ r n) (hR : okR st r n (st 5)) (hn : n ≤ 12) {j : Nat} (hj : j < n) (hw : 0 < PW st r (st 5) n j) : ∃ t, t ≤ 240 ∧ AT st r n (PP st r (st 5) n j - 1) 1 = nI t ∧ st 5 < t + ndj st r j := by
  have hP := PP_ok hR
  have e2 : PW st r (st 5) n j = PP st r (st 5) n j - erl st r (PP st r (st 5) n) j := rfl
  refine ⟨tkn st r (PP st r (st 5) n) j (PP st r (st 5) n j - 1), ?_, ?_, (hP j hj).2.2 _ (by omega) (by omega)⟩
  · have := tkn_le (p := PP st r (st 5) n) (m := PP st r (st 5) n j - 1) hS hJ (Nat.le_of_lt hj)
    omega
  · show nI (tkn st r (PP st r (st 5) n) n (PP st r (st 5) n j - 1)) = _
    rw [tkn_cut (J := j) (Nat.le_of_lt hj) (fun i a b => by
      by_cases e : i = j
      · subst e; omega
      · have := (W_lt hS hJ hR (show j < i by omega) b).1; omega)]
theorem W_idle (hS : okS st) (hJ : okJ r n) (hR : okR st r n (st 5)) {j : Nat} (hj : j < n) (hw : 0 < PW st r (st 5) n j) : AT st r n (PB st r (st 5) n j - 1) 0 = (-6) := by
  have e1 : PB st r (st 5) n j = fre (PP st r (st 5) n) j + PW st r (st 5) n j := rfl
  have h3 := (WJ hS hJ hR hj).2.2.1
  refine jop_no n 0 (fun k _ hk z => ?_)
  rcases Nat.lt_trichotomy k j with q | q | q
  · have := isP_fre (PP_ok hR) q (Nat.le_of_lt hj)
    omega
  · subst q; omega
  · have := (W_lt hS hJ hR q (by omega)).2
    omega
theorem W_fre {f : Nat → Nat} {j : Nat} : fre f (j + 1) = f j := by
  unfold fre
  rw [if_neg (by omega)]
  rfl
theorem W_end (hS : okS st) (hJ : okJ r n) (hR : okR st r n (st 5)) {i : Nat} (hi : i < n) : PD st r (st 5) n i ≤ fre (PD st r (st 5) n) n := by
  obtain ⟨m, rfl⟩ : ∃ m, n = m + 1 := ⟨n - 1, by omega⟩
  rw [W_fre]
  show PP st r (st 5) (m + 1) i + st 4 ≤ PP st r (st 5) (m + 1) m + st 4
  have := isP_mono (PP_ok hR) (show i ≤ m by omega) (Nat.lt_succ_self m)
  omega
theorem W_end3 (hS : okS st) (hJ : okJ r n) (hR : okR st r n (st 5)) : AT st r n (fre (PD st r (st 5) n) n) 3 = nI n := by
  show nI (ct (fun i => decide (PD st r (st 5) n i ≤ fre (PD st r (st 5) n) n)) n) = nI n
  rw [ct_pre n (J := n) (Nat.le_refl n) (fun i hi => decide_eq_true (W_end hS hJ hR hi)) (fun i a b => by omega)]
theorem W_end1 (hS : okS st) (hJ : okJ r n) (hR : okR st r n (st 5)) : AT st r n (fre (PD st r (st 5) n) n) 1 = nI 0 := by
  show nI (tkn st r (PP st r (st 5) n) n (fre (PD st r (st 5) n) n)) = nI 0
  rw [tkn_0 (fun i hi => W_end hS hJ hR hi)]
theorem W_endle (hS : okS st) (hJ : okJ r n) (hR : okR st r n (st 5)) (hn : n ≤ 12) : fre (PD st r (st 5) n) n ≤ 15000 := by
  unfold fre
  split
  · omega
  · have h1 := isP_bd hS hJ hR (PP_ok hR) (n - 1) (by omega)
    have h2 := hS.2.2.2.2.2.1
    show PP st r (st 5) n (n - 1) + st 4 ≤ 15000
    omega
theorem lrF_le {x0 : Nat} (h1 : mND st r n ≤ x0) (h2 : sm (PW st r x0 n) n = 0) : ∀ d x, x ≤ x0 → x0 < x + d → ∃ y, y ≤ x0 ∧ lrF st r n x d = nI y
  | 0, x, _, _ => by omega
  | d + 1, x, hx, hd => by
    show ∃ y, y ≤ x0 ∧ (if mND st r n ≤ x ∧ sm (PW st r x n) n = 0 then nI x else lrF st r n (x + 1) d) = nI y
    by_cases q : mND st r n ≤ x ∧ sm (PW st r x n) n = 0
    · exact ⟨x, hx, by rw [if_pos q]⟩
    · have : x ≠ x0 := fun e => q (by rw [e]; exact ⟨h1, h2⟩)
      obtain ⟨y, a, b⟩ := lrF_le h1 h2 d (x + 1) (by omega) (by omega)
      exact ⟨y, a, by rw [if_neg q]; exact b⟩
theorem W_least (hS : okS st) (hR : okR st r n (st 5)) (h : sm (PW st r (st 5) n) n = 0) : ∃ y, y ≤ st 5 ∧ lrF st r n 4 17 = nI y := by
  obtain ⟨-, -, -, -, -, -, a, b, -⟩ := hS
  exact lrF_le (mx_le n hR) h 17 4 a (by omega)
end WEs
/-! OD: an order. -/
theorem ct_1ex {q : Nat → Bool} : ∀ n, ct q n = 1 → ∃ y, y < n ∧ q y = true ∧ ∀ z, z < n → z ≠ y → q z = false
  | 0, h => by
    have : (0 : Nat) = 1 := h
    omega
  | n + 1, h => by
    by_cases e : q n = true
    · rw [ct_s e] at h
      refine ⟨n, by omega, e, fun z hz hne => ?_⟩
      have h0 : ct q n = 0 := by omega
      by_cases b : q z = true
      · exfalso
        have := ct_strict (p := fun _ => false) (q := q) (i := z) n (by omega) (fun j _ hj => Bool.noConfusion hj) rfl b
        omega
      · exact eq_false_of_ne_true b
    · have e2 := eq_false_of_ne_true e
      rw [ct_f e2] at h
      obtain ⟨y, h1, h2, h3⟩ := ct_1ex n h
      refine ⟨y, by omega, h2, fun z hz hne => ?_⟩
      by_cases b : z = n
      · subst b; exact e2
      · exact h3 z (by omega) hne
theorem od_ne1 (h : Nat → Nat) (n : Nat) : ct (fun y => decide (plc h n y ≠ y)) n ≠ 1 := by
  intro e
  obtain ⟨y, h1, h2, h3⟩ := ct_1ex n e
  have h2 : plc h n y ≠ y := of_decide_eq_true h2
  have h4 := plc_lt (h := h) h1
  have h5 := h3 (plc h n y) h4 h2
  have h6 : plc h n (plc h n y) = plc h n y := Decidable.of_not_not (of_decide_eq_false h5)
  exact h2 (plc_inj h4 h1 h6)
theorem od_up {r : Nat → Nat → Nat} {f n a b : Nat} (hab : a < b) (hb : b < n) : oR r f n f a ≤ oR r f n f b := by
  obtain ⟨i, hi, rfl⟩ := plc_sur (h := r f) (show a < n by omega)
  obtain ⟨j, hj, rfl⟩ := plc_sur (h := r f) hb
  rw [oR_at hi, oR_at hj]
  by_cases q : r f i ≤ r f j
  · exact q
  · exfalso
    have := plc_mono (h := r f) hj (Or.inl (show r f j < r f i by omega))
    omega

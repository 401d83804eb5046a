/-! OO: an object as one chunk; a contract seen from the whole object; two objects side by side. -/
abbrev oA : Type := (Nat → Nat) × (Nat → Nat) × (Nat → Nat) × (Nat → Nat) × (Nat → Nat) × (Nat → Nat) × (Nat → Nat → Nat) × (Nat → Nat → Nat)
abbrev oS : Type := (Nat → Nat) × (Nat → Nat → Nat) × Nat × (Nat → Bool) × (Nat → Nat → Nat) × (Nat → Nat → Nat → Nat) × (Nat → Nat) × Nat × Nat × (Nat → Nat → Nat) × (Nat → Nat → Nat → Nat) × (Nat → Nat) × (Nat → Nat) × Nat
abbrev oJ : Type := (Nat → Nat) × (Nat → Nat → Nat) × Nat × (Nat → Nat) × (Nat → Nat) × (Nat → Nat) × (Nat → Nat) × (Nat → Nat) × (Nat → Nat) × (Nat → Nat) × (Nat → Nat) × Nat × Nat × Nat × Nat × Nat × Nat × Nat × Nat × Nat × Nat × Nat × Int32 × Int32 × Int32 × Int32 × (Nat → Nat) × (Nat → Nat → Nat) × Nat
/-- the board -/
def sSt (S : oS) : Nat → Nat := S.1
def sR (S : oS) : Nat → Nat → Nat := S.2.1
def sN (S : oS) : Nat := S.2.2.1
/-- the slots -/
def sV (S : oS) : Nat → Bool := S.2.2.2.1
def sSs (S : oS) : Nat → Nat → Nat := S.2.2.2.2.1
def sSr (S : oS) : Nat → Nat → Nat → Nat := S.2.2.2.2.2.1
def sSn (S : oS) : Nat → Nat := S.2.2.2.2.2.2.1
/-- the history -/
def sKp (S : oS) : Nat := S.2.2.2.2.2.2.2.1
def sNx (S : oS) : Nat := S.2.2.2.2.2.2.2.2.1
def sHs (S : oS) : Nat → Nat → Nat := S.2.2.2.2.2.2.2.2.2.1
def sHr (S : oS) : Nat → Nat → Nat → Nat := S.2.2.2.2.2.2.2.2.2.2.1
def sHm (S : oS) : Nat → Nat := S.2.2.2.2.2.2.2.2.2.2.2.1
/-- the pad -/
def sTx (S : oS) : Nat → Nat := S.2.2.2.2.2.2.2.2.2.2.2.2.1
def sLen (S : oS) : Nat := S.2.2.2.2.2.2.2.2.2.2.2.2.2
/-- a change -/
def uPush (S : oS) (st : Nat → Nat) (r : Nat → Nat → Nat) (n : Nat) : oS := (st, r, n, sV S, sSs S, sSr S, sSn S, min (sKp S + 1) 6, if sNx S = 5 then 0 else sNx S + 1, un (sHs S) (sNx S) (sSt S), un (sHr S) (sNx S) (sR S), un (sHm S) (sNx S) (sN S), sTx S, sLen S)
def uPad (S : oS) (tx : Nat → Nat) (len : Nat) : oS := (sSt S, sR S, sN S, sV S, sSs S, sSr S, sSn S, sKp S, sNx S, sHs S, sHr S, sHm S, tx, len)
def uPop (S : oS) : oS := (sHs S (bkx (sNx S)), sHr S (bkx (sNx S)), sHm S (bkx (sNx S)), sV S, sSs S, sSr S, sSn S, sKp S - 1, bkx (sNx S), sHs S, sHr S, sHm S, sTx S, sLen S)
def uSave (S : oS) (k : Nat) : oS := (sSt S, sR S, sN S, un (sV S) k true, un (sSs S) k (sSt S), un (sSr S) k (sR S), un (sSn S) k (sN S), sKp S, sNx S, sHs S, sHr S, sHm S, sTx S, sLen S)
def wOc (g : zG) (x : Nat → Nat) (a : oA) (S : oS) (J : oJ) : List va_W :=
  [wX g x a.1 a.2.1 a.2.2.1 a.2.2.2.1 a.2.2.2.2.2.1 a.2.2.2.2.2.2.2 S.2.2.2.1,
   wB g a.1 S.1 S.2.1 S.2.2.1,
   wB g a.2.1 J.1 J.2.1 J.2.2.1,
   wP g a.2.2.1 J.2.2.2.1 J.2.2.2.2.1 J.2.2.2.2.2.1 J.2.2.2.2.2.2.1 J.2.2.2.2.2.2.2.1 J.2.2.2.2.2.2.2.2.1 J.2.2.2.2.2.2.2.2.2.1 J.2.2.2.2.2.2.2.2.2.2.1 J.2.2.2.2.2.2.2.2.2.2.2.1 J.2.2.2.2.2.2.2.2.2.2.2.2.1 J.2.2.2.2.2.2.2.2.2.2.2.2.2.1 J.2.2.2.2.2.2.2.2.2.2.2.2.2.2.1 J.2.2.2.2.2.2.2.2.2.2.2.2.2.2.2.1 J.2.2.2.2.2.2.2.2.2.2.2.2.2.2.2.2.1 J.2.2.2.2.2.2.2.2.2.2.2.2.2.2.2.2.2.1 J.2.2.2.2.2.2.2.2.2.2.2.2.2.2.2.2.2.2.1 J.2.2.2.2.2.2.2.2.2.2.2.2.2.2.2.2.2.2.2.1 J.2.2.2.2.2.2.2.2.2.2.2.2.2.2.2.2.2.2.2.2.1,
   wPd g a.2.2.2.1 a.2.2.2.2.1 S.2.2.2.2.2.2.2.2.2.2.2.2.1 S.2.2.2.2.2.2.2.2.2.2.2.2.2 J.2.2.2.2.2.2.2.2.2.2.2.2.2.2.2.2.2.2.2.2.2.1 J.2.2.2.2.2.2.2.2.2.2.2.2.2.2.2.2.2.2.2.2.2.2.1 J.2.2.2.2.2.2.2.2.2.2.2.2.2.2.2.2.2.2.2.2.2.2.2.1 J.2.2.2.2.2.2.2.2.2.2.2.2.2.2.2.2.2.2.2.2.2.2.2.2.1 J.2.2.2.2.2.2.2.2.2.2.2.2.2.2.2.2.2.2.2.2.2.2.2.2.2.1,
   wB g a.2.2.2.2.1 J.2.2.2.2.2.2.2.2.2.2.2.2.2.2.2.2.2.2.2.2.2.2.2.2.2.2.1 J.2.2.2.2.2.2.2.2.2.2.2.2.2.2.2.2.2.2.2.2.2.2.2.2.2.2.2.1 J.2.2.2.2.2.2.2.2.2.2.2.2.2.2.2.2.2.2.2.2.2.2.2.2.2.2.2.2,
   wH g a.2.2.2.2.2.1 a.2.2.2.2.2.2.1 S.2.2.2.2.2.2.2.1 S.2.2.2.2.2.2.2.2.1,
   wB g (a.2.2.2.2.2.2.1 0) (S.2.2.2.2.2.2.2.2.2.1 0) (S.2.2.2.2.2.2.2.2.2.2.1 0) (S.2.2.2.2.2.2.2.2.2.2.2.1 0),
   wB g (a.2.2.2.2.2.2.1 1) (S.2.2.2.2.2.2.2.2.2.1 1) (S.2.2.2.2.2.2.2.2.2.2.1 1) (S.2.2.2.2.2.2.2.2.2.2.2.1 1),
   wB g (a.2.2.2.2.2.2.1 2) (S.2.2.2.2.2.2.2.2.2.1 2) (S.2.2.2.2.2.2.2.2.2.2.1 2) (S.2.2.2.2.2.2.2.2.2.2.2.1 2),
   wB g (a.2.2.2.2.2.2.1 3) (S.2.2.2.2.2.2.2.2.2.1 3) (S.2.2.2.2.2.2.2.2.2.2.1 3) (S.2.2.2.2.2.2.2.2.2.2.2.1 3),
   wB g (a.2.2.2.2.2.2.1 4) (S.2.2.2.2.2.2.2.2.2.1 4) (S.2.2.2.2.2.2.2.2.2.2.1 4) (S.2.2.2.2.2.2.2.2.2.2.2.1 4),
   wB g (a.2.2.2.2.2.2.1 5) (S.2.2.2.2.2.2.2.2.2.1 5) (S.2.2.2.2.2.2.2.2.2.2.1 5) (S.2.2.2.2.2.2.2.2.2.2.2.1 5),
   wB g (a.2.2.2.2.2.2.2 0) (S.2.2.2.2.1 0) (S.2.2.2.2.2.1 0) (S.2.2.2.2.2.2.1 0),
   wB g (a.2.2.2.2.2.2.2 1) (S.2.2.2.2.1 1) (S.2.2.2.2.2.1 1) (S.2.2.2.2.2.2.1 1)]
def wO (g : zG) (x : Nat → Nat) (a : oA) (S : oS) (J : oJ) : va_W := (wOc g x a S J).flatten
/-- what holds of an object between the calls -/
def INV (S : oS) : Prop := GB (sSt S) (sR S) (sN S) ∧ sKp S ≤ 6 ∧ sNx S < 6 ∧ (∀ e, e < sKp S → GB (sHs S (rgI (sKp S) (sNx S) e)) (sHr S (rgI (sKp S) (sNx S) e)) (sHm S (rgI (sKp S) (sNx S) e))) ∧ (∀ k, k < 2 → sV S k = true → GB (sSs S k) (sSr S k) (sSn S k)) ∧ IT (sTx S) (sLen S)
theorem INV_push {S : oS} (h : INV S) {st : Nat → Nat} {r : Nat → Nat → Nat} {n : Nat} (hG : GB st r n) : INV (uPush S st r n) := by
  obtain ⟨h0, h1, h2, h3, h4, h5⟩ := h
  refine ⟨hG, (by show min (sKp S + 1) 6 ≤ 6; omega), (by show (if sNx S = 5 then 0 else sNx S + 1) < 6; split <;> omega), fun e he => ?_, h4, h5⟩
  have he : e < min (sKp S + 1) 6 := he
  show GB (un (sHs S) (sNx S) (sSt S) (rgI (min (sKp S + 1) 6) (if sNx S = 5 then 0 else sNx S + 1) e)) (un (sHr S) (sNx S) (sR S) (rgI (min (sKp S + 1) 6) (if sNx S = 5 then 0 else sNx S + 1) e)) (un (sHm S) (sNx S) (sN S) (rgI (min (sKp S + 1) 6) (if sNx S = 5 then 0 else sNx S + 1) e))
  by_cases q : e + 1 = min (sKp S + 1) 6
  · have hi : rgI (min (sKp S + 1) 6) (if sNx S = 5 then 0 else sNx S + 1) e = sNx S := by
      unfold rgI
      split <;> omega
    rw [hi, un_s, un_s, un_s]
    exact h0
  · have hi : rgI (min (sKp S + 1) 6) (if sNx S = 5 then 0 else sNx S + 1) e = rgI (sKp S) (sNx S) (e + (sKp S + 1 - min (sKp S + 1) 6)) := by
      unfold rgI
      split <;> omega
    have hne : rgI (sKp S) (sNx S) (e + (sKp S + 1 - min (sKp S + 1) 6)) ≠ sNx S := by
      unfold rgI
      omega
    rw [hi, un_n hne, un_n hne, un_n hne]
    exact h3 _ (by omega)
theorem INV_pop {S : oS} (h : INV S) (h0 : 0 < sKp S) : INV (uPop S) := by
  obtain ⟨g0, h1, h2, h3, h4, h5⟩ := h
  have hi : rgI (sKp S) (sNx S) (sKp S - 1) = bkx (sNx S) := by
    unfold rgI bkx
    split <;> omega
  refine ⟨?_, (by show sKp S - 1 ≤ 6; omega), (by show bkx (sNx S) < 6; unfold bkx; split <;> omega), fun e he => ?_, h4, h5⟩
  · show GB (sHs S (bkx (sNx S))) (sHr S (bkx (sNx S))) (sHm S (bkx (sNx S)))
    rw [← hi]
    exact h3 _ (by omega)
  · have he : e < sKp S - 1 := he
    have he2 : rgI (sKp S - 1) (bkx (sNx S)) e = rgI (sKp S) (sNx S) e := by
      unfold rgI bkx
      split <;> omega
    show GB (sHs S (rgI (sKp S - 1) (bkx (sNx S)) e)) (sHr S (rgI (sKp S - 1) (bkx (sNx S)) e)) (sHm S (rgI (sKp S - 1) (bkx (sNx S)) e))
    rw [he2]
    exact h3 e (by omega)
theorem INV_save {S : oS} (h : INV S) (k : Nat) : INV (uSave S k) := by
  obtain ⟨g0, h1, h2, h3, h4, h5⟩ := h
  refine ⟨g0, h1, h2, h3, fun j hj hv => ?_, h5⟩
  have hv : un (sV S) k true j = true := hv
  show GB (un (sSs S) k (sSt S) j) (un (sSr S) k (sR S) j) (un (sSn S) k (sN S) j)
  by_cases e : j = k
  · subst e
    rw [un_s, un_s, un_s]
    exact g0
  · rw [un_n e] at hv
    rw [un_n e, un_n e, un_n e]
    exact h4 j hj hv
theorem INV_pad {S : oS} (h : INV S) {tx : Nat → Nat} {len : Nat} (ht : IT tx len) : INV (uPad S tx len) := ⟨h.1, h.2.1, h.2.2.1, h.2.2.2.1, h.2.2.2.2.1, ht⟩
/-- a board, and one with all minutes twice as many -/
def DB (st : Nat → Nat) (r : Nat → Nat → Nat) (n : Nat) (st' : Nat → Nat) (r' : Nat → Nat → Nat) (n' : Nat) : Prop := n' = n ∧ dS st st' ∧ dR r r' n
/-- the two shops, the last i kept boards in step -/
def REL (S T : oS) (i : Nat) : Prop := DB (sSt S) (sR S) (sN S) (sSt T) (sR T) (sN T) ∧ sKp T = sKp S ∧ sNx T = sNx S ∧ (∀ e, sKp S ≤ e + i → e < sKp S → DB (sHs S (rgI (sKp S) (sNx S) e)) (sHr S (rgI (sKp S) (sNx S) e)) (sHm S (rgI (sKp S) (sNx S) e)) (sHs T (rgI (sKp S) (sNx S) e)) (sHr T (rgI (sKp S) (sNx S) e)) (sHm T (rgI (sKp S) (sNx S) e))) ∧ (∀ k, k < 2 → sV S k = true ∧ sV T k = true ∧ DB (sSs S k) (sSr S k) (sSn S k) (sSs T k) (sSr T k) (sSn T k))
theorem REL_push {S T : oS} {i : Nat} (hS : INV S) (h : REL S T i) {st st' : Nat → Nat} {r r' : Nat → Nat → Nat} {n n' : Nat} (hD : DB st r n st' r' n') : REL (uPush S st r n) (uPush T st' r' n') (i + 1) := by
  obtain ⟨d0, d1, d2, d3, d4⟩ := h
  obtain ⟨-, h1, h2, -⟩ := hS
  refine ⟨hD, (by show min (sKp T + 1) 6 = min (sKp S + 1) 6; rw [d1]), (by show (if sNx T = 5 then 0 else sNx T + 1) = (if sNx S = 5 then 0 else sNx S + 1); rw [d2]), fun e ha he => ?_, d4⟩
  have he : e < min (sKp S + 1) 6 := he
  have ha : min (sKp S + 1) 6 ≤ e + (i + 1) := ha
  show DB (un (sHs S) (sNx S) (sSt S) (rgI (min (sKp S + 1) 6) (if sNx S = 5 then 0 else sNx S + 1) e)) (un (sHr S) (sNx S) (sR S) (rgI (min (sKp S + 1) 6) (if sNx S = 5 then 0 else sNx S + 1) e)) (un (sHm S) (sNx S) (sN S) (rgI (min (sKp S + 1) 6) (if sNx S = 5 then 0 else sNx S + 1) e)) (un (sHs T) (sNx T) (sSt T) (rgI (min (sKp S + 1) 6) (if sNx S = 5 then 0 else sNx S + 1) e)) (un (sHr T) (sNx T) (sR T) (rgI (min (sKp S + 1) 6) (if sNx S = 5 then 0 else sNx S + 1) e)) (un (sHm T) (sNx T) (sN T) (rgI (min (sKp S + 1) 6) (if sNx S = 5 then 0 else sNx S + 1) e))
  rw [d2]
  by_cases q : e + 1 = min (sKp S + 1) 6
  · have hi : rgI (min (sKp S + 1) 6) (if sNx S = 5 then 0 else sNx S + 1) e = sNx S := by
      unfold rgI
      split <;> omega
    rw [hi, un_s, un_s, un_s, un_s, un_s, un_s]
    exact d0
  · have hi : rgI (min (sKp S + 1) 6) (if sNx S = 5 then 0 else sNx S + 1) e = rgI (sKp S) (sNx S) (e + (sKp S + 1 - min (sKp S + 1) 6)) := by
      unfold rgI
      split <;> omega
    have hne : rgI (sKp S) (sNx S) (e + (sKp S + 1 - min (sKp S + 1) 6)) ≠ sNx S := by
      unfold rgI
      omega
    rw [hi, un_n hne, un_n hne, un_n hne, un_n hne, un_n hne, un_n hne]
    exact d3 _ (by omega) (by omega)
theorem REL_less {S T : oS} {i j : Nat} (hij : i ≤ j) (h : REL S T j) : REL S T i := ⟨h.1, h.2.1, h.2.2.1, fun e a b => h.2.2.2.1 e (by omega) b, h.2.2.2.2⟩
theorem REL_push6 {S T : oS} (hS : INV S) (h : REL S T 6) {st st' : Nat → Nat} {r r' : Nat → Nat → Nat} {n n' : Nat} (hD : DB st r n st' r' n') : REL (uPush S st r n) (uPush T st' r' n') 6 := REL_less (by omega) (REL_push hS h hD)
theorem REL_pop {S T : oS} (hS : INV S) (h : REL S T 6) (h0 : 0 < sKp S) : REL (uPop S) (uPop T) 6 := by
  obtain ⟨d0, d1, d2, d3, d4⟩ := h
  obtain ⟨-, h1, h2, -⟩ := hS
  have hi : rgI (sKp S) (sNx S) (sKp S - 1) = bkx (sNx S) := by
    unfold rgI bkx
    split <;> omega
  refine ⟨?_, (by show sKp T - 1 = sKp S - 1; rw [d1]), (by show bkx (sNx T) = bkx (sNx S); rw [d2]), fun e ha he => ?_, d4⟩
  · show DB (sHs S (bkx (sNx S))) (sHr S (bkx (sNx S))) (sHm S (bkx (sNx S))) (sHs T (bkx (sNx T))) (sHr T (bkx (sNx T))) (sHm T (bkx (sNx T)))
    rw [d2, ← hi]
    exact d3 _ (by omega) (by omega)
  · have he : e < sKp S - 1 := he
    have he2 : rgI (sKp S - 1) (bkx (sNx S)) e = rgI (sKp S) (sNx S) e := by
      unfold rgI bkx
      split <;> omega
    show DB (sHs S (rgI (sKp S - 1) (bkx (sNx S)) e)) (sHr S (rgI (sKp S - 1) (bkx (sNx S)) e)) (sHm S (rgI (sKp S - 1) (bkx (sNx S)) e)) (sHs T (rgI (sKp S - 1) (bkx (sNx S)) e)) (sHr T (rgI (sKp S - 1) (bkx (sNx S)) e)) (sHm T (rgI (sKp S - 1) (bkx (sNx S)) e))
    rw [he2]
    exact d3 e (by omega) (by omega)
theorem REL_save {S T : oS} {i : Nat} (h : REL S T i) (k : Nat) : REL (uSave S k) (uSave T k) i := by
  obtain ⟨d0, d1, d2, d3, d4⟩ := h
  refine ⟨d0, d1, d2, d3, fun j hj => ?_⟩
  show un (sV S) k true j = true ∧ un (sV T) k true j = true ∧ DB (un (sSs S) k (sSt S) j) (un (sSr S) k (sR S) j) (un (sSn S) k (sN S) j) (un (sSs T) k (sSt T) j) (un (sSr T) k (sR T) j) (un (sSn T) k (sN T) j)
  by_cases e : j = k
  · subst e
    rw [un_s, un_s, un_s, un_s, un_s, un_s, un_s, un_s]
    exact ⟨rfl, rfl, d0⟩
  · rw [un_n e, un_n e, un_n e, un_n e, un_n e, un_n e, un_n e, un_n e]
    exact d4 j hj
theorem REL_padS {S T : oS} {i : Nat} (h : REL S T i) (tx : Nat → Nat) (len : Nat) : REL (uPad S tx len) T i := h
theorem REL_padT {S T : oS} {i : Nat} (h : REL S T i) (tx : Nat → Nat) (len : Nat) : REL S (uPad T tx len) i := h
theorem z_big {l : Launch} {g : zG} {y : MethodName} {ws : List Cond} {rm : Room} {av : List Value} {S0 S1 : Type} {rv0 : S0 → Option Value} {post0 : S0 → Prop} {cs0 : S0 → List va_W} {wc : List va_W} {rv1 : S1 → Option Value} {post1 : S1 → Prop} {cs1 : S1 → List va_W} {big : List va_W} (cs : List va_W)
    (M : Met l y ws rm (zPre g av wc) (zQ g rv0 post0 cs0 (zA wc)) 0 0 (zA wc)) (hbig : big.flatten = cs.flatten)
    (isC : List Nat) (hC : isC.map (fun i => cs[i]?) = wc.map some) (hnC : va_nd isC = true) (hlc : ∀ x ∈ isC, x < cs.length) (src : List Nat) (hn : va_nd src = true) (hdis : ∀ x ∈ src, x ∉ isC) (cs2 : S0 → List va_W) (hs : ∀ u, src.map (fun i => (cs ++ cs0 u)[i]?) = (cs2 u).map some)
    (f : S0 → S1) (hrv : ∀ u, post0 u → rv1 (f u) = rv0 u) (hpost : ∀ u, post0 u → post1 (f u)) (hcs : ∀ u, post0 u → (cs1 (f u)).flatten = (cs2 u).flatten) :
    Met l y ws rm (zPre g av big) (zQ g rv1 post1 cs1 (zA big)) 0 0 (zA big) := by
  have hPre : ∀ (a : Array Value) (s : State), zPre g av big a s → zPre g av wc a s := by
    intro a s ⟨q0, qP, qK, qD⟩
    rw [hbig] at qP qD
    exact ⟨q0, zsubP qP isC hC, qK, zsubD qD isC hnC hC⟩
  unfold Met at M ⊢
  refine MetFree.mono M hPre (fun _ _ _ _ _ _ => trivial) ?_
  intro a s o t ⟨q0, qP, qK, qD⟩ ⟨⟨⟨u, hv, hp, hP1, hD1⟩, hz, hk⟩, L, hF, hL⟩
  rw [hbig] at qP qD
  have hD : va_D (zA cs) cs.flatten := ⟨qD.1, fun k q h => ⟨k, q.2, h⟩⟩
  have hsub := zA_sub hD isC hC
  obtain ⟨hP2, hD2⟩ := zjoin (H1 := t.heap) qP hD isC hC src (hs u) hn hdis hlc (fun q h1 h2 => hk q h1 h2) hP1 hD1
  have hAA : ∀ q, zA wc q → zA big q := fun q hq => by
    obtain ⟨k, e, h⟩ := hsub q hq
    exact ⟨k, e, by rw [hbig]; exact h⟩
  refine ⟨⟨⟨f u, by rw [hrv u hp]; exact hv, hpost u hp, by rw [hcs u hp]; exact hP2, ?_⟩, hz, fun q h1 h2 => hk q h1 (fun z => h2 (hAA q z))⟩, L, hF, fun q hq => hAA _ (hL q hq)⟩
  rw [hcs u hp]
  exact ⟨hD2.1, fun k q h => by obtain ⟨k2, e, h2⟩ := hD2.2 k q h; exact ⟨k2, e, by rw [hbig]; exact h2⟩⟩
theorem z_bigE {l : Launch} {g : zG} {y : MethodName} {ws : List Cond} {rm : Room} {av : List Value} {S0 S1 : Type} {rv0 : S0 → Option Value} {post0 : S0 → Prop} {cs0 : S0 → List va_W} {wc : List va_W} {rv1 : S1 → Option Value} {post1 : S1 → Prop} {cs1 : S1 → List va_W} {big : List va_W} (cs : List va_W) {E : (Nat → Prop) → State → Prop} (hE : ∀ (A B : Nat → Prop) (U : State), (∀ q, B q → A q) → E A U → E B U)
    (M : Met l y ws rm (zPreE g E av wc) (zQ g rv0 post0 cs0 (zA wc)) 0 0 (zA wc)) (hbig : big.flatten = cs.flatten)
    (isC : List Nat) (hC : isC.map (fun i => cs[i]?) = wc.map some) (hnC : va_nd isC = true) (hlc : ∀ x ∈ isC, x < cs.length) (src : List Nat) (hn : va_nd src = true) (hdis : ∀ x ∈ src, x ∉ isC) (cs2 : S0 → List va_W) (hs : ∀ u, src.map (fun i => (cs ++ cs0 u)[i]?) = (cs2 u).map some)
    (f : S0 → S1) (hrv : ∀ u, post0 u → rv1 (f u) = rv0 u) (hpost : ∀ u, post0 u → post1 (f u)) (hcs : ∀ u, post0 u → (cs1 (f u)).flatten = (cs2 u).flatten) :
    Met l y ws rm (zPreE g E av big) (zQ g rv1 post1 cs1 (zA big)) 0 0 (zA big) := by
  have hsub0 : ∀ q, zA wc q → zA big q := fun q ⟨k, e, h⟩ => by
    obtain ⟨i, j, c, h1, h2, -⟩ := zfl_inv h
    obtain ⟨i0, -, h3⟩ := zat hC h1
    exact ⟨_, e, by rw [hbig]; exact zfl_get h3 h2⟩
  have hPre : ∀ (a : Array Value) (s : State), zPreE g E av big a s → zPreE g E av wc a s := by
    intro a s ⟨⟨q0, qP, qK, qD⟩, qE⟩
    rw [hbig] at qP qD
    exact ⟨⟨q0, zsubP qP isC hC, qK, zsubD qD isC hnC hC⟩, hE _ _ _ hsub0 qE⟩
  unfold Met at M ⊢
  refine MetFree.mono M hPre (fun _ _ _ _ _ _ => trivial) ?_
  intro a s o t ⟨⟨q0, qP, qK, qD⟩, qE⟩ ⟨⟨⟨u, hv, hp, hP1, hD1⟩, hz, hk⟩, L, hF, hL⟩
  rw [hbig] at qP qD
  have hD : va_D (zA cs) cs.flatten := ⟨qD.1, fun k q h => ⟨k, q.2, h⟩⟩
  obtain ⟨hP2, hD2⟩ := zjoin (H1 := t.heap) qP hD isC hC src (hs u) hn hdis hlc (fun q h1 h2 => hk q h1 h2) hP1 hD1
  refine ⟨⟨⟨f u, by rw [hrv u hp]; exact hv, hpost u hp, by rw [hcs u hp]; exact hP2, ?_⟩, hz, fun q h1 h2 => hk q h1 (fun z => h2 (hsub0 q z))⟩, L, hF, fun q hq => hsub0 _ (hL q hq)⟩
  rw [hcs u hp]
  exact ⟨hD2.1, fun k q h => by obtain ⟨k2, e, h2⟩ := hD2.2 k q h; exact ⟨k2, e, by rw [hbig]; exact h2⟩⟩
theorem zStA.narrow {A B : Nat → Prop} {U : State} {nm : String} {N : Nat} {f : Nat → Nat} {sa : Nat} (h : zStA A U nm N f sa) (hAB : ∀ q, B q → A q) : zStA B U nm N f sa := ⟨h.1.narrow hAB, h.2.1, h.2.2.1, fun z => h.2.2.2 (hAB sa z)⟩
theorem eSet.narrow {A B : Nat → Prop} {U : State} (h : eSet A U) (hAB : ∀ q, B q → A q) : eSet B U := by
  obtain ⟨s1, s2, h1, h2⟩ := h
  exact ⟨s1, s2, h1.narrow hAB, h2.narrow hAB⟩
theorem eOrd.narrow {A B : Nat → Prop} {U : State} (h : eOrd A U) (hAB : ∀ q, B q → A q) : eOrd B U := by
  obtain ⟨s1, h1⟩ := h
  exact ⟨s1, h1.narrow hAB⟩
set_option maxHeartbeats 4000000 in
set_option maxRecDepth 100000 in
theorem tO_set_np (l : Launch) (g : zG) (x : Nat → Nat) (a : oA) (S : oS) (J : oJ) (k v : Nat) (hI : INV S) (hk6 : k ≤ 6) (hv1 : leS k ≤ v) (hv2 : v ≤ moS k) (hb : un (sSt S) k v 5 < mND (un (sSt S) k v) (sR S) (sN S)) : Met l yX4_set wsX4_set ({ frames := 3, cells := 0, slots := 0, locals := 103 } : Room) (zPreE g eSet [.ref (x 0), .int (nI k), .int (nI v)] [wO g x a S J]) (zQ g (fun J2 : oJ => some (.int (-5)) ) (fun J2 : oJ => True) (fun J2 : oJ => [wO g x a S J2]) (zA [wO g x a S J])) 0 0 (zA [wO g x a S J]) := by
  obtain ⟨bd, tr, q, p, fb, h, ho, sb⟩ := a
  obtain ⟨st, r, n, sv, ss, sr, sn, kp, nx, hs, hr, hm, tx, len⟩ := S
  obtain ⟨ts, tq, tn, a0, a1, a2, a3, a4, a5, a6, a7, s0, s1, s2, s3, s4, s5, s6, s7, s8, s9, ex, pl, sh, hu, du, fs, fr, fn⟩ := J
  obtain ⟨⟨hn, hS, hJ, hR⟩, hKp, hNx, hH, hV, hIl, hIt⟩ := hI
  exact z_bigE (S1 := oJ) (wOc g x (bd, tr, q, p, fb, h, ho, sb) (st, r, n, sv, ss, sr, sn, kp, nx, hs, hr, hm, tx, len) (ts, tq, tn, a0, a1, a2, a3, a4, a5, a6, a7, s0, s1, s2, s3, s4, s5, s6, s7, s8, s9, ex, pl, sh, hu, du, fs, fr, fn)) (E := eSet) (fun _ _ _ hAB h => h.narrow hAB) (tX4_set_np l g x bd tr q p h sb sv st r n k v hn hS hJ hk6 hv1 hv2 hb) (List.append_nil _) [0, 1] rfl rfl (zlc (N := 15) rfl rfl) [15, 16, 2, 3, 4, 5, 6, 7, 8, 9, 10, 11, 12, 13, 14] rfl (by decide) (fun _ : Unit => [wX g x bd tr q p h sb sv, wB g bd st r n, wB g tr ts tq tn, wP g q a0 a1 a2 a3 a4 a5 a6 a7 s0 s1 s2 s3 s4 s5 s6 s7 s8 s9, wPd g p fb tx len ex pl sh hu du, wB g fb fs fr fn, wH g h ho kp nx, wB g (ho 0) (hs 0) (hr 0) (hm 0), wB g (ho 1) (hs 1) (hr 1) (hm 1), wB g (ho 2) (hs 2) (hr 2) (hm 2), wB g (ho 3) (hs 3) (hr 3) (hm 3), wB g (ho 4) (hs 4) (hr 4) (hm 4), wB g (ho 5) (hs 5) (hr 5) (hm 5), wB g (sb 0) (ss 0) (sr 0) (sn 0), wB g (sb 1) (ss 1) (sr 1) (sn 1)]) (fun _ => rfl) (fun _ : Unit => ((ts, tq, tn, a0, a1, a2, a3, a4, a5, a6, a7, s0, s1, s2, s3, s4, s5, s6, s7, s8, s9, ex, pl, sh, hu, du, fs, fr, fn) : oJ)) (fun u _ => rfl) (fun _ _ => trivial) (fun u _ => List.append_nil _)

set_option maxHeartbeats 4000000 in
set_option maxRecDepth 100000 in
theorem tO_set_ok (l : Launch) (g : zG) (x : Nat → Nat) (a : oA) (S : oS) (J : oJ) (k v : Nat) (hI : INV S) (hk6 : k ≤ 6) (hv1 : leS k ≤ v) (hv2 : v ≤ moS k) (hb : mND (un (sSt S) k v) (sR S) (sN S) ≤ un (sSt S) k v 5) : Met l yX4_set wsX4_set ({ frames := 3, cells := 0, slots := 0, locals := 103 } : Room) (zPreE g eSet [.ref (x 0), .int (nI k), .int (nI v)] [wO g x a S J]) (zQ g (fun J2 : oJ => some (.int (nI ((sSt S) k))) ) (fun J2 : oJ => True) (fun J2 : oJ => [wO g x a (uPush S (un (sSt S) k v) (sR S) (sN S)) J2]) (zA [wO g x a S J])) 0 0 (zA [wO g x a S J]) := by
  obtain ⟨bd, tr, q, p, fb, h, ho, sb⟩ := a
  obtain ⟨st, r, n, sv, ss, sr, sn, kp, nx, hs, hr, hm, tx, len⟩ := S
  obtain ⟨ts, tq, tn, a0, a1, a2, a3, a4, a5, a6, a7, s0, s1, s2, s3, s4, s5, s6, s7, s8, s9, ex, pl, sh, hu, du, fs, fr, fn⟩ := J
  obtain ⟨⟨hn, hS, hJ, hR⟩, hKp, hNx, hH, hV, hIl, hIt⟩ := hI
  exact z_bigE (S1 := oJ) (wOc g x (bd, tr, q, p, fb, h, ho, sb) (st, r, n, sv, ss, sr, sn, kp, nx, hs, hr, hm, tx, len) (ts, tq, tn, a0, a1, a2, a3, a4, a5, a6, a7, s0, s1, s2, s3, s4, s5, s6, s7, s8, s9, ex, pl, sh, hu, du, fs, fr, fn)) (E := eSet) (fun _ _ _ hAB h => h.narrow hAB) (tX4_set_ok l g x bd tr q p h sb sv st r n ho hs hr hm kp nx k v hn hS hJ hKp hNx hk6 hv1 hv2 hb) (List.append_nil _) [0, 1, 6, 7, 8, 9, 10, 11, 12] rfl rfl (zlc (N := 15) rfl rfl) [15, 16, 2, 3, 4, 5, 17, 18, 19, 20, 21, 22, 23, 13, 14] rfl (by decide) (fun _ : Unit => [wX g x bd tr q p h sb sv, wB g bd (un st k v) r n, wB g tr ts tq tn, wP g q a0 a1 a2 a3 a4 a5 a6 a7 s0 s1 s2 s3 s4 s5 s6 s7 s8 s9, wPd g p fb tx len ex pl sh hu du, wB g fb fs fr fn, wH g h ho (min (kp + 1) 6) (if nx = 5 then 0 else nx + 1), wB g (ho 0) ((un hs nx st) 0) ((un hr nx r) 0) ((un hm nx n) 0), wB g (ho 1) ((un hs nx st) 1) ((un hr nx r) 1) ((un hm nx n) 1), wB g (ho 2) ((un hs nx st) 2) ((un hr nx r) 2) ((un hm nx n) 2), wB g (ho 3) ((un hs nx st) 3) ((un hr nx r) 3) ((un hm nx n) 3), wB g (ho 4) ((un hs nx st) 4) ((un hr nx r) 4) ((un hm nx n) 4), wB g (ho 5) ((un hs nx st) 5) ((un hr nx r) 5) ((un hm nx n) 5), wB g (sb 0) (ss 0) (sr 0) (sn 0), wB g (sb 1) (ss 1) (sr 1) (sn 1)]) (fun _ => rfl) (fun _ : Unit => ((ts, tq, tn, a0, a1, a2, a3, a4, a5, a6, a7, s0, s1, s2, s3, s4, s5, s6, s7, s8, s9, ex, pl, sh, hu, du, fs, fr, fn) : oJ)) (fun u _ => rfl) (fun _ _ => trivial) (fun u _ => List.append_nil _)

set_option maxHeartbeats 4000000 in
set_option maxRecDepth 100000 in
theorem tO_job_np (l : Launch) (g : zG) (x : Nat → Nat) (a : oA) (S : oS) (J : oJ) (b c d e : Nat) (hI : INV S) (ha9 : b ≤ 9) (hb9 : c ≤ 9) (hc1 : 1 ≤ d) (hc2 : d ≤ 20) (hd9 : e ≤ 3000) (hb : (sSt S) 5 < nd ((sSt S) 6) d) : Met l yX4_job wsX4_job ({ frames := 3, cells := 0, slots := 0, locals := 103 } : Room) (zPre g [.ref (x 0), .int (nI b), .int (nI c), .int (nI d), .int (nI e)] [wO g x a S J]) (zQ g (fun J2 : oJ => some (.int (-5)) ) (fun J2 : oJ => True) (fun J2 : oJ => [wO g x a S J2]) (zA [wO g x a S J])) 0 0 (zA [wO g x a S J]) := by
  obtain ⟨bd, tr, q, p, fb, h, ho, sb⟩ := a
  obtain ⟨st, r, n, sv, ss, sr, sn, kp, nx, hs, hr, hm, tx, len⟩ := S
  obtain ⟨ts, tq, tn, a0, a1, a2, a3, a4, a5, a6, a7, s0, s1, s2, s3, s4, s5, s6, s7, s8, s9, ex, pl, sh, hu, du, fs, fr, fn⟩ := J
  obtain ⟨⟨hn, hS, hJ, hR⟩, hKp, hNx, hH, hV, hIl, hIt⟩ := hI
  exact z_big (S1 := oJ) (wOc g x (bd, tr, q, p, fb, h, ho, sb) (st, r, n, sv, ss, sr, sn, kp, nx, hs, hr, hm, tx, len) (ts, tq, tn, a0, a1, a2, a3, a4, a5, a6, a7, s0, s1, s2, s3, s4, s5, s6, s7, s8, s9, ex, pl, sh, hu, du, fs, fr, fn)) (tX4_job_np l g x bd tr q p h sb sv st r n b c d e hS ha9 hb9 hc1 hc2 hd9 hb) (List.append_nil _) [0, 1] rfl rfl (zlc (N := 15) rfl rfl) [15, 16, 2, 3, 4, 5, 6, 7, 8, 9, 10, 11, 12, 13, 14] rfl (by decide) (fun _ : Unit => [wX g x bd tr q p h sb sv, wB g bd st r n, wB g tr ts tq tn, wP g q a0 a1 a2 a3 a4 a5 a6 a7 s0 s1 s2 s3 s4 s5 s6 s7 s8 s9, wPd g p fb tx len ex pl sh hu du, wB g fb fs fr fn, wH g h ho kp nx, wB g (ho 0) (hs 0) (hr 0) (hm 0), wB g (ho 1) (hs 1) (hr 1) (hm 1), wB g (ho 2) (hs 2) (hr 2) (hm 2), wB g (ho 3) (hs 3) (hr 3) (hm 3), wB g (ho 4) (hs 4) (hr 4) (hm 4), wB g (ho 5) (hs 5) (hr 5) (hm 5), wB g (sb 0) (ss 0) (sr 0) (sn 0), wB g (sb 1) (ss 1) (sr 1) (sn 1)]) (fun _ => rfl) (fun _ : Unit => ((ts, tq, tn, a0, a1, a2, a3, a4, a5, a6, a7, s0, s1, s2, s3, s4, s5, s6, s7, s8, s9, ex, pl, sh, hu, du, fs, fr, fn) : oJ)) (fun u _ => rfl) (fun _ _ => trivial) (fun u _ => List.append_nil _)

set_option maxHeartbeats 4000000 in
set_option maxRecDepth 100000 in
theorem tO_job_tm (l : Launch) (g : zG) (x : Nat → Nat) (a : oA) (S : oS) (J : oJ) (b c d e : Nat) (hI : INV S) (ha9 : b ≤ 9) (hb9 : c ≤ 9) (hc1 : 1 ≤ d) (hc2 : d ≤ 20) (hd9 : e ≤ 3000) (hb : nd ((sSt S) 6) d ≤ (sSt S) 5) (hn9 : (sN S) = 12) : Met l yX4_job wsX4_job ({ frames := 3, cells := 0, slots := 0, locals := 103 } : Room) (zPre g [.ref (x 0), .int (nI b), .int (nI c), .int (nI d), .int (nI e)] [wO g x a S J]) (zQ g (fun J2 : oJ => some (.int (-4)) ) (fun J2 : oJ => True) (fun J2 : oJ => [wO g x a S J2]) (zA [wO g x a S J])) 0 0 (zA [wO g x a S J]) := by
  obtain ⟨bd, tr, q, p, fb, h, ho, sb⟩ := a
  obtain ⟨st, r, n, sv, ss, sr, sn, kp, nx, hs, hr, hm, tx, len⟩ := S
  obtain ⟨ts, tq, tn, a0, a1, a2, a3, a4, a5, a6, a7, s0, s1, s2, s3, s4, s5, s6, s7, s8, s9, ex, pl, sh, hu, du, fs, fr, fn⟩ := J
  obtain ⟨⟨hn, hS, hJ, hR⟩, hKp, hNx, hH, hV, hIl, hIt⟩ := hI
  exact z_big (S1 := oJ) (wOc g x (bd, tr, q, p, fb, h, ho, sb) (st, r, n, sv, ss, sr, sn, kp, nx, hs, hr, hm, tx, len) (ts, tq, tn, a0, a1, a2, a3, a4, a5, a6, a7, s0, s1, s2, s3, s4, s5, s6, s7, s8, s9, ex, pl, sh, hu, du, fs, fr, fn)) (tX4_job_tm l g x bd tr q p h sb sv st r n b c d e hS ha9 hb9 hc1 hc2 hd9 hb hn9) (List.append_nil _) [0, 1] rfl rfl (zlc (N := 15) rfl rfl) [15, 16, 2, 3, 4, 5, 6, 7, 8, 9, 10, 11, 12, 13, 14] rfl (by decide) (fun _ : Unit => [wX g x bd tr q p h sb sv, wB g bd st r n, wB g tr ts tq tn, wP g q a0 a1 a2 a3 a4 a5 a6 a7 s0 s1 s2 s3 s4 s5 s6 s7 s8 s9, wPd g p fb tx len ex pl sh hu du, wB g fb fs fr fn, wH g h ho kp nx, wB g (ho 0) (hs 0) (hr 0) (hm 0), wB g (ho 1) (hs 1) (hr 1) (hm 1), wB g (ho 2) (hs 2) (hr 2) (hm 2), wB g (ho 3) (hs 3) (hr 3) (hm 3), wB g (ho 4) (hs 4) (hr 4) (hm 4), wB g (ho 5) (hs 5) (hr 5) (hm 5), wB g (sb 0) (ss 0) (sr 0) (sn 0), wB g (sb 1) (ss 1) (sr 1) (sn 1)]) (fun _ => rfl) (fun _ : Unit => ((ts, tq, tn, a0, a1, a2, a3, a4, a5, a6, a7, s0, s1, s2, s3, s4, s5, s6, s7, s8, s9, ex, pl, sh, hu, du, fs, fr, fn) : oJ)) (fun u _ => rfl) (fun _ _ => trivial) (fun u _ => List.append_nil _)

set_option maxHeartbeats 4000000 in
set_option maxRecDepth 100000 in
theorem tO_job_ok (l : Launch) (g : zG) (x : Nat → Nat) (a : oA) (S : oS) (J : oJ) (b c d e : Nat) (hI : INV S) (ha9 : b ≤ 9) (hb9 : c ≤ 9) (hc1 : 1 ≤ d) (hc2 : d ≤ 20) (hd9 : e ≤ 3000) (hb : nd ((sSt S) 6) d ≤ (sSt S) 5) (hn9 : (sN S) < 12) : Met l yX4_job wsX4_job ({ frames := 3, cells := 0, slots := 0, locals := 103 } : Room) (zPre g [.ref (x 0), .int (nI b), .int (nI c), .int (nI d), .int (nI e)] [wO g x a S J]) (zQ g (fun J2 : oJ => some (.int (nI (sN S))) ) (fun J2 : oJ => True) (fun J2 : oJ => [wO g x a (uPush S (sSt S) (apR (sR S) (sN S) b c d e) (sN S + 1)) J2]) (zA [wO g x a S J])) 0 0 (zA [wO g x a S J]) := by
  obtain ⟨bd, tr, q, p, fb, h, ho, sb⟩ := a
  obtain ⟨st, r, n, sv, ss, sr, sn, kp, nx, hs, hr, hm, tx, len⟩ := S
  obtain ⟨ts, tq, tn, a0, a1, a2, a3, a4, a5, a6, a7, s0, s1, s2, s3, s4, s5, s6, s7, s8, s9, ex, pl, sh, hu, du, fs, fr, fn⟩ := J
  obtain ⟨⟨hn, hS, hJ, hR⟩, hKp, hNx, hH, hV, hIl, hIt⟩ := hI
  exact z_big (S1 := oJ) (wOc g x (bd, tr, q, p, fb, h, ho, sb) (st, r, n, sv, ss, sr, sn, kp, nx, hs, hr, hm, tx, len) (ts, tq, tn, a0, a1, a2, a3, a4, a5, a6, a7, s0, s1, s2, s3, s4, s5, s6, s7, s8, s9, ex, pl, sh, hu, du, fs, fr, fn)) (tX4_job_ok l g x bd tr q p h sb sv st r n ho hs hr hm kp nx b c d e hS ha9 hb9 hc1 hc2 hd9 hKp hNx hb hn9) (List.append_nil _) [0, 1, 6, 7, 8, 9, 10, 11, 12] rfl rfl (zlc (N := 15) rfl rfl) [15, 16, 2, 3, 4, 5, 17, 18, 19, 20, 21, 22, 23, 13, 14] rfl (by decide) (fun _ : Unit => [wX g x bd tr q p h sb sv, wB g bd st (apR r n b c d e) (n + 1), wB g tr ts tq tn, wP g q a0 a1 a2 a3 a4 a5 a6 a7 s0 s1 s2 s3 s4 s5 s6 s7 s8 s9, wPd g p fb tx len ex pl sh hu du, wB g fb fs fr fn, wH g h ho (min (kp + 1) 6) (if nx = 5 then 0 else nx + 1), wB g (ho 0) ((un hs nx st) 0) ((un hr nx r) 0) ((un hm nx n) 0), wB g (ho 1) ((un hs nx st) 1) ((un hr nx r) 1) ((un hm nx n) 1), wB g (ho 2) ((un hs nx st) 2) ((un hr nx r) 2) ((un hm nx n) 2), wB g (ho 3) ((un hs nx st) 3) ((un hr nx r) 3) ((un hm nx n) 3), wB g (ho 4) ((un hs nx st) 4) ((un hr nx r) 4) ((un hm nx n) 4), wB g (ho 5) ((un hs nx st) 5) ((un hr nx r) 5) ((un hm nx n) 5), wB g (sb 0) (ss 0) (sr 0) (sn 0), wB g (sb 1) (ss 1) (sr 1) (sn 1)]) (fun _ => rfl) (fun _ : Unit => ((ts, tq, tn, a0, a1, a2, a3, a4, a5, a6, a7, s0, s1, s2, s3, s4, s5, s6, s7, s8, s9, ex, pl, sh, hu, du, fs, fr, fn) : oJ)) (fun u _ => rfl) (fun _ _ => trivial) (fun u _ => List.append_nil _)

set_option maxHeartbeats 4000000 in
set_option maxRecDepth 100000 in
theorem tO_drop_ns (l : Launch) (g : zG) (x : Nat → Nat) (a : oA) (S : oS) (J : oJ) (v : Int32) (hI : INV S) (hb : isJ v (sN S) = false) : Met l yX4_drop wsX4_drop ({ frames := 3, cells := 0, slots := 0, locals := 103 } : Room) (zPre g [.ref (x 0), .int v] [wO g x a S J]) (zQ g (fun J2 : oJ => some (.int (-1)) ) (fun J2 : oJ => True) (fun J2 : oJ => [wO g x a S J2]) (zA [wO g x a S J])) 0 0 (zA [wO g x a S J]) := by
  obtain ⟨bd, tr, q, p, fb, h, ho, sb⟩ := a
  obtain ⟨st, r, n, sv, ss, sr, sn, kp, nx, hs, hr, hm, tx, len⟩ := S
  obtain ⟨ts, tq, tn, a0, a1, a2, a3, a4, a5, a6, a7, s0, s1, s2, s3, s4, s5, s6, s7, s8, s9, ex, pl, sh, hu, du, fs, fr, fn⟩ := J
  obtain ⟨⟨hn, hS, hJ, hR⟩, hKp, hNx, hH, hV, hIl, hIt⟩ := hI
  exact z_big (S1 := oJ) (wOc g x (bd, tr, q, p, fb, h, ho, sb) (st, r, n, sv, ss, sr, sn, kp, nx, hs, hr, hm, tx, len) (ts, tq, tn, a0, a1, a2, a3, a4, a5, a6, a7, s0, s1, s2, s3, s4, s5, s6, s7, s8, s9, ex, pl, sh, hu, du, fs, fr, fn)) (tX4_drop_ns l g x bd tr q p h sb sv st r n v hn hb) (List.append_nil _) [0, 1] rfl rfl (zlc (N := 15) rfl rfl) [15, 16, 2, 3, 4, 5, 6, 7, 8, 9, 10, 11, 12, 13, 14] rfl (by decide) (fun _ : Unit => [wX g x bd tr q p h sb sv, wB g bd st r n, wB g tr ts tq tn, wP g q a0 a1 a2 a3 a4 a5 a6 a7 s0 s1 s2 s3 s4 s5 s6 s7 s8 s9, wPd g p fb tx len ex pl sh hu du, wB g fb fs fr fn, wH g h ho kp nx, wB g (ho 0) (hs 0) (hr 0) (hm 0), wB g (ho 1) (hs 1) (hr 1) (hm 1), wB g (ho 2) (hs 2) (hr 2) (hm 2), wB g (ho 3) (hs 3) (hr 3) (hm 3), wB g (ho 4) (hs 4) (hr 4) (hm 4), wB g (ho 5) (hs 5) (hr 5) (hm 5), wB g (sb 0) (ss 0) (sr 0) (sn 0), wB g (sb 1) (ss 1) (sr 1) (sn 1)]) (fun _ => rfl) (fun _ : Unit => ((ts, tq, tn, a0, a1, a2, a3, a4, a5, a6, a7, s0, s1, s2, s3, s4, s5, s6, s7, s8, s9, ex, pl, sh, hu, du, fs, fr, fn) : oJ)) (fun u _ => rfl) (fun _ _ => trivial) (fun u _ => List.append_nil _)

set_option maxHeartbeats 4000000 in
set_option maxRecDepth 100000 in
theorem tO_drop_ok (l : Launch) (g : zG) (x : Nat → Nat) (a : oA) (S : oS) (J : oJ) (j : Nat) (hI : INV S) (hj : j < (sN S)) : Met l yX4_drop wsX4_drop ({ frames := 3, cells := 0, slots := 0, locals := 103 } : Room) (zPre g [.ref (x 0), .int (nI j)] [wO g x a S J]) (zQ g (fun J2 : oJ => some (.int (nI ((sN S) - 1))) ) (fun J2 : oJ => True) (fun J2 : oJ => [wO g x a (uPush S (sSt S) (fun k => shf (sR S k) j (sN S - 1)) (sN S - 1)) J2]) (zA [wO g x a S J])) 0 0 (zA [wO g x a S J]) := by
  obtain ⟨bd, tr, q, p, fb, h, ho, sb⟩ := a
  obtain ⟨st, r, n, sv, ss, sr, sn, kp, nx, hs, hr, hm, tx, len⟩ := S
  obtain ⟨ts, tq, tn, a0, a1, a2, a3, a4, a5, a6, a7, s0, s1, s2, s3, s4, s5, s6, s7, s8, s9, ex, pl, sh, hu, du, fs, fr, fn⟩ := J
  obtain ⟨⟨hn, hS, hJ, hR⟩, hKp, hNx, hH, hV, hIl, hIt⟩ := hI
  exact z_big (S1 := oJ) (wOc g x (bd, tr, q, p, fb, h, ho, sb) (st, r, n, sv, ss, sr, sn, kp, nx, hs, hr, hm, tx, len) (ts, tq, tn, a0, a1, a2, a3, a4, a5, a6, a7, s0, s1, s2, s3, s4, s5, s6, s7, s8, s9, ex, pl, sh, hu, du, fs, fr, fn)) (tX4_drop_ok l g x bd tr q p h sb sv st r n ho hs hr hm kp nx j hn hj hKp hNx) (List.append_nil _) [0, 1, 6, 7, 8, 9, 10, 11, 12] rfl rfl (zlc (N := 15) rfl rfl) [15, 16, 2, 3, 4, 5, 17, 18, 19, 20, 21, 22, 23, 13, 14] rfl (by decide) (fun _ : Unit => [wX g x bd tr q p h sb sv, wB g bd st (fun k => shf (r k) j (n - 1)) (n - 1), wB g tr ts tq tn, wP g q a0 a1 a2 a3 a4 a5 a6 a7 s0 s1 s2 s3 s4 s5 s6 s7 s8 s9, wPd g p fb tx len ex pl sh hu du, wB g fb fs fr fn, wH g h ho (min (kp + 1) 6) (if nx = 5 then 0 else nx + 1), wB g (ho 0) ((un hs nx st) 0) ((un hr nx r) 0) ((un hm nx n) 0), wB g (ho 1) ((un hs nx st) 1) ((un hr nx r) 1) ((un hm nx n) 1), wB g (ho 2) ((un hs nx st) 2) ((un hr nx r) 2) ((un hm nx n) 2), wB g (ho 3) ((un hs nx st) 3) ((un hr nx r) 3) ((un hm nx n) 3), wB g (ho 4) ((un hs nx st) 4) ((un hr nx r) 4) ((un hm nx n) 4), wB g (ho 5) ((un hs nx st) 5) ((un hr nx r) 5) ((un hm nx n) 5), wB g (sb 0) (ss 0) (sr 0) (sn 0), wB g (sb 1) (ss 1) (sr 1) (sn 1)]) (fun _ => rfl) (fun _ : Unit => ((ts, tq, tn, a0, a1, a2, a3, a4, a5, a6, a7, s0, s1, s2, s3, s4, s5, s6, s7, s8, s9, ex, pl, sh, hu, du, fs, fr, fn) : oJ)) (fun u _ => rfl) (fun _ _ => trivial) (fun u _ => List.append_nil _)

set_option maxHeartbeats 4000000 in
set_option maxRecDepth 100000 in
theorem tO_move_ns (l : Launch) (g : zG) (x : Nat → Nat) (a : oA) (S : oS) (J : oJ) (v w : Int32) (hI : INV S) (hb : (isJ v (sN S) && isJ w (sN S)) = false) : Met l yX4_move wsX4_move ({ frames := 5, cells := 0, slots := 0, locals := 115 } : Room) (zPre g [.ref (x 0), .int v, .int w] [wO g x a S J]) (zQ g (fun J2 : oJ => some (.int (-1)) ) (fun J2 : oJ => True) (fun J2 : oJ => [wO g x a S J2]) (zA [wO g x a S J])) 0 0 (zA [wO g x a S J]) := by
  obtain ⟨bd, tr, q, p, fb, h, ho, sb⟩ := a
  obtain ⟨st, r, n, sv, ss, sr, sn, kp, nx, hs, hr, hm, tx, len⟩ := S
  obtain ⟨ts, tq, tn, a0, a1, a2, a3, a4, a5, a6, a7, s0, s1, s2, s3, s4, s5, s6, s7, s8, s9, ex, pl, sh, hu, du, fs, fr, fn⟩ := J
  obtain ⟨⟨hn, hS, hJ, hR⟩, hKp, hNx, hH, hV, hIl, hIt⟩ := hI
  exact z_big (S1 := oJ) (wOc g x (bd, tr, q, p, fb, h, ho, sb) (st, r, n, sv, ss, sr, sn, kp, nx, hs, hr, hm, tx, len) (ts, tq, tn, a0, a1, a2, a3, a4, a5, a6, a7, s0, s1, s2, s3, s4, s5, s6, s7, s8, s9, ex, pl, sh, hu, du, fs, fr, fn)) (tX4_move_ns l g x bd tr q p h sb sv st r n v w hn hb) (List.append_nil _) [0, 1] rfl rfl (zlc (N := 15) rfl rfl) [15, 16, 2, 3, 4, 5, 6, 7, 8, 9, 10, 11, 12, 13, 14] rfl (by decide) (fun _ : Unit => [wX g x bd tr q p h sb sv, wB g bd st r n, wB g tr ts tq tn, wP g q a0 a1 a2 a3 a4 a5 a6 a7 s0 s1 s2 s3 s4 s5 s6 s7 s8 s9, wPd g p fb tx len ex pl sh hu du, wB g fb fs fr fn, wH g h ho kp nx, wB g (ho 0) (hs 0) (hr 0) (hm 0), wB g (ho 1) (hs 1) (hr 1) (hm 1), wB g (ho 2) (hs 2) (hr 2) (hm 2), wB g (ho 3) (hs 3) (hr 3) (hm 3), wB g (ho 4) (hs 4) (hr 4) (hm 4), wB g (ho 5) (hs 5) (hr 5) (hm 5), wB g (sb 0) (ss 0) (sr 0) (sn 0), wB g (sb 1) (ss 1) (sr 1) (sn 1)]) (fun _ => rfl) (fun _ : Unit => ((ts, tq, tn, a0, a1, a2, a3, a4, a5, a6, a7, s0, s1, s2, s3, s4, s5, s6, s7, s8, s9, ex, pl, sh, hu, du, fs, fr, fn) : oJ)) (fun u _ => rfl) (fun _ _ => trivial) (fun u _ => List.append_nil _)

set_option maxHeartbeats 4000000 in
set_option maxRecDepth 100000 in
theorem tO_move_ok (l : Launch) (g : zG) (x : Nat → Nat) (a : oA) (S : oS) (J : oJ) (j w : Nat) (hI : INV S) (hj : j < (sN S)) (hw : w < (sN S)) : Met l yX4_move wsX4_move ({ frames := 5, cells := 0, slots := 0, locals := 115 } : Room) (zPre g [.ref (x 0), .int (nI j), .int (nI w)] [wO g x a S J]) (zQ g (fun J2 : oJ => some (.int (nI (LSm (sSt S) (fun k => shf ((sR S) k) j w) ((sSt S) 5) (sN S)))) ) (fun J2 : oJ => True) (fun J2 : oJ => [wO g x a (uPush S (sSt S) (fun k => shf (sR S k) j w) (sN S)) J2]) (zA [wO g x a S J])) 0 0 (zA [wO g x a S J]) := by
  obtain ⟨bd, tr, q, p, fb, h, ho, sb⟩ := a
  obtain ⟨st, r, n, sv, ss, sr, sn, kp, nx, hs, hr, hm, tx, len⟩ := S
  obtain ⟨ts, tq, tn, a0, a1, a2, a3, a4, a5, a6, a7, s0, s1, s2, s3, s4, s5, s6, s7, s8, s9, ex, pl, sh, hu, du, fs, fr, fn⟩ := J
  obtain ⟨⟨hn, hS, hJ, hR⟩, hKp, hNx, hH, hV, hIl, hIt⟩ := hI
  exact z_big (S1 := oJ) (wOc g x (bd, tr, q, p, fb, h, ho, sb) (st, r, n, sv, ss, sr, sn, kp, nx, hs, hr, hm, tx, len) (ts, tq, tn, a0, a1, a2, a3, a4, a5, a6, a7, s0, s1, s2, s3, s4, s5, s6, s7, s8, s9, ex, pl, sh, hu, du, fs, fr, fn)) (tX4_move_ok l g x bd tr q p h sb sv a0 a1 a2 a3 a4 a5 a6 a7 s0 s1 s2 s3 s4 s5 s6 s7 s8 s9 st r n ho hs hr hm kp nx j w hn hS hJ hR hj hw hKp hNx) (List.append_nil _) [0, 3, 1, 6, 7, 8, 9, 10, 11, 12] rfl rfl (zlc (N := 15) rfl rfl) [15, 17, 2, 16, 4, 5, 18, 19, 20, 21, 22, 23, 24, 13, 14] rfl (by decide) (fun u : (Nat → Nat) × (Nat → Nat) × (Nat → Nat) × (Nat → Nat) × (Nat → Nat) × (Nat → Nat) × (Nat → Nat) × (Nat → Nat) × (Nat) × (Nat) × (Nat) × (Nat) × (Nat) × (Nat) × (Nat) × (Nat) × (Nat) => match u with | (c0, c1, c2, c3, c4, c5, c6, c7, d1, d2, d3, d4, d5, d6, d7, d8, d9) => [wX g x bd tr q p h sb sv, wB g bd st (fun k => shf (r k) j w) n, wB g tr ts tq tn, wP g q c0 c1 c2 c3 c4 c5 c6 c7 n d1 d2 d3 d4 d5 d6 d7 d8 d9, wPd g p fb tx len ex pl sh hu du, wB g fb fs fr fn, wH g h ho (min (kp + 1) 6) (if nx = 5 then 0 else nx + 1), wB g (ho 0) ((un hs nx st) 0) ((un hr nx r) 0) ((un hm nx n) 0), wB g (ho 1) ((un hs nx st) 1) ((un hr nx r) 1) ((un hm nx n) 1), wB g (ho 2) ((un hs nx st) 2) ((un hr nx r) 2) ((un hm nx n) 2), wB g (ho 3) ((un hs nx st) 3) ((un hr nx r) 3) ((un hm nx n) 3), wB g (ho 4) ((un hs nx st) 4) ((un hr nx r) 4) ((un hm nx n) 4), wB g (ho 5) ((un hs nx st) 5) ((un hr nx r) 5) ((un hm nx n) 5), wB g (sb 0) (ss 0) (sr 0) (sn 0), wB g (sb 1) (ss 1) (sr 1) (sn 1)]) (fun _ => rfl) (fun u : (Nat → Nat) × (Nat → Nat) × (Nat → Nat) × (Nat → Nat) × (Nat → Nat) × (Nat → Nat) × (Nat → Nat) × (Nat → Nat) × (Nat) × (Nat) × (Nat) × (Nat) × (Nat) × (Nat) × (Nat) × (Nat) × (Nat) => match u with | (c0, c1, c2, c3, c4, c5, c6, c7, d1, d2, d3, d4, d5, d6, d7, d8, d9) => ((ts, tq, tn, c0, c1, c2, c3, c4, c5, c6, c7, n, d1, d2, d3, d4, d5, d6, d7, d8, d9, ex, pl, sh, hu, du, fs, fr, fn) : oJ)) (fun u _ => by obtain ⟨c0, c1, c2, c3, c4, c5, c6, c7, d1, d2, d3, d4, d5, d6, d7, d8, d9⟩ := u; exact rfl) (fun _ _ => trivial) (fun u _ => by obtain ⟨c0, c1, c2, c3, c4, c5, c6, c7, d1, d2, d3, d4, d5, d6, d7, d8, d9⟩ := u; exact List.append_nil _)

set_option maxHeartbeats 4000000 in
set_option maxRecDepth 100000 in
theorem tO_due_ns (l : Launch) (g : zG) (x : Nat → Nat) (a : oA) (S : oS) (J : oJ) (v w : Int32) (hI : INV S) (hb : isJ v (sN S) = false) : Met l yX4_due wsX4_due ({ frames := 4, cells := 0, slots := 0, locals := 103 } : Room) (zPre g [.ref (x 0), .int v, .int w] [wO g x a S J]) (zQ g (fun J2 : oJ => some (.int (-1)) ) (fun J2 : oJ => True) (fun J2 : oJ => [wO g x a S J2]) (zA [wO g x a S J])) 0 0 (zA [wO g x a S J]) := by
  obtain ⟨bd, tr, q, p, fb, h, ho, sb⟩ := a
  obtain ⟨st, r, n, sv, ss, sr, sn, kp, nx, hs, hr, hm, tx, len⟩ := S
  obtain ⟨ts, tq, tn, a0, a1, a2, a3, a4, a5, a6, a7, s0, s1, s2, s3, s4, s5, s6, s7, s8, s9, ex, pl, sh, hu, du, fs, fr, fn⟩ := J
  obtain ⟨⟨hn, hS, hJ, hR⟩, hKp, hNx, hH, hV, hIl, hIt⟩ := hI
  exact z_big (S1 := oJ) (wOc g x (bd, tr, q, p, fb, h, ho, sb) (st, r, n, sv, ss, sr, sn, kp, nx, hs, hr, hm, tx, len) (ts, tq, tn, a0, a1, a2, a3, a4, a5, a6, a7, s0, s1, s2, s3, s4, s5, s6, s7, s8, s9, ex, pl, sh, hu, du, fs, fr, fn)) (tX4_due_ns l g x bd tr q p h sb sv st r n v w hn hb) (List.append_nil _) [0, 1] rfl rfl (zlc (N := 15) rfl rfl) [15, 16, 2, 3, 4, 5, 6, 7, 8, 9, 10, 11, 12, 13, 14] rfl (by decide) (fun _ : Unit => [wX g x bd tr q p h sb sv, wB g bd st r n, wB g tr ts tq tn, wP g q a0 a1 a2 a3 a4 a5 a6 a7 s0 s1 s2 s3 s4 s5 s6 s7 s8 s9, wPd g p fb tx len ex pl sh hu du, wB g fb fs fr fn, wH g h ho kp nx, wB g (ho 0) (hs 0) (hr 0) (hm 0), wB g (ho 1) (hs 1) (hr 1) (hm 1), wB g (ho 2) (hs 2) (hr 2) (hm 2), wB g (ho 3) (hs 3) (hr 3) (hm 3), wB g (ho 4) (hs 4) (hr 4) (hm 4), wB g (ho 5) (hs 5) (hr 5) (hm 5), wB g (sb 0) (ss 0) (sr 0) (sn 0), wB g (sb 1) (ss 1) (sr 1) (sn 1)]) (fun _ => rfl) (fun _ : Unit => ((ts, tq, tn, a0, a1, a2, a3, a4, a5, a6, a7, s0, s1, s2, s3, s4, s5, s6, s7, s8, s9, ex, pl, sh, hu, du, fs, fr, fn) : oJ)) (fun u _ => rfl) (fun _ _ => trivial) (fun u _ => List.append_nil _)

set_option maxHeartbeats 4000000 in
set_option maxRecDepth 100000 in
theorem tO_due_ok (l : Launch) (g : zG) (x : Nat → Nat) (a : oA) (S : oS) (J : oJ) (j w : Nat) (hI : INV S) (hj : j < (sN S)) (hw : w ≤ 3000) : Met l yX4_due wsX4_due ({ frames := 4, cells := 0, slots := 0, locals := 103 } : Room) (zPre g [.ref (x 0), .int (nI j), .int (nI w)] [wO g x a S J]) (zQ g (fun J2 : oJ => some (.int (nI (PL (sSt S) (un (sR S) 3 (un ((sR S) 3) j w)) ((sSt S) 5) (sN S) j))) ) (fun J2 : oJ => True) (fun J2 : oJ => [wO g x a (uPush S (sSt S) (un (sR S) 3 (un (sR S 3) j w)) (sN S)) J2]) (zA [wO g x a S J])) 0 0 (zA [wO g x a S J]) := by
  obtain ⟨bd, tr, q, p, fb, h, ho, sb⟩ := a
  obtain ⟨st, r, n, sv, ss, sr, sn, kp, nx, hs, hr, hm, tx, len⟩ := S
  obtain ⟨ts, tq, tn, a0, a1, a2, a3, a4, a5, a6, a7, s0, s1, s2, s3, s4, s5, s6, s7, s8, s9, ex, pl, sh, hu, du, fs, fr, fn⟩ := J
  obtain ⟨⟨hn, hS, hJ, hR⟩, hKp, hNx, hH, hV, hIl, hIt⟩ := hI
  exact z_big (S1 := oJ) (wOc g x (bd, tr, q, p, fb, h, ho, sb) (st, r, n, sv, ss, sr, sn, kp, nx, hs, hr, hm, tx, len) (ts, tq, tn, a0, a1, a2, a3, a4, a5, a6, a7, s0, s1, s2, s3, s4, s5, s6, s7, s8, s9, ex, pl, sh, hu, du, fs, fr, fn)) (tX4_due_ok l g x bd tr q p h sb sv a0 a1 a2 a3 a4 a5 a6 a7 s0 s1 s2 s3 s4 s5 s6 s7 s8 s9 st r n ho hs hr hm kp nx j w hn hS hJ hR hj hw hKp hNx) (List.append_nil _) [0, 3, 1, 6, 7, 8, 9, 10, 11, 12] rfl rfl (zlc (N := 15) rfl rfl) [15, 17, 2, 16, 4, 5, 18, 19, 20, 21, 22, 23, 24, 13, 14] rfl (by decide) (fun u : (Nat → Nat) × (Nat → Nat) × (Nat → Nat) × (Nat → Nat) × (Nat → Nat) × (Nat → Nat) × (Nat → Nat) × (Nat → Nat) × (Nat) × (Nat) × (Nat) × (Nat) × (Nat) × (Nat) × (Nat) × (Nat) × (Nat) => match u with | (c0, c1, c2, c3, c4, c5, c6, c7, d1, d2, d3, d4, d5, d6, d7, d8, d9) => [wX g x bd tr q p h sb sv, wB g bd st (un r 3 (un (r 3) j w)) n, wB g tr ts tq tn, wP g q c0 c1 c2 c3 c4 c5 c6 c7 n d1 d2 d3 d4 d5 d6 d7 d8 d9, wPd g p fb tx len ex pl sh hu du, wB g fb fs fr fn, wH g h ho (min (kp + 1) 6) (if nx = 5 then 0 else nx + 1), wB g (ho 0) ((un hs nx st) 0) ((un hr nx r) 0) ((un hm nx n) 0), wB g (ho 1) ((un hs nx st) 1) ((un hr nx r) 1) ((un hm nx n) 1), wB g (ho 2) ((un hs nx st) 2) ((un hr nx r) 2) ((un hm nx n) 2), wB g (ho 3) ((un hs nx st) 3) ((un hr nx r) 3) ((un hm nx n) 3), wB g (ho 4) ((un hs nx st) 4) ((un hr nx r) 4) ((un hm nx n) 4), wB g (ho 5) ((un hs nx st) 5) ((un hr nx r) 5) ((un hm nx n) 5), wB g (sb 0) (ss 0) (sr 0) (sn 0), wB g (sb 1) (ss 1) (sr 1) (sn 1)]) (fun _ => rfl) (fun u : (Nat → Nat) × (Nat → Nat) × (Nat → Nat) × (Nat → Nat) × (Nat → Nat) × (Nat → Nat) × (Nat → Nat) × (Nat → Nat) × (Nat) × (Nat) × (Nat) × (Nat) × (Nat) × (Nat) × (Nat) × (Nat) × (Nat) => match u with | (c0, c1, c2, c3, c4, c5, c6, c7, d1, d2, d3, d4, d5, d6, d7, d8, d9) => ((ts, tq, tn, c0, c1, c2, c3, c4, c5, c6, c7, n, d1, d2, d3, d4, d5, d6, d7, d8, d9, ex, pl, sh, hu, du, fs, fr, fn) : oJ)) (fun u _ => by obtain ⟨c0, c1, c2, c3, c4, c5, c6, c7, d1, d2, d3, d4, d5, d6, d7, d8, d9⟩ := u; exact rfl) (fun _ _ => trivial) (fun u _ => by obtain ⟨c0, c1, c2, c3, c4, c5, c6, c7, d1, d2, d3, d4, d5, d6, d7, d8, d9⟩ := u; exact List.append_nil _)

set_option maxHeartbeats 4000000 in
set_option maxRecDepth 100000 in
theorem tO_order (l : Launch) (g : zG) (x : Nat → Nat) (a : oA) (S : oS) (J : oJ) (k : Nat) (hI : INV S) (hk3 : k ≤ 3) : Met l yX4_order wsX4_order ({ frames := 3, cells := 0, slots := 0, locals := 108 } : Room) (zPreE g eOrd [.ref (x 0), .int (nI k)] [wO g x a S J]) (zQ g (fun J2 : oJ => some (.int (nI (ct (fun y => decide (plc ((sR S) (foR k)) (sN S) y ≠ y)) (sN S)))) ) (fun J2 : oJ => True) (fun J2 : oJ => [wO g x a (uPush S (sSt S) (oR (sR S) (foR k) (sN S)) (sN S)) J2]) (zA [wO g x a S J])) 0 0 (zA [wO g x a S J]) := by
  obtain ⟨bd, tr, q, p, fb, h, ho, sb⟩ := a
  obtain ⟨st, r, n, sv, ss, sr, sn, kp, nx, hs, hr, hm, tx, len⟩ := S
  obtain ⟨ts, tq, tn, a0, a1, a2, a3, a4, a5, a6, a7, s0, s1, s2, s3, s4, s5, s6, s7, s8, s9, ex, pl, sh, hu, du, fs, fr, fn⟩ := J
  obtain ⟨⟨hn, hS, hJ, hR⟩, hKp, hNx, hH, hV, hIl, hIt⟩ := hI
  exact z_bigE (S1 := oJ) (wOc g x (bd, tr, q, p, fb, h, ho, sb) (st, r, n, sv, ss, sr, sn, kp, nx, hs, hr, hm, tx, len) (ts, tq, tn, a0, a1, a2, a3, a4, a5, a6, a7, s0, s1, s2, s3, s4, s5, s6, s7, s8, s9, ex, pl, sh, hu, du, fs, fr, fn)) (E := eOrd) (fun _ _ _ hAB h => h.narrow hAB) (tX4_order_ok l g x bd tr q p h sb sv st r n ts tq tn ho hs hr hm kp nx k hn hS hJ hR hk3 hKp hNx) (List.append_nil _) [0, 1, 2, 6, 7, 8, 9, 10, 11, 12] rfl rfl (zlc (N := 15) rfl rfl) [15, 16, 17, 3, 4, 5, 18, 19, 20, 21, 22, 23, 24, 13, 14] rfl (by decide) (fun _ : Unit => [wX g x bd tr q p h sb sv, wB g bd st (arR r (plc (r (foR k)) n) n) n, wB g tr st (arR r (plc (r (foR k)) n) n) n, wP g q a0 a1 a2 a3 a4 a5 a6 a7 s0 s1 s2 s3 s4 s5 s6 s7 s8 s9, wPd g p fb tx len ex pl sh hu du, wB g fb fs fr fn, wH g h ho (min (kp + 1) 6) (if nx = 5 then 0 else nx + 1), wB g (ho 0) ((un hs nx st) 0) ((un hr nx r) 0) ((un hm nx n) 0), wB g (ho 1) ((un hs nx st) 1) ((un hr nx r) 1) ((un hm nx n) 1), wB g (ho 2) ((un hs nx st) 2) ((un hr nx r) 2) ((un hm nx n) 2), wB g (ho 3) ((un hs nx st) 3) ((un hr nx r) 3) ((un hm nx n) 3), wB g (ho 4) ((un hs nx st) 4) ((un hr nx r) 4) ((un hm nx n) 4), wB g (ho 5) ((un hs nx st) 5) ((un hr nx r) 5) ((un hm nx n) 5), wB g (sb 0) (ss 0) (sr 0) (sn 0), wB g (sb 1) (ss 1) (sr 1) (sn 1)]) (fun _ => rfl) (fun _ : Unit => ((st, arR r (plc (r (foR k)) n) n, n, a0, a1, a2, a3, a4, a5, a6, a7, s0, s1, s2, s3, s4, s5, s6, s7, s8, s9, ex, pl, sh, hu, du, fs, fr, fn) : oJ)) (fun u _ => rfl) (fun _ _ => trivial) (fun u _ => List.append_nil _)

set_option maxHeartbeats 4000000 in
set_option maxRecDepth 100000 in
theorem tO_jobOf_ns (l : Launch) (g : zG) (x : Nat → Nat) (a : oA) (S : oS) (J : oJ) (v w : Int32) (hI : INV S) (hb : isJ v (sN S) = false) : Met l yX4_jobOf wsX4_jobOf ({ frames := 4, cells := 0, slots := 0, locals := 94 } : Room) (zPre g [.ref (x 0), .int v, .int w] [wO g x a S J]) (zQ g (fun J2 : oJ => some (.int (-1)) ) (fun J2 : oJ => True) (fun J2 : oJ => [wO g x a S J2]) (zA [wO g x a S J])) 0 0 (zA [wO g x a S J]) := by
  obtain ⟨bd, tr, q, p, fb, h, ho, sb⟩ := a
  obtain ⟨st, r, n, sv, ss, sr, sn, kp, nx, hs, hr, hm, tx, len⟩ := S
  obtain ⟨ts, tq, tn, a0, a1, a2, a3, a4, a5, a6, a7, s0, s1, s2, s3, s4, s5, s6, s7, s8, s9, ex, pl, sh, hu, du, fs, fr, fn⟩ := J
  obtain ⟨⟨hn, hS, hJ, hR⟩, hKp, hNx, hH, hV, hIl, hIt⟩ := hI
  exact z_big (S1 := oJ) (wOc g x (bd, tr, q, p, fb, h, ho, sb) (st, r, n, sv, ss, sr, sn, kp, nx, hs, hr, hm, tx, len) (ts, tq, tn, a0, a1, a2, a3, a4, a5, a6, a7, s0, s1, s2, s3, s4, s5, s6, s7, s8, s9, ex, pl, sh, hu, du, fs, fr, fn)) (tX4_jobOf_ns l g x bd tr q p h sb sv st r n v w hn hb) (List.append_nil _) [0, 1] rfl rfl (zlc (N := 15) rfl rfl) [15, 16, 2, 3, 4, 5, 6, 7, 8, 9, 10, 11, 12, 13, 14] rfl (by decide) (fun _ : Unit => [wX g x bd tr q p h sb sv, wB g bd st r n, wB g tr ts tq tn, wP g q a0 a1 a2 a3 a4 a5 a6 a7 s0 s1 s2 s3 s4 s5 s6 s7 s8 s9, wPd g p fb tx len ex pl sh hu du, wB g fb fs fr fn, wH g h ho kp nx, wB g (ho 0) (hs 0) (hr 0) (hm 0), wB g (ho 1) (hs 1) (hr 1) (hm 1), wB g (ho 2) (hs 2) (hr 2) (hm 2), wB g (ho 3) (hs 3) (hr 3) (hm 3), wB g (ho 4) (hs 4) (hr 4) (hm 4), wB g (ho 5) (hs 5) (hr 5) (hm 5), wB g (sb 0) (ss 0) (sr 0) (sn 0), wB g (sb 1) (ss 1) (sr 1) (sn 1)]) (fun _ => rfl) (fun _ : Unit => ((ts, tq, tn, a0, a1, a2, a3, a4, a5, a6, a7, s0, s1, s2, s3, s4, s5, s6, s7, s8, s9, ex, pl, sh, hu, du, fs, fr, fn) : oJ)) (fun u _ => rfl) (fun _ _ => trivial) (fun u _ => List.append_nil _)

set_option maxHeartbeats 4000000 in
set_option maxRecDepth 100000 in
theorem tO_jobOf (l : Launch) (g : zG) (x : Nat → Nat) (a : oA) (S : oS) (J : oJ) (j k : Nat) (hI : INV S) (hj : j < (sN S)) (hk : k ≤ 11) : Met l yX4_jobOf wsX4_jobOf ({ frames := 4, cells := 0, slots := 0, locals := 94 } : Room) (zPre g [.ref (x 0), .int (nI j), .int (nI k)] [wO g x a S J]) (zQ g (fun J2 : oJ => some (.int (nI (JO (sSt S) (sR S) (sN S) j k))) ) (fun J2 : oJ => True) (fun J2 : oJ => [wO g x a S J2]) (zA [wO g x a S J])) 0 0 (zA [wO g x a S J]) := by
  obtain ⟨bd, tr, q, p, fb, h, ho, sb⟩ := a
  obtain ⟨st, r, n, sv, ss, sr, sn, kp, nx, hs, hr, hm, tx, len⟩ := S
  obtain ⟨ts, tq, tn, a0, a1, a2, a3, a4, a5, a6, a7, s0, s1, s2, s3, s4, s5, s6, s7, s8, s9, ex, pl, sh, hu, du, fs, fr, fn⟩ := J
  obtain ⟨⟨hn, hS, hJ, hR⟩, hKp, hNx, hH, hV, hIl, hIt⟩ := hI
  exact z_big (S1 := oJ) (wOc g x (bd, tr, q, p, fb, h, ho, sb) (st, r, n, sv, ss, sr, sn, kp, nx, hs, hr, hm, tx, len) (ts, tq, tn, a0, a1, a2, a3, a4, a5, a6, a7, s0, s1, s2, s3, s4, s5, s6, s7, s8, s9, ex, pl, sh, hu, du, fs, fr, fn)) (tX4_jobOf_ok l g x bd tr q p h sb sv a0 a1 a2 a3 a4 a5 a6 a7 s0 s1 s2 s3 s4 s5 s6 s7 s8 s9 st r n j k hn hS hJ hR hj hk) (List.append_nil _) [0, 3, 1] rfl rfl (zlc (N := 15) rfl rfl) [15, 17, 2, 16, 4, 5, 6, 7, 8, 9, 10, 11, 12, 13, 14] rfl (by decide) (fun u : (Nat → Nat) × (Nat → Nat) × (Nat → Nat) × (Nat → Nat) × (Nat → Nat) × (Nat → Nat) × (Nat → Nat) × (Nat → Nat) × (Nat) × (Nat) × (Nat) × (Nat) × (Nat) × (Nat) × (Nat) × (Nat) × (Nat) × (Nat) => match u with | (c0, c1, c2, c3, c4, c5, c6, c7, d1, d2, d3, d4, d5, d6, d7, d8, d9, d0) => [wX g x bd tr q p h sb sv, wB g bd st r n, wB g tr ts tq tn, wP g q c0 c1 c2 c3 c4 c5 c6 c7 d0 d1 d2 d3 d4 d5 d6 d7 d8 d9, wPd g p fb tx len ex pl sh hu du, wB g fb fs fr fn, wH g h ho kp nx, wB g (ho 0) (hs 0) (hr 0) (hm 0), wB g (ho 1) (hs 1) (hr 1) (hm 1), wB g (ho 2) (hs 2) (hr 2) (hm 2), wB g (ho 3) (hs 3) (hr 3) (hm 3), wB g (ho 4) (hs 4) (hr 4) (hm 4), wB g (ho 5) (hs 5) (hr 5) (hm 5), wB g (sb 0) (ss 0) (sr 0) (sn 0), wB g (sb 1) (ss 1) (sr 1) (sn 1)]) (fun _ => rfl) (fun u : (Nat → Nat) × (Nat → Nat) × (Nat → Nat) × (Nat → Nat) × (Nat → Nat) × (Nat → Nat) × (Nat → Nat) × (Nat → Nat) × (Nat) × (Nat) × (Nat) × (Nat) × (Nat) × (Nat) × (Nat) × (Nat) × (Nat) × (Nat) => match u with | (c0, c1, c2, c3, c4, c5, c6, c7, d1, d2, d3, d4, d5, d6, d7, d8, d9, d0) => ((ts, tq, tn, c0, c1, c2, c3, c4, c5, c6, c7, d0, d1, d2, d3, d4, d5, d6, d7, d8, d9, ex, pl, sh, hu, du, fs, fr, fn) : oJ)) (fun u _ => by obtain ⟨c0, c1, c2, c3, c4, c5, c6, c7, d1, d2, d3, d4, d5, d6, d7, d8, d9, d0⟩ := u; exact rfl) (fun _ _ => trivial) (fun u _ => by obtain ⟨c0, c1, c2, c3, c4, c5, c6, c7, d1, d2, d3, d4, d5, d6, d7, d8, d9, d0⟩ := u; exact List.append_nil _)

set_option maxHeartbeats 4000000 in
set_option maxRecDepth 100000 in
theorem tO_count (l : Launch) (g : zG) (x : Nat → Nat) (a : oA) (S : oS) (J : oJ) (k : Nat) (hI : INV S) (hk : k ≤ 19) : Met l yX4_count wsX4_count ({ frames := 4, cells := 0, slots := 0, locals := 94 } : Room) (zPre g [.ref (x 0), .int (nI k)] [wO g x a S J]) (zQ g (fun J2 : oJ => some (.int (nI (CN (sSt S) (sR S) (sN S) (sLen S) (sKp S) k))) ) (fun J2 : oJ => True) (fun J2 : oJ => [wO g x a S J2]) (zA [wO g x a S J])) 0 0 (zA [wO g x a S J]) := by
  obtain ⟨bd, tr, q, p, fb, h, ho, sb⟩ := a
  obtain ⟨st, r, n, sv, ss, sr, sn, kp, nx, hs, hr, hm, tx, len⟩ := S
  obtain ⟨ts, tq, tn, a0, a1, a2, a3, a4, a5, a6, a7, s0, s1, s2, s3, s4, s5, s6, s7, s8, s9, ex, pl, sh, hu, du, fs, fr, fn⟩ := J
  obtain ⟨⟨hn, hS, hJ, hR⟩, hKp, hNx, hH, hV, hIl, hIt⟩ := hI
  exact z_big (S1 := oJ) (wOc g x (bd, tr, q, p, fb, h, ho, sb) (st, r, n, sv, ss, sr, sn, kp, nx, hs, hr, hm, tx, len) (ts, tq, tn, a0, a1, a2, a3, a4, a5, a6, a7, s0, s1, s2, s3, s4, s5, s6, s7, s8, s9, ex, pl, sh, hu, du, fs, fr, fn)) (tX4_count_ok l g x bd tr q p h sb sv a0 a1 a2 a3 a4 a5 a6 a7 s0 s1 s2 s3 s4 s5 s6 s7 s8 s9 st r n fb tx len ex pl sh hu du ho kp nx k hn hS hJ hR hk) (List.append_nil _) [0, 3, 1, 4, 6] rfl rfl (zlc (N := 15) rfl rfl) [15, 17, 2, 16, 18, 5, 19, 7, 8, 9, 10, 11, 12, 13, 14] rfl (by decide) (fun u : (Nat → Nat) × (Nat → Nat) × (Nat → Nat) × (Nat → Nat) × (Nat → Nat) × (Nat → Nat) × (Nat → Nat) × (Nat → Nat) × (Nat) × (Nat) × (Nat) × (Nat) × (Nat) × (Nat) × (Nat) × (Nat) × (Nat) × (Nat) => match u with | (c0, c1, c2, c3, c4, c5, c6, c7, d1, d2, d3, d4, d5, d6, d7, d8, d9, d0) => [wX g x bd tr q p h sb sv, wB g bd st r n, wB g tr ts tq tn, wP g q c0 c1 c2 c3 c4 c5 c6 c7 d0 d1 d2 d3 d4 d5 d6 d7 d8 d9, wPd g p fb tx len ex pl sh hu du, wB g fb fs fr fn, wH g h ho kp nx, wB g (ho 0) (hs 0) (hr 0) (hm 0), wB g (ho 1) (hs 1) (hr 1) (hm 1), wB g (ho 2) (hs 2) (hr 2) (hm 2), wB g (ho 3) (hs 3) (hr 3) (hm 3), wB g (ho 4) (hs 4) (hr 4) (hm 4), wB g (ho 5) (hs 5) (hr 5) (hm 5), wB g (sb 0) (ss 0) (sr 0) (sn 0), wB g (sb 1) (ss 1) (sr 1) (sn 1)]) (fun _ => rfl) (fun u : (Nat → Nat) × (Nat → Nat) × (Nat → Nat) × (Nat → Nat) × (Nat → Nat) × (Nat → Nat) × (Nat → Nat) × (Nat → Nat) × (Nat) × (Nat) × (Nat) × (Nat) × (Nat) × (Nat) × (Nat) × (Nat) × (Nat) × (Nat) => match u with | (c0, c1, c2, c3, c4, c5, c6, c7, d1, d2, d3, d4, d5, d6, d7, d8, d9, d0) => ((ts, tq, tn, c0, c1, c2, c3, c4, c5, c6, c7, d0, d1, d2, d3, d4, d5, d6, d7, d8, d9, ex, pl, sh, hu, du, fs, fr, fn) : oJ)) (fun u _ => by obtain ⟨c0, c1, c2, c3, c4, c5, c6, c7, d1, d2, d3, d4, d5, d6, d7, d8, d9, d0⟩ := u; exact rfl) (fun _ _ => trivial) (fun u _ => by obtain ⟨c0, c1, c2, c3, c4, c5, c6, c7, d1, d2, d3, d4, d5, d6, d7, d8, d9, d0⟩ := u; exact List.append_nil _)

set_option maxHeartbeats 4000000 in
set_option maxRecDepth 100000 in
theorem tO_at (l : Launch) (g : zG) (x : Nat → Nat) (a : oA) (S : oS) (J : oJ) (m k : Nat) (hI : INV S) (hm9 : m ≤ 99999) (hk : k ≤ 3) : Met l yX4_at wsX4_at ({ frames := 4, cells := 0, slots := 0, locals := 94 } : Room) (zPre g [.ref (x 0), .int (nI m), .int (nI k)] [wO g x a S J]) (zQ g (fun J2 : oJ => some (.int (AT (sSt S) (sR S) (sN S) m k)) ) (fun J2 : oJ => True) (fun J2 : oJ => [wO g x a S J2]) (zA [wO g x a S J])) 0 0 (zA [wO g x a S J]) := by
  obtain ⟨bd, tr, q, p, fb, h, ho, sb⟩ := a
  obtain ⟨st, r, n, sv, ss, sr, sn, kp, nx, hs, hr, hm, tx, len⟩ := S
  obtain ⟨ts, tq, tn, a0, a1, a2, a3, a4, a5, a6, a7, s0, s1, s2, s3, s4, s5, s6, s7, s8, s9, ex, pl, sh, hu, du, fs, fr, fn⟩ := J
  obtain ⟨⟨hn, hS, hJ, hR⟩, hKp, hNx, hH, hV, hIl, hIt⟩ := hI
  exact z_big (S1 := oJ) (wOc g x (bd, tr, q, p, fb, h, ho, sb) (st, r, n, sv, ss, sr, sn, kp, nx, hs, hr, hm, tx, len) (ts, tq, tn, a0, a1, a2, a3, a4, a5, a6, a7, s0, s1, s2, s3, s4, s5, s6, s7, s8, s9, ex, pl, sh, hu, du, fs, fr, fn)) (tX4_at_ok l g x bd tr q p h sb sv a0 a1 a2 a3 a4 a5 a6 a7 s0 s1 s2 s3 s4 s5 s6 s7 s8 s9 st r n m k hn hS hJ hR hm9 hk) (List.append_nil _) [0, 3, 1] rfl rfl (zlc (N := 15) rfl rfl) [15, 17, 2, 16, 4, 5, 6, 7, 8, 9, 10, 11, 12, 13, 14] rfl (by decide) (fun u : (Nat → Nat) × (Nat → Nat) × (Nat → Nat) × (Nat → Nat) × (Nat → Nat) × (Nat → Nat) × (Nat → Nat) × (Nat → Nat) × (Nat) × (Nat) × (Nat) × (Nat) × (Nat) × (Nat) × (Nat) × (Nat) × (Nat) => match u with | (c0, c1, c2, c3, c4, c5, c6, c7, d1, d2, d3, d4, d5, d6, d7, d8, d9) => [wX g x bd tr q p h sb sv, wB g bd st r n, wB g tr ts tq tn, wP g q c0 c1 c2 c3 c4 c5 c6 c7 n d1 d2 d3 d4 d5 d6 d7 d8 d9, wPd g p fb tx len ex pl sh hu du, wB g fb fs fr fn, wH g h ho kp nx, wB g (ho 0) (hs 0) (hr 0) (hm 0), wB g (ho 1) (hs 1) (hr 1) (hm 1), wB g (ho 2) (hs 2) (hr 2) (hm 2), wB g (ho 3) (hs 3) (hr 3) (hm 3), wB g (ho 4) (hs 4) (hr 4) (hm 4), wB g (ho 5) (hs 5) (hr 5) (hm 5), wB g (sb 0) (ss 0) (sr 0) (sn 0), wB g (sb 1) (ss 1) (sr 1) (sn 1)]) (fun _ => rfl) (fun u : (Nat → Nat) × (Nat → Nat) × (Nat → Nat) × (Nat → Nat) × (Nat → Nat) × (Nat → Nat) × (Nat → Nat) × (Nat → Nat) × (Nat) × (Nat) × (Nat) × (Nat) × (Nat) × (Nat) × (Nat) × (Nat) × (Nat) => match u with | (c0, c1, c2, c3, c4, c5, c6, c7, d1, d2, d3, d4, d5, d6, d7, d8, d9) => ((ts, tq, tn, c0, c1, c2, c3, c4, c5, c6, c7, n, d1, d2, d3, d4, d5, d6, d7, d8, d9, ex, pl, sh, hu, du, fs, fr, fn) : oJ)) (fun u _ => by obtain ⟨c0, c1, c2, c3, c4, c5, c6, c7, d1, d2, d3, d4, d5, d6, d7, d8, d9⟩ := u; exact rfl) (fun _ _ => trivial) (fun u _ => by obtain ⟨c0, c1, c2, c3, c4, c5, c6, c7, d1, d2, d3, d4, d5, d6, d7, d8, d9⟩ := u; exact List.append_nil _)

set_option maxHeartbeats 4000000 in
set_option maxRecDepth 100000 in
theorem tO_ifOrdered (l : Launch) (g : zG) (x : Nat → Nat) (a : oA) (S : oS) (J : oJ) (m k : Nat) (hI : INV S) (hm9 : m ≤ 3) (hk : k ≤ 3) : Met l yX4_ifOrdered wsX4_ifOrdered ({ frames := 4, cells := 0, slots := 0, locals := 108 } : Room) (zPreE g eOrd [.ref (x 0), .int (nI m), .int (nI k)] [wO g x a S J]) (zQ g (fun J2 : oJ => some (.int (nI (IO (sSt S) (oR (sR S) (foR m) (sN S)) (sN S) k))) ) (fun J2 : oJ => True) (fun J2 : oJ => [wO g x a S J2]) (zA [wO g x a S J])) 0 0 (zA [wO g x a S J]) := by
  obtain ⟨bd, tr, q, p, fb, h, ho, sb⟩ := a
  obtain ⟨st, r, n, sv, ss, sr, sn, kp, nx, hs, hr, hm, tx, len⟩ := S
  obtain ⟨ts, tq, tn, a0, a1, a2, a3, a4, a5, a6, a7, s0, s1, s2, s3, s4, s5, s6, s7, s8, s9, ex, pl, sh, hu, du, fs, fr, fn⟩ := J
  obtain ⟨⟨hn, hS, hJ, hR⟩, hKp, hNx, hH, hV, hIl, hIt⟩ := hI
  exact z_bigE (S1 := oJ) (wOc g x (bd, tr, q, p, fb, h, ho, sb) (st, r, n, sv, ss, sr, sn, kp, nx, hs, hr, hm, tx, len) (ts, tq, tn, a0, a1, a2, a3, a4, a5, a6, a7, s0, s1, s2, s3, s4, s5, s6, s7, s8, s9, ex, pl, sh, hu, du, fs, fr, fn)) (E := eOrd) (fun _ _ _ hAB h => h.narrow hAB) (tX4_ifOrdered_ok l g x bd tr q p h sb sv a0 a1 a2 a3 a4 a5 a6 a7 s0 s1 s2 s3 s4 s5 s6 s7 s8 s9 st r n ts tq tn m k hn hS hJ hR hm9 hk) (List.append_nil _) [0, 3, 1, 2] rfl rfl (zlc (N := 15) rfl rfl) [15, 17, 18, 16, 4, 5, 6, 7, 8, 9, 10, 11, 12, 13, 14] rfl (by decide) (fun u : (Nat → Nat) × (Nat → Nat) × (Nat → Nat) × (Nat → Nat) × (Nat → Nat) × (Nat → Nat) × (Nat → Nat) × (Nat → Nat) × (Nat) × (Nat) × (Nat) × (Nat) × (Nat) × (Nat) × (Nat) × (Nat) × (Nat) => match u with | (c0, c1, c2, c3, c4, c5, c6, c7, d1, d2, d3, d4, d5, d6, d7, d8, d9) => [wX g x bd tr q p h sb sv, wB g bd st r n, wB g tr st (arR r (plc (r (foR m)) n) n) n, wP g q c0 c1 c2 c3 c4 c5 c6 c7 n d1 d2 d3 d4 d5 d6 d7 d8 d9, wPd g p fb tx len ex pl sh hu du, wB g fb fs fr fn, wH g h ho kp nx, wB g (ho 0) (hs 0) (hr 0) (hm 0), wB g (ho 1) (hs 1) (hr 1) (hm 1), wB g (ho 2) (hs 2) (hr 2) (hm 2), wB g (ho 3) (hs 3) (hr 3) (hm 3), wB g (ho 4) (hs 4) (hr 4) (hm 4), wB g (ho 5) (hs 5) (hr 5) (hm 5), wB g (sb 0) (ss 0) (sr 0) (sn 0), wB g (sb 1) (ss 1) (sr 1) (sn 1)]) (fun _ => rfl) (fun u : (Nat → Nat) × (Nat → Nat) × (Nat → Nat) × (Nat → Nat) × (Nat → Nat) × (Nat → Nat) × (Nat → Nat) × (Nat → Nat) × (Nat) × (Nat) × (Nat) × (Nat) × (Nat) × (Nat) × (Nat) × (Nat) × (Nat) => match u with | (c0, c1, c2, c3, c4, c5, c6, c7, d1, d2, d3, d4, d5, d6, d7, d8, d9) => ((st, arR r (plc (r (foR m)) n) n, n, c0, c1, c2, c3, c4, c5, c6, c7, n, d1, d2, d3, d4, d5, d6, d7, d8, d9, ex, pl, sh, hu, du, fs, fr, fn) : oJ)) (fun u _ => by obtain ⟨c0, c1, c2, c3, c4, c5, c6, c7, d1, d2, d3, d4, d5, d6, d7, d8, d9⟩ := u; exact rfl) (fun _ _ => trivial) (fun u _ => by obtain ⟨c0, c1, c2, c3, c4, c5, c6, c7, d1, d2, d3, d4, d5, d6, d7, d8, d9⟩ := u; exact List.append_nil _)

set_option maxHeartbeats 4000000 in
set_option maxRecDepth 100000 in
theorem tO_bestExchange (l : Launch) (g : zG) (x : Nat → Nat) (a : oA) (S : oS) (J : oJ) (k : Nat) (hI : INV S) (hk : k ≤ 2) : Met l yX4_bestExchange wsX4_bestExchange ({ frames := 6, cells := 0, slots := 0, locals := 138 } : Room) (zPre g [.ref (x 0), .int (nI k)] [wO g x a S J]) (zQ g (fun J2 : oJ => some (.int (BE (sSt S) (sR S) (sN S) k)) ) (fun J2 : oJ => True) (fun J2 : oJ => [wO g x a S J2]) (zA [wO g x a S J])) 0 0 (zA [wO g x a S J]) := by
  obtain ⟨bd, tr, q, p, fb, h, ho, sb⟩ := a
  obtain ⟨st, r, n, sv, ss, sr, sn, kp, nx, hs, hr, hm, tx, len⟩ := S
  obtain ⟨ts, tq, tn, a0, a1, a2, a3, a4, a5, a6, a7, s0, s1, s2, s3, s4, s5, s6, s7, s8, s9, ex, pl, sh, hu, du, fs, fr, fn⟩ := J
  obtain ⟨⟨hn, hS, hJ, hR⟩, hKp, hNx, hH, hV, hIl, hIt⟩ := hI
  exact z_big (S1 := oJ) (wOc g x (bd, tr, q, p, fb, h, ho, sb) (st, r, n, sv, ss, sr, sn, kp, nx, hs, hr, hm, tx, len) (ts, tq, tn, a0, a1, a2, a3, a4, a5, a6, a7, s0, s1, s2, s3, s4, s5, s6, s7, s8, s9, ex, pl, sh, hu, du, fs, fr, fn)) (tX4_bestExchange_ok l g x bd tr q p h sb sv a0 a1 a2 a3 a4 a5 a6 a7 s0 s1 s2 s3 s4 s5 s6 s7 s8 s9 st r n ts tq tn k hn hS hJ hR hk) (List.append_nil _) [0, 3, 1, 2] rfl rfl (zlc (N := 15) rfl rfl) [15, 17, 18, 16, 4, 5, 6, 7, 8, 9, 10, 11, 12, 13, 14] rfl (by decide) (fun u : (Nat → Nat) × (Nat → Nat) × (Nat → Nat) × (Nat → Nat) × (Nat → Nat) × (Nat → Nat) × (Nat → Nat) × (Nat → Nat) × (Nat) × (Nat) × (Nat) × (Nat) × (Nat) × (Nat) × (Nat) × (Nat) × (Nat) × (Nat) => match u with | (c0, c1, c2, c3, c4, c5, c6, c7, d1, d2, d3, d4, d5, d6, d7, d8, d9, d0) => [wX g x bd tr q p h sb sv, wB g bd st r n, wB g tr st r n, wP g q c0 c1 c2 c3 c4 c5 c6 c7 d0 d1 d2 d3 d4 d5 d6 d7 d8 d9, wPd g p fb tx len ex pl sh hu du, wB g fb fs fr fn, wH g h ho kp nx, wB g (ho 0) (hs 0) (hr 0) (hm 0), wB g (ho 1) (hs 1) (hr 1) (hm 1), wB g (ho 2) (hs 2) (hr 2) (hm 2), wB g (ho 3) (hs 3) (hr 3) (hm 3), wB g (ho 4) (hs 4) (hr 4) (hm 4), wB g (ho 5) (hs 5) (hr 5) (hm 5), wB g (sb 0) (ss 0) (sr 0) (sn 0), wB g (sb 1) (ss 1) (sr 1) (sn 1)]) (fun _ => rfl) (fun u : (Nat → Nat) × (Nat → Nat) × (Nat → Nat) × (Nat → Nat) × (Nat → Nat) × (Nat → Nat) × (Nat → Nat) × (Nat → Nat) × (Nat) × (Nat) × (Nat) × (Nat) × (Nat) × (Nat) × (Nat) × (Nat) × (Nat) × (Nat) => match u with | (c0, c1, c2, c3, c4, c5, c6, c7, d1, d2, d3, d4, d5, d6, d7, d8, d9, d0) => ((st, r, n, c0, c1, c2, c3, c4, c5, c6, c7, d0, d1, d2, d3, d4, d5, d6, d7, d8, d9, ex, pl, sh, hu, du, fs, fr, fn) : oJ)) (fun u _ => by obtain ⟨c0, c1, c2, c3, c4, c5, c6, c7, d1, d2, d3, d4, d5, d6, d7, d8, d9, d0⟩ := u; exact rfl) (fun _ _ => trivial) (fun u _ => by obtain ⟨c0, c1, c2, c3, c4, c5, c6, c7, d1, d2, d3, d4, d5, d6, d7, d8, d9, d0⟩ := u; exact List.append_nil _)

set_option maxHeartbeats 4000000 in
set_option maxRecDepth 100000 in
theorem tO_bestFirst (l : Launch) (g : zG) (x : Nat → Nat) (a : oA) (S : oS) (J : oJ) (hI : INV S) : Met l yX4_bestFirst wsX4_bestFirst ({ frames := 6, cells := 0, slots := 0, locals := 137 } : Room) (zPre g [.ref (x 0)] [wO g x a S J]) (zQ g (fun J2 : oJ => some (.int ((bfO (sSt S) (sR S) (sN S) (sN S)).1)) ) (fun J2 : oJ => True) (fun J2 : oJ => [wO g x a S J2]) (zA [wO g x a S J])) 0 0 (zA [wO g x a S J]) := by
  obtain ⟨bd, tr, q, p, fb, h, ho, sb⟩ := a
  obtain ⟨st, r, n, sv, ss, sr, sn, kp, nx, hs, hr, hm, tx, len⟩ := S
  obtain ⟨ts, tq, tn, a0, a1, a2, a3, a4, a5, a6, a7, s0, s1, s2, s3, s4, s5, s6, s7, s8, s9, ex, pl, sh, hu, du, fs, fr, fn⟩ := J
  obtain ⟨⟨hn, hS, hJ, hR⟩, hKp, hNx, hH, hV, hIl, hIt⟩ := hI
  exact z_big (S1 := oJ) (wOc g x (bd, tr, q, p, fb, h, ho, sb) (st, r, n, sv, ss, sr, sn, kp, nx, hs, hr, hm, tx, len) (ts, tq, tn, a0, a1, a2, a3, a4, a5, a6, a7, s0, s1, s2, s3, s4, s5, s6, s7, s8, s9, ex, pl, sh, hu, du, fs, fr, fn)) (tX4_bestFirst l g x bd tr q p h sb sv a0 a1 a2 a3 a4 a5 a6 a7 s0 s1 s2 s3 s4 s5 s6 s7 s8 s9 st r n ts tq tn hn hS hJ hR) (List.append_nil _) [0, 3, 1, 2] rfl rfl (zlc (N := 15) rfl rfl) [15, 17, 18, 16, 4, 5, 6, 7, 8, 9, 10, 11, 12, 13, 14] rfl (by decide) (fun u : (Nat → Nat) × (Nat → Nat) × (Nat → Nat) × (Nat → Nat) × (Nat → Nat) × (Nat → Nat) × (Nat → Nat) × (Nat → Nat) × (Nat) × (Nat) × (Nat) × (Nat) × (Nat) × (Nat) × (Nat) × (Nat) × (Nat) × (Nat) => match u with | (c0, c1, c2, c3, c4, c5, c6, c7, d1, d2, d3, d4, d5, d6, d7, d8, d9, d0) => [wX g x bd tr q p h sb sv, wB g bd st r n, wB g tr st r n, wP g q c0 c1 c2 c3 c4 c5 c6 c7 d0 d1 d2 d3 d4 d5 d6 d7 d8 d9, wPd g p fb tx len ex pl sh hu du, wB g fb fs fr fn, wH g h ho kp nx, wB g (ho 0) (hs 0) (hr 0) (hm 0), wB g (ho 1) (hs 1) (hr 1) (hm 1), wB g (ho 2) (hs 2) (hr 2) (hm 2), wB g (ho 3) (hs 3) (hr 3) (hm 3), wB g (ho 4) (hs 4) (hr 4) (hm 4), wB g (ho 5) (hs 5) (hr 5) (hm 5), wB g (sb 0) (ss 0) (sr 0) (sn 0), wB g (sb 1) (ss 1) (sr 1) (sn 1)]) (fun _ => rfl) (fun u : (Nat → Nat) × (Nat → Nat) × (Nat → Nat) × (Nat → Nat) × (Nat → Nat) × (Nat → Nat) × (Nat → Nat) × (Nat → Nat) × (Nat) × (Nat) × (Nat) × (Nat) × (Nat) × (Nat) × (Nat) × (Nat) × (Nat) × (Nat) => match u with | (c0, c1, c2, c3, c4, c5, c6, c7, d1, d2, d3, d4, d5, d6, d7, d8, d9, d0) => ((st, r, n, c0, c1, c2, c3, c4, c5, c6, c7, d0, d1, d2, d3, d4, d5, d6, d7, d8, d9, ex, pl, sh, hu, du, fs, fr, fn) : oJ)) (fun u _ => by obtain ⟨c0, c1, c2, c3, c4, c5, c6, c7, d1, d2, d3, d4, d5, d6, d7, d8, d9, d0⟩ := u; exact rfl) (fun _ _ => trivial) (fun u _ => by obtain ⟨c0, c1, c2, c3, c4, c5, c6, c7, d1, d2, d3, d4, d5, d6, d7, d8, d9, d0⟩ := u; exact List.append_nil _)

set_option maxHeartbeats 4000000 in
set_option maxRecDepth 100000 in
theorem tO_leastRacks (l : Launch) (g : zG) (x : Nat → Nat) (a : oA) (S : oS) (J : oJ) (hI : INV S) : Met l yX4_leastRacks wsX4_leastRacks ({ frames := 4, cells := 0, slots := 0, locals := 94 } : Room) (zPreE g eSet [.ref (x 0)] [wO g x a S J]) (zQ g (fun J2 : oJ => some (.int (lrF (sSt S) (sR S) (sN S) 4 17)) ) (fun J2 : oJ => True) (fun J2 : oJ => [wO g x a S J2]) (zA [wO g x a S J])) 0 0 (zA [wO g x a S J]) := by
  obtain ⟨bd, tr, q, p, fb, h, ho, sb⟩ := a
  obtain ⟨st, r, n, sv, ss, sr, sn, kp, nx, hs, hr, hm, tx, len⟩ := S
  obtain ⟨ts, tq, tn, a0, a1, a2, a3, a4, a5, a6, a7, s0, s1, s2, s3, s4, s5, s6, s7, s8, s9, ex, pl, sh, hu, du, fs, fr, fn⟩ := J
  obtain ⟨⟨hn, hS, hJ, hR⟩, hKp, hNx, hH, hV, hIl, hIt⟩ := hI
  exact z_bigE (S1 := oJ) (wOc g x (bd, tr, q, p, fb, h, ho, sb) (st, r, n, sv, ss, sr, sn, kp, nx, hs, hr, hm, tx, len) (ts, tq, tn, a0, a1, a2, a3, a4, a5, a6, a7, s0, s1, s2, s3, s4, s5, s6, s7, s8, s9, ex, pl, sh, hu, du, fs, fr, fn)) (E := eSet) (fun _ _ _ hAB h => h.narrow hAB) (tX4_leastRacks l g x bd tr q p h sb sv a0 a1 a2 a3 a4 a5 a6 a7 s0 s1 s2 s3 s4 s5 s6 s7 s8 s9 st r n hn hS hJ) (List.append_nil _) [0, 3, 1] rfl rfl (zlc (N := 15) rfl rfl) [15, 17, 2, 16, 4, 5, 6, 7, 8, 9, 10, 11, 12, 13, 14] rfl (by decide) (fun u : (Nat → Nat) × (Nat → Nat) × (Nat → Nat) × (Nat → Nat) × (Nat → Nat) × (Nat → Nat) × (Nat → Nat) × (Nat → Nat) × (Nat) × (Nat) × (Nat) × (Nat) × (Nat) × (Nat) × (Nat) × (Nat) × (Nat) × (Nat) => match u with | (c0, c1, c2, c3, c4, c5, c6, c7, d1, d2, d3, d4, d5, d6, d7, d8, d9, d0) => [wX g x bd tr q p h sb sv, wB g bd st r n, wB g tr ts tq tn, wP g q c0 c1 c2 c3 c4 c5 c6 c7 d0 d1 d2 d3 d4 d5 d6 d7 d8 d9, wPd g p fb tx len ex pl sh hu du, wB g fb fs fr fn, wH g h ho kp nx, wB g (ho 0) (hs 0) (hr 0) (hm 0), wB g (ho 1) (hs 1) (hr 1) (hm 1), wB g (ho 2) (hs 2) (hr 2) (hm 2), wB g (ho 3) (hs 3) (hr 3) (hm 3), wB g (ho 4) (hs 4) (hr 4) (hm 4), wB g (ho 5) (hs 5) (hr 5) (hm 5), wB g (sb 0) (ss 0) (sr 0) (sn 0), wB g (sb 1) (ss 1) (sr 1) (sn 1)]) (fun _ => rfl) (fun u : (Nat → Nat) × (Nat → Nat) × (Nat → Nat) × (Nat → Nat) × (Nat → Nat) × (Nat → Nat) × (Nat → Nat) × (Nat → Nat) × (Nat) × (Nat) × (Nat) × (Nat) × (Nat) × (Nat) × (Nat) × (Nat) × (Nat) × (Nat) => match u with | (c0, c1, c2, c3, c4, c5, c6, c7, d1, d2, d3, d4, d5, d6, d7, d8, d9, d0) => ((ts, tq, tn, c0, c1, c2, c3, c4, c5, c6, c7, d0, d1, d2, d3, d4, d5, d6, d7, d8, d9, ex, pl, sh, hu, du, fs, fr, fn) : oJ)) (fun u _ => by obtain ⟨c0, c1, c2, c3, c4, c5, c6, c7, d1, d2, d3, d4, d5, d6, d7, d8, d9, d0⟩ := u; exact rfl) (fun _ _ => trivial) (fun u _ => by obtain ⟨c0, c1, c2, c3, c4, c5, c6, c7, d1, d2, d3, d4, d5, d6, d7, d8, d9, d0⟩ := u; exact List.append_nil _)

set_option maxHeartbeats 4000000 in
set_option maxRecDepth 100000 in
theorem tO_put (l : Launch) (g : zG) (x : Nat → Nat) (a : oA) (S : oS) (J : oJ) (w b : Nat) (hI : INV S) (hw : w < 2 ^ 64) (hb : chF 0 8 w = b) (ha : 0 < b) (ha8 : b ≤ 8) (hf : (sLen S) + b ≤ 60) : Met l yX4_put wsX4_put ({ frames := 2, cells := 0, slots := 0, locals := 46 } : Room) (zPre g [.ref (x 0), .long (lN w)] [wO g x a S J]) (zQ g (fun J2 : oJ => some (.int (nI ((sLen S) + b))) ) (fun J2 : oJ => True) (fun J2 : oJ => [wO g x a (uPad S (ptx (sTx S) (sLen S) w b b) (sLen S + b)) J2]) (zA [wO g x a S J])) 0 0 (zA [wO g x a S J]) := by
  obtain ⟨bd, tr, q, p, fb, h, ho, sb⟩ := a
  obtain ⟨st, r, n, sv, ss, sr, sn, kp, nx, hs, hr, hm, tx, len⟩ := S
  obtain ⟨ts, tq, tn, a0, a1, a2, a3, a4, a5, a6, a7, s0, s1, s2, s3, s4, s5, s6, s7, s8, s9, ex, pl, sh, hu, du, fs, fr, fn⟩ := J
  obtain ⟨⟨hn, hS, hJ, hR⟩, hKp, hNx, hH, hV, hIl, hIt⟩ := hI
  exact z_big (S1 := oJ) (wOc g x (bd, tr, q, p, fb, h, ho, sb) (st, r, n, sv, ss, sr, sn, kp, nx, hs, hr, hm, tx, len) (ts, tq, tn, a0, a1, a2, a3, a4, a5, a6, a7, s0, s1, s2, s3, s4, s5, s6, s7, s8, s9, ex, pl, sh, hu, du, fs, fr, fn)) (tX4_put_ok l g x bd tr q p h sb sv fb tx len ex pl sh hu du w b hw hb ha ha8 hf) (List.append_nil _) [0, 4] rfl rfl (zlc (N := 15) rfl rfl) [15, 1, 2, 3, 16, 5, 6, 7, 8, 9, 10, 11, 12, 13, 14] rfl (by decide) (fun _ : Unit => [wX g x bd tr q p h sb sv, wB g bd st r n, wB g tr ts tq tn, wP g q a0 a1 a2 a3 a4 a5 a6 a7 s0 s1 s2 s3 s4 s5 s6 s7 s8 s9, wPd g p fb (ptx tx len w b b) (len + b) ex pl sh hu du, wB g fb fs fr fn, wH g h ho kp nx, wB g (ho 0) (hs 0) (hr 0) (hm 0), wB g (ho 1) (hs 1) (hr 1) (hm 1), wB g (ho 2) (hs 2) (hr 2) (hm 2), wB g (ho 3) (hs 3) (hr 3) (hm 3), wB g (ho 4) (hs 4) (hr 4) (hm 4), wB g (ho 5) (hs 5) (hr 5) (hm 5), wB g (sb 0) (ss 0) (sr 0) (sn 0), wB g (sb 1) (ss 1) (sr 1) (sn 1)]) (fun _ => rfl) (fun _ : Unit => ((ts, tq, tn, a0, a1, a2, a3, a4, a5, a6, a7, s0, s1, s2, s3, s4, s5, s6, s7, s8, s9, ex, pl, sh, hu, du, fs, fr, fn) : oJ)) (fun u _ => rfl) (fun _ _ => trivial) (fun u _ => List.append_nil _)

set_option maxHeartbeats 4000000 in
set_option maxRecDepth 100000 in
theorem tO_wipe (l : Launch) (g : zG) (x : Nat → Nat) (a : oA) (S : oS) (J : oJ) (hI : INV S) : Met l yX4_wipe wsX4_wipe ({ frames := 0, cells := 0, slots := 0, locals := 0 } : Room) (zPre g [.ref (x 0)] [wO g x a S J]) (zQ g (fun J2 : oJ => some (.int (nI (sLen S))) ) (fun J2 : oJ => True) (fun J2 : oJ => [wO g x a (uPad S (sTx S) 0) J2]) (zA [wO g x a S J])) 0 0 (zA [wO g x a S J]) := by
  obtain ⟨bd, tr, q, p, fb, h, ho, sb⟩ := a
  obtain ⟨st, r, n, sv, ss, sr, sn, kp, nx, hs, hr, hm, tx, len⟩ := S
  obtain ⟨ts, tq, tn, a0, a1, a2, a3, a4, a5, a6, a7, s0, s1, s2, s3, s4, s5, s6, s7, s8, s9, ex, pl, sh, hu, du, fs, fr, fn⟩ := J
  obtain ⟨⟨hn, hS, hJ, hR⟩, hKp, hNx, hH, hV, hIl, hIt⟩ := hI
  exact z_big (S1 := oJ) (wOc g x (bd, tr, q, p, fb, h, ho, sb) (st, r, n, sv, ss, sr, sn, kp, nx, hs, hr, hm, tx, len) (ts, tq, tn, a0, a1, a2, a3, a4, a5, a6, a7, s0, s1, s2, s3, s4, s5, s6, s7, s8, s9, ex, pl, sh, hu, du, fs, fr, fn)) (tX4_wipe l g x bd tr q p h sb sv fb tx len ex pl sh hu du ) (List.append_nil _) [0, 4] rfl rfl (zlc (N := 15) rfl rfl) [15, 1, 2, 3, 16, 5, 6, 7, 8, 9, 10, 11, 12, 13, 14] rfl (by decide) (fun _ : Unit => [wX g x bd tr q p h sb sv, wB g bd st r n, wB g tr ts tq tn, wP g q a0 a1 a2 a3 a4 a5 a6 a7 s0 s1 s2 s3 s4 s5 s6 s7 s8 s9, wPd g p fb tx 0 ex pl sh hu du, wB g fb fs fr fn, wH g h ho kp nx, wB g (ho 0) (hs 0) (hr 0) (hm 0), wB g (ho 1) (hs 1) (hr 1) (hm 1), wB g (ho 2) (hs 2) (hr 2) (hm 2), wB g (ho 3) (hs 3) (hr 3) (hm 3), wB g (ho 4) (hs 4) (hr 4) (hm 4), wB g (ho 5) (hs 5) (hr 5) (hm 5), wB g (sb 0) (ss 0) (sr 0) (sn 0), wB g (sb 1) (ss 1) (sr 1) (sn 1)]) (fun _ => rfl) (fun _ : Unit => ((ts, tq, tn, a0, a1, a2, a3, a4, a5, a6, a7, s0, s1, s2, s3, s4, s5, s6, s7, s8, s9, ex, pl, sh, hu, du, fs, fr, fn) : oJ)) (fun u _ => rfl) (fun _ _ => trivial) (fun u _ => List.append_nil _)

set_option maxHeartbeats 4000000 in
set_option maxRecDepth 100000 in
theorem tO_undo (l : Launch) (g : zG) (x : Nat → Nat) (a : oA) (S : oS) (J : oJ) (hI : INV S) (hk0 : 0 < (sKp S)) : Met l yX4_undo wsX4_undo ({ frames := 3, cells := 0, slots := 0, locals := 103 } : Room) (zPre g [.ref (x 0)] [wO g x a S J]) (zQ g (fun J2 : oJ => some (.int (nI ((sKp S) - 1))) ) (fun J2 : oJ => True) (fun J2 : oJ => [wO g x a (uPop S) J2]) (zA [wO g x a S J])) 0 0 (zA [wO g x a S J]) := by
  obtain ⟨bd, tr, q, p, fb, h, ho, sb⟩ := a
  obtain ⟨st, r, n, sv, ss, sr, sn, kp, nx, hs, hr, hm, tx, len⟩ := S
  obtain ⟨ts, tq, tn, a0, a1, a2, a3, a4, a5, a6, a7, s0, s1, s2, s3, s4, s5, s6, s7, s8, s9, ex, pl, sh, hu, du, fs, fr, fn⟩ := J
  obtain ⟨⟨hn, hS, hJ, hR⟩, hKp, hNx, hH, hV, hIl, hIt⟩ := hI
  exact z_big (S1 := oJ) (wOc g x (bd, tr, q, p, fb, h, ho, sb) (st, r, n, sv, ss, sr, sn, kp, nx, hs, hr, hm, tx, len) (ts, tq, tn, a0, a1, a2, a3, a4, a5, a6, a7, s0, s1, s2, s3, s4, s5, s6, s7, s8, s9, ex, pl, sh, hu, du, fs, fr, fn)) (tX4_undo_ok l g x bd tr q p h sb sv st r n ho hs hr hm kp nx hKp hNx hk0) (List.append_nil _) [0, 1, 6, 7, 8, 9, 10, 11, 12] rfl rfl (zlc (N := 15) rfl rfl) [15, 16, 2, 3, 4, 5, 17, 18, 19, 20, 21, 22, 23, 13, 14] rfl (by decide) (fun _ : Unit => [wX g x bd tr q p h sb sv, wB g bd (hs (bkx nx)) (hr (bkx nx)) (hm (bkx nx)), wB g tr ts tq tn, wP g q a0 a1 a2 a3 a4 a5 a6 a7 s0 s1 s2 s3 s4 s5 s6 s7 s8 s9, wPd g p fb tx len ex pl sh hu du, wB g fb fs fr fn, wH g h ho (kp - 1) (bkx nx), wB g (ho 0) (hs 0) (hr 0) (hm 0), wB g (ho 1) (hs 1) (hr 1) (hm 1), wB g (ho 2) (hs 2) (hr 2) (hm 2), wB g (ho 3) (hs 3) (hr 3) (hm 3), wB g (ho 4) (hs 4) (hr 4) (hm 4), wB g (ho 5) (hs 5) (hr 5) (hm 5), wB g (sb 0) (ss 0) (sr 0) (sn 0), wB g (sb 1) (ss 1) (sr 1) (sn 1)]) (fun _ => rfl) (fun _ : Unit => ((ts, tq, tn, a0, a1, a2, a3, a4, a5, a6, a7, s0, s1, s2, s3, s4, s5, s6, s7, s8, s9, ex, pl, sh, hu, du, fs, fr, fn) : oJ)) (fun u _ => rfl) (fun _ _ => trivial) (fun u _ => List.append_nil _)

set_option maxHeartbeats 4000000 in
set_option maxRecDepth 100000 in
theorem tO_save (l : Launch) (g : zG) (x : Nat → Nat) (a : oA) (S : oS) (J : oJ) (k : Nat) (hI : INV S) (hk : k ≤ 1) : Met l yX4_save wsX4_save ({ frames := 2, cells := 0, slots := 0, locals := 82 } : Room) (zPre g [.ref (x 0), .int (nI k)] [wO g x a S J]) (zQ g (fun J2 : oJ => some (.int (nI (sN S))) ) (fun J2 : oJ => True) (fun J2 : oJ => [wO g x a (uSave S k) J2]) (zA [wO g x a S J])) 0 0 (zA [wO g x a S J]) := by
  obtain ⟨bd, tr, q, p, fb, h, ho, sb⟩ := a
  obtain ⟨st, r, n, sv, ss, sr, sn, kp, nx, hs, hr, hm, tx, len⟩ := S
  obtain ⟨ts, tq, tn, a0, a1, a2, a3, a4, a5, a6, a7, s0, s1, s2, s3, s4, s5, s6, s7, s8, s9, ex, pl, sh, hu, du, fs, fr, fn⟩ := J
  obtain ⟨⟨hn, hS, hJ, hR⟩, hKp, hNx, hH, hV, hIl, hIt⟩ := hI
  exact z_big (S1 := oJ) (wOc g x (bd, tr, q, p, fb, h, ho, sb) (st, r, n, sv, ss, sr, sn, kp, nx, hs, hr, hm, tx, len) (ts, tq, tn, a0, a1, a2, a3, a4, a5, a6, a7, s0, s1, s2, s3, s4, s5, s6, s7, s8, s9, ex, pl, sh, hu, du, fs, fr, fn)) (tX4_save_ok l g x bd tr q p h sb sv st r n ss sr sn k hk) (List.append_nil _) [0, 1, 13, 14] rfl rfl (zlc (N := 15) rfl rfl) [15, 16, 2, 3, 4, 5, 6, 7, 8, 9, 10, 11, 12, 17, 18] rfl (by decide) (fun _ : Unit => [wX g x bd tr q p h sb (un sv k true), wB g bd st r n, wB g tr ts tq tn, wP g q a0 a1 a2 a3 a4 a5 a6 a7 s0 s1 s2 s3 s4 s5 s6 s7 s8 s9, wPd g p fb tx len ex pl sh hu du, wB g fb fs fr fn, wH g h ho kp nx, wB g (ho 0) (hs 0) (hr 0) (hm 0), wB g (ho 1) (hs 1) (hr 1) (hm 1), wB g (ho 2) (hs 2) (hr 2) (hm 2), wB g (ho 3) (hs 3) (hr 3) (hm 3), wB g (ho 4) (hs 4) (hr 4) (hm 4), wB g (ho 5) (hs 5) (hr 5) (hm 5), wB g (sb 0) ((un ss k st) 0) ((un sr k r) 0) ((un sn k n) 0), wB g (sb 1) ((un ss k st) 1) ((un sr k r) 1) ((un sn k n) 1)]) (fun _ => rfl) (fun _ : Unit => ((ts, tq, tn, a0, a1, a2, a3, a4, a5, a6, a7, s0, s1, s2, s3, s4, s5, s6, s7, s8, s9, ex, pl, sh, hu, du, fs, fr, fn) : oJ)) (fun u _ => rfl) (fun _ _ => trivial) (fun u _ => List.append_nil _)

set_option maxHeartbeats 4000000 in
set_option maxRecDepth 100000 in
theorem tO_restore (l : Launch) (g : zG) (x : Nat → Nat) (a : oA) (S : oS) (J : oJ) (k : Nat) (hI : INV S) (hk1 : k ≤ 1) (hb : (sV S) k = true) : Met l yX4_restore wsX4_restore ({ frames := 3, cells := 0, slots := 0, locals := 103 } : Room) (zPre g [.ref (x 0), .int (nI k)] [wO g x a S J]) (zQ g (fun J2 : oJ => some (.int (nI ((sSn S) k))) ) (fun J2 : oJ => True) (fun J2 : oJ => [wO g x a (uPush S (sSs S k) (sSr S k) (sSn S k)) J2]) (zA [wO g x a S J])) 0 0 (zA [wO g x a S J]) := by
  obtain ⟨bd, tr, q, p, fb, h, ho, sb⟩ := a
  obtain ⟨st, r, n, sv, ss, sr, sn, kp, nx, hs, hr, hm, tx, len⟩ := S
  obtain ⟨ts, tq, tn, a0, a1, a2, a3, a4, a5, a6, a7, s0, s1, s2, s3, s4, s5, s6, s7, s8, s9, ex, pl, sh, hu, du, fs, fr, fn⟩ := J
  obtain ⟨⟨hn, hS, hJ, hR⟩, hKp, hNx, hH, hV, hIl, hIt⟩ := hI
  exact z_big (S1 := oJ) (wOc g x (bd, tr, q, p, fb, h, ho, sb) (st, r, n, sv, ss, sr, sn, kp, nx, hs, hr, hm, tx, len) (ts, tq, tn, a0, a1, a2, a3, a4, a5, a6, a7, s0, s1, s2, s3, s4, s5, s6, s7, s8, s9, ex, pl, sh, hu, du, fs, fr, fn)) (tX4_restore_ok l g x bd tr q p h sb sv st r n ss sr sn ho hs hr hm kp nx k hKp hNx hk1 hb) (List.append_nil _) [0, 1, 13, 14, 6, 7, 8, 9, 10, 11, 12] rfl rfl (zlc (N := 15) rfl rfl) [15, 16, 2, 3, 4, 5, 19, 20, 21, 22, 23, 24, 25, 17, 18] rfl (by decide) (fun _ : Unit => [wX g x bd tr q p h sb sv, wB g bd (ss k) (sr k) (sn k), wB g tr ts tq tn, wP g q a0 a1 a2 a3 a4 a5 a6 a7 s0 s1 s2 s3 s4 s5 s6 s7 s8 s9, wPd g p fb tx len ex pl sh hu du, wB g fb fs fr fn, wH g h ho (min (kp + 1) 6) (if nx = 5 then 0 else nx + 1), wB g (ho 0) ((un hs nx st) 0) ((un hr nx r) 0) ((un hm nx n) 0), wB g (ho 1) ((un hs nx st) 1) ((un hr nx r) 1) ((un hm nx n) 1), wB g (ho 2) ((un hs nx st) 2) ((un hr nx r) 2) ((un hm nx n) 2), wB g (ho 3) ((un hs nx st) 3) ((un hr nx r) 3) ((un hm nx n) 3), wB g (ho 4) ((un hs nx st) 4) ((un hr nx r) 4) ((un hm nx n) 4), wB g (ho 5) ((un hs nx st) 5) ((un hr nx r) 5) ((un hm nx n) 5), wB g (sb 0) (ss 0) (sr 0) (sn 0), wB g (sb 1) (ss 1) (sr 1) (sn 1)]) (fun _ => rfl) (fun _ : Unit => ((ts, tq, tn, a0, a1, a2, a3, a4, a5, a6, a7, s0, s1, s2, s3, s4, s5, s6, s7, s8, s9, ex, pl, sh, hu, du, fs, fr, fn) : oJ)) (fun u _ => rfl) (fun _ _ => trivial) (fun u _ => List.append_nil _)

/-! LW: calls that want statics; the script; class and reference side by side. -/
theorem eSet.same {A : Nat → Prop} {u U : State} (e : u.vm = U.vm) (e2 : u.heap = U.heap) (h : eSet A u) : eSet A U := by
  obtain ⟨s1, s2, h1, h2⟩ := h
  exact ⟨s1, s2, h1.same e e2, h2.same e e2⟩
theorem eSet.later {A B : Nat → Prop} {s U : State} {locs : List Loc} (h : eSet A s) (hS : va_S A s.heap U.heap locs) (hW : s.WarmedH U.vm) (hAB : ∀ q, B q → A q) : eSet B U := by
  obtain ⟨s1, s2, h1, h2⟩ := h
  exact ⟨s1, s2, h1.later hS hW hAB, h2.later hS hW hAB⟩
theorem eOrd.same {A : Nat → Prop} {u U : State} (e : u.vm = U.vm) (e2 : u.heap = U.heap) (h : eOrd A u) : eOrd A U := by
  obtain ⟨s1, h1⟩ := h
  exact ⟨s1, h1.same e e2⟩
theorem eOrd.later {A B : Nat → Prop} {s U : State} {locs : List Loc} (h : eOrd A s) (hS : va_S A s.heap U.heap locs) (hW : s.WarmedH U.vm) (hAB : ∀ q, B q → A q) : eOrd B U := by
  obtain ⟨s1, h1⟩ := h
  exact ⟨s1, h1.later hS hW hAB⟩
section LWs
variable {K : zK} {R0 : Room} {own : String} {cc : ByteArray} {Ts : List Cond} {n k : Nat} {cs : List va_W} {lv : List (Nat × Value)} {pc : Nat} {st : List Value}
theorem z_runE {S : Type} {rv : S → Option Value} {post : S → Prop} {cs' : S → List va_W} {wc : List va_W} {stk rest : List Value} {a : Array Value}
    (hrun : ∀ (H : Heap) (locs : List Loc) (ls : Array Slot), va_P K.g.1 vwCl cs.flatten H → va_D K.A cs.flatten → va_S K.A K.s.heap H locs → lv_has ls K.nL lv → va_Run K.p K.l K.e K.R K.s K.m K.args K.below K.meth K.c H locs n k 0 0 (F0 K.m pc ls stk) rest (zQ K.g rv post cs' (zA wc) a) (zA wc))
    (isC : List Nat) (hC : isC.map (fun i => cs[i]?) = wc.map some) (hlc : ∀ x ∈ isC, x < cs.length) (src : List Nat) (hn : va_nd src = true) (hdis : ∀ x ∈ src, x ∉ isC) (cs2 : S → List va_W) (hs : ∀ u, src.map (fun i => (cs ++ cs' u)[i]?) = (cs2 u).map some) (q : Nat) (hq : pc + 3 = q)
    (kk : ∀ u, post u → Z K n k (cs2 u) lv q ((rv u).toList ++ rest)) : Z K n k cs lv pc stk := by
  subst hq
  intro H locs ls hP hD hS hl T hT X
  obtain ⟨v, st₀, t, T', L, h0, X', hL, e1, e2, ⟨⟨u, hv, hp, hP1, hD1⟩, hz, hk⟩, sts⟩ := hrun H locs ls hP hD hS hl T hT X
  cases hv
  rw [h0] at hz hk
  have hfree := zA_sub hD isC hC
  obtain ⟨hP2, hD2⟩ := zjoin (H1 := T'.heap) hP hD isC hC src (hs u) hn hdis hlc (fun q h1 h2 => by rw [e1]; exact hk q h1 h2) (by rw [e1]; exact hP1) hD1
  obtain ⟨t2, a1, b1⟩ := kk u hp T'.heap (locs ++ L) ls hP2 hD2 ⟨Nat.le_trans hS.1 (by rw [e1]; exact hz), fun q h1 h2 => by rw [e1, hk q (Nat.lt_of_lt_of_le h1 hS.1) (fun z => h2 (hfree q z))]; exact hS.2.1 q h1 h2, fun q hq => by
    rcases List.mem_append.mp hq with h | h
    · exact hS.2.2 q h
    · exact hfree _ (hL q h)⟩ hl T' rfl X'
  exact ⟨t2, sts t2 a1, b1⟩
/-- a call of a method that reads statics -/
theorem z_callVE {S : Type} {rv : S → Option Value} {post : S → Prop} {cs' : S → List va_W} {wc : List va_W} {stk : List Value} {y : MethodName} {ws ws' : List Cond} {rm : Room} {Cn : String} {index maxL ci na N : Nat} {T : u_T} {bytes : ByteArray} {ret : Option FieldType} {b : Nat} {c : va_W} {fs : List Value} {E : (Nat → Prop) → State → Prop}
    (hEs : ∀ (A : Nat → Prop) (u U : State), u.vm = U.vm → u.heap = U.heap → E A u → E A U) (hEl : ∀ (B : Nat → Prop) (U : State) (locs : List Loc), va_S K.A K.s.heap U.heap locs → K.s.WarmedH U.vm → (∀ q, B q → K.A q) → E B U)
    (C : Cx K R0 own cc Ts) (As rest : List Value) (hM : Met K.l y ws rm (zPreE K.g E (.ref b :: As) wc) (zQ K.g rv post cs' (zA wc)) 0 0 (zA wc)) (hG : GoodIn Ts (wsV own index Cn y ws)) (hw : ws = Cond.code y bytes maxL ret :: ws') (hrm1 : rm.cells = 0) (hrm2 : rm.slots = 0)
    (hd4 : y.cls = Cn ∧ y.cls ≠ "java/lang/invoke/MethodHandle" ∧ y.cls ≠ "java/lang/invoke/VarHandle" ∧ (parseMethodDescriptor y.desc).map (fun d => d.parameters.length) = some na) (hR4 : rm.frames + 1 ≤ R0.frames ∧ 8 + (maxL + 11) + rm.locals ≤ R0.locals) (hnk : n ≤ R0.cells ∧ k ≤ R0.slots)
    (i j : Nat) (hi : cs[i]? = some c) (he : c[j]? = some (b, .inr (ci, fs))) (hcl : vwCl[ci]? = some (Cn, T, N))
    (isC : List Nat) (hC : isC.map (fun i => cs[i]?) = wc.map some) (hnC : va_nd isC = true) (hlc : ∀ x ∈ isC, x < cs.length) (src : List Nat) (hn : va_nd src = true) (hdis : ∀ x ∈ src, x ∉ isC) (cs2 : S → List va_W) (hs : ∀ u, src.map (fun i => (cs ++ cs' u)[i]?) = (cs2 u).map some)
    (hnA : As.length = na) (hst : stk = As.reverse ++ .ref b :: rest) (hW8 : (rest.map fun v => v.category).sum ≤ 8) (hdg : decode cc pc = .ok (.invokevirtual index, 3)) (q : Nat) (hq : pc + 3 = q)
    (kk : ∀ u, post u → Z K n k (cs2 u) lv q ((rv u).toList ++ rest)) : Z K n k cs lv pc stk := by
  refine z_runE (wc := wc) (a := (Value.ref b :: As).toArray) (fun H locs ls hP hD hS hl => ?_) isC hC hlc src hn hdis cs2 hs q hq kk
  refine va_runV (As := As) (rest := rest) C.1 hM (cwV na C.ts hG hw hrm1 hrm2 hd4 (by rw [C.r]; exact hR4)) ⟨fun a U f mk q => ?_, va_recv C.ka hP hcl (zfl_get hi he), fun U hU hWm => ?_⟩ rfl hnA hl.1 hst (lv_room hW8) hdg (by rw [C.r]; exact hnk)
  · exact ⟨zPre_blind _ _ _ a U f mk q.1, hEs _ U (U.calling f mk a) rfl rfl q.2⟩
  · exact ⟨⟨rfl, by rw [hU]; exact zsubP hP isC hC, C.kp.warm hWm, (zsubD hD isC hnC hC).weaken (fun _ _ _ _ => trivial)⟩, hEl _ U locs (by rw [hU]; exact hS) hWm (zA_sub hD isC hC)⟩
/-- the script -/
theorem z_xld (C : Cx K R0 own cc Ts) {b L x : Nat} {xs : Nat → Int32} (hX : va_X b L xs K.s K.s.heap) (hlt : b < K.s.heap.size) (hA : ¬ K.A b) (hx : x < L) (hL : L < 2 ^ 31) (hd : decode cc pc = .ok (.iaload, 1)) (q : Nat) (hq : pc + 1 = q) (kk : Z K n k cs lv q (.int (xs x) :: st)) : Z K n k cs lv pc (.int (nI x) :: .ref b :: st) := by
  subst hq
  intro H locs ls hP hD hS hl
  have h := kk H locs ls hP hD hS hl
  rw [show xs x = xs (nI x).toNatClampNeg by rw [nI_clamp (Nat.lt_trans hx hL)]] at h
  exact va_sld C.x C.b hX hlt hA hS (vp_in_nI hx hL) hd h
theorem z_xlen (C : Cx K R0 own cc Ts) {b L : Nat} {xs : Nat → Int32} (hX : va_X b L xs K.s K.s.heap) (hlt : b < K.s.heap.size) (hA : ¬ K.A b) (hd : decode cc pc = .ok (.arraylength, 1)) (q : Nat) (hq : pc + 1 = q) (kk : Z K n k cs lv q (.int (nI L) :: st)) : Z K n k cs lv pc (.ref b :: st) := by
  subst hq
  exact fun H locs ls hP hD hS hl => va_slen C.x C.b hX hlt hA hS hd (kk H locs ls hP hD hS hl)
end LWs
/-! what holds between the calls -/
def GB (st : Nat → Nat) (r : Nat → Nat → Nat) (n : Nat) : Prop := n ≤ 12 ∧ okS st ∧ okJ r n ∧ okR st r n (st 5)
/-- where the e-th of kp kept boards lies in the ring -/
def rgI (kp nx e : Nat) : Nat := (nx + 6 - kp + e) % 6
def IT (tx : Nat → Nat) (len : Nat) : Prop := len ≤ 60 ∧ ∀ i, i < len → tx i ≤ 126
theorem GB_ini : GB fiS (fun _ _ => 0) 0 := ⟨by omega, by unfold okS; decide, fun j hj => by omega, fun j hj => by omega⟩
theorem IT_0 {tx : Nat → Nat} : IT tx 0 := ⟨by omega, fun i hi => by omega⟩
theorem ptx_le {tx : Nat → Nat} {len w a : Nat} (h : IT tx len) (hb : ∀ d, d < a → w / 2 ^ (8 * (a - d - 1)) % 256 ≤ 126) : ∀ d, d ≤ a → ∀ i, i < len + d → ptx tx len w a d i ≤ 126
  | 0, _, i, hi => h.2 i hi
  | d + 1, hd, i, hi => by
    show un (ptx tx len w a d) (len + d) (w / 2 ^ (8 * (a - d - 1)) % 256) i ≤ 126
    by_cases e : i = len + d
    · subst e; rw [un_s]; exact hb d (by omega)
    · rw [un_n e]; exact ptx_le h hb d (by omega) i (by omega)
theorem chF_bd : ∀ f i w a, chF i f w = a → 0 < a → i ≤ a ∧ ∀ e, e < a - i → 33 ≤ w / 256 ^ e % 256 ∧ w / 256 ^ e % 256 ≤ 126
  | 0, i, w, a, h, _ => by
    have h : i = a := h
    exact ⟨by omega, fun e he => by omega⟩
  | f + 1, i, w, a, h, h0 => by
    have h : (if w = 0 then i else if 33 ≤ w % 256 ∧ w % 256 ≤ 126 then chF (i + 1) f (w / 256) else 0) = a := h
    by_cases e0 : w = 0
    · rw [if_pos e0] at h
      exact ⟨by omega, fun e he => by omega⟩
    · rw [if_neg e0] at h
      by_cases e1 : 33 ≤ w % 256 ∧ w % 256 ≤ 126
      · rw [if_pos e1] at h
        obtain ⟨g1, g2⟩ := chF_bd f (i + 1) (w / 256) a h h0
        refine ⟨by omega, fun e he => ?_⟩
        cases e with
        | zero => rw [Nat.pow_zero, Nat.div_one]; exact e1
        | succ e =>
          have := g2 e (by omega)
          rw [Nat.div_div_eq_div_mul, Nat.mul_comm, ← Nat.pow_succ] at this
          exact this
      · rw [if_neg e1] at h
        omega
theorem chF_le : ∀ f i w, chF i f w ≤ i + f
  | 0, i, _ => Nat.le_refl i
  | f + 1, i, w => by
    show (if w = 0 then i else if 33 ≤ w % 256 ∧ w % 256 ≤ 126 then chF (i + 1) f (w / 256) else 0) ≤ i + (f + 1)
    have := chF_le f (i + 1) (w / 256)
    (repeat' split) <;> omega
theorem IT_put {tx : Nat → Nat} {len w a : Nat} (h : IT tx len) (hb : chF 0 8 w = a) (ha : 0 < a) (hf : len + a ≤ 60) : IT (ptx tx len w a a) (len + a) := by
  refine ⟨hf, ptx_le h (fun d hd => ?_) a (Nat.le_refl a)⟩
  have h1 := (chF_bd 8 0 w a hb ha).2 (a - d - 1) (by omega)
  rw [show 2 ^ (8 * (a - d - 1)) = 256 ^ (a - d - 1) by rw [Nat.pow_mul]]
  exact h1.2

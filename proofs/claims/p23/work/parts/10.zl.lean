/-! ZL: worlds in chunks. A world is a list of chunks (lists of cells); Z K n k cs lv pc st: from the frame at pc, with locals lv, operand stack st and the world cs, the machine comes to K's end. -/
abbrev zG : Type := va_G × (Nat → ClassId)
abbrev zK : Type := (Program × Launch × Env × Room × State × MethodId × Array Value × List Frame × Method × Code) × (State → Prop) × zG × (Nat → Prop) × Nat
abbrev zK.p (K : zK) : Program := K.1.1
abbrev zK.l (K : zK) : Launch := K.1.2.1
abbrev zK.e (K : zK) : Env := K.1.2.2.1
abbrev zK.R (K : zK) : Room := K.1.2.2.2.1
abbrev zK.s (K : zK) : State := K.1.2.2.2.2.1
abbrev zK.m (K : zK) : MethodId := K.1.2.2.2.2.2.1
abbrev zK.args (K : zK) : Array Value := K.1.2.2.2.2.2.2.1
abbrev zK.below (K : zK) : List Frame := K.1.2.2.2.2.2.2.2.1
abbrev zK.meth (K : zK) : Method := K.1.2.2.2.2.2.2.2.2.1
abbrev zK.c (K : zK) : Code := K.1.2.2.2.2.2.2.2.2.2
abbrev zK.Q (K : zK) : State → Prop := K.2.1
abbrev zK.g (K : zK) : zG := K.2.2.1
abbrev zK.A (K : zK) : Nat → Prop := K.2.2.2.1
abbrev zK.nL (K : zK) : Nat := K.2.2.2.2
abbrev zT (g : zG) : List (ClassId × FieldType) := [(g.2 0, .int), (g.2 1, .array .int), (g.2 2, .object "PrintRacks$Board"), (g.2 3, .boolean)]
def Z (K : zK) (n k : Nat) (cs : List va_W) (lv : List (Nat × Value)) (pc : Nat) (st : List Value) : Prop :=
  ∀ (H : Heap) (locs : List Loc) (ls : Array Slot), va_P K.g.1 vwCl cs.flatten H → va_D K.A cs.flatten → va_S K.A K.s.heap H locs → lv_has ls K.nL lv →
    W K.p K.l K.e K.R K.s K.m K.args K.below K.meth K.c H locs n k K.Q (F0 K.m pc ls st)
/-- the words on nest mates, which no method's own list bears -/
def zN (U : State) : Prop := va_Nw (.methodLinkNest RX0 49 yX4_racksFor RX4) U ∧ va_Nw (.methodLinkNest RX2 39 yX4_within RX4) U ∧ va_Nw (.methodLinkNest RX3 95 yX4_racksFor RX4) U ∧ va_Nw (.methodLinkNest RX4 21 yX3_init RX4) U ∧ va_Nw (.methodLinkNest RX4 28 yX2_init RX4) U ∧ va_Nw (.fieldLinkNest RX0 15 RX4 "FIRST_SETTING" "[I" RX4) U
theorem zN.warm {s U : State} (hW : s.WarmedH U.vm) (h : zN s) : zN U := ⟨h.1.warmM hW, h.2.1.warmM hW, h.2.2.1.warmM hW, h.2.2.2.1.warmM hW, h.2.2.2.2.1.warmM hW, h.2.2.2.2.2.warmF hW⟩
theorem zN.same {u U : State} (e : u.vm = U.vm) (h : zN u) : zN U := ⟨h.1.same rfl e, h.2.1.same rfl e, h.2.2.1.same rfl e, h.2.2.2.1.same rfl e, h.2.2.2.2.1.same rfl e, h.2.2.2.2.2.same rfl e⟩
def zKp (g : zG) (U : State) : Prop := va_K g.1 vwCl (zT g) U ∧ zN U
theorem zKp.warm {g : zG} {s U : State} (hW : s.WarmedH U.vm) (h : zKp g s) : zKp g U := ⟨va_K.moved hW.alike h.1, h.2.warm hW⟩
theorem zKp.same {g : zG} {u U : State} (e : u.vm = U.vm) (h : zKp g u) : zKp g U := ⟨va_K.moved (by rw [e]; exact Vm.Alike.refl U.vm) h.1, h.2.same e⟩
def Cx (K : zK) (R0 : Room) (own : String) (cc : ByteArray) (Ts : List Cond) : Prop :=
  CallFix K.p K.m K.c cc K.nL K.s K.args Ts own ∧ zKp K.g K.s ∧ K.R = R0
/-- the flat place of a chunk's first cell -/
def zo : List va_W → Nat → Nat
  | [], _ => 0
  | _ :: _, 0 => 0
  | c :: cs, i + 1 => c.length + zo cs i
theorem zfl_get : ∀ {cs : List va_W} {i k : Nat} {c : va_W} {x : Nat × va_E}, cs[i]? = some c → c[k]? = some x → cs.flatten[zo cs i + k]? = some x
  | [], _, _, _, _, h, _ => by simp at h
  | d :: cs, 0, k, c, x, h, hk => by
    rw [List.getElem?_cons_zero] at h
    cases h
    show (d ++ cs.flatten)[0 + k]? = _
    rw [Nat.zero_add, List.getElem?_append_left (List.getElem?_eq_some_iff.mp hk).1]
    exact hk
  | d :: cs, i + 1, k, c, x, h, hk => by
    rw [List.getElem?_cons_succ] at h
    show (d ++ cs.flatten)[d.length + zo cs i + k]? = _
    rw [Nat.add_assoc, List.getElem?_append_right (Nat.le_add_right _ _), Nat.add_sub_cancel_left]
    exact zfl_get h hk
theorem zfl_inv : ∀ {cs : List va_W} {q : Nat} {x : Nat × va_E}, cs.flatten[q]? = some x → ∃ (i k : Nat) (c : va_W), cs[i]? = some c ∧ c[k]? = some x ∧ q = zo cs i + k
  | [], _, _, h => by simp at h
  | d :: cs, q, x, h => by
    have h : (d ++ cs.flatten)[q]? = some x := h
    by_cases hl : q < d.length
    · rw [List.getElem?_append_left hl] at h
      exact ⟨0, q, d, rfl, h, (Nat.zero_add q).symm⟩
    · rw [List.getElem?_append_right (by omega)] at h
      obtain ⟨i, k, c, h1, h2, h3⟩ := zfl_inv h
      exact ⟨i + 1, k, c, by rw [List.getElem?_cons_succ]; exact h1, h2, by show q = d.length + zo cs i + k; omega⟩
theorem zfl_un : ∀ {cs : List va_W} {i j k l : Nat} {c d : va_W}, cs[i]? = some c → cs[j]? = some d → k < c.length → l < d.length → zo cs i + k = zo cs j + l → i = j ∧ k = l
  | [], _, _, _, _, _, _, h, _, _, _, _ => by simp at h
  | e :: cs, 0, 0, k, l, c, d, _, _, _, _, he => by
    have he : 0 + k = 0 + l := he
    exact ⟨rfl, by omega⟩
  | e :: cs, 0, j + 1, k, l, c, d, h, _, hk, _, he => by
    rw [List.getElem?_cons_zero] at h
    cases h
    have he : 0 + k = e.length + zo cs j + l := he
    omega
  | e :: cs, i + 1, 0, k, l, c, d, _, h, _, hl, he => by
    rw [List.getElem?_cons_zero] at h
    cases h
    have he : e.length + zo cs i + k = 0 + l := he
    omega
  | e :: cs, i + 1, j + 1, k, l, c, d, h1, h2, hk, hl, he => by
    rw [List.getElem?_cons_succ] at h1 h2
    have he : e.length + zo cs i + k = e.length + zo cs j + l := he
    obtain ⟨a, b⟩ := zfl_un h1 h2 hk hl (by omega)
    exact ⟨by rw [a], b⟩
theorem zfl_set : ∀ {cs : List va_W} {i k : Nat} {c : va_W} (x : Nat × va_E), cs[i]? = some c → k < c.length → (cs.set i (c.set k x)).flatten = cs.flatten.set (zo cs i + k) x
  | [], _, _, _, _, h, _ => by simp at h
  | d :: cs, 0, k, c, x, h, hk => by
    rw [List.getElem?_cons_zero] at h
    cases h
    show (d.set k x ++ cs.flatten) = (d ++ cs.flatten).set (0 + k) x
    rw [Nat.zero_add, List.set_append, if_pos hk]
  | d :: cs, i + 1, k, c, x, h, hk => by
    rw [List.getElem?_cons_succ] at h
    show (d ++ (cs.set i (c.set k x)).flatten) = (d ++ cs.flatten).set (d.length + zo cs i + k) x
    rw [List.set_append, if_neg (by omega), zfl_set x h hk]
    congr 2
    omega
theorem zat {α : Type} {cs cs' : List α} {is : List Nat} (hs : is.map (fun i => cs[i]?) = cs'.map some) {k : Nat} {c : α} (h : cs'[k]? = some c) : ∃ i : Nat, is[k]? = some i ∧ cs[i]? = some c := by
  have h1 : (is.map (fun i => cs[i]?))[k]? = some (some c) := by rw [hs, List.getElem?_map, h]; rfl
  rw [List.getElem?_map] at h1
  cases hi : is[k]? with
  | none => rw [hi] at h1; cases h1
  | some i => rw [hi] at h1; exact ⟨i, rfl, Option.some.inj h1⟩
theorem zlen {c : va_W} {k : Nat} {x : Nat × va_E} (h : c[k]? = some x) : k < c.length := (List.getElem?_eq_some_iff.mp h).1
theorem zsubP {D : va_G} {cl : List vw_C} {H : Heap} {cs cs' : List va_W} (h : va_P D cl cs.flatten H) (is : List Nat) (hs : is.map (fun i => cs[i]?) = cs'.map some) : va_P D cl cs'.flatten H := by
  intro q x hq
  obtain ⟨i, k, c, h1, h2, -⟩ := zfl_inv hq
  obtain ⟨i0, -, h3⟩ := zat hs h1
  exact h _ x (zfl_get h3 h2)
theorem zsubD {A : Nat → Prop} {cs cs' : List va_W} (h : va_D A cs.flatten) (is : List Nat) (hn : va_nd is = true) (hs : is.map (fun i => cs[i]?) = cs'.map some) : va_D A cs'.flatten := by
  refine ⟨fun a b x y ha hb hxy => ?_, fun q x hq => ?_⟩
  · obtain ⟨i, k, c, h1, h2, h3⟩ := zfl_inv ha
    obtain ⟨j, l, d, g1, g2, g3⟩ := zfl_inv hb
    obtain ⟨i0, e1, e2⟩ := zat hs h1
    obtain ⟨j0, f1, f2⟩ := zat hs g1
    obtain ⟨u1, u2⟩ := zfl_un e2 f2 (zlen h2) (zlen g2) (h.1 _ _ x y (zfl_get e2 h2) (zfl_get f2 g2) hxy)
    subst u1
    have hij := va_nd_inj is hn i j i0 e1 f1
    subst hij
    rw [h3, g3, u2]
  · obtain ⟨i, k, c, h1, h2, -⟩ := zfl_inv hq
    obtain ⟨i0, -, h3⟩ := zat hs h1
    exact h.2 _ x (zfl_get h3 h2)
/-- the addresses of a world -/
def zA (cs : List va_W) : Nat → Prop := fun q => ∃ (k : Nat) (e : va_E), cs.flatten[k]? = some (q, e)
theorem zA_in {cs : List va_W} {k : Nat} {x : Nat × va_E} (h : cs.flatten[k]? = some x) : zA cs x.1 := ⟨k, x.2, h⟩
theorem zA_sub {A0 : Nat → Prop} {cs wc : List va_W} (hD : va_D A0 cs.flatten) (isC : List Nat) (hC : isC.map (fun i => cs[i]?) = wc.map some) : ∀ q, zA wc q → A0 q := by
  intro q ⟨k, e, h⟩
  obtain ⟨i, j, c, h1, h2, -⟩ := zfl_inv h
  obtain ⟨i0, -, h3⟩ := zat hC h1
  exact hD.2 _ (q, e) (zfl_get h3 h2)
theorem zjoin {A0 : Nat → Prop} {D : va_G} {cl : List vw_C} {cs wc nw cs2 : List va_W} {H H1 : Heap} (hP : va_P D cl cs.flatten H) (hD : va_D A0 cs.flatten) (isC : List Nat) (hC : isC.map (fun i => cs[i]?) = wc.map some)
    (src : List Nat) (hs : src.map (fun i => (cs ++ nw)[i]?) = cs2.map some) (hn : va_nd src = true) (hdis : ∀ x ∈ src, x ∉ isC) (hlc : ∀ x ∈ isC, x < cs.length)
    (hk : ∀ q : Nat, q < H.size → ¬ zA wc q → H1[q]? = H[q]?) (hP1 : va_P D cl nw.flatten H1) (hD1 : va_D (zA wc) nw.flatten) : va_P D cl cs2.flatten H1 ∧ va_D A0 cs2.flatten := by
  have split : ∀ {i k : Nat} {c : va_W} {x : Nat × va_E}, cs2[i]? = some c → c[k]? = some x → (∃ j : Nat, src[i]? = some j ∧ cs[j]? = some c ∧ j ∉ isC) ∨ (∃ j : Nat, src[i]? = some (cs.length + j) ∧ nw[j]? = some c) := by
    intro i k c x h1 _
    obtain ⟨j, e1, e2⟩ := zat hs h1
    by_cases hl : j < cs.length
    · rw [List.getElem?_append_left hl] at e2
      exact Or.inl ⟨j, e1, e2, hdis j (List.mem_of_getElem? e1)⟩
    · rw [List.getElem?_append_right (by omega)] at e2
      exact Or.inr ⟨j - cs.length, by rw [e1]; congr 1; omega, e2⟩
  have apart : ∀ {j k : Nat} {c : va_W} {x : Nat × va_E}, cs[j]? = some c → j ∉ isC → c[k]? = some x → ¬ zA wc x.1 := by
    intro j k c x h1 hj h2 ⟨l, e, h3⟩
    obtain ⟨t, u, d, g1, g2, -⟩ := zfl_inv h3
    obtain ⟨i0, f1, f2⟩ := zat hC g1
    obtain ⟨u1, -⟩ := zfl_un h1 f2 (zlen h2) (zlen g2) (hD.1 _ _ x (x.1, e) (zfl_get h1 h2) (zfl_get f2 g2) rfl)
    subst u1
    exact hj (List.mem_of_getElem? f1)
  refine ⟨fun q x hq => ?_, fun a b x y ha hb hxy => ?_, fun q x hq => ?_⟩
  · obtain ⟨i, k, c, h1, h2, -⟩ := zfl_inv hq
    rcases split h1 h2 with ⟨j, -, e2, e3⟩ | ⟨j, -, e2⟩
    · have h5 := hP _ x (zfl_get e2 h2)
      exact h5.kept (hk _ h5.lt (apart e2 e3 h2))
    · exact hP1 _ x (zfl_get e2 h2)
  · obtain ⟨i, k, c, h1, h2, h3⟩ := zfl_inv ha
    obtain ⟨j, l, d, g1, g2, g3⟩ := zfl_inv hb
    rcases split h1 h2 with ⟨i0, e1, e2, e3⟩ | ⟨i0, e1, e2⟩ <;> rcases split g1 g2 with ⟨j0, f1, f2, f3⟩ | ⟨j0, f1, f2⟩
    · obtain ⟨u1, u2⟩ := zfl_un e2 f2 (zlen h2) (zlen g2) (hD.1 _ _ x y (zfl_get e2 h2) (zfl_get f2 g2) hxy)
      subst u1
      have hij := va_nd_inj src hn i j i0 e1 f1
      subst hij
      rw [h3, g3, u2]
    · exact absurd (by rw [hxy]; exact hD1.2 _ y (zfl_get f2 g2)) (apart e2 e3 h2)
    · exact absurd (by rw [← hxy]; exact hD1.2 _ x (zfl_get e2 h2)) (apart f2 f3 g2)
    · obtain ⟨u1, u2⟩ := zfl_un e2 f2 (zlen h2) (zlen g2) (hD1.1 _ _ x y (zfl_get e2 h2) (zfl_get f2 g2) hxy)
      subst u1
      have hij := va_nd_inj src hn i j _ e1 f1
      subst hij
      rw [h3, g3, u2]
  · obtain ⟨i, k, c, h1, h2, -⟩ := zfl_inv hq
    rcases split h1 h2 with ⟨j, -, e2, -⟩ | ⟨j, -, e2⟩
    · exact hD.2 _ x (zfl_get e2 h2)
    · exact zA_sub hD isC hC _ (hD1.2 _ x (zfl_get e2 h2))

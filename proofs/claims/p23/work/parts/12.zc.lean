/-! ZC: a method's start and ends, calls, Math.max and min, arraycopy over Z. -/
def zPre (g : zG) (av : List Value) (cs : List va_W) : Array Value → State → Prop := va_Pc av (fun U => va_P g.1 vwCl cs.flatten U.heap ∧ zKp g U ∧ va_D (fun _ => True) cs.flatten)
def zQ {S : Type} (g : zG) (rv : S → Option Value) (post : S → Prop) (cs' : S → List va_W) (A : Nat → Prop) : Array Value → State → Outcome → State → Prop := fun _ st oc t =>
  (∃ u : S, oc = .returned (rv u) ∧ post u ∧ va_P g.1 vwCl (cs' u).flatten t.heap ∧ va_D A (cs' u).flatten) ∧ va_F A st t
def Rx {S : Type} (K : zK) (ret : Option FieldType) (rv : S → Option Value) (post : S → Prop) (cs' : S → List va_W) (A : Nat → Prop) : Prop :=
  K.Q = MQ K.below (zQ K.g rv post cs' A) K.args K.s 0 0 A ∧ K.A = A ∧ K.meth.sig.returnType = ret ∧ K.meth.locks = false
theorem zPre_blind (g : zG) (av : List Value) (cs : List va_W) : FrameBlind (zPre g av cs) := fun a U f mk q => by
  obtain ⟨q0, qP, qK, qD⟩ := q
  exact ⟨q0, qP, zKp.same (u := U) (U := U.calling f mk a) rfl qK, qD⟩
theorem z_entry {l : Launch} {g : zG} {y : MethodName} {ws ws' : List Cond} {cc : ByteArray} {maxL : Nat} {ret : Option FieldType} {S : Type} {rv : S → Option Value} {post : S → Prop} {cs' : S → List va_W} {cs0 : List va_W} {av : List Value} {rm : Room} {own : String}
    (hy : plainName y.cls = true) (hw : ws = Cond.code y cc maxL ret :: ws') (hown : y.cls = own) (hn : (lg_sl av).length ≤ maxL) (lv0 : List (Nat × Value)) (hlv : lv_args 0 av = lv0)
    (body : ∀ K : zK, K.l = l → K.g = g → K.nL = maxL → Cx K rm own cc ws → Rx K ret rv post cs' (zA cs0) → Z K 0 0 cs0 lv0 0 []) : Met l y ws rm (zPre g av cs0) (zQ g rv post cs' (zA cs0)) 0 0 (zA cs0) := by
  refine Met.ofW (cc := cc) (maxL := maxL) (ret := ret) hy hw ?_
  intro p e s m args below meth c s₁ B hml hv
  obtain ⟨rfl, hP, hK, hD0⟩ := hv
  have hx := B.exec
  have hb := B.bytes
  have hr := B.returns
  have hts := atoms_spec (ws := ws) B.pre
  have hown2 : s.vm.findClass own = some m.cls := by rw [← hown]; exact findClass_of_methodNamed B.named
  have hlocks := B.notSynchronized
  have hD : va_D (zA cs0) cs0.flatten := ⟨hD0.1, fun k q h => ⟨k, q.2, h⟩⟩
  have hl := lv_entry av (n := maxL) hn
  rw [lg_entry_eq]
  generalize (lg_sl av ++ List.replicate (maxL - (lg_sl av).length) Slot.unset).toArray = ls at hl ⊢
  rw [hlv] at hl
  exact body ⟨(p, l, e, (headSpec ws rm).room, s, m, av.toArray, below, meth, c), MQ below (zQ g rv post cs' (zA cs0)) av.toArray s 0 0 (zA cs0), g, zA cs0, maxL⟩ rfl rfl rfl ⟨⟨hx, hb, hml, hown2, hts⟩, hK, rfl⟩ ⟨rfl, rfl, hr, hlocks⟩ s.heap [] ls hP hD va_S.rf hl
section ZCs
variable {K : zK} {R0 : Room} {own : String} {cc : ByteArray} {Ts : List Cond} {n k : Nat} {cs : List va_W} {lv : List (Nat × Value)} {pc : Nat} {st : List Value}
theorem z_vret {S : Type} {rv : S → Option Value} {post : S → Prop} {cs' : S → List va_W} {A : Nat → Prop} (C : Cx K R0 own cc Ts) (R : Rx K none rv post cs' A) (hd : decode cc pc = .ok (.return_, 1)) (u : S) (hv : rv u = none) (hp : post u) (hc : cs = cs' u) : Z K 0 0 cs lv pc [] := by
  subst hc
  obtain ⟨hQ, hA, hr, hlk⟩ := R
  subst hA
  intro H locs ls hP hD hS hl
  rw [hQ]
  exact W.vret C.x C.b hr (fun t ht hW => ⟨⟨u, by rw [hv], hp, by rw [ht]; exact hP, hD⟩, hS.F ht⟩) hS.2.2 hd hlk
theorem z_iret {S : Type} {rv : S → Option Value} {post : S → Prop} {cs' : S → List va_W} {A : Nat → Prop} {v : Int32} (C : Cx K R0 own cc Ts) (R : Rx K (some .int) rv post cs' A) (hd : decode cc pc = .ok (.ireturn, 1)) (u : S) (hv : rv u = some (.int v)) (hp : post u) (hc : cs = cs' u) : Z K 0 0 cs lv pc [.int v] := by
  subst hc
  obtain ⟨hQ, hA, hr, hlk⟩ := R
  subst hA
  intro H locs ls hP hD hS hl
  rw [hQ]
  exact W.iret C.x C.b hr (fun t ht hW => ⟨⟨u, by rw [hv], hp, by rw [ht]; exact hP, hD⟩, hS.F ht⟩) hS.2.2 hd hlk
theorem z_bret {S : Type} {rv : S → Option Value} {post : S → Prop} {cs' : S → List va_W} {A : Nat → Prop} {v : Bool} (C : Cx K R0 own cc Ts) (R : Rx K (some .boolean) rv post cs' A) (hd : decode cc pc = .ok (.ireturn, 1)) (u : S) (hv : rv u = some (.int (bI v))) (hp : post u) (hc : cs = cs' u) : Z K 0 0 cs lv pc [.int (bI v)] := by
  subst hc
  obtain ⟨hQ, hA, hr, hlk⟩ := R
  subst hA
  intro H locs ls hP hD hS hl
  rw [hQ]
  exact W.zret C.x C.b hr (by cases v <;> rfl) (fun t ht hW => ⟨⟨u, by rw [hv], hp, by rw [ht]; exact hP, hD⟩, hS.F ht⟩) hS.2.2 hd hlk
theorem z_run {S : Type} {rv : S → Option Value} {post : S → Prop} {cs' : S → List va_W} {wc : List va_W} {stk rest : List Value} {a : Array Value}
    (hrun : ∀ (H : Heap) (locs : List Loc) (ls : Array Slot), va_P K.g.1 vwCl cs.flatten H → va_D K.A cs.flatten → lv_has ls K.nL lv → va_Run K.p K.l K.e K.R K.s K.m K.args K.below K.meth K.c H locs n k 0 0 (F0 K.m pc ls stk) rest (zQ K.g rv post cs' (zA wc) a) (zA wc))
    (isC : List Nat) (hC : isC.map (fun i => cs[i]?) = wc.map some) (hlc : ∀ x ∈ isC, x < cs.length) (src : List Nat) (hn : va_nd src = true) (hdis : ∀ x ∈ src, x ∉ isC) (cs2 : S → List va_W) (hs : ∀ u, src.map (fun i => (cs ++ cs' u)[i]?) = (cs2 u).map some) (q : Nat) (hq : pc + 3 = q)
    (kk : ∀ u, post u → Z K n k (cs2 u) lv q ((rv u).toList ++ rest)) : Z K n k cs lv pc stk := by
  subst hq
  intro H locs ls hP hD hS hl T hT X
  obtain ⟨v, st₀, t, T', L, h0, X', hL, e1, e2, ⟨⟨u, hv, hp, hP1, hD1⟩, hz, hk⟩, sts⟩ := hrun H locs ls hP hD hl T hT X
  cases hv
  rw [h0] at hz hk
  have hfree := zA_sub hD isC hC
  obtain ⟨hP2, hD2⟩ := zjoin (H1 := T'.heap) hP hD isC hC src (hs u) hn hdis hlc (fun q h1 h2 => by rw [e1]; exact hk q h1 h2) (by rw [e1]; exact hP1) hD1
  obtain ⟨t2, a1, b1⟩ := kk u hp T'.heap (locs ++ L) ls hP2 hD2 ⟨Nat.le_trans hS.1 (by rw [e1]; exact hz), fun q h1 h2 => by rw [e1, hk q (Nat.lt_of_lt_of_le h1 hS.1) (fun z => h2 (hfree q z))]; exact hS.2.1 q h1 h2, fun q hq => by
    rcases List.mem_append.mp hq with h | h
    · exact hS.2.2 q h
    · exact hfree _ (hL q h)⟩ hl T' rfl X'
  exact ⟨t2, sts t2 a1, b1⟩
theorem z_callV {S : Type} {rv : S → Option Value} {post : S → Prop} {cs' : S → List va_W} {wc : List va_W} {stk : List Value} {y : MethodName} {ws ws' : List Cond} {rm : Room} {Cn : String} {index maxL ci na N : Nat} {T : u_T} {bytes : ByteArray} {ret : Option FieldType} {b : Nat} {c : va_W} {fs : List Value}
    (C : Cx K R0 own cc Ts) (As rest : List Value) (hM : Met K.l y ws rm (zPre K.g (.ref b :: As) wc) (zQ K.g rv post cs' (zA wc)) 0 0 (zA wc)) (hG : GoodIn Ts (wsV own index Cn y ws)) (hw : ws = Cond.code y bytes maxL ret :: ws') (hrm1 : rm.cells = 0) (hrm2 : rm.slots = 0)
    (hd4 : y.cls = Cn ∧ y.cls ≠ "java/lang/invoke/MethodHandle" ∧ y.cls ≠ "java/lang/invoke/VarHandle" ∧ (parseMethodDescriptor y.desc).map (fun d => d.parameters.length) = some na) (hR4 : rm.frames + 1 ≤ R0.frames ∧ 8 + (maxL + 11) + rm.locals ≤ R0.locals) (hnk : n ≤ R0.cells ∧ k ≤ R0.slots)
    (i j : Nat) (hi : cs[i]? = some c) (he : c[j]? = some (b, .inr (ci, fs))) (hcl : vwCl[ci]? = some (Cn, T, N))
    (isC : List Nat) (hC : isC.map (fun i => cs[i]?) = wc.map some) (hnC : va_nd isC = true) (hlc : ∀ x ∈ isC, x < cs.length) (src : List Nat) (hn : va_nd src = true) (hdis : ∀ x ∈ src, x ∉ isC) (cs2 : S → List va_W) (hs : ∀ u, src.map (fun i => (cs ++ cs' u)[i]?) = (cs2 u).map some)
    (hnA : As.length = na) (hst : stk = As.reverse ++ .ref b :: rest) (hW8 : (rest.map fun v => v.category).sum ≤ 8) (hdg : decode cc pc = .ok (.invokevirtual index, 3)) (q : Nat) (hq : pc + 3 = q)
    (kk : ∀ u, post u → Z K n k (cs2 u) lv q ((rv u).toList ++ rest)) : Z K n k cs lv pc stk := by
  refine z_run (wc := wc) (a := (Value.ref b :: As).toArray) (fun H locs ls hP hD hl => ?_) isC hC hlc src hn hdis cs2 hs q hq kk
  exact va_runV (As := As) (rest := rest) C.1 hM (cwV na C.ts hG hw hrm1 hrm2 hd4 (by rw [C.r]; exact hR4)) ⟨zPre_blind _ _ _, va_recv C.ka hP hcl (zfl_get hi he), fun U hU hWm => ⟨rfl, by rw [hU]; exact zsubP hP isC hC, C.kp.warm hWm, (zsubD hD isC hnC hC).weaken (fun _ _ _ _ => trivial)⟩⟩ rfl hnA hl.1 hst (lv_room hW8) hdg (by rw [C.r]; exact hnk)
theorem z_callS {S : Type} {rv : S → Option Value} {post : S → Prop} {cs' : S → List va_W} {wc : List va_W} {stk : List Value} {y : MethodName} {ws ws' : List Cond} {rm : Room} {index maxL na : Nat} {bytes : ByteArray} {ret : Option FieldType}
    (C : Cx K R0 own cc Ts) (As rest : List Value) (hM : Met K.l y ws rm (zPre K.g As wc) (zQ K.g rv post cs' (zA wc)) 0 0 (zA wc)) (hG : GoodIn Ts (va_wsS own index y ws)) (hw : ws = Cond.code y bytes maxL ret :: ws') (hrm1 : rm.cells = 0) (hrm2 : rm.slots = 0)
    (hd4 : y.cls ≠ "java/lang/invoke/MethodHandle" ∧ y.cls ≠ "java/lang/invoke/VarHandle" ∧ (parseMethodDescriptor y.desc).map (fun d => d.parameters.length) = some na) (hR4 : rm.frames + 1 ≤ R0.frames ∧ 8 + (maxL + 11) + rm.locals ≤ R0.locals) (hnk : n ≤ R0.cells ∧ k ≤ R0.slots)
    (isC : List Nat) (hC : isC.map (fun i => cs[i]?) = wc.map some) (hnC : va_nd isC = true) (hlc : ∀ x ∈ isC, x < cs.length) (src : List Nat) (hn : va_nd src = true) (hdis : ∀ x ∈ src, x ∉ isC) (cs2 : S → List va_W) (hs : ∀ u, src.map (fun i => (cs ++ cs' u)[i]?) = (cs2 u).map some)
    (hnA : As.length = na) (hst : stk = As.reverse ++ rest) (hW8 : (rest.map fun v => v.category).sum ≤ 8) (hdg : decode cc pc = .ok (.invokestatic index, 3)) (q : Nat) (hq : pc + 3 = q)
    (kk : ∀ u, post u → Z K n k (cs2 u) lv q ((rv u).toList ++ rest)) : Z K n k cs lv pc stk := by
  refine z_run (wc := wc) (a := As.toArray) (fun H locs ls hP hD hl => ?_) isC hC hlc src hn hdis cs2 hs q hq kk
  exact va_runS (As := As) (rest := rest) C.1 hM (va_cwS na C.ts hG hw hrm1 hrm2 hd4 (by rw [C.r]; exact hR4)) ⟨zPre_blind _ _ _, fun U hU hWm => ⟨rfl, by rw [hU]; exact zsubP hP isC hC, C.kp.warm hWm, (zsubD hD isC hnC hC).weaken (fun _ _ _ _ => trivial)⟩⟩ rfl hnA hl.1 hst (lv_room hW8) hdg (by rw [C.r]; exact hnk)
theorem zrange_map {α : Type} : ∀ (l m : List α), (List.range l.length).map (fun i => (l ++ m)[i]?) = l.map some := by
  intro l m
  apply List.ext_getElem?
  intro i
  rw [List.getElem?_map, List.getElem?_map]
  by_cases h : i < l.length
  · rw [List.getElem?_range h]
    show some ((l ++ m)[i]?) = _
    rw [List.getElem?_append_left h, List.getElem?_eq_getElem h]
    rfl
  · rw [List.getElem?_eq_none (by rw [List.length_range]; omega), List.getElem?_eq_none (Nat.le_of_not_lt h)]
    rfl
theorem znd_range : ∀ (n a : Nat), va_nd (List.range' a n) = true
  | 0, _ => rfl
  | n + 1, a => by
    show (decide (a ∉ List.range' (a + 1) n) && va_nd (List.range' (a + 1) n)) = true
    rw [znd_range n (a + 1), Bool.and_true, decide_eq_true_eq]
    intro h
    have := List.mem_range'.mp h
    omega
/-- a call of a static method that sees no cell and changes none -/
theorem z_callP {S : Type} {rv : S → Option Value} {post : S → Prop} {stk : List Value} {y : MethodName} {ws ws' : List Cond} {rm : Room} {index maxL na : Nat} {bytes : ByteArray} {ret : Option FieldType}
    (C : Cx K R0 own cc Ts) (As rest : List Value) (hM : Met K.l y ws rm (zPre K.g As []) (zQ K.g rv post (fun _ => []) (zA [])) 0 0 (zA [])) (hG : GoodIn Ts (va_wsS own index y ws)) (hw : ws = Cond.code y bytes maxL ret :: ws') (hrm1 : rm.cells = 0) (hrm2 : rm.slots = 0)
    (hd4 : y.cls ≠ "java/lang/invoke/MethodHandle" ∧ y.cls ≠ "java/lang/invoke/VarHandle" ∧ (parseMethodDescriptor y.desc).map (fun d => d.parameters.length) = some na) (hR4 : rm.frames + 1 ≤ R0.frames ∧ 8 + (maxL + 11) + rm.locals ≤ R0.locals) (hnk : n ≤ R0.cells ∧ k ≤ R0.slots)
    (hnA : As.length = na) (hst : stk = As.reverse ++ rest) (hW8 : (rest.map fun v => v.category).sum ≤ 8) (hdg : decode cc pc = .ok (.invokestatic index, 3)) (q : Nat) (hq : pc + 3 = q)
    (kk : ∀ u, post u → Z K n k cs lv q ((rv u).toList ++ rest)) : Z K n k cs lv pc stk :=
  z_callS C As rest hM hG hw hrm1 hrm2 hd4 hR4 hnk [] rfl rfl (fun _ h => by cases h) (List.range cs.length) (by rw [List.range_eq_range']; exact znd_range _ _) (fun _ _ h => by cases h) (fun _ => cs) (fun _ => zrange_map cs []) hnA hst hW8 hdg q hq kk
/-- the same, of a nest mate's private method -/
theorem z_callN {S : Type} {rv : S → Option Value} {post : S → Prop} {stk : List Value} {y : MethodName} {ws ws' : List Cond} {rm : Room} {index maxL na : Nat} {bytes : ByteArray} {ret : Option FieldType} {host : String}
    (C : Cx K R0 own cc Ts) (As rest : List Value) (hM : Met K.l y ws rm (zPre K.g As []) (zQ K.g rv post (fun _ => []) (zA [])) 0 0 (zA [])) (hG : GoodIn Ts ws) (hw : ws = Cond.code y bytes maxL ret :: ws') (hrm1 : rm.cells = 0) (hrm2 : rm.slots = 0) (hnest : va_Nw (.methodLinkNest own index y host) K.s) (hini : Cond.initialized y.cls ∈ Ts) (hstat : Cond.static y ∈ Ts)
    (hd4 : y.cls ≠ "java/lang/invoke/MethodHandle" ∧ y.cls ≠ "java/lang/invoke/VarHandle" ∧ (parseMethodDescriptor y.desc).map (fun d => d.parameters.length) = some na) (hR4 : rm.frames + 1 ≤ R0.frames ∧ 8 + (maxL + 11) + rm.locals ≤ R0.locals) (hnk : n ≤ R0.cells ∧ k ≤ R0.slots)
    (hnA : As.length = na) (hst : stk = As.reverse ++ rest) (hW8 : (rest.map fun v => v.category).sum ≤ 8) (hdg : decode cc pc = .ok (.invokestatic index, 3)) (q : Nat) (hq : pc + 3 = q)
    (kk : ∀ u, post u → Z K n k cs lv q ((rv u).toList ++ rest)) : Z K n k cs lv pc stk := by
  refine z_run (wc := []) (a := As.toArray) (fun H locs ls hP hD hl => ?_) [] rfl (fun _ h => by cases h) (List.range cs.length) (by rw [List.range_eq_range']; exact znd_range _ _) (fun _ _ h => by cases h) (fun _ => cs) (fun _ => zrange_map cs []) q hq kk
  exact va_runSN (As := As) (rest := rest) C.1 hM ⟨va_cnB na C.ts hG hw hrm1 hrm2 hnest (C.ts _ hini) hd4 (by rw [C.r]; exact hR4), C.ts _ hstat, trivial⟩ ⟨zPre_blind _ _ _, fun U hU hWm => ⟨rfl, by rw [hU]; exact zsubP hP [] rfl, C.kp.warm hWm, (zsubD hD [] rfl rfl).weaken (fun _ _ _ _ => trivial)⟩⟩ rfl hnA hl.1 hst (lv_room hW8) hdg (by rw [C.r]; exact hnk)
theorem z_max (C : Cx K R0 own cc Ts) {index x y : Nat} (hw1 : Cond.methodLink own index Lib.Math.max.name ∈ Ts) (hw2 : Cond.static Lib.Math.max.name ∈ Ts) (hw3 : Cond.initialized "java/lang/Math" ∈ Ts) (hw4 : Cond.code Lib.Math.max.name Lib.Math.max.code 2 (some .int) ∈ Ts) (hf : 1 ≤ R0.frames ∧ (st.map fun v => v.category).sum + 13 ≤ R0.locals) (hnk : n ≤ R0.cells ∧ k ≤ R0.slots) (hx : x < 2 ^ 31) (hy : y < 2 ^ 31) (hd : decode cc pc = .ok (.invokestatic index, 3)) (q : Nat) (hq : pc + 3 = q) (kk : Z K n k cs lv q (.int (nI (max x y)) :: st)) : Z K n k cs lv pc (.int (nI y) :: .int (nI x) :: st) := by
  subst hq
  intro H locs ls hP hD hS hl
  refine va_mmax C.x C.b (by rw [C.ml]; exact hl.1.symm) C.ow (C.ts _ hw1) (C.ts _ hw2) (C.ts _ hw3) (C.ts _ hw4) (by rw [C.r]; exact hf.1) (by rw [C.r]; exact hf.2) (by rw [C.r]; exact hnk.1) (by rw [C.r]; exact hnk.2) hd ?_
  rw [zmax hx hy]
  exact kk H locs ls hP hD hS hl
theorem z_min (C : Cx K R0 own cc Ts) {index x y : Nat} (hw1 : Cond.methodLink own index Lib.Math.min.name ∈ Ts) (hw2 : Cond.static Lib.Math.min.name ∈ Ts) (hw3 : Cond.initialized "java/lang/Math" ∈ Ts) (hw4 : Cond.code Lib.Math.min.name Lib.Math.min.code 2 (some .int) ∈ Ts) (hf : 1 ≤ R0.frames ∧ (st.map fun v => v.category).sum + 13 ≤ R0.locals) (hnk : n ≤ R0.cells ∧ k ≤ R0.slots) (hx : x < 2 ^ 31) (hy : y < 2 ^ 31) (hd : decode cc pc = .ok (.invokestatic index, 3)) (q : Nat) (hq : pc + 3 = q) (kk : Z K n k cs lv q (.int (nI (min x y)) :: st)) : Z K n k cs lv pc (.int (nI y) :: .int (nI x) :: st) := by
  subst hq
  intro H locs ls hP hD hS hl
  refine va_mmin C.x C.b (by rw [C.ml]; exact hl.1.symm) C.ow (C.ts _ hw1) (C.ts _ hw2) (C.ts _ hw3) (C.ts _ hw4) (by rw [C.r]; exact hf.1) (by rw [C.r]; exact hf.2) (by rw [C.r]; exact hnk.1) (by rw [C.r]; exact hnk.2) hd ?_
  rw [zmin hx hy]
  exact kk H locs ls hP hD hS hl
/-- the whole of an int array of N copied onto another -/
theorem z_copy (C : Cx K R0 own cc Ts) {index : Nat} (hw1 : Cond.methodLink own index arraycopyName ∈ Ts) (hw2 : Cond.native arraycopyName ∈ Ts) (hw3 : Cond.static arraycopyName ∈ Ts) (hw4 : Cond.initialized "java/lang/System" ∈ Ts) (i0 j0 i1 j1 : Nat) {c0 c1 : va_W} {a0 a1 N : Nat} {f g : Nat → Int32} (h0 : cs[i0]? = some c0) (e0 : c0[j0]? = some (a0, .inl (K.g.2 0, N, .inl f))) (h1 : cs[i1]? = some c1) (e1 : c1[j1]? = some (a1, .inl (K.g.2 0, N, .inl g))) (hN : N < 2 ^ 31)
    (hf : 1 ≤ R0.frames ∧ (st.map fun v => v.category).sum + (nativeFrameWords "java/lang/System" "arraycopy" 5 + 11) ≤ R0.locals) (c2 : va_W) (hc2 : c1.set j1 (a1, .inl (K.g.2 0, N, .inl f)) = c2) (cs2 : List va_W) (hcs : cs.set i1 c2 = cs2) (hd : decode cc pc = .ok (.invokestatic index, 3)) (q : Nat) (hq : pc + 3 = q) (kk : Z K n k cs2 lv q st) : Z K n k cs lv pc (.int (nI N) :: .int (nI 0) :: .ref a1 :: .int (nI 0) :: .ref a0 :: st) := by
  subst hq
  subst hc2
  subst hcs
  have z0 : (nI 0).toNatClampNeg = 0 := nI_clamp (by decide)
  have zN : (nI N).toNatClampNeg = N := nI_clamp hN
  intro H locs ls hP hD hS hl
  refine va_copyi (ty := .int) C.x C.b (by rw [C.ml]; exact hl.1.symm) C.ow (C.ts _ hw1) (C.ts _ hw2) (C.ts _ hw3) (C.ts _ hw4) C.ka hP hD hS _ _ 0 0 (zfl_get h0 e0) (zfl_get h1 e1) rfl rfl rfl (nI_pos (by decide)) (nI_pos (by decide)) (nI_pos hN) (by rw [z0, zN]; omega) (by rw [z0, zN]; omega) (fun i _ => rfl) (by rw [C.r]; exact hf.1) (by rw [C.r]; exact hf.2) hd (fun H1 locs1 hP1 hD1 hS1 => ?_)
  rw [z0, zN] at hP1 hD1
  rw [← zfl_set _ h1 (zlen e1)] at hP1 hD1
  refine z_arr (f := va_cpy f g 0 0 N) (g := f) i1 j1 (c := c1.set j1 (a1, .inl (K.g.2 0, N, .inl (va_cpy f g 0 0 N)))) (by rw [List.getElem?_set_self (List.getElem?_eq_some_iff.mp h1).1]) (by rw [List.getElem?_set_self (zlen e1)]) (fun y hy => by rw [pk_cpy_in (Nat.zero_le _) (by omega)]; congr 1; omega) _ rfl _ rfl ?_ H1 locs1 ls hP1 hD1 hS1 hl
  rw [List.set_set, List.set_set]
  exact kk
end ZCs

/-! AL: rows that make cells: new, newarray, anewarray, new T[n][m], constructors' calls, their starts and ends. -/
def va_AOA (ty : FieldType) (U : State) : Prop := (Cond.arrayOver (.array ty)).before #[] U = true
theorem va_AOA.use {ty : FieldType} {A : Array Value} {U : State} (h : va_AOA ty U) : (Cond.arrayOver (.array ty)).before A U = true := h
theorem va_AOA.same {ty : FieldType} {u U : State} (e : u.vm = U.vm) (h : va_AOA ty u) : va_AOA ty U := by
  unfold va_AOA Cond.before Cond.holds at h ⊢
  simp only [Cond.value] at h ⊢
  rw [← e]
  exact h
theorem va_AOA.moved {ty : FieldType} {u U : State} (hvm : u.vm.Alike U.vm) (h : va_AOA ty u) : va_AOA ty U := va_AOA.same (u := u.setVm U.vm) rfl (by
  show (Cond.arrayOver (.array ty)).before #[] (u.setVm U.vm) = true
  rw [Cond.arrayOver_setVmC hvm]
  exact h)
/-- what a constructor wants of the start -/
def eIni (A : Nat → Prop) (U : State) : Prop := va_AO "PrintRacks$Board" U ∧ va_AOA .int U ∧ ∃ sa, zStA A U "FIRST_SETTING" 7 fiS sa
theorem eIni.later {A B : Nat → Prop} {s U : State} {locs : List Loc} (h : eIni A s) (hS : va_S A s.heap U.heap locs) (hW : s.WarmedH U.vm) (hAB : ∀ q, B q → A q) : eIni B U := by
  obtain ⟨h1, h2, sa, h3⟩ := h
  exact ⟨h1.moved hW.alike, h2.moved hW.alike, sa, h3.later hS hW hAB⟩
theorem eIni.same {A : Nat → Prop} {u U : State} (e : u.vm = U.vm) (e2 : u.heap = U.heap) (h : eIni A u) : eIni A U := by
  obtain ⟨h1, h2, sa, h3⟩ := h
  have ha : u.vm.Alike U.vm := by rw [e]; exact Vm.Alike.refl U.vm
  exact ⟨h1.moved ha, h2.moved ha, sa, h3.same e e2⟩
/-- what a constructor may change: its object, and cells that it makes -/
def zI (b sz : Nat) : Nat → Prop := fun q => q = b ∨ sz ≤ q
def zPreI (g : zG) (b sz ci : Nat) (fs : List Value) : Array Value → State → Prop := fun v U => zPre g [.ref b] [[(b, .inr (ci, fs))]] v U ∧ U.heap.size = sz ∧ eIni (zI b sz) U
theorem zPreI_blind (g : zG) (b sz ci : Nat) (fs : List Value) : FrameBlind (zPreI g b sz ci fs) := fun a U f mk q => by
  obtain ⟨q1, q2, q3⟩ := q
  exact ⟨zPre_blind g [.ref b] [[(b, .inr (ci, fs))]] a U f mk q1, q2, eIni.same (u := U) (U := U.calling f mk a) rfl rfl q3⟩
def RI {S : Type} (K : zK) (post : S → Prop) (cs' : S → List va_W) (b mc ms : Nat) : Prop :=
  K.Q = MQ K.below (zQ K.g (fun _ => none) post cs' (zI b K.s.heap.size)) K.args K.s mc ms (zI b K.s.heap.size) ∧ K.A = zI b K.s.heap.size ∧ K.meth.sig.returnType = none ∧ K.meth.locks = false ∧ K.meth.name = "<init>"
theorem RI.fresh {S : Type} {K : zK} {post : S → Prop} {cs' : S → List va_W} {b mc ms : Nat} (h : RI K post cs' b mc ms) : ∀ q, K.s.heap.size ≤ q → K.A q := fun q hq => by rw [h.2.1]; exact Or.inr hq
theorem z_entryI {l : Launch} {g : zG} {y : MethodName} {ws ws' : List Cond} {cc : ByteArray} {maxL b sz ci mc ms : Nat} {fs : List Value} {S : Type} {post : S → Prop} {cs' : S → List va_W} {rm : Room} {own : String}
    (hy : plainName y.cls = true) (hw : ws = Cond.code y cc maxL none :: ws') (hown : y.cls = own) (hin : y.name = "<init>") (hn : 1 ≤ maxL)
    (body : ∀ K : zK, K.l = l → K.g = g → K.nL = maxL → Cx K rm own cc ws → RI K post cs' b mc ms → eIni K.A K.s → Z K 0 0 [[(b, .inr (ci, fs))]] [(0, .ref b)] 0 []) : Met l y ws rm (zPreI g b sz ci fs) (zQ g (fun _ => none) post cs' (zI b sz)) mc ms (zI b sz) := by
  refine Met.ofW (cc := cc) (maxL := maxL) (ret := none) hy hw ?_
  intro p e s m args below meth c s₁ B hml hv
  obtain ⟨⟨rfl, hP, hK, hD0⟩, rfl, hE⟩ := hv
  have hx := B.exec
  have hb := B.bytes
  have hr := B.returns
  have hts := atoms_spec (ws := ws) B.pre
  have hown2 : s.vm.findClass own = some m.cls := by rw [← hown]; exact findClass_of_methodNamed B.named
  have hlocks := B.notSynchronized
  have hname : meth.name = "<init>" := by rw [← hin]; exact (name_of_methodNamed B.named B.method).1
  have hD : va_D (zI b s.heap.size) ([[(b, .inr (ci, fs))]] : List va_W).flatten := ⟨hD0.1, fun k q h => by
    have hk : k < 1 := (List.getElem?_eq_some_iff.mp h).1
    rw [show k = 0 by omega] at h
    cases h
    exact Or.inl rfl⟩
  have hl := lv_entry [.ref b] (n := maxL) hn
  rw [lg_entry_eq]
  generalize (lg_sl [.ref b] ++ List.replicate (maxL - (lg_sl [.ref b]).length) Slot.unset).toArray = ls at hl ⊢
  exact body ⟨(p, l, e, (headSpec ws rm).room, s, m, #[.ref b], below, meth, c), MQ below (zQ g (fun _ => none) post cs' (zI b s.heap.size)) #[.ref b] s mc ms (zI b s.heap.size), g, zI b s.heap.size, maxL⟩ rfl rfl rfl ⟨⟨hx, hb, hml, hown2, hts⟩, hK, rfl⟩ ⟨rfl, rfl, hr, hlocks, hname⟩ hE s.heap [] ls hP hD va_S.rf hl
section ALs
variable {K : zK} {R0 : Room} {own : String} {cc : ByteArray} {Ts : List Cond} {n k : Nat} {cs : List va_W} {lv : List (Nat × Value)} {pc : Nat} {st : List Value}
theorem z_vretI {S : Type} {post : S → Prop} {cs' : S → List va_W} {b : Nat} (C : Cx K R0 own cc Ts) (R : RI K post cs' b n k) (hd : decode cc pc = .ok (.return_, 1)) (u : S) (hp : post u) (hc : cs = cs' u) : Z K n k cs lv pc [] := by
  subst hc
  obtain ⟨hQ, hA, hr, hlk, -⟩ := R
  intro H locs ls hP hD hS hl
  rw [hA] at hD hS
  rw [hQ]
  exact W.vret C.x C.b hr (fun t ht hW => ⟨⟨u, rfl, hp, by rw [ht]; exact hP, hD⟩, hS.F ht⟩) hS.2.2 hd hlk
theorem z_widen (n2 k2 : Nat) (hn : n ≤ n2) (hk : k ≤ k2) (kk : Z K n2 k2 cs lv pc st) : Z K n k cs lv pc st := fun H locs ls hP hD hS hl => W.widen hn hk (kk H locs ls hP hD hS hl)
theorem z_obj (C : Cx K R0 own cc Ts) {index a : Nat} (hw1 : Cond.methodLink own index objectInit ∈ Ts) (hw2 : Cond.instanceMethod objectInit ∈ Ts) (hw3 : Cond.code objectInit ⟨#[0xb1]⟩ 1 none ∈ Ts) (hf : 1 ≤ R0.frames ∧ (st.map fun v => v.category).sum + 12 ≤ R0.locals) (hd : decode cc pc = .ok (.invokespecial index, 3)) (q : Nat) (hq : pc + 3 = q) (kk : Z K n k cs lv q st) : Z K n k cs lv pc (.ref a :: st) := by
  subst hq
  intro H locs ls hP hD hS hl
  refine W.objInit (g := F0 K.m pc ls (.ref a :: st)) C.x C.b C.ow (C.ts _ hw1) (C.ts _ hw2) (C.ts _ hw3) rfl (by rw [C.ml]; exact hl.1) rfl hd (by rw [C.r]; exact hf.1) (by rw [C.r]; show 2 * 0 + (st.map fun v => v.category).sum + 12 ≤ R0.locals; have := hf.2; omega) ?_
  exact kk H locs ls hP hD hS hl
theorem z_putF (C : Cx K R0 own cc Ts) {Cn : String} {T : u_T} {N ci index : Nat} {ty : Nat → FieldType} (hc : zCl ci Cn T N ty) (hin : ∀ w ∈ u_ws Cn T N, w ∈ Ts) (hnm : K.meth.name = "<init>") (i j : Nat) {c : va_W} {a : Nat} {fs : List Value} (hi : cs[i]? = some c) (he : c[j]? = some (a, .inr (ci, fs))) (f : Nat) (hf : f < N) (hw : Cond.fieldLink own index (T f).1 (T f).2.1 (T f).2.2.1 ∈ Ts) (hfin : (T f).2.2.2 = true) (hdecl : (T f).1 = own) {v : Value} (hn : narrow (ty f) v = v) (hfit : fits (ty f) v = true) (hl0 : f < fs.length) (c2 : va_W) (hc2 : c.set j (a, .inr (ci, fs.set f v)) = c2) (cs2 : List va_W) (hcs : cs.set i c2 = cs2) (hd : decode cc pc = .ok (.putfield index, 3)) (q : Nat) (hq : pc + 3 = q) (kk : Z K n k cs2 lv q st) : Z K n k cs lv pc (v :: .ref a :: st) := by
  subst hq
  subst hc2
  subst hcs
  exact fun H locs ls hP hD hS hl => va_putF C.x C.b C.ts hin ty hc.2.1 hc.2.2 C.ow C.ka hP hD hS _ (zfl_get hi he) hc.1 f hf (C.ts _ hw) (fun _ h9 => h9) hfin hnm hdecl (hc.2.1 f hf) hn hfit hl0 hd (fun H1 locs1 hP1 hD1 hS1 => kk H1 locs1 ls (by rw [zfl_set _ hi (zlen he)]; exact hP1) (by rw [zfl_set _ hi (zlen he)]; exact hD1) hS1 hl)
theorem zfl_1 {x : Nat × va_E} : (cs ++ [[x]]).flatten = cs.flatten ++ [x] := by
  rw [List.flatten_append]
  rfl
theorem z_new (C : Cx K R0 own cc Ts) {Cn : String} {T : u_T} {N ci index : Nat} {ty : Nat → FieldType} (hc : zCl ci Cn T N ty) (hin : ∀ w ∈ u_ws Cn T N, w ∈ Ts) (hcl : Cond.classLink own index Cn ∈ Ts) (hinst : Cond.instantiable Cn N ∈ Ts) (hini : Cond.initialized Cn ∈ Ts) (hA : ∀ q, K.s.heap.size ≤ q → K.A q) (fs : List Value) (hfs : ∀ j, j < N → defaultValue (ty j) = vp_V fs j) (hnk : n + 1 ≤ R0.cells ∧ k + N ≤ R0.slots) (hd : decode cc pc = .ok (.new index, 3)) (q : Nat) (hq : pc + 3 = q)
    (kk : ∀ b, Z K (n + 1) (k + N) (cs ++ [[(b, .inr (ci, fs))]]) lv q (.ref b :: st)) : Z K n k cs lv pc st := by
  subst hq
  exact fun H locs ls hP hD hS hl => va_new C.x C.b C.ts hin ty hc.2.1 C.ow (C.ts _ hcl) (C.ts _ hinst) (C.ts _ hini) C.ka hP hD hS hA hc.1 hfs (by rw [C.r]; exact hnk.1) (by rw [C.r]; exact hnk.2) hd (fun b H1 hP1 hD1 hS1 => kk b H1 locs ls (by rw [zfl_1]; exact hP1) (by rw [zfl_1]; exact hD1) hS1 hl)
theorem zt_I {g : zG} {U : State} {cA : ClassId} (h : va_K g.1 vwCl (zT g) U) (h2 : va_K g.1 vwCl (zT g ++ [(cA, .int)]) U) : cA = g.2 0 := Option.some.inj ((h2.2 4 (cA, .int) rfl).2.symm.trans (h.2 0 _ rfl).2)
theorem zt_A {g : zG} {U : State} {cA : ClassId} (h : va_K g.1 vwCl (zT g) U) (h2 : va_K g.1 vwCl (zT g ++ [(cA, .array .int)]) U) : cA = g.2 1 := Option.some.inj ((h2.2 4 (cA, .array .int) rfl).2.symm.trans (h.2 1 _ rfl).2)
theorem zt_Z {g : zG} {U : State} {cA : ClassId} (h : va_K g.1 vwCl (zT g) U) (h2 : va_K g.1 vwCl (zT g ++ [(cA, .boolean)]) U) : cA = g.2 3 := Option.some.inj ((h2.2 4 (cA, .boolean) rfl).2.symm.trans (h.2 3 _ rfl).2)
theorem zt_B {g : zG} {U : State} {cA : ClassId} (h : va_K g.1 vwCl (zT g) U) (h2 : va_K g.1 vwCl (zT g ++ [(cA, .object "PrintRacks$Board")]) U) : cA = g.2 2 := by
  obtain ⟨k1, c1, -, -, -, e1⟩ := (h2.2 4 (cA, .object "PrintRacks$Board") rfl).2
  obtain ⟨k2, c2, -, -, -, e2⟩ := (h.2 2 _ rfl).2
  exact Option.some.inj (e1.symm.trans e2)
theorem z_newI (C : Cx K R0 own cc Ts) (hA : ∀ q, K.s.heap.size ≤ q → K.A q) (harr : Cond.arrayClass .int ∈ Ts) {N : Nat} (hN : N ≤ 1000) (hnk : n + 1 ≤ R0.cells ∧ k + N ≤ R0.slots) (hd : decode cc pc = .ok (.newarray .int, 2)) (q : Nat) (hq : pc + 2 = q)
    (kk : ∀ a, Z K (n + 1) (k + N) (cs ++ [[(a, .inl (K.g.2 0, N, .inl (fun _ => nI 0)))]]) lv q (.ref a :: st)) : Z K n k cs lv pc (.int (nI N) :: st) := by
  subst hq
  intro H locs ls hP hD hS hl
  refine va_newa (atype := .int) (ty := .int) (a0 := (N, .inl (fun _ => nI 0))) C.x C.b (C.ts _ harr) rfl C.ka hP hD hS hA (fun cA => rfl) (nI_pos (by omega)) (nI_clamp (by omega)) (by show N * 4 ≤ 536870912; omega) (by rw [C.r]; exact hnk.1) (by rw [C.r]; exact hnk.2) hd (fun a cA H1 hK1 hP1 hD1 hS1 => ?_)
  obtain rfl := zt_I C.ka hK1
  exact kk a H1 locs ls (by rw [zfl_1]; exact hP1) (by rw [zfl_1]; exact hD1) hS1 hl
theorem z_newZ (C : Cx K R0 own cc Ts) (hA : ∀ q, K.s.heap.size ≤ q → K.A q) (harr : Cond.arrayClass .boolean ∈ Ts) {N : Nat} (hN : N ≤ 1000) (hnk : n + 1 ≤ R0.cells ∧ k + N ≤ R0.slots) (hd : decode cc pc = .ok (.newarray .boolean, 2)) (q : Nat) (hq : pc + 2 = q)
    (kk : ∀ a, Z K (n + 1) (k + N) (cs ++ [[(a, .inl (K.g.2 3, N, .inl (fun _ => bI false)))]]) lv q (.ref a :: st)) : Z K n k cs lv pc (.int (nI N) :: st) := by
  subst hq
  intro H locs ls hP hD hS hl
  refine va_newa (atype := .boolean) (ty := .boolean) (a0 := (N, .inl (fun _ => bI false))) C.x C.b (C.ts _ harr) rfl C.ka hP hD hS hA (fun cA => rfl) (nI_pos (by omega)) (nI_clamp (by omega)) (by show N * 1 ≤ 536870912; omega) (by rw [C.r]; exact hnk.1) (by rw [C.r]; exact hnk.2) hd (fun a cA H1 hK1 hP1 hD1 hS1 => ?_)
  obtain rfl := zt_Z C.ka hK1
  exact kk a H1 locs ls (by rw [zfl_1]; exact hP1) (by rw [zfl_1]; exact hD1) hS1 hl
theorem z_newB (C : Cx K R0 own cc Ts) (hA : ∀ q, K.s.heap.size ≤ q → K.A q) {index : Nat} (hcl : Cond.classLink own index "PrintRacks$Board" ∈ Ts) (hao : va_AO "PrintRacks$Board" K.s) {N : Nat} (hN : N ≤ 1000) (hnk : n + 1 ≤ R0.cells ∧ k + N ≤ R0.slots) (hd : decode cc pc = .ok (.anewarray index, 3)) (q : Nat) (hq : pc + 3 = q)
    (kk : ∀ a, Z K (n + 1) (k + N) (cs ++ [[(a, .inl (K.g.2 2, N, .inr (.inr (.inr (.inr (fun _ => none))))))]]) lv q (.ref a :: st)) : Z K n k cs lv pc (.int (nI N) :: st) := by
  subst hq
  intro H locs ls hP hD hS hl
  refine va_newq C.x C.b C.ow (C.ts _ hcl) hao C.ka hP hD hS hA (nI_pos (by omega)) (nI_clamp (by omega)) (by omega) (by rw [C.r]; exact hnk.1) (by rw [C.r]; exact hnk.2) hd (fun a cA H1 hK1 hP1 hD1 hS1 => ?_)
  obtain rfl := zt_B C.ka hK1
  exact kk a H1 locs ls (by rw [zfl_1]; exact hP1) (by rw [zfl_1]; exact hD1) hS1 hl
theorem z_astB (C : Cx K R0 own cc Ts) (i j i2 j2 : Nat) {c c3 : va_W} {a N x v : Nat} {vs : List Value} {f : Nat → Option Nat} (hi : cs[i]? = some c) (he : c[j]? = some (a, .inl (K.g.2 2, N, .inr (.inr (.inr (.inr f)))))) (hi2 : cs[i2]? = some c3) (he2 : c3[j2]? = some (v, .inr (0, vs))) (hx : x < N) (hN : N < 2 ^ 31) (c2 : va_W) (hc2 : c.set j (a, .inl (K.g.2 2, N, .inr (.inr (.inr (.inr (va_up f x (some v))))))) = c2) (cs2 : List va_W) (hcs : cs.set i c2 = cs2) (hd : decode cc pc = .ok (.aastore, 1)) (q : Nat) (hq : pc + 1 = q) (kk : Z K n k cs2 lv q st) : Z K n k cs lv pc (.ref v :: .int (nI x) :: .ref a :: st) := by
  subst hq
  subst hc2
  subst hcs
  have hcl : (nI x).toNatClampNeg = x := nI_clamp (Nat.lt_trans hx hN)
  exact fun H locs ls hP hD hS hl => va_astq (r := (RX0, TX0, 3)) C.x C.b C.ka hP hD hS _ 2 _ 0 (zfl_get hi he) rfl (zfl_get hi2 he2) rfl (vp_in_nI hx hN) hd (fun H1 locs1 hP1 hD1 hS1 => kk H1 locs1 ls (by rw [zfl_set _ hi (zlen he)]; rw [hcl] at hP1; exact hP1) (by rw [zfl_set _ hi (zlen he)]; rw [hcl] at hD1; exact hD1) hS1 hl)
theorem z_arrq (i j : Nat) {c : va_W} {a N : Nat} {cA : ClassId} {f g : Nat → Option Nat} (hi : cs[i]? = some c) (he : c[j]? = some (a, .inl (cA, N, .inr (.inr (.inr (.inr f)))))) (hfg : ∀ y, y < N → f y = g y) (c2 : va_W) (hc2 : c.set j (a, .inl (cA, N, .inr (.inr (.inr (.inr g))))) = c2) (cs2 : List va_W) (hcs : cs.set i c2 = cs2) (kk : Z K n k cs2 lv pc st) : Z K n k cs lv pc st := by
  subst hc2
  subst hcs
  intro H locs ls hP hD hS hl
  have hcell : vp_cell cA (N, .inr (.inr (.inr (.inr f)))) = vp_cell cA (N, .inr (.inr (.inr (.inr g)))) := by
    show arrV cA N (fun j => va_rf (f j)) = arrV cA N (fun j => va_rf (g j))
    unfold arrV
    congr 1
    apply Array.ext
    · simp
    · intro y h1 h2
      simp at h1
      simp [hfg y h1]
  have hz := zfl_get hi he
  refine kk H locs ls ?_ ?_ hS hl
  · rw [zfl_set _ hi (zlen he)]
    intro q x hx
    by_cases e : q = zo cs i + j
    · subst e
      rw [List.getElem?_set_self (List.getElem?_eq_some_iff.mp hz).1] at hx
      cases hx
      have h := hP _ _ hz
      show H[a]? = some (vp_cell cA (N, .inr (.inr (.inr (.inr g)))))
      rw [← hcell]
      exact h
    · rw [List.getElem?_set_ne (fun z => e z.symm)] at hx
      exact hP q x hx
  · rw [zfl_set _ hi (zlen he)]
    exact hD.set hz
theorem z_getsN (C : Cx K R0 own cc Ts) {index sa : Nat} {nm : String} (hZ : va_Z RX4 nm "[I" (.ref sa) K.A K.s K.s.heap) (hw : va_Nw (.fieldLinkNest own index RX4 nm "[I" RX4) K.s) (hd : decode cc pc = .ok (.getstatic index, 3)) (q : Nat) (hq : pc + 3 = q) (kk : Z K n k cs lv q (.ref sa :: st)) : Z K n k cs lv pc st := by
  subst hq
  exact fun H locs ls hP hD hS hl => va_getsN C.x C.b hZ hS C.ow (va_Nw.use rfl hw) (fun _ h => h) hd (kk H locs ls hP hD hS hl)
theorem z_copyS (C : Cx K R0 own cc Ts) {index sa N : Nat} {f : Nat → Nat} (hw1 : Cond.methodLink own index arraycopyName ∈ Ts) (hw2 : Cond.native arraycopyName ∈ Ts) (hw3 : Cond.static arraycopyName ∈ Ts) (hw4 : Cond.initialized "java/lang/System" ∈ Ts) (hX : va_X sa N (fun j => nI (f j)) K.s K.s.heap) (hlt : sa < K.s.heap.size) (hna : ¬ K.A sa) (i1 j1 : Nat) {c1 : va_W} {a1 : Nat} {g : Nat → Int32} (h1 : cs[i1]? = some c1) (e1 : c1[j1]? = some (a1, .inl (K.g.2 0, N, .inl g))) (hN : N < 2 ^ 31)
    (hf : 1 ≤ R0.frames ∧ (st.map fun v => v.category).sum + (nativeFrameWords "java/lang/System" "arraycopy" 5 + 11) ≤ R0.locals) (c2 : va_W) (hc2 : c1.set j1 (a1, .inl (K.g.2 0, N, .inl (fun j => nI (f j)))) = c2) (cs2 : List va_W) (hcs : cs.set i1 c2 = cs2) (hd : decode cc pc = .ok (.invokestatic index, 3)) (q : Nat) (hq : pc + 3 = q) (kk : Z K n k cs2 lv q st) : Z K n k cs lv pc (.int (nI N) :: .int (nI 0) :: .ref a1 :: .int (nI 0) :: .ref sa :: st) := by
  subst hq
  subst hc2
  subst hcs
  have z0 : (nI 0).toNatClampNeg = 0 := nI_clamp (by decide)
  have zN : (nI N).toNatClampNeg = N := nI_clamp hN
  intro H locs ls hP hD hS hl
  refine va_copyx C.x C.b (by rw [C.ml]; exact hl.1.symm) C.ow (C.ts _ hw1) (C.ts _ hw2) (C.ts _ hw3) (C.ts _ hw4) C.ka hP hD hS hX hlt hna _ 0 (zfl_get h1 e1) rfl (nI_pos (by decide)) (nI_pos (by decide)) (nI_pos hN) (by rw [z0, zN]; omega) (by rw [z0, zN]; omega) (by rw [C.r]; exact hf.1) (by rw [C.r]; exact hf.2) hd (fun H1 locs1 hP1 hD1 hS1 => ?_)
  rw [z0, zN] at hP1 hD1
  rw [← zfl_set _ h1 (zlen e1)] at hP1 hD1
  refine z_arr (f := va_cpy (fun j => nI (f j)) g 0 0 N) (g := fun j => nI (f j)) i1 j1 (c := c1.set j1 (a1, .inl (K.g.2 0, N, .inl (va_cpy (fun j => nI (f j)) g 0 0 N)))) (by rw [List.getElem?_set_self (List.getElem?_eq_some_iff.mp h1).1]) (by rw [List.getElem?_set_self (zlen e1)]) (fun y hy => by rw [pk_cpy_in (Nat.zero_le _) (by omega)]; congr 2; omega) _ rfl _ rfl ?_ H1 locs1 ls hP1 hD1 hS1 hl
  rw [List.set_set, List.set_set]
  exact kk
/-- behind a constructor's call -/
theorem zjoinI {A0 : Nat → Prop} {D : va_G} {cl : List vw_C} {cs nw : List va_W} {x : Nat × va_E} {H H1 : Heap} (hP : va_P D cl (cs.flatten ++ [x]) H) (hD : va_D A0 (cs.flatten ++ [x])) (hk : ∀ q : Nat, q < H.size → ¬ zI x.1 H.size q → H1[q]? = H[q]?) (hF : ∀ q, zI x.1 H.size q → A0 q) (hP1 : va_P D cl nw.flatten H1) (hD1 : va_D (zI x.1 H.size) nw.flatten) :
    va_P D cl (cs ++ nw).flatten H1 ∧ va_D A0 (cs ++ nw).flatten := by
  have old : ∀ (k : Nat) (y : Nat × va_E), cs.flatten[k]? = some y → y.1 < H.size ∧ ¬ zI x.1 H.size y.1 := by
    intro k y hy
    have hkl : k < cs.flatten.length := (List.getElem?_eq_some_iff.mp hy).1
    have h1 : (cs.flatten ++ [x])[k]? = some y := by rw [List.getElem?_append_left hkl]; exact hy
    have h2 : (cs.flatten ++ [x])[cs.flatten.length]? = some x := by rw [List.getElem?_append_right (Nat.le_refl _), Nat.sub_self]; rfl
    have hl := (hP k y h1).lt
    refine ⟨hl, fun z => ?_⟩
    rcases z with z | z
    · have := hD.1 _ _ y x h1 h2 z
      omega
    · omega
  rw [List.flatten_append]
  refine ⟨va_P.app (fun k y hy => ?_) hP1, va_D.app ⟨fun i j y z hy hz hyz => ?_, fun k y hy => ?_⟩ (hD1.weaken (fun k q _ h => hF q.1 h)) (fun i j y z hy hz hyz => ?_)⟩
  · have hkl : k < cs.flatten.length := (List.getElem?_eq_some_iff.mp hy).1
    obtain ⟨g1, g2⟩ := old k y hy
    exact (hP k y (by rw [List.getElem?_append_left hkl]; exact hy)).kept (hk y.1 g1 g2)
  · have h1 := (List.getElem?_eq_some_iff.mp hy).1
    have h2 := (List.getElem?_eq_some_iff.mp hz).1
    exact hD.1 i j y z (by rw [List.getElem?_append_left h1]; exact hy) (by rw [List.getElem?_append_left h2]; exact hz) hyz
  · have h1 := (List.getElem?_eq_some_iff.mp hy).1
    exact hD.2 k y (by rw [List.getElem?_append_left h1]; exact hy)
  · exact (old i y hy).2 (by rw [hyz]; exact hD1.2 j z hz)
theorem z_runI {S : Type} {post : S → Prop} {cs' : S → List va_W} {b ci mc ms : Nat} {fs : List Value} {stk rest : List Value} {a : Array Value} (hA : ∀ q, K.s.heap.size ≤ q → K.A q)
    (hrun : ∀ (H : Heap) (locs : List Loc) (ls : Array Slot), va_P K.g.1 vwCl (cs ++ ([[(b, .inr (ci, fs))]] : List va_W)).flatten H → va_D K.A (cs ++ ([[(b, .inr (ci, fs))]] : List va_W)).flatten → va_S K.A K.s.heap H locs → lv_has ls K.nL lv → va_Run K.p K.l K.e K.R K.s K.m K.args K.below K.meth K.c H locs n k mc ms (F0 K.m pc ls stk) rest (zQ K.g (fun _ => none) post cs' (zI b H.size) a) (zI b H.size))
    (q : Nat) (hq : pc + 3 = q) (kk : ∀ u, post u → Z K (n + mc) (k + ms) (cs ++ cs' u) lv q rest) : Z K n k (cs ++ [[(b, .inr (ci, fs))]]) lv pc stk := by
  subst hq
  intro H locs ls hP hD hS hl T hT X
  obtain ⟨v, st₀, t, T', L, h0, X', hL, e1, e2, ⟨⟨u, hv, hp, hP1, hD1⟩, hz, hk⟩, sts⟩ := hrun H locs ls hP hD hS hl T hT X
  cases hv
  rw [h0] at hz hk
  rw [zfl_1] at hP hD
  have hAb : K.A b := hD.2 cs.flatten.length (b, .inr (ci, fs)) (by rw [List.getElem?_append_right (Nat.le_refl _), Nat.sub_self]; rfl)
  have hF : ∀ q, zI b H.size q → K.A q := fun q h => by
    rcases h with rfl | h
    · exact hAb
    · exact hA q (Nat.le_trans hS.1 h)
  obtain ⟨hP2, hD2⟩ := zjoinI (H1 := T'.heap) (nw := cs' u) hP hD (fun q h1 h2 => by rw [e1]; exact hk q h1 h2) hF (by rw [e1]; exact hP1) hD1
  obtain ⟨t2, a1, b1⟩ := kk u hp T'.heap (locs ++ L) ls hP2 hD2 ⟨Nat.le_trans hS.1 (by rw [e1]; exact hz), fun q h1 h2 => by rw [e1, hk q (Nat.lt_of_lt_of_le h1 hS.1) (fun z => h2 (hF q z))]; exact hS.2.1 q h1 h2, fun q hq => by
    rcases List.mem_append.mp hq with h | h
    · exact hS.2.2 q h
    · exact hF _ (hL q h)⟩ hl T' rfl X'
  exact ⟨t2, sts t2 a1, b1⟩
theorem zpreI (C : Cx K R0 own cc Ts) (hA : ∀ q, K.s.heap.size ≤ q → K.A q) (hE : eIni K.A K.s) {b ci : Nat} {fs : List Value} {H : Heap} {locs : List Loc} (hP : va_P K.g.1 vwCl (cs ++ ([[(b, .inr (ci, fs))]] : List va_W)).flatten H) (hD : va_D K.A (cs ++ ([[(b, .inr (ci, fs))]] : List va_W)).flatten) (hS : va_S K.A K.s.heap H locs) {U : State} (hU : U.heap = H) (hWm : K.s.WarmedH U.vm) : zPreI K.g b H.size ci fs #[.ref b] U := by
  rw [zfl_1] at hP hD
  have hx : (cs.flatten ++ [(b, .inr (ci, fs))])[cs.flatten.length]? = some (b, .inr (ci, fs)) := by rw [List.getElem?_append_right (Nat.le_refl _), Nat.sub_self]; rfl
  have one : ∀ (k : Nat) (q : Nat × va_E), ([[(b, .inr (ci, fs))]] : List va_W).flatten[k]? = some q → k = 0 ∧ q = (b, .inr (ci, fs)) := fun k q h => by
    have hk : k < 1 := (List.getElem?_eq_some_iff.mp h).1
    rw [show k = 0 by omega] at h
    cases h
    exact ⟨by omega, rfl⟩
  refine ⟨⟨rfl, fun k q h => ?_, C.kp.warm hWm, ⟨fun i j p q h1 h2 _ => by rw [(one i p h1).1, (one j q h2).1], fun _ _ _ => trivial⟩⟩, by rw [hU], hE.later (by rw [hU]; exact hS) hWm (fun q h => ?_)⟩
  · rw [hU, (one k q h).2]
    exact hP _ _ hx
  · rcases h with rfl | h
    · exact hD.2 _ _ hx
    · exact hA q (Nat.le_trans hS.1 h)
theorem z_callI {S : Type} {post : S → Prop} {cs' : S → List va_W} {stk : List Value} {y : MethodName} {ws ws' : List Cond} {rm : Room} {index maxL b ci mc ms : Nat} {fs : List Value} {bytes : ByteArray}
    (C : Cx K R0 own cc Ts) (hA : ∀ q, K.s.heap.size ≤ q → K.A q) (hE : eIni K.A K.s) (rest : List Value) (hM : ∀ sz, Met K.l y ws rm (zPreI K.g b sz ci fs) (zQ K.g (fun _ => none) post cs' (zI b sz)) mc ms (zI b sz)) (hG : GoodIn Ts ws) (hw : ws = Cond.code y bytes maxL none :: ws') (hrm1 : rm.cells = mc) (hrm2 : rm.slots = ms) (hini : Cond.initialized y.cls ∈ Ts) (hlk : Cond.methodLink own index y ∈ Ts) (hinm : Cond.instanceMethod y ∈ Ts) (hyn : y.name = "<init>")
    (hd4 : y.cls ≠ "java/lang/invoke/MethodHandle" ∧ y.cls ≠ "java/lang/invoke/VarHandle" ∧ (parseMethodDescriptor y.desc).map (fun d => d.parameters.length) = some 0) (hR4 : rm.frames + 1 ≤ R0.frames ∧ 8 + (maxL + 11) + rm.locals ≤ R0.locals) (hnk : n + mc ≤ R0.cells ∧ k + ms ≤ R0.slots)
    (hst : stk = .ref b :: rest) (hW8 : (rest.map fun v => v.category).sum ≤ 8) (hdg : decode cc pc = .ok (.invokespecial index, 3)) (q : Nat) (hq : pc + 3 = q)
    (kk : ∀ u, post u → Z K (n + mc) (k + ms) (cs ++ cs' u) lv q rest) : Z K n k (cs ++ [[(b, .inr (ci, fs))]]) lv pc stk := by
  refine z_runI (a := #[.ref b]) hA (fun H locs ls hP hD hS hl => ?_) q hq kk
  exact va_runI (As := []) (rest := rest) C.1 (hM H.size) (cwI 0 C.ts hG hw hrm1 hrm2 (C.ts _ hini) (C.ts _ hlk) (C.ts _ hinm) hyn hd4 (by rw [C.r]; exact hR4)) ⟨zPreI_blind _ _ _ _ _, fun U hU hWm => zpreI C hA hE hP hD hS hU hWm⟩ rfl rfl hl.1 hst (lv_room hW8) hdg (by rw [C.r]; exact hnk)
theorem z_callIN {S : Type} {post : S → Prop} {cs' : S → List va_W} {stk : List Value} {y : MethodName} {ws ws' : List Cond} {rm : Room} {index maxL b ci mc ms : Nat} {fs : List Value} {bytes : ByteArray} {host : String}
    (C : Cx K R0 own cc Ts) (hA : ∀ q, K.s.heap.size ≤ q → K.A q) (hE : eIni K.A K.s) (rest : List Value) (hM : ∀ sz, Met K.l y ws rm (zPreI K.g b sz ci fs) (zQ K.g (fun _ => none) post cs' (zI b sz)) mc ms (zI b sz)) (hG : GoodIn Ts ws) (hw : ws = Cond.code y bytes maxL none :: ws') (hrm1 : rm.cells = mc) (hrm2 : rm.slots = ms) (hnest : va_Nw (.methodLinkNest own index y host) K.s) (hini : Cond.initialized y.cls ∈ Ts) (hinm : Cond.instanceMethod y ∈ Ts) (hyn : y.name = "<init>")
    (hd4 : y.cls ≠ "java/lang/invoke/MethodHandle" ∧ y.cls ≠ "java/lang/invoke/VarHandle" ∧ (parseMethodDescriptor y.desc).map (fun d => d.parameters.length) = some 0) (hR4 : rm.frames + 1 ≤ R0.frames ∧ 8 + (maxL + 11) + rm.locals ≤ R0.locals) (hnk : n + mc ≤ R0.cells ∧ k + ms ≤ R0.slots)
    (hst : stk = .ref b :: rest) (hW8 : (rest.map fun v => v.category).sum ≤ 8) (hdg : decode cc pc = .ok (.invokespecial index, 3)) (q : Nat) (hq : pc + 3 = q)
    (kk : ∀ u, post u → Z K (n + mc) (k + ms) (cs ++ cs' u) lv q rest) : Z K n k (cs ++ [[(b, .inr (ci, fs))]]) lv pc stk := by
  refine z_runI (a := #[.ref b]) hA (fun H locs ls hP hD hS hl => ?_) q hq kk
  exact va_runIN (As := []) (rest := rest) C.1 (hM H.size) ⟨va_cnB 0 C.ts hG hw hrm1 hrm2 hnest (C.ts _ hini) hd4 (by rw [C.r]; exact hR4), hyn, C.ts _ hinm⟩ ⟨zPreI_blind _ _ _ _ _, fun U hU hWm => zpreI C hA hE hP hD hS hU hWm⟩ rfl rfl hl.1 hst (lv_room hW8) hdg (by rw [C.r]; exact hnk)
end ALs

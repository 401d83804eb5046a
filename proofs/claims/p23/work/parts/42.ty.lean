/-! TY: small functions of the law; texts that are typed. -/
def eAll (A : Nat → Prop) (U : State) : Prop := eSet A U ∧ eOrd A U
theorem eAll.same {A : Nat → Prop} {u U : State} (e : u.vm = U.vm) (e2 : u.heap = U.heap) (h : eAll A u) : eAll A U := ⟨h.1.same e e2, h.2.same e e2⟩
theorem eAll.later {A B : Nat → Prop} {s U : State} {locs : List Loc} (h : eAll A s) (hS : va_S A s.heap U.heap locs) (hW : s.WarmedH U.vm) (hAB : ∀ q, B q → A q) : eAll B U := ⟨h.1.later hS hW hAB, h.2.later hS hW hAB⟩
/-- the script, seen by a method that gets it -/
def eScr (b L : Nat) (xs : Nat → Int32) (A : Nat → Prop) (U : State) : Prop := va_X b L xs U U.heap ∧ b < U.heap.size ∧ ¬ A b
theorem eScr.same {b L : Nat} {xs : Nat → Int32} {A : Nat → Prop} {u U : State} (e : u.vm = U.vm) (e2 : u.heap = U.heap) (h : eScr b L xs A u) : eScr b L xs A U := by
  obtain ⟨h1, h2, h3⟩ := h
  have ha : u.vm.Alike U.vm := by rw [e]; exact Vm.Alike.refl U.vm
  rw [e2] at h1 h2
  exact ⟨h1.moved ha, h2, h3⟩
theorem eScr.later {b L : Nat} {xs : Nat → Int32} {A B : Nat → Prop} {s U : State} {locs : List Loc} (h : eScr b L xs A s) (hS : va_S A s.heap U.heap locs) (hW : s.WarmedH U.vm) (hAB : ∀ q, B q → A q) : eScr b L xs B U := by
  obtain ⟨h1, h2, h3⟩ := h
  exact ⟨(h1.kept (hS.2.1 b h2 h3)).moved hW.alike, Nat.lt_of_lt_of_le h2 hS.1, fun z => h3 (hAB b z)⟩
section TYs
variable {K : zK} {R0 : Room} {own : String} {cc : ByteArray} {Ts : List Cond} {n k : Nat} {cs : List va_W} {lv : List (Nat × Value)} {pc : Nat} {st : List Value}
theorem z_irem (C : Cx K R0 own cc Ts) {a b : Nat} (ha : a < 2 ^ 31) (h0 : 0 < b) (hb : b < 2 ^ 31) (hd : decode cc pc = .ok (.irem, 1)) (q : Nat) (hq : pc + 1 = q) (kk : Z K n k cs lv q (.int (nI (a % b)) :: st)) : Z K n k cs lv pc (.int (nI b) :: .int (nI a) :: st) := by
  subst hq
  exact fun H locs ls hP hD hS hl => lv_irem C.x C.b hd (nI_ne0 h0 hb) (by rw [pk_rem ha h0 hb]; exact kk H locs ls hP hD hS hl)
theorem z_ishr (C : Cx K R0 own cc Ts) {x y : Int32} (hd : decode cc pc = .ok (.ishr, 1)) (q : Nat) (hq : pc + 1 = q) (kk : Z K n k cs lv q (.int (x >>> (y &&& 31)) :: st)) : Z K n k cs lv pc (.int y :: .int x :: st) := by
  subst hq
  exact fun H locs ls hP hD hS hl => lv_ishr C.x C.b hd (kk H locs ls hP hD hS hl)
/-- a call of a static method that reads what the start gives -/
theorem z_callSE {S : Type} {rv : S → Option Value} {post : S → Prop} {cs' : S → List va_W} {wc : List va_W} {stk : List Value} {y : MethodName} {ws ws' : List Cond} {rm : Room} {index maxL na : Nat} {bytes : ByteArray} {ret : Option FieldType} {E : (Nat → Prop) → State → Prop}
    (hEs : ∀ (A : Nat → Prop) (u U : State), u.vm = U.vm → u.heap = U.heap → E A u → E A U) (hEl : ∀ (B : Nat → Prop) (U : State) (locs : List Loc), va_S K.A K.s.heap U.heap locs → K.s.WarmedH U.vm → (∀ q, B q → K.A q) → E B U)
    (C : Cx K R0 own cc Ts) (As rest : List Value) (hM : Met K.l y ws rm (zPreE K.g E As wc) (zQ K.g rv post cs' (zA wc)) 0 0 (zA wc)) (hG : GoodIn Ts (va_wsS own index y ws)) (hw : ws = Cond.code y bytes maxL ret :: ws') (hrm1 : rm.cells = 0) (hrm2 : rm.slots = 0)
    (hd4 : y.cls ≠ "java/lang/invoke/MethodHandle" ∧ y.cls ≠ "java/lang/invoke/VarHandle" ∧ (parseMethodDescriptor y.desc).map (fun d => d.parameters.length) = some na) (hR4 : rm.frames + 1 ≤ R0.frames ∧ 8 + (maxL + 11) + rm.locals ≤ R0.locals) (hnk : n ≤ R0.cells ∧ k ≤ R0.slots)
    (isC : List Nat) (hC : isC.map (fun i => cs[i]?) = wc.map some) (hnC : va_nd isC = true) (hlc : ∀ x ∈ isC, x < cs.length) (src : List Nat) (hn : va_nd src = true) (hdis : ∀ x ∈ src, x ∉ isC) (cs2 : S → List va_W) (hs : ∀ u, src.map (fun i => (cs ++ cs' u)[i]?) = (cs2 u).map some)
    (hnA : As.length = na) (hst : stk = As.reverse ++ rest) (hW8 : (rest.map fun v => v.category).sum ≤ 8) (hdg : decode cc pc = .ok (.invokestatic index, 3)) (q : Nat) (hq : pc + 3 = q)
    (kk : ∀ u, post u → Z K n k (cs2 u) lv q ((rv u).toList ++ rest)) : Z K n k cs lv pc stk := by
  refine z_runE (wc := wc) (a := As.toArray) (fun H locs ls hP hD hS hl => ?_) isC hC hlc src hn hdis cs2 hs q hq kk
  refine va_runS (As := As) (rest := rest) C.1 hM (va_cwS na C.ts hG hw hrm1 hrm2 hd4 (by rw [C.r]; exact hR4)) ⟨fun a U f mk q => ?_, fun U hU hWm => ?_⟩ rfl hnA hl.1 hst (lv_room hW8) hdg (by rw [C.r]; exact hnk)
  · exact ⟨zPre_blind _ _ _ a U f mk q.1, hEs _ U (U.calling f mk a) rfl rfl q.2⟩
  · exact ⟨⟨rfl, by rw [hU]; exact zsubP hP isC hC, C.kp.warm hWm, (zsubD hD isC hnC hC).weaken (fun _ _ _ _ => trivial)⟩, hEl _ U locs (by rw [hU]; exact hS) hWm (zA_sub hD isC hC)⟩
end TYs
/-- a number below n -/
def upN (v : Int32) (n : Nat) : Nat := (v.toBitVec.toNat % 2 ^ 31) % n
theorem upN_lt {v : Int32} {n : Nat} (h : 0 < n) : upN v n < n := Nat.mod_lt _ h
/-- told, or twice as much -/
def tw (v : Int32) : Int32 := if v < 0 then v else nI 2 * v
theorem tw_nI {a : Nat} (h : a < 2 ^ 31) : tw (nI a) = nI (2 * a) := by
  unfold tw
  rw [if_neg (nI_pos h), pk_mul]
theorem tw_neg {v : Int32} (h : v < 0) : tw v = v := if_pos h
theorem chF_1 {w : Nat} (h1 : 33 ≤ w) (h2 : w ≤ 126) : chF 0 8 w = 1 := by
  show (if w = 0 then 0 else if 33 ≤ w % 256 ∧ w % 256 ≤ 126 then (if w / 256 = 0 then 0 + 1 else if 33 ≤ w / 256 % 256 ∧ w / 256 % 256 ≤ 126 then chF (0 + 1 + 1) 6 (w / 256 / 256) else 0) else 0) = 1
  rw [if_neg (by omega), if_pos (by omega), if_pos (by omega)]
theorem ptx_1 {tx : Nat → Nat} {len w : Nat} (h : w < 256) : ptx tx len w 1 1 = un tx len w := by
  show un tx (len + 0) (w / 2 ^ (8 * (1 - 0 - 1)) % 256) = un tx len w
  rw [show 2 ^ (8 * (1 - 0 - 1)) = 1 from rfl, Nat.div_one, Nat.mod_eq_of_lt h, Nat.add_zero]
theorem IT_un {tx : Nat → Nat} {len w : Nat} (h : IT tx len) (hl : len < 60) (hw : w ≤ 126) : IT (un tx len w) (len + 1) := ⟨by omega, fun i hi => by
  by_cases e : i = len
  · subst e; rw [un_s]; exact hw
  · rw [un_n e]; exact h.2 i (by omega)⟩
/-- the digits of v from a on, up to b -/
def NUMT (tx : Nat → Nat) (a v b : Nat) : Prop := (v < 10 ∧ b = a + 1 ∧ tx a = 48 + v) ∨ (10 ≤ v ∧ v < 100 ∧ b = a + 2 ∧ tx a = 48 + v / 10 ∧ tx (a + 1) = 48 + v % 10) ∨ (100 ≤ v ∧ v < 1000 ∧ b = a + 3 ∧ tx a = 48 + v / 100 ∧ tx (a + 1) = 48 + v / 10 % 10 ∧ tx (a + 2) = 48 + v % 10) ∨ (1000 ≤ v ∧ v < 10000 ∧ b = a + 4 ∧ tx a = 48 + v / 1000 ∧ tx (a + 1) = 48 + v / 100 % 10 ∧ tx (a + 2) = 48 + v / 10 % 10 ∧ tx (a + 3) = 48 + v % 10)
theorem NUMT_cg {tx tx' : Nat → Nat} {a v b : Nat} (h : NUMT tx a v b) (e : ∀ i, i < b → tx' i = tx i) : NUMT tx' a v b := by
  rcases h with ⟨h1, h2, h3⟩ | ⟨h1, h2, h3, h4, h5⟩ | ⟨h1, h2, h3, h4, h5, h6⟩ | ⟨h1, h2, h3, h4, h5, h6, h7⟩
  · exact Or.inl ⟨h1, h2, by rw [e _ (by omega)]; exact h3⟩
  · exact Or.inr (Or.inl ⟨h1, h2, h3, by rw [e _ (by omega)]; exact h4, by rw [e _ (by omega)]; exact h5⟩)
  · exact Or.inr (Or.inr (Or.inl ⟨h1, h2, h3, by rw [e _ (by omega)]; exact h4, by rw [e _ (by omega)]; exact h5, by rw [e _ (by omega)]; exact h6⟩))
  · exact Or.inr (Or.inr (Or.inr ⟨h1, h2, h3, by rw [e _ (by omega)]; exact h4, by rw [e _ (by omega)]; exact h5, by rw [e _ (by omega)]; exact h6, by rw [e _ (by omega)]; exact h7⟩))
/-- a typed job -/
def TYP (tx : Nat → Nat) (len pl sh hu du : Nat) : Prop := ∃ a b c, tx 0 = 112 ∧ NUMT tx 1 pl a ∧ tx a = 115 ∧ NUMT tx (a + 1) sh b ∧ tx b = 110 ∧ NUMT tx (b + 1) hu c ∧ tx c = 100 ∧ NUMT tx (c + 1) du len
section AUs
variable {tx : Nat → Nat} {r r1 : Nat → Nat → Nat} {i ex a s h d n c e : Nat}
theorem au_st (hG : auGd tx r i) (hR : auR tx r i = (ex, a, s, h, d, n, r1)) (hc : tx i = c) (hok : auOK ex h d c = true) {y : AS} (hn : auN (ex, a, s, h, d, n, r1) c = y) : auGd tx r (i + 1) ∧ auR tx r (i + 1) = y := by
  refine ⟨auGd_s hG hR (by rw [hc]; exact hok), ?_⟩
  show auN (auR tx r i) (tx i) = y
  rw [hR, hc]
  exact hn
theorem isD_48 (he : e ≤ 9) : isD (48 + e) = true := isD_t ⟨by omega, by omega⟩
theorem au0 (hG : auGd tx r i) (hR : auR tx r i = (0, a, s, h, d, n, r1)) (hc : tx i = 112) : auGd tx r (i + 1) ∧ auR tx r (i + 1) = (1, a, s, h, d, n, r1) := au_st hG hR hc rfl rfl
theorem au1 (hG : auGd tx r i) (hR : auR tx r i = (1, a, s, h, d, n, r1)) (hc : tx i = 48 + e) (he : e ≤ 9) : auGd tx r (i + 1) ∧ auR tx r (i + 1) = (2, e, s, h, d, n, r1) :=
  au_st hG hR hc (isD_48 he) (by show (2, 48 + e - 48, s, h, d, n, r1) = (2, e, s, h, d, n, r1); rw [Nat.add_sub_cancel_left])
theorem au2 (hG : auGd tx r i) (hR : auR tx r i = (2, a, s, h, d, n, r1)) (hc : tx i = 115) : auGd tx r (i + 1) ∧ auR tx r (i + 1) = (3, a, s, h, d, n, r1) := au_st hG hR hc rfl rfl
theorem au3 (hG : auGd tx r i) (hR : auR tx r i = (3, a, s, h, d, n, r1)) (hc : tx i = 48 + e) (he : e ≤ 9) : auGd tx r (i + 1) ∧ auR tx r (i + 1) = (4, a, e, h, d, n, r1) :=
  au_st hG hR hc (isD_48 he) (by show (4, a, 48 + e - 48, h, d, n, r1) = (4, a, e, h, d, n, r1); rw [Nat.add_sub_cancel_left])
theorem au4 (hG : auGd tx r i) (hR : auR tx r i = (4, a, s, h, d, n, r1)) (hc : tx i = 110) : auGd tx r (i + 1) ∧ auR tx r (i + 1) = (5, a, s, h, d, n, r1) := au_st hG hR hc rfl rfl
theorem au5 (hG : auGd tx r i) (hR : auR tx r i = (5, a, s, h, d, n, r1)) (hc : tx i = 48 + e) (he : e ≤ 9) (he1 : 1 ≤ e) : auGd tx r (i + 1) ∧ auR tx r (i + 1) = (6, a, s, e, 3000, n, r1) :=
  au_st hG hR hc (by rw [auOK_5, isD_48 he, decide_eq_true (show 48 + e ≠ 48 by omega)]; rfl) (by show (6, a, s, 48 + e - 48, 3000, n, r1) = (6, a, s, e, 3000, n, r1); rw [Nat.add_sub_cancel_left])
theorem au6 (hG : auGd tx r i) (hR : auR tx r i = (6, a, s, h, d, n, r1)) (hc : tx i = 48 + e) (he : e ≤ 9) (hb : 10 * h + e ≤ 20) : auGd tx r (i + 1) ∧ auR tx r (i + 1) = (6, a, s, 10 * h + e, d, n, r1) :=
  au_st hG hR hc (by rw [auOK_6, if_pos (isD_48 he), Nat.add_sub_cancel_left]; exact decide_eq_true hb) (by rw [auN_6, if_pos (isD_48 he), Nat.add_sub_cancel_left])
theorem au6d (hG : auGd tx r i) (hR : auR tx r i = (6, a, s, h, d, n, r1)) (hc : tx i = 100) : auGd tx r (i + 1) ∧ auR tx r (i + 1) = (7, a, s, h, d, n, r1) :=
  au_st hG hR hc rfl rfl
theorem au7 (hG : auGd tx r i) (hR : auR tx r i = (7, a, s, h, d, n, r1)) (hc : tx i = 48 + e) (he : e ≤ 9) : auGd tx r (i + 1) ∧ auR tx r (i + 1) = (8, a, s, h, e, n, r1) :=
  au_st hG hR hc (isD_48 he) (by show (8, a, s, h, 48 + e - 48, n, r1) = (8, a, s, h, e, n, r1); rw [Nat.add_sub_cancel_left])
theorem au8 (hG : auGd tx r i) (hR : auR tx r i = (8, a, s, h, d, n, r1)) (hc : tx i = 48 + e) (he : e ≤ 9) (hd : d ≠ 0) (hb : 10 * d + e ≤ 3000) : auGd tx r (i + 1) ∧ auR tx r (i + 1) = (8, a, s, h, 10 * d + e, n, r1) :=
  au_st hG hR hc (by rw [auOK_8, if_pos (isD_48 he), Nat.add_sub_cancel_left]; exact decide_eq_true ⟨hd, hb⟩) (by rw [auN_8, if_pos (isD_48 he), Nat.add_sub_cancel_left])
theorem au_num1 {v b : Nat} (h : NUMT tx i v b) (hv : v ≤ 9) : b = i + 1 ∧ tx i = 48 + v := by
  rcases h with ⟨h1, h2, h3⟩ | ⟨h1, -⟩ | ⟨h1, -⟩ | ⟨h1, -⟩
  · exact ⟨h2, h3⟩
  all_goals omega
theorem au_hun {v b : Nat} (hN : NUMT tx i v b) (h1v : 1 ≤ v) (hv : v ≤ 20) (hG : auGd tx r i) (hR : auR tx r i = (5, a, s, h, d, n, r1)) : auGd tx r b ∧ auR tx r b = (6, a, s, v, 3000, n, r1) := by
  rcases hN with ⟨h1, rfl, h3⟩ | ⟨h1, h2, rfl, h4, h5⟩ | ⟨h1, -⟩ | ⟨h1, -⟩
  · exact au5 hG hR h3 (by omega) h1v
  · obtain ⟨g1, g2⟩ := au5 hG hR h4 (by omega) (by omega)
    have g := au6 g1 g2 h5 (by omega) (by omega)
    rw [show 10 * (v / 10) + v % 10 = v by omega] at g
    exact g
  all_goals omega
theorem au_due {v b : Nat} (hN : NUMT tx i v b) (hv : v ≤ 3000) (hG : auGd tx r i) (hR : auR tx r i = (7, a, s, h, d, n, r1)) : auGd tx r b ∧ auR tx r b = (8, a, s, h, v, n, r1) := by
  rcases hN with ⟨h1, rfl, h3⟩ | ⟨h1, h2, rfl, h4, h5⟩ | ⟨h1, h2, rfl, h4, h5, h6⟩ | ⟨h1, h2, rfl, h4, h5, h6, h7⟩
  · exact au7 hG hR h3 (by omega)
  · obtain ⟨g1, g2⟩ := au7 hG hR h4 (by omega)
    have g := au8 g1 g2 h5 (by omega) (by omega) (by omega)
    rw [show 10 * (v / 10) + v % 10 = v by omega] at g
    exact g
  · obtain ⟨g1, g2⟩ := au7 hG hR h4 (by omega)
    obtain ⟨g3, g4⟩ := au8 g1 g2 h5 (by omega) (by omega) (by omega)
    have g := au8 g3 g4 h6 (by omega) (by omega) (by omega)
    rw [show 10 * (10 * (v / 100) + v / 10 % 10) + v % 10 = v by omega] at g
    exact g
  · obtain ⟨g1, g2⟩ := au7 hG hR h4 (by omega)
    obtain ⟨g3, g4⟩ := au8 g1 g2 h5 (by omega) (by omega) (by omega)
    obtain ⟨g5, g6⟩ := au8 g3 g4 h6 (by omega) (by omega) (by omega)
    have g := au8 g5 g6 h7 (by omega) (by omega) (by omega)
    rw [show 10 * (10 * (10 * (v / 1000) + v / 100 % 10) + v / 10 % 10) + v % 10 = v by omega] at g
    exact g
end AUs
theorem TYP_run {tx : Nat → Nat} {r : Nat → Nat → Nat} {len pl sh hu du : Nat} (h : TYP tx len pl sh hu du) (h1 : pl ≤ 9) (h2 : sh ≤ 9) (h3 : 1 ≤ hu) (h4 : hu ≤ 20) (h5 : du ≤ 3000) : auGd tx r len ∧ auR tx r len = (8, pl, sh, hu, du, 0, r) := by
  obtain ⟨a, b, c, t0, n1, t1, n2, t2, n3, t3, n4⟩ := h
  obtain ⟨rfl, u1⟩ := au_num1 n1 h1
  obtain ⟨rfl, u2⟩ := au_num1 n2 h2
  obtain ⟨g1, e1⟩ := au0 (tx := tx) (r := r) (i := 0) (fun j hj => by omega) rfl t0
  obtain ⟨g2, e2⟩ := au1 g1 e1 u1 h1
  obtain ⟨g3, e3⟩ := au2 g2 e2 t1
  obtain ⟨g4, e4⟩ := au3 g3 e3 u2 h2
  obtain ⟨g5, e5⟩ := au4 g4 e4 t2
  obtain ⟨g6, e6⟩ := au_hun n3 h3 h4 g5 e5
  obtain ⟨g7, e7⟩ := au6d g6 e6 t3
  exact au_due n4 h5 g7 e7
theorem TYP_par {tx : Nat → Nat} {r : Nat → Nat → Nat} {len pl sh hu du n2 : Nat} {w : Int32} {r2 : Nat → Nat → Nat} (h : TYP tx len pl sh hu du) (h1 : pl ≤ 9) (h2 : sh ≤ 9) (h3 : 1 ≤ hu) (h4 : hu ≤ 20) (h5 : du ≤ 3000) (hp : PAR tx r len w n2 r2) : w = (-6) ∧ n2 = 1 ∧ r2 = apR r 0 pl sh hu du := by
  obtain ⟨hG, hR⟩ := TYP_run (r := r) h h1 h2 h3 h4 h5
  rcases hp with ⟨i, hi, -, hb, -⟩ | ⟨-, -, hb, -⟩ | ⟨-, hw, -, ex, a, s, h, d, n, r1, -, hR2, e1, e2, -⟩
  · exact absurd ((hG i hi).symm.trans hb) (by decide)
  · rw [hR] at hb
    exact absurd rfl hb
  · have e := hR.symm.trans hR2
    cases e
    exact ⟨hw, e1, e2⟩
theorem mND_1 {st : Nat → Nat} {r : Nat → Nat → Nat} {pl sh hu du : Nat} : mND st (apR r 0 pl sh hu du) 1 = nd (st 6) hu := by
  show max 0 (nd (st 6) (un (r 2) 0 hu 0)) = nd (st 6) hu
  rw [un_s, Nat.zero_max]
theorem apA_1 {r ro : Nat → Nat → Nat} {n pl sh hu du : Nat} : apA r n (apR ro 0 pl sh hu du) 1 = apR r n pl sh hu du := by
  show apR r (n + 0) (un (ro 0) 0 pl 0) (un (ro 1) 0 sh 0) (un (ro 2) 0 hu 0) (un (ro 3) 0 du 0) = apR r n pl sh hu du
  rw [un_s, un_s, un_s, un_s, Nat.add_zero]
theorem hdX4_put : yX4_put.cls = RX4 ∧ yX4_put.cls ≠ "java/lang/invoke/MethodHandle" ∧ yX4_put.cls ≠ "java/lang/invoke/VarHandle" ∧ (parseMethodDescriptor yX4_put.desc).map (fun d => d.parameters.length) = some 1 := by decide +kernel
theorem tO_put1 (l : Launch) (g : zG) (x : Nat → Nat) (a : oA) (S : oS) (J : oJ) (tx : Nat → Nat) (len w : Nat) (hI : INV (uPad S tx len)) (h1 : 33 ≤ w) (h2 : w ≤ 126) (hl9 : len < 60) : Met l yX4_put wsX4_put ({ frames := 2, cells := 0, slots := 0, locals := 46 } : Room) (zPre g [.ref (x 0), .long (lN w)] [wO g x a (uPad S tx len) J]) (zQ g (fun J2 : oJ => some (.int (nI (len + 1))) ) (fun J2 : oJ => True) (fun J2 : oJ => [wO g x a (uPad S (un tx len w) (len + 1)) J2]) (zA [wO g x a (uPad S tx len) J])) 0 0 (zA [wO g x a (uPad S tx len) J]) := by
  have h := tO_put l g x a (uPad S tx len) J w 1 hI (by omega) (chF_1 h1 h2) (by decide) (by decide) (by show len + 1 ≤ 60; omega)
  have e : ptx (sTx (uPad S tx len)) (sLen (uPad S tx len)) w 1 1 = un tx len w := ptx_1 (by omega)
  rw [e] at h
  exact h

set_option maxHeartbeats 4000000 in
set_option maxRecDepth 100000 in
theorem tO_fault (l : Launch) (g : zG) (x : Nat → Nat) (a : oA) (S : oS) (J : oJ) (b c d e : Nat) (hI : INV S) (hTy : TYP (sTx S) (sLen S) b c d e) (q1 : b ≤ 9) (q2 : c ≤ 9) (q3 : 1 ≤ d) (q4 : d ≤ 20) (q5 : e ≤ 3000) : Met l yX4_fault wsX4_fault ({ frames := 6, cells := 0, slots := 0, locals := 131 } : Room) (zPre g [.ref (x 0)] [wO g x a S J]) (zQ g (fun J2 : oJ => some (.int (-6)) ) (fun J2 : oJ => True) (fun J2 : oJ => [wO g x a S J2]) (zA [wO g x a S J])) 0 0 (zA [wO g x a S J]) := by
  obtain ⟨bd, tr, q, p, fb, h, ho, sb⟩ := a
  obtain ⟨st, r, n, sv, ss, sr, sn, kp, nx, hs, hr, hm, tx, len⟩ := S
  obtain ⟨ts, tq, tn, a0, a1, a2, a3, a4, a5, a6, a7, s0, s1, s2, s3, s4, s5, s6, s7, s8, s9, ex, pl, sh, hu, du, fs, fr, fn⟩ := J
  obtain ⟨⟨hn, hS, hJ, hR⟩, hKp, hNx, hH, hV, hIl, hIt⟩ := hI
  refine z_big (S1 := oJ) (wOc g x (bd, tr, q, p, fb, h, ho, sb) (st, r, n, sv, ss, sr, sn, kp, nx, hs, hr, hm, tx, len) (ts, tq, tn, a0, a1, a2, a3, a4, a5, a6, a7, s0, s1, s2, s3, s4, s5, s6, s7, s8, s9, ex, pl, sh, hu, du, fs, fr, fn)) (tX4_fault l g x bd tr q p h sb sv fb tx len ex pl sh hu du fs fr fn hIl hIt) (List.append_nil _) [0, 4, 5] rfl rfl (zlc (N := 15) rfl rfl) [15, 1, 2, 3, 16, 17, 6, 7, 8, 9, 10, 11, 12, 13, 14] rfl (by decide) (fun u : (Int32) × (Nat) × (Int32) × (Int32) × (Int32) × (Int32) × (Nat) × (Nat → Nat → Nat) => match u with | (v, ex2, P2, S2, H2, D2, n2, r2) => [wX g x bd tr q p h sb sv, wB g bd st r n, wB g tr ts tq tn, wP g q a0 a1 a2 a3 a4 a5 a6 a7 s0 s1 s2 s3 s4 s5 s6 s7 s8 s9, wPd g p fb tx len ex2 P2 S2 H2 D2, wB g fb fs r2 n2, wH g h ho kp nx, wB g (ho 0) (hs 0) (hr 0) (hm 0), wB g (ho 1) (hs 1) (hr 1) (hm 1), wB g (ho 2) (hs 2) (hr 2) (hm 2), wB g (ho 3) (hs 3) (hr 3) (hm 3), wB g (ho 4) (hs 4) (hr 4) (hm 4), wB g (ho 5) (hs 5) (hr 5) (hm 5), wB g (sb 0) (ss 0) (sr 0) (sn 0), wB g (sb 1) (ss 1) (sr 1) (sn 1)]) (fun _ => rfl) (fun u : (Int32) × (Nat) × (Int32) × (Int32) × (Int32) × (Int32) × (Nat) × (Nat → Nat → Nat) => match u with | (v, ex2, P2, S2, H2, D2, n2, r2) => ((ts, tq, tn, a0, a1, a2, a3, a4, a5, a6, a7, s0, s1, s2, s3, s4, s5, s6, s7, s8, s9, ex2, P2, S2, H2, D2, fs, r2, n2) : oJ)) (fun u hu => by
    obtain ⟨v, ex2, P2, S2, H2, D2, n2, r2⟩ := u
    obtain ⟨e1, e2, e3⟩ := TYP_par hTy q1 q2 q3 q4 q5 hu
    subst e1
    exact rfl) (fun _ _ => trivial) (fun u hu => by
    obtain ⟨v, ex2, P2, S2, H2, D2, n2, r2⟩ := u
    obtain ⟨e1, e2, e3⟩ := TYP_par hTy q1 q2 q3 q4 q5 hu
    subst e1
    exact List.append_nil _)

set_option maxHeartbeats 4000000 in
set_option maxRecDepth 100000 in
theorem tO_read_np (l : Launch) (g : zG) (x : Nat → Nat) (a : oA) (S : oS) (J : oJ) (b c d e : Nat) (hI : INV S) (hTy : TYP (sTx S) (sLen S) b c d e) (q1 : b ≤ 9) (q2 : c ≤ 9) (q3 : 1 ≤ d) (q4 : d ≤ 20) (q5 : e ≤ 3000) (hb9 : sSt S 5 < nd (sSt S 6) d) : Met l yX4_read wsX4_read ({ frames := 6, cells := 0, slots := 0, locals := 131 } : Room) (zPre g [.ref (x 0)] [wO g x a S J]) (zQ g (fun J2 : oJ => some (.int (-5)) ) (fun J2 : oJ => True) (fun J2 : oJ => [wO g x a S J2]) (zA [wO g x a S J])) 0 0 (zA [wO g x a S J]) := by
  obtain ⟨bd, tr, q, p, fb, h, ho, sb⟩ := a
  obtain ⟨st, r, n, sv, ss, sr, sn, kp, nx, hs, hr, hm, tx, len⟩ := S
  obtain ⟨ts, tq, tn, a0, a1, a2, a3, a4, a5, a6, a7, s0, s1, s2, s3, s4, s5, s6, s7, s8, s9, ex, pl, sh, hu, du, fs, fr, fn⟩ := J
  obtain ⟨⟨hn, hS, hJ, hR⟩, hKp, hNx, hH, hV, hIl, hIt⟩ := hI
  have hb9 : st 5 < nd (st 6) d := hb9
  refine z_big (S1 := oJ) (wOc g x (bd, tr, q, p, fb, h, ho, sb) (st, r, n, sv, ss, sr, sn, kp, nx, hs, hr, hm, tx, len) (ts, tq, tn, a0, a1, a2, a3, a4, a5, a6, a7, s0, s1, s2, s3, s4, s5, s6, s7, s8, s9, ex, pl, sh, hu, du, fs, fr, fn)) (tX4_read l g x bd tr q p h sb sv st r n ho hs hr hm kp nx fb tx len ex pl sh hu du fs fr fn hn hS hKp hNx hIl hIt) (List.append_nil _) [0, 1, 4, 5, 6, 7, 8, 9, 10, 11, 12] rfl rfl (zlc (N := 15) rfl rfl) [15, 16, 2, 3, 17, 18, 19, 20, 21, 22, 23, 24, 25, 13, 14] rfl (by decide) (fun u : (Int32) × (Int32) × (Nat) × (Nat) × (Int32) × (Int32) × (Int32) × (Int32) × (Nat) × (Nat → Nat → Nat) × (Nat → Nat → Nat) × (Nat) × (Nat) × (Nat) × (Nat → Nat → Nat) × (Nat → Nat → Nat → Nat) × (Nat → Nat) => match u with | (v, w, len3, ex2, P2, S2, H2, D2, n2, r2, r3, n3, kp3, nx3, hs3, hr3, hm3) => [wX g x bd tr q p h sb sv, wB g bd st r3 n3, wB g tr ts tq tn, wP g q a0 a1 a2 a3 a4 a5 a6 a7 s0 s1 s2 s3 s4 s5 s6 s7 s8 s9, wPd g p fb tx len3 ex2 P2 S2 H2 D2, wB g fb fs r2 n2, wH g h ho kp3 nx3, wB g (ho 0) (hs3 0) (hr3 0) (hm3 0), wB g (ho 1) (hs3 1) (hr3 1) (hm3 1), wB g (ho 2) (hs3 2) (hr3 2) (hm3 2), wB g (ho 3) (hs3 3) (hr3 3) (hm3 3), wB g (ho 4) (hs3 4) (hr3 4) (hm3 4), wB g (ho 5) (hs3 5) (hr3 5) (hm3 5), wB g (sb 0) (ss 0) (sr 0) (sn 0), wB g (sb 1) (ss 1) (sr 1) (sn 1)]) (fun _ => rfl) (fun u : (Int32) × (Int32) × (Nat) × (Nat) × (Int32) × (Int32) × (Int32) × (Int32) × (Nat) × (Nat → Nat → Nat) × (Nat → Nat → Nat) × (Nat) × (Nat) × (Nat) × (Nat → Nat → Nat) × (Nat → Nat → Nat → Nat) × (Nat → Nat) => match u with | (v, w, len3, ex2, P2, S2, H2, D2, n2, r2, r3, n3, kp3, nx3, hs3, hr3, hm3) => ((ts, tq, tn, a0, a1, a2, a3, a4, a5, a6, a7, s0, s1, s2, s3, s4, s5, s6, s7, s8, s9, ex2, P2, S2, H2, D2, fs, r2, n2) : oJ)) (fun u hu => by
    obtain ⟨v, w, len3, ex2, P2, S2, H2, D2, n2, r2, r3, n3, kp3, nx3, hs3, hr3, hm3⟩ := u
    obtain ⟨hp, hc⟩ := hu
    obtain ⟨e1, e2, e3⟩ := TYP_par hTy q1 q2 q3 q4 q5 hp
    subst e1
    subst e2
    subst e3
    have hm9 := mND_1 (st := st) (r := fr) (pl := b) (sh := c) (hu := d) (du := e)
    rcases hc with ⟨a1, -⟩ | ⟨a1, a2, c1, c2, c3, c4, c5, c6, c7, c8, c9⟩ | ⟨a1, a2, a3, c1, c2, c3, c4, c5, c6, c7, c8, c9⟩ | ⟨a1, a2, a3, c1, c2, c3, c4, c5, c6, c7, c8, c9⟩
    · exact absurd rfl a1
    · skip
      subst c1
      subst c2
      subst c3
      subst c4
      subst c5
      subst c6
      subst c7
      subst c8
      subst c9
      exact rfl
    · exfalso; omega
    · exfalso; omega) (fun _ _ => trivial) (fun u hu => by
    obtain ⟨v, w, len3, ex2, P2, S2, H2, D2, n2, r2, r3, n3, kp3, nx3, hs3, hr3, hm3⟩ := u
    obtain ⟨hp, hc⟩ := hu
    obtain ⟨e1, e2, e3⟩ := TYP_par hTy q1 q2 q3 q4 q5 hp
    subst e1
    subst e2
    subst e3
    have hm9 := mND_1 (st := st) (r := fr) (pl := b) (sh := c) (hu := d) (du := e)
    rcases hc with ⟨a1, -⟩ | ⟨a1, a2, c1, c2, c3, c4, c5, c6, c7, c8, c9⟩ | ⟨a1, a2, a3, c1, c2, c3, c4, c5, c6, c7, c8, c9⟩ | ⟨a1, a2, a3, c1, c2, c3, c4, c5, c6, c7, c8, c9⟩
    · exact absurd rfl a1
    · skip
      subst c1
      subst c2
      subst c3
      subst c4
      subst c5
      subst c6
      subst c7
      subst c8
      subst c9
      exact List.append_nil _
    · exfalso; omega
    · exfalso; omega)

set_option maxHeartbeats 4000000 in
set_option maxRecDepth 100000 in
theorem tO_read_tm (l : Launch) (g : zG) (x : Nat → Nat) (a : oA) (S : oS) (J : oJ) (b c d e : Nat) (hI : INV S) (hTy : TYP (sTx S) (sLen S) b c d e) (q1 : b ≤ 9) (q2 : c ≤ 9) (q3 : 1 ≤ d) (q4 : d ≤ 20) (q5 : e ≤ 3000) (hb9 : nd (sSt S 6) d ≤ sSt S 5) (hn9 : 12 < sN S + 1) : Met l yX4_read wsX4_read ({ frames := 6, cells := 0, slots := 0, locals := 131 } : Room) (zPre g [.ref (x 0)] [wO g x a S J]) (zQ g (fun J2 : oJ => some (.int (-4)) ) (fun J2 : oJ => True) (fun J2 : oJ => [wO g x a S J2]) (zA [wO g x a S J])) 0 0 (zA [wO g x a S J]) := by
  obtain ⟨bd, tr, q, p, fb, h, ho, sb⟩ := a
  obtain ⟨st, r, n, sv, ss, sr, sn, kp, nx, hs, hr, hm, tx, len⟩ := S
  obtain ⟨ts, tq, tn, a0, a1, a2, a3, a4, a5, a6, a7, s0, s1, s2, s3, s4, s5, s6, s7, s8, s9, ex, pl, sh, hu, du, fs, fr, fn⟩ := J
  obtain ⟨⟨hn, hS, hJ, hR⟩, hKp, hNx, hH, hV, hIl, hIt⟩ := hI
  have hb9 : nd (st 6) d ≤ st 5 := hb9
  have hn9 : 12 < n + 1 := hn9
  refine z_big (S1 := oJ) (wOc g x (bd, tr, q, p, fb, h, ho, sb) (st, r, n, sv, ss, sr, sn, kp, nx, hs, hr, hm, tx, len) (ts, tq, tn, a0, a1, a2, a3, a4, a5, a6, a7, s0, s1, s2, s3, s4, s5, s6, s7, s8, s9, ex, pl, sh, hu, du, fs, fr, fn)) (tX4_read l g x bd tr q p h sb sv st r n ho hs hr hm kp nx fb tx len ex pl sh hu du fs fr fn hn hS hKp hNx hIl hIt) (List.append_nil _) [0, 1, 4, 5, 6, 7, 8, 9, 10, 11, 12] rfl rfl (zlc (N := 15) rfl rfl) [15, 16, 2, 3, 17, 18, 19, 20, 21, 22, 23, 24, 25, 13, 14] rfl (by decide) (fun u : (Int32) × (Int32) × (Nat) × (Nat) × (Int32) × (Int32) × (Int32) × (Int32) × (Nat) × (Nat → Nat → Nat) × (Nat → Nat → Nat) × (Nat) × (Nat) × (Nat) × (Nat → Nat → Nat) × (Nat → Nat → Nat → Nat) × (Nat → Nat) => match u with | (v, w, len3, ex2, P2, S2, H2, D2, n2, r2, r3, n3, kp3, nx3, hs3, hr3, hm3) => [wX g x bd tr q p h sb sv, wB g bd st r3 n3, wB g tr ts tq tn, wP g q a0 a1 a2 a3 a4 a5 a6 a7 s0 s1 s2 s3 s4 s5 s6 s7 s8 s9, wPd g p fb tx len3 ex2 P2 S2 H2 D2, wB g fb fs r2 n2, wH g h ho kp3 nx3, wB g (ho 0) (hs3 0) (hr3 0) (hm3 0), wB g (ho 1) (hs3 1) (hr3 1) (hm3 1), wB g (ho 2) (hs3 2) (hr3 2) (hm3 2), wB g (ho 3) (hs3 3) (hr3 3) (hm3 3), wB g (ho 4) (hs3 4) (hr3 4) (hm3 4), wB g (ho 5) (hs3 5) (hr3 5) (hm3 5), wB g (sb 0) (ss 0) (sr 0) (sn 0), wB g (sb 1) (ss 1) (sr 1) (sn 1)]) (fun _ => rfl) (fun u : (Int32) × (Int32) × (Nat) × (Nat) × (Int32) × (Int32) × (Int32) × (Int32) × (Nat) × (Nat → Nat → Nat) × (Nat → Nat → Nat) × (Nat) × (Nat) × (Nat) × (Nat → Nat → Nat) × (Nat → Nat → Nat → Nat) × (Nat → Nat) => match u with | (v, w, len3, ex2, P2, S2, H2, D2, n2, r2, r3, n3, kp3, nx3, hs3, hr3, hm3) => ((ts, tq, tn, a0, a1, a2, a3, a4, a5, a6, a7, s0, s1, s2, s3, s4, s5, s6, s7, s8, s9, ex2, P2, S2, H2, D2, fs, r2, n2) : oJ)) (fun u hu => by
    obtain ⟨v, w, len3, ex2, P2, S2, H2, D2, n2, r2, r3, n3, kp3, nx3, hs3, hr3, hm3⟩ := u
    obtain ⟨hp, hc⟩ := hu
    obtain ⟨e1, e2, e3⟩ := TYP_par hTy q1 q2 q3 q4 q5 hp
    subst e1
    subst e2
    subst e3
    have hm9 := mND_1 (st := st) (r := fr) (pl := b) (sh := c) (hu := d) (du := e)
    rcases hc with ⟨a1, -⟩ | ⟨a1, a2, c1, c2, c3, c4, c5, c6, c7, c8, c9⟩ | ⟨a1, a2, a3, c1, c2, c3, c4, c5, c6, c7, c8, c9⟩ | ⟨a1, a2, a3, c1, c2, c3, c4, c5, c6, c7, c8, c9⟩
    · exact absurd rfl a1
    · exfalso; omega
    · skip
      subst c1
      subst c2
      subst c3
      subst c4
      subst c5
      subst c6
      subst c7
      subst c8
      subst c9
      exact rfl
    · exfalso; omega) (fun _ _ => trivial) (fun u hu => by
    obtain ⟨v, w, len3, ex2, P2, S2, H2, D2, n2, r2, r3, n3, kp3, nx3, hs3, hr3, hm3⟩ := u
    obtain ⟨hp, hc⟩ := hu
    obtain ⟨e1, e2, e3⟩ := TYP_par hTy q1 q2 q3 q4 q5 hp
    subst e1
    subst e2
    subst e3
    have hm9 := mND_1 (st := st) (r := fr) (pl := b) (sh := c) (hu := d) (du := e)
    rcases hc with ⟨a1, -⟩ | ⟨a1, a2, c1, c2, c3, c4, c5, c6, c7, c8, c9⟩ | ⟨a1, a2, a3, c1, c2, c3, c4, c5, c6, c7, c8, c9⟩ | ⟨a1, a2, a3, c1, c2, c3, c4, c5, c6, c7, c8, c9⟩
    · exact absurd rfl a1
    · exfalso; omega
    · skip
      subst c1
      subst c2
      subst c3
      subst c4
      subst c5
      subst c6
      subst c7
      subst c8
      subst c9
      exact List.append_nil _
    · exfalso; omega)

set_option maxHeartbeats 4000000 in
set_option maxRecDepth 100000 in
theorem tO_read_ok (l : Launch) (g : zG) (x : Nat → Nat) (a : oA) (S : oS) (J : oJ) (b c d e : Nat) (hI : INV S) (hTy : TYP (sTx S) (sLen S) b c d e) (q1 : b ≤ 9) (q2 : c ≤ 9) (q3 : 1 ≤ d) (q4 : d ≤ 20) (q5 : e ≤ 3000) (hb9 : nd (sSt S 6) d ≤ sSt S 5) (hn9 : sN S + 1 ≤ 12) : Met l yX4_read wsX4_read ({ frames := 6, cells := 0, slots := 0, locals := 131 } : Room) (zPre g [.ref (x 0)] [wO g x a S J]) (zQ g (fun J2 : oJ => some (.int (nI (sN S + 1))) ) (fun J2 : oJ => True) (fun J2 : oJ => [wO g x a (uPad (uPush S (sSt S) (apR (sR S) (sN S) b c d e) (sN S + 1)) (sTx S) 0) J2]) (zA [wO g x a S J])) 0 0 (zA [wO g x a S J]) := by
  obtain ⟨bd, tr, q, p, fb, h, ho, sb⟩ := a
  obtain ⟨st, r, n, sv, ss, sr, sn, kp, nx, hs, hr, hm, tx, len⟩ := S
  obtain ⟨ts, tq, tn, a0, a1, a2, a3, a4, a5, a6, a7, s0, s1, s2, s3, s4, s5, s6, s7, s8, s9, ex, pl, sh, hu, du, fs, fr, fn⟩ := J
  obtain ⟨⟨hn, hS, hJ, hR⟩, hKp, hNx, hH, hV, hIl, hIt⟩ := hI
  have hb9 : nd (st 6) d ≤ st 5 := hb9
  have hn9 : n + 1 ≤ 12 := hn9
  refine z_big (S1 := oJ) (wOc g x (bd, tr, q, p, fb, h, ho, sb) (st, r, n, sv, ss, sr, sn, kp, nx, hs, hr, hm, tx, len) (ts, tq, tn, a0, a1, a2, a3, a4, a5, a6, a7, s0, s1, s2, s3, s4, s5, s6, s7, s8, s9, ex, pl, sh, hu, du, fs, fr, fn)) (tX4_read l g x bd tr q p h sb sv st r n ho hs hr hm kp nx fb tx len ex pl sh hu du fs fr fn hn hS hKp hNx hIl hIt) (List.append_nil _) [0, 1, 4, 5, 6, 7, 8, 9, 10, 11, 12] rfl rfl (zlc (N := 15) rfl rfl) [15, 16, 2, 3, 17, 18, 19, 20, 21, 22, 23, 24, 25, 13, 14] rfl (by decide) (fun u : (Int32) × (Int32) × (Nat) × (Nat) × (Int32) × (Int32) × (Int32) × (Int32) × (Nat) × (Nat → Nat → Nat) × (Nat → Nat → Nat) × (Nat) × (Nat) × (Nat) × (Nat → Nat → Nat) × (Nat → Nat → Nat → Nat) × (Nat → Nat) => match u with | (v, w, len3, ex2, P2, S2, H2, D2, n2, r2, r3, n3, kp3, nx3, hs3, hr3, hm3) => [wX g x bd tr q p h sb sv, wB g bd st r3 n3, wB g tr ts tq tn, wP g q a0 a1 a2 a3 a4 a5 a6 a7 s0 s1 s2 s3 s4 s5 s6 s7 s8 s9, wPd g p fb tx len3 ex2 P2 S2 H2 D2, wB g fb fs r2 n2, wH g h ho kp3 nx3, wB g (ho 0) (hs3 0) (hr3 0) (hm3 0), wB g (ho 1) (hs3 1) (hr3 1) (hm3 1), wB g (ho 2) (hs3 2) (hr3 2) (hm3 2), wB g (ho 3) (hs3 3) (hr3 3) (hm3 3), wB g (ho 4) (hs3 4) (hr3 4) (hm3 4), wB g (ho 5) (hs3 5) (hr3 5) (hm3 5), wB g (sb 0) (ss 0) (sr 0) (sn 0), wB g (sb 1) (ss 1) (sr 1) (sn 1)]) (fun _ => rfl) (fun u : (Int32) × (Int32) × (Nat) × (Nat) × (Int32) × (Int32) × (Int32) × (Int32) × (Nat) × (Nat → Nat → Nat) × (Nat → Nat → Nat) × (Nat) × (Nat) × (Nat) × (Nat → Nat → Nat) × (Nat → Nat → Nat → Nat) × (Nat → Nat) => match u with | (v, w, len3, ex2, P2, S2, H2, D2, n2, r2, r3, n3, kp3, nx3, hs3, hr3, hm3) => ((ts, tq, tn, a0, a1, a2, a3, a4, a5, a6, a7, s0, s1, s2, s3, s4, s5, s6, s7, s8, s9, ex2, P2, S2, H2, D2, fs, r2, n2) : oJ)) (fun u hu => by
    obtain ⟨v, w, len3, ex2, P2, S2, H2, D2, n2, r2, r3, n3, kp3, nx3, hs3, hr3, hm3⟩ := u
    obtain ⟨hp, hc⟩ := hu
    obtain ⟨e1, e2, e3⟩ := TYP_par hTy q1 q2 q3 q4 q5 hp
    subst e1
    subst e2
    subst e3
    have hm9 := mND_1 (st := st) (r := fr) (pl := b) (sh := c) (hu := d) (du := e)
    rcases hc with ⟨a1, -⟩ | ⟨a1, a2, c1, c2, c3, c4, c5, c6, c7, c8, c9⟩ | ⟨a1, a2, a3, c1, c2, c3, c4, c5, c6, c7, c8, c9⟩ | ⟨a1, a2, a3, c1, c2, c3, c4, c5, c6, c7, c8, c9⟩
    · exact absurd rfl a1
    · exfalso; omega
    · exfalso; omega
    · rw [apA_1] at c3
      subst c1
      subst c2
      subst c3
      subst c4
      subst c5
      subst c6
      subst c7
      subst c8
      subst c9
      exact rfl) (fun _ _ => trivial) (fun u hu => by
    obtain ⟨v, w, len3, ex2, P2, S2, H2, D2, n2, r2, r3, n3, kp3, nx3, hs3, hr3, hm3⟩ := u
    obtain ⟨hp, hc⟩ := hu
    obtain ⟨e1, e2, e3⟩ := TYP_par hTy q1 q2 q3 q4 q5 hp
    subst e1
    subst e2
    subst e3
    have hm9 := mND_1 (st := st) (r := fr) (pl := b) (sh := c) (hu := d) (du := e)
    rcases hc with ⟨a1, -⟩ | ⟨a1, a2, c1, c2, c3, c4, c5, c6, c7, c8, c9⟩ | ⟨a1, a2, a3, c1, c2, c3, c4, c5, c6, c7, c8, c9⟩ | ⟨a1, a2, a3, c1, c2, c3, c4, c5, c6, c7, c8, c9⟩
    · exact absurd rfl a1
    · exfalso; omega
    · exfalso; omega
    · rw [apA_1] at c3
      subst c1
      subst c2
      subst c3
      subst c4
      subst c5
      subst c6
      subst c7
      subst c8
      subst c9
      exact List.append_nil _)

set_option maxHeartbeats 4000000 in
set_option maxRecDepth 100000 in
theorem tL_up (l : Launch) (g : zG) (v : Int32) (n : Nat) (h0 : 0 < n) (h1 : n < 2 ^ 31) : Met l yL_up wsL_up ({ frames := 0, cells := 0, slots := 0, locals := 0 } : Room) (zPre g [.int v, .int (nI n)] []) (zQ g (fun _ : Unit => some (.int (nI (upN v n))) ) (fun _ : Unit => True) (fun _ : Unit => []) (zA [])) 0 0 (zA []) := by
  refine z_entry (cc := cL_up) (maxL := 2) (ret := (some .int)) (own := RL) (by decide) rfl rfl (Nat.le_of_ble_eq_true rfl) [(0, .int v), (1, .int (nI n))] rfl ?_
  intro K hKl hKg hnL C hRx
  subst hKl
  subst hKg
  refine z_iload_n C 0 rfl rfl dL_up_0 1 rfl ?_
  refine z_ldc C (v := nI 2147483647) (List.mem_of_getElem? (i := 1) rfl) dL_up_1 3 rfl ?_
  refine z_iandI C dL_up_3 4 rfl ?_
  refine z_top (show v &&& (nI 2147483647) = nI (v.toBitVec.toNat % 2 ^ 31) from (pk_and v 31 rfl)) ?_
  refine z_iload_n C 1 rfl rfl dL_up_4 5 rfl ?_
  refine z_irem C (Nat.mod_lt _ (by decide)) h0 h1 dL_up_5 6 rfl ?_
  exact z_iret C hRx dL_up_6 () rfl trivial rfl

set_option maxHeartbeats 4000000 in
set_option maxRecDepth 100000 in
theorem tL_twice (l : Launch) (g : zG) (v : Int32) : Met l yL_twice wsL_twice ({ frames := 0, cells := 0, slots := 0, locals := 0 } : Room) (zPre g [.int v] []) (zQ g (fun _ : Unit => some (.int (tw v)) ) (fun _ : Unit => True) (fun _ : Unit => []) (zA [])) 0 0 (zA []) := by
  refine z_entry (cc := cL_twice) (maxL := 1) (ret := (some .int)) (own := RL) (by decide) rfl rfl (Nat.le_of_ble_eq_true rfl) [(0, .int v)] rfl ?_
  intro K hKl hKg hnL C hRx
  subst hKl
  subst hKg
  refine z_iload_n C 0 rfl rfl dL_twice_0 1 rfl ?_
  refine z_ifI_ge C 8 dL_twice_1 (by decide) 4 rfl (fun c_1 => ?_) (fun c_1 => ?_)
  · skip
    refine z_iconst C (v := nI 2) rfl dL_twice_8 9 rfl ?_
    refine z_iload_n C 0 rfl rfl dL_twice_9 10 rfl ?_
    refine z_imulI C dL_twice_10 11 rfl ?_
    exact z_iret C hRx dL_twice_11 () (by rw [show tw v = nI 2 * v from if_neg (Int32.not_lt.mpr c_1)]) trivial rfl
  · skip
    refine z_iload_n C 0 rfl rfl dL_twice_4 5 rfl ?_
    refine z_goto C 11 dL_twice_5 (by decide) ?_
    exact z_iret C hRx dL_twice_11 () (by rw [tw_neg (Int32.not_le.mp c_1)]) trivial rfl

set_option maxHeartbeats 4000000 in
set_option maxRecDepth 100000 in
theorem tL_cell (l : Launch) (g : zG) (b L : Nat) (xs : Nat → Int32) (j : Nat) (hL : L < 2 ^ 31) (hj : j < 2 ^ 31) : Met l yL_cell wsL_cell ({ frames := 0, cells := 0, slots := 0, locals := 0 } : Room) (zPreE g (eScr b L xs) [.ref b, .int (nI j)] []) (zQ g (fun z : Int32 => some (.int z) ) (fun z : Int32 => True) (fun z : Int32 => []) (zA [])) 0 0 (zA []) := by
  refine z_entryE (cc := cL_cell) (maxL := 2) (ret := (some .int)) (own := RL) (by decide) rfl rfl (Nat.le_of_ble_eq_true rfl) [(0, .ref b), (1, .int (nI j))] rfl ?_
  intro K hKl hKg hnL C hRx hE
  subst hKl
  subst hKg
  refine z_iload_n C 1 rfl rfl dL_cell_0 1 rfl ?_
  refine z_aload_n C 0 rfl rfl dL_cell_1 2 rfl ?_
  refine z_xlen C hE.1 hE.2.1 hE.2.2 dL_cell_2 3 rfl ?_
  refine z_icmp_ge C (by omega) (by omega) 12 dL_cell_3 (by decide) 6 rfl (fun c_1 => ?_) (fun c_1 => ?_)
  · skip
    refine z_ldc C (v := nI 2143806931) (List.mem_of_getElem? (i := 1) rfl) dL_cell_12 14 rfl ?_
    refine z_iload_n C 1 rfl rfl dL_cell_14 15 rfl ?_
    refine z_sipush C (v := nI 1327) rfl dL_cell_15 18 rfl ?_
    refine z_iadd C dL_cell_18 19 rfl ?_
    refine z_imul C dL_cell_19 20 rfl ?_
    exact z_iret C hRx dL_cell_20 (nI (2143806931 * (j + 1327))) rfl trivial rfl
  · skip
    refine z_aload_n C 0 rfl rfl dL_cell_6 7 rfl ?_
    refine z_iload_n C 1 rfl rfl dL_cell_7 8 rfl ?_
    refine z_xld C hE.1 hE.2.1 hE.2.2 (by omega) hL dL_cell_8 9 rfl ?_
    refine z_goto C 20 dL_cell_9 (by decide) ?_
    exact z_iret C hRx dL_cell_20 (xs j) rfl trivial rfl

set_option maxHeartbeats 4000000 in
set_option maxRecDepth 100000 in
theorem tL_number (l : Launch) (g : zG) (x : Nat → Nat) (a : oA) (S : oS) (J : oJ) (tx : Nat → Nat) (len v : Nat) (hI : INV S) (hT : IT tx len) (hl : len ≤ 50) (hv : v ≤ 9999) : Met l yL_number wsL_number ({ frames := 3, cells := 0, slots := 0, locals := 70 } : Room) (zPre g [.ref (x 0), .int (nI v)] [wO g x a (uPad S tx len) J]) (zQ g (fun u : (oJ) × (Nat → Nat) × (Nat) => match u with | (J2, tx2, len2) => some (.int (bI true)) ) (fun u : (oJ) × (Nat → Nat) × (Nat) => match u with | (J2, tx2, len2) => (∀ i, i < len → tx2 i = tx i) ∧ (NUMT tx2 len v len2) ∧ (IT tx2 len2) ∧ (len2 ≤ len + 4)) (fun u : (oJ) × (Nat → Nat) × (Nat) => match u with | (J2, tx2, len2) => [wO g x a (uPad S tx2 len2) J2]) (zA [wO g x a (uPad S tx len) J])) 0 0 (zA [wO g x a (uPad S tx len) J]) := by
  refine z_entry (cc := cL_number) (maxL := 2) (ret := (some .boolean)) (own := RL) (by decide) rfl rfl (Nat.le_of_ble_eq_true rfl) [(0, .ref (x 0)), (1, .int (nI v))] rfl ?_
  intro K hKl hKg hnL C hRx
  subst hKl
  subst hKg
  rcases (show (v < 10) ∨ (10 ≤ v ∧ v < 100) ∨ (100 ≤ v ∧ v < 1000) ∨ (1000 ≤ v ∧ v < 10000) by omega) with hc | hc | hc | hc
  · skip
    refine z_iload_n C 1 rfl rfl dL_number_0 1 rfl ?_
    refine z_sipush C (v := nI 1000) rfl dL_number_1 4 rfl ?_
    refine z_icmp_lt C (by omega) (by omega) 23 dL_number_4 (by decide) 7 rfl (fun c_1 => ?_) (fun c_1 => ?_)
    rotate_left
    · exfalso; omega
    refine z_iload_n C 1 rfl rfl dL_number_23 24 rfl ?_
    refine z_bipush C (v := nI 100) rfl dL_number_24 26 rfl ?_
    refine z_icmp_lt C (by omega) (by omega) 47 dL_number_26 (by decide) 29 rfl (fun c_2 => ?_) (fun c_2 => ?_)
    rotate_left
    · exfalso; omega
    refine z_iload_n C 1 rfl rfl dL_number_47 48 rfl ?_
    refine z_bipush C (v := nI 10) rfl dL_number_48 50 rfl ?_
    refine z_icmp_lt C (by omega) (by omega) 71 dL_number_50 (by decide) 53 rfl (fun c_3 => ?_) (fun c_3 => ?_)
    rotate_left
    · exfalso; omega
    refine z_aload_n C 0 rfl rfl dL_number_71 72 rfl ?_
    refine z_bipush C (v := nI 48) rfl dL_number_72 74 rfl ?_
    refine z_iload_n C 1 rfl rfl dL_number_74 75 rfl ?_
    refine z_bipush C (v := nI 10) rfl dL_number_75 77 rfl ?_
    refine z_irem C (by omega) (by omega) (by omega) dL_number_77 78 rfl ?_
    refine z_iadd C dL_number_78 79 rfl ?_
    refine z_i2l C dL_number_79 80 rfl ?_
    refine z_topL (show (nI (48 + (v % 10))).toInt64 = lN (48 + (v % 10)) from nI_l (by omega)) ?_
    have hT_4 := IT_un hT (w := 48 + (v % 10)) (by omega) (by omega)
    refine z_callV C [.long (lN (48 + (v % 10)))] [] (tO_put1 K.l K.g x a S J tx len (48 + (v % 10)) (INV_pad hI hT) (by omega) (by omega) (by omega)) gL_number_X4_put rfl rfl rfl hdX4_put ⟨Nat.le_of_ble_eq_true rfl, Nat.le_of_ble_eq_true rfl⟩ ⟨Nat.zero_le _, Nat.zero_le _⟩ 0 0 rfl rfl rfl [0] rfl rfl (zlc (N := 1) rfl rfl) [1] rfl (by decide) (fun J2 : oJ => [wO K.g x a (uPad S (un tx len (48 + (v % 10))) (len + 1)) J2]) (fun _ => rfl) rfl rfl (Nat.le_of_ble_eq_true rfl) dL_number_80 83 rfl (fun u9 hu9 => ?_)
    obtain ⟨J2_5, rfl⟩ : ∃ z, z = u9 := ⟨_, rfl⟩
    show Z K 0 0 [wO K.g x a (uPad S (un tx len (48 + (v % 10))) (len + 1)) J2_5] [(0, .ref (x 0)), (1, .int (nI v))] 83 [.int (nI (len + 1))]
    refine z_if_le C (by omega) 90 dL_number_83 (by decide) 86 rfl (fun c_6 => ?_) (fun c_6 => ?_)
    · exfalso; omega
    refine z_iconst C (v := nI 1) rfl dL_number_86 87 rfl ?_
    refine z_goto C 91 dL_number_87 (by decide) ?_
    refine z_eq (st2 := [.int (bI true)]) ?_ rfl rfl rfl
    exact z_bret C hRx dL_number_91 (J2_5, un tx len (48 + (v % 10)), len + 1) rfl (⟨(fun i hi => by simp only [un]; (repeat' split) <;> omega), Or.inl ⟨by omega, by omega, by (simp only [un]; (repeat' split) <;> omega)⟩, hT_4, by omega⟩) rfl
  · skip
    refine z_iload_n C 1 rfl rfl dL_number_0 1 rfl ?_
    refine z_sipush C (v := nI 1000) rfl dL_number_1 4 rfl ?_
    refine z_icmp_lt C (by omega) (by omega) 23 dL_number_4 (by decide) 7 rfl (fun c_7 => ?_) (fun c_7 => ?_)
    rotate_left
    · exfalso; omega
    refine z_iload_n C 1 rfl rfl dL_number_23 24 rfl ?_
    refine z_bipush C (v := nI 100) rfl dL_number_24 26 rfl ?_
    refine z_icmp_lt C (by omega) (by omega) 47 dL_number_26 (by decide) 29 rfl (fun c_8 => ?_) (fun c_8 => ?_)
    rotate_left
    · exfalso; omega
    refine z_iload_n C 1 rfl rfl dL_number_47 48 rfl ?_
    refine z_bipush C (v := nI 10) rfl dL_number_48 50 rfl ?_
    refine z_icmp_lt C (by omega) (by omega) 71 dL_number_50 (by decide) 53 rfl (fun c_9 => ?_) (fun c_9 => ?_)
    · exfalso; omega
    refine z_aload_n C 0 rfl rfl dL_number_53 54 rfl ?_
    refine z_bipush C (v := nI 48) rfl dL_number_54 56 rfl ?_
    refine z_iload_n C 1 rfl rfl dL_number_56 57 rfl ?_
    refine z_bipush C (v := nI 10) rfl dL_number_57 59 rfl ?_
    refine z_idiv C (by omega) (by omega) (by omega) dL_number_59 60 rfl ?_
    refine z_bipush C (v := nI 10) rfl dL_number_60 62 rfl ?_
    refine z_irem C (by omega) (by omega) (by omega) dL_number_62 63 rfl ?_
    refine z_iadd C dL_number_63 64 rfl ?_
    refine z_i2l C dL_number_64 65 rfl ?_
    refine z_topL (show (nI (48 + ((v / 10) % 10))).toInt64 = lN (48 + ((v / 10) % 10)) from nI_l (by omega)) ?_
    have hT_10 := IT_un hT (w := 48 + ((v / 10) % 10)) (by omega) (by omega)
    refine z_callV C [.long (lN (48 + ((v / 10) % 10)))] [] (tO_put1 K.l K.g x a S J tx len (48 + ((v / 10) % 10)) (INV_pad hI hT) (by omega) (by omega) (by omega)) gL_number_X4_put rfl rfl rfl hdX4_put ⟨Nat.le_of_ble_eq_true rfl, Nat.le_of_ble_eq_true rfl⟩ ⟨Nat.zero_le _, Nat.zero_le _⟩ 0 0 rfl rfl rfl [0] rfl rfl (zlc (N := 1) rfl rfl) [1] rfl (by decide) (fun J2 : oJ => [wO K.g x a (uPad S (un tx len (48 + ((v / 10) % 10))) (len + 1)) J2]) (fun _ => rfl) rfl rfl (Nat.le_of_ble_eq_true rfl) dL_number_65 68 rfl (fun u9 hu9 => ?_)
    obtain ⟨J2_11, rfl⟩ : ∃ z, z = u9 := ⟨_, rfl⟩
    show Z K 0 0 [wO K.g x a (uPad S (un tx len (48 + ((v / 10) % 10))) (len + 1)) J2_11] [(0, .ref (x 0)), (1, .int (nI v))] 68 [.int (nI (len + 1))]
    refine z_if_le C (by omega) 90 dL_number_68 (by decide) 71 rfl (fun c_12 => ?_) (fun c_12 => ?_)
    · exfalso; omega
    refine z_aload_n C 0 rfl rfl dL_number_71 72 rfl ?_
    refine z_bipush C (v := nI 48) rfl dL_number_72 74 rfl ?_
    refine z_iload_n C 1 rfl rfl dL_number_74 75 rfl ?_
    refine z_bipush C (v := nI 10) rfl dL_number_75 77 rfl ?_
    refine z_irem C (by omega) (by omega) (by omega) dL_number_77 78 rfl ?_
    refine z_iadd C dL_number_78 79 rfl ?_
    refine z_i2l C dL_number_79 80 rfl ?_
    refine z_topL (show (nI (48 + (v % 10))).toInt64 = lN (48 + (v % 10)) from nI_l (by omega)) ?_
    have hT_13 := IT_un hT_10 (w := 48 + (v % 10)) (by omega) (by omega)
    refine z_callV C [.long (lN (48 + (v % 10)))] [] (tO_put1 K.l K.g x a S J2_11 (un tx len (48 + ((v / 10) % 10))) (len + 1) (48 + (v % 10)) (INV_pad hI hT_10) (by omega) (by omega) (by omega)) gL_number_X4_put rfl rfl rfl hdX4_put ⟨Nat.le_of_ble_eq_true rfl, Nat.le_of_ble_eq_true rfl⟩ ⟨Nat.zero_le _, Nat.zero_le _⟩ 0 0 rfl rfl rfl [0] rfl rfl (zlc (N := 1) rfl rfl) [1] rfl (by decide) (fun J2 : oJ => [wO K.g x a (uPad S (un (un tx len (48 + ((v / 10) % 10))) (len + 1) (48 + (v % 10))) ((len + 1) + 1)) J2]) (fun _ => rfl) rfl rfl (Nat.le_of_ble_eq_true rfl) dL_number_80 83 rfl (fun u9 hu9 => ?_)
    obtain ⟨J2_14, rfl⟩ : ∃ z, z = u9 := ⟨_, rfl⟩
    show Z K 0 0 [wO K.g x a (uPad S (un (un tx len (48 + ((v / 10) % 10))) (len + 1) (48 + (v % 10))) ((len + 1) + 1)) J2_14] [(0, .ref (x 0)), (1, .int (nI v))] 83 [.int (nI ((len + 1) + 1))]
    refine z_if_le C (by omega) 90 dL_number_83 (by decide) 86 rfl (fun c_15 => ?_) (fun c_15 => ?_)
    · exfalso; omega
    refine z_iconst C (v := nI 1) rfl dL_number_86 87 rfl ?_
    refine z_goto C 91 dL_number_87 (by decide) ?_
    refine z_eq (st2 := [.int (bI true)]) ?_ rfl rfl rfl
    exact z_bret C hRx dL_number_91 (J2_14, un (un tx len (48 + ((v / 10) % 10))) (len + 1) (48 + (v % 10)), (len + 1) + 1) rfl (⟨(fun i hi => by simp only [un]; (repeat' split) <;> omega), Or.inr (Or.inl ⟨by omega, by omega, by omega, by (simp only [un]; (repeat' split) <;> omega), by (simp only [un]; (repeat' split) <;> omega)⟩), hT_13, by omega⟩) rfl
  · skip
    refine z_iload_n C 1 rfl rfl dL_number_0 1 rfl ?_
    refine z_sipush C (v := nI 1000) rfl dL_number_1 4 rfl ?_
    refine z_icmp_lt C (by omega) (by omega) 23 dL_number_4 (by decide) 7 rfl (fun c_16 => ?_) (fun c_16 => ?_)
    rotate_left
    · exfalso; omega
    refine z_iload_n C 1 rfl rfl dL_number_23 24 rfl ?_
    refine z_bipush C (v := nI 100) rfl dL_number_24 26 rfl ?_
    refine z_icmp_lt C (by omega) (by omega) 47 dL_number_26 (by decide) 29 rfl (fun c_17 => ?_) (fun c_17 => ?_)
    · exfalso; omega
    refine z_aload_n C 0 rfl rfl dL_number_29 30 rfl ?_
    refine z_bipush C (v := nI 48) rfl dL_number_30 32 rfl ?_
    refine z_iload_n C 1 rfl rfl dL_number_32 33 rfl ?_
    refine z_bipush C (v := nI 100) rfl dL_number_33 35 rfl ?_
    refine z_idiv C (by omega) (by omega) (by omega) dL_number_35 36 rfl ?_
    refine z_bipush C (v := nI 10) rfl dL_number_36 38 rfl ?_
    refine z_irem C (by omega) (by omega) (by omega) dL_number_38 39 rfl ?_
    refine z_iadd C dL_number_39 40 rfl ?_
    refine z_i2l C dL_number_40 41 rfl ?_
    refine z_topL (show (nI (48 + ((v / 100) % 10))).toInt64 = lN (48 + ((v / 100) % 10)) from nI_l (by omega)) ?_
    have hT_18 := IT_un hT (w := 48 + ((v / 100) % 10)) (by omega) (by omega)
    refine z_callV C [.long (lN (48 + ((v / 100) % 10)))] [] (tO_put1 K.l K.g x a S J tx len (48 + ((v / 100) % 10)) (INV_pad hI hT) (by omega) (by omega) (by omega)) gL_number_X4_put rfl rfl rfl hdX4_put ⟨Nat.le_of_ble_eq_true rfl, Nat.le_of_ble_eq_true rfl⟩ ⟨Nat.zero_le _, Nat.zero_le _⟩ 0 0 rfl rfl rfl [0] rfl rfl (zlc (N := 1) rfl rfl) [1] rfl (by decide) (fun J2 : oJ => [wO K.g x a (uPad S (un tx len (48 + ((v / 100) % 10))) (len + 1)) J2]) (fun _ => rfl) rfl rfl (Nat.le_of_ble_eq_true rfl) dL_number_41 44 rfl (fun u9 hu9 => ?_)
    obtain ⟨J2_19, rfl⟩ : ∃ z, z = u9 := ⟨_, rfl⟩
    show Z K 0 0 [wO K.g x a (uPad S (un tx len (48 + ((v / 100) % 10))) (len + 1)) J2_19] [(0, .ref (x 0)), (1, .int (nI v))] 44 [.int (nI (len + 1))]
    refine z_if_le C (by omega) 90 dL_number_44 (by decide) 47 rfl (fun c_20 => ?_) (fun c_20 => ?_)
    · exfalso; omega
    refine z_iload_n C 1 rfl rfl dL_number_47 48 rfl ?_
    refine z_bipush C (v := nI 10) rfl dL_number_48 50 rfl ?_
    refine z_icmp_lt C (by omega) (by omega) 71 dL_number_50 (by decide) 53 rfl (fun c_21 => ?_) (fun c_21 => ?_)
    · exfalso; omega
    refine z_aload_n C 0 rfl rfl dL_number_53 54 rfl ?_
    refine z_bipush C (v := nI 48) rfl dL_number_54 56 rfl ?_
    refine z_iload_n C 1 rfl rfl dL_number_56 57 rfl ?_
    refine z_bipush C (v := nI 10) rfl dL_number_57 59 rfl ?_
    refine z_idiv C (by omega) (by omega) (by omega) dL_number_59 60 rfl ?_
    refine z_bipush C (v := nI 10) rfl dL_number_60 62 rfl ?_
    refine z_irem C (by omega) (by omega) (by omega) dL_number_62 63 rfl ?_
    refine z_iadd C dL_number_63 64 rfl ?_
    refine z_i2l C dL_number_64 65 rfl ?_
    refine z_topL (show (nI (48 + ((v / 10) % 10))).toInt64 = lN (48 + ((v / 10) % 10)) from nI_l (by omega)) ?_
    have hT_22 := IT_un hT_18 (w := 48 + ((v / 10) % 10)) (by omega) (by omega)
    refine z_callV C [.long (lN (48 + ((v / 10) % 10)))] [] (tO_put1 K.l K.g x a S J2_19 (un tx len (48 + ((v / 100) % 10))) (len + 1) (48 + ((v / 10) % 10)) (INV_pad hI hT_18) (by omega) (by omega) (by omega)) gL_number_X4_put rfl rfl rfl hdX4_put ⟨Nat.le_of_ble_eq_true rfl, Nat.le_of_ble_eq_true rfl⟩ ⟨Nat.zero_le _, Nat.zero_le _⟩ 0 0 rfl rfl rfl [0] rfl rfl (zlc (N := 1) rfl rfl) [1] rfl (by decide) (fun J2 : oJ => [wO K.g x a (uPad S (un (un tx len (48 + ((v / 100) % 10))) (len + 1) (48 + ((v / 10) % 10))) ((len + 1) + 1)) J2]) (fun _ => rfl) rfl rfl (Nat.le_of_ble_eq_true rfl) dL_number_65 68 rfl (fun u9 hu9 => ?_)
    obtain ⟨J2_23, rfl⟩ : ∃ z, z = u9 := ⟨_, rfl⟩
    show Z K 0 0 [wO K.g x a (uPad S (un (un tx len (48 + ((v / 100) % 10))) (len + 1) (48 + ((v / 10) % 10))) ((len + 1) + 1)) J2_23] [(0, .ref (x 0)), (1, .int (nI v))] 68 [.int (nI ((len + 1) + 1))]
    refine z_if_le C (by omega) 90 dL_number_68 (by decide) 71 rfl (fun c_24 => ?_) (fun c_24 => ?_)
    · exfalso; omega
    refine z_aload_n C 0 rfl rfl dL_number_71 72 rfl ?_
    refine z_bipush C (v := nI 48) rfl dL_number_72 74 rfl ?_
    refine z_iload_n C 1 rfl rfl dL_number_74 75 rfl ?_
    refine z_bipush C (v := nI 10) rfl dL_number_75 77 rfl ?_
    refine z_irem C (by omega) (by omega) (by omega) dL_number_77 78 rfl ?_
    refine z_iadd C dL_number_78 79 rfl ?_
    refine z_i2l C dL_number_79 80 rfl ?_
    refine z_topL (show (nI (48 + (v % 10))).toInt64 = lN (48 + (v % 10)) from nI_l (by omega)) ?_
    have hT_25 := IT_un hT_22 (w := 48 + (v % 10)) (by omega) (by omega)
    refine z_callV C [.long (lN (48 + (v % 10)))] [] (tO_put1 K.l K.g x a S J2_23 (un (un tx len (48 + ((v / 100) % 10))) (len + 1) (48 + ((v / 10) % 10))) ((len + 1) + 1) (48 + (v % 10)) (INV_pad hI hT_22) (by omega) (by omega) (by omega)) gL_number_X4_put rfl rfl rfl hdX4_put ⟨Nat.le_of_ble_eq_true rfl, Nat.le_of_ble_eq_true rfl⟩ ⟨Nat.zero_le _, Nat.zero_le _⟩ 0 0 rfl rfl rfl [0] rfl rfl (zlc (N := 1) rfl rfl) [1] rfl (by decide) (fun J2 : oJ => [wO K.g x a (uPad S (un (un (un tx len (48 + ((v / 100) % 10))) (len + 1) (48 + ((v / 10) % 10))) ((len + 1) + 1) (48 + (v % 10))) (((len + 1) + 1) + 1)) J2]) (fun _ => rfl) rfl rfl (Nat.le_of_ble_eq_true rfl) dL_number_80 83 rfl (fun u9 hu9 => ?_)
    obtain ⟨J2_26, rfl⟩ : ∃ z, z = u9 := ⟨_, rfl⟩
    show Z K 0 0 [wO K.g x a (uPad S (un (un (un tx len (48 + ((v / 100) % 10))) (len + 1) (48 + ((v / 10) % 10))) ((len + 1) + 1) (48 + (v % 10))) (((len + 1) + 1) + 1)) J2_26] [(0, .ref (x 0)), (1, .int (nI v))] 83 [.int (nI (((len + 1) + 1) + 1))]
    refine z_if_le C (by omega) 90 dL_number_83 (by decide) 86 rfl (fun c_27 => ?_) (fun c_27 => ?_)
    · exfalso; omega
    refine z_iconst C (v := nI 1) rfl dL_number_86 87 rfl ?_
    refine z_goto C 91 dL_number_87 (by decide) ?_
    refine z_eq (st2 := [.int (bI true)]) ?_ rfl rfl rfl
    exact z_bret C hRx dL_number_91 (J2_26, un (un (un tx len (48 + ((v / 100) % 10))) (len + 1) (48 + ((v / 10) % 10))) ((len + 1) + 1) (48 + (v % 10)), ((len + 1) + 1) + 1) rfl (⟨(fun i hi => by simp only [un]; (repeat' split) <;> omega), Or.inr (Or.inr (Or.inl ⟨by omega, by omega, by omega, by (simp only [un]; (repeat' split) <;> omega), by (simp only [un]; (repeat' split) <;> omega), by (simp only [un]; (repeat' split) <;> omega)⟩)), hT_25, by omega⟩) rfl
  · skip
    refine z_iload_n C 1 rfl rfl dL_number_0 1 rfl ?_
    refine z_sipush C (v := nI 1000) rfl dL_number_1 4 rfl ?_
    refine z_icmp_lt C (by omega) (by omega) 23 dL_number_4 (by decide) 7 rfl (fun c_28 => ?_) (fun c_28 => ?_)
    · exfalso; omega
    refine z_aload_n C 0 rfl rfl dL_number_7 8 rfl ?_
    refine z_bipush C (v := nI 48) rfl dL_number_8 10 rfl ?_
    refine z_iload_n C 1 rfl rfl dL_number_10 11 rfl ?_
    refine z_sipush C (v := nI 1000) rfl dL_number_11 14 rfl ?_
    refine z_idiv C (by omega) (by omega) (by omega) dL_number_14 15 rfl ?_
    refine z_iadd C dL_number_15 16 rfl ?_
    refine z_i2l C dL_number_16 17 rfl ?_
    refine z_topL (show (nI (48 + (v / 1000))).toInt64 = lN (48 + (v / 1000)) from nI_l (by omega)) ?_
    have hT_29 := IT_un hT (w := 48 + (v / 1000)) (by omega) (by omega)
    refine z_callV C [.long (lN (48 + (v / 1000)))] [] (tO_put1 K.l K.g x a S J tx len (48 + (v / 1000)) (INV_pad hI hT) (by omega) (by omega) (by omega)) gL_number_X4_put rfl rfl rfl hdX4_put ⟨Nat.le_of_ble_eq_true rfl, Nat.le_of_ble_eq_true rfl⟩ ⟨Nat.zero_le _, Nat.zero_le _⟩ 0 0 rfl rfl rfl [0] rfl rfl (zlc (N := 1) rfl rfl) [1] rfl (by decide) (fun J2 : oJ => [wO K.g x a (uPad S (un tx len (48 + (v / 1000))) (len + 1)) J2]) (fun _ => rfl) rfl rfl (Nat.le_of_ble_eq_true rfl) dL_number_17 20 rfl (fun u9 hu9 => ?_)
    obtain ⟨J2_30, rfl⟩ : ∃ z, z = u9 := ⟨_, rfl⟩
    show Z K 0 0 [wO K.g x a (uPad S (un tx len (48 + (v / 1000))) (len + 1)) J2_30] [(0, .ref (x 0)), (1, .int (nI v))] 20 [.int (nI (len + 1))]
    refine z_if_le C (by omega) 90 dL_number_20 (by decide) 23 rfl (fun c_31 => ?_) (fun c_31 => ?_)
    · exfalso; omega
    refine z_iload_n C 1 rfl rfl dL_number_23 24 rfl ?_
    refine z_bipush C (v := nI 100) rfl dL_number_24 26 rfl ?_
    refine z_icmp_lt C (by omega) (by omega) 47 dL_number_26 (by decide) 29 rfl (fun c_32 => ?_) (fun c_32 => ?_)
    · exfalso; omega
    refine z_aload_n C 0 rfl rfl dL_number_29 30 rfl ?_
    refine z_bipush C (v := nI 48) rfl dL_number_30 32 rfl ?_
    refine z_iload_n C 1 rfl rfl dL_number_32 33 rfl ?_
    refine z_bipush C (v := nI 100) rfl dL_number_33 35 rfl ?_
    refine z_idiv C (by omega) (by omega) (by omega) dL_number_35 36 rfl ?_
    refine z_bipush C (v := nI 10) rfl dL_number_36 38 rfl ?_
    refine z_irem C (by omega) (by omega) (by omega) dL_number_38 39 rfl ?_
    refine z_iadd C dL_number_39 40 rfl ?_
    refine z_i2l C dL_number_40 41 rfl ?_
    refine z_topL (show (nI (48 + ((v / 100) % 10))).toInt64 = lN (48 + ((v / 100) % 10)) from nI_l (by omega)) ?_
    have hT_33 := IT_un hT_29 (w := 48 + ((v / 100) % 10)) (by omega) (by omega)
    refine z_callV C [.long (lN (48 + ((v / 100) % 10)))] [] (tO_put1 K.l K.g x a S J2_30 (un tx len (48 + (v / 1000))) (len + 1) (48 + ((v / 100) % 10)) (INV_pad hI hT_29) (by omega) (by omega) (by omega)) gL_number_X4_put rfl rfl rfl hdX4_put ⟨Nat.le_of_ble_eq_true rfl, Nat.le_of_ble_eq_true rfl⟩ ⟨Nat.zero_le _, Nat.zero_le _⟩ 0 0 rfl rfl rfl [0] rfl rfl (zlc (N := 1) rfl rfl) [1] rfl (by decide) (fun J2 : oJ => [wO K.g x a (uPad S (un (un tx len (48 + (v / 1000))) (len + 1) (48 + ((v / 100) % 10))) ((len + 1) + 1)) J2]) (fun _ => rfl) rfl rfl (Nat.le_of_ble_eq_true rfl) dL_number_41 44 rfl (fun u9 hu9 => ?_)
    obtain ⟨J2_34, rfl⟩ : ∃ z, z = u9 := ⟨_, rfl⟩
    show Z K 0 0 [wO K.g x a (uPad S (un (un tx len (48 + (v / 1000))) (len + 1) (48 + ((v / 100) % 10))) ((len + 1) + 1)) J2_34] [(0, .ref (x 0)), (1, .int (nI v))] 44 [.int (nI ((len + 1) + 1))]
    refine z_if_le C (by omega) 90 dL_number_44 (by decide) 47 rfl (fun c_35 => ?_) (fun c_35 => ?_)
    · exfalso; omega
    refine z_iload_n C 1 rfl rfl dL_number_47 48 rfl ?_
    refine z_bipush C (v := nI 10) rfl dL_number_48 50 rfl ?_
    refine z_icmp_lt C (by omega) (by omega) 71 dL_number_50 (by decide) 53 rfl (fun c_36 => ?_) (fun c_36 => ?_)
    · exfalso; omega
    refine z_aload_n C 0 rfl rfl dL_number_53 54 rfl ?_
    refine z_bipush C (v := nI 48) rfl dL_number_54 56 rfl ?_
    refine z_iload_n C 1 rfl rfl dL_number_56 57 rfl ?_
    refine z_bipush C (v := nI 10) rfl dL_number_57 59 rfl ?_
    refine z_idiv C (by omega) (by omega) (by omega) dL_number_59 60 rfl ?_
    refine z_bipush C (v := nI 10) rfl dL_number_60 62 rfl ?_
    refine z_irem C (by omega) (by omega) (by omega) dL_number_62 63 rfl ?_
    refine z_iadd C dL_number_63 64 rfl ?_
    refine z_i2l C dL_number_64 65 rfl ?_
    refine z_topL (show (nI (48 + ((v / 10) % 10))).toInt64 = lN (48 + ((v / 10) % 10)) from nI_l (by omega)) ?_
    have hT_37 := IT_un hT_33 (w := 48 + ((v / 10) % 10)) (by omega) (by omega)
    refine z_callV C [.long (lN (48 + ((v / 10) % 10)))] [] (tO_put1 K.l K.g x a S J2_34 (un (un tx len (48 + (v / 1000))) (len + 1) (48 + ((v / 100) % 10))) ((len + 1) + 1) (48 + ((v / 10) % 10)) (INV_pad hI hT_33) (by omega) (by omega) (by omega)) gL_number_X4_put rfl rfl rfl hdX4_put ⟨Nat.le_of_ble_eq_true rfl, Nat.le_of_ble_eq_true rfl⟩ ⟨Nat.zero_le _, Nat.zero_le _⟩ 0 0 rfl rfl rfl [0] rfl rfl (zlc (N := 1) rfl rfl) [1] rfl (by decide) (fun J2 : oJ => [wO K.g x a (uPad S (un (un (un tx len (48 + (v / 1000))) (len + 1) (48 + ((v / 100) % 10))) ((len + 1) + 1) (48 + ((v / 10) % 10))) (((len + 1) + 1) + 1)) J2]) (fun _ => rfl) rfl rfl (Nat.le_of_ble_eq_true rfl) dL_number_65 68 rfl (fun u9 hu9 => ?_)
    obtain ⟨J2_38, rfl⟩ : ∃ z, z = u9 := ⟨_, rfl⟩
    show Z K 0 0 [wO K.g x a (uPad S (un (un (un tx len (48 + (v / 1000))) (len + 1) (48 + ((v / 100) % 10))) ((len + 1) + 1) (48 + ((v / 10) % 10))) (((len + 1) + 1) + 1)) J2_38] [(0, .ref (x 0)), (1, .int (nI v))] 68 [.int (nI (((len + 1) + 1) + 1))]
    refine z_if_le C (by omega) 90 dL_number_68 (by decide) 71 rfl (fun c_39 => ?_) (fun c_39 => ?_)
    · exfalso; omega
    refine z_aload_n C 0 rfl rfl dL_number_71 72 rfl ?_
    refine z_bipush C (v := nI 48) rfl dL_number_72 74 rfl ?_
    refine z_iload_n C 1 rfl rfl dL_number_74 75 rfl ?_
    refine z_bipush C (v := nI 10) rfl dL_number_75 77 rfl ?_
    refine z_irem C (by omega) (by omega) (by omega) dL_number_77 78 rfl ?_
    refine z_iadd C dL_number_78 79 rfl ?_
    refine z_i2l C dL_number_79 80 rfl ?_
    refine z_topL (show (nI (48 + (v % 10))).toInt64 = lN (48 + (v % 10)) from nI_l (by omega)) ?_
    have hT_40 := IT_un hT_37 (w := 48 + (v % 10)) (by omega) (by omega)
    refine z_callV C [.long (lN (48 + (v % 10)))] [] (tO_put1 K.l K.g x a S J2_38 (un (un (un tx len (48 + (v / 1000))) (len + 1) (48 + ((v / 100) % 10))) ((len + 1) + 1) (48 + ((v / 10) % 10))) (((len + 1) + 1) + 1) (48 + (v % 10)) (INV_pad hI hT_37) (by omega) (by omega) (by omega)) gL_number_X4_put rfl rfl rfl hdX4_put ⟨Nat.le_of_ble_eq_true rfl, Nat.le_of_ble_eq_true rfl⟩ ⟨Nat.zero_le _, Nat.zero_le _⟩ 0 0 rfl rfl rfl [0] rfl rfl (zlc (N := 1) rfl rfl) [1] rfl (by decide) (fun J2 : oJ => [wO K.g x a (uPad S (un (un (un (un tx len (48 + (v / 1000))) (len + 1) (48 + ((v / 100) % 10))) ((len + 1) + 1) (48 + ((v / 10) % 10))) (((len + 1) + 1) + 1) (48 + (v % 10))) ((((len + 1) + 1) + 1) + 1)) J2]) (fun _ => rfl) rfl rfl (Nat.le_of_ble_eq_true rfl) dL_number_80 83 rfl (fun u9 hu9 => ?_)
    obtain ⟨J2_41, rfl⟩ : ∃ z, z = u9 := ⟨_, rfl⟩
    show Z K 0 0 [wO K.g x a (uPad S (un (un (un (un tx len (48 + (v / 1000))) (len + 1) (48 + ((v / 100) % 10))) ((len + 1) + 1) (48 + ((v / 10) % 10))) (((len + 1) + 1) + 1) (48 + (v % 10))) ((((len + 1) + 1) + 1) + 1)) J2_41] [(0, .ref (x 0)), (1, .int (nI v))] 83 [.int (nI ((((len + 1) + 1) + 1) + 1))]
    refine z_if_le C (by omega) 90 dL_number_83 (by decide) 86 rfl (fun c_42 => ?_) (fun c_42 => ?_)
    · exfalso; omega
    refine z_iconst C (v := nI 1) rfl dL_number_86 87 rfl ?_
    refine z_goto C 91 dL_number_87 (by decide) ?_
    refine z_eq (st2 := [.int (bI true)]) ?_ rfl rfl rfl
    exact z_bret C hRx dL_number_91 (J2_41, un (un (un (un tx len (48 + (v / 1000))) (len + 1) (48 + ((v / 100) % 10))) ((len + 1) + 1) (48 + ((v / 10) % 10))) (((len + 1) + 1) + 1) (48 + (v % 10)), (((len + 1) + 1) + 1) + 1) rfl (⟨(fun i hi => by simp only [un]; (repeat' split) <;> omega), Or.inr (Or.inr (Or.inr ⟨by omega, by omega, by omega, by (simp only [un]; (repeat' split) <;> omega), by (simp only [un]; (repeat' split) <;> omega), by (simp only [un]; (repeat' split) <;> omega), by (simp only [un]; (repeat' split) <;> omega)⟩)), hT_40, by omega⟩) rfl

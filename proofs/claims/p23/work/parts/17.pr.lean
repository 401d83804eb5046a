/-! PR: the press. -/
theorem z_max0 {K : zK} {R0 : Room} {own : String} {cc : ByteArray} {Ts : List Cond} {n k : Nat} {cs : List va_W} {lv : List (Nat × Value)} {pc : Nat} {st : List Value} (C : Cx K R0 own cc Ts) {index a b : Nat} (hw1 : Cond.methodLink own index Lib.Math.max.name ∈ Ts) (hw2 : Cond.static Lib.Math.max.name ∈ Ts) (hw3 : Cond.initialized "java/lang/Math" ∈ Ts) (hw4 : Cond.code Lib.Math.max.name Lib.Math.max.code 2 (some .int) ∈ Ts) (hf : 1 ≤ R0.frames ∧ (st.map fun v => v.category).sum + 13 ≤ R0.locals) (hnk : n ≤ R0.cells ∧ k ≤ R0.slots) (ha : a < 2 ^ 30) (hb : b < 2 ^ 30) (hd : decode cc pc = .ok (.invokestatic index, 3)) (q : Nat) (hq : pc + 3 = q) (kk : Z K n k cs lv q (.int (nI (a - b)) :: st)) : Z K n k cs lv pc (.int (nI a - nI b) :: .int (nI 0) :: st) := by
  subst hq
  intro H locs ls hP hD hS hl
  refine va_mmax C.x C.b (by rw [C.ml]; exact hl.1.symm) C.ow (C.ts _ hw1) (C.ts _ hw2) (C.ts _ hw3) (C.ts _ hw4) (by rw [C.r]; exact hf.1) (by rw [C.r]; exact hf.2) (by rw [C.r]; exact hnk.1) (by rw [C.r]; exact hnk.2) hd ?_
  have h : (if nI 0 < nI a - nI b then nI a - nI b else nI 0) = nI (a - b) := by
    by_cases e : b ≤ a
    · rw [pk_sub e]
      by_cases e2 : 0 < a - b
      · rw [if_pos ((nI_ltI (by decide) (by omega)).mpr e2)]
      · rw [if_neg (fun z => e2 ((nI_ltI (by decide) (by omega)).mp z)), show a - b = 0 by omega]
    · have h1 := pk_sneg (a := a) (b := b) hb (by omega)
      rw [if_neg (fun z => by
        rw [nI_0] at z
        exact Int32.lt_irrefl (Int32.lt_trans z h1)), show a - b = 0 by omega]
  rw [h]
  exact kk H locs ls hP hD hS hl
theorem WR_step {a6 a0 : Nat → Nat} {j e t s9 m t8 t9 : Nat} (h : WR a6 a0 j e t s9 m t8 t9) (hlt : t9 < j) (hc : a6 t9 ≤ m ∨ t < t8) (hta : a0 t9 ≤ t8) : WR a6 a0 j e t s9 (max m (a6 t9)) (t8 - a0 t9) (t9 + 1) := by
  obtain ⟨w1, w2, w3, w4, w5, w6, w7⟩ := h
  refine ⟨by omega, by omega, by omega, by rw [sm_s]; omega, fun i h1 h2 => ?_, ?_, fun x h1 h2 => ?_⟩
  · by_cases q : i = t9
    · subst q; omega
    · have := w5 i h1 (by omega); omega
  · by_cases q : a6 t9 ≤ m
    · rw [Nat.max_eq_left q]; exact w6
    · rw [Nat.max_eq_right (by omega)]; exact Or.inr ⟨t9, hlt, rfl⟩
  · by_cases q : x < m
    · exact w7 x h1 q
    · exact ⟨t9, w2, hlt, by omega, by omega⟩
theorem PI_bd {st : Nat → Nat} {r : Nat → Nat → Nat} {R n j : Nat} {a0 a1 a2 a3 a4 a5 a6 a7 : Nat → Nat} {s1 s2 s3 s4 s5 s6 s7 s8 s9 : Nat} (hS : okS st) (hJ : okJ r n) (hn : n ≤ 12) (hj : j ≤ n) (h : PI st r R j a0 a1 a2 a3 a4 a5 a6 a7 s1 s2 s3 s4 s5 s6 s7 s8 s9) :
    (∀ i, i < j → a6 i ≤ 30000) ∧ (∀ i, i < j → a5 i ≤ 1200 * (i + 1)) ∧ s9 ≤ j ∧ s8 + sm a0 s9 = sm a0 j ∧ sm a0 j ≤ 1000 ∧ s7 ≤ 1000000 ∧ s3 ≤ 1000000 := by
  obtain ⟨hP, hA, e1, e2, e3, e4, e5, e6, e7, e9, e8, hod, hbd⟩ := h
  have h4 := hS.2.2.2.2.2.1
  have h0 : ∀ i, i < j → a0 i ≤ 20 := fun i hi => by rw [(hA i hi).1]; exact ndj_le hS hJ (by omega)
  have h6 : ∀ i, i < j → a6 i ≤ 30000 := fun i hi => by
    have := hbd i hi
    rw [(hA i hi).2.2.2.2.2.1]
    omega
  refine ⟨h6, hbd, e9, e8, ?_, ?_, ?_⟩
  · have := sm_le (f := a0) (B := 20) j h0
    omega
  · rw [e7]
    refine Nat.le_trans (mx_le (B := 240) j (fun i hi => ?_)) (by omega)
    have := sm_le (f := fun y => if a5 y ≤ a5 i ∧ a5 i < a5 y + st 4 then ndj st r y else 0) (B := 20) (i + 1) (fun y hy => by
      have := ndj_le hS hJ (show y < n by omega)
      show (if a5 y ≤ a5 i ∧ a5 i < a5 y + st 4 then ndj st r y else 0) ≤ 20
      split <;> omega)
    show tkn st r a5 (i + 1) (a5 i) ≤ 240
    unfold tkn
    omega
  · rw [e3]
    exact mx_le j (fun i hi => by
      have := h6 i hi
      rw [(hA i hi).2.2.2.2.2.2]
      omega)
theorem PI_mb {st : Nat → Nat} {r : Nat → Nat → Nat} {R n j t : Nat} {a0 a1 a2 a3 a4 a5 a6 a7 z0 : Nat → Nat} {s1 s2 s3 s4 s5 s6 s7 s8 s9 m t8 t9 : Nat} (hS : okS st) (hJ : okJ r n) (hn : n ≤ 12) (hj : j < n) (h : PI st r R j a0 a1 a2 a3 a4 a5 a6 a7 s1 s2 s3 s4 s5 s6 s7 s8 s9) (hw : WR a6 z0 j (erl st r a5 j) t s9 m t8 t9) : m ≤ 30000 := by
  have hb := PI_bd hS hJ hn (by omega) h
  obtain ⟨w1, w2, w3, w4, w5, w6, w7⟩ := hw
  rcases w6 with w6 | ⟨o, o1, o2⟩
  · have q1 := rdy_le hS hJ hj
    have q2 := (run_le hS hJ hj).2
    have q3 : fre a5 j ≤ 1200 * j := by
      unfold fre
      by_cases q : j = 0
      · rw [if_pos q]; omega
      · rw [if_neg q]
        have := hb.2.1 (j - 1) (by omega)
        omega
    rw [w6]
    unfold erl
    omega
  · rw [o2]; exact hb.1 o o1
theorem PI_t8 {st : Nat → Nat} {r : Nat → Nat → Nat} {R n j t e v : Nat} {a0 a1 a2 a3 a4 a5 a6 a7 : Nat → Nat} {s1 s2 s3 s4 s5 s6 s7 s8 s9 m t8 t9 : Nat} (hS : okS st) (hJ : okJ r n) (hn : n ≤ 12) (hj : j < n) (h : PI st r R j a0 a1 a2 a3 a4 a5 a6 a7 s1 s2 s3 s4 s5 s6 s7 s8 s9) (hw : WR a6 (un a0 j v) j e t s9 m t8 t9) : t8 ≤ 1000000 := by
  have hb := (PI_bd hS hJ hn (by omega) h).2.2.2.2.1
  have w4 := hw.2.2.2.1
  rw [sm_un j (Nat.le_refl j)] at w4
  omega
/-- the job on the press at a minute, from the place i on, in so many -/
def jop (a4 a5 : Nat → Nat) (m i : Nat) : Nat → Int32
  | 0 => (-6)
  | d + 1 => if a4 i ≤ m ∧ m < a5 i then nI i else jop a4 a5 m (i + 1) d
theorem jop_n {a4 a5 : Nat → Nat} {m i s : Nat} (hi : i < s) (h : ¬ (a4 i ≤ m ∧ m < a5 i)) : jop a4 a5 m i (s - i) = jop a4 a5 m (i + 1) (s - (i + 1)) := by
  rw [show s - i = (s - (i + 1)) + 1 by omega]
  show (if a4 i ≤ m ∧ m < a5 i then nI i else jop a4 a5 m (i + 1) (s - (i + 1))) = _
  rw [if_neg h]
theorem jop_y {a4 a5 : Nat → Nat} {m i s : Nat} (hi : i < s) (h1 : a4 i ≤ m) (h2 : m < a5 i) : jop a4 a5 m i (s - i) = nI i := by
  rw [show s - i = (s - (i + 1)) + 1 by omega]
  show (if a4 i ≤ m ∧ m < a5 i then nI i else jop a4 a5 m (i + 1) (s - (i + 1))) = _
  rw [if_pos ⟨h1, h2⟩]
theorem hdX3_clear : yX3_clear.cls = RX3 ∧ yX3_clear.cls ≠ "java/lang/invoke/MethodHandle" ∧ yX3_clear.cls ≠ "java/lang/invoke/VarHandle" ∧ (parseMethodDescriptor yX3_clear.desc).map (fun d => d.parameters.length) = some 0 := by decide +kernel
theorem hdX3_dryJob : yX3_dryJob.cls = RX3 ∧ yX3_dryJob.cls ≠ "java/lang/invoke/MethodHandle" ∧ yX3_dryJob.cls ≠ "java/lang/invoke/VarHandle" ∧ (parseMethodDescriptor yX3_dryJob.desc).map (fun d => d.parameters.length) = some 2 := by decide +kernel
theorem hdX3_makeReady : yX3_makeReady.cls = RX3 ∧ yX3_makeReady.cls ≠ "java/lang/invoke/MethodHandle" ∧ yX3_makeReady.cls ≠ "java/lang/invoke/VarHandle" ∧ (parseMethodDescriptor yX3_makeReady.desc).map (fun d => d.parameters.length) = some 2 := by decide +kernel
theorem hdX3_printJob : yX3_printJob.cls = RX3 ∧ yX3_printJob.cls ≠ "java/lang/invoke/MethodHandle" ∧ yX3_printJob.cls ≠ "java/lang/invoke/VarHandle" ∧ (parseMethodDescriptor yX3_printJob.desc).map (fun d => d.parameters.length) = some 3 := by decide +kernel
theorem hdX3_washAhead : yX3_washAhead.cls ≠ "java/lang/invoke/MethodHandle" ∧ yX3_washAhead.cls ≠ "java/lang/invoke/VarHandle" ∧ (parseMethodDescriptor yX3_washAhead.desc).map (fun d => d.parameters.length) = some 2 := by decide +kernel
theorem hdX3_whenRacksAreFree : yX3_whenRacksAreFree.cls = RX3 ∧ yX3_whenRacksAreFree.cls ≠ "java/lang/invoke/MethodHandle" ∧ yX3_whenRacksAreFree.cls ≠ "java/lang/invoke/VarHandle" ∧ (parseMethodDescriptor yX3_whenRacksAreFree.desc).map (fun d => d.parameters.length) = some 3 := by decide +kernel
theorem iX3_clear_X3 : ∀ w ∈ u_ws RX3 TX3 18, w ∈ wsX3_clear := fun w h => (List.mem_cons_of_mem _ (List.mem_append_right _ h))
set_option maxHeartbeats 4000000 in
set_option maxRecDepth 100000 in
theorem tX3_clear (l : Launch) (g : zG) (q a0 a1 a2 a3 a4 a5 a6 a7 : Nat → Nat) (s0 s1 s2 s3 s4 s5 s6 s7 s8 s9 : Nat) : Met l yX3_clear wsX3_clear ({ frames := 0, cells := 0, slots := 0, locals := 0 } : Room) (zPre g [.ref (q 0)] [wP g q a0 a1 a2 a3 a4 a5 a6 a7 s0 s1 s2 s3 s4 s5 s6 s7 s8 s9]) (zQ g (fun _ : Unit => none ) (fun _ : Unit => True) (fun _ : Unit => [wP g q a0 a1 a2 a3 a4 a5 a6 a7 s0 0 0 0 0 0 0 0 0 0]) (zA [wP g q a0 a1 a2 a3 a4 a5 a6 a7 s0 s1 s2 s3 s4 s5 s6 s7 s8 s9])) 0 0 (zA [wP g q a0 a1 a2 a3 a4 a5 a6 a7 s0 s1 s2 s3 s4 s5 s6 s7 s8 s9]) := by
  refine z_entry (cc := cX3_clear) (maxL := 1) (ret := none) (own := RX3) (by decide) rfl rfl (Nat.le_of_ble_eq_true rfl) [(0, .ref (q 0))] rfl ?_
  intro K hKl hKg hnL C hRx
  subst hKl
  subst hKg
  refine z_aload_n C 0 rfl rfl dX3_clear_0 1 rfl ?_
  refine z_iconst C (v := nI 0) rfl dX3_clear_1 2 rfl ?_
  refine z_put C zc3 iX3_clear_X3 0 0 rfl rfl 9 (Nat.le_of_ble_eq_true rfl) (List.mem_of_getElem? (i := 1) rfl) rfl rfl rfl (Nat.le_of_ble_eq_true rfl) (wP K.g q a0 a1 a2 a3 a4 a5 a6 a7 s0 0 s2 s3 s4 s5 s6 s7 s8 s9) rfl [wP K.g q a0 a1 a2 a3 a4 a5 a6 a7 s0 0 s2 s3 s4 s5 s6 s7 s8 s9] rfl dX3_clear_2 5 rfl ?_
  refine z_aload_n C 0 rfl rfl dX3_clear_5 6 rfl ?_
  refine z_iconst C (v := nI 0) rfl dX3_clear_6 7 rfl ?_
  refine z_put C zc3 iX3_clear_X3 0 0 rfl rfl 10 (Nat.le_of_ble_eq_true rfl) (List.mem_of_getElem? (i := 2) rfl) rfl rfl rfl (Nat.le_of_ble_eq_true rfl) (wP K.g q a0 a1 a2 a3 a4 a5 a6 a7 s0 0 0 s3 s4 s5 s6 s7 s8 s9) rfl [wP K.g q a0 a1 a2 a3 a4 a5 a6 a7 s0 0 0 s3 s4 s5 s6 s7 s8 s9] rfl dX3_clear_7 10 rfl ?_
  refine z_aload_n C 0 rfl rfl dX3_clear_10 11 rfl ?_
  refine z_iconst C (v := nI 0) rfl dX3_clear_11 12 rfl ?_
  refine z_put C zc3 iX3_clear_X3 0 0 rfl rfl 11 (Nat.le_of_ble_eq_true rfl) (List.mem_of_getElem? (i := 3) rfl) rfl rfl rfl (Nat.le_of_ble_eq_true rfl) (wP K.g q a0 a1 a2 a3 a4 a5 a6 a7 s0 0 0 0 s4 s5 s6 s7 s8 s9) rfl [wP K.g q a0 a1 a2 a3 a4 a5 a6 a7 s0 0 0 0 s4 s5 s6 s7 s8 s9] rfl dX3_clear_12 15 rfl ?_
  refine z_aload_n C 0 rfl rfl dX3_clear_15 16 rfl ?_
  refine z_iconst C (v := nI 0) rfl dX3_clear_16 17 rfl ?_
  refine z_put C zc3 iX3_clear_X3 0 0 rfl rfl 12 (Nat.le_of_ble_eq_true rfl) (List.mem_of_getElem? (i := 4) rfl) rfl rfl rfl (Nat.le_of_ble_eq_true rfl) (wP K.g q a0 a1 a2 a3 a4 a5 a6 a7 s0 0 0 0 0 s5 s6 s7 s8 s9) rfl [wP K.g q a0 a1 a2 a3 a4 a5 a6 a7 s0 0 0 0 0 s5 s6 s7 s8 s9] rfl dX3_clear_17 20 rfl ?_
  refine z_aload_n C 0 rfl rfl dX3_clear_20 21 rfl ?_
  refine z_iconst C (v := nI 0) rfl dX3_clear_21 22 rfl ?_
  refine z_put C zc3 iX3_clear_X3 0 0 rfl rfl 13 (Nat.le_of_ble_eq_true rfl) (List.mem_of_getElem? (i := 5) rfl) rfl rfl rfl (Nat.le_of_ble_eq_true rfl) (wP K.g q a0 a1 a2 a3 a4 a5 a6 a7 s0 0 0 0 0 0 s6 s7 s8 s9) rfl [wP K.g q a0 a1 a2 a3 a4 a5 a6 a7 s0 0 0 0 0 0 s6 s7 s8 s9] rfl dX3_clear_22 25 rfl ?_
  refine z_aload_n C 0 rfl rfl dX3_clear_25 26 rfl ?_
  refine z_iconst C (v := nI 0) rfl dX3_clear_26 27 rfl ?_
  refine z_put C zc3 iX3_clear_X3 0 0 rfl rfl 14 (Nat.le_of_ble_eq_true rfl) (List.mem_of_getElem? (i := 6) rfl) rfl rfl rfl (Nat.le_of_ble_eq_true rfl) (wP K.g q a0 a1 a2 a3 a4 a5 a6 a7 s0 0 0 0 0 0 0 s7 s8 s9) rfl [wP K.g q a0 a1 a2 a3 a4 a5 a6 a7 s0 0 0 0 0 0 0 s7 s8 s9] rfl dX3_clear_27 30 rfl ?_
  refine z_aload_n C 0 rfl rfl dX3_clear_30 31 rfl ?_
  refine z_iconst C (v := nI 0) rfl dX3_clear_31 32 rfl ?_
  refine z_put C zc3 iX3_clear_X3 0 0 rfl rfl 15 (Nat.le_of_ble_eq_true rfl) (List.mem_of_getElem? (i := 7) rfl) rfl rfl rfl (Nat.le_of_ble_eq_true rfl) (wP K.g q a0 a1 a2 a3 a4 a5 a6 a7 s0 0 0 0 0 0 0 0 s8 s9) rfl [wP K.g q a0 a1 a2 a3 a4 a5 a6 a7 s0 0 0 0 0 0 0 0 s8 s9] rfl dX3_clear_32 35 rfl ?_
  refine z_aload_n C 0 rfl rfl dX3_clear_35 36 rfl ?_
  refine z_iconst C (v := nI 0) rfl dX3_clear_36 37 rfl ?_
  refine z_put C zc3 iX3_clear_X3 0 0 rfl rfl 16 (Nat.le_of_ble_eq_true rfl) (List.mem_of_getElem? (i := 8) rfl) rfl rfl rfl (Nat.le_of_ble_eq_true rfl) (wP K.g q a0 a1 a2 a3 a4 a5 a6 a7 s0 0 0 0 0 0 0 0 0 s9) rfl [wP K.g q a0 a1 a2 a3 a4 a5 a6 a7 s0 0 0 0 0 0 0 0 0 s9] rfl dX3_clear_37 40 rfl ?_
  refine z_aload_n C 0 rfl rfl dX3_clear_40 41 rfl ?_
  refine z_iconst C (v := nI 0) rfl dX3_clear_41 42 rfl ?_
  refine z_put C zc3 iX3_clear_X3 0 0 rfl rfl 17 (Nat.le_of_ble_eq_true rfl) (List.mem_of_getElem? (i := 9) rfl) rfl rfl rfl (Nat.le_of_ble_eq_true rfl) (wP K.g q a0 a1 a2 a3 a4 a5 a6 a7 s0 0 0 0 0 0 0 0 0 0) rfl [wP K.g q a0 a1 a2 a3 a4 a5 a6 a7 s0 0 0 0 0 0 0 0 0 0] rfl dX3_clear_42 45 rfl ?_
  exact z_vret C hRx dX3_clear_45 () rfl trivial rfl

theorem iX3_washAhead_X0 : ∀ w ∈ u_ws RX0 TX0 3, w ∈ wsX3_washAhead := fun w h => (List.mem_cons_of_mem _ (List.mem_append_right _ h))
set_option maxHeartbeats 4000000 in
set_option maxRecDepth 100000 in
theorem tX3_washAhead (l : Launch) (g : zG) (b st : Nat → Nat) (r : Nat → Nat → Nat) (n : Nat) (j : Nat) (hS : okS st) (hJ : okJ r n) (hj : j < n) (hn : n ≤ 12) : Met l yX3_washAhead wsX3_washAhead ({ frames := 0, cells := 0, slots := 0, locals := 0 } : Room) (zPre g [.ref (b 0), .int (nI j)] [wB g b st r n]) (zQ g (fun _ : Unit => some (.int (nI (wsh st r j))) ) (fun _ : Unit => True) (fun _ : Unit => [wB g b st r n]) (zA [wB g b st r n])) 0 0 (zA [wB g b st r n]) := by
  refine z_entry (cc := cX3_washAhead) (maxL := 3) (ret := (some .int)) (own := RX3) (by decide) rfl rfl (Nat.le_of_ble_eq_true rfl) [(0, .ref (b 0)), (1, .int (nI j))] rfl ?_
  intro K hKl hKg hnL C hRx
  subst hKl
  subst hKg
  refine z_iload_n C 1 rfl rfl dX3_washAhead_0 1 rfl ?_
  refine z_if_ne C (by omega) 6 dX3_washAhead_1 (by decide) 4 rfl (fun c_1 => ?_) (fun c_1 => ?_)
  · skip
    refine z_aload_n C 0 rfl rfl dX3_washAhead_6 7 rfl ?_
    refine z_get C zc0 iX3_washAhead_X0 0 0 rfl rfl 1 (Nat.le_of_ble_eq_true rfl) (List.mem_of_getElem? (i := 1) rfl) (v := .ref (b 2)) rfl dX3_washAhead_7 10 rfl ?_
    refine z_iconst C (v := nI 1) rfl dX3_washAhead_10 11 rfl ?_
    refine z_aald C (y := (b 4)) 0 2 1 rfl rfl rfl rfl (by omega) (by decide) rfl dX3_washAhead_11 12 rfl ?_
    refine z_iload_n C 1 rfl rfl dX3_washAhead_12 13 rfl ?_
    refine z_iconst C (v := nI 1) rfl dX3_washAhead_13 14 rfl ?_
    refine z_isub C (by omega) dX3_washAhead_14 15 rfl ?_
    refine z_iald C (f := (r 1)) 0 4 rfl rfl (by omega) (by decide) dX3_washAhead_15 16 rfl ?_
    refine z_aload_n C 0 rfl rfl dX3_washAhead_16 17 rfl ?_
    refine z_get C zc0 iX3_washAhead_X0 0 0 rfl rfl 1 (Nat.le_of_ble_eq_true rfl) (List.mem_of_getElem? (i := 1) rfl) (v := .ref (b 2)) rfl dX3_washAhead_17 20 rfl ?_
    refine z_iconst C (v := nI 1) rfl dX3_washAhead_20 21 rfl ?_
    refine z_aald C (y := (b 4)) 0 2 1 rfl rfl rfl rfl (by omega) (by decide) rfl dX3_washAhead_21 22 rfl ?_
    refine z_iload_n C 1 rfl rfl dX3_washAhead_22 23 rfl ?_
    refine z_iald C (f := (r 1)) 0 4 rfl rfl (by omega) (by decide) dX3_washAhead_23 24 rfl ?_
    have hb1 := (hJ j hj).2.1
    have hb2 := (hJ (j - 1) (by omega)).2.1
    by_cases hab : r 1 j ≤ r 1 (j - 1)
    · skip
      refine z_isub C (by omega) dX3_washAhead_24 25 rfl ?_
      refine z_nm (fun x_2 ex_2 => ?_)
      refine z_istore_n C hnL [1, 2, 0] [(0, .ref (b 0)), (1, .int (nI j)), (2, .int (nI x_2))] rfl rfl (Nat.le_of_ble_eq_true rfl) dX3_washAhead_25 26 rfl ?_
      refine z_iload_n C 2 rfl rfl dX3_washAhead_26 27 rfl ?_
      refine z_if_le C (by omega) 46 dX3_washAhead_27 (by decide) 30 rfl (fun c_3 => ?_) (fun c_3 => ?_)
      · skip
        refine z_iload_n C 2 rfl rfl dX3_washAhead_46 47 rfl ?_
        refine z_if_ge C (by omega) 59 dX3_washAhead_47 (by decide) 50 rfl (fun c_4 => ?_) (fun c_4 => ?_)
        rotate_left
        · exfalso; omega
        refine z_iconst C (v := nI 0) rfl dX3_washAhead_59 60 rfl ?_
        exact z_iret C hRx dX3_washAhead_60 () (by rw [show wsh st r j = 0 from by unfold wsh; rw [if_neg (by omega), if_neg (by omega), if_neg (by omega)]]) trivial rfl
      · skip
        refine z_aload_n C 0 rfl rfl dX3_washAhead_30 31 rfl ?_
        refine z_get C zc0 iX3_washAhead_X0 0 0 rfl rfl 0 (Nat.le_of_ble_eq_true rfl) (List.mem_of_getElem? (i := 2) rfl) (v := .ref (b 1)) rfl dX3_washAhead_31 34 rfl ?_
        refine z_iconst C (v := nI 1) rfl dX3_washAhead_34 35 rfl ?_
        refine z_iald C (f := st) 0 1 rfl rfl (by omega) (by decide) dX3_washAhead_35 36 rfl ?_
        refine z_iload_n C 2 rfl rfl dX3_washAhead_36 37 rfl ?_
        refine z_aload_n C 0 rfl rfl dX3_washAhead_37 38 rfl ?_
        refine z_get C zc0 iX3_washAhead_X0 0 0 rfl rfl 0 (Nat.le_of_ble_eq_true rfl) (List.mem_of_getElem? (i := 2) rfl) (v := .ref (b 1)) rfl dX3_washAhead_38 41 rfl ?_
        refine z_iconst C (v := nI 2) rfl dX3_washAhead_41 42 rfl ?_
        refine z_iald C (f := st) 0 1 rfl rfl (by omega) (by decide) dX3_washAhead_42 43 rfl ?_
        refine z_imul C dX3_washAhead_43 44 rfl ?_
        refine z_iadd C dX3_washAhead_44 45 rfl ?_
        exact z_iret C hRx dX3_washAhead_45 () (by rw [show wsh st r j = (st 1) + (x_2 * (st 2)) from by unfold wsh; rw [if_neg (by omega), if_pos (by omega), ← ex_2]]) trivial rfl
    · skip
      refine z_isubI C dX3_washAhead_24 25 rfl ?_
      refine z_istore_n C hnL [1, 2, 0] [(0, .ref (b 0)), (1, .int (nI j)), (2, .int ((nI (r 1 (j - 1))) - (nI (r 1 j))))] rfl rfl (Nat.le_of_ble_eq_true rfl) dX3_washAhead_25 26 rfl ?_
      refine z_iload_n C 2 rfl rfl dX3_washAhead_26 27 rfl ?_
      refine z_ifI_le C 46 dX3_washAhead_27 (by decide) 30 rfl (fun c_5 => ?_) (fun c_5 => ?_)
      rotate_left
      · exfalso; exact c_5 (Int32.le_of_lt (pk_sneg (by omega) (by omega)))
      refine z_iload_n C 2 rfl rfl dX3_washAhead_46 47 rfl ?_
      refine z_ifI_ge C 59 dX3_washAhead_47 (by decide) 50 rfl (fun c_6 => ?_) (fun c_6 => ?_)
      · exfalso; exact absurd c_6 (Int32.not_le.mpr (pk_sneg (by omega) (by omega)))
      refine z_aload_n C 0 rfl rfl dX3_washAhead_50 51 rfl ?_
      refine z_get C zc0 iX3_washAhead_X0 0 0 rfl rfl 0 (Nat.le_of_ble_eq_true rfl) (List.mem_of_getElem? (i := 2) rfl) (v := .ref (b 1)) rfl dX3_washAhead_51 54 rfl ?_
      refine z_iconst C (v := nI 2) rfl dX3_washAhead_54 55 rfl ?_
      refine z_iald C (f := st) 0 1 rfl rfl (by omega) (by decide) dX3_washAhead_55 56 rfl ?_
      refine z_goto C 60 dX3_washAhead_56 (by decide) ?_
      exact z_iret C hRx dX3_washAhead_60 () (by rw [show wsh st r j = st 2 from by unfold wsh; rw [if_neg (by omega), if_neg (by omega), if_pos (by omega)]]) trivial rfl
  · skip
    refine z_iconst C (v := nI 0) rfl dX3_washAhead_4 5 rfl ?_
    exact z_iret C hRx dX3_washAhead_5 () (by rw [show wsh st r j = 0 from by unfold wsh; rw [if_pos (by omega)]]) trivial rfl

theorem iX3_makeReady_X0 : ∀ w ∈ u_ws RX0 TX0 3, w ∈ wsX3_makeReady := fun w h => (List.mem_cons_of_mem _ (List.mem_append_left _ (List.mem_append_right _ h)))
theorem iX3_makeReady_X3 : ∀ w ∈ u_ws RX3 TX3 18, w ∈ wsX3_makeReady := fun w h => (List.mem_cons_of_mem _ (List.mem_append_right _ h))
set_option maxHeartbeats 4000000 in
set_option maxRecDepth 100000 in
theorem tX3_makeReady (l : Launch) (g : zG) (q a0 a1 a2 a3 a4 a5 a6 a7 : Nat → Nat) (s0 s1 s2 s3 s4 s5 s6 s7 s8 s9 : Nat) (b st : Nat → Nat) (r : Nat → Nat → Nat) (n : Nat) (j : Nat) (hS : okS st) (hJ : okJ r n) (hj : j < n) (hn : n ≤ 12) : Met l yX3_makeReady wsX3_makeReady ({ frames := 1, cells := 0, slots := 0, locals := 22 } : Room) (zPre g [.ref (q 0), .ref (b 0), .int (nI j)] [wP g q a0 a1 a2 a3 a4 a5 a6 a7 s0 s1 s2 s3 s4 s5 s6 s7 s8 s9, wB g b st r n]) (zQ g (fun _ : Unit => none ) (fun _ : Unit => True) (fun _ : Unit => [wP g q a0 (un a1 j (wsh st r j)) (un a2 j (rdy st r j)) a3 a4 a5 a6 a7 s0 s1 s2 s3 (s4 + wsh st r j) (s5 + plt r j) s6 s7 s8 s9, wB g b st r n]) (zA [wP g q a0 a1 a2 a3 a4 a5 a6 a7 s0 s1 s2 s3 s4 s5 s6 s7 s8 s9, wB g b st r n])) 0 0 (zA [wP g q a0 a1 a2 a3 a4 a5 a6 a7 s0 s1 s2 s3 s4 s5 s6 s7 s8 s9, wB g b st r n]) := by
  refine z_entry (cc := cX3_makeReady) (maxL := 4) (ret := none) (own := RX3) (by decide) rfl rfl (Nat.le_of_ble_eq_true rfl) [(0, .ref (q 0)), (1, .ref (b 0)), (2, .int (nI j))] rfl ?_
  intro K hKl hKg hnL C hRx
  subst hKl
  subst hKg
  refine z_aload_n C 1 rfl rfl dX3_makeReady_0 1 rfl ?_
  refine z_get C zc0 iX3_makeReady_X0 1 0 rfl rfl 1 (Nat.le_of_ble_eq_true rfl) (List.mem_of_getElem? (i := 1) rfl) (v := .ref (b 2)) rfl dX3_makeReady_1 4 rfl ?_
  refine z_iconst C (v := nI 0) rfl dX3_makeReady_4 5 rfl ?_
  refine z_aald C (y := (b 3)) 1 2 1 rfl rfl rfl rfl (by omega) (by decide) rfl dX3_makeReady_5 6 rfl ?_
  refine z_astore_n C hnL [1, 2, 3, 0] [(0, .ref (q 0)), (1, .ref (b 0)), (2, .int (nI j)), (3, .ref (b 3))] rfl rfl (Nat.le_of_ble_eq_true rfl) dX3_makeReady_6 7 rfl ?_
  refine z_aload_n C 0 rfl rfl dX3_makeReady_7 8 rfl ?_
  refine z_get C zc3 iX3_makeReady_X3 0 0 rfl rfl 1 (Nat.le_of_ble_eq_true rfl) (List.mem_of_getElem? (i := 2) rfl) (v := .ref (q 2)) rfl dX3_makeReady_8 11 rfl ?_
  refine z_iload_n C 2 rfl rfl dX3_makeReady_11 12 rfl ?_
  refine z_aload_n C 1 rfl rfl dX3_makeReady_12 13 rfl ?_
  refine z_iload_n C 2 rfl rfl dX3_makeReady_13 14 rfl ?_
  refine z_callS C [.ref (b 0), .int (nI j)] [.int (nI j), .ref (q 2)] (tX3_washAhead K.l K.g b st r n j (by first | omega | assumption) (by first | omega | assumption) (by first | omega | assumption) (by first | omega | assumption)) gX3_makeReady_X3_washAhead rfl rfl rfl hdX3_washAhead ⟨Nat.le_of_ble_eq_true rfl, Nat.le_of_ble_eq_true rfl⟩ ⟨Nat.zero_le _, Nat.zero_le _⟩ [1] rfl rfl (zlc (N := 2) rfl rfl) [0, 2] rfl (by decide) (fun _ : Unit => [wP K.g q a0 a1 a2 a3 a4 a5 a6 a7 s0 s1 s2 s3 s4 s5 s6 s7 s8 s9, wB K.g b st r n]) (fun _ => rfl) rfl rfl (Nat.le_of_ble_eq_true rfl) dX3_makeReady_14 17 rfl (fun u9 hu9 => ?_)
  show Z K 0 0 [wP K.g q a0 a1 a2 a3 a4 a5 a6 a7 s0 s1 s2 s3 s4 s5 s6 s7 s8 s9, wB K.g b st r n] [(0, .ref (q 0)), (1, .ref (b 0)), (2, .int (nI j)), (3, .ref (b 3))] 17 [.int (nI (wsh st r j)), .int (nI j), .ref (q 2)]
  refine z_iast C (f := a1) 0 2 rfl rfl (by omega) (by decide) (wP K.g q a0 (un a1 j (wsh st r j)) a2 a3 a4 a5 a6 a7 s0 s1 s2 s3 s4 s5 s6 s7 s8 s9) rfl [wP K.g q a0 (un a1 j (wsh st r j)) a2 a3 a4 a5 a6 a7 s0 s1 s2 s3 s4 s5 s6 s7 s8 s9, wB K.g b st r n] rfl dX3_makeReady_17 18 rfl ?_
  refine z_aload_n C 0 rfl rfl dX3_makeReady_18 19 rfl ?_
  refine z_dup C rfl dX3_makeReady_19 20 rfl ?_
  refine z_get C zc3 iX3_makeReady_X3 0 0 rfl rfl 12 (Nat.le_of_ble_eq_true rfl) (List.mem_of_getElem? (i := 3) rfl) (v := .int (nI s4)) rfl dX3_makeReady_20 23 rfl ?_
  refine z_aload_n C 0 rfl rfl dX3_makeReady_23 24 rfl ?_
  refine z_get C zc3 iX3_makeReady_X3 0 0 rfl rfl 1 (Nat.le_of_ble_eq_true rfl) (List.mem_of_getElem? (i := 2) rfl) (v := .ref (q 2)) rfl dX3_makeReady_24 27 rfl ?_
  refine z_iload_n C 2 rfl rfl dX3_makeReady_27 28 rfl ?_
  refine z_iald C (f := (un a1 j (wsh st r j))) 0 2 rfl rfl (by omega) (by decide) dX3_makeReady_28 29 rfl ?_
  refine z_top (congrArg nI un_s) ?_
  refine z_iadd C dX3_makeReady_29 30 rfl ?_
  refine z_put C zc3 iX3_makeReady_X3 0 0 rfl rfl 12 (Nat.le_of_ble_eq_true rfl) (List.mem_of_getElem? (i := 3) rfl) rfl rfl rfl (Nat.le_of_ble_eq_true rfl) (wP K.g q a0 (un a1 j (wsh st r j)) a2 a3 a4 a5 a6 a7 s0 s1 s2 s3 (s4 + (wsh st r j)) s5 s6 s7 s8 s9) rfl [wP K.g q a0 (un a1 j (wsh st r j)) a2 a3 a4 a5 a6 a7 s0 s1 s2 s3 (s4 + (wsh st r j)) s5 s6 s7 s8 s9, wB K.g b st r n] rfl dX3_makeReady_30 33 rfl ?_
  refine z_aload_n C 0 rfl rfl dX3_makeReady_33 34 rfl ?_
  refine z_get C zc3 iX3_makeReady_X3 0 0 rfl rfl 2 (Nat.le_of_ble_eq_true rfl) (List.mem_of_getElem? (i := 4) rfl) (v := .ref (q 3)) rfl dX3_makeReady_34 37 rfl ?_
  refine z_iload_n C 2 rfl rfl dX3_makeReady_37 38 rfl ?_
  refine z_aload_n C 0 rfl rfl dX3_makeReady_38 39 rfl ?_
  refine z_get C zc3 iX3_makeReady_X3 0 0 rfl rfl 1 (Nat.le_of_ble_eq_true rfl) (List.mem_of_getElem? (i := 2) rfl) (v := .ref (q 2)) rfl dX3_makeReady_39 42 rfl ?_
  refine z_iload_n C 2 rfl rfl dX3_makeReady_42 43 rfl ?_
  refine z_iald C (f := (un a1 j (wsh st r j))) 0 2 rfl rfl (by omega) (by decide) dX3_makeReady_43 44 rfl ?_
  refine z_top (congrArg nI un_s) ?_
  refine z_iast C (f := a2) 0 3 rfl rfl (by omega) (by decide) (wP K.g q a0 (un a1 j (wsh st r j)) (un a2 j (wsh st r j)) a3 a4 a5 a6 a7 s0 s1 s2 s3 (s4 + (wsh st r j)) s5 s6 s7 s8 s9) rfl [wP K.g q a0 (un a1 j (wsh st r j)) (un a2 j (wsh st r j)) a3 a4 a5 a6 a7 s0 s1 s2 s3 (s4 + (wsh st r j)) s5 s6 s7 s8 s9, wB K.g b st r n] rfl dX3_makeReady_44 45 rfl ?_
  refine z_iload_n C 2 rfl rfl dX3_makeReady_45 46 rfl ?_
  refine z_if_eq C (by omega) 60 dX3_makeReady_46 (by decide) 49 rfl (fun c_1 => ?_) (fun c_1 => ?_)
  · skip
    refine z_aload_n C 0 rfl rfl dX3_makeReady_60 61 rfl ?_
    refine z_get C zc3 iX3_makeReady_X3 0 0 rfl rfl 2 (Nat.le_of_ble_eq_true rfl) (List.mem_of_getElem? (i := 4) rfl) (v := .ref (q 3)) rfl dX3_makeReady_61 64 rfl ?_
    refine z_iload_n C 2 rfl rfl dX3_makeReady_64 65 rfl ?_
    refine z_dup2 C rfl rfl dX3_makeReady_65 66 rfl ?_
    refine z_iald C (f := (un a2 j (wsh st r j))) 0 3 rfl rfl (by omega) (by decide) dX3_makeReady_66 67 rfl ?_
    refine z_top (congrArg nI un_s) ?_
    refine z_aload_n C 1 rfl rfl dX3_makeReady_67 68 rfl ?_
    refine z_get C zc0 iX3_makeReady_X0 1 0 rfl rfl 0 (Nat.le_of_ble_eq_true rfl) (List.mem_of_getElem? (i := 5) rfl) (v := .ref (b 1)) rfl dX3_makeReady_68 71 rfl ?_
    refine z_iconst C (v := nI 0) rfl dX3_makeReady_71 72 rfl ?_
    refine z_iald C (f := st) 1 1 rfl rfl (by omega) (by decide) dX3_makeReady_72 73 rfl ?_
    refine z_iadd C dX3_makeReady_73 74 rfl ?_
    refine z_iast C (f := (un a2 j (wsh st r j))) 0 3 rfl rfl (by omega) (by decide) (wP K.g q a0 (un a1 j (wsh st r j)) (un (un a2 j (wsh st r j)) j ((wsh st r j) + (st 0))) a3 a4 a5 a6 a7 s0 s1 s2 s3 (s4 + (wsh st r j)) s5 s6 s7 s8 s9) rfl [wP K.g q a0 (un a1 j (wsh st r j)) (un (un a2 j (wsh st r j)) j ((wsh st r j) + (st 0))) a3 a4 a5 a6 a7 s0 s1 s2 s3 (s4 + (wsh st r j)) s5 s6 s7 s8 s9, wB K.g b st r n] rfl dX3_makeReady_74 75 rfl ?_
    refine z_aload_n C 0 rfl rfl dX3_makeReady_75 76 rfl ?_
    refine z_dup C rfl dX3_makeReady_76 77 rfl ?_
    refine z_get C zc3 iX3_makeReady_X3 0 0 rfl rfl 13 (Nat.le_of_ble_eq_true rfl) (List.mem_of_getElem? (i := 6) rfl) (v := .int (nI s5)) rfl dX3_makeReady_77 80 rfl ?_
    refine z_iconst C (v := nI 1) rfl dX3_makeReady_80 81 rfl ?_
    refine z_iadd C dX3_makeReady_81 82 rfl ?_
    refine z_put C zc3 iX3_makeReady_X3 0 0 rfl rfl 13 (Nat.le_of_ble_eq_true rfl) (List.mem_of_getElem? (i := 6) rfl) rfl rfl rfl (Nat.le_of_ble_eq_true rfl) (wP K.g q a0 (un a1 j (wsh st r j)) (un (un a2 j (wsh st r j)) j ((wsh st r j) + (st 0))) a3 a4 a5 a6 a7 s0 s1 s2 s3 (s4 + (wsh st r j)) (s5 + 1) s6 s7 s8 s9) rfl [wP K.g q a0 (un a1 j (wsh st r j)) (un (un a2 j (wsh st r j)) j ((wsh st r j) + (st 0))) a3 a4 a5 a6 a7 s0 s1 s2 s3 (s4 + (wsh st r j)) (s5 + 1) s6 s7 s8 s9, wB K.g b st r n] rfl dX3_makeReady_82 85 rfl ?_
    refine z_arr (g := fun y => nI ((un a2 j (rdy st r j)) y)) 0 3 rfl rfl (by intro y hy; congr 1; unfold un rdy; (repeat' split); all_goals first | rfl | omega) (wP K.g q a0 (un a1 j (wsh st r j)) (un a2 j (rdy st r j)) a3 a4 a5 a6 a7 s0 s1 s2 s3 (s4 + (wsh st r j)) (s5 + 1) s6 s7 s8 s9) rfl [wP K.g q a0 (un a1 j (wsh st r j)) (un a2 j (rdy st r j)) a3 a4 a5 a6 a7 s0 s1 s2 s3 (s4 + (wsh st r j)) (s5 + 1) s6 s7 s8 s9, wB K.g b st r n] rfl ?_
    refine z_eq (cs2 := [wP K.g q a0 (un a1 j (wsh st r j)) (un a2 j (rdy st r j)) a3 a4 a5 a6 a7 s0 s1 s2 s3 (s4 + (wsh st r j)) (s5 + plt r j) s6 s7 s8 s9, wB K.g b st r n]) ?_ (congrArg (fun z9 => [wP K.g q a0 (un a1 j (wsh st r j)) (un a2 j (rdy st r j)) a3 a4 a5 a6 a7 s0 s1 s2 s3 (s4 + (wsh st r j)) z9 s6 s7 s8 s9, wB K.g b st r n]) (show s5 + 1 = s5 + plt r j from by unfold plt; split <;> omega)) rfl rfl
    exact z_vret C hRx dX3_makeReady_85 () rfl trivial rfl
  · skip
    refine z_aload_n C 3 rfl rfl dX3_makeReady_49 50 rfl ?_
    refine z_iload_n C 2 rfl rfl dX3_makeReady_50 51 rfl ?_
    refine z_iald C (f := (r 0)) 1 3 rfl rfl (by omega) (by decide) dX3_makeReady_51 52 rfl ?_
    have hb1 := (hJ j hj).1
    refine z_aload_n C 3 rfl rfl dX3_makeReady_52 53 rfl ?_
    refine z_iload_n C 2 rfl rfl dX3_makeReady_53 54 rfl ?_
    refine z_iconst C (v := nI 1) rfl dX3_makeReady_54 55 rfl ?_
    refine z_isub C (by omega) dX3_makeReady_55 56 rfl ?_
    refine z_iald C (f := (r 0)) 1 3 rfl rfl (by omega) (by decide) dX3_makeReady_56 57 rfl ?_
    have hb2 := (hJ (j - 1) (by omega)).1
    refine z_icmp_eq C (by omega) (by omega) 85 dX3_makeReady_57 (by decide) 60 rfl (fun c_2 => ?_) (fun c_2 => ?_)
    · skip
      refine z_arr (g := fun y => nI ((un a2 j (rdy st r j)) y)) 0 3 rfl rfl (by intro y hy; congr 1; unfold un rdy; (repeat' split); all_goals first | rfl | omega) (wP K.g q a0 (un a1 j (wsh st r j)) (un a2 j (rdy st r j)) a3 a4 a5 a6 a7 s0 s1 s2 s3 (s4 + (wsh st r j)) s5 s6 s7 s8 s9) rfl [wP K.g q a0 (un a1 j (wsh st r j)) (un a2 j (rdy st r j)) a3 a4 a5 a6 a7 s0 s1 s2 s3 (s4 + (wsh st r j)) s5 s6 s7 s8 s9, wB K.g b st r n] rfl ?_
      refine z_eq (cs2 := [wP K.g q a0 (un a1 j (wsh st r j)) (un a2 j (rdy st r j)) a3 a4 a5 a6 a7 s0 s1 s2 s3 (s4 + (wsh st r j)) (s5 + plt r j) s6 s7 s8 s9, wB K.g b st r n]) ?_ (congrArg (fun z9 => [wP K.g q a0 (un a1 j (wsh st r j)) (un a2 j (rdy st r j)) a3 a4 a5 a6 a7 s0 s1 s2 s3 (s4 + (wsh st r j)) z9 s6 s7 s8 s9, wB K.g b st r n]) (show s5 = s5 + plt r j from by unfold plt; split <;> omega)) rfl rfl
      exact z_vret C hRx dX3_makeReady_85 () rfl trivial rfl
    · skip
      refine z_aload_n C 0 rfl rfl dX3_makeReady_60 61 rfl ?_
      refine z_get C zc3 iX3_makeReady_X3 0 0 rfl rfl 2 (Nat.le_of_ble_eq_true rfl) (List.mem_of_getElem? (i := 4) rfl) (v := .ref (q 3)) rfl dX3_makeReady_61 64 rfl ?_
      refine z_iload_n C 2 rfl rfl dX3_makeReady_64 65 rfl ?_
      refine z_dup2 C rfl rfl dX3_makeReady_65 66 rfl ?_
      refine z_iald C (f := (un a2 j (wsh st r j))) 0 3 rfl rfl (by omega) (by decide) dX3_makeReady_66 67 rfl ?_
      refine z_top (congrArg nI un_s) ?_
      refine z_aload_n C 1 rfl rfl dX3_makeReady_67 68 rfl ?_
      refine z_get C zc0 iX3_makeReady_X0 1 0 rfl rfl 0 (Nat.le_of_ble_eq_true rfl) (List.mem_of_getElem? (i := 5) rfl) (v := .ref (b 1)) rfl dX3_makeReady_68 71 rfl ?_
      refine z_iconst C (v := nI 0) rfl dX3_makeReady_71 72 rfl ?_
      refine z_iald C (f := st) 1 1 rfl rfl (by omega) (by decide) dX3_makeReady_72 73 rfl ?_
      refine z_iadd C dX3_makeReady_73 74 rfl ?_
      refine z_iast C (f := (un a2 j (wsh st r j))) 0 3 rfl rfl (by omega) (by decide) (wP K.g q a0 (un a1 j (wsh st r j)) (un (un a2 j (wsh st r j)) j ((wsh st r j) + (st 0))) a3 a4 a5 a6 a7 s0 s1 s2 s3 (s4 + (wsh st r j)) s5 s6 s7 s8 s9) rfl [wP K.g q a0 (un a1 j (wsh st r j)) (un (un a2 j (wsh st r j)) j ((wsh st r j) + (st 0))) a3 a4 a5 a6 a7 s0 s1 s2 s3 (s4 + (wsh st r j)) s5 s6 s7 s8 s9, wB K.g b st r n] rfl dX3_makeReady_74 75 rfl ?_
      refine z_aload_n C 0 rfl rfl dX3_makeReady_75 76 rfl ?_
      refine z_dup C rfl dX3_makeReady_76 77 rfl ?_
      refine z_get C zc3 iX3_makeReady_X3 0 0 rfl rfl 13 (Nat.le_of_ble_eq_true rfl) (List.mem_of_getElem? (i := 6) rfl) (v := .int (nI s5)) rfl dX3_makeReady_77 80 rfl ?_
      refine z_iconst C (v := nI 1) rfl dX3_makeReady_80 81 rfl ?_
      refine z_iadd C dX3_makeReady_81 82 rfl ?_
      refine z_put C zc3 iX3_makeReady_X3 0 0 rfl rfl 13 (Nat.le_of_ble_eq_true rfl) (List.mem_of_getElem? (i := 6) rfl) rfl rfl rfl (Nat.le_of_ble_eq_true rfl) (wP K.g q a0 (un a1 j (wsh st r j)) (un (un a2 j (wsh st r j)) j ((wsh st r j) + (st 0))) a3 a4 a5 a6 a7 s0 s1 s2 s3 (s4 + (wsh st r j)) (s5 + 1) s6 s7 s8 s9) rfl [wP K.g q a0 (un a1 j (wsh st r j)) (un (un a2 j (wsh st r j)) j ((wsh st r j) + (st 0))) a3 a4 a5 a6 a7 s0 s1 s2 s3 (s4 + (wsh st r j)) (s5 + 1) s6 s7 s8 s9, wB K.g b st r n] rfl dX3_makeReady_82 85 rfl ?_
      refine z_arr (g := fun y => nI ((un a2 j (rdy st r j)) y)) 0 3 rfl rfl (by intro y hy; congr 1; unfold un rdy; (repeat' split); all_goals first | rfl | omega) (wP K.g q a0 (un a1 j (wsh st r j)) (un a2 j (rdy st r j)) a3 a4 a5 a6 a7 s0 s1 s2 s3 (s4 + (wsh st r j)) (s5 + 1) s6 s7 s8 s9) rfl [wP K.g q a0 (un a1 j (wsh st r j)) (un a2 j (rdy st r j)) a3 a4 a5 a6 a7 s0 s1 s2 s3 (s4 + (wsh st r j)) (s5 + 1) s6 s7 s8 s9, wB K.g b st r n] rfl ?_
      refine z_eq (cs2 := [wP K.g q a0 (un a1 j (wsh st r j)) (un a2 j (rdy st r j)) a3 a4 a5 a6 a7 s0 s1 s2 s3 (s4 + (wsh st r j)) (s5 + plt r j) s6 s7 s8 s9, wB K.g b st r n]) ?_ (congrArg (fun z9 => [wP K.g q a0 (un a1 j (wsh st r j)) (un a2 j (rdy st r j)) a3 a4 a5 a6 a7 s0 s1 s2 s3 (s4 + (wsh st r j)) z9 s6 s7 s8 s9, wB K.g b st r n]) (show s5 + 1 = s5 + plt r j from by unfold plt; split <;> omega)) rfl rfl
      exact z_vret C hRx dX3_makeReady_85 () rfl trivial rfl

theorem iX3_whenRacksAreFree_X3 : ∀ w ∈ u_ws RX3 TX3 18, w ∈ wsX3_whenRacksAreFree := fun w h => (List.mem_cons_of_mem _ (List.mem_append_right _ h))
set_option maxHeartbeats 4000000 in
set_option maxRecDepth 100000 in
theorem tX3_whenRacksAreFree (l : Launch) (g : zG) (q a0 a1 a2 a3 a4 a5 a6 a7 : Nat → Nat) (s0 s1 s2 s3 s4 s5 s6 s7 s8 s9 : Nat) (j e t : Nat) (hj : j < 12) (he : e ≤ 30000) (h6 : ∀ i, i < j → a6 i ≤ 30000) (hs9 : s9 ≤ j) (hs8 : s8 + sm a0 s9 = sm a0 j) (hsm : sm a0 j ≤ 1000) (ht : t ≤ 1000) : Met l yX3_whenRacksAreFree wsX3_whenRacksAreFree ({ frames := 1, cells := 0, slots := 0, locals := 21 } : Room) (zPre g [.ref (q 0), .int (nI j), .int (nI e), .int (nI t)] [wP g q a0 a1 a2 a3 a4 a5 a6 a7 s0 s1 s2 s3 s4 s5 s6 s7 s8 s9]) (zQ g (fun u : (Nat) × (Nat) × (Nat) => match u with | (m, t8, t9) => some (.int (nI m)) ) (fun u : (Nat) × (Nat) × (Nat) => match u with | (m, t8, t9) => (WR a6 a0 j e t s9 m t8 t9) ∧ (t9 < j → m < a6 t9 ∧ t8 ≤ t)) (fun u : (Nat) × (Nat) × (Nat) => match u with | (m, t8, t9) => [wP g q a0 a1 a2 a3 a4 a5 a6 a7 s0 s1 s2 s3 s4 s5 s6 s7 t8 t9]) (zA [wP g q a0 a1 a2 a3 a4 a5 a6 a7 s0 s1 s2 s3 s4 s5 s6 s7 s8 s9])) 0 0 (zA [wP g q a0 a1 a2 a3 a4 a5 a6 a7 s0 s1 s2 s3 s4 s5 s6 s7 s8 s9]) := by
  refine z_entry (cc := cX3_whenRacksAreFree) (maxL := 5) (ret := (some .int)) (own := RX3) (by decide) rfl rfl (Nat.le_of_ble_eq_true rfl) [(0, .ref (q 0)), (1, .int (nI j)), (2, .int (nI e)), (3, .int (nI t))] rfl ?_
  intro K hKl hKg hnL C hRx
  subst hKl
  subst hKg
  refine z_iload_n C 2 rfl rfl dX3_whenRacksAreFree_0 1 rfl ?_
  refine z_istore C hnL [1, 2, 3, 4, 0] [(0, .ref (q 0)), (1, .int (nI j)), (2, .int (nI e)), (3, .int (nI t)), (4, .int (nI e))] rfl (Nat.le_of_ble_eq_true rfl) dX3_whenRacksAreFree_1 3 rfl ?_
  have loop3 : ∀ (mu : Nat) (m : Nat) (t8 : Nat) (t9 : Nat), mu = j - t9 → WR a6 a0 j e t s9 m t8 t9 → m ≤ 30000 → Z K 0 0 [wP K.g q a0 a1 a2 a3 a4 a5 a6 a7 s0 s1 s2 s3 s4 s5 s6 s7 t8 t9] [(0, .ref (q 0)), (1, .int (nI j)), (2, .int (nI e)), (3, .int (nI t)), (4, .int (nI m))] 3 [] := by
    refine z_ind (fun mu ih3 => ?_)
    intro m t8 t9 hmu3 hw hm
    have hw3 := hw.2.2.1
    refine z_aload_n C 0 rfl rfl dX3_whenRacksAreFree_3 4 rfl ?_
    refine z_get C zc3 iX3_whenRacksAreFree_X3 0 0 rfl rfl 17 (Nat.le_of_ble_eq_true rfl) (List.mem_of_getElem? (i := 1) rfl) (v := .int (nI t9)) rfl dX3_whenRacksAreFree_4 7 rfl ?_
    refine z_iload_n C 1 rfl rfl dX3_whenRacksAreFree_7 8 rfl ?_
    refine z_icmp_ge C (by omega) (by omega) 80 dX3_whenRacksAreFree_8 (by decide) 11 rfl (fun c_1 => ?_) (fun c_1 => ?_)
    · skip
      refine z_iload C 4 rfl dX3_whenRacksAreFree_80 82 rfl ?_
      exact z_iret C hRx dX3_whenRacksAreFree_82 (m, t8, t9) rfl (⟨hw, fun h9 => by omega⟩) rfl
    · skip
      have hlt : t9 < j := by omega
      have h6t := h6 t9 hlt
      have hmo := sm_mono (f := a0) hlt
      have hwe := hw.2.2.2.1
      have hts : t8 ≤ 1000 := by omega
      have hta : a0 t9 ≤ t8 := by omega
      refine z_aload_n C 0 rfl rfl dX3_whenRacksAreFree_11 12 rfl ?_
      refine z_get C zc3 iX3_whenRacksAreFree_X3 0 0 rfl rfl 6 (Nat.le_of_ble_eq_true rfl) (List.mem_of_getElem? (i := 2) rfl) (v := .ref (q 7)) rfl dX3_whenRacksAreFree_12 15 rfl ?_
      refine z_aload_n C 0 rfl rfl dX3_whenRacksAreFree_15 16 rfl ?_
      refine z_get C zc3 iX3_whenRacksAreFree_X3 0 0 rfl rfl 17 (Nat.le_of_ble_eq_true rfl) (List.mem_of_getElem? (i := 1) rfl) (v := .int (nI t9)) rfl dX3_whenRacksAreFree_16 19 rfl ?_
      refine z_iald C (f := a6) 0 7 rfl rfl (by omega) (by decide) dX3_whenRacksAreFree_19 20 rfl ?_
      refine z_iload C 4 rfl dX3_whenRacksAreFree_20 22 rfl ?_
      refine z_icmp_le C (by omega) (by omega) 33 dX3_whenRacksAreFree_22 (by decide) 25 rfl (fun c_2 => ?_) (fun c_2 => ?_)
      · skip
        refine z_iload C 4 rfl dX3_whenRacksAreFree_33 35 rfl ?_
        refine z_aload_n C 0 rfl rfl dX3_whenRacksAreFree_35 36 rfl ?_
        refine z_get C zc3 iX3_whenRacksAreFree_X3 0 0 rfl rfl 6 (Nat.le_of_ble_eq_true rfl) (List.mem_of_getElem? (i := 2) rfl) (v := .ref (q 7)) rfl dX3_whenRacksAreFree_36 39 rfl ?_
        refine z_aload_n C 0 rfl rfl dX3_whenRacksAreFree_39 40 rfl ?_
        refine z_get C zc3 iX3_whenRacksAreFree_X3 0 0 rfl rfl 17 (Nat.le_of_ble_eq_true rfl) (List.mem_of_getElem? (i := 1) rfl) (v := .int (nI t9)) rfl dX3_whenRacksAreFree_40 43 rfl ?_
        refine z_iald C (f := a6) 0 7 rfl rfl (by omega) (by decide) dX3_whenRacksAreFree_43 44 rfl ?_
        refine z_max C (List.mem_of_getElem? (i := 4) rfl) (List.mem_of_getElem? (i := 5) rfl) (List.mem_of_getElem? (i := 6) rfl) (List.mem_of_getElem? (i := 7) rfl) ⟨Nat.le_of_ble_eq_true rfl, Nat.le_of_ble_eq_true rfl⟩ ⟨Nat.zero_le _, Nat.zero_le _⟩ (by omega) (by omega) dX3_whenRacksAreFree_44 47 rfl ?_
        refine z_istore C hnL [1, 2, 3, 4, 0] [(0, .ref (q 0)), (1, .int (nI j)), (2, .int (nI e)), (3, .int (nI t)), (4, .int (nI (max m (a6 t9))))] rfl (Nat.le_of_ble_eq_true rfl) dX3_whenRacksAreFree_47 49 rfl ?_
        refine z_aload_n C 0 rfl rfl dX3_whenRacksAreFree_49 50 rfl ?_
        refine z_dup C rfl dX3_whenRacksAreFree_50 51 rfl ?_
        refine z_get C zc3 iX3_whenRacksAreFree_X3 0 0 rfl rfl 16 (Nat.le_of_ble_eq_true rfl) (List.mem_of_getElem? (i := 3) rfl) (v := .int (nI t8)) rfl dX3_whenRacksAreFree_51 54 rfl ?_
        refine z_aload_n C 0 rfl rfl dX3_whenRacksAreFree_54 55 rfl ?_
        refine z_get C zc3 iX3_whenRacksAreFree_X3 0 0 rfl rfl 0 (Nat.le_of_ble_eq_true rfl) (List.mem_of_getElem? (i := 8) rfl) (v := .ref (q 1)) rfl dX3_whenRacksAreFree_55 58 rfl ?_
        refine z_aload_n C 0 rfl rfl dX3_whenRacksAreFree_58 59 rfl ?_
        refine z_get C zc3 iX3_whenRacksAreFree_X3 0 0 rfl rfl 17 (Nat.le_of_ble_eq_true rfl) (List.mem_of_getElem? (i := 1) rfl) (v := .int (nI t9)) rfl dX3_whenRacksAreFree_59 62 rfl ?_
        refine z_iald C (f := a0) 0 1 rfl rfl (by omega) (by decide) dX3_whenRacksAreFree_62 63 rfl ?_
        refine z_isub C (by omega) dX3_whenRacksAreFree_63 64 rfl ?_
        refine z_put C zc3 iX3_whenRacksAreFree_X3 0 0 rfl rfl 16 (Nat.le_of_ble_eq_true rfl) (List.mem_of_getElem? (i := 3) rfl) rfl rfl rfl (Nat.le_of_ble_eq_true rfl) (wP K.g q a0 a1 a2 a3 a4 a5 a6 a7 s0 s1 s2 s3 s4 s5 s6 s7 (t8 - (a0 t9)) t9) rfl [wP K.g q a0 a1 a2 a3 a4 a5 a6 a7 s0 s1 s2 s3 s4 s5 s6 s7 (t8 - (a0 t9)) t9] rfl dX3_whenRacksAreFree_64 67 rfl ?_
        refine z_aload_n C 0 rfl rfl dX3_whenRacksAreFree_67 68 rfl ?_
        refine z_dup C rfl dX3_whenRacksAreFree_68 69 rfl ?_
        refine z_get C zc3 iX3_whenRacksAreFree_X3 0 0 rfl rfl 17 (Nat.le_of_ble_eq_true rfl) (List.mem_of_getElem? (i := 1) rfl) (v := .int (nI t9)) rfl dX3_whenRacksAreFree_69 72 rfl ?_
        refine z_iconst C (v := nI 1) rfl dX3_whenRacksAreFree_72 73 rfl ?_
        refine z_iadd C dX3_whenRacksAreFree_73 74 rfl ?_
        refine z_put C zc3 iX3_whenRacksAreFree_X3 0 0 rfl rfl 17 (Nat.le_of_ble_eq_true rfl) (List.mem_of_getElem? (i := 1) rfl) rfl rfl rfl (Nat.le_of_ble_eq_true rfl) (wP K.g q a0 a1 a2 a3 a4 a5 a6 a7 s0 s1 s2 s3 s4 s5 s6 s7 (t8 - (a0 t9)) (t9 + 1)) rfl [wP K.g q a0 a1 a2 a3 a4 a5 a6 a7 s0 s1 s2 s3 s4 s5 s6 s7 (t8 - (a0 t9)) (t9 + 1)] rfl dX3_whenRacksAreFree_74 77 rfl ?_
        refine z_goto C 3 dX3_whenRacksAreFree_77 (by decide) ?_
        exact ih3 _ (by omega) (max m (a6 t9)) (t8 - a0 t9) (t9 + 1) rfl (WR_step hw hlt (by omega) (by omega)) (by omega)
      · skip
        refine z_aload_n C 0 rfl rfl dX3_whenRacksAreFree_25 26 rfl ?_
        refine z_get C zc3 iX3_whenRacksAreFree_X3 0 0 rfl rfl 16 (Nat.le_of_ble_eq_true rfl) (List.mem_of_getElem? (i := 3) rfl) (v := .int (nI t8)) rfl dX3_whenRacksAreFree_26 29 rfl ?_
        refine z_iload_n C 3 rfl rfl dX3_whenRacksAreFree_29 30 rfl ?_
        refine z_icmp_le C (by omega) (by omega) 80 dX3_whenRacksAreFree_30 (by decide) 33 rfl (fun c_3 => ?_) (fun c_3 => ?_)
        · skip
          refine z_iload C 4 rfl dX3_whenRacksAreFree_80 82 rfl ?_
          exact z_iret C hRx dX3_whenRacksAreFree_82 (m, t8, t9) rfl (⟨hw, fun h9 => by omega⟩) rfl
        · skip
          refine z_iload C 4 rfl dX3_whenRacksAreFree_33 35 rfl ?_
          refine z_aload_n C 0 rfl rfl dX3_whenRacksAreFree_35 36 rfl ?_
          refine z_get C zc3 iX3_whenRacksAreFree_X3 0 0 rfl rfl 6 (Nat.le_of_ble_eq_true rfl) (List.mem_of_getElem? (i := 2) rfl) (v := .ref (q 7)) rfl dX3_whenRacksAreFree_36 39 rfl ?_
          refine z_aload_n C 0 rfl rfl dX3_whenRacksAreFree_39 40 rfl ?_
          refine z_get C zc3 iX3_whenRacksAreFree_X3 0 0 rfl rfl 17 (Nat.le_of_ble_eq_true rfl) (List.mem_of_getElem? (i := 1) rfl) (v := .int (nI t9)) rfl dX3_whenRacksAreFree_40 43 rfl ?_
          refine z_iald C (f := a6) 0 7 rfl rfl (by omega) (by decide) dX3_whenRacksAreFree_43 44 rfl ?_
          refine z_max C (List.mem_of_getElem? (i := 4) rfl) (List.mem_of_getElem? (i := 5) rfl) (List.mem_of_getElem? (i := 6) rfl) (List.mem_of_getElem? (i := 7) rfl) ⟨Nat.le_of_ble_eq_true rfl, Nat.le_of_ble_eq_true rfl⟩ ⟨Nat.zero_le _, Nat.zero_le _⟩ (by omega) (by omega) dX3_whenRacksAreFree_44 47 rfl ?_
          refine z_istore C hnL [1, 2, 3, 4, 0] [(0, .ref (q 0)), (1, .int (nI j)), (2, .int (nI e)), (3, .int (nI t)), (4, .int (nI (max m (a6 t9))))] rfl (Nat.le_of_ble_eq_true rfl) dX3_whenRacksAreFree_47 49 rfl ?_
          refine z_aload_n C 0 rfl rfl dX3_whenRacksAreFree_49 50 rfl ?_
          refine z_dup C rfl dX3_whenRacksAreFree_50 51 rfl ?_
          refine z_get C zc3 iX3_whenRacksAreFree_X3 0 0 rfl rfl 16 (Nat.le_of_ble_eq_true rfl) (List.mem_of_getElem? (i := 3) rfl) (v := .int (nI t8)) rfl dX3_whenRacksAreFree_51 54 rfl ?_
          refine z_aload_n C 0 rfl rfl dX3_whenRacksAreFree_54 55 rfl ?_
          refine z_get C zc3 iX3_whenRacksAreFree_X3 0 0 rfl rfl 0 (Nat.le_of_ble_eq_true rfl) (List.mem_of_getElem? (i := 8) rfl) (v := .ref (q 1)) rfl dX3_whenRacksAreFree_55 58 rfl ?_
          refine z_aload_n C 0 rfl rfl dX3_whenRacksAreFree_58 59 rfl ?_
          refine z_get C zc3 iX3_whenRacksAreFree_X3 0 0 rfl rfl 17 (Nat.le_of_ble_eq_true rfl) (List.mem_of_getElem? (i := 1) rfl) (v := .int (nI t9)) rfl dX3_whenRacksAreFree_59 62 rfl ?_
          refine z_iald C (f := a0) 0 1 rfl rfl (by omega) (by decide) dX3_whenRacksAreFree_62 63 rfl ?_
          refine z_isub C (by omega) dX3_whenRacksAreFree_63 64 rfl ?_
          refine z_put C zc3 iX3_whenRacksAreFree_X3 0 0 rfl rfl 16 (Nat.le_of_ble_eq_true rfl) (List.mem_of_getElem? (i := 3) rfl) rfl rfl rfl (Nat.le_of_ble_eq_true rfl) (wP K.g q a0 a1 a2 a3 a4 a5 a6 a7 s0 s1 s2 s3 s4 s5 s6 s7 (t8 - (a0 t9)) t9) rfl [wP K.g q a0 a1 a2 a3 a4 a5 a6 a7 s0 s1 s2 s3 s4 s5 s6 s7 (t8 - (a0 t9)) t9] rfl dX3_whenRacksAreFree_64 67 rfl ?_
          refine z_aload_n C 0 rfl rfl dX3_whenRacksAreFree_67 68 rfl ?_
          refine z_dup C rfl dX3_whenRacksAreFree_68 69 rfl ?_
          refine z_get C zc3 iX3_whenRacksAreFree_X3 0 0 rfl rfl 17 (Nat.le_of_ble_eq_true rfl) (List.mem_of_getElem? (i := 1) rfl) (v := .int (nI t9)) rfl dX3_whenRacksAreFree_69 72 rfl ?_
          refine z_iconst C (v := nI 1) rfl dX3_whenRacksAreFree_72 73 rfl ?_
          refine z_iadd C dX3_whenRacksAreFree_73 74 rfl ?_
          refine z_put C zc3 iX3_whenRacksAreFree_X3 0 0 rfl rfl 17 (Nat.le_of_ble_eq_true rfl) (List.mem_of_getElem? (i := 1) rfl) rfl rfl rfl (Nat.le_of_ble_eq_true rfl) (wP K.g q a0 a1 a2 a3 a4 a5 a6 a7 s0 s1 s2 s3 s4 s5 s6 s7 (t8 - (a0 t9)) (t9 + 1)) rfl [wP K.g q a0 a1 a2 a3 a4 a5 a6 a7 s0 s1 s2 s3 s4 s5 s6 s7 (t8 - (a0 t9)) (t9 + 1)] rfl dX3_whenRacksAreFree_74 77 rfl ?_
          refine z_goto C 3 dX3_whenRacksAreFree_77 (by decide) ?_
          exact ih3 _ (by omega) (max m (a6 t9)) (t8 - a0 t9) (t9 + 1) rfl (WR_step hw hlt (by omega) (by omega)) (by omega)
  exact loop3 _ e s8 s9 rfl ⟨Nat.le_refl _, Nat.le_refl _, hs9, hs8, fun i h1 h2 => by omega, Or.inl rfl, fun x h1 h2 => by omega⟩ he

theorem iX3_printJob_X0 : ∀ w ∈ u_ws RX0 TX0 3, w ∈ wsX3_printJob := fun w h => (List.mem_cons_of_mem _ (List.mem_append_right _ h))
theorem iX3_printJob_X3 : ∀ w ∈ u_ws RX3 TX3 18, w ∈ wsX3_printJob := fun w h => (List.mem_cons_of_mem _ (List.mem_append_left _ (List.mem_append_right _ h)))
set_option maxHeartbeats 4000000 in
set_option maxRecDepth 100000 in
theorem tX3_printJob (l : Launch) (g : zG) (q a0 a1 a2 a3 a4 a5 a6 a7 : Nat → Nat) (s0 s1 s2 s3 s4 s5 s6 s7 s8 s9 : Nat) (b st : Nat → Nat) (r : Nat → Nat → Nat) (n : Nat) (j R e : Nat) (hS : okS st) (hJ : okJ r n) (hj : j < n) (hn : n ≤ 12) (hR : ndj st r j ≤ R) (hR2 : R ≤ 20) (he : fre a5 j + a2 j + r 2 j * st 3 = e) (hb5 : ∀ i, i < j → a5 i ≤ 1200 * (i + 1)) (ha2 : a2 j ≤ 201) (h6 : ∀ i, i < j → a6 i ≤ 30000) (hs9 : s9 ≤ j) (hs8 : s8 + sm a0 s9 = sm a0 j) (hsm : sm a0 j ≤ 1000) : Met l yX3_printJob wsX3_printJob ({ frames := 2, cells := 0, slots := 0, locals := 45 } : Room) (zPre g [.ref (q 0), .ref (b 0), .int (nI j), .int (nI R)] [wP g q a0 a1 a2 a3 a4 a5 a6 a7 s0 s1 s2 s3 s4 s5 s6 s7 s8 s9, wB g b st r n]) (zQ g (fun u : (Nat) × (Nat) × (Nat) => match u with | (m, t8, t9) => none ) (fun u : (Nat) × (Nat) × (Nat) => match u with | (m, t8, t9) => (WR a6 (un a0 j (ndj st r j)) j e (R - ndj st r j) s9 m t8 t9) ∧ (t9 < j → m < a6 t9 ∧ t8 ≤ R - ndj st r j)) (fun u : (Nat) × (Nat) × (Nat) => match u with | (m, t8, t9) => [wP g q (un a0 j (ndj st r j)) a1 a2 (un a3 j (m - e)) (un a4 j (fre a5 j + (m - e))) (un a5 j m) a6 a7 s0 s1 s2 s3 s4 s5 (s6 + (m - e)) s7 t8 t9, wB g b st r n]) (zA [wP g q a0 a1 a2 a3 a4 a5 a6 a7 s0 s1 s2 s3 s4 s5 s6 s7 s8 s9, wB g b st r n])) 0 0 (zA [wP g q a0 a1 a2 a3 a4 a5 a6 a7 s0 s1 s2 s3 s4 s5 s6 s7 s8 s9, wB g b st r n]) := by
  refine z_entry (cc := cX3_printJob) (maxL := 7) (ret := none) (own := RX3) (by decide) rfl rfl (Nat.le_of_ble_eq_true rfl) [(0, .ref (q 0)), (1, .ref (b 0)), (2, .int (nI j)), (3, .int (nI R))] rfl ?_
  intro K hKl hKg hnL C hRx
  subst hKl
  subst hKg
  have hrl := (run_le hS hJ hj).2
  have hfb : fre a5 j ≤ 1200 * j := by
    unfold fre
    split
    · omega
    · have := hb5 (j - 1) (by omega)
      omega
  refine z_iload_n C 2 rfl rfl dX3_printJob_0 1 rfl ?_
  refine z_if_ne C (by omega) 8 dX3_printJob_1 (by decide) 4 rfl (fun c_1 => ?_) (fun c_1 => ?_)
  · skip
    refine z_aload_n C 0 rfl rfl dX3_printJob_8 9 rfl ?_
    refine z_get C zc3 iX3_printJob_X3 0 0 rfl rfl 5 (Nat.le_of_ble_eq_true rfl) (List.mem_of_getElem? (i := 1) rfl) (v := .ref (q 6)) rfl dX3_printJob_9 12 rfl ?_
    refine z_iload_n C 2 rfl rfl dX3_printJob_12 13 rfl ?_
    refine z_iconst C (v := nI 1) rfl dX3_printJob_13 14 rfl ?_
    refine z_isub C (by omega) dX3_printJob_14 15 rfl ?_
    refine z_iald C (f := a5) 0 6 rfl rfl (by omega) (by decide) dX3_printJob_15 16 rfl ?_
    refine z_top (show nI (a5 (j - 1)) = nI (fre a5 j) from (by unfold fre; rw [if_neg (by omega)])) ?_
    refine z_istore C hnL [1, 2, 3, 4, 0] [(0, .ref (q 0)), (1, .ref (b 0)), (2, .int (nI j)), (3, .int (nI R)), (4, .int (nI (fre a5 j)))] rfl (Nat.le_of_ble_eq_true rfl) dX3_printJob_16 18 rfl ?_
    refine z_aload_n C 1 rfl rfl dX3_printJob_18 19 rfl ?_
    refine z_get C zc0 iX3_printJob_X0 1 0 rfl rfl 1 (Nat.le_of_ble_eq_true rfl) (List.mem_of_getElem? (i := 2) rfl) (v := .ref (b 2)) rfl dX3_printJob_19 22 rfl ?_
    refine z_iconst C (v := nI 2) rfl dX3_printJob_22 23 rfl ?_
    refine z_aald C (y := (b 5)) 1 2 1 rfl rfl rfl rfl (by omega) (by decide) rfl dX3_printJob_23 24 rfl ?_
    refine z_iload_n C 2 rfl rfl dX3_printJob_24 25 rfl ?_
    refine z_iald C (f := (r 2)) 1 5 rfl rfl (by omega) (by decide) dX3_printJob_25 26 rfl ?_
    refine z_istore C hnL [1, 2, 3, 4, 5, 0] [(0, .ref (q 0)), (1, .ref (b 0)), (2, .int (nI j)), (3, .int (nI R)), (4, .int (nI (fre a5 j))), (5, .int (nI (r 2 j)))] rfl (Nat.le_of_ble_eq_true rfl) dX3_printJob_26 28 rfl ?_
    refine z_iload C 4 rfl dX3_printJob_28 30 rfl ?_
    refine z_aload_n C 0 rfl rfl dX3_printJob_30 31 rfl ?_
    refine z_get C zc3 iX3_printJob_X3 0 0 rfl rfl 2 (Nat.le_of_ble_eq_true rfl) (List.mem_of_getElem? (i := 3) rfl) (v := .ref (q 3)) rfl dX3_printJob_31 34 rfl ?_
    refine z_iload_n C 2 rfl rfl dX3_printJob_34 35 rfl ?_
    refine z_iald C (f := a2) 0 3 rfl rfl (by omega) (by decide) dX3_printJob_35 36 rfl ?_
    refine z_iadd C dX3_printJob_36 37 rfl ?_
    refine z_iload C 5 rfl dX3_printJob_37 39 rfl ?_
    refine z_aload_n C 1 rfl rfl dX3_printJob_39 40 rfl ?_
    refine z_get C zc0 iX3_printJob_X0 1 0 rfl rfl 0 (Nat.le_of_ble_eq_true rfl) (List.mem_of_getElem? (i := 4) rfl) (v := .ref (b 1)) rfl dX3_printJob_40 43 rfl ?_
    refine z_iconst C (v := nI 3) rfl dX3_printJob_43 44 rfl ?_
    refine z_iald C (f := st) 1 1 rfl rfl (by omega) (by decide) dX3_printJob_44 45 rfl ?_
    refine z_imul C dX3_printJob_45 46 rfl ?_
    refine z_iadd C dX3_printJob_46 47 rfl ?_
    refine z_top (show nI (((fre a5 j) + (a2 j)) + ((r 2 j) * (st 3))) = nI e from (by rw [← he])) ?_
    refine z_istore C hnL [1, 2, 3, 4, 5, 6, 0] [(0, .ref (q 0)), (1, .ref (b 0)), (2, .int (nI j)), (3, .int (nI R)), (4, .int (nI (fre a5 j))), (5, .int (nI (r 2 j))), (6, .int (nI e))] rfl (Nat.le_of_ble_eq_true rfl) dX3_printJob_47 49 rfl ?_
    refine z_aload_n C 0 rfl rfl dX3_printJob_49 50 rfl ?_
    refine z_get C zc3 iX3_printJob_X3 0 0 rfl rfl 0 (Nat.le_of_ble_eq_true rfl) (List.mem_of_getElem? (i := 5) rfl) (v := .ref (q 1)) rfl dX3_printJob_50 53 rfl ?_
    refine z_iload_n C 2 rfl rfl dX3_printJob_53 54 rfl ?_
    refine z_iload C 5 rfl dX3_printJob_54 56 rfl ?_
    refine z_aload_n C 1 rfl rfl dX3_printJob_56 57 rfl ?_
    refine z_get C zc0 iX3_printJob_X0 1 0 rfl rfl 0 (Nat.le_of_ble_eq_true rfl) (List.mem_of_getElem? (i := 4) rfl) (v := .ref (b 1)) rfl dX3_printJob_57 60 rfl ?_
    refine z_bipush C (v := nI 6) rfl dX3_printJob_60 62 rfl ?_
    refine z_iald C (f := st) 1 1 rfl rfl (by omega) (by decide) dX3_printJob_62 63 rfl ?_
    refine z_callN C [.int (nI (r 2 j)), .int (nI (st 6))] [.int (nI j), .ref (q 1)] (tX4_racksFor K.l K.g (r 2 j) (st 6) (by have := hS.2.2.2.2.2.2.2.2.1; omega) (by have := hS.2.2.2.2.2.2.2.2.2; omega) (by have := (hJ j hj).2.2.2.1; omega)) gX3_printJob_X4_racksFor_n95 rfl rfl rfl C.kp.2.2.2.1 (List.mem_of_getElem? (i := 10) rfl) (List.mem_of_getElem? (i := 9) rfl) hdX4_racksFor ⟨Nat.le_of_ble_eq_true rfl, Nat.le_of_ble_eq_true rfl⟩ ⟨Nat.zero_le _, Nat.zero_le _⟩ rfl rfl (Nat.le_of_ble_eq_true rfl) dX3_printJob_63 66 rfl (fun u9 hu9 => ?_)
    show Z K 0 0 [wP K.g q a0 a1 a2 a3 a4 a5 a6 a7 s0 s1 s2 s3 s4 s5 s6 s7 s8 s9, wB K.g b st r n] [(0, .ref (q 0)), (1, .ref (b 0)), (2, .int (nI j)), (3, .int (nI R)), (4, .int (nI (fre a5 j))), (5, .int (nI (r 2 j))), (6, .int (nI e))] 66 [.int (nI (nd (st 6) (r 2 j))), .int (nI j), .ref (q 1)]
    refine z_top (show nI (nd (st 6) (r 2 j)) = nI (ndj st r j) from rfl) ?_
    refine z_iast C (f := a0) 0 1 rfl rfl (by omega) (by decide) (wP K.g q (un a0 j (ndj st r j)) a1 a2 a3 a4 a5 a6 a7 s0 s1 s2 s3 s4 s5 s6 s7 s8 s9) rfl [wP K.g q (un a0 j (ndj st r j)) a1 a2 a3 a4 a5 a6 a7 s0 s1 s2 s3 s4 s5 s6 s7 s8 s9, wB K.g b st r n] rfl dX3_printJob_66 67 rfl ?_
    refine z_aload_n C 0 rfl rfl dX3_printJob_67 68 rfl ?_
    refine z_get C zc3 iX3_printJob_X3 0 0 rfl rfl 5 (Nat.le_of_ble_eq_true rfl) (List.mem_of_getElem? (i := 1) rfl) (v := .ref (q 6)) rfl dX3_printJob_68 71 rfl ?_
    refine z_iload_n C 2 rfl rfl dX3_printJob_71 72 rfl ?_
    refine z_aload_n C 0 rfl rfl dX3_printJob_72 73 rfl ?_
    refine z_iload_n C 2 rfl rfl dX3_printJob_73 74 rfl ?_
    refine z_iload C 6 rfl dX3_printJob_74 76 rfl ?_
    refine z_iload_n C 3 rfl rfl dX3_printJob_76 77 rfl ?_
    refine z_aload_n C 0 rfl rfl dX3_printJob_77 78 rfl ?_
    refine z_get C zc3 iX3_printJob_X3 0 0 rfl rfl 0 (Nat.le_of_ble_eq_true rfl) (List.mem_of_getElem? (i := 5) rfl) (v := .ref (q 1)) rfl dX3_printJob_78 81 rfl ?_
    refine z_iload_n C 2 rfl rfl dX3_printJob_81 82 rfl ?_
    refine z_iald C (f := (un a0 j (ndj st r j))) 0 1 rfl rfl (by omega) (by decide) dX3_printJob_82 83 rfl ?_
    refine z_top (congrArg nI un_s) ?_
    refine z_isub C (by omega) dX3_printJob_83 84 rfl ?_
    refine z_callV C [.int (nI j), .int (nI e), .int (nI (R - (ndj st r j)))] [.int (nI j), .ref (q 6)] (tX3_whenRacksAreFree K.l K.g q (un a0 j (ndj st r j)) a1 a2 a3 a4 a5 a6 a7 s0 s1 s2 s3 s4 s5 s6 s7 s8 s9 j e (R - (ndj st r j)) (by first | omega | assumption) (by omega) h6 (by first | omega | assumption) (by rw [sm_un j (Nat.le_refl j), sm_un s9 hs9]; exact hs8) (by rw [sm_un j (Nat.le_refl j)]; exact hsm) (by omega)) gX3_printJob_X3_whenRacksAreFree rfl rfl rfl hdX3_whenRacksAreFree ⟨Nat.le_of_ble_eq_true rfl, Nat.le_of_ble_eq_true rfl⟩ ⟨Nat.zero_le _, Nat.zero_le _⟩ 0 0 rfl rfl rfl [0] rfl rfl (zlc (N := 2) rfl rfl) [2, 1] rfl (by decide) (fun u : (Nat) × (Nat) × (Nat) => match u with | (m, t8, t9) => [wP K.g q (un a0 j (ndj st r j)) a1 a2 a3 a4 a5 a6 a7 s0 s1 s2 s3 s4 s5 s6 s7 t8 t9, wB K.g b st r n]) (fun _ => rfl) rfl rfl (Nat.le_of_ble_eq_true rfl) dX3_printJob_84 87 rfl (fun u9 hu9 => ?_)
    obtain ⟨m, t8, t9⟩ := u9
    obtain ⟨hw, hx⟩ := hu9
    have hw : WR a6 (un a0 j (ndj st r j)) j e (R - (ndj st r j)) s9 m t8 t9 := hw
    have hx : t9 < j → m < a6 t9 ∧ t8 ≤ (R - (ndj st r j)) := hx
    show Z K 0 0 [wP K.g q (un a0 j (ndj st r j)) a1 a2 a3 a4 a5 a6 a7 s0 s1 s2 s3 s4 s5 s6 s7 t8 t9, wB K.g b st r n] [(0, .ref (q 0)), (1, .ref (b 0)), (2, .int (nI j)), (3, .int (nI R)), (4, .int (nI (fre a5 j))), (5, .int (nI (r 2 j))), (6, .int (nI e))] 87 [.int (nI m), .int (nI j), .ref (q 6)]
    have hme := hw.1
    refine z_iast C (f := a5) 0 6 rfl rfl (by omega) (by decide) (wP K.g q (un a0 j (ndj st r j)) a1 a2 a3 a4 (un a5 j m) a6 a7 s0 s1 s2 s3 s4 s5 s6 s7 t8 t9) rfl [wP K.g q (un a0 j (ndj st r j)) a1 a2 a3 a4 (un a5 j m) a6 a7 s0 s1 s2 s3 s4 s5 s6 s7 t8 t9, wB K.g b st r n] rfl dX3_printJob_87 88 rfl ?_
    refine z_aload_n C 0 rfl rfl dX3_printJob_88 89 rfl ?_
    refine z_get C zc3 iX3_printJob_X3 0 0 rfl rfl 3 (Nat.le_of_ble_eq_true rfl) (List.mem_of_getElem? (i := 6) rfl) (v := .ref (q 4)) rfl dX3_printJob_89 92 rfl ?_
    refine z_iload_n C 2 rfl rfl dX3_printJob_92 93 rfl ?_
    refine z_aload_n C 0 rfl rfl dX3_printJob_93 94 rfl ?_
    refine z_get C zc3 iX3_printJob_X3 0 0 rfl rfl 5 (Nat.le_of_ble_eq_true rfl) (List.mem_of_getElem? (i := 1) rfl) (v := .ref (q 6)) rfl dX3_printJob_94 97 rfl ?_
    refine z_iload_n C 2 rfl rfl dX3_printJob_97 98 rfl ?_
    refine z_iald C (f := (un a5 j m)) 0 6 rfl rfl (by omega) (by decide) dX3_printJob_98 99 rfl ?_
    refine z_top (congrArg nI un_s) ?_
    refine z_iload C 6 rfl dX3_printJob_99 101 rfl ?_
    refine z_isub C (by omega) dX3_printJob_101 102 rfl ?_
    refine z_iast C (f := a3) 0 4 rfl rfl (by omega) (by decide) (wP K.g q (un a0 j (ndj st r j)) a1 a2 (un a3 j (m - e)) a4 (un a5 j m) a6 a7 s0 s1 s2 s3 s4 s5 s6 s7 t8 t9) rfl [wP K.g q (un a0 j (ndj st r j)) a1 a2 (un a3 j (m - e)) a4 (un a5 j m) a6 a7 s0 s1 s2 s3 s4 s5 s6 s7 t8 t9, wB K.g b st r n] rfl dX3_printJob_102 103 rfl ?_
    refine z_aload_n C 0 rfl rfl dX3_printJob_103 104 rfl ?_
    refine z_get C zc3 iX3_printJob_X3 0 0 rfl rfl 4 (Nat.le_of_ble_eq_true rfl) (List.mem_of_getElem? (i := 7) rfl) (v := .ref (q 5)) rfl dX3_printJob_104 107 rfl ?_
    refine z_iload_n C 2 rfl rfl dX3_printJob_107 108 rfl ?_
    refine z_iload C 4 rfl dX3_printJob_108 110 rfl ?_
    refine z_aload_n C 0 rfl rfl dX3_printJob_110 111 rfl ?_
    refine z_get C zc3 iX3_printJob_X3 0 0 rfl rfl 3 (Nat.le_of_ble_eq_true rfl) (List.mem_of_getElem? (i := 6) rfl) (v := .ref (q 4)) rfl dX3_printJob_111 114 rfl ?_
    refine z_iload_n C 2 rfl rfl dX3_printJob_114 115 rfl ?_
    refine z_iald C (f := (un a3 j (m - e))) 0 4 rfl rfl (by omega) (by decide) dX3_printJob_115 116 rfl ?_
    refine z_top (congrArg nI un_s) ?_
    refine z_iadd C dX3_printJob_116 117 rfl ?_
    refine z_iast C (f := a4) 0 5 rfl rfl (by omega) (by decide) (wP K.g q (un a0 j (ndj st r j)) a1 a2 (un a3 j (m - e)) (un a4 j ((fre a5 j) + (m - e))) (un a5 j m) a6 a7 s0 s1 s2 s3 s4 s5 s6 s7 t8 t9) rfl [wP K.g q (un a0 j (ndj st r j)) a1 a2 (un a3 j (m - e)) (un a4 j ((fre a5 j) + (m - e))) (un a5 j m) a6 a7 s0 s1 s2 s3 s4 s5 s6 s7 t8 t9, wB K.g b st r n] rfl dX3_printJob_117 118 rfl ?_
    refine z_aload_n C 0 rfl rfl dX3_printJob_118 119 rfl ?_
    refine z_dup C rfl dX3_printJob_119 120 rfl ?_
    refine z_get C zc3 iX3_printJob_X3 0 0 rfl rfl 14 (Nat.le_of_ble_eq_true rfl) (List.mem_of_getElem? (i := 8) rfl) (v := .int (nI s6)) rfl dX3_printJob_120 123 rfl ?_
    refine z_aload_n C 0 rfl rfl dX3_printJob_123 124 rfl ?_
    refine z_get C zc3 iX3_printJob_X3 0 0 rfl rfl 3 (Nat.le_of_ble_eq_true rfl) (List.mem_of_getElem? (i := 6) rfl) (v := .ref (q 4)) rfl dX3_printJob_124 127 rfl ?_
    refine z_iload_n C 2 rfl rfl dX3_printJob_127 128 rfl ?_
    refine z_iald C (f := (un a3 j (m - e))) 0 4 rfl rfl (by omega) (by decide) dX3_printJob_128 129 rfl ?_
    refine z_top (congrArg nI un_s) ?_
    refine z_iadd C dX3_printJob_129 130 rfl ?_
    refine z_put C zc3 iX3_printJob_X3 0 0 rfl rfl 14 (Nat.le_of_ble_eq_true rfl) (List.mem_of_getElem? (i := 8) rfl) rfl rfl rfl (Nat.le_of_ble_eq_true rfl) (wP K.g q (un a0 j (ndj st r j)) a1 a2 (un a3 j (m - e)) (un a4 j ((fre a5 j) + (m - e))) (un a5 j m) a6 a7 s0 s1 s2 s3 s4 s5 (s6 + (m - e)) s7 t8 t9) rfl [wP K.g q (un a0 j (ndj st r j)) a1 a2 (un a3 j (m - e)) (un a4 j ((fre a5 j) + (m - e))) (un a5 j m) a6 a7 s0 s1 s2 s3 s4 s5 (s6 + (m - e)) s7 t8 t9, wB K.g b st r n] rfl dX3_printJob_130 133 rfl ?_
    exact z_vret C hRx dX3_printJob_133 (m, t8, t9) rfl (⟨hw, hx⟩) rfl
  · skip
    refine z_iconst C (v := nI 0) rfl dX3_printJob_4 5 rfl ?_
    refine z_goto C 16 dX3_printJob_5 (by decide) ?_
    refine z_top (show nI 0 = nI (fre a5 j) from (by unfold fre; rw [if_pos (by omega)])) ?_
    refine z_istore C hnL [1, 2, 3, 4, 0] [(0, .ref (q 0)), (1, .ref (b 0)), (2, .int (nI j)), (3, .int (nI R)), (4, .int (nI (fre a5 j)))] rfl (Nat.le_of_ble_eq_true rfl) dX3_printJob_16 18 rfl ?_
    refine z_aload_n C 1 rfl rfl dX3_printJob_18 19 rfl ?_
    refine z_get C zc0 iX3_printJob_X0 1 0 rfl rfl 1 (Nat.le_of_ble_eq_true rfl) (List.mem_of_getElem? (i := 2) rfl) (v := .ref (b 2)) rfl dX3_printJob_19 22 rfl ?_
    refine z_iconst C (v := nI 2) rfl dX3_printJob_22 23 rfl ?_
    refine z_aald C (y := (b 5)) 1 2 1 rfl rfl rfl rfl (by omega) (by decide) rfl dX3_printJob_23 24 rfl ?_
    refine z_iload_n C 2 rfl rfl dX3_printJob_24 25 rfl ?_
    refine z_iald C (f := (r 2)) 1 5 rfl rfl (by omega) (by decide) dX3_printJob_25 26 rfl ?_
    refine z_istore C hnL [1, 2, 3, 4, 5, 0] [(0, .ref (q 0)), (1, .ref (b 0)), (2, .int (nI j)), (3, .int (nI R)), (4, .int (nI (fre a5 j))), (5, .int (nI (r 2 j)))] rfl (Nat.le_of_ble_eq_true rfl) dX3_printJob_26 28 rfl ?_
    refine z_iload C 4 rfl dX3_printJob_28 30 rfl ?_
    refine z_aload_n C 0 rfl rfl dX3_printJob_30 31 rfl ?_
    refine z_get C zc3 iX3_printJob_X3 0 0 rfl rfl 2 (Nat.le_of_ble_eq_true rfl) (List.mem_of_getElem? (i := 3) rfl) (v := .ref (q 3)) rfl dX3_printJob_31 34 rfl ?_
    refine z_iload_n C 2 rfl rfl dX3_printJob_34 35 rfl ?_
    refine z_iald C (f := a2) 0 3 rfl rfl (by omega) (by decide) dX3_printJob_35 36 rfl ?_
    refine z_iadd C dX3_printJob_36 37 rfl ?_
    refine z_iload C 5 rfl dX3_printJob_37 39 rfl ?_
    refine z_aload_n C 1 rfl rfl dX3_printJob_39 40 rfl ?_
    refine z_get C zc0 iX3_printJob_X0 1 0 rfl rfl 0 (Nat.le_of_ble_eq_true rfl) (List.mem_of_getElem? (i := 4) rfl) (v := .ref (b 1)) rfl dX3_printJob_40 43 rfl ?_
    refine z_iconst C (v := nI 3) rfl dX3_printJob_43 44 rfl ?_
    refine z_iald C (f := st) 1 1 rfl rfl (by omega) (by decide) dX3_printJob_44 45 rfl ?_
    refine z_imul C dX3_printJob_45 46 rfl ?_
    refine z_iadd C dX3_printJob_46 47 rfl ?_
    refine z_top (show nI (((fre a5 j) + (a2 j)) + ((r 2 j) * (st 3))) = nI e from (by rw [← he])) ?_
    refine z_istore C hnL [1, 2, 3, 4, 5, 6, 0] [(0, .ref (q 0)), (1, .ref (b 0)), (2, .int (nI j)), (3, .int (nI R)), (4, .int (nI (fre a5 j))), (5, .int (nI (r 2 j))), (6, .int (nI e))] rfl (Nat.le_of_ble_eq_true rfl) dX3_printJob_47 49 rfl ?_
    refine z_aload_n C 0 rfl rfl dX3_printJob_49 50 rfl ?_
    refine z_get C zc3 iX3_printJob_X3 0 0 rfl rfl 0 (Nat.le_of_ble_eq_true rfl) (List.mem_of_getElem? (i := 5) rfl) (v := .ref (q 1)) rfl dX3_printJob_50 53 rfl ?_
    refine z_iload_n C 2 rfl rfl dX3_printJob_53 54 rfl ?_
    refine z_iload C 5 rfl dX3_printJob_54 56 rfl ?_
    refine z_aload_n C 1 rfl rfl dX3_printJob_56 57 rfl ?_
    refine z_get C zc0 iX3_printJob_X0 1 0 rfl rfl 0 (Nat.le_of_ble_eq_true rfl) (List.mem_of_getElem? (i := 4) rfl) (v := .ref (b 1)) rfl dX3_printJob_57 60 rfl ?_
    refine z_bipush C (v := nI 6) rfl dX3_printJob_60 62 rfl ?_
    refine z_iald C (f := st) 1 1 rfl rfl (by omega) (by decide) dX3_printJob_62 63 rfl ?_
    refine z_callN C [.int (nI (r 2 j)), .int (nI (st 6))] [.int (nI j), .ref (q 1)] (tX4_racksFor K.l K.g (r 2 j) (st 6) (by have := hS.2.2.2.2.2.2.2.2.1; omega) (by have := hS.2.2.2.2.2.2.2.2.2; omega) (by have := (hJ j hj).2.2.2.1; omega)) gX3_printJob_X4_racksFor_n95 rfl rfl rfl C.kp.2.2.2.1 (List.mem_of_getElem? (i := 10) rfl) (List.mem_of_getElem? (i := 9) rfl) hdX4_racksFor ⟨Nat.le_of_ble_eq_true rfl, Nat.le_of_ble_eq_true rfl⟩ ⟨Nat.zero_le _, Nat.zero_le _⟩ rfl rfl (Nat.le_of_ble_eq_true rfl) dX3_printJob_63 66 rfl (fun u9 hu9 => ?_)
    show Z K 0 0 [wP K.g q a0 a1 a2 a3 a4 a5 a6 a7 s0 s1 s2 s3 s4 s5 s6 s7 s8 s9, wB K.g b st r n] [(0, .ref (q 0)), (1, .ref (b 0)), (2, .int (nI j)), (3, .int (nI R)), (4, .int (nI (fre a5 j))), (5, .int (nI (r 2 j))), (6, .int (nI e))] 66 [.int (nI (nd (st 6) (r 2 j))), .int (nI j), .ref (q 1)]
    refine z_top (show nI (nd (st 6) (r 2 j)) = nI (ndj st r j) from rfl) ?_
    refine z_iast C (f := a0) 0 1 rfl rfl (by omega) (by decide) (wP K.g q (un a0 j (ndj st r j)) a1 a2 a3 a4 a5 a6 a7 s0 s1 s2 s3 s4 s5 s6 s7 s8 s9) rfl [wP K.g q (un a0 j (ndj st r j)) a1 a2 a3 a4 a5 a6 a7 s0 s1 s2 s3 s4 s5 s6 s7 s8 s9, wB K.g b st r n] rfl dX3_printJob_66 67 rfl ?_
    refine z_aload_n C 0 rfl rfl dX3_printJob_67 68 rfl ?_
    refine z_get C zc3 iX3_printJob_X3 0 0 rfl rfl 5 (Nat.le_of_ble_eq_true rfl) (List.mem_of_getElem? (i := 1) rfl) (v := .ref (q 6)) rfl dX3_printJob_68 71 rfl ?_
    refine z_iload_n C 2 rfl rfl dX3_printJob_71 72 rfl ?_
    refine z_aload_n C 0 rfl rfl dX3_printJob_72 73 rfl ?_
    refine z_iload_n C 2 rfl rfl dX3_printJob_73 74 rfl ?_
    refine z_iload C 6 rfl dX3_printJob_74 76 rfl ?_
    refine z_iload_n C 3 rfl rfl dX3_printJob_76 77 rfl ?_
    refine z_aload_n C 0 rfl rfl dX3_printJob_77 78 rfl ?_
    refine z_get C zc3 iX3_printJob_X3 0 0 rfl rfl 0 (Nat.le_of_ble_eq_true rfl) (List.mem_of_getElem? (i := 5) rfl) (v := .ref (q 1)) rfl dX3_printJob_78 81 rfl ?_
    refine z_iload_n C 2 rfl rfl dX3_printJob_81 82 rfl ?_
    refine z_iald C (f := (un a0 j (ndj st r j))) 0 1 rfl rfl (by omega) (by decide) dX3_printJob_82 83 rfl ?_
    refine z_top (congrArg nI un_s) ?_
    refine z_isub C (by omega) dX3_printJob_83 84 rfl ?_
    refine z_callV C [.int (nI j), .int (nI e), .int (nI (R - (ndj st r j)))] [.int (nI j), .ref (q 6)] (tX3_whenRacksAreFree K.l K.g q (un a0 j (ndj st r j)) a1 a2 a3 a4 a5 a6 a7 s0 s1 s2 s3 s4 s5 s6 s7 s8 s9 j e (R - (ndj st r j)) (by first | omega | assumption) (by omega) h6 (by first | omega | assumption) (by rw [sm_un j (Nat.le_refl j), sm_un s9 hs9]; exact hs8) (by rw [sm_un j (Nat.le_refl j)]; exact hsm) (by omega)) gX3_printJob_X3_whenRacksAreFree rfl rfl rfl hdX3_whenRacksAreFree ⟨Nat.le_of_ble_eq_true rfl, Nat.le_of_ble_eq_true rfl⟩ ⟨Nat.zero_le _, Nat.zero_le _⟩ 0 0 rfl rfl rfl [0] rfl rfl (zlc (N := 2) rfl rfl) [2, 1] rfl (by decide) (fun u : (Nat) × (Nat) × (Nat) => match u with | (m, t8, t9) => [wP K.g q (un a0 j (ndj st r j)) a1 a2 a3 a4 a5 a6 a7 s0 s1 s2 s3 s4 s5 s6 s7 t8 t9, wB K.g b st r n]) (fun _ => rfl) rfl rfl (Nat.le_of_ble_eq_true rfl) dX3_printJob_84 87 rfl (fun u9 hu9 => ?_)
    obtain ⟨m, t8, t9⟩ := u9
    obtain ⟨hw, hx⟩ := hu9
    have hw : WR a6 (un a0 j (ndj st r j)) j e (R - (ndj st r j)) s9 m t8 t9 := hw
    have hx : t9 < j → m < a6 t9 ∧ t8 ≤ (R - (ndj st r j)) := hx
    show Z K 0 0 [wP K.g q (un a0 j (ndj st r j)) a1 a2 a3 a4 a5 a6 a7 s0 s1 s2 s3 s4 s5 s6 s7 t8 t9, wB K.g b st r n] [(0, .ref (q 0)), (1, .ref (b 0)), (2, .int (nI j)), (3, .int (nI R)), (4, .int (nI (fre a5 j))), (5, .int (nI (r 2 j))), (6, .int (nI e))] 87 [.int (nI m), .int (nI j), .ref (q 6)]
    have hme := hw.1
    refine z_iast C (f := a5) 0 6 rfl rfl (by omega) (by decide) (wP K.g q (un a0 j (ndj st r j)) a1 a2 a3 a4 (un a5 j m) a6 a7 s0 s1 s2 s3 s4 s5 s6 s7 t8 t9) rfl [wP K.g q (un a0 j (ndj st r j)) a1 a2 a3 a4 (un a5 j m) a6 a7 s0 s1 s2 s3 s4 s5 s6 s7 t8 t9, wB K.g b st r n] rfl dX3_printJob_87 88 rfl ?_
    refine z_aload_n C 0 rfl rfl dX3_printJob_88 89 rfl ?_
    refine z_get C zc3 iX3_printJob_X3 0 0 rfl rfl 3 (Nat.le_of_ble_eq_true rfl) (List.mem_of_getElem? (i := 6) rfl) (v := .ref (q 4)) rfl dX3_printJob_89 92 rfl ?_
    refine z_iload_n C 2 rfl rfl dX3_printJob_92 93 rfl ?_
    refine z_aload_n C 0 rfl rfl dX3_printJob_93 94 rfl ?_
    refine z_get C zc3 iX3_printJob_X3 0 0 rfl rfl 5 (Nat.le_of_ble_eq_true rfl) (List.mem_of_getElem? (i := 1) rfl) (v := .ref (q 6)) rfl dX3_printJob_94 97 rfl ?_
    refine z_iload_n C 2 rfl rfl dX3_printJob_97 98 rfl ?_
    refine z_iald C (f := (un a5 j m)) 0 6 rfl rfl (by omega) (by decide) dX3_printJob_98 99 rfl ?_
    refine z_top (congrArg nI un_s) ?_
    refine z_iload C 6 rfl dX3_printJob_99 101 rfl ?_
    refine z_isub C (by omega) dX3_printJob_101 102 rfl ?_
    refine z_iast C (f := a3) 0 4 rfl rfl (by omega) (by decide) (wP K.g q (un a0 j (ndj st r j)) a1 a2 (un a3 j (m - e)) a4 (un a5 j m) a6 a7 s0 s1 s2 s3 s4 s5 s6 s7 t8 t9) rfl [wP K.g q (un a0 j (ndj st r j)) a1 a2 (un a3 j (m - e)) a4 (un a5 j m) a6 a7 s0 s1 s2 s3 s4 s5 s6 s7 t8 t9, wB K.g b st r n] rfl dX3_printJob_102 103 rfl ?_
    refine z_aload_n C 0 rfl rfl dX3_printJob_103 104 rfl ?_
    refine z_get C zc3 iX3_printJob_X3 0 0 rfl rfl 4 (Nat.le_of_ble_eq_true rfl) (List.mem_of_getElem? (i := 7) rfl) (v := .ref (q 5)) rfl dX3_printJob_104 107 rfl ?_
    refine z_iload_n C 2 rfl rfl dX3_printJob_107 108 rfl ?_
    refine z_iload C 4 rfl dX3_printJob_108 110 rfl ?_
    refine z_aload_n C 0 rfl rfl dX3_printJob_110 111 rfl ?_
    refine z_get C zc3 iX3_printJob_X3 0 0 rfl rfl 3 (Nat.le_of_ble_eq_true rfl) (List.mem_of_getElem? (i := 6) rfl) (v := .ref (q 4)) rfl dX3_printJob_111 114 rfl ?_
    refine z_iload_n C 2 rfl rfl dX3_printJob_114 115 rfl ?_
    refine z_iald C (f := (un a3 j (m - e))) 0 4 rfl rfl (by omega) (by decide) dX3_printJob_115 116 rfl ?_
    refine z_top (congrArg nI un_s) ?_
    refine z_iadd C dX3_printJob_116 117 rfl ?_
    refine z_iast C (f := a4) 0 5 rfl rfl (by omega) (by decide) (wP K.g q (un a0 j (ndj st r j)) a1 a2 (un a3 j (m - e)) (un a4 j ((fre a5 j) + (m - e))) (un a5 j m) a6 a7 s0 s1 s2 s3 s4 s5 s6 s7 t8 t9) rfl [wP K.g q (un a0 j (ndj st r j)) a1 a2 (un a3 j (m - e)) (un a4 j ((fre a5 j) + (m - e))) (un a5 j m) a6 a7 s0 s1 s2 s3 s4 s5 s6 s7 t8 t9, wB K.g b st r n] rfl dX3_printJob_117 118 rfl ?_
    refine z_aload_n C 0 rfl rfl dX3_printJob_118 119 rfl ?_
    refine z_dup C rfl dX3_printJob_119 120 rfl ?_
    refine z_get C zc3 iX3_printJob_X3 0 0 rfl rfl 14 (Nat.le_of_ble_eq_true rfl) (List.mem_of_getElem? (i := 8) rfl) (v := .int (nI s6)) rfl dX3_printJob_120 123 rfl ?_
    refine z_aload_n C 0 rfl rfl dX3_printJob_123 124 rfl ?_
    refine z_get C zc3 iX3_printJob_X3 0 0 rfl rfl 3 (Nat.le_of_ble_eq_true rfl) (List.mem_of_getElem? (i := 6) rfl) (v := .ref (q 4)) rfl dX3_printJob_124 127 rfl ?_
    refine z_iload_n C 2 rfl rfl dX3_printJob_127 128 rfl ?_
    refine z_iald C (f := (un a3 j (m - e))) 0 4 rfl rfl (by omega) (by decide) dX3_printJob_128 129 rfl ?_
    refine z_top (congrArg nI un_s) ?_
    refine z_iadd C dX3_printJob_129 130 rfl ?_
    refine z_put C zc3 iX3_printJob_X3 0 0 rfl rfl 14 (Nat.le_of_ble_eq_true rfl) (List.mem_of_getElem? (i := 8) rfl) rfl rfl rfl (Nat.le_of_ble_eq_true rfl) (wP K.g q (un a0 j (ndj st r j)) a1 a2 (un a3 j (m - e)) (un a4 j ((fre a5 j) + (m - e))) (un a5 j m) a6 a7 s0 s1 s2 s3 s4 s5 (s6 + (m - e)) s7 t8 t9) rfl [wP K.g q (un a0 j (ndj st r j)) a1 a2 (un a3 j (m - e)) (un a4 j ((fre a5 j) + (m - e))) (un a5 j m) a6 a7 s0 s1 s2 s3 s4 s5 (s6 + (m - e)) s7 t8 t9, wB K.g b st r n] rfl dX3_printJob_130 133 rfl ?_
    exact z_vret C hRx dX3_printJob_133 (m, t8, t9) rfl (⟨hw, hx⟩) rfl

theorem iX3_dryJob_X0 : ∀ w ∈ u_ws RX0 TX0 3, w ∈ wsX3_dryJob := fun w h => (List.mem_cons_of_mem _ (List.mem_append_right _ h))
theorem iX3_dryJob_X3 : ∀ w ∈ u_ws RX3 TX3 18, w ∈ wsX3_dryJob := fun w h => (List.mem_cons_of_mem _ (List.mem_append_left _ (List.mem_append_right _ h)))
set_option maxHeartbeats 4000000 in
set_option maxRecDepth 100000 in
theorem tX3_dryJob (l : Launch) (g : zG) (q a0 a1 a2 a3 a4 a5 a6 a7 : Nat → Nat) (s0 s1 s2 s3 s4 s5 s6 s7 s8 s9 : Nat) (b st : Nat → Nat) (r : Nat → Nat → Nat) (n : Nat) (j v u : Nat) (hS : okS st) (hJ : okJ r n) (hj : j < n) (hn : n ≤ 12) (hv : a5 j = v) (hu : a0 j = u) (hvb : v ≤ 30000) (hub : u ≤ 1000) (hb8 : s8 ≤ 1000000) (hb7 : s7 ≤ 1000000) (hb3 : s3 ≤ 1000000) : Met l yX3_dryJob wsX3_dryJob ({ frames := 1, cells := 0, slots := 0, locals := 21 } : Room) (zPre g [.ref (q 0), .ref (b 0), .int (nI j)] [wP g q a0 a1 a2 a3 a4 a5 a6 a7 s0 s1 s2 s3 s4 s5 s6 s7 s8 s9, wB g b st r n]) (zQ g (fun _ : Unit => none ) (fun _ : Unit => True) (fun _ : Unit => [wP g q a0 a1 a2 a3 a4 a5 (un a6 j (v + st 4)) (un a7 j (v + st 4 - r 3 j)) s0 (s1 + if 0 < v + st 4 - r 3 j then 1 else 0) (s2 + (v + st 4 - r 3 j)) (max s3 (v + st 4 - r 3 j)) s4 s5 s6 (if 0 < st 4 then max s7 (s8 + u) else s7) (s8 + u) s9, wB g b st r n]) (zA [wP g q a0 a1 a2 a3 a4 a5 a6 a7 s0 s1 s2 s3 s4 s5 s6 s7 s8 s9, wB g b st r n])) 0 0 (zA [wP g q a0 a1 a2 a3 a4 a5 a6 a7 s0 s1 s2 s3 s4 s5 s6 s7 s8 s9, wB g b st r n]) := by
  refine z_entry (cc := cX3_dryJob) (maxL := 3) (ret := none) (own := RX3) (by decide) rfl rfl (Nat.le_of_ble_eq_true rfl) [(0, .ref (q 0)), (1, .ref (b 0)), (2, .int (nI j))] rfl ?_
  intro K hKl hKg hnL C hRx
  subst hKl
  subst hKg
  have h4 := hS.2.2.2.2.2.1
  have hdu := (hJ j hj).2.2.2.2
  refine z_aload_n C 0 rfl rfl dX3_dryJob_0 1 rfl ?_
  refine z_get C zc3 iX3_dryJob_X3 0 0 rfl rfl 6 (Nat.le_of_ble_eq_true rfl) (List.mem_of_getElem? (i := 1) rfl) (v := .ref (q 7)) rfl dX3_dryJob_1 4 rfl ?_
  refine z_iload_n C 2 rfl rfl dX3_dryJob_4 5 rfl ?_
  refine z_aload_n C 0 rfl rfl dX3_dryJob_5 6 rfl ?_
  refine z_get C zc3 iX3_dryJob_X3 0 0 rfl rfl 5 (Nat.le_of_ble_eq_true rfl) (List.mem_of_getElem? (i := 2) rfl) (v := .ref (q 6)) rfl dX3_dryJob_6 9 rfl ?_
  refine z_iload_n C 2 rfl rfl dX3_dryJob_9 10 rfl ?_
  refine z_iald C (f := a5) 0 6 rfl rfl (by omega) (by decide) dX3_dryJob_10 11 rfl ?_
  refine z_top (show nI (a5 j) = nI v from (by rw [hv])) ?_
  refine z_aload_n C 1 rfl rfl dX3_dryJob_11 12 rfl ?_
  refine z_get C zc0 iX3_dryJob_X0 1 0 rfl rfl 0 (Nat.le_of_ble_eq_true rfl) (List.mem_of_getElem? (i := 3) rfl) (v := .ref (b 1)) rfl dX3_dryJob_12 15 rfl ?_
  refine z_iconst C (v := nI 4) rfl dX3_dryJob_15 16 rfl ?_
  refine z_iald C (f := st) 1 1 rfl rfl (by omega) (by decide) dX3_dryJob_16 17 rfl ?_
  refine z_iadd C dX3_dryJob_17 18 rfl ?_
  refine z_iast C (f := a6) 0 7 rfl rfl (by omega) (by decide) (wP K.g q a0 a1 a2 a3 a4 a5 (un a6 j (v + (st 4))) a7 s0 s1 s2 s3 s4 s5 s6 s7 s8 s9) rfl [wP K.g q a0 a1 a2 a3 a4 a5 (un a6 j (v + (st 4))) a7 s0 s1 s2 s3 s4 s5 s6 s7 s8 s9, wB K.g b st r n] rfl dX3_dryJob_18 19 rfl ?_
  refine z_aload_n C 0 rfl rfl dX3_dryJob_19 20 rfl ?_
  refine z_dup C rfl dX3_dryJob_20 21 rfl ?_
  refine z_get C zc3 iX3_dryJob_X3 0 0 rfl rfl 16 (Nat.le_of_ble_eq_true rfl) (List.mem_of_getElem? (i := 4) rfl) (v := .int (nI s8)) rfl dX3_dryJob_21 24 rfl ?_
  refine z_aload_n C 0 rfl rfl dX3_dryJob_24 25 rfl ?_
  refine z_get C zc3 iX3_dryJob_X3 0 0 rfl rfl 0 (Nat.le_of_ble_eq_true rfl) (List.mem_of_getElem? (i := 5) rfl) (v := .ref (q 1)) rfl dX3_dryJob_25 28 rfl ?_
  refine z_iload_n C 2 rfl rfl dX3_dryJob_28 29 rfl ?_
  refine z_iald C (f := a0) 0 1 rfl rfl (by omega) (by decide) dX3_dryJob_29 30 rfl ?_
  refine z_top (show nI (a0 j) = nI u from (by rw [hu])) ?_
  refine z_iadd C dX3_dryJob_30 31 rfl ?_
  refine z_put C zc3 iX3_dryJob_X3 0 0 rfl rfl 16 (Nat.le_of_ble_eq_true rfl) (List.mem_of_getElem? (i := 4) rfl) rfl rfl rfl (Nat.le_of_ble_eq_true rfl) (wP K.g q a0 a1 a2 a3 a4 a5 (un a6 j (v + (st 4))) a7 s0 s1 s2 s3 s4 s5 s6 s7 (s8 + u) s9) rfl [wP K.g q a0 a1 a2 a3 a4 a5 (un a6 j (v + (st 4))) a7 s0 s1 s2 s3 s4 s5 s6 s7 (s8 + u) s9, wB K.g b st r n] rfl dX3_dryJob_31 34 rfl ?_
  refine z_aload_n C 1 rfl rfl dX3_dryJob_34 35 rfl ?_
  refine z_get C zc0 iX3_dryJob_X0 1 0 rfl rfl 0 (Nat.le_of_ble_eq_true rfl) (List.mem_of_getElem? (i := 3) rfl) (v := .ref (b 1)) rfl dX3_dryJob_35 38 rfl ?_
  refine z_iconst C (v := nI 4) rfl dX3_dryJob_38 39 rfl ?_
  refine z_iald C (f := st) 1 1 rfl rfl (by omega) (by decide) dX3_dryJob_39 40 rfl ?_
  refine z_if_le C (by omega) 58 dX3_dryJob_40 (by decide) 43 rfl (fun c_1 => ?_) (fun c_1 => ?_)
  · skip
    refine z_aload_n C 0 rfl rfl dX3_dryJob_58 59 rfl ?_
    refine z_get C zc3 iX3_dryJob_X3 0 0 rfl rfl 7 (Nat.le_of_ble_eq_true rfl) (List.mem_of_getElem? (i := 11) rfl) (v := .ref (q 8)) rfl dX3_dryJob_59 62 rfl ?_
    refine z_iload_n C 2 rfl rfl dX3_dryJob_62 63 rfl ?_
    refine z_iconst C (v := nI 0) rfl dX3_dryJob_63 64 rfl ?_
    refine z_aload_n C 0 rfl rfl dX3_dryJob_64 65 rfl ?_
    refine z_get C zc3 iX3_dryJob_X3 0 0 rfl rfl 6 (Nat.le_of_ble_eq_true rfl) (List.mem_of_getElem? (i := 1) rfl) (v := .ref (q 7)) rfl dX3_dryJob_65 68 rfl ?_
    refine z_iload_n C 2 rfl rfl dX3_dryJob_68 69 rfl ?_
    refine z_iald C (f := (un a6 j (v + (st 4)))) 0 7 rfl rfl (by omega) (by decide) dX3_dryJob_69 70 rfl ?_
    refine z_top (congrArg nI un_s) ?_
    refine z_aload_n C 1 rfl rfl dX3_dryJob_70 71 rfl ?_
    refine z_get C zc0 iX3_dryJob_X0 1 0 rfl rfl 1 (Nat.le_of_ble_eq_true rfl) (List.mem_of_getElem? (i := 12) rfl) (v := .ref (b 2)) rfl dX3_dryJob_71 74 rfl ?_
    refine z_iconst C (v := nI 3) rfl dX3_dryJob_74 75 rfl ?_
    refine z_aald C (y := (b 6)) 1 2 1 rfl rfl rfl rfl (by omega) (by decide) rfl dX3_dryJob_75 76 rfl ?_
    refine z_iload_n C 2 rfl rfl dX3_dryJob_76 77 rfl ?_
    refine z_iald C (f := (r 3)) 1 6 rfl rfl (by omega) (by decide) dX3_dryJob_77 78 rfl ?_
    refine z_isubI C dX3_dryJob_78 79 rfl ?_
    refine z_max0 C (List.mem_of_getElem? (i := 7) rfl) (List.mem_of_getElem? (i := 8) rfl) (List.mem_of_getElem? (i := 9) rfl) (List.mem_of_getElem? (i := 10) rfl) ⟨Nat.le_of_ble_eq_true rfl, Nat.le_of_ble_eq_true rfl⟩ ⟨Nat.zero_le _, Nat.zero_le _⟩ (by omega) (by omega) dX3_dryJob_79 82 rfl ?_
    refine z_iast C (f := a7) 0 8 rfl rfl (by omega) (by decide) (wP K.g q a0 a1 a2 a3 a4 a5 (un a6 j (v + (st 4))) (un a7 j ((v + (st 4)) - (r 3 j))) s0 s1 s2 s3 s4 s5 s6 s7 (s8 + u) s9) rfl [wP K.g q a0 a1 a2 a3 a4 a5 (un a6 j (v + (st 4))) (un a7 j ((v + (st 4)) - (r 3 j))) s0 s1 s2 s3 s4 s5 s6 s7 (s8 + u) s9, wB K.g b st r n] rfl dX3_dryJob_82 83 rfl ?_
    refine z_aload_n C 0 rfl rfl dX3_dryJob_83 84 rfl ?_
    refine z_dup C rfl dX3_dryJob_84 85 rfl ?_
    refine z_get C zc3 iX3_dryJob_X3 0 0 rfl rfl 10 (Nat.le_of_ble_eq_true rfl) (List.mem_of_getElem? (i := 13) rfl) (v := .int (nI s2)) rfl dX3_dryJob_85 88 rfl ?_
    refine z_aload_n C 0 rfl rfl dX3_dryJob_88 89 rfl ?_
    refine z_get C zc3 iX3_dryJob_X3 0 0 rfl rfl 7 (Nat.le_of_ble_eq_true rfl) (List.mem_of_getElem? (i := 11) rfl) (v := .ref (q 8)) rfl dX3_dryJob_89 92 rfl ?_
    refine z_iload_n C 2 rfl rfl dX3_dryJob_92 93 rfl ?_
    refine z_iald C (f := (un a7 j ((v + (st 4)) - (r 3 j)))) 0 8 rfl rfl (by omega) (by decide) dX3_dryJob_93 94 rfl ?_
    refine z_top (congrArg nI un_s) ?_
    refine z_iadd C dX3_dryJob_94 95 rfl ?_
    refine z_put C zc3 iX3_dryJob_X3 0 0 rfl rfl 10 (Nat.le_of_ble_eq_true rfl) (List.mem_of_getElem? (i := 13) rfl) rfl rfl rfl (Nat.le_of_ble_eq_true rfl) (wP K.g q a0 a1 a2 a3 a4 a5 (un a6 j (v + (st 4))) (un a7 j ((v + (st 4)) - (r 3 j))) s0 s1 (s2 + ((v + (st 4)) - (r 3 j))) s3 s4 s5 s6 s7 (s8 + u) s9) rfl [wP K.g q a0 a1 a2 a3 a4 a5 (un a6 j (v + (st 4))) (un a7 j ((v + (st 4)) - (r 3 j))) s0 s1 (s2 + ((v + (st 4)) - (r 3 j))) s3 s4 s5 s6 s7 (s8 + u) s9, wB K.g b st r n] rfl dX3_dryJob_95 98 rfl ?_
    refine z_aload_n C 0 rfl rfl dX3_dryJob_98 99 rfl ?_
    refine z_aload_n C 0 rfl rfl dX3_dryJob_99 100 rfl ?_
    refine z_get C zc3 iX3_dryJob_X3 0 0 rfl rfl 11 (Nat.le_of_ble_eq_true rfl) (List.mem_of_getElem? (i := 14) rfl) (v := .int (nI s3)) rfl dX3_dryJob_100 103 rfl ?_
    refine z_aload_n C 0 rfl rfl dX3_dryJob_103 104 rfl ?_
    refine z_get C zc3 iX3_dryJob_X3 0 0 rfl rfl 7 (Nat.le_of_ble_eq_true rfl) (List.mem_of_getElem? (i := 11) rfl) (v := .ref (q 8)) rfl dX3_dryJob_104 107 rfl ?_
    refine z_iload_n C 2 rfl rfl dX3_dryJob_107 108 rfl ?_
    refine z_iald C (f := (un a7 j ((v + (st 4)) - (r 3 j)))) 0 8 rfl rfl (by omega) (by decide) dX3_dryJob_108 109 rfl ?_
    refine z_top (congrArg nI un_s) ?_
    refine z_max C (List.mem_of_getElem? (i := 7) rfl) (List.mem_of_getElem? (i := 8) rfl) (List.mem_of_getElem? (i := 9) rfl) (List.mem_of_getElem? (i := 10) rfl) ⟨Nat.le_of_ble_eq_true rfl, Nat.le_of_ble_eq_true rfl⟩ ⟨Nat.zero_le _, Nat.zero_le _⟩ (by omega) (by omega) dX3_dryJob_109 112 rfl ?_
    refine z_put C zc3 iX3_dryJob_X3 0 0 rfl rfl 11 (Nat.le_of_ble_eq_true rfl) (List.mem_of_getElem? (i := 14) rfl) rfl rfl rfl (Nat.le_of_ble_eq_true rfl) (wP K.g q a0 a1 a2 a3 a4 a5 (un a6 j (v + (st 4))) (un a7 j ((v + (st 4)) - (r 3 j))) s0 s1 (s2 + ((v + (st 4)) - (r 3 j))) (max s3 ((v + (st 4)) - (r 3 j))) s4 s5 s6 s7 (s8 + u) s9) rfl [wP K.g q a0 a1 a2 a3 a4 a5 (un a6 j (v + (st 4))) (un a7 j ((v + (st 4)) - (r 3 j))) s0 s1 (s2 + ((v + (st 4)) - (r 3 j))) (max s3 ((v + (st 4)) - (r 3 j))) s4 s5 s6 s7 (s8 + u) s9, wB K.g b st r n] rfl dX3_dryJob_112 115 rfl ?_
    refine z_aload_n C 0 rfl rfl dX3_dryJob_115 116 rfl ?_
    refine z_get C zc3 iX3_dryJob_X3 0 0 rfl rfl 7 (Nat.le_of_ble_eq_true rfl) (List.mem_of_getElem? (i := 11) rfl) (v := .ref (q 8)) rfl dX3_dryJob_116 119 rfl ?_
    refine z_iload_n C 2 rfl rfl dX3_dryJob_119 120 rfl ?_
    refine z_iald C (f := (un a7 j ((v + (st 4)) - (r 3 j)))) 0 8 rfl rfl (by omega) (by decide) dX3_dryJob_120 121 rfl ?_
    refine z_top (congrArg nI un_s) ?_
    refine z_if_le C (by omega) 134 dX3_dryJob_121 (by decide) 124 rfl (fun c_2 => ?_) (fun c_2 => ?_)
    · skip
      refine z_eq (cs2 := [wP K.g q a0 a1 a2 a3 a4 a5 (un a6 j (v + (st 4))) (un a7 j ((v + (st 4)) - (r 3 j))) s0 s1 (s2 + ((v + (st 4)) - (r 3 j))) (max s3 ((v + (st 4)) - (r 3 j))) s4 s5 s6 (if 0 < st 4 then max s7 (s8 + u) else s7) (s8 + u) s9, wB K.g b st r n]) ?_ (congrArg (fun z9 => [wP K.g q a0 a1 a2 a3 a4 a5 (un a6 j (v + (st 4))) (un a7 j ((v + (st 4)) - (r 3 j))) s0 s1 (s2 + ((v + (st 4)) - (r 3 j))) (max s3 ((v + (st 4)) - (r 3 j))) s4 s5 s6 z9 (s8 + u) s9, wB K.g b st r n]) (show s7 = if 0 < st 4 then max s7 (s8 + u) else s7 from by first | rw [if_pos (by omega)] | rw [if_neg (by omega)])) rfl rfl
      refine z_eq (cs2 := [wP K.g q a0 a1 a2 a3 a4 a5 (un a6 j (v + (st 4))) (un a7 j ((v + (st 4)) - (r 3 j))) s0 (s1 + if 0 < v + st 4 - r 3 j then 1 else 0) (s2 + ((v + (st 4)) - (r 3 j))) (max s3 ((v + (st 4)) - (r 3 j))) s4 s5 s6 (if 0 < st 4 then max s7 (s8 + u) else s7) (s8 + u) s9, wB K.g b st r n]) ?_ (congrArg (fun z9 => [wP K.g q a0 a1 a2 a3 a4 a5 (un a6 j (v + (st 4))) (un a7 j ((v + (st 4)) - (r 3 j))) s0 z9 (s2 + ((v + (st 4)) - (r 3 j))) (max s3 ((v + (st 4)) - (r 3 j))) s4 s5 s6 (if 0 < st 4 then max s7 (s8 + u) else s7) (s8 + u) s9, wB K.g b st r n]) (show s1 = s1 + if 0 < v + st 4 - r 3 j then 1 else 0 from by split <;> omega)) rfl rfl
      exact z_vret C hRx dX3_dryJob_134 () rfl trivial rfl
    · skip
      refine z_aload_n C 0 rfl rfl dX3_dryJob_124 125 rfl ?_
      refine z_dup C rfl dX3_dryJob_125 126 rfl ?_
      refine z_get C zc3 iX3_dryJob_X3 0 0 rfl rfl 9 (Nat.le_of_ble_eq_true rfl) (List.mem_of_getElem? (i := 15) rfl) (v := .int (nI s1)) rfl dX3_dryJob_126 129 rfl ?_
      refine z_iconst C (v := nI 1) rfl dX3_dryJob_129 130 rfl ?_
      refine z_iadd C dX3_dryJob_130 131 rfl ?_
      refine z_put C zc3 iX3_dryJob_X3 0 0 rfl rfl 9 (Nat.le_of_ble_eq_true rfl) (List.mem_of_getElem? (i := 15) rfl) rfl rfl rfl (Nat.le_of_ble_eq_true rfl) (wP K.g q a0 a1 a2 a3 a4 a5 (un a6 j (v + (st 4))) (un a7 j ((v + (st 4)) - (r 3 j))) s0 (s1 + 1) (s2 + ((v + (st 4)) - (r 3 j))) (max s3 ((v + (st 4)) - (r 3 j))) s4 s5 s6 s7 (s8 + u) s9) rfl [wP K.g q a0 a1 a2 a3 a4 a5 (un a6 j (v + (st 4))) (un a7 j ((v + (st 4)) - (r 3 j))) s0 (s1 + 1) (s2 + ((v + (st 4)) - (r 3 j))) (max s3 ((v + (st 4)) - (r 3 j))) s4 s5 s6 s7 (s8 + u) s9, wB K.g b st r n] rfl dX3_dryJob_131 134 rfl ?_
      refine z_eq (cs2 := [wP K.g q a0 a1 a2 a3 a4 a5 (un a6 j (v + (st 4))) (un a7 j ((v + (st 4)) - (r 3 j))) s0 (s1 + 1) (s2 + ((v + (st 4)) - (r 3 j))) (max s3 ((v + (st 4)) - (r 3 j))) s4 s5 s6 (if 0 < st 4 then max s7 (s8 + u) else s7) (s8 + u) s9, wB K.g b st r n]) ?_ (congrArg (fun z9 => [wP K.g q a0 a1 a2 a3 a4 a5 (un a6 j (v + (st 4))) (un a7 j ((v + (st 4)) - (r 3 j))) s0 (s1 + 1) (s2 + ((v + (st 4)) - (r 3 j))) (max s3 ((v + (st 4)) - (r 3 j))) s4 s5 s6 z9 (s8 + u) s9, wB K.g b st r n]) (show s7 = if 0 < st 4 then max s7 (s8 + u) else s7 from by first | rw [if_pos (by omega)] | rw [if_neg (by omega)])) rfl rfl
      refine z_eq (cs2 := [wP K.g q a0 a1 a2 a3 a4 a5 (un a6 j (v + (st 4))) (un a7 j ((v + (st 4)) - (r 3 j))) s0 (s1 + if 0 < v + st 4 - r 3 j then 1 else 0) (s2 + ((v + (st 4)) - (r 3 j))) (max s3 ((v + (st 4)) - (r 3 j))) s4 s5 s6 (if 0 < st 4 then max s7 (s8 + u) else s7) (s8 + u) s9, wB K.g b st r n]) ?_ (congrArg (fun z9 => [wP K.g q a0 a1 a2 a3 a4 a5 (un a6 j (v + (st 4))) (un a7 j ((v + (st 4)) - (r 3 j))) s0 z9 (s2 + ((v + (st 4)) - (r 3 j))) (max s3 ((v + (st 4)) - (r 3 j))) s4 s5 s6 (if 0 < st 4 then max s7 (s8 + u) else s7) (s8 + u) s9, wB K.g b st r n]) (show s1 + 1 = s1 + if 0 < v + st 4 - r 3 j then 1 else 0 from by split <;> omega)) rfl rfl
      exact z_vret C hRx dX3_dryJob_134 () rfl trivial rfl
  · skip
    refine z_aload_n C 0 rfl rfl dX3_dryJob_43 44 rfl ?_
    refine z_aload_n C 0 rfl rfl dX3_dryJob_44 45 rfl ?_
    refine z_get C zc3 iX3_dryJob_X3 0 0 rfl rfl 15 (Nat.le_of_ble_eq_true rfl) (List.mem_of_getElem? (i := 6) rfl) (v := .int (nI s7)) rfl dX3_dryJob_45 48 rfl ?_
    refine z_aload_n C 0 rfl rfl dX3_dryJob_48 49 rfl ?_
    refine z_get C zc3 iX3_dryJob_X3 0 0 rfl rfl 16 (Nat.le_of_ble_eq_true rfl) (List.mem_of_getElem? (i := 4) rfl) (v := .int (nI (s8 + u))) rfl dX3_dryJob_49 52 rfl ?_
    refine z_max C (List.mem_of_getElem? (i := 7) rfl) (List.mem_of_getElem? (i := 8) rfl) (List.mem_of_getElem? (i := 9) rfl) (List.mem_of_getElem? (i := 10) rfl) ⟨Nat.le_of_ble_eq_true rfl, Nat.le_of_ble_eq_true rfl⟩ ⟨Nat.zero_le _, Nat.zero_le _⟩ (by omega) (by omega) dX3_dryJob_52 55 rfl ?_
    refine z_put C zc3 iX3_dryJob_X3 0 0 rfl rfl 15 (Nat.le_of_ble_eq_true rfl) (List.mem_of_getElem? (i := 6) rfl) rfl rfl rfl (Nat.le_of_ble_eq_true rfl) (wP K.g q a0 a1 a2 a3 a4 a5 (un a6 j (v + (st 4))) a7 s0 s1 s2 s3 s4 s5 s6 (max s7 (s8 + u)) (s8 + u) s9) rfl [wP K.g q a0 a1 a2 a3 a4 a5 (un a6 j (v + (st 4))) a7 s0 s1 s2 s3 s4 s5 s6 (max s7 (s8 + u)) (s8 + u) s9, wB K.g b st r n] rfl dX3_dryJob_55 58 rfl ?_
    refine z_aload_n C 0 rfl rfl dX3_dryJob_58 59 rfl ?_
    refine z_get C zc3 iX3_dryJob_X3 0 0 rfl rfl 7 (Nat.le_of_ble_eq_true rfl) (List.mem_of_getElem? (i := 11) rfl) (v := .ref (q 8)) rfl dX3_dryJob_59 62 rfl ?_
    refine z_iload_n C 2 rfl rfl dX3_dryJob_62 63 rfl ?_
    refine z_iconst C (v := nI 0) rfl dX3_dryJob_63 64 rfl ?_
    refine z_aload_n C 0 rfl rfl dX3_dryJob_64 65 rfl ?_
    refine z_get C zc3 iX3_dryJob_X3 0 0 rfl rfl 6 (Nat.le_of_ble_eq_true rfl) (List.mem_of_getElem? (i := 1) rfl) (v := .ref (q 7)) rfl dX3_dryJob_65 68 rfl ?_
    refine z_iload_n C 2 rfl rfl dX3_dryJob_68 69 rfl ?_
    refine z_iald C (f := (un a6 j (v + (st 4)))) 0 7 rfl rfl (by omega) (by decide) dX3_dryJob_69 70 rfl ?_
    refine z_top (congrArg nI un_s) ?_
    refine z_aload_n C 1 rfl rfl dX3_dryJob_70 71 rfl ?_
    refine z_get C zc0 iX3_dryJob_X0 1 0 rfl rfl 1 (Nat.le_of_ble_eq_true rfl) (List.mem_of_getElem? (i := 12) rfl) (v := .ref (b 2)) rfl dX3_dryJob_71 74 rfl ?_
    refine z_iconst C (v := nI 3) rfl dX3_dryJob_74 75 rfl ?_
    refine z_aald C (y := (b 6)) 1 2 1 rfl rfl rfl rfl (by omega) (by decide) rfl dX3_dryJob_75 76 rfl ?_
    refine z_iload_n C 2 rfl rfl dX3_dryJob_76 77 rfl ?_
    refine z_iald C (f := (r 3)) 1 6 rfl rfl (by omega) (by decide) dX3_dryJob_77 78 rfl ?_
    refine z_isubI C dX3_dryJob_78 79 rfl ?_
    refine z_max0 C (List.mem_of_getElem? (i := 7) rfl) (List.mem_of_getElem? (i := 8) rfl) (List.mem_of_getElem? (i := 9) rfl) (List.mem_of_getElem? (i := 10) rfl) ⟨Nat.le_of_ble_eq_true rfl, Nat.le_of_ble_eq_true rfl⟩ ⟨Nat.zero_le _, Nat.zero_le _⟩ (by omega) (by omega) dX3_dryJob_79 82 rfl ?_
    refine z_iast C (f := a7) 0 8 rfl rfl (by omega) (by decide) (wP K.g q a0 a1 a2 a3 a4 a5 (un a6 j (v + (st 4))) (un a7 j ((v + (st 4)) - (r 3 j))) s0 s1 s2 s3 s4 s5 s6 (max s7 (s8 + u)) (s8 + u) s9) rfl [wP K.g q a0 a1 a2 a3 a4 a5 (un a6 j (v + (st 4))) (un a7 j ((v + (st 4)) - (r 3 j))) s0 s1 s2 s3 s4 s5 s6 (max s7 (s8 + u)) (s8 + u) s9, wB K.g b st r n] rfl dX3_dryJob_82 83 rfl ?_
    refine z_aload_n C 0 rfl rfl dX3_dryJob_83 84 rfl ?_
    refine z_dup C rfl dX3_dryJob_84 85 rfl ?_
    refine z_get C zc3 iX3_dryJob_X3 0 0 rfl rfl 10 (Nat.le_of_ble_eq_true rfl) (List.mem_of_getElem? (i := 13) rfl) (v := .int (nI s2)) rfl dX3_dryJob_85 88 rfl ?_
    refine z_aload_n C 0 rfl rfl dX3_dryJob_88 89 rfl ?_
    refine z_get C zc3 iX3_dryJob_X3 0 0 rfl rfl 7 (Nat.le_of_ble_eq_true rfl) (List.mem_of_getElem? (i := 11) rfl) (v := .ref (q 8)) rfl dX3_dryJob_89 92 rfl ?_
    refine z_iload_n C 2 rfl rfl dX3_dryJob_92 93 rfl ?_
    refine z_iald C (f := (un a7 j ((v + (st 4)) - (r 3 j)))) 0 8 rfl rfl (by omega) (by decide) dX3_dryJob_93 94 rfl ?_
    refine z_top (congrArg nI un_s) ?_
    refine z_iadd C dX3_dryJob_94 95 rfl ?_
    refine z_put C zc3 iX3_dryJob_X3 0 0 rfl rfl 10 (Nat.le_of_ble_eq_true rfl) (List.mem_of_getElem? (i := 13) rfl) rfl rfl rfl (Nat.le_of_ble_eq_true rfl) (wP K.g q a0 a1 a2 a3 a4 a5 (un a6 j (v + (st 4))) (un a7 j ((v + (st 4)) - (r 3 j))) s0 s1 (s2 + ((v + (st 4)) - (r 3 j))) s3 s4 s5 s6 (max s7 (s8 + u)) (s8 + u) s9) rfl [wP K.g q a0 a1 a2 a3 a4 a5 (un a6 j (v + (st 4))) (un a7 j ((v + (st 4)) - (r 3 j))) s0 s1 (s2 + ((v + (st 4)) - (r 3 j))) s3 s4 s5 s6 (max s7 (s8 + u)) (s8 + u) s9, wB K.g b st r n] rfl dX3_dryJob_95 98 rfl ?_
    refine z_aload_n C 0 rfl rfl dX3_dryJob_98 99 rfl ?_
    refine z_aload_n C 0 rfl rfl dX3_dryJob_99 100 rfl ?_
    refine z_get C zc3 iX3_dryJob_X3 0 0 rfl rfl 11 (Nat.le_of_ble_eq_true rfl) (List.mem_of_getElem? (i := 14) rfl) (v := .int (nI s3)) rfl dX3_dryJob_100 103 rfl ?_
    refine z_aload_n C 0 rfl rfl dX3_dryJob_103 104 rfl ?_
    refine z_get C zc3 iX3_dryJob_X3 0 0 rfl rfl 7 (Nat.le_of_ble_eq_true rfl) (List.mem_of_getElem? (i := 11) rfl) (v := .ref (q 8)) rfl dX3_dryJob_104 107 rfl ?_
    refine z_iload_n C 2 rfl rfl dX3_dryJob_107 108 rfl ?_
    refine z_iald C (f := (un a7 j ((v + (st 4)) - (r 3 j)))) 0 8 rfl rfl (by omega) (by decide) dX3_dryJob_108 109 rfl ?_
    refine z_top (congrArg nI un_s) ?_
    refine z_max C (List.mem_of_getElem? (i := 7) rfl) (List.mem_of_getElem? (i := 8) rfl) (List.mem_of_getElem? (i := 9) rfl) (List.mem_of_getElem? (i := 10) rfl) ⟨Nat.le_of_ble_eq_true rfl, Nat.le_of_ble_eq_true rfl⟩ ⟨Nat.zero_le _, Nat.zero_le _⟩ (by omega) (by omega) dX3_dryJob_109 112 rfl ?_
    refine z_put C zc3 iX3_dryJob_X3 0 0 rfl rfl 11 (Nat.le_of_ble_eq_true rfl) (List.mem_of_getElem? (i := 14) rfl) rfl rfl rfl (Nat.le_of_ble_eq_true rfl) (wP K.g q a0 a1 a2 a3 a4 a5 (un a6 j (v + (st 4))) (un a7 j ((v + (st 4)) - (r 3 j))) s0 s1 (s2 + ((v + (st 4)) - (r 3 j))) (max s3 ((v + (st 4)) - (r 3 j))) s4 s5 s6 (max s7 (s8 + u)) (s8 + u) s9) rfl [wP K.g q a0 a1 a2 a3 a4 a5 (un a6 j (v + (st 4))) (un a7 j ((v + (st 4)) - (r 3 j))) s0 s1 (s2 + ((v + (st 4)) - (r 3 j))) (max s3 ((v + (st 4)) - (r 3 j))) s4 s5 s6 (max s7 (s8 + u)) (s8 + u) s9, wB K.g b st r n] rfl dX3_dryJob_112 115 rfl ?_
    refine z_aload_n C 0 rfl rfl dX3_dryJob_115 116 rfl ?_
    refine z_get C zc3 iX3_dryJob_X3 0 0 rfl rfl 7 (Nat.le_of_ble_eq_true rfl) (List.mem_of_getElem? (i := 11) rfl) (v := .ref (q 8)) rfl dX3_dryJob_116 119 rfl ?_
    refine z_iload_n C 2 rfl rfl dX3_dryJob_119 120 rfl ?_
    refine z_iald C (f := (un a7 j ((v + (st 4)) - (r 3 j)))) 0 8 rfl rfl (by omega) (by decide) dX3_dryJob_120 121 rfl ?_
    refine z_top (congrArg nI un_s) ?_
    refine z_if_le C (by omega) 134 dX3_dryJob_121 (by decide) 124 rfl (fun c_3 => ?_) (fun c_3 => ?_)
    · skip
      refine z_eq (cs2 := [wP K.g q a0 a1 a2 a3 a4 a5 (un a6 j (v + (st 4))) (un a7 j ((v + (st 4)) - (r 3 j))) s0 s1 (s2 + ((v + (st 4)) - (r 3 j))) (max s3 ((v + (st 4)) - (r 3 j))) s4 s5 s6 (if 0 < st 4 then max s7 (s8 + u) else s7) (s8 + u) s9, wB K.g b st r n]) ?_ (congrArg (fun z9 => [wP K.g q a0 a1 a2 a3 a4 a5 (un a6 j (v + (st 4))) (un a7 j ((v + (st 4)) - (r 3 j))) s0 s1 (s2 + ((v + (st 4)) - (r 3 j))) (max s3 ((v + (st 4)) - (r 3 j))) s4 s5 s6 z9 (s8 + u) s9, wB K.g b st r n]) (show max s7 (s8 + u) = if 0 < st 4 then max s7 (s8 + u) else s7 from by first | rw [if_pos (by omega)] | rw [if_neg (by omega)])) rfl rfl
      refine z_eq (cs2 := [wP K.g q a0 a1 a2 a3 a4 a5 (un a6 j (v + (st 4))) (un a7 j ((v + (st 4)) - (r 3 j))) s0 (s1 + if 0 < v + st 4 - r 3 j then 1 else 0) (s2 + ((v + (st 4)) - (r 3 j))) (max s3 ((v + (st 4)) - (r 3 j))) s4 s5 s6 (if 0 < st 4 then max s7 (s8 + u) else s7) (s8 + u) s9, wB K.g b st r n]) ?_ (congrArg (fun z9 => [wP K.g q a0 a1 a2 a3 a4 a5 (un a6 j (v + (st 4))) (un a7 j ((v + (st 4)) - (r 3 j))) s0 z9 (s2 + ((v + (st 4)) - (r 3 j))) (max s3 ((v + (st 4)) - (r 3 j))) s4 s5 s6 (if 0 < st 4 then max s7 (s8 + u) else s7) (s8 + u) s9, wB K.g b st r n]) (show s1 = s1 + if 0 < v + st 4 - r 3 j then 1 else 0 from by split <;> omega)) rfl rfl
      exact z_vret C hRx dX3_dryJob_134 () rfl trivial rfl
    · skip
      refine z_aload_n C 0 rfl rfl dX3_dryJob_124 125 rfl ?_
      refine z_dup C rfl dX3_dryJob_125 126 rfl ?_
      refine z_get C zc3 iX3_dryJob_X3 0 0 rfl rfl 9 (Nat.le_of_ble_eq_true rfl) (List.mem_of_getElem? (i := 15) rfl) (v := .int (nI s1)) rfl dX3_dryJob_126 129 rfl ?_
      refine z_iconst C (v := nI 1) rfl dX3_dryJob_129 130 rfl ?_
      refine z_iadd C dX3_dryJob_130 131 rfl ?_
      refine z_put C zc3 iX3_dryJob_X3 0 0 rfl rfl 9 (Nat.le_of_ble_eq_true rfl) (List.mem_of_getElem? (i := 15) rfl) rfl rfl rfl (Nat.le_of_ble_eq_true rfl) (wP K.g q a0 a1 a2 a3 a4 a5 (un a6 j (v + (st 4))) (un a7 j ((v + (st 4)) - (r 3 j))) s0 (s1 + 1) (s2 + ((v + (st 4)) - (r 3 j))) (max s3 ((v + (st 4)) - (r 3 j))) s4 s5 s6 (max s7 (s8 + u)) (s8 + u) s9) rfl [wP K.g q a0 a1 a2 a3 a4 a5 (un a6 j (v + (st 4))) (un a7 j ((v + (st 4)) - (r 3 j))) s0 (s1 + 1) (s2 + ((v + (st 4)) - (r 3 j))) (max s3 ((v + (st 4)) - (r 3 j))) s4 s5 s6 (max s7 (s8 + u)) (s8 + u) s9, wB K.g b st r n] rfl dX3_dryJob_131 134 rfl ?_
      refine z_eq (cs2 := [wP K.g q a0 a1 a2 a3 a4 a5 (un a6 j (v + (st 4))) (un a7 j ((v + (st 4)) - (r 3 j))) s0 (s1 + 1) (s2 + ((v + (st 4)) - (r 3 j))) (max s3 ((v + (st 4)) - (r 3 j))) s4 s5 s6 (if 0 < st 4 then max s7 (s8 + u) else s7) (s8 + u) s9, wB K.g b st r n]) ?_ (congrArg (fun z9 => [wP K.g q a0 a1 a2 a3 a4 a5 (un a6 j (v + (st 4))) (un a7 j ((v + (st 4)) - (r 3 j))) s0 (s1 + 1) (s2 + ((v + (st 4)) - (r 3 j))) (max s3 ((v + (st 4)) - (r 3 j))) s4 s5 s6 z9 (s8 + u) s9, wB K.g b st r n]) (show max s7 (s8 + u) = if 0 < st 4 then max s7 (s8 + u) else s7 from by first | rw [if_pos (by omega)] | rw [if_neg (by omega)])) rfl rfl
      refine z_eq (cs2 := [wP K.g q a0 a1 a2 a3 a4 a5 (un a6 j (v + (st 4))) (un a7 j ((v + (st 4)) - (r 3 j))) s0 (s1 + if 0 < v + st 4 - r 3 j then 1 else 0) (s2 + ((v + (st 4)) - (r 3 j))) (max s3 ((v + (st 4)) - (r 3 j))) s4 s5 s6 (if 0 < st 4 then max s7 (s8 + u) else s7) (s8 + u) s9, wB K.g b st r n]) ?_ (congrArg (fun z9 => [wP K.g q a0 a1 a2 a3 a4 a5 (un a6 j (v + (st 4))) (un a7 j ((v + (st 4)) - (r 3 j))) s0 z9 (s2 + ((v + (st 4)) - (r 3 j))) (max s3 ((v + (st 4)) - (r 3 j))) s4 s5 s6 (if 0 < st 4 then max s7 (s8 + u) else s7) (s8 + u) s9, wB K.g b st r n]) (show s1 + 1 = s1 + if 0 < v + st 4 - r 3 j then 1 else 0 from by split <;> omega)) rfl rfl
      exact z_vret C hRx dX3_dryJob_134 () rfl trivial rfl

theorem iX3_print_X0 : ∀ w ∈ u_ws RX0 TX0 3, w ∈ wsX3_print := fun w h => (List.mem_cons_of_mem _ (List.mem_append_left _ (List.mem_append_right _ h)))
theorem iX3_print_X3 : ∀ w ∈ u_ws RX3 TX3 18, w ∈ wsX3_print := fun w h => (List.mem_cons_of_mem _ (List.mem_append_right _ h))
set_option maxHeartbeats 4000000 in
set_option maxRecDepth 100000 in
theorem tX3_print (l : Launch) (g : zG) (q a0 a1 a2 a3 a4 a5 a6 a7 : Nat → Nat) (s0 s1 s2 s3 s4 s5 s6 s7 s8 s9 : Nat) (b st : Nat → Nat) (r : Nat → Nat → Nat) (n : Nat) (R : Nat) (hS : okS st) (hJ : okJ r n) (hn : n ≤ 12) (hR : okR st r n R) (hR2 : R ≤ 20) : Met l yX3_print wsX3_print ({ frames := 3, cells := 0, slots := 0, locals := 71 } : Room) (zPre g [.ref (q 0), .ref (b 0), .int (nI R)] [wP g q a0 a1 a2 a3 a4 a5 a6 a7 s0 s1 s2 s3 s4 s5 s6 s7 s8 s9, wB g b st r n]) (zQ g (fun u : (Nat → Nat) × (Nat → Nat) × (Nat → Nat) × (Nat → Nat) × (Nat → Nat) × (Nat → Nat) × (Nat → Nat) × (Nat → Nat) × (Nat) × (Nat) × (Nat) × (Nat) × (Nat) × (Nat) × (Nat) × (Nat) × (Nat) => match u with | (c0, c1, c2, c3, c4, c5, c6, c7, d1, d2, d3, d4, d5, d6, d7, d8, d9) => none ) (fun u : (Nat → Nat) × (Nat → Nat) × (Nat → Nat) × (Nat → Nat) × (Nat → Nat) × (Nat → Nat) × (Nat → Nat) × (Nat → Nat) × (Nat) × (Nat) × (Nat) × (Nat) × (Nat) × (Nat) × (Nat) × (Nat) × (Nat) => match u with | (c0, c1, c2, c3, c4, c5, c6, c7, d1, d2, d3, d4, d5, d6, d7, d8, d9) => (PI st r R n c0 c1 c2 c3 c4 c5 c6 c7 d1 d2 d3 d4 d5 d6 d7 d8 d9)) (fun u : (Nat → Nat) × (Nat → Nat) × (Nat → Nat) × (Nat → Nat) × (Nat → Nat) × (Nat → Nat) × (Nat → Nat) × (Nat → Nat) × (Nat) × (Nat) × (Nat) × (Nat) × (Nat) × (Nat) × (Nat) × (Nat) × (Nat) => match u with | (c0, c1, c2, c3, c4, c5, c6, c7, d1, d2, d3, d4, d5, d6, d7, d8, d9) => [wP g q c0 c1 c2 c3 c4 c5 c6 c7 n d1 d2 d3 d4 d5 d6 d7 d8 d9, wB g b st r n]) (zA [wP g q a0 a1 a2 a3 a4 a5 a6 a7 s0 s1 s2 s3 s4 s5 s6 s7 s8 s9, wB g b st r n])) 0 0 (zA [wP g q a0 a1 a2 a3 a4 a5 a6 a7 s0 s1 s2 s3 s4 s5 s6 s7 s8 s9, wB g b st r n]) := by
  refine z_entry (cc := cX3_print) (maxL := 4) (ret := none) (own := RX3) (by decide) rfl rfl (Nat.le_of_ble_eq_true rfl) [(0, .ref (q 0)), (1, .ref (b 0)), (2, .int (nI R))] rfl ?_
  intro K hKl hKg hnL C hRx
  subst hKl
  subst hKg
  refine z_aload_n C 0 rfl rfl dX3_print_0 1 rfl ?_
  refine z_callV C [] [] (tX3_clear K.l K.g q a0 a1 a2 a3 a4 a5 a6 a7 s0 s1 s2 s3 s4 s5 s6 s7 s8 s9 ) gX3_print_X3_clear rfl rfl rfl hdX3_clear ⟨Nat.le_of_ble_eq_true rfl, Nat.le_of_ble_eq_true rfl⟩ ⟨Nat.zero_le _, Nat.zero_le _⟩ 0 0 rfl rfl rfl [0] rfl rfl (zlc (N := 2) rfl rfl) [2, 1] rfl (by decide) (fun _ : Unit => [wP K.g q a0 a1 a2 a3 a4 a5 a6 a7 s0 0 0 0 0 0 0 0 0 0, wB K.g b st r n]) (fun _ => rfl) rfl rfl (Nat.le_of_ble_eq_true rfl) dX3_print_1 4 rfl (fun u9 hu9 => ?_)
  show Z K 0 0 [wP K.g q a0 a1 a2 a3 a4 a5 a6 a7 s0 0 0 0 0 0 0 0 0 0, wB K.g b st r n] [(0, .ref (q 0)), (1, .ref (b 0)), (2, .int (nI R))] 4 []
  refine z_aload_n C 0 rfl rfl dX3_print_4 5 rfl ?_
  refine z_aload_n C 1 rfl rfl dX3_print_5 6 rfl ?_
  refine z_get C zc0 iX3_print_X0 1 0 rfl rfl 2 (Nat.le_of_ble_eq_true rfl) (List.mem_of_getElem? (i := 1) rfl) (v := .int (nI n)) rfl dX3_print_6 9 rfl ?_
  refine z_put C zc3 iX3_print_X3 0 0 rfl rfl 8 (Nat.le_of_ble_eq_true rfl) (List.mem_of_getElem? (i := 2) rfl) rfl rfl rfl (Nat.le_of_ble_eq_true rfl) (wP K.g q a0 a1 a2 a3 a4 a5 a6 a7 n 0 0 0 0 0 0 0 0 0) rfl [wP K.g q a0 a1 a2 a3 a4 a5 a6 a7 n 0 0 0 0 0 0 0 0 0, wB K.g b st r n] rfl dX3_print_9 12 rfl ?_
  refine z_iconst C (v := nI 0) rfl dX3_print_12 13 rfl ?_
  refine z_istore_n C hnL [1, 2, 3, 0] [(0, .ref (q 0)), (1, .ref (b 0)), (2, .int (nI R)), (3, .int (nI 0))] rfl rfl (Nat.le_of_ble_eq_true rfl) dX3_print_13 14 rfl ?_
  have loop14 : ∀ (mu : Nat) (j : Nat) (c0 : Nat → Nat) (c1 : Nat → Nat) (c2 : Nat → Nat) (c3 : Nat → Nat) (c4 : Nat → Nat) (c5 : Nat → Nat) (c6 : Nat → Nat) (c7 : Nat → Nat) (d1 : Nat) (d2 : Nat) (d3 : Nat) (d4 : Nat) (d5 : Nat) (d6 : Nat) (d7 : Nat) (d8 : Nat) (d9 : Nat), mu = n - j → j ≤ n → PI st r R j c0 c1 c2 c3 c4 c5 c6 c7 d1 d2 d3 d4 d5 d6 d7 d8 d9 → Z K 0 0 [wP K.g q c0 c1 c2 c3 c4 c5 c6 c7 n d1 d2 d3 d4 d5 d6 d7 d8 d9, wB K.g b st r n] [(0, .ref (q 0)), (1, .ref (b 0)), (2, .int (nI R)), (3, .int (nI j))] 14 [] := by
    refine z_ind (fun mu ih14 => ?_)
    intro j c0 c1 c2 c3 c4 c5 c6 c7 d1 d2 d3 d4 d5 d6 d7 d8 d9 hmu14 hj hp
    have hpd := PI_bd hS hJ (by omega) hj hp
    refine z_iload_n C 3 rfl rfl dX3_print_14 15 rfl ?_
    refine z_aload_n C 0 rfl rfl dX3_print_15 16 rfl ?_
    refine z_get C zc3 iX3_print_X3 0 0 rfl rfl 8 (Nat.le_of_ble_eq_true rfl) (List.mem_of_getElem? (i := 2) rfl) (v := .int (nI n)) rfl dX3_print_16 19 rfl ?_
    refine z_icmp_ge C (by omega) (by omega) 47 dX3_print_19 (by decide) 22 rfl (fun c_1 => ?_) (fun c_1 => ?_)
    · skip
      obtain rfl : j = n := by omega
      exact z_vret C hRx dX3_print_47 (c0, c1, c2, c3, c4, c5, c6, c7, d1, d2, d3, d4, d5, d6, d7, d8, d9) rfl hp rfl
    · skip
      have hlt : j < n := by omega
      refine z_aload_n C 0 rfl rfl dX3_print_22 23 rfl ?_
      refine z_aload_n C 1 rfl rfl dX3_print_23 24 rfl ?_
      refine z_iload_n C 3 rfl rfl dX3_print_24 25 rfl ?_
      refine z_callV C [.ref (b 0), .int (nI j)] [] (tX3_makeReady K.l K.g q c0 c1 c2 c3 c4 c5 c6 c7 n d1 d2 d3 d4 d5 d6 d7 d8 d9 b st r n j hS hJ hlt (by first | omega | assumption)) gX3_print_X3_makeReady rfl rfl rfl hdX3_makeReady ⟨Nat.le_of_ble_eq_true rfl, Nat.le_of_ble_eq_true rfl⟩ ⟨Nat.zero_le _, Nat.zero_le _⟩ 0 0 rfl rfl rfl [0, 1] rfl rfl (zlc (N := 2) rfl rfl) [2, 3] rfl (by decide) (fun _ : Unit => [wP K.g q c0 (un c1 j (wsh st r j)) (un c2 j (rdy st r j)) c3 c4 c5 c6 c7 n d1 d2 d3 (d4 + wsh st r j) (d5 + plt r j) d6 d7 d8 d9, wB K.g b st r n]) (fun _ => rfl) rfl rfl (Nat.le_of_ble_eq_true rfl) dX3_print_25 28 rfl (fun u9 hu9 => ?_)
      show Z K 0 0 [wP K.g q c0 (un c1 j (wsh st r j)) (un c2 j (rdy st r j)) c3 c4 c5 c6 c7 n d1 d2 d3 (d4 + wsh st r j) (d5 + plt r j) d6 d7 d8 d9, wB K.g b st r n] [(0, .ref (q 0)), (1, .ref (b 0)), (2, .int (nI R)), (3, .int (nI j))] 28 []
      refine z_aload_n C 0 rfl rfl dX3_print_28 29 rfl ?_
      refine z_aload_n C 1 rfl rfl dX3_print_29 30 rfl ?_
      refine z_iload_n C 3 rfl rfl dX3_print_30 31 rfl ?_
      refine z_iload_n C 2 rfl rfl dX3_print_31 32 rfl ?_
      refine z_callV C [.ref (b 0), .int (nI j), .int (nI R)] [] (tX3_printJob K.l K.g q c0 (un c1 j (wsh st r j)) (un c2 j (rdy st r j)) c3 c4 c5 c6 c7 n d1 d2 d3 (d4 + wsh st r j) (d5 + plt r j) d6 d7 d8 d9 b st r n j R (erl st r c5 j) hS hJ hlt (by first | omega | assumption) (hR j hlt) (by first | omega | assumption) (by rw [un_s]; rfl) hpd.2.1 (by rw [un_s]; exact rdy_le hS hJ hlt) hpd.1 hpd.2.2.1 hpd.2.2.2.1 hpd.2.2.2.2.1) gX3_print_X3_printJob rfl rfl rfl hdX3_printJob ⟨Nat.le_of_ble_eq_true rfl, Nat.le_of_ble_eq_true rfl⟩ ⟨Nat.zero_le _, Nat.zero_le _⟩ 0 0 rfl rfl rfl [0, 1] rfl rfl (zlc (N := 2) rfl rfl) [2, 3] rfl (by decide) (fun u : (Nat) × (Nat) × (Nat) => match u with | (m, t8, t9) => [wP K.g q (un c0 j (ndj st r j)) (un c1 j (wsh st r j)) (un c2 j (rdy st r j)) (un c3 j (m - (erl st r c5 j))) (un c4 j (fre c5 j + (m - (erl st r c5 j)))) (un c5 j m) c6 c7 n d1 d2 d3 (d4 + wsh st r j) (d5 + plt r j) (d6 + (m - (erl st r c5 j))) d7 t8 t9, wB K.g b st r n]) (fun _ => rfl) rfl rfl (Nat.le_of_ble_eq_true rfl) dX3_print_32 35 rfl (fun u9 hu9 => ?_)
      obtain ⟨m, t8, t9⟩ := u9
      obtain ⟨hw, hx⟩ := hu9
      have hw : WR c6 (un c0 j (ndj st r j)) j (erl st r c5 j) (R - ndj st r j) d9 m t8 t9 := hw
      have hx : t9 < j → m < c6 t9 ∧ t8 ≤ R - ndj st r j := hx
      show Z K 0 0 [wP K.g q (un c0 j (ndj st r j)) (un c1 j (wsh st r j)) (un c2 j (rdy st r j)) (un c3 j (m - (erl st r c5 j))) (un c4 j (fre c5 j + (m - (erl st r c5 j)))) (un c5 j m) c6 c7 n d1 d2 d3 (d4 + wsh st r j) (d5 + plt r j) (d6 + (m - (erl st r c5 j))) d7 t8 t9, wB K.g b st r n] [(0, .ref (q 0)), (1, .ref (b 0)), (2, .int (nI R)), (3, .int (nI j))] 35 []
      have hmb := PI_mb hS hJ (by omega) hlt hp hw
      have hnb := ndj_le hS hJ hlt
      have ht8 := PI_t8 hS hJ (by omega) hlt hp hw
      refine z_aload_n C 0 rfl rfl dX3_print_35 36 rfl ?_
      refine z_aload_n C 1 rfl rfl dX3_print_36 37 rfl ?_
      refine z_iload_n C 3 rfl rfl dX3_print_37 38 rfl ?_
      refine z_callV C [.ref (b 0), .int (nI j)] [] (tX3_dryJob K.l K.g q (un c0 j (ndj st r j)) (un c1 j (wsh st r j)) (un c2 j (rdy st r j)) (un c3 j (m - (erl st r c5 j))) (un c4 j (fre c5 j + (m - (erl st r c5 j)))) (un c5 j m) c6 c7 n d1 d2 d3 (d4 + wsh st r j) (d5 + plt r j) (d6 + (m - (erl st r c5 j))) d7 t8 t9 b st r n j m (ndj st r j) hS hJ hlt (by first | omega | assumption) un_s un_s hmb (by omega) ht8 hpd.2.2.2.2.2.1 hpd.2.2.2.2.2.2) gX3_print_X3_dryJob rfl rfl rfl hdX3_dryJob ⟨Nat.le_of_ble_eq_true rfl, Nat.le_of_ble_eq_true rfl⟩ ⟨Nat.zero_le _, Nat.zero_le _⟩ 0 0 rfl rfl rfl [0, 1] rfl rfl (zlc (N := 2) rfl rfl) [2, 3] rfl (by decide) (fun _ : Unit => [wP K.g q (un c0 j (ndj st r j)) (un c1 j (wsh st r j)) (un c2 j (rdy st r j)) (un c3 j (m - (erl st r c5 j))) (un c4 j (fre c5 j + (m - (erl st r c5 j)))) (un c5 j m) (un c6 j (m + st 4)) (un c7 j (m + st 4 - r 3 j)) n (d1 + if 0 < m + st 4 - r 3 j then 1 else 0) (d2 + (m + st 4 - r 3 j)) (max d3 (m + st 4 - r 3 j)) (d4 + wsh st r j) (d5 + plt r j) (d6 + (m - (erl st r c5 j))) (if 0 < st 4 then max d7 (t8 + (ndj st r j)) else d7) (t8 + (ndj st r j)) t9, wB K.g b st r n]) (fun _ => rfl) rfl rfl (Nat.le_of_ble_eq_true rfl) dX3_print_38 41 rfl (fun u9 hu9 => ?_)
      show Z K 0 0 [wP K.g q (un c0 j (ndj st r j)) (un c1 j (wsh st r j)) (un c2 j (rdy st r j)) (un c3 j (m - (erl st r c5 j))) (un c4 j (fre c5 j + (m - (erl st r c5 j)))) (un c5 j m) (un c6 j (m + st 4)) (un c7 j (m + st 4 - r 3 j)) n (d1 + if 0 < m + st 4 - r 3 j then 1 else 0) (d2 + (m + st 4 - r 3 j)) (max d3 (m + st 4 - r 3 j)) (d4 + wsh st r j) (d5 + plt r j) (d6 + (m - (erl st r c5 j))) (if 0 < st 4 then max d7 (t8 + (ndj st r j)) else d7) (t8 + (ndj st r j)) t9, wB K.g b st r n] [(0, .ref (q 0)), (1, .ref (b 0)), (2, .int (nI R)), (3, .int (nI j))] 41 []
      refine z_iinc C hnL 3 rfl (v := (nI (j + 1))) (nI_1 _) [1, 2, 3, 0] [(0, .ref (q 0)), (1, .ref (b 0)), (2, .int (nI R)), (3, .int (nI (j + 1)))] rfl (Nat.le_of_ble_eq_true rfl) dX3_print_41 44 rfl ?_
      refine z_goto C 14 dX3_print_44 (by decide) ?_
      exact ih14 _ (by omega) (j + 1) (un c0 j (ndj st r j)) (un c1 j (wsh st r j)) (un c2 j (rdy st r j)) (un c3 j (m - (erl st r c5 j))) (un c4 j (fre c5 j + (m - (erl st r c5 j)))) (un c5 j m) (un c6 j (m + st 4)) (un c7 j (m + st 4 - r 3 j)) (d1 + if 0 < m + st 4 - r 3 j then 1 else 0) (d2 + (m + st 4 - r 3 j)) (max d3 (m + st 4 - r 3 j)) (d4 + wsh st r j) (d5 + plt r j) (d6 + (m - (erl st r c5 j))) (if 0 < st 4 then max d7 (t8 + (ndj st r j)) else d7) (t8 + (ndj st r j)) t9 rfl (by omega) (PI_step hS hJ hR hlt hp hw hx)
  exact loop14 _ 0 a0 a1 a2 a3 a4 a5 a6 a7 0 0 0 0 0 0 0 0 0 rfl (by omega) (PI_0 st r R a0 a1 a2 a3 a4 a5 a6 a7)

theorem iX3_lastOf_X3 : ∀ w ∈ u_ws RX3 TX3 18, w ∈ wsX3_lastOf := fun w h => (List.mem_cons_of_mem _ (List.mem_append_right _ h))
set_option maxHeartbeats 4000000 in
set_option maxRecDepth 100000 in
theorem tX3_lastOf_5 (l : Launch) (g : zG) (q a0 a1 a2 a3 a4 a5 a6 a7 : Nat → Nat) (s0 s1 s2 s3 s4 s5 s6 s7 s8 s9 : Nat) (h0 : s0 ≤ 12) : Met l yX3_lastOf wsX3_lastOf ({ frames := 0, cells := 0, slots := 0, locals := 0 } : Room) (zPre g [.ref (q 0), .ref (q 6)] [wP g q a0 a1 a2 a3 a4 a5 a6 a7 s0 s1 s2 s3 s4 s5 s6 s7 s8 s9]) (zQ g (fun _ : Unit => some (.int (nI (fre a5 s0))) ) (fun _ : Unit => True) (fun _ : Unit => [wP g q a0 a1 a2 a3 a4 a5 a6 a7 s0 s1 s2 s3 s4 s5 s6 s7 s8 s9]) (zA [wP g q a0 a1 a2 a3 a4 a5 a6 a7 s0 s1 s2 s3 s4 s5 s6 s7 s8 s9])) 0 0 (zA [wP g q a0 a1 a2 a3 a4 a5 a6 a7 s0 s1 s2 s3 s4 s5 s6 s7 s8 s9]) := by
  refine z_entry (cc := cX3_lastOf) (maxL := 2) (ret := (some .int)) (own := RX3) (by decide) rfl rfl (Nat.le_of_ble_eq_true rfl) [(0, .ref (q 0)), (1, .ref (q 6))] rfl ?_
  intro K hKl hKg hnL C hRx
  subst hKl
  subst hKg
  refine z_aload_n C 0 rfl rfl dX3_lastOf_0 1 rfl ?_
  refine z_get C zc3 iX3_lastOf_X3 0 0 rfl rfl 8 (Nat.le_of_ble_eq_true rfl) (List.mem_of_getElem? (i := 1) rfl) (v := .int (nI s0)) rfl dX3_lastOf_1 4 rfl ?_
  refine z_if_ne C (by omega) 11 dX3_lastOf_4 (by decide) 7 rfl (fun c_1 => ?_) (fun c_1 => ?_)
  · skip
    refine z_aload_n C 1 rfl rfl dX3_lastOf_11 12 rfl ?_
    refine z_aload_n C 0 rfl rfl dX3_lastOf_12 13 rfl ?_
    refine z_get C zc3 iX3_lastOf_X3 0 0 rfl rfl 8 (Nat.le_of_ble_eq_true rfl) (List.mem_of_getElem? (i := 1) rfl) (v := .int (nI s0)) rfl dX3_lastOf_13 16 rfl ?_
    refine z_iconst C (v := nI 1) rfl dX3_lastOf_16 17 rfl ?_
    refine z_isub C (by omega) dX3_lastOf_17 18 rfl ?_
    refine z_iald C (f := a5) 0 6 rfl rfl (by omega) (by decide) dX3_lastOf_18 19 rfl ?_
    exact z_iret C hRx dX3_lastOf_19 () (by unfold fre; first | rw [if_pos (by omega)] | rw [if_neg (by omega)]) trivial rfl
  · skip
    refine z_iconst C (v := nI 0) rfl dX3_lastOf_7 8 rfl ?_
    refine z_goto C 19 dX3_lastOf_8 (by decide) ?_
    exact z_iret C hRx dX3_lastOf_19 () (by unfold fre; first | rw [if_pos (by omega)] | rw [if_neg (by omega)]) trivial rfl

theorem iX3_reached_X3 : ∀ w ∈ u_ws RX3 TX3 18, w ∈ wsX3_reached := fun w h => (List.mem_cons_of_mem _ (List.mem_append_right _ h))
set_option maxHeartbeats 4000000 in
set_option maxRecDepth 100000 in
theorem tX3_reached_5 (l : Launch) (g : zG) (q a0 a1 a2 a3 a4 a5 a6 a7 : Nat → Nat) (s0 s1 s2 s3 s4 s5 s6 s7 s8 s9 : Nat) (m : Nat) (h0 : s0 ≤ 12) (hm : m ≤ 100000) (hb : ∀ i, i < s0 → a5 i ≤ 100000) : Met l yX3_reached wsX3_reached ({ frames := 0, cells := 0, slots := 0, locals := 0 } : Room) (zPre g [.ref (q 0), .ref (q 6), .int (nI m)] [wP g q a0 a1 a2 a3 a4 a5 a6 a7 s0 s1 s2 s3 s4 s5 s6 s7 s8 s9]) (zQ g (fun _ : Unit => some (.int (nI (ct (fun i => decide (a5 i ≤ m)) s0))) ) (fun _ : Unit => True) (fun _ : Unit => [wP g q a0 a1 a2 a3 a4 a5 a6 a7 s0 s1 s2 s3 s4 s5 s6 s7 s8 s9]) (zA [wP g q a0 a1 a2 a3 a4 a5 a6 a7 s0 s1 s2 s3 s4 s5 s6 s7 s8 s9])) 0 0 (zA [wP g q a0 a1 a2 a3 a4 a5 a6 a7 s0 s1 s2 s3 s4 s5 s6 s7 s8 s9]) := by
  refine z_entry (cc := cX3_reached) (maxL := 5) (ret := (some .int)) (own := RX3) (by decide) rfl rfl (Nat.le_of_ble_eq_true rfl) [(0, .ref (q 0)), (1, .ref (q 6)), (2, .int (nI m))] rfl ?_
  intro K hKl hKg hnL C hRx
  subst hKl
  subst hKg
  refine z_iconst C (v := nI 0) rfl dX3_reached_0 1 rfl ?_
  refine z_istore_n C hnL [1, 2, 3, 0] [(0, .ref (q 0)), (1, .ref (q 6)), (2, .int (nI m)), (3, .int (nI 0))] rfl rfl (Nat.le_of_ble_eq_true rfl) dX3_reached_1 2 rfl ?_
  refine z_iconst C (v := nI 0) rfl dX3_reached_2 3 rfl ?_
  refine z_istore C hnL [1, 2, 3, 4, 0] [(0, .ref (q 0)), (1, .ref (q 6)), (2, .int (nI m)), (3, .int (nI 0)), (4, .int (nI 0))] rfl (Nat.le_of_ble_eq_true rfl) dX3_reached_3 5 rfl ?_
  have loop5 : ∀ (mu : Nat) (i : Nat) (x : Nat), mu = s0 - i → i ≤ s0 → x = ct (fun i => decide (a5 i ≤ m)) i → Z K 0 0 [wP K.g q a0 a1 a2 a3 a4 a5 a6 a7 s0 s1 s2 s3 s4 s5 s6 s7 s8 s9] [(0, .ref (q 0)), (1, .ref (q 6)), (2, .int (nI m)), (3, .int (nI x)), (4, .int (nI i))] 5 [] := by
    refine z_ind (fun mu ih5 => ?_)
    intro i x hmu5 hi hx
    refine z_iload C 4 rfl dX3_reached_5 7 rfl ?_
    refine z_aload_n C 0 rfl rfl dX3_reached_7 8 rfl ?_
    refine z_get C zc3 iX3_reached_X3 0 0 rfl rfl 8 (Nat.le_of_ble_eq_true rfl) (List.mem_of_getElem? (i := 1) rfl) (v := .int (nI s0)) rfl dX3_reached_8 11 rfl ?_
    refine z_icmp_ge C (by omega) (by omega) 31 dX3_reached_11 (by decide) 14 rfl (fun c_1 => ?_) (fun c_1 => ?_)
    · skip
      refine z_iload_n C 3 rfl rfl dX3_reached_31 32 rfl ?_
      obtain rfl : i = s0 := by omega
      exact z_iret C hRx dX3_reached_32 () (by rw [hx]) trivial rfl
    · skip
      refine z_aload_n C 1 rfl rfl dX3_reached_14 15 rfl ?_
      refine z_iload C 4 rfl dX3_reached_15 17 rfl ?_
      refine z_iald C (f := a5) 0 6 rfl rfl (by omega) (by decide) dX3_reached_17 18 rfl ?_
      have hbi := hb i (by omega)
      refine z_iload_n C 2 rfl rfl dX3_reached_18 19 rfl ?_
      refine z_icmp_gt C (by omega) (by omega) 25 dX3_reached_19 (by decide) 22 rfl (fun c_2 => ?_) (fun c_2 => ?_)
      · skip
        refine z_iinc C hnL 4 rfl (v := (nI (i + 1))) (nI_1 _) [1, 2, 3, 4, 0] [(0, .ref (q 0)), (1, .ref (q 6)), (2, .int (nI m)), (3, .int (nI x)), (4, .int (nI (i + 1)))] rfl (Nat.le_of_ble_eq_true rfl) dX3_reached_25 28 rfl ?_
        refine z_goto C 5 dX3_reached_28 (by decide) ?_
        exact ih5 _ (by omega) (i + 1) x rfl (by omega) (by rw [hx]; exact (ct_f (decide_eq_false (by omega))).symm)
      · skip
        refine z_iinc C hnL 3 rfl (v := (nI (x + 1))) (nI_1 _) [1, 2, 3, 0, 4] [(0, .ref (q 0)), (1, .ref (q 6)), (2, .int (nI m)), (3, .int (nI (x + 1))), (4, .int (nI i))] rfl (Nat.le_of_ble_eq_true rfl) dX3_reached_22 25 rfl ?_
        refine z_iinc C hnL 4 rfl (v := (nI (i + 1))) (nI_1 _) [1, 2, 3, 4, 0] [(0, .ref (q 0)), (1, .ref (q 6)), (2, .int (nI m)), (3, .int (nI (x + 1))), (4, .int (nI (i + 1)))] rfl (Nat.le_of_ble_eq_true rfl) dX3_reached_25 28 rfl ?_
        refine z_goto C 5 dX3_reached_28 (by decide) ?_
        exact ih5 _ (by omega) (i + 1) (x + 1) rfl (by omega) (by rw [hx]; exact (ct_s (decide_eq_true (by omega))).symm)
  exact loop5 _ 0 0 rfl (by omega) rfl

set_option maxHeartbeats 4000000 in
set_option maxRecDepth 100000 in
theorem tX3_lastOf_6 (l : Launch) (g : zG) (q a0 a1 a2 a3 a4 a5 a6 a7 : Nat → Nat) (s0 s1 s2 s3 s4 s5 s6 s7 s8 s9 : Nat) (h0 : s0 ≤ 12) : Met l yX3_lastOf wsX3_lastOf ({ frames := 0, cells := 0, slots := 0, locals := 0 } : Room) (zPre g [.ref (q 0), .ref (q 7)] [wP g q a0 a1 a2 a3 a4 a5 a6 a7 s0 s1 s2 s3 s4 s5 s6 s7 s8 s9]) (zQ g (fun _ : Unit => some (.int (nI (fre a6 s0))) ) (fun _ : Unit => True) (fun _ : Unit => [wP g q a0 a1 a2 a3 a4 a5 a6 a7 s0 s1 s2 s3 s4 s5 s6 s7 s8 s9]) (zA [wP g q a0 a1 a2 a3 a4 a5 a6 a7 s0 s1 s2 s3 s4 s5 s6 s7 s8 s9])) 0 0 (zA [wP g q a0 a1 a2 a3 a4 a5 a6 a7 s0 s1 s2 s3 s4 s5 s6 s7 s8 s9]) := by
  refine z_entry (cc := cX3_lastOf) (maxL := 2) (ret := (some .int)) (own := RX3) (by decide) rfl rfl (Nat.le_of_ble_eq_true rfl) [(0, .ref (q 0)), (1, .ref (q 7))] rfl ?_
  intro K hKl hKg hnL C hRx
  subst hKl
  subst hKg
  refine z_aload_n C 0 rfl rfl dX3_lastOf_0 1 rfl ?_
  refine z_get C zc3 iX3_lastOf_X3 0 0 rfl rfl 8 (Nat.le_of_ble_eq_true rfl) (List.mem_of_getElem? (i := 1) rfl) (v := .int (nI s0)) rfl dX3_lastOf_1 4 rfl ?_
  refine z_if_ne C (by omega) 11 dX3_lastOf_4 (by decide) 7 rfl (fun c_1 => ?_) (fun c_1 => ?_)
  · skip
    refine z_aload_n C 1 rfl rfl dX3_lastOf_11 12 rfl ?_
    refine z_aload_n C 0 rfl rfl dX3_lastOf_12 13 rfl ?_
    refine z_get C zc3 iX3_lastOf_X3 0 0 rfl rfl 8 (Nat.le_of_ble_eq_true rfl) (List.mem_of_getElem? (i := 1) rfl) (v := .int (nI s0)) rfl dX3_lastOf_13 16 rfl ?_
    refine z_iconst C (v := nI 1) rfl dX3_lastOf_16 17 rfl ?_
    refine z_isub C (by omega) dX3_lastOf_17 18 rfl ?_
    refine z_iald C (f := a6) 0 7 rfl rfl (by omega) (by decide) dX3_lastOf_18 19 rfl ?_
    exact z_iret C hRx dX3_lastOf_19 () (by unfold fre; first | rw [if_pos (by omega)] | rw [if_neg (by omega)]) trivial rfl
  · skip
    refine z_iconst C (v := nI 0) rfl dX3_lastOf_7 8 rfl ?_
    refine z_goto C 19 dX3_lastOf_8 (by decide) ?_
    exact z_iret C hRx dX3_lastOf_19 () (by unfold fre; first | rw [if_pos (by omega)] | rw [if_neg (by omega)]) trivial rfl

set_option maxHeartbeats 4000000 in
set_option maxRecDepth 100000 in
theorem tX3_reached_6 (l : Launch) (g : zG) (q a0 a1 a2 a3 a4 a5 a6 a7 : Nat → Nat) (s0 s1 s2 s3 s4 s5 s6 s7 s8 s9 : Nat) (m : Nat) (h0 : s0 ≤ 12) (hm : m ≤ 100000) (hb : ∀ i, i < s0 → a6 i ≤ 100000) : Met l yX3_reached wsX3_reached ({ frames := 0, cells := 0, slots := 0, locals := 0 } : Room) (zPre g [.ref (q 0), .ref (q 7), .int (nI m)] [wP g q a0 a1 a2 a3 a4 a5 a6 a7 s0 s1 s2 s3 s4 s5 s6 s7 s8 s9]) (zQ g (fun _ : Unit => some (.int (nI (ct (fun i => decide (a6 i ≤ m)) s0))) ) (fun _ : Unit => True) (fun _ : Unit => [wP g q a0 a1 a2 a3 a4 a5 a6 a7 s0 s1 s2 s3 s4 s5 s6 s7 s8 s9]) (zA [wP g q a0 a1 a2 a3 a4 a5 a6 a7 s0 s1 s2 s3 s4 s5 s6 s7 s8 s9])) 0 0 (zA [wP g q a0 a1 a2 a3 a4 a5 a6 a7 s0 s1 s2 s3 s4 s5 s6 s7 s8 s9]) := by
  refine z_entry (cc := cX3_reached) (maxL := 5) (ret := (some .int)) (own := RX3) (by decide) rfl rfl (Nat.le_of_ble_eq_true rfl) [(0, .ref (q 0)), (1, .ref (q 7)), (2, .int (nI m))] rfl ?_
  intro K hKl hKg hnL C hRx
  subst hKl
  subst hKg
  refine z_iconst C (v := nI 0) rfl dX3_reached_0 1 rfl ?_
  refine z_istore_n C hnL [1, 2, 3, 0] [(0, .ref (q 0)), (1, .ref (q 7)), (2, .int (nI m)), (3, .int (nI 0))] rfl rfl (Nat.le_of_ble_eq_true rfl) dX3_reached_1 2 rfl ?_
  refine z_iconst C (v := nI 0) rfl dX3_reached_2 3 rfl ?_
  refine z_istore C hnL [1, 2, 3, 4, 0] [(0, .ref (q 0)), (1, .ref (q 7)), (2, .int (nI m)), (3, .int (nI 0)), (4, .int (nI 0))] rfl (Nat.le_of_ble_eq_true rfl) dX3_reached_3 5 rfl ?_
  have loop5 : ∀ (mu : Nat) (i : Nat) (x : Nat), mu = s0 - i → i ≤ s0 → x = ct (fun i => decide (a6 i ≤ m)) i → Z K 0 0 [wP K.g q a0 a1 a2 a3 a4 a5 a6 a7 s0 s1 s2 s3 s4 s5 s6 s7 s8 s9] [(0, .ref (q 0)), (1, .ref (q 7)), (2, .int (nI m)), (3, .int (nI x)), (4, .int (nI i))] 5 [] := by
    refine z_ind (fun mu ih5 => ?_)
    intro i x hmu5 hi hx
    refine z_iload C 4 rfl dX3_reached_5 7 rfl ?_
    refine z_aload_n C 0 rfl rfl dX3_reached_7 8 rfl ?_
    refine z_get C zc3 iX3_reached_X3 0 0 rfl rfl 8 (Nat.le_of_ble_eq_true rfl) (List.mem_of_getElem? (i := 1) rfl) (v := .int (nI s0)) rfl dX3_reached_8 11 rfl ?_
    refine z_icmp_ge C (by omega) (by omega) 31 dX3_reached_11 (by decide) 14 rfl (fun c_1 => ?_) (fun c_1 => ?_)
    · skip
      refine z_iload_n C 3 rfl rfl dX3_reached_31 32 rfl ?_
      obtain rfl : i = s0 := by omega
      exact z_iret C hRx dX3_reached_32 () (by rw [hx]) trivial rfl
    · skip
      refine z_aload_n C 1 rfl rfl dX3_reached_14 15 rfl ?_
      refine z_iload C 4 rfl dX3_reached_15 17 rfl ?_
      refine z_iald C (f := a6) 0 7 rfl rfl (by omega) (by decide) dX3_reached_17 18 rfl ?_
      have hbi := hb i (by omega)
      refine z_iload_n C 2 rfl rfl dX3_reached_18 19 rfl ?_
      refine z_icmp_gt C (by omega) (by omega) 25 dX3_reached_19 (by decide) 22 rfl (fun c_2 => ?_) (fun c_2 => ?_)
      · skip
        refine z_iinc C hnL 4 rfl (v := (nI (i + 1))) (nI_1 _) [1, 2, 3, 4, 0] [(0, .ref (q 0)), (1, .ref (q 7)), (2, .int (nI m)), (3, .int (nI x)), (4, .int (nI (i + 1)))] rfl (Nat.le_of_ble_eq_true rfl) dX3_reached_25 28 rfl ?_
        refine z_goto C 5 dX3_reached_28 (by decide) ?_
        exact ih5 _ (by omega) (i + 1) x rfl (by omega) (by rw [hx]; exact (ct_f (decide_eq_false (by omega))).symm)
      · skip
        refine z_iinc C hnL 3 rfl (v := (nI (x + 1))) (nI_1 _) [1, 2, 3, 0, 4] [(0, .ref (q 0)), (1, .ref (q 7)), (2, .int (nI m)), (3, .int (nI (x + 1))), (4, .int (nI i))] rfl (Nat.le_of_ble_eq_true rfl) dX3_reached_22 25 rfl ?_
        refine z_iinc C hnL 4 rfl (v := (nI (i + 1))) (nI_1 _) [1, 2, 3, 4, 0] [(0, .ref (q 0)), (1, .ref (q 7)), (2, .int (nI m)), (3, .int (nI (x + 1))), (4, .int (nI (i + 1)))] rfl (Nat.le_of_ble_eq_true rfl) dX3_reached_25 28 rfl ?_
        refine z_goto C 5 dX3_reached_28 (by decide) ?_
        exact ih5 _ (by omega) (i + 1) (x + 1) rfl (by omega) (by rw [hx]; exact (ct_s (decide_eq_true (by omega))).symm)
  exact loop5 _ 0 0 rfl (by omega) rfl

theorem iX3_jobOnPress_X3 : ∀ w ∈ u_ws RX3 TX3 18, w ∈ wsX3_jobOnPress := fun w h => (List.mem_cons_of_mem _ (List.mem_append_right _ h))
set_option maxHeartbeats 4000000 in
set_option maxRecDepth 100000 in
theorem tX3_jobOnPress (l : Launch) (g : zG) (q a0 a1 a2 a3 a4 a5 a6 a7 : Nat → Nat) (s0 s1 s2 s3 s4 s5 s6 s7 s8 s9 : Nat) (m : Nat) (h0 : s0 ≤ 12) (hm : m ≤ 100000) (hb : ∀ i, i < s0 → a4 i ≤ 100000 ∧ a5 i ≤ 100000) : Met l yX3_jobOnPress wsX3_jobOnPress ({ frames := 0, cells := 0, slots := 0, locals := 0 } : Room) (zPre g [.ref (q 0), .int (nI m)] [wP g q a0 a1 a2 a3 a4 a5 a6 a7 s0 s1 s2 s3 s4 s5 s6 s7 s8 s9]) (zQ g (fun _ : Unit => some (.int (jop a4 a5 m 0 s0)) ) (fun _ : Unit => True) (fun _ : Unit => [wP g q a0 a1 a2 a3 a4 a5 a6 a7 s0 s1 s2 s3 s4 s5 s6 s7 s8 s9]) (zA [wP g q a0 a1 a2 a3 a4 a5 a6 a7 s0 s1 s2 s3 s4 s5 s6 s7 s8 s9])) 0 0 (zA [wP g q a0 a1 a2 a3 a4 a5 a6 a7 s0 s1 s2 s3 s4 s5 s6 s7 s8 s9]) := by
  refine z_entry (cc := cX3_jobOnPress) (maxL := 3) (ret := (some .int)) (own := RX3) (by decide) rfl rfl (Nat.le_of_ble_eq_true rfl) [(0, .ref (q 0)), (1, .int (nI m))] rfl ?_
  intro K hKl hKg hnL C hRx
  subst hKl
  subst hKg
  refine z_iconst C (v := nI 0) rfl dX3_jobOnPress_0 1 rfl ?_
  refine z_istore_n C hnL [1, 2, 0] [(0, .ref (q 0)), (1, .int (nI m)), (2, .int (nI 0))] rfl rfl (Nat.le_of_ble_eq_true rfl) dX3_jobOnPress_1 2 rfl ?_
  have loop2 : ∀ (mu : Nat) (i : Nat), mu = s0 - i → i ≤ s0 → jop a4 a5 m 0 s0 = jop a4 a5 m i (s0 - i) → Z K 0 0 [wP K.g q a0 a1 a2 a3 a4 a5 a6 a7 s0 s1 s2 s3 s4 s5 s6 s7 s8 s9] [(0, .ref (q 0)), (1, .int (nI m)), (2, .int (nI i))] 2 [] := by
    refine z_ind (fun mu ih2 => ?_)
    intro i hmu2 hi hx
    refine z_iload_n C 2 rfl rfl dX3_jobOnPress_2 3 rfl ?_
    refine z_aload_n C 0 rfl rfl dX3_jobOnPress_3 4 rfl ?_
    refine z_get C zc3 iX3_jobOnPress_X3 0 0 rfl rfl 8 (Nat.le_of_ble_eq_true rfl) (List.mem_of_getElem? (i := 1) rfl) (v := .int (nI s0)) rfl dX3_jobOnPress_4 7 rfl ?_
    refine z_icmp_ge C (by omega) (by omega) 38 dX3_jobOnPress_7 (by decide) 10 rfl (fun c_1 => ?_) (fun c_1 => ?_)
    · skip
      refine z_bipush C (v := (-6)) rfl dX3_jobOnPress_38 40 rfl ?_
      exact z_iret C hRx dX3_jobOnPress_40 () (by rw [hx, show s0 - i = 0 by omega]; rfl) trivial rfl
    · skip
      refine z_aload_n C 0 rfl rfl dX3_jobOnPress_10 11 rfl ?_
      refine z_get C zc3 iX3_jobOnPress_X3 0 0 rfl rfl 4 (Nat.le_of_ble_eq_true rfl) (List.mem_of_getElem? (i := 2) rfl) (v := .ref (q 5)) rfl dX3_jobOnPress_11 14 rfl ?_
      refine z_iload_n C 2 rfl rfl dX3_jobOnPress_14 15 rfl ?_
      refine z_iald C (f := a4) 0 5 rfl rfl (by omega) (by decide) dX3_jobOnPress_15 16 rfl ?_
      have hbi := hb i (by omega)
      refine z_iload_n C 1 rfl rfl dX3_jobOnPress_16 17 rfl ?_
      refine z_icmp_gt C (by omega) (by omega) 32 dX3_jobOnPress_17 (by decide) 20 rfl (fun c_2 => ?_) (fun c_2 => ?_)
      · skip
        refine z_iinc C hnL 2 rfl (v := (nI (i + 1))) (nI_1 _) [1, 2, 0] [(0, .ref (q 0)), (1, .int (nI m)), (2, .int (nI (i + 1)))] rfl (Nat.le_of_ble_eq_true rfl) dX3_jobOnPress_32 35 rfl ?_
        refine z_goto C 2 dX3_jobOnPress_35 (by decide) ?_
        exact ih2 _ (by omega) (i + 1) rfl (by omega) (by rw [hx]; exact jop_n (by omega) (by omega))
      · skip
        refine z_iload_n C 1 rfl rfl dX3_jobOnPress_20 21 rfl ?_
        refine z_aload_n C 0 rfl rfl dX3_jobOnPress_21 22 rfl ?_
        refine z_get C zc3 iX3_jobOnPress_X3 0 0 rfl rfl 5 (Nat.le_of_ble_eq_true rfl) (List.mem_of_getElem? (i := 3) rfl) (v := .ref (q 6)) rfl dX3_jobOnPress_22 25 rfl ?_
        refine z_iload_n C 2 rfl rfl dX3_jobOnPress_25 26 rfl ?_
        refine z_iald C (f := a5) 0 6 rfl rfl (by omega) (by decide) dX3_jobOnPress_26 27 rfl ?_
        refine z_icmp_ge C (by omega) (by omega) 32 dX3_jobOnPress_27 (by decide) 30 rfl (fun c_3 => ?_) (fun c_3 => ?_)
        · skip
          refine z_iinc C hnL 2 rfl (v := (nI (i + 1))) (nI_1 _) [1, 2, 0] [(0, .ref (q 0)), (1, .int (nI m)), (2, .int (nI (i + 1)))] rfl (Nat.le_of_ble_eq_true rfl) dX3_jobOnPress_32 35 rfl ?_
          refine z_goto C 2 dX3_jobOnPress_35 (by decide) ?_
          exact ih2 _ (by omega) (i + 1) rfl (by omega) (by rw [hx]; exact jop_n (by omega) (by omega))
        · skip
          refine z_iload_n C 2 rfl rfl dX3_jobOnPress_30 31 rfl ?_
          exact z_iret C hRx dX3_jobOnPress_31 () (by rw [hx, jop_y (by omega) (by omega) (by omega)]) trivial rfl
  exact loop2 _ 0 rfl (by omega) rfl

theorem iX3_racksTaken_X3 : ∀ w ∈ u_ws RX3 TX3 18, w ∈ wsX3_racksTaken := fun w h => (List.mem_cons_of_mem _ (List.mem_append_right _ h))
set_option maxHeartbeats 4000000 in
set_option maxRecDepth 100000 in
theorem tX3_racksTaken (l : Launch) (g : zG) (q a0 a1 a2 a3 a4 a5 a6 a7 : Nat → Nat) (s0 s1 s2 s3 s4 s5 s6 s7 s8 s9 : Nat) (m : Nat) (h0 : s0 ≤ 12) (hm : m ≤ 100000) (hb : ∀ i, i < s0 → a5 i ≤ 100000 ∧ a6 i ≤ 100000) : Met l yX3_racksTaken wsX3_racksTaken ({ frames := 0, cells := 0, slots := 0, locals := 0 } : Room) (zPre g [.ref (q 0), .int (nI m)] [wP g q a0 a1 a2 a3 a4 a5 a6 a7 s0 s1 s2 s3 s4 s5 s6 s7 s8 s9]) (zQ g (fun _ : Unit => some (.int (nI (sm (fun i => if a5 i ≤ m ∧ m < a6 i then a0 i else 0) s0))) ) (fun _ : Unit => True) (fun _ : Unit => [wP g q a0 a1 a2 a3 a4 a5 a6 a7 s0 s1 s2 s3 s4 s5 s6 s7 s8 s9]) (zA [wP g q a0 a1 a2 a3 a4 a5 a6 a7 s0 s1 s2 s3 s4 s5 s6 s7 s8 s9])) 0 0 (zA [wP g q a0 a1 a2 a3 a4 a5 a6 a7 s0 s1 s2 s3 s4 s5 s6 s7 s8 s9]) := by
  refine z_entry (cc := cX3_racksTaken) (maxL := 4) (ret := (some .int)) (own := RX3) (by decide) rfl rfl (Nat.le_of_ble_eq_true rfl) [(0, .ref (q 0)), (1, .int (nI m))] rfl ?_
  intro K hKl hKg hnL C hRx
  subst hKl
  subst hKg
  refine z_iconst C (v := nI 0) rfl dX3_racksTaken_0 1 rfl ?_
  refine z_istore_n C hnL [1, 2, 0] [(0, .ref (q 0)), (1, .int (nI m)), (2, .int (nI 0))] rfl rfl (Nat.le_of_ble_eq_true rfl) dX3_racksTaken_1 2 rfl ?_
  refine z_iconst C (v := nI 0) rfl dX3_racksTaken_2 3 rfl ?_
  refine z_istore_n C hnL [1, 2, 3, 0] [(0, .ref (q 0)), (1, .int (nI m)), (2, .int (nI 0)), (3, .int (nI 0))] rfl rfl (Nat.le_of_ble_eq_true rfl) dX3_racksTaken_3 4 rfl ?_
  have loop4 : ∀ (mu : Nat) (i : Nat) (x : Nat), mu = s0 - i → i ≤ s0 → x = sm (fun i => if a5 i ≤ m ∧ m < a6 i then a0 i else 0) i → Z K 0 0 [wP K.g q a0 a1 a2 a3 a4 a5 a6 a7 s0 s1 s2 s3 s4 s5 s6 s7 s8 s9] [(0, .ref (q 0)), (1, .int (nI m)), (2, .int (nI x)), (3, .int (nI i))] 4 [] := by
    refine z_ind (fun mu ih4 => ?_)
    intro i x hmu4 hi hx
    refine z_iload_n C 3 rfl rfl dX3_racksTaken_4 5 rfl ?_
    refine z_aload_n C 0 rfl rfl dX3_racksTaken_5 6 rfl ?_
    refine z_get C zc3 iX3_racksTaken_X3 0 0 rfl rfl 8 (Nat.le_of_ble_eq_true rfl) (List.mem_of_getElem? (i := 1) rfl) (v := .int (nI s0)) rfl dX3_racksTaken_6 9 rfl ?_
    refine z_icmp_ge C (by omega) (by omega) 47 dX3_racksTaken_9 (by decide) 12 rfl (fun c_1 => ?_) (fun c_1 => ?_)
    · skip
      refine z_iload_n C 2 rfl rfl dX3_racksTaken_47 48 rfl ?_
      obtain rfl : i = s0 := by omega
      exact z_iret C hRx dX3_racksTaken_48 () (by rw [hx]) trivial rfl
    · skip
      refine z_aload_n C 0 rfl rfl dX3_racksTaken_12 13 rfl ?_
      refine z_get C zc3 iX3_racksTaken_X3 0 0 rfl rfl 5 (Nat.le_of_ble_eq_true rfl) (List.mem_of_getElem? (i := 2) rfl) (v := .ref (q 6)) rfl dX3_racksTaken_13 16 rfl ?_
      refine z_iload_n C 3 rfl rfl dX3_racksTaken_16 17 rfl ?_
      refine z_iald C (f := a5) 0 6 rfl rfl (by omega) (by decide) dX3_racksTaken_17 18 rfl ?_
      have hbi := hb i (by omega)
      refine z_iload_n C 1 rfl rfl dX3_racksTaken_18 19 rfl ?_
      refine z_icmp_gt C (by omega) (by omega) 41 dX3_racksTaken_19 (by decide) 22 rfl (fun c_2 => ?_) (fun c_2 => ?_)
      · skip
        refine z_iinc C hnL 3 rfl (v := (nI (i + 1))) (nI_1 _) [1, 2, 3, 0] [(0, .ref (q 0)), (1, .int (nI m)), (2, .int (nI x)), (3, .int (nI (i + 1)))] rfl (Nat.le_of_ble_eq_true rfl) dX3_racksTaken_41 44 rfl ?_
        refine z_goto C 4 dX3_racksTaken_44 (by decide) ?_
        exact ih4 _ (by omega) (i + 1) x rfl (by omega) (by rw [sm_s, ← hx, if_neg (by omega)]; rfl)
      · skip
        refine z_iload_n C 1 rfl rfl dX3_racksTaken_22 23 rfl ?_
        refine z_aload_n C 0 rfl rfl dX3_racksTaken_23 24 rfl ?_
        refine z_get C zc3 iX3_racksTaken_X3 0 0 rfl rfl 6 (Nat.le_of_ble_eq_true rfl) (List.mem_of_getElem? (i := 3) rfl) (v := .ref (q 7)) rfl dX3_racksTaken_24 27 rfl ?_
        refine z_iload_n C 3 rfl rfl dX3_racksTaken_27 28 rfl ?_
        refine z_iald C (f := a6) 0 7 rfl rfl (by omega) (by decide) dX3_racksTaken_28 29 rfl ?_
        refine z_icmp_ge C (by omega) (by omega) 41 dX3_racksTaken_29 (by decide) 32 rfl (fun c_3 => ?_) (fun c_3 => ?_)
        · skip
          refine z_iinc C hnL 3 rfl (v := (nI (i + 1))) (nI_1 _) [1, 2, 3, 0] [(0, .ref (q 0)), (1, .int (nI m)), (2, .int (nI x)), (3, .int (nI (i + 1)))] rfl (Nat.le_of_ble_eq_true rfl) dX3_racksTaken_41 44 rfl ?_
          refine z_goto C 4 dX3_racksTaken_44 (by decide) ?_
          exact ih4 _ (by omega) (i + 1) x rfl (by omega) (by rw [sm_s, ← hx, if_neg (by omega)]; rfl)
        · skip
          refine z_iload_n C 2 rfl rfl dX3_racksTaken_32 33 rfl ?_
          refine z_aload_n C 0 rfl rfl dX3_racksTaken_33 34 rfl ?_
          refine z_get C zc3 iX3_racksTaken_X3 0 0 rfl rfl 0 (Nat.le_of_ble_eq_true rfl) (List.mem_of_getElem? (i := 4) rfl) (v := .ref (q 1)) rfl dX3_racksTaken_34 37 rfl ?_
          refine z_iload_n C 3 rfl rfl dX3_racksTaken_37 38 rfl ?_
          refine z_iald C (f := a0) 0 1 rfl rfl (by omega) (by decide) dX3_racksTaken_38 39 rfl ?_
          refine z_iadd C dX3_racksTaken_39 40 rfl ?_
          refine z_nm (fun x_4 ex_4 => ?_)
          refine z_istore_n C hnL [1, 2, 0, 3] [(0, .ref (q 0)), (1, .int (nI m)), (2, .int (nI x_4)), (3, .int (nI i))] rfl rfl (Nat.le_of_ble_eq_true rfl) dX3_racksTaken_40 41 rfl ?_
          refine z_iinc C hnL 3 rfl (v := (nI (i + 1))) (nI_1 _) [1, 2, 3, 0] [(0, .ref (q 0)), (1, .int (nI m)), (2, .int (nI x_4)), (3, .int (nI (i + 1)))] rfl (Nat.le_of_ble_eq_true rfl) dX3_racksTaken_41 44 rfl ?_
          refine z_goto C 4 dX3_racksTaken_44 (by decide) ?_
          exact ih4 _ (by omega) (i + 1) x_4 rfl (by omega) (by rw [sm_s, ← hx, if_pos (by omega)]; omega)
  exact loop4 _ 0 0 rfl (by omega) rfl

/-! PA: the pad: its reader as an automaton. -/
theorem nI_n6 {g : Nat} (h : g < 2 ^ 31) : nI g ≠ (-6) := fun e => nI_pos h (by rw [e]; decide)
theorem rgN_t {k lo hi : Nat} (hk : k < 2 ^ 31) (h1 : lo ≤ k) (h2 : k ≤ hi) : rg (nI k).toInt (Int.ofNat lo) (Int.ofNat hi) = true := by
  rw [nI_toInt hk]
  exact rg_t (Int.ofNat_le.mpr h1) (Int.ofNat_le.mpr h2)
theorem rgN_f {k lo hi : Nat} (hk : k < 2 ^ 31) (h : ¬ (lo ≤ k ∧ k ≤ hi)) : rg (nI k).toInt (Int.ofNat lo) (Int.ofNat hi) = false := by
  rw [nI_toInt hk]
  exact rg_f (fun z => h ⟨Int.ofNat_le.mp z.1, Int.ofNat_le.mp z.2⟩)
def isD (c : Nat) : Bool := decide (48 ≤ c ∧ c ≤ 57)
abbrev AS : Type := Nat × Nat × Nat × Nat × Nat × Nat × (Nat → Nat → Nat)
/-- whether a character can stand -/
def auOK (ex h d c : Nat) : Bool := match ex with
  | 0 => decide (c = 112)
  | 1 => isD c
  | 2 => decide (c = 115)
  | 3 => isD c
  | 4 => decide (c = 110)
  | 5 => isD c && decide (c ≠ 48)
  | 6 => if isD c = true then decide (10 * h + (c - 48) ≤ 20) else decide (c = 100 ∨ c = 59)
  | 7 => isD c
  | _ => if isD c = true then decide (d ≠ 0 ∧ 10 * d + (c - 48) ≤ 3000) else decide (c = 59)
/-- the state behind it -/
def auN (x : AS) (c : Nat) : AS := match x with
  | (ex, a, s, h, d, n, r) => match ex with
    | 0 => (1, a, s, h, d, n, r)
    | 1 => (2, c - 48, s, h, d, n, r)
    | 2 => (3, a, s, h, d, n, r)
    | 3 => (4, a, c - 48, h, d, n, r)
    | 4 => (5, a, s, h, d, n, r)
    | 5 => (6, a, s, c - 48, 3000, n, r)
    | 6 => if isD c = true then (6, a, s, 10 * h + (c - 48), d, n, r) else if c = 100 then (7, a, s, h, d, n, r) else (0, a, s, h, d, n + 1, apR r n a s h d)
    | 7 => (8, a, s, h, c - 48, n, r)
    | _ => if isD c = true then (8, a, s, h, 10 * d + (c - 48), n, r) else (0, a, s, h, d, n + 1, apR r n a s h d)
theorem isD_t {c : Nat} (h : 48 ≤ c ∧ c ≤ 57) : isD c = true := decide_eq_true h
theorem isD_f {c : Nat} (h : ¬ (48 ≤ c ∧ c ≤ 57)) : isD c = false := decide_eq_false h
theorem auOK_5 {h d c : Nat} : auOK 5 h d c = (isD c && decide (c ≠ 48)) := rfl
theorem auOK_6 {h d c : Nat} : auOK 6 h d c = if isD c = true then decide (10 * h + (c - 48) ≤ 20) else decide (c = 100 ∨ c = 59) := rfl
theorem auOK_8 {h d c : Nat} : auOK 8 h d c = if isD c = true then decide (d ≠ 0 ∧ 10 * d + (c - 48) ≤ 3000) else decide (c = 59) := rfl
theorem auN_6 {a s h d n c : Nat} {r : Nat → Nat → Nat} : auN (6, a, s, h, d, n, r) c = if isD c = true then (6, a, s, 10 * h + (c - 48), d, n, r) else if c = 100 then (7, a, s, h, d, n, r) else (0, a, s, h, d, n + 1, apR r n a s h d) := rfl
theorem auN_8 {a s h d n c : Nat} {r : Nat → Nat → Nat} : auN (8, a, s, h, d, n, r) c = if isD c = true then (8, a, s, h, 10 * d + (c - 48), n, r) else (0, a, s, h, d, n + 1, apR r n a s h d) := rfl
def auR (tx : Nat → Nat) (r0 : Nat → Nat → Nat) : Nat → AS
  | 0 => (0, 0, 0, 0, 0, 0, r0)
  | i + 1 => auN (auR tx r0 i) (tx i)
def auG (tx : Nat → Nat) (r0 : Nat → Nat → Nat) (i : Nat) : Bool := auOK (auR tx r0 i).1 (auR tx r0 i).2.2.2.1 (auR tx r0 i).2.2.2.2.1 (tx i)
/-- all before i can stand -/
def auGd (tx : Nat → Nat) (r0 : Nat → Nat → Nat) (i : Nat) : Prop := ∀ j, j < i → auG tx r0 j = true
def VV (ex a s h d : Nat) (P0 S0 H0 D0 : Int32) : Prop := ex ≤ 8 ∧ (2 ≤ ex → P0 = nI a ∧ a ≤ 9) ∧ (4 ≤ ex → S0 = nI s ∧ s ≤ 9) ∧ (6 ≤ ex → H0 = nI h ∧ 1 ≤ h ∧ h ≤ 20 ∧ D0 = nI d ∧ d ≤ 3000)
theorem VV_0 {a s h d : Nat} {P0 S0 H0 D0 : Int32} : VV 0 a s h d P0 S0 H0 D0 := ⟨by omega, fun h => by omega, fun h => by omega, fun h => by omega⟩
def TKP (x : AS) (c ex2 : Nat) (P2 S2 H2 D2 : Int32) (n2 : Nat) (r2 : Nat → Nat → Nat) : Prop := match auN x c with
  | (e, a, s, h, d, n, r) => ex2 = e ∧ n2 = n ∧ r2 = r ∧ VV e a s h d P2 S2 H2 D2
theorem TKP_s {tx : Nat → Nat} {r : Nat → Nat → Nat} {i ex a s h d n ex2 n2 : Nat} {r1 r2 : Nat → Nat → Nat} {P2 S2 H2 D2 : Int32} (hR : auR tx r i = (ex, a, s, h, d, n, r1)) (ht : TKP (ex, a, s, h, d, n, r1) (tx i) ex2 P2 S2 H2 D2 n2 r2) :
    ∃ a4 s4 h4 d4 : Nat, auR tx r (i + 1) = (ex2, a4, s4, h4, d4, n2, r2) ∧ VV ex2 a4 s4 h4 d4 P2 S2 H2 D2 := by
  have e1 : auR tx r (i + 1) = auN (ex, a, s, h, d, n, r1) (tx i) := by rw [← hR]; rfl
  unfold TKP at ht
  generalize auN (ex, a, s, h, d, n, r1) (tx i) = z at ht e1
  obtain ⟨e, a4, s4, h4, d4, n4, r4⟩ := z
  obtain ⟨rfl, rfl, rfl, hV⟩ := ht
  exact ⟨a4, s4, h4, d4, e1, hV⟩
theorem auGd_s {tx : Nat → Nat} {r : Nat → Nat → Nat} {i ex a s h d n : Nat} {r1 : Nat → Nat → Nat} (hG : auGd tx r i) (hR : auR tx r i = (ex, a, s, h, d, n, r1)) (hok : auOK ex h d (tx i) = true) : auGd tx r (i + 1) := by
  intro j hj
  by_cases e : j = i
  · subst e
    unfold auG
    rw [hR]
    exact hok
  · exact hG j (by omega)
theorem au_cnt {tx : Nat → Nat} {r : Nat → Nat → Nat} : ∀ {i ex a s h d n : Nat} {r1 : Nat → Nat → Nat}, auR tx r i = (ex, a, s, h, d, n, r1) → auGd tx r i → 7 * n + ex ≤ i
  | 0, ex, a, s, h, d, n, r1, hR, _ => by
    have : (0, 0, 0, 0, 0, 0, r) = (ex, a, s, h, d, n, r1) := hR
    cases this
    omega
  | i + 1, ex, a, s, h, d, n, r1, hR, hG => by
    have hgi := hG i (by omega)
    unfold auG at hgi
    have e1 : auN (auR tx r i) (tx i) = (ex, a, s, h, d, n, r1) := hR
    generalize hz : auR tx r i = z at hgi e1
    obtain ⟨e0, a0, s0, h0, d0, n0, r0⟩ := z
    have ih := au_cnt hz (fun j hj => hG j (by omega))
    match e0, hgi, e1, ih with
    | 0, hgi, e1, ih => cases e1; omega
    | 1, hgi, e1, ih => cases e1; omega
    | 2, hgi, e1, ih => cases e1; omega
    | 3, hgi, e1, ih => cases e1; omega
    | 4, hgi, e1, ih => cases e1; omega
    | 5, hgi, e1, ih => cases e1; omega
    | 6, hgi, e1, ih =>
      have e1 : (if isD (tx i) = true then ((6, a0, s0, 10 * h0 + (tx i - 48), d0, n0, r0) : AS) else if tx i = 100 then (7, a0, s0, h0, d0, n0, r0) else (0, a0, s0, h0, d0, n0 + 1, apR r0 n0 a0 s0 h0 d0)) = (ex, a, s, h, d, n, r1) := e1
      split at e1
      · cases e1; omega
      · split at e1 <;> cases e1 <;> omega
    | 7, hgi, e1, ih => cases e1; omega
    | e + 8, hgi, e1, ih =>
      have e1 : (if isD (tx i) = true then ((8, a0, s0, h0, 10 * d0 + (tx i - 48), n0, r0) : AS) else (0, a0, s0, h0, d0, n0 + 1, apR r0 n0 a0 s0 h0 d0)) = (ex, a, s, h, d, n, r1) := e1
      split at e1 <;> cases e1 <;> omega
/-- what reading a text comes to: v the fault, or -6 and the jobs -/
def PAR (tx : Nat → Nat) (r : Nat → Nat → Nat) (len : Nat) (v : Int32) (n2 : Nat) (r2 : Nat → Nat → Nat) : Prop :=
  (∃ i, i < len ∧ auGd tx r i ∧ auG tx r i = false ∧ v = nI i) ∨
  (auGd tx r len ∧ (auR tx r len).1 ≠ 6 ∧ (auR tx r len).1 ≠ 8 ∧ v = nI len) ∨
  (auGd tx r len ∧ v = (-6) ∧ n2 ≤ 8 ∧ ∃ ex a s h d n r1, (ex = 6 ∨ ex = 8) ∧ auR tx r len = (ex, a, s, h, d, n, r1) ∧ n2 = n + 1 ∧ r2 = apR r1 n a s h d ∧ a ≤ 9 ∧ s ≤ 9 ∧ 1 ≤ h ∧ h ≤ 20 ∧ d ≤ 3000)
theorem hdX2_endJob : yX2_endJob.cls = RX2 ∧ yX2_endJob.cls ≠ "java/lang/invoke/MethodHandle" ∧ yX2_endJob.cls ≠ "java/lang/invoke/VarHandle" ∧ (parseMethodDescriptor yX2_endJob.desc).map (fun d => d.parameters.length) = some 0 := by decide +kernel
theorem hdX2_takes : yX2_takes.cls = RX2 ∧ yX2_takes.cls ≠ "java/lang/invoke/MethodHandle" ∧ yX2_takes.cls ≠ "java/lang/invoke/VarHandle" ∧ (parseMethodDescriptor yX2_takes.desc).map (fun d => d.parameters.length) = some 1 := by decide +kernel
theorem hdX2_takesBehindDue : yX2_takesBehindDue.cls = RX2 ∧ yX2_takesBehindDue.cls ≠ "java/lang/invoke/MethodHandle" ∧ yX2_takesBehindDue.cls ≠ "java/lang/invoke/VarHandle" ∧ (parseMethodDescriptor yX2_takesBehindDue.desc).map (fun d => d.parameters.length) = some 2 := by decide +kernel
theorem hdX2_takesBehindHundreds : yX2_takesBehindHundreds.cls = RX2 ∧ yX2_takesBehindHundreds.cls ≠ "java/lang/invoke/MethodHandle" ∧ yX2_takesBehindHundreds.cls ≠ "java/lang/invoke/VarHandle" ∧ (parseMethodDescriptor yX2_takesBehindHundreds.desc).map (fun d => d.parameters.length) = some 2 := by decide +kernel
theorem hdX2_takesEndOfJob : yX2_takesEndOfJob.cls = RX2 ∧ yX2_takesEndOfJob.cls ≠ "java/lang/invoke/MethodHandle" ∧ yX2_takesEndOfJob.cls ≠ "java/lang/invoke/VarHandle" ∧ (parseMethodDescriptor yX2_takesEndOfJob.desc).map (fun d => d.parameters.length) = some 1 := by decide +kernel
theorem hdX2_takesLetter : yX2_takesLetter.cls = RX2 ∧ yX2_takesLetter.cls ≠ "java/lang/invoke/MethodHandle" ∧ yX2_takesLetter.cls ≠ "java/lang/invoke/VarHandle" ∧ (parseMethodDescriptor yX2_takesLetter.desc).map (fun d => d.parameters.length) = some 2 := by decide +kernel
theorem hdX4_within : yX4_within.cls ≠ "java/lang/invoke/MethodHandle" ∧ yX4_within.cls ≠ "java/lang/invoke/VarHandle" ∧ (parseMethodDescriptor yX4_within.desc).map (fun d => d.parameters.length) = some 3 := by decide +kernel
set_option maxHeartbeats 4000000 in
set_option maxRecDepth 100000 in
theorem tX4_withinN (l : Launch) (g : zG) (x : Int32) (lo hi : Nat) (h1 : lo < 2 ^ 31) (h2 : hi < 2 ^ 31) : Met l yX4_within wsX4_within ({ frames := 0, cells := 0, slots := 0, locals := 0 } : Room) (zPre g [.int x, .int (nI lo), .int (nI hi)] []) (zQ g (fun _ : Unit => some (.int (bI (rg x.toInt (Int.ofNat lo) (Int.ofNat hi)))) ) (fun _ : Unit => True) (fun _ : Unit => []) (zA [])) 0 0 (zA []) := by
  refine z_entry (cc := cX4_within) (maxL := 3) (ret := (some .boolean)) (own := RX4) (by decide) rfl rfl (Nat.le_of_ble_eq_true rfl) [(0, .int x), (1, .int (nI lo)), (2, .int (nI hi))] rfl ?_
  intro K hKl hKg hnL C hRx
  subst hKl
  subst hKg
  refine z_iload_n C 0 rfl rfl dX4_within_0 1 rfl ?_
  refine z_iload_n C 1 rfl rfl dX4_within_1 2 rfl ?_
  refine z_icmpI_lt C 14 dX4_within_2 (by decide) 5 rfl (fun c_1 => ?_) (fun c_1 => ?_)
  · skip
    refine z_iconst C (v := nI 0) rfl dX4_within_14 15 rfl ?_
    have e1 : (nI lo).toInt = Int.ofNat lo := nI_toInt h1
    have e2 : (nI hi).toInt = Int.ofNat hi := nI_toInt h2
    refine z_eq (st2 := [.int (bI false)]) ?_ rfl rfl rfl
    exact z_bret C hRx dX4_within_15 () (by rw [rg_f (by simp only [Int32.le_iff_toInt_le, Int32.lt_iff_toInt_lt, Int32.not_lt, e1, e2] at *; omega)]) trivial rfl
  · skip
    refine z_iload_n C 0 rfl rfl dX4_within_5 6 rfl ?_
    refine z_iload_n C 2 rfl rfl dX4_within_6 7 rfl ?_
    refine z_icmpI_gt C 14 dX4_within_7 (by decide) 10 rfl (fun c_2 => ?_) (fun c_2 => ?_)
    · skip
      refine z_iconst C (v := nI 0) rfl dX4_within_14 15 rfl ?_
      have e1 : (nI lo).toInt = Int.ofNat lo := nI_toInt h1
      have e2 : (nI hi).toInt = Int.ofNat hi := nI_toInt h2
      refine z_eq (st2 := [.int (bI false)]) ?_ rfl rfl rfl
      exact z_bret C hRx dX4_within_15 () (by rw [rg_f (by simp only [Int32.le_iff_toInt_le, Int32.lt_iff_toInt_lt, Int32.not_lt, e1, e2] at *; omega)]) trivial rfl
    · skip
      refine z_iconst C (v := nI 1) rfl dX4_within_10 11 rfl ?_
      refine z_goto C 15 dX4_within_11 (by decide) ?_
      have e1 : (nI lo).toInt = Int.ofNat lo := nI_toInt h1
      have e2 : (nI hi).toInt = Int.ofNat hi := nI_toInt h2
      refine z_eq (st2 := [.int (bI true)]) ?_ rfl rfl rfl
      exact z_bret C hRx dX4_within_15 () (by rw [rg_t (by simp only [Int32.le_iff_toInt_le, Int32.lt_iff_toInt_lt, Int32.not_lt, e1, e2] at *; omega) (by simp only [Int32.le_iff_toInt_le, Int32.lt_iff_toInt_lt, Int32.not_lt, e1, e2] at *; omega)]) trivial rfl

theorem iX2_append_X2 : ∀ w ∈ u_ws RX2 TX2 8, w ∈ wsX2_append := fun w h => (List.mem_cons_of_mem _ (List.mem_append_right _ h))
set_option maxHeartbeats 4000000 in
set_option maxRecDepth 100000 in
theorem tX2_append (l : Launch) (g : zG) (p fb tx : Nat → Nat) (len ex : Nat) (P0 S0 H0 D0 : Int32) (c : Nat) (hl : len < 60) : Met l yX2_append wsX2_append ({ frames := 0, cells := 0, slots := 0, locals := 0 } : Room) (zPre g [.ref (p 0), .int (nI c)] [wPd g p fb tx len ex P0 S0 H0 D0]) (zQ g (fun _ : Unit => none ) (fun _ : Unit => True) (fun _ : Unit => [wPd g p fb (un tx len c) (len + 1) ex P0 S0 H0 D0]) (zA [wPd g p fb tx len ex P0 S0 H0 D0])) 0 0 (zA [wPd g p fb tx len ex P0 S0 H0 D0]) := by
  refine z_entry (cc := cX2_append) (maxL := 2) (ret := none) (own := RX2) (by decide) rfl rfl (Nat.le_of_ble_eq_true rfl) [(0, .ref (p 0)), (1, .int (nI c))] rfl ?_
  intro K hKl hKg hnL C hRx
  subst hKl
  subst hKg
  refine z_aload_n C 0 rfl rfl dX2_append_0 1 rfl ?_
  refine z_get C zc2 iX2_append_X2 0 0 rfl rfl 1 (Nat.le_of_ble_eq_true rfl) (List.mem_of_getElem? (i := 1) rfl) (v := .int (nI len)) rfl dX2_append_1 4 rfl ?_
  refine z_bipush C (v := nI 60) rfl dX2_append_4 6 rfl ?_
  refine z_icmp_ge C (by omega) (by omega) 29 dX2_append_6 (by decide) 9 rfl (fun c_1 => ?_) (fun c_1 => ?_)
  · exfalso; omega
  refine z_aload_n C 0 rfl rfl dX2_append_9 10 rfl ?_
  refine z_get C zc2 iX2_append_X2 0 0 rfl rfl 2 (Nat.le_of_ble_eq_true rfl) (List.mem_of_getElem? (i := 2) rfl) (v := .ref (p 1)) rfl dX2_append_10 13 rfl ?_
  refine z_aload_n C 0 rfl rfl dX2_append_13 14 rfl ?_
  refine z_get C zc2 iX2_append_X2 0 0 rfl rfl 1 (Nat.le_of_ble_eq_true rfl) (List.mem_of_getElem? (i := 1) rfl) (v := .int (nI len)) rfl dX2_append_14 17 rfl ?_
  refine z_iload_n C 1 rfl rfl dX2_append_17 18 rfl ?_
  refine z_iast C (f := tx) 0 1 rfl rfl (by omega) (by decide) (wPd K.g p fb (un tx len c) len ex P0 S0 H0 D0) rfl [wPd K.g p fb (un tx len c) len ex P0 S0 H0 D0] rfl dX2_append_18 19 rfl ?_
  refine z_aload_n C 0 rfl rfl dX2_append_19 20 rfl ?_
  refine z_dup C rfl dX2_append_20 21 rfl ?_
  refine z_get C zc2 iX2_append_X2 0 0 rfl rfl 1 (Nat.le_of_ble_eq_true rfl) (List.mem_of_getElem? (i := 1) rfl) (v := .int (nI len)) rfl dX2_append_21 24 rfl ?_
  refine z_iconst C (v := nI 1) rfl dX2_append_24 25 rfl ?_
  refine z_iadd C dX2_append_25 26 rfl ?_
  refine z_put C zc2 iX2_append_X2 0 0 rfl rfl 1 (Nat.le_of_ble_eq_true rfl) (List.mem_of_getElem? (i := 1) rfl) rfl rfl rfl (Nat.le_of_ble_eq_true rfl) (wPd K.g p fb (un tx len c) (len + 1) ex P0 S0 H0 D0) rfl [wPd K.g p fb (un tx len c) (len + 1) ex P0 S0 H0 D0] rfl dX2_append_26 29 rfl ?_
  exact z_vret C hRx dX2_append_29 () rfl trivial rfl

theorem iX2_takesLetter_X2 : ∀ w ∈ u_ws RX2 TX2 8, w ∈ wsX2_takesLetter := fun w h => (List.mem_cons_of_mem _ (List.mem_append_right _ h))
set_option maxHeartbeats 4000000 in
set_option maxRecDepth 100000 in
theorem tX2_takesLetter (l : Launch) (g : zG) (p fb tx : Nat → Nat) (len ex : Nat) (P0 S0 H0 D0 : Int32) (c L : Nat) (hc : c ≤ 1000) (hL : L ≤ 1000) : Met l yX2_takesLetter wsX2_takesLetter ({ frames := 0, cells := 0, slots := 0, locals := 0 } : Room) (zPre g [.ref (p 0), .int (nI c), .int (nI L)] [wPd g p fb tx len ex P0 S0 H0 D0]) (zQ g (fun _ : Unit => some (.int (bI (decide (c = L)))) ) (fun _ : Unit => True) (fun _ : Unit => [wPd g p fb tx len (ex + 1) P0 S0 H0 D0]) (zA [wPd g p fb tx len ex P0 S0 H0 D0])) 0 0 (zA [wPd g p fb tx len ex P0 S0 H0 D0]) := by
  refine z_entry (cc := cX2_takesLetter) (maxL := 3) (ret := (some .boolean)) (own := RX2) (by decide) rfl rfl (Nat.le_of_ble_eq_true rfl) [(0, .ref (p 0)), (1, .int (nI c)), (2, .int (nI L))] rfl ?_
  intro K hKl hKg hnL C hRx
  subst hKl
  subst hKg
  refine z_aload_n C 0 rfl rfl dX2_takesLetter_0 1 rfl ?_
  refine z_dup C rfl dX2_takesLetter_1 2 rfl ?_
  refine z_get C zc2 iX2_takesLetter_X2 0 0 rfl rfl 3 (Nat.le_of_ble_eq_true rfl) (List.mem_of_getElem? (i := 1) rfl) (v := .int (nI ex)) rfl dX2_takesLetter_2 5 rfl ?_
  refine z_iconst C (v := nI 1) rfl dX2_takesLetter_5 6 rfl ?_
  refine z_iadd C dX2_takesLetter_6 7 rfl ?_
  refine z_put C zc2 iX2_takesLetter_X2 0 0 rfl rfl 3 (Nat.le_of_ble_eq_true rfl) (List.mem_of_getElem? (i := 1) rfl) rfl rfl rfl (Nat.le_of_ble_eq_true rfl) (wPd K.g p fb tx len (ex + 1) P0 S0 H0 D0) rfl [wPd K.g p fb tx len (ex + 1) P0 S0 H0 D0] rfl dX2_takesLetter_7 10 rfl ?_
  refine z_iload_n C 1 rfl rfl dX2_takesLetter_10 11 rfl ?_
  refine z_iload_n C 2 rfl rfl dX2_takesLetter_11 12 rfl ?_
  refine z_icmp_ne C (by omega) (by omega) 19 dX2_takesLetter_12 (by decide) 15 rfl (fun c_1 => ?_) (fun c_1 => ?_)
  · skip
    refine z_iconst C (v := nI 0) rfl dX2_takesLetter_19 20 rfl ?_
    refine z_eq (st2 := [.int (bI false)]) ?_ rfl rfl rfl
    exact z_bret C hRx dX2_takesLetter_20 () (by rw [decide_eq_false (by omega)]) trivial rfl
  · skip
    refine z_iconst C (v := nI 1) rfl dX2_takesLetter_15 16 rfl ?_
    refine z_goto C 20 dX2_takesLetter_16 (by decide) ?_
    refine z_eq (st2 := [.int (bI true)]) ?_ rfl rfl rfl
    exact z_bret C hRx dX2_takesLetter_20 () (by rw [decide_eq_true (by omega)]) trivial rfl

theorem iX2_endJob_X2 : ∀ w ∈ u_ws RX2 TX2 8, w ∈ wsX2_endJob := fun w h => (List.mem_cons_of_mem _ (List.mem_append_left _ (List.mem_append_right _ h)))
set_option maxHeartbeats 4000000 in
set_option maxRecDepth 100000 in
theorem tX2_endJob (l : Launch) (g : zG) (p fb tx : Nat → Nat) (len ex a s h d : Nat) (st : Nat → Nat) (r : Nat → Nat → Nat) (n : Nat) (hn : n < 12) : Met l yX2_endJob wsX2_endJob ({ frames := 1, cells := 0, slots := 0, locals := 24 } : Room) (zPre g [.ref (p 0)] [wPd g p fb tx len ex (nI a) (nI s) (nI h) (nI d), wB g fb st r n]) (zQ g (fun _ : Unit => none ) (fun _ : Unit => True) (fun _ : Unit => [wPd g p fb tx len ex (nI a) (nI s) (nI h) (nI d), wB g fb st (apR r n a s h d) (n + 1)]) (zA [wPd g p fb tx len ex (nI a) (nI s) (nI h) (nI d), wB g fb st r n])) 0 0 (zA [wPd g p fb tx len ex (nI a) (nI s) (nI h) (nI d), wB g fb st r n]) := by
  refine z_entry (cc := cX2_endJob) (maxL := 1) (ret := none) (own := RX2) (by decide) rfl rfl (Nat.le_of_ble_eq_true rfl) [(0, .ref (p 0))] rfl ?_
  intro K hKl hKg hnL C hRx
  subst hKl
  subst hKg
  refine z_aload_n C 0 rfl rfl dX2_endJob_0 1 rfl ?_
  refine z_get C zc2 iX2_endJob_X2 0 0 rfl rfl 0 (Nat.le_of_ble_eq_true rfl) (List.mem_of_getElem? (i := 1) rfl) (v := .ref (fb 0)) rfl dX2_endJob_1 4 rfl ?_
  refine z_aload_n C 0 rfl rfl dX2_endJob_4 5 rfl ?_
  refine z_get C zc2 iX2_endJob_X2 0 0 rfl rfl 4 (Nat.le_of_ble_eq_true rfl) (List.mem_of_getElem? (i := 2) rfl) (v := .int (nI a)) rfl dX2_endJob_5 8 rfl ?_
  refine z_aload_n C 0 rfl rfl dX2_endJob_8 9 rfl ?_
  refine z_get C zc2 iX2_endJob_X2 0 0 rfl rfl 5 (Nat.le_of_ble_eq_true rfl) (List.mem_of_getElem? (i := 3) rfl) (v := .int (nI s)) rfl dX2_endJob_9 12 rfl ?_
  refine z_aload_n C 0 rfl rfl dX2_endJob_12 13 rfl ?_
  refine z_get C zc2 iX2_endJob_X2 0 0 rfl rfl 6 (Nat.le_of_ble_eq_true rfl) (List.mem_of_getElem? (i := 4) rfl) (v := .int (nI h)) rfl dX2_endJob_13 16 rfl ?_
  refine z_aload_n C 0 rfl rfl dX2_endJob_16 17 rfl ?_
  refine z_get C zc2 iX2_endJob_X2 0 0 rfl rfl 7 (Nat.le_of_ble_eq_true rfl) (List.mem_of_getElem? (i := 5) rfl) (v := .int (nI d)) rfl dX2_endJob_17 20 rfl ?_
  refine z_callV C [.int (nI a), .int (nI s), .int (nI h), .int (nI d)] [] (tX0_append K.l K.g fb st r n a s h d (by first | omega | assumption)) gX2_endJob_X0_append rfl rfl rfl hdX0_append ⟨Nat.le_of_ble_eq_true rfl, Nat.le_of_ble_eq_true rfl⟩ ⟨Nat.zero_le _, Nat.zero_le _⟩ 1 0 rfl rfl rfl [1] rfl rfl (zlc (N := 2) rfl rfl) [0, 2] rfl (by decide) (fun _ : Unit => [wPd K.g p fb tx len ex (nI a) (nI s) (nI h) (nI d), wB K.g fb st (apR r n a s h d) (n + 1)]) (fun _ => rfl) rfl rfl (Nat.le_of_ble_eq_true rfl) dX2_endJob_20 23 rfl (fun u9 hu9 => ?_)
  show Z K 0 0 [wPd K.g p fb tx len ex (nI a) (nI s) (nI h) (nI d), wB K.g fb st (apR r n a s h d) (n + 1)] [(0, .ref (p 0))] 23 []
  exact z_vret C hRx dX2_endJob_23 () rfl trivial rfl

theorem iX2_takesEndOfJob_X2 : ∀ w ∈ u_ws RX2 TX2 8, w ∈ wsX2_takesEndOfJob := fun w h => (List.mem_cons_of_mem _ (List.mem_append_left _ (List.mem_append_right _ h)))
set_option maxHeartbeats 4000000 in
set_option maxRecDepth 100000 in
theorem tX2_takesEndOfJob_y (l : Launch) (g : zG) (p fb tx : Nat → Nat) (len ex a s h d : Nat) (st : Nat → Nat) (r : Nat → Nat → Nat) (n : Nat) (hn : n < 12) : Met l yX2_takesEndOfJob wsX2_takesEndOfJob ({ frames := 2, cells := 0, slots := 0, locals := 44 } : Room) (zPre g [.ref (p 0), .int (nI 59)] [wPd g p fb tx len ex (nI a) (nI s) (nI h) (nI d), wB g fb st r n]) (zQ g (fun _ : Unit => some (.int (bI true)) ) (fun _ : Unit => True) (fun _ : Unit => [wPd g p fb tx len 0 (nI a) (nI s) (nI h) (nI d), wB g fb st (apR r n a s h d) (n + 1)]) (zA [wPd g p fb tx len ex (nI a) (nI s) (nI h) (nI d), wB g fb st r n])) 0 0 (zA [wPd g p fb tx len ex (nI a) (nI s) (nI h) (nI d), wB g fb st r n]) := by
  refine z_entry (cc := cX2_takesEndOfJob) (maxL := 2) (ret := (some .boolean)) (own := RX2) (by decide) rfl rfl (Nat.le_of_ble_eq_true rfl) [(0, .ref (p 0)), (1, .int (nI 59))] rfl ?_
  intro K hKl hKg hnL C hRx
  subst hKl
  subst hKg
  refine z_iload_n C 1 rfl rfl dX2_takesEndOfJob_0 1 rfl ?_
  refine z_bipush C (v := nI 59) rfl dX2_takesEndOfJob_1 3 rfl ?_
  refine z_icmp_eq C (by omega) (by omega) 8 dX2_takesEndOfJob_3 (by decide) 6 rfl (fun c_1 => ?_) (fun c_1 => ?_)
  rotate_left
  · exfalso; omega
  refine z_aload_n C 0 rfl rfl dX2_takesEndOfJob_8 9 rfl ?_
  refine z_callV C [] [] (tX2_endJob K.l K.g p fb tx len ex a s h d st r n (by first | omega | assumption)) gX2_takesEndOfJob_X2_endJob rfl rfl rfl hdX2_endJob ⟨Nat.le_of_ble_eq_true rfl, Nat.le_of_ble_eq_true rfl⟩ ⟨Nat.zero_le _, Nat.zero_le _⟩ 0 0 rfl rfl rfl [0, 1] rfl rfl (zlc (N := 2) rfl rfl) [2, 3] rfl (by decide) (fun _ : Unit => [wPd K.g p fb tx len ex (nI a) (nI s) (nI h) (nI d), wB K.g fb st (apR r n a s h d) (n + 1)]) (fun _ => rfl) rfl rfl (Nat.le_of_ble_eq_true rfl) dX2_takesEndOfJob_9 12 rfl (fun u9 hu9 => ?_)
  show Z K 0 0 [wPd K.g p fb tx len ex (nI a) (nI s) (nI h) (nI d), wB K.g fb st (apR r n a s h d) (n + 1)] [(0, .ref (p 0)), (1, .int (nI 59))] 12 []
  refine z_aload_n C 0 rfl rfl dX2_takesEndOfJob_12 13 rfl ?_
  refine z_iconst C (v := nI 0) rfl dX2_takesEndOfJob_13 14 rfl ?_
  refine z_put C zc2 iX2_takesEndOfJob_X2 0 0 rfl rfl 3 (Nat.le_of_ble_eq_true rfl) (List.mem_of_getElem? (i := 1) rfl) rfl rfl rfl (Nat.le_of_ble_eq_true rfl) (wPd K.g p fb tx len 0 (nI a) (nI s) (nI h) (nI d)) rfl [wPd K.g p fb tx len 0 (nI a) (nI s) (nI h) (nI d), wB K.g fb st (apR r n a s h d) (n + 1)] rfl dX2_takesEndOfJob_14 17 rfl ?_
  refine z_iconst C (v := nI 1) rfl dX2_takesEndOfJob_17 18 rfl ?_
  refine z_eq (st2 := [.int (bI true)]) ?_ rfl rfl rfl
  exact z_bret C hRx dX2_takesEndOfJob_18 () rfl trivial rfl

set_option maxHeartbeats 4000000 in
set_option maxRecDepth 100000 in
theorem tX2_takesEndOfJob_n (l : Launch) (g : zG) (p fb tx : Nat → Nat) (len ex : Nat) (P0 S0 H0 D0 : Int32) (c : Nat) (hc : c ≤ 1000) (hx : c ≠ 59) : Met l yX2_takesEndOfJob wsX2_takesEndOfJob ({ frames := 2, cells := 0, slots := 0, locals := 44 } : Room) (zPre g [.ref (p 0), .int (nI c)] [wPd g p fb tx len ex P0 S0 H0 D0]) (zQ g (fun _ : Unit => some (.int (bI false)) ) (fun _ : Unit => True) (fun _ : Unit => [wPd g p fb tx len ex P0 S0 H0 D0]) (zA [wPd g p fb tx len ex P0 S0 H0 D0])) 0 0 (zA [wPd g p fb tx len ex P0 S0 H0 D0]) := by
  refine z_entry (cc := cX2_takesEndOfJob) (maxL := 2) (ret := (some .boolean)) (own := RX2) (by decide) rfl rfl (Nat.le_of_ble_eq_true rfl) [(0, .ref (p 0)), (1, .int (nI c))] rfl ?_
  intro K hKl hKg hnL C hRx
  subst hKl
  subst hKg
  refine z_iload_n C 1 rfl rfl dX2_takesEndOfJob_0 1 rfl ?_
  refine z_bipush C (v := nI 59) rfl dX2_takesEndOfJob_1 3 rfl ?_
  refine z_icmp_eq C (by omega) (by omega) 8 dX2_takesEndOfJob_3 (by decide) 6 rfl (fun c_1 => ?_) (fun c_1 => ?_)
  · exfalso; omega
  refine z_iconst C (v := nI 0) rfl dX2_takesEndOfJob_6 7 rfl ?_
  refine z_eq (st2 := [.int (bI false)]) ?_ rfl rfl rfl
  exact z_bret C hRx dX2_takesEndOfJob_7 () rfl trivial rfl

theorem iX2_takesBehindHundreds_X2 : ∀ w ∈ u_ws RX2 TX2 8, w ∈ wsX2_takesBehindHundreds := fun w h => (List.mem_cons_of_mem _ (List.mem_append_left _ (List.mem_append_right _ h)))
set_option maxHeartbeats 4000000 in
set_option maxRecDepth 100000 in
theorem tX2_takesBehindHundreds_d (l : Launch) (g : zG) (p fb tx : Nat → Nat) (len ex a s h d : Nat) (c g9 : Nat) (hg : g9 ≤ 9) (hh : h ≤ 20) : Met l yX2_takesBehindHundreds wsX2_takesBehindHundreds ({ frames := 3, cells := 0, slots := 0, locals := 65 } : Room) (zPre g [.ref (p 0), .int (nI c), .int (nI g9)] [wPd g p fb tx len ex (nI a) (nI s) (nI h) (nI d)]) (zQ g (fun _ : Unit => some (.int (bI (decide (10 * h + g9 ≤ 20)))) ) (fun _ : Unit => True) (fun _ : Unit => [wPd g p fb tx len ex (nI a) (nI s) (nI (10 * h + g9)) (nI d)]) (zA [wPd g p fb tx len ex (nI a) (nI s) (nI h) (nI d)])) 0 0 (zA [wPd g p fb tx len ex (nI a) (nI s) (nI h) (nI d)]) := by
  refine z_entry (cc := cX2_takesBehindHundreds) (maxL := 3) (ret := (some .boolean)) (own := RX2) (by decide) rfl rfl (Nat.le_of_ble_eq_true rfl) [(0, .ref (p 0)), (1, .int (nI c)), (2, .int (nI g9))] rfl ?_
  intro K hKl hKg hnL C hRx
  subst hKl
  subst hKg
  refine z_iload_n C 2 rfl rfl dX2_takesBehindHundreds_0 1 rfl ?_
  refine z_bipush C (v := (-6)) rfl dX2_takesBehindHundreds_1 3 rfl ?_
  refine z_icmpI_eq C 34 dX2_takesBehindHundreds_3 (by decide) 6 rfl (fun c_1 => ?_) (fun c_1 => ?_)
  · exfalso; exact nI_n6 (by omega) c_1
  refine z_aload_n C 0 rfl rfl dX2_takesBehindHundreds_6 7 rfl ?_
  refine z_bipush C (v := nI 10) rfl dX2_takesBehindHundreds_7 9 rfl ?_
  refine z_aload_n C 0 rfl rfl dX2_takesBehindHundreds_9 10 rfl ?_
  refine z_get C zc2 iX2_takesBehindHundreds_X2 0 0 rfl rfl 6 (Nat.le_of_ble_eq_true rfl) (List.mem_of_getElem? (i := 1) rfl) (v := .int (nI h)) rfl dX2_takesBehindHundreds_10 13 rfl ?_
  refine z_imul C dX2_takesBehindHundreds_13 14 rfl ?_
  refine z_iload_n C 2 rfl rfl dX2_takesBehindHundreds_14 15 rfl ?_
  refine z_iadd C dX2_takesBehindHundreds_15 16 rfl ?_
  refine z_put C zc2 iX2_takesBehindHundreds_X2 0 0 rfl rfl 6 (Nat.le_of_ble_eq_true rfl) (List.mem_of_getElem? (i := 1) rfl) rfl rfl rfl (Nat.le_of_ble_eq_true rfl) (wPd K.g p fb tx len ex (nI a) (nI s) (nI ((10 * h) + g9)) (nI d)) rfl [wPd K.g p fb tx len ex (nI a) (nI s) (nI ((10 * h) + g9)) (nI d)] rfl dX2_takesBehindHundreds_16 19 rfl ?_
  refine z_aload_n C 0 rfl rfl dX2_takesBehindHundreds_19 20 rfl ?_
  refine z_get C zc2 iX2_takesBehindHundreds_X2 0 0 rfl rfl 6 (Nat.le_of_ble_eq_true rfl) (List.mem_of_getElem? (i := 1) rfl) (v := .int (nI ((10 * h) + g9))) rfl dX2_takesBehindHundreds_20 23 rfl ?_
  refine z_bipush C (v := nI 20) rfl dX2_takesBehindHundreds_23 25 rfl ?_
  refine z_icmp_gt C (by omega) (by omega) 32 dX2_takesBehindHundreds_25 (by decide) 28 rfl (fun c_2 => ?_) (fun c_2 => ?_)
  · skip
    refine z_iconst C (v := nI 0) rfl dX2_takesBehindHundreds_32 33 rfl ?_
    refine z_eq (st2 := [.int (bI false)]) ?_ rfl rfl rfl
    exact z_bret C hRx dX2_takesBehindHundreds_33 () (by rw [decide_eq_false (by omega)]) trivial rfl
  · skip
    refine z_iconst C (v := nI 1) rfl dX2_takesBehindHundreds_28 29 rfl ?_
    refine z_goto C 33 dX2_takesBehindHundreds_29 (by decide) ?_
    refine z_eq (st2 := [.int (bI true)]) ?_ rfl rfl rfl
    exact z_bret C hRx dX2_takesBehindHundreds_33 () (by rw [decide_eq_true (by omega)]) trivial rfl

set_option maxHeartbeats 4000000 in
set_option maxRecDepth 100000 in
theorem tX2_takesBehindHundreds_100 (l : Launch) (g : zG) (p fb tx : Nat → Nat) (len ex a s h d : Nat) : Met l yX2_takesBehindHundreds wsX2_takesBehindHundreds ({ frames := 3, cells := 0, slots := 0, locals := 65 } : Room) (zPre g [.ref (p 0), .int (nI 100), .int (-6)] [wPd g p fb tx len ex (nI a) (nI s) (nI h) (nI d)]) (zQ g (fun _ : Unit => some (.int (bI true)) ) (fun _ : Unit => True) (fun _ : Unit => [wPd g p fb tx len 7 (nI a) (nI s) (nI h) (nI d)]) (zA [wPd g p fb tx len ex (nI a) (nI s) (nI h) (nI d)])) 0 0 (zA [wPd g p fb tx len ex (nI a) (nI s) (nI h) (nI d)]) := by
  refine z_entry (cc := cX2_takesBehindHundreds) (maxL := 3) (ret := (some .boolean)) (own := RX2) (by decide) rfl rfl (Nat.le_of_ble_eq_true rfl) [(0, .ref (p 0)), (1, .int (nI 100)), (2, .int (-6))] rfl ?_
  intro K hKl hKg hnL C hRx
  subst hKl
  subst hKg
  refine z_iload_n C 2 rfl rfl dX2_takesBehindHundreds_0 1 rfl ?_
  refine z_bipush C (v := (-6)) rfl dX2_takesBehindHundreds_1 3 rfl ?_
  refine z_icmpI_eq C 34 dX2_takesBehindHundreds_3 (by decide) 6 rfl (fun c_1 => ?_) (fun c_1 => ?_)
  rotate_left
  · exfalso; exact c_1 rfl
  refine z_iload_n C 1 rfl rfl dX2_takesBehindHundreds_34 35 rfl ?_
  refine z_bipush C (v := nI 100) rfl dX2_takesBehindHundreds_35 37 rfl ?_
  refine z_icmp_ne C (by omega) (by omega) 48 dX2_takesBehindHundreds_37 (by decide) 40 rfl (fun c_2 => ?_) (fun c_2 => ?_)
  · exfalso; omega
  refine z_aload_n C 0 rfl rfl dX2_takesBehindHundreds_40 41 rfl ?_
  refine z_bipush C (v := nI 7) rfl dX2_takesBehindHundreds_41 43 rfl ?_
  refine z_put C zc2 iX2_takesBehindHundreds_X2 0 0 rfl rfl 3 (Nat.le_of_ble_eq_true rfl) (List.mem_of_getElem? (i := 2) rfl) rfl rfl rfl (Nat.le_of_ble_eq_true rfl) (wPd K.g p fb tx len 7 (nI a) (nI s) (nI h) (nI d)) rfl [wPd K.g p fb tx len 7 (nI a) (nI s) (nI h) (nI d)] rfl dX2_takesBehindHundreds_43 46 rfl ?_
  refine z_iconst C (v := nI 1) rfl dX2_takesBehindHundreds_46 47 rfl ?_
  refine z_eq (st2 := [.int (bI true)]) ?_ rfl rfl rfl
  exact z_bret C hRx dX2_takesBehindHundreds_47 () rfl trivial rfl

set_option maxHeartbeats 4000000 in
set_option maxRecDepth 100000 in
theorem tX2_takesBehindHundreds_59 (l : Launch) (g : zG) (p fb tx : Nat → Nat) (len ex a s h d : Nat) (st : Nat → Nat) (r : Nat → Nat → Nat) (n : Nat) (hn : n < 12) : Met l yX2_takesBehindHundreds wsX2_takesBehindHundreds ({ frames := 3, cells := 0, slots := 0, locals := 65 } : Room) (zPre g [.ref (p 0), .int (nI 59), .int (-6)] [wPd g p fb tx len ex (nI a) (nI s) (nI h) (nI d), wB g fb st r n]) (zQ g (fun _ : Unit => some (.int (bI true)) ) (fun _ : Unit => True) (fun _ : Unit => [wPd g p fb tx len 0 (nI a) (nI s) (nI h) (nI d), wB g fb st (apR r n a s h d) (n + 1)]) (zA [wPd g p fb tx len ex (nI a) (nI s) (nI h) (nI d), wB g fb st r n])) 0 0 (zA [wPd g p fb tx len ex (nI a) (nI s) (nI h) (nI d), wB g fb st r n]) := by
  refine z_entry (cc := cX2_takesBehindHundreds) (maxL := 3) (ret := (some .boolean)) (own := RX2) (by decide) rfl rfl (Nat.le_of_ble_eq_true rfl) [(0, .ref (p 0)), (1, .int (nI 59)), (2, .int (-6))] rfl ?_
  intro K hKl hKg hnL C hRx
  subst hKl
  subst hKg
  refine z_iload_n C 2 rfl rfl dX2_takesBehindHundreds_0 1 rfl ?_
  refine z_bipush C (v := (-6)) rfl dX2_takesBehindHundreds_1 3 rfl ?_
  refine z_icmpI_eq C 34 dX2_takesBehindHundreds_3 (by decide) 6 rfl (fun c_1 => ?_) (fun c_1 => ?_)
  rotate_left
  · exfalso; exact c_1 rfl
  refine z_iload_n C 1 rfl rfl dX2_takesBehindHundreds_34 35 rfl ?_
  refine z_bipush C (v := nI 100) rfl dX2_takesBehindHundreds_35 37 rfl ?_
  refine z_icmp_ne C (by omega) (by omega) 48 dX2_takesBehindHundreds_37 (by decide) 40 rfl (fun c_2 => ?_) (fun c_2 => ?_)
  rotate_left
  · exfalso; omega
  refine z_aload_n C 0 rfl rfl dX2_takesBehindHundreds_48 49 rfl ?_
  refine z_iload_n C 1 rfl rfl dX2_takesBehindHundreds_49 50 rfl ?_
  refine z_callV C [.int (nI 59)] [] (tX2_takesEndOfJob_y K.l K.g p fb tx len ex a s h d st r n (by first | omega | assumption)) gX2_takesBehindHundreds_X2_takesEndOfJob rfl rfl rfl hdX2_takesEndOfJob ⟨Nat.le_of_ble_eq_true rfl, Nat.le_of_ble_eq_true rfl⟩ ⟨Nat.zero_le _, Nat.zero_le _⟩ 0 0 rfl rfl rfl [0, 1] rfl rfl (zlc (N := 2) rfl rfl) [2, 3] rfl (by decide) (fun _ : Unit => [wPd K.g p fb tx len 0 (nI a) (nI s) (nI h) (nI d), wB K.g fb st (apR r n a s h d) (n + 1)]) (fun _ => rfl) rfl rfl (Nat.le_of_ble_eq_true rfl) dX2_takesBehindHundreds_50 53 rfl (fun u9 hu9 => ?_)
  show Z K 0 0 [wPd K.g p fb tx len 0 (nI a) (nI s) (nI h) (nI d), wB K.g fb st (apR r n a s h d) (n + 1)] [(0, .ref (p 0)), (1, .int (nI 59)), (2, .int (-6))] 53 [.int (bI true)]
  exact z_bret C hRx dX2_takesBehindHundreds_53 () rfl trivial rfl

set_option maxHeartbeats 4000000 in
set_option maxRecDepth 100000 in
theorem tX2_takesBehindHundreds_x (l : Launch) (g : zG) (p fb tx : Nat → Nat) (len ex : Nat) (P0 S0 H0 D0 : Int32) (c : Nat) (hc : c ≤ 1000) (hx : c ≠ 59) (hy : c ≠ 100) : Met l yX2_takesBehindHundreds wsX2_takesBehindHundreds ({ frames := 3, cells := 0, slots := 0, locals := 65 } : Room) (zPre g [.ref (p 0), .int (nI c), .int (-6)] [wPd g p fb tx len ex P0 S0 H0 D0]) (zQ g (fun _ : Unit => some (.int (bI false)) ) (fun _ : Unit => True) (fun _ : Unit => [wPd g p fb tx len ex P0 S0 H0 D0]) (zA [wPd g p fb tx len ex P0 S0 H0 D0])) 0 0 (zA [wPd g p fb tx len ex P0 S0 H0 D0]) := by
  refine z_entry (cc := cX2_takesBehindHundreds) (maxL := 3) (ret := (some .boolean)) (own := RX2) (by decide) rfl rfl (Nat.le_of_ble_eq_true rfl) [(0, .ref (p 0)), (1, .int (nI c)), (2, .int (-6))] rfl ?_
  intro K hKl hKg hnL C hRx
  subst hKl
  subst hKg
  refine z_iload_n C 2 rfl rfl dX2_takesBehindHundreds_0 1 rfl ?_
  refine z_bipush C (v := (-6)) rfl dX2_takesBehindHundreds_1 3 rfl ?_
  refine z_icmpI_eq C 34 dX2_takesBehindHundreds_3 (by decide) 6 rfl (fun c_1 => ?_) (fun c_1 => ?_)
  rotate_left
  · exfalso; exact c_1 rfl
  refine z_iload_n C 1 rfl rfl dX2_takesBehindHundreds_34 35 rfl ?_
  refine z_bipush C (v := nI 100) rfl dX2_takesBehindHundreds_35 37 rfl ?_
  refine z_icmp_ne C (by omega) (by omega) 48 dX2_takesBehindHundreds_37 (by decide) 40 rfl (fun c_2 => ?_) (fun c_2 => ?_)
  rotate_left
  · exfalso; omega
  refine z_aload_n C 0 rfl rfl dX2_takesBehindHundreds_48 49 rfl ?_
  refine z_iload_n C 1 rfl rfl dX2_takesBehindHundreds_49 50 rfl ?_
  refine z_callV C [.int (nI c)] [] (tX2_takesEndOfJob_n K.l K.g p fb tx len ex P0 S0 H0 D0 c (by first | omega | assumption) (by first | omega | assumption)) gX2_takesBehindHundreds_X2_takesEndOfJob rfl rfl rfl hdX2_takesEndOfJob ⟨Nat.le_of_ble_eq_true rfl, Nat.le_of_ble_eq_true rfl⟩ ⟨Nat.zero_le _, Nat.zero_le _⟩ 0 0 rfl rfl rfl [0] rfl rfl (zlc (N := 1) rfl rfl) [1] rfl (by decide) (fun _ : Unit => [wPd K.g p fb tx len ex P0 S0 H0 D0]) (fun _ => rfl) rfl rfl (Nat.le_of_ble_eq_true rfl) dX2_takesBehindHundreds_50 53 rfl (fun u9 hu9 => ?_)
  show Z K 0 0 [wPd K.g p fb tx len ex P0 S0 H0 D0] [(0, .ref (p 0)), (1, .int (nI c)), (2, .int (-6))] 53 [.int (bI false)]
  exact z_bret C hRx dX2_takesBehindHundreds_53 () rfl trivial rfl

theorem iX2_takesBehindDue_X2 : ∀ w ∈ u_ws RX2 TX2 8, w ∈ wsX2_takesBehindDue := fun w h => (List.mem_cons_of_mem _ (List.mem_append_left _ (List.mem_append_right _ h)))
set_option maxHeartbeats 4000000 in
set_option maxRecDepth 100000 in
theorem tX2_takesBehindDue_d (l : Launch) (g : zG) (p fb tx : Nat → Nat) (len ex a s h d : Nat) (c g9 : Nat) (hg : g9 ≤ 9) (hh : d ≤ 3000) : Met l yX2_takesBehindDue wsX2_takesBehindDue ({ frames := 3, cells := 0, slots := 0, locals := 65 } : Room) (zPre g [.ref (p 0), .int (nI c), .int (nI g9)] [wPd g p fb tx len ex (nI a) (nI s) (nI h) (nI d)]) (zQ g (fun _ : Unit => some (.int (bI (decide (d ≠ 0 ∧ 10 * d + g9 ≤ 3000)))) ) (fun _ : Unit => True) (fun _ : Unit => [wPd g p fb tx len ex (nI a) (nI s) (nI h) (nI (10 * d + g9))]) (zA [wPd g p fb tx len ex (nI a) (nI s) (nI h) (nI d)])) 0 0 (zA [wPd g p fb tx len ex (nI a) (nI s) (nI h) (nI d)]) := by
  refine z_entry (cc := cX2_takesBehindDue) (maxL := 4) (ret := (some .boolean)) (own := RX2) (by decide) rfl rfl (Nat.le_of_ble_eq_true rfl) [(0, .ref (p 0)), (1, .int (nI c)), (2, .int (nI g9))] rfl ?_
  intro K hKl hKg hnL C hRx
  subst hKl
  subst hKg
  refine z_iload_n C 2 rfl rfl dX2_takesBehindDue_0 1 rfl ?_
  refine z_bipush C (v := (-6)) rfl dX2_takesBehindDue_1 3 rfl ?_
  refine z_icmpI_eq C 52 dX2_takesBehindDue_3 (by decide) 6 rfl (fun c_1 => ?_) (fun c_1 => ?_)
  · exfalso; exact nI_n6 (by omega) c_1
  refine z_aload_n C 0 rfl rfl dX2_takesBehindDue_6 7 rfl ?_
  refine z_get C zc2 iX2_takesBehindDue_X2 0 0 rfl rfl 7 (Nat.le_of_ble_eq_true rfl) (List.mem_of_getElem? (i := 1) rfl) (v := .int (nI d)) rfl dX2_takesBehindDue_7 10 rfl ?_
  refine z_if_ne C (by omega) 17 dX2_takesBehindDue_10 (by decide) 13 rfl (fun c_2 => ?_) (fun c_2 => ?_)
  · skip
    refine z_iconst C (v := nI 0) rfl dX2_takesBehindDue_17 18 rfl ?_
    refine z_istore_n C hnL [1, 2, 3, 0] [(0, .ref (p 0)), (1, .int (nI c)), (2, .int (nI g9)), (3, .int (nI 0))] rfl rfl (Nat.le_of_ble_eq_true rfl) dX2_takesBehindDue_18 19 rfl ?_
    refine z_aload_n C 0 rfl rfl dX2_takesBehindDue_19 20 rfl ?_
    refine z_bipush C (v := nI 10) rfl dX2_takesBehindDue_20 22 rfl ?_
    refine z_aload_n C 0 rfl rfl dX2_takesBehindDue_22 23 rfl ?_
    refine z_get C zc2 iX2_takesBehindDue_X2 0 0 rfl rfl 7 (Nat.le_of_ble_eq_true rfl) (List.mem_of_getElem? (i := 1) rfl) (v := .int (nI d)) rfl dX2_takesBehindDue_23 26 rfl ?_
    refine z_imul C dX2_takesBehindDue_26 27 rfl ?_
    refine z_iload_n C 2 rfl rfl dX2_takesBehindDue_27 28 rfl ?_
    refine z_iadd C dX2_takesBehindDue_28 29 rfl ?_
    refine z_put C zc2 iX2_takesBehindDue_X2 0 0 rfl rfl 7 (Nat.le_of_ble_eq_true rfl) (List.mem_of_getElem? (i := 1) rfl) rfl rfl rfl (Nat.le_of_ble_eq_true rfl) (wPd K.g p fb tx len ex (nI a) (nI s) (nI h) (nI ((10 * d) + g9))) rfl [wPd K.g p fb tx len ex (nI a) (nI s) (nI h) (nI ((10 * d) + g9))] rfl dX2_takesBehindDue_29 32 rfl ?_
    refine z_iload_n C 3 rfl rfl dX2_takesBehindDue_32 33 rfl ?_
    refine z_if_ne C (by omega) 50 dX2_takesBehindDue_33 (by decide) 36 rfl (fun c_3 => ?_) (fun c_3 => ?_)
    · exfalso; omega
    refine z_aload_n C 0 rfl rfl dX2_takesBehindDue_36 37 rfl ?_
    refine z_get C zc2 iX2_takesBehindDue_X2 0 0 rfl rfl 7 (Nat.le_of_ble_eq_true rfl) (List.mem_of_getElem? (i := 1) rfl) (v := .int (nI ((10 * d) + g9))) rfl dX2_takesBehindDue_37 40 rfl ?_
    refine z_sipush C (v := nI 3000) rfl dX2_takesBehindDue_40 43 rfl ?_
    refine z_icmp_gt C (by omega) (by omega) 50 dX2_takesBehindDue_43 (by decide) 46 rfl (fun c_4 => ?_) (fun c_4 => ?_)
    · skip
      refine z_iconst C (v := nI 0) rfl dX2_takesBehindDue_50 51 rfl ?_
      refine z_eq (st2 := [.int (bI false)]) ?_ rfl rfl rfl
      exact z_bret C hRx dX2_takesBehindDue_51 () (by rw [decide_eq_false (by omega)]) trivial rfl
    · skip
      refine z_iconst C (v := nI 1) rfl dX2_takesBehindDue_46 47 rfl ?_
      refine z_goto C 51 dX2_takesBehindDue_47 (by decide) ?_
      refine z_eq (st2 := [.int (bI true)]) ?_ rfl rfl rfl
      exact z_bret C hRx dX2_takesBehindDue_51 () (by rw [decide_eq_true (by omega)]) trivial rfl
  · skip
    refine z_iconst C (v := nI 1) rfl dX2_takesBehindDue_13 14 rfl ?_
    refine z_goto C 18 dX2_takesBehindDue_14 (by decide) ?_
    refine z_istore_n C hnL [1, 2, 3, 0] [(0, .ref (p 0)), (1, .int (nI c)), (2, .int (nI g9)), (3, .int (nI 1))] rfl rfl (Nat.le_of_ble_eq_true rfl) dX2_takesBehindDue_18 19 rfl ?_
    refine z_aload_n C 0 rfl rfl dX2_takesBehindDue_19 20 rfl ?_
    refine z_bipush C (v := nI 10) rfl dX2_takesBehindDue_20 22 rfl ?_
    refine z_aload_n C 0 rfl rfl dX2_takesBehindDue_22 23 rfl ?_
    refine z_get C zc2 iX2_takesBehindDue_X2 0 0 rfl rfl 7 (Nat.le_of_ble_eq_true rfl) (List.mem_of_getElem? (i := 1) rfl) (v := .int (nI d)) rfl dX2_takesBehindDue_23 26 rfl ?_
    refine z_imul C dX2_takesBehindDue_26 27 rfl ?_
    refine z_iload_n C 2 rfl rfl dX2_takesBehindDue_27 28 rfl ?_
    refine z_iadd C dX2_takesBehindDue_28 29 rfl ?_
    refine z_put C zc2 iX2_takesBehindDue_X2 0 0 rfl rfl 7 (Nat.le_of_ble_eq_true rfl) (List.mem_of_getElem? (i := 1) rfl) rfl rfl rfl (Nat.le_of_ble_eq_true rfl) (wPd K.g p fb tx len ex (nI a) (nI s) (nI h) (nI ((10 * d) + g9))) rfl [wPd K.g p fb tx len ex (nI a) (nI s) (nI h) (nI ((10 * d) + g9))] rfl dX2_takesBehindDue_29 32 rfl ?_
    refine z_iload_n C 3 rfl rfl dX2_takesBehindDue_32 33 rfl ?_
    refine z_if_ne C (by omega) 50 dX2_takesBehindDue_33 (by decide) 36 rfl (fun c_5 => ?_) (fun c_5 => ?_)
    rotate_left
    · exfalso; omega
    refine z_iconst C (v := nI 0) rfl dX2_takesBehindDue_50 51 rfl ?_
    refine z_eq (st2 := [.int (bI false)]) ?_ rfl rfl rfl
    exact z_bret C hRx dX2_takesBehindDue_51 () (by rw [decide_eq_false (by omega)]) trivial rfl

set_option maxHeartbeats 4000000 in
set_option maxRecDepth 100000 in
theorem tX2_takesBehindDue_59 (l : Launch) (g : zG) (p fb tx : Nat → Nat) (len ex a s h d : Nat) (st : Nat → Nat) (r : Nat → Nat → Nat) (n : Nat) (hn : n < 12) : Met l yX2_takesBehindDue wsX2_takesBehindDue ({ frames := 3, cells := 0, slots := 0, locals := 65 } : Room) (zPre g [.ref (p 0), .int (nI 59), .int (-6)] [wPd g p fb tx len ex (nI a) (nI s) (nI h) (nI d), wB g fb st r n]) (zQ g (fun _ : Unit => some (.int (bI true)) ) (fun _ : Unit => True) (fun _ : Unit => [wPd g p fb tx len 0 (nI a) (nI s) (nI h) (nI d), wB g fb st (apR r n a s h d) (n + 1)]) (zA [wPd g p fb tx len ex (nI a) (nI s) (nI h) (nI d), wB g fb st r n])) 0 0 (zA [wPd g p fb tx len ex (nI a) (nI s) (nI h) (nI d), wB g fb st r n]) := by
  refine z_entry (cc := cX2_takesBehindDue) (maxL := 4) (ret := (some .boolean)) (own := RX2) (by decide) rfl rfl (Nat.le_of_ble_eq_true rfl) [(0, .ref (p 0)), (1, .int (nI 59)), (2, .int (-6))] rfl ?_
  intro K hKl hKg hnL C hRx
  subst hKl
  subst hKg
  refine z_iload_n C 2 rfl rfl dX2_takesBehindDue_0 1 rfl ?_
  refine z_bipush C (v := (-6)) rfl dX2_takesBehindDue_1 3 rfl ?_
  refine z_icmpI_eq C 52 dX2_takesBehindDue_3 (by decide) 6 rfl (fun c_1 => ?_) (fun c_1 => ?_)
  rotate_left
  · exfalso; exact c_1 rfl
  refine z_aload_n C 0 rfl rfl dX2_takesBehindDue_52 53 rfl ?_
  refine z_iload_n C 1 rfl rfl dX2_takesBehindDue_53 54 rfl ?_
  refine z_callV C [.int (nI 59)] [] (tX2_takesEndOfJob_y K.l K.g p fb tx len ex a s h d st r n (by first | omega | assumption)) gX2_takesBehindDue_X2_takesEndOfJob rfl rfl rfl hdX2_takesEndOfJob ⟨Nat.le_of_ble_eq_true rfl, Nat.le_of_ble_eq_true rfl⟩ ⟨Nat.zero_le _, Nat.zero_le _⟩ 0 0 rfl rfl rfl [0, 1] rfl rfl (zlc (N := 2) rfl rfl) [2, 3] rfl (by decide) (fun _ : Unit => [wPd K.g p fb tx len 0 (nI a) (nI s) (nI h) (nI d), wB K.g fb st (apR r n a s h d) (n + 1)]) (fun _ => rfl) rfl rfl (Nat.le_of_ble_eq_true rfl) dX2_takesBehindDue_54 57 rfl (fun u9 hu9 => ?_)
  show Z K 0 0 [wPd K.g p fb tx len 0 (nI a) (nI s) (nI h) (nI d), wB K.g fb st (apR r n a s h d) (n + 1)] [(0, .ref (p 0)), (1, .int (nI 59)), (2, .int (-6))] 57 [.int (bI true)]
  exact z_bret C hRx dX2_takesBehindDue_57 () rfl trivial rfl

set_option maxHeartbeats 4000000 in
set_option maxRecDepth 100000 in
theorem tX2_takesBehindDue_x (l : Launch) (g : zG) (p fb tx : Nat → Nat) (len ex : Nat) (P0 S0 H0 D0 : Int32) (c : Nat) (hc : c ≤ 1000) (hx : c ≠ 59) : Met l yX2_takesBehindDue wsX2_takesBehindDue ({ frames := 3, cells := 0, slots := 0, locals := 65 } : Room) (zPre g [.ref (p 0), .int (nI c), .int (-6)] [wPd g p fb tx len ex P0 S0 H0 D0]) (zQ g (fun _ : Unit => some (.int (bI false)) ) (fun _ : Unit => True) (fun _ : Unit => [wPd g p fb tx len ex P0 S0 H0 D0]) (zA [wPd g p fb tx len ex P0 S0 H0 D0])) 0 0 (zA [wPd g p fb tx len ex P0 S0 H0 D0]) := by
  refine z_entry (cc := cX2_takesBehindDue) (maxL := 4) (ret := (some .boolean)) (own := RX2) (by decide) rfl rfl (Nat.le_of_ble_eq_true rfl) [(0, .ref (p 0)), (1, .int (nI c)), (2, .int (-6))] rfl ?_
  intro K hKl hKg hnL C hRx
  subst hKl
  subst hKg
  refine z_iload_n C 2 rfl rfl dX2_takesBehindDue_0 1 rfl ?_
  refine z_bipush C (v := (-6)) rfl dX2_takesBehindDue_1 3 rfl ?_
  refine z_icmpI_eq C 52 dX2_takesBehindDue_3 (by decide) 6 rfl (fun c_1 => ?_) (fun c_1 => ?_)
  rotate_left
  · exfalso; exact c_1 rfl
  refine z_aload_n C 0 rfl rfl dX2_takesBehindDue_52 53 rfl ?_
  refine z_iload_n C 1 rfl rfl dX2_takesBehindDue_53 54 rfl ?_
  refine z_callV C [.int (nI c)] [] (tX2_takesEndOfJob_n K.l K.g p fb tx len ex P0 S0 H0 D0 c (by first | omega | assumption) (by first | omega | assumption)) gX2_takesBehindDue_X2_takesEndOfJob rfl rfl rfl hdX2_takesEndOfJob ⟨Nat.le_of_ble_eq_true rfl, Nat.le_of_ble_eq_true rfl⟩ ⟨Nat.zero_le _, Nat.zero_le _⟩ 0 0 rfl rfl rfl [0] rfl rfl (zlc (N := 1) rfl rfl) [1] rfl (by decide) (fun _ : Unit => [wPd K.g p fb tx len ex P0 S0 H0 D0]) (fun _ => rfl) rfl rfl (Nat.le_of_ble_eq_true rfl) dX2_takesBehindDue_54 57 rfl (fun u9 hu9 => ?_)
  show Z K 0 0 [wPd K.g p fb tx len ex P0 S0 H0 D0] [(0, .ref (p 0)), (1, .int (nI c)), (2, .int (-6))] 57 [.int (bI false)]
  exact z_bret C hRx dX2_takesBehindDue_57 () rfl trivial rfl

theorem iX2_takes_X2 : ∀ w ∈ u_ws RX2 TX2 8, w ∈ wsX2_takes := fun w h => (List.mem_cons_of_mem _ (List.mem_append_left _ (List.mem_append_right _ h)))
set_option maxHeartbeats 4000000 in
set_option maxRecDepth 100000 in
theorem tX2_takes (l : Launch) (g : zG) (p fb tx : Nat → Nat) (len ex : Nat) (P0 S0 H0 D0 : Int32) (st : Nat → Nat) (r : Nat → Nat → Nat) (n : Nat) (a s h d c : Nat) (hV : VV ex a s h d P0 S0 H0 D0) (hn : n < 12) (hc : c ≤ 126) : Met l yX2_takes wsX2_takes ({ frames := 4, cells := 0, slots := 0, locals := 88 } : Room) (zPre g [.ref (p 0), .int (nI c)] [wPd g p fb tx len ex P0 S0 H0 D0, wB g fb st r n]) (zQ g (fun u : (Nat) × (Int32) × (Int32) × (Int32) × (Int32) × (Nat) × (Nat → Nat → Nat) => match u with | (ex2, P2, S2, H2, D2, n2, r2) => some (.int (bI (auOK ex h d c))) ) (fun u : (Nat) × (Int32) × (Int32) × (Int32) × (Int32) × (Nat) × (Nat → Nat → Nat) => match u with | (ex2, P2, S2, H2, D2, n2, r2) => (auOK ex h d c = true → TKP (ex, a, s, h, d, n, r) c ex2 P2 S2 H2 D2 n2 r2)) (fun u : (Nat) × (Int32) × (Int32) × (Int32) × (Int32) × (Nat) × (Nat → Nat → Nat) => match u with | (ex2, P2, S2, H2, D2, n2, r2) => [wPd g p fb tx len ex2 P2 S2 H2 D2, wB g fb st r2 n2]) (zA [wPd g p fb tx len ex P0 S0 H0 D0, wB g fb st r n])) 0 0 (zA [wPd g p fb tx len ex P0 S0 H0 D0, wB g fb st r n]) := by
  refine z_entry (cc := cX2_takes) (maxL := 3) (ret := (some .boolean)) (own := RX2) (by decide) rfl rfl (Nat.le_of_ble_eq_true rfl) [(0, .ref (p 0)), (1, .int (nI c))] rfl ?_
  intro K hKl hKg hnL C hRx
  subst hKl
  subst hKg
  have hex := hV.1
  rcases (show ex = 0 ∨ ex = 1 ∨ ex = 2 ∨ ex = 3 ∨ ex = 4 ∨ ex = 5 ∨ ex = 6 ∨ ex = 7 ∨ ex = 8 by omega) with rfl | rfl | rfl | rfl | rfl | rfl | rfl | rfl | rfl
  · skip
    by_cases hdg : 48 ≤ c ∧ c ≤ 57
    · skip
      refine z_iload_n C 1 rfl rfl dX2_takes_0 1 rfl ?_
      refine z_bipush C (v := nI 48) rfl dX2_takes_1 3 rfl ?_
      refine z_bipush C (v := nI 57) rfl dX2_takes_3 5 rfl ?_
      refine z_callN C [.int (nI c), .int (nI 48), .int (nI 57)] [] (tX4_withinN K.l K.g (nI c) 48 57 (by first | omega | assumption) (by first | omega | assumption)) gX2_takes_X4_within_n39 rfl rfl rfl C.kp.2.2.1 (List.mem_of_getElem? (i := 7) rfl) (List.mem_of_getElem? (i := 6) rfl) hdX4_within ⟨Nat.le_of_ble_eq_true rfl, Nat.le_of_ble_eq_true rfl⟩ ⟨Nat.zero_le _, Nat.zero_le _⟩ rfl rfl (Nat.le_of_ble_eq_true rfl) dX2_takes_5 8 rfl (fun u9 hu9 => ?_)
      show Z K 0 0 [wPd K.g p fb tx len 0 P0 S0 H0 D0, wB K.g fb st r n] [(0, .ref (p 0)), (1, .int (nI c))] 8 [.int (bI (rg (nI c).toInt (Int.ofNat 48) (Int.ofNat 57)))]
      refine z_ifb_eq C 18 dX2_takes_8 (by decide) 11 rfl (fun c_1 => ?_) (fun c_1 => ?_)
      · exfalso; rw [rgN_t (by omega) (by omega) (by omega)] at c_1; exact Bool.noConfusion c_1
      refine z_iload_n C 1 rfl rfl dX2_takes_11 12 rfl ?_
      refine z_bipush C (v := nI 48) rfl dX2_takes_12 14 rfl ?_
      refine z_isub C (by omega) dX2_takes_14 15 rfl ?_
      refine z_goto C 20 dX2_takes_15 (by decide) ?_
      refine z_istore_n C hnL [1, 2, 0] [(0, .ref (p 0)), (1, .int (nI c)), (2, .int (nI (c - 48)))] rfl rfl (Nat.le_of_ble_eq_true rfl) dX2_takes_20 21 rfl ?_
      refine z_aload_n C 0 rfl rfl dX2_takes_21 22 rfl ?_
      refine z_get C zc2 iX2_takes_X2 0 0 rfl rfl 3 (Nat.le_of_ble_eq_true rfl) (List.mem_of_getElem? (i := 1) rfl) (v := .int (nI 0)) rfl dX2_takes_22 25 rfl ?_
      refine z_tab C (by decide) 72 dX2_takes_25 (by decide) (by decide) rfl (by decide) ?_
      refine z_aload_n C 0 rfl rfl dX2_takes_72 73 rfl ?_
      refine z_iload_n C 1 rfl rfl dX2_takes_73 74 rfl ?_
      refine z_bipush C (v := nI 112) rfl dX2_takes_74 76 rfl ?_
      refine z_callV C [.int (nI c), .int (nI 112)] [] (tX2_takesLetter K.l K.g p fb tx len 0 P0 S0 H0 D0 c 112 (by first | omega | assumption) (by first | omega | assumption)) gX2_takes_X2_takesLetter rfl rfl rfl hdX2_takesLetter ⟨Nat.le_of_ble_eq_true rfl, Nat.le_of_ble_eq_true rfl⟩ ⟨Nat.zero_le _, Nat.zero_le _⟩ 0 0 rfl rfl rfl [0] rfl rfl (zlc (N := 2) rfl rfl) [2, 1] rfl (by decide) (fun _ : Unit => [wPd K.g p fb tx len (0 + 1) P0 S0 H0 D0, wB K.g fb st r n]) (fun _ => rfl) rfl rfl (Nat.le_of_ble_eq_true rfl) dX2_takes_76 79 rfl (fun u9 hu9 => ?_)
      show Z K 0 0 [wPd K.g p fb tx len (0 + 1) P0 S0 H0 D0, wB K.g fb st r n] [(0, .ref (p 0)), (1, .int (nI c)), (2, .int (nI (c - 48)))] 79 [.int (bI (decide (c = 112)))]
      exact z_bret C hRx dX2_takes_79 (0 + 1, P0, S0, H0, D0, n, r) rfl (fun h7 => ⟨rfl, rfl, rfl, by refine ⟨by omega, fun h8 => ?_, fun h8 => ?_, fun h8 => ?_⟩ <;> first | (exfalso; omega) | exact ⟨rfl, by omega⟩ | exact ⟨rfl, by omega, by omega, rfl, by omega⟩⟩) rfl
    · skip
      refine z_iload_n C 1 rfl rfl dX2_takes_0 1 rfl ?_
      refine z_bipush C (v := nI 48) rfl dX2_takes_1 3 rfl ?_
      refine z_bipush C (v := nI 57) rfl dX2_takes_3 5 rfl ?_
      refine z_callN C [.int (nI c), .int (nI 48), .int (nI 57)] [] (tX4_withinN K.l K.g (nI c) 48 57 (by first | omega | assumption) (by first | omega | assumption)) gX2_takes_X4_within_n39 rfl rfl rfl C.kp.2.2.1 (List.mem_of_getElem? (i := 7) rfl) (List.mem_of_getElem? (i := 6) rfl) hdX4_within ⟨Nat.le_of_ble_eq_true rfl, Nat.le_of_ble_eq_true rfl⟩ ⟨Nat.zero_le _, Nat.zero_le _⟩ rfl rfl (Nat.le_of_ble_eq_true rfl) dX2_takes_5 8 rfl (fun u9 hu9 => ?_)
      show Z K 0 0 [wPd K.g p fb tx len 0 P0 S0 H0 D0, wB K.g fb st r n] [(0, .ref (p 0)), (1, .int (nI c))] 8 [.int (bI (rg (nI c).toInt (Int.ofNat 48) (Int.ofNat 57)))]
      refine z_ifb_eq C 18 dX2_takes_8 (by decide) 11 rfl (fun c_2 => ?_) (fun c_2 => ?_)
      rotate_left
      · exfalso; rw [rgN_f (by omega) (by omega)] at c_2; exact Bool.noConfusion c_2
      refine z_bipush C (v := (-6)) rfl dX2_takes_18 20 rfl ?_
      refine z_istore_n C hnL [1, 2, 0] [(0, .ref (p 0)), (1, .int (nI c)), (2, .int (-6))] rfl rfl (Nat.le_of_ble_eq_true rfl) dX2_takes_20 21 rfl ?_
      refine z_aload_n C 0 rfl rfl dX2_takes_21 22 rfl ?_
      refine z_get C zc2 iX2_takes_X2 0 0 rfl rfl 3 (Nat.le_of_ble_eq_true rfl) (List.mem_of_getElem? (i := 1) rfl) (v := .int (nI 0)) rfl dX2_takes_22 25 rfl ?_
      refine z_tab C (by decide) 72 dX2_takes_25 (by decide) (by decide) rfl (by decide) ?_
      refine z_aload_n C 0 rfl rfl dX2_takes_72 73 rfl ?_
      refine z_iload_n C 1 rfl rfl dX2_takes_73 74 rfl ?_
      refine z_bipush C (v := nI 112) rfl dX2_takes_74 76 rfl ?_
      refine z_callV C [.int (nI c), .int (nI 112)] [] (tX2_takesLetter K.l K.g p fb tx len 0 P0 S0 H0 D0 c 112 (by first | omega | assumption) (by first | omega | assumption)) gX2_takes_X2_takesLetter rfl rfl rfl hdX2_takesLetter ⟨Nat.le_of_ble_eq_true rfl, Nat.le_of_ble_eq_true rfl⟩ ⟨Nat.zero_le _, Nat.zero_le _⟩ 0 0 rfl rfl rfl [0] rfl rfl (zlc (N := 2) rfl rfl) [2, 1] rfl (by decide) (fun _ : Unit => [wPd K.g p fb tx len (0 + 1) P0 S0 H0 D0, wB K.g fb st r n]) (fun _ => rfl) rfl rfl (Nat.le_of_ble_eq_true rfl) dX2_takes_76 79 rfl (fun u9 hu9 => ?_)
      show Z K 0 0 [wPd K.g p fb tx len (0 + 1) P0 S0 H0 D0, wB K.g fb st r n] [(0, .ref (p 0)), (1, .int (nI c)), (2, .int (-6))] 79 [.int (bI (decide (c = 112)))]
      exact z_bret C hRx dX2_takes_79 (0 + 1, P0, S0, H0, D0, n, r) rfl (fun h7 => ⟨rfl, rfl, rfl, by refine ⟨by omega, fun h8 => ?_, fun h8 => ?_, fun h8 => ?_⟩ <;> first | (exfalso; omega) | exact ⟨rfl, by omega⟩ | exact ⟨rfl, by omega, by omega, rfl, by omega⟩⟩) rfl
  · skip
    by_cases hdg : 48 ≤ c ∧ c ≤ 57
    · skip
      refine z_iload_n C 1 rfl rfl dX2_takes_0 1 rfl ?_
      refine z_bipush C (v := nI 48) rfl dX2_takes_1 3 rfl ?_
      refine z_bipush C (v := nI 57) rfl dX2_takes_3 5 rfl ?_
      refine z_callN C [.int (nI c), .int (nI 48), .int (nI 57)] [] (tX4_withinN K.l K.g (nI c) 48 57 (by first | omega | assumption) (by first | omega | assumption)) gX2_takes_X4_within_n39 rfl rfl rfl C.kp.2.2.1 (List.mem_of_getElem? (i := 7) rfl) (List.mem_of_getElem? (i := 6) rfl) hdX4_within ⟨Nat.le_of_ble_eq_true rfl, Nat.le_of_ble_eq_true rfl⟩ ⟨Nat.zero_le _, Nat.zero_le _⟩ rfl rfl (Nat.le_of_ble_eq_true rfl) dX2_takes_5 8 rfl (fun u9 hu9 => ?_)
      show Z K 0 0 [wPd K.g p fb tx len 1 P0 S0 H0 D0, wB K.g fb st r n] [(0, .ref (p 0)), (1, .int (nI c))] 8 [.int (bI (rg (nI c).toInt (Int.ofNat 48) (Int.ofNat 57)))]
      refine z_ifb_eq C 18 dX2_takes_8 (by decide) 11 rfl (fun c_3 => ?_) (fun c_3 => ?_)
      · exfalso; rw [rgN_t (by omega) (by omega) (by omega)] at c_3; exact Bool.noConfusion c_3
      refine z_iload_n C 1 rfl rfl dX2_takes_11 12 rfl ?_
      refine z_bipush C (v := nI 48) rfl dX2_takes_12 14 rfl ?_
      refine z_isub C (by omega) dX2_takes_14 15 rfl ?_
      refine z_goto C 20 dX2_takes_15 (by decide) ?_
      refine z_istore_n C hnL [1, 2, 0] [(0, .ref (p 0)), (1, .int (nI c)), (2, .int (nI (c - 48)))] rfl rfl (Nat.le_of_ble_eq_true rfl) dX2_takes_20 21 rfl ?_
      refine z_aload_n C 0 rfl rfl dX2_takes_21 22 rfl ?_
      refine z_get C zc2 iX2_takes_X2 0 0 rfl rfl 3 (Nat.le_of_ble_eq_true rfl) (List.mem_of_getElem? (i := 1) rfl) (v := .int (nI 1)) rfl dX2_takes_22 25 rfl ?_
      refine z_tab C (by decide) 80 dX2_takes_25 (by decide) (by decide) rfl (by decide) ?_
      refine z_aload_n C 0 rfl rfl dX2_takes_80 81 rfl ?_
      refine z_iload_n C 2 rfl rfl dX2_takes_81 82 rfl ?_
      refine z_put C zc2 iX2_takes_X2 0 0 rfl rfl 4 (Nat.le_of_ble_eq_true rfl) (List.mem_of_getElem? (i := 2) rfl) rfl rfl rfl (Nat.le_of_ble_eq_true rfl) (wPd K.g p fb tx len 1 (nI (c - 48)) S0 H0 D0) rfl [wPd K.g p fb tx len 1 (nI (c - 48)) S0 H0 D0, wB K.g fb st r n] rfl dX2_takes_82 85 rfl ?_
      refine z_aload_n C 0 rfl rfl dX2_takes_85 86 rfl ?_
      refine z_iconst C (v := nI 2) rfl dX2_takes_86 87 rfl ?_
      refine z_put C zc2 iX2_takes_X2 0 0 rfl rfl 3 (Nat.le_of_ble_eq_true rfl) (List.mem_of_getElem? (i := 1) rfl) rfl rfl rfl (Nat.le_of_ble_eq_true rfl) (wPd K.g p fb tx len 2 (nI (c - 48)) S0 H0 D0) rfl [wPd K.g p fb tx len 2 (nI (c - 48)) S0 H0 D0, wB K.g fb st r n] rfl dX2_takes_87 90 rfl ?_
      refine z_iload_n C 2 rfl rfl dX2_takes_90 91 rfl ?_
      refine z_bipush C (v := (-6)) rfl dX2_takes_91 93 rfl ?_
      refine z_icmpI_eq C 100 dX2_takes_93 (by decide) 96 rfl (fun c_4 => ?_) (fun c_4 => ?_)
      · exfalso; exact nI_n6 (by omega) c_4
      refine z_iconst C (v := nI 1) rfl dX2_takes_96 97 rfl ?_
      refine z_goto C 101 dX2_takes_97 (by decide) ?_
      refine z_eq (st2 := [.int (bI true)]) ?_ rfl rfl rfl
      exact z_bret C hRx dX2_takes_101 (2, nI (c - 48), S0, H0, D0, n, r) (by rw [(show auOK 1 h d c = true from decide_eq_true (by omega))]) (fun _ => ⟨rfl, rfl, rfl, by refine ⟨by omega, fun h8 => ?_, fun h8 => ?_, fun h8 => ?_⟩ <;> first | (exfalso; omega) | exact ⟨rfl, by omega⟩ | exact ⟨rfl, by omega, by omega, rfl, by omega⟩⟩) rfl
    · skip
      refine z_iload_n C 1 rfl rfl dX2_takes_0 1 rfl ?_
      refine z_bipush C (v := nI 48) rfl dX2_takes_1 3 rfl ?_
      refine z_bipush C (v := nI 57) rfl dX2_takes_3 5 rfl ?_
      refine z_callN C [.int (nI c), .int (nI 48), .int (nI 57)] [] (tX4_withinN K.l K.g (nI c) 48 57 (by first | omega | assumption) (by first | omega | assumption)) gX2_takes_X4_within_n39 rfl rfl rfl C.kp.2.2.1 (List.mem_of_getElem? (i := 7) rfl) (List.mem_of_getElem? (i := 6) rfl) hdX4_within ⟨Nat.le_of_ble_eq_true rfl, Nat.le_of_ble_eq_true rfl⟩ ⟨Nat.zero_le _, Nat.zero_le _⟩ rfl rfl (Nat.le_of_ble_eq_true rfl) dX2_takes_5 8 rfl (fun u9 hu9 => ?_)
      show Z K 0 0 [wPd K.g p fb tx len 1 P0 S0 H0 D0, wB K.g fb st r n] [(0, .ref (p 0)), (1, .int (nI c))] 8 [.int (bI (rg (nI c).toInt (Int.ofNat 48) (Int.ofNat 57)))]
      refine z_ifb_eq C 18 dX2_takes_8 (by decide) 11 rfl (fun c_5 => ?_) (fun c_5 => ?_)
      rotate_left
      · exfalso; rw [rgN_f (by omega) (by omega)] at c_5; exact Bool.noConfusion c_5
      refine z_bipush C (v := (-6)) rfl dX2_takes_18 20 rfl ?_
      refine z_istore_n C hnL [1, 2, 0] [(0, .ref (p 0)), (1, .int (nI c)), (2, .int (-6))] rfl rfl (Nat.le_of_ble_eq_true rfl) dX2_takes_20 21 rfl ?_
      refine z_aload_n C 0 rfl rfl dX2_takes_21 22 rfl ?_
      refine z_get C zc2 iX2_takes_X2 0 0 rfl rfl 3 (Nat.le_of_ble_eq_true rfl) (List.mem_of_getElem? (i := 1) rfl) (v := .int (nI 1)) rfl dX2_takes_22 25 rfl ?_
      refine z_tab C (by decide) 80 dX2_takes_25 (by decide) (by decide) rfl (by decide) ?_
      refine z_aload_n C 0 rfl rfl dX2_takes_80 81 rfl ?_
      refine z_iload_n C 2 rfl rfl dX2_takes_81 82 rfl ?_
      refine z_put C zc2 iX2_takes_X2 0 0 rfl rfl 4 (Nat.le_of_ble_eq_true rfl) (List.mem_of_getElem? (i := 2) rfl) rfl rfl rfl (Nat.le_of_ble_eq_true rfl) (wPd K.g p fb tx len 1 (-6) S0 H0 D0) rfl [wPd K.g p fb tx len 1 (-6) S0 H0 D0, wB K.g fb st r n] rfl dX2_takes_82 85 rfl ?_
      refine z_aload_n C 0 rfl rfl dX2_takes_85 86 rfl ?_
      refine z_iconst C (v := nI 2) rfl dX2_takes_86 87 rfl ?_
      refine z_put C zc2 iX2_takes_X2 0 0 rfl rfl 3 (Nat.le_of_ble_eq_true rfl) (List.mem_of_getElem? (i := 1) rfl) rfl rfl rfl (Nat.le_of_ble_eq_true rfl) (wPd K.g p fb tx len 2 (-6) S0 H0 D0) rfl [wPd K.g p fb tx len 2 (-6) S0 H0 D0, wB K.g fb st r n] rfl dX2_takes_87 90 rfl ?_
      refine z_iload_n C 2 rfl rfl dX2_takes_90 91 rfl ?_
      refine z_bipush C (v := (-6)) rfl dX2_takes_91 93 rfl ?_
      refine z_icmpI_eq C 100 dX2_takes_93 (by decide) 96 rfl (fun c_6 => ?_) (fun c_6 => ?_)
      rotate_left
      · exfalso; exact c_6 rfl
      refine z_iconst C (v := nI 0) rfl dX2_takes_100 101 rfl ?_
      refine z_eq (st2 := [.int (bI false)]) ?_ rfl rfl rfl
      exact z_bret C hRx dX2_takes_101 (2, (-6), S0, H0, D0, n, r) (by rw [(show auOK 1 h d c = false from decide_eq_false (by omega))]) (fun h7 => by rw [(show auOK 1 h d c = false from decide_eq_false (by omega))] at h7; exact Bool.noConfusion h7) rfl
  · skip
    obtain ⟨rfl, ha⟩ := hV.2.1 (by omega)
    by_cases hdg : 48 ≤ c ∧ c ≤ 57
    · skip
      refine z_iload_n C 1 rfl rfl dX2_takes_0 1 rfl ?_
      refine z_bipush C (v := nI 48) rfl dX2_takes_1 3 rfl ?_
      refine z_bipush C (v := nI 57) rfl dX2_takes_3 5 rfl ?_
      refine z_callN C [.int (nI c), .int (nI 48), .int (nI 57)] [] (tX4_withinN K.l K.g (nI c) 48 57 (by first | omega | assumption) (by first | omega | assumption)) gX2_takes_X4_within_n39 rfl rfl rfl C.kp.2.2.1 (List.mem_of_getElem? (i := 7) rfl) (List.mem_of_getElem? (i := 6) rfl) hdX4_within ⟨Nat.le_of_ble_eq_true rfl, Nat.le_of_ble_eq_true rfl⟩ ⟨Nat.zero_le _, Nat.zero_le _⟩ rfl rfl (Nat.le_of_ble_eq_true rfl) dX2_takes_5 8 rfl (fun u9 hu9 => ?_)
      show Z K 0 0 [wPd K.g p fb tx len 2 (nI a) S0 H0 D0, wB K.g fb st r n] [(0, .ref (p 0)), (1, .int (nI c))] 8 [.int (bI (rg (nI c).toInt (Int.ofNat 48) (Int.ofNat 57)))]
      refine z_ifb_eq C 18 dX2_takes_8 (by decide) 11 rfl (fun c_7 => ?_) (fun c_7 => ?_)
      · exfalso; rw [rgN_t (by omega) (by omega) (by omega)] at c_7; exact Bool.noConfusion c_7
      refine z_iload_n C 1 rfl rfl dX2_takes_11 12 rfl ?_
      refine z_bipush C (v := nI 48) rfl dX2_takes_12 14 rfl ?_
      refine z_isub C (by omega) dX2_takes_14 15 rfl ?_
      refine z_goto C 20 dX2_takes_15 (by decide) ?_
      refine z_istore_n C hnL [1, 2, 0] [(0, .ref (p 0)), (1, .int (nI c)), (2, .int (nI (c - 48)))] rfl rfl (Nat.le_of_ble_eq_true rfl) dX2_takes_20 21 rfl ?_
      refine z_aload_n C 0 rfl rfl dX2_takes_21 22 rfl ?_
      refine z_get C zc2 iX2_takes_X2 0 0 rfl rfl 3 (Nat.le_of_ble_eq_true rfl) (List.mem_of_getElem? (i := 1) rfl) (v := .int (nI 2)) rfl dX2_takes_22 25 rfl ?_
      refine z_tab C (by decide) 102 dX2_takes_25 (by decide) (by decide) rfl (by decide) ?_
      refine z_aload_n C 0 rfl rfl dX2_takes_102 103 rfl ?_
      refine z_iload_n C 1 rfl rfl dX2_takes_103 104 rfl ?_
      refine z_bipush C (v := nI 115) rfl dX2_takes_104 106 rfl ?_
      refine z_callV C [.int (nI c), .int (nI 115)] [] (tX2_takesLetter K.l K.g p fb tx len 2 (nI a) S0 H0 D0 c 115 (by first | omega | assumption) (by first | omega | assumption)) gX2_takes_X2_takesLetter rfl rfl rfl hdX2_takesLetter ⟨Nat.le_of_ble_eq_true rfl, Nat.le_of_ble_eq_true rfl⟩ ⟨Nat.zero_le _, Nat.zero_le _⟩ 0 0 rfl rfl rfl [0] rfl rfl (zlc (N := 2) rfl rfl) [2, 1] rfl (by decide) (fun _ : Unit => [wPd K.g p fb tx len (2 + 1) (nI a) S0 H0 D0, wB K.g fb st r n]) (fun _ => rfl) rfl rfl (Nat.le_of_ble_eq_true rfl) dX2_takes_106 109 rfl (fun u9 hu9 => ?_)
      show Z K 0 0 [wPd K.g p fb tx len (2 + 1) (nI a) S0 H0 D0, wB K.g fb st r n] [(0, .ref (p 0)), (1, .int (nI c)), (2, .int (nI (c - 48)))] 109 [.int (bI (decide (c = 115)))]
      exact z_bret C hRx dX2_takes_109 (2 + 1, (nI a), S0, H0, D0, n, r) rfl (fun h7 => ⟨rfl, rfl, rfl, by refine ⟨by omega, fun h8 => ?_, fun h8 => ?_, fun h8 => ?_⟩ <;> first | (exfalso; omega) | exact ⟨rfl, by omega⟩ | exact ⟨rfl, by omega, by omega, rfl, by omega⟩⟩) rfl
    · skip
      refine z_iload_n C 1 rfl rfl dX2_takes_0 1 rfl ?_
      refine z_bipush C (v := nI 48) rfl dX2_takes_1 3 rfl ?_
      refine z_bipush C (v := nI 57) rfl dX2_takes_3 5 rfl ?_
      refine z_callN C [.int (nI c), .int (nI 48), .int (nI 57)] [] (tX4_withinN K.l K.g (nI c) 48 57 (by first | omega | assumption) (by first | omega | assumption)) gX2_takes_X4_within_n39 rfl rfl rfl C.kp.2.2.1 (List.mem_of_getElem? (i := 7) rfl) (List.mem_of_getElem? (i := 6) rfl) hdX4_within ⟨Nat.le_of_ble_eq_true rfl, Nat.le_of_ble_eq_true rfl⟩ ⟨Nat.zero_le _, Nat.zero_le _⟩ rfl rfl (Nat.le_of_ble_eq_true rfl) dX2_takes_5 8 rfl (fun u9 hu9 => ?_)
      show Z K 0 0 [wPd K.g p fb tx len 2 (nI a) S0 H0 D0, wB K.g fb st r n] [(0, .ref (p 0)), (1, .int (nI c))] 8 [.int (bI (rg (nI c).toInt (Int.ofNat 48) (Int.ofNat 57)))]
      refine z_ifb_eq C 18 dX2_takes_8 (by decide) 11 rfl (fun c_8 => ?_) (fun c_8 => ?_)
      rotate_left
      · exfalso; rw [rgN_f (by omega) (by omega)] at c_8; exact Bool.noConfusion c_8
      refine z_bipush C (v := (-6)) rfl dX2_takes_18 20 rfl ?_
      refine z_istore_n C hnL [1, 2, 0] [(0, .ref (p 0)), (1, .int (nI c)), (2, .int (-6))] rfl rfl (Nat.le_of_ble_eq_true rfl) dX2_takes_20 21 rfl ?_
      refine z_aload_n C 0 rfl rfl dX2_takes_21 22 rfl ?_
      refine z_get C zc2 iX2_takes_X2 0 0 rfl rfl 3 (Nat.le_of_ble_eq_true rfl) (List.mem_of_getElem? (i := 1) rfl) (v := .int (nI 2)) rfl dX2_takes_22 25 rfl ?_
      refine z_tab C (by decide) 102 dX2_takes_25 (by decide) (by decide) rfl (by decide) ?_
      refine z_aload_n C 0 rfl rfl dX2_takes_102 103 rfl ?_
      refine z_iload_n C 1 rfl rfl dX2_takes_103 104 rfl ?_
      refine z_bipush C (v := nI 115) rfl dX2_takes_104 106 rfl ?_
      refine z_callV C [.int (nI c), .int (nI 115)] [] (tX2_takesLetter K.l K.g p fb tx len 2 (nI a) S0 H0 D0 c 115 (by first | omega | assumption) (by first | omega | assumption)) gX2_takes_X2_takesLetter rfl rfl rfl hdX2_takesLetter ⟨Nat.le_of_ble_eq_true rfl, Nat.le_of_ble_eq_true rfl⟩ ⟨Nat.zero_le _, Nat.zero_le _⟩ 0 0 rfl rfl rfl [0] rfl rfl (zlc (N := 2) rfl rfl) [2, 1] rfl (by decide) (fun _ : Unit => [wPd K.g p fb tx len (2 + 1) (nI a) S0 H0 D0, wB K.g fb st r n]) (fun _ => rfl) rfl rfl (Nat.le_of_ble_eq_true rfl) dX2_takes_106 109 rfl (fun u9 hu9 => ?_)
      show Z K 0 0 [wPd K.g p fb tx len (2 + 1) (nI a) S0 H0 D0, wB K.g fb st r n] [(0, .ref (p 0)), (1, .int (nI c)), (2, .int (-6))] 109 [.int (bI (decide (c = 115)))]
      exact z_bret C hRx dX2_takes_109 (2 + 1, (nI a), S0, H0, D0, n, r) rfl (fun h7 => ⟨rfl, rfl, rfl, by refine ⟨by omega, fun h8 => ?_, fun h8 => ?_, fun h8 => ?_⟩ <;> first | (exfalso; omega) | exact ⟨rfl, by omega⟩ | exact ⟨rfl, by omega, by omega, rfl, by omega⟩⟩) rfl
  · skip
    obtain ⟨rfl, ha⟩ := hV.2.1 (by omega)
    by_cases hdg : 48 ≤ c ∧ c ≤ 57
    · skip
      refine z_iload_n C 1 rfl rfl dX2_takes_0 1 rfl ?_
      refine z_bipush C (v := nI 48) rfl dX2_takes_1 3 rfl ?_
      refine z_bipush C (v := nI 57) rfl dX2_takes_3 5 rfl ?_
      refine z_callN C [.int (nI c), .int (nI 48), .int (nI 57)] [] (tX4_withinN K.l K.g (nI c) 48 57 (by first | omega | assumption) (by first | omega | assumption)) gX2_takes_X4_within_n39 rfl rfl rfl C.kp.2.2.1 (List.mem_of_getElem? (i := 7) rfl) (List.mem_of_getElem? (i := 6) rfl) hdX4_within ⟨Nat.le_of_ble_eq_true rfl, Nat.le_of_ble_eq_true rfl⟩ ⟨Nat.zero_le _, Nat.zero_le _⟩ rfl rfl (Nat.le_of_ble_eq_true rfl) dX2_takes_5 8 rfl (fun u9 hu9 => ?_)
      show Z K 0 0 [wPd K.g p fb tx len 3 (nI a) S0 H0 D0, wB K.g fb st r n] [(0, .ref (p 0)), (1, .int (nI c))] 8 [.int (bI (rg (nI c).toInt (Int.ofNat 48) (Int.ofNat 57)))]
      refine z_ifb_eq C 18 dX2_takes_8 (by decide) 11 rfl (fun c_9 => ?_) (fun c_9 => ?_)
      · exfalso; rw [rgN_t (by omega) (by omega) (by omega)] at c_9; exact Bool.noConfusion c_9
      refine z_iload_n C 1 rfl rfl dX2_takes_11 12 rfl ?_
      refine z_bipush C (v := nI 48) rfl dX2_takes_12 14 rfl ?_
      refine z_isub C (by omega) dX2_takes_14 15 rfl ?_
      refine z_goto C 20 dX2_takes_15 (by decide) ?_
      refine z_istore_n C hnL [1, 2, 0] [(0, .ref (p 0)), (1, .int (nI c)), (2, .int (nI (c - 48)))] rfl rfl (Nat.le_of_ble_eq_true rfl) dX2_takes_20 21 rfl ?_
      refine z_aload_n C 0 rfl rfl dX2_takes_21 22 rfl ?_
      refine z_get C zc2 iX2_takes_X2 0 0 rfl rfl 3 (Nat.le_of_ble_eq_true rfl) (List.mem_of_getElem? (i := 1) rfl) (v := .int (nI 3)) rfl dX2_takes_22 25 rfl ?_
      refine z_tab C (by decide) 110 dX2_takes_25 (by decide) (by decide) rfl (by decide) ?_
      refine z_aload_n C 0 rfl rfl dX2_takes_110 111 rfl ?_
      refine z_iload_n C 2 rfl rfl dX2_takes_111 112 rfl ?_
      refine z_put C zc2 iX2_takes_X2 0 0 rfl rfl 5 (Nat.le_of_ble_eq_true rfl) (List.mem_of_getElem? (i := 3) rfl) rfl rfl rfl (Nat.le_of_ble_eq_true rfl) (wPd K.g p fb tx len 3 (nI a) (nI (c - 48)) H0 D0) rfl [wPd K.g p fb tx len 3 (nI a) (nI (c - 48)) H0 D0, wB K.g fb st r n] rfl dX2_takes_112 115 rfl ?_
      refine z_aload_n C 0 rfl rfl dX2_takes_115 116 rfl ?_
      refine z_iconst C (v := nI 4) rfl dX2_takes_116 117 rfl ?_
      refine z_put C zc2 iX2_takes_X2 0 0 rfl rfl 3 (Nat.le_of_ble_eq_true rfl) (List.mem_of_getElem? (i := 1) rfl) rfl rfl rfl (Nat.le_of_ble_eq_true rfl) (wPd K.g p fb tx len 4 (nI a) (nI (c - 48)) H0 D0) rfl [wPd K.g p fb tx len 4 (nI a) (nI (c - 48)) H0 D0, wB K.g fb st r n] rfl dX2_takes_117 120 rfl ?_
      refine z_iload_n C 2 rfl rfl dX2_takes_120 121 rfl ?_
      refine z_bipush C (v := (-6)) rfl dX2_takes_121 123 rfl ?_
      refine z_icmpI_eq C 130 dX2_takes_123 (by decide) 126 rfl (fun c_10 => ?_) (fun c_10 => ?_)
      · exfalso; exact nI_n6 (by omega) c_10
      refine z_iconst C (v := nI 1) rfl dX2_takes_126 127 rfl ?_
      refine z_goto C 131 dX2_takes_127 (by decide) ?_
      refine z_eq (st2 := [.int (bI true)]) ?_ rfl rfl rfl
      exact z_bret C hRx dX2_takes_131 (4, (nI a), nI (c - 48), H0, D0, n, r) (by rw [(show auOK 3 h d c = true from decide_eq_true (by omega))]) (fun _ => ⟨rfl, rfl, rfl, by refine ⟨by omega, fun h8 => ?_, fun h8 => ?_, fun h8 => ?_⟩ <;> first | (exfalso; omega) | exact ⟨rfl, by omega⟩ | exact ⟨rfl, by omega, by omega, rfl, by omega⟩⟩) rfl
    · skip
      refine z_iload_n C 1 rfl rfl dX2_takes_0 1 rfl ?_
      refine z_bipush C (v := nI 48) rfl dX2_takes_1 3 rfl ?_
      refine z_bipush C (v := nI 57) rfl dX2_takes_3 5 rfl ?_
      refine z_callN C [.int (nI c), .int (nI 48), .int (nI 57)] [] (tX4_withinN K.l K.g (nI c) 48 57 (by first | omega | assumption) (by first | omega | assumption)) gX2_takes_X4_within_n39 rfl rfl rfl C.kp.2.2.1 (List.mem_of_getElem? (i := 7) rfl) (List.mem_of_getElem? (i := 6) rfl) hdX4_within ⟨Nat.le_of_ble_eq_true rfl, Nat.le_of_ble_eq_true rfl⟩ ⟨Nat.zero_le _, Nat.zero_le _⟩ rfl rfl (Nat.le_of_ble_eq_true rfl) dX2_takes_5 8 rfl (fun u9 hu9 => ?_)
      show Z K 0 0 [wPd K.g p fb tx len 3 (nI a) S0 H0 D0, wB K.g fb st r n] [(0, .ref (p 0)), (1, .int (nI c))] 8 [.int (bI (rg (nI c).toInt (Int.ofNat 48) (Int.ofNat 57)))]
      refine z_ifb_eq C 18 dX2_takes_8 (by decide) 11 rfl (fun c_11 => ?_) (fun c_11 => ?_)
      rotate_left
      · exfalso; rw [rgN_f (by omega) (by omega)] at c_11; exact Bool.noConfusion c_11
      refine z_bipush C (v := (-6)) rfl dX2_takes_18 20 rfl ?_
      refine z_istore_n C hnL [1, 2, 0] [(0, .ref (p 0)), (1, .int (nI c)), (2, .int (-6))] rfl rfl (Nat.le_of_ble_eq_true rfl) dX2_takes_20 21 rfl ?_
      refine z_aload_n C 0 rfl rfl dX2_takes_21 22 rfl ?_
      refine z_get C zc2 iX2_takes_X2 0 0 rfl rfl 3 (Nat.le_of_ble_eq_true rfl) (List.mem_of_getElem? (i := 1) rfl) (v := .int (nI 3)) rfl dX2_takes_22 25 rfl ?_
      refine z_tab C (by decide) 110 dX2_takes_25 (by decide) (by decide) rfl (by decide) ?_
      refine z_aload_n C 0 rfl rfl dX2_takes_110 111 rfl ?_
      refine z_iload_n C 2 rfl rfl dX2_takes_111 112 rfl ?_
      refine z_put C zc2 iX2_takes_X2 0 0 rfl rfl 5 (Nat.le_of_ble_eq_true rfl) (List.mem_of_getElem? (i := 3) rfl) rfl rfl rfl (Nat.le_of_ble_eq_true rfl) (wPd K.g p fb tx len 3 (nI a) (-6) H0 D0) rfl [wPd K.g p fb tx len 3 (nI a) (-6) H0 D0, wB K.g fb st r n] rfl dX2_takes_112 115 rfl ?_
      refine z_aload_n C 0 rfl rfl dX2_takes_115 116 rfl ?_
      refine z_iconst C (v := nI 4) rfl dX2_takes_116 117 rfl ?_
      refine z_put C zc2 iX2_takes_X2 0 0 rfl rfl 3 (Nat.le_of_ble_eq_true rfl) (List.mem_of_getElem? (i := 1) rfl) rfl rfl rfl (Nat.le_of_ble_eq_true rfl) (wPd K.g p fb tx len 4 (nI a) (-6) H0 D0) rfl [wPd K.g p fb tx len 4 (nI a) (-6) H0 D0, wB K.g fb st r n] rfl dX2_takes_117 120 rfl ?_
      refine z_iload_n C 2 rfl rfl dX2_takes_120 121 rfl ?_
      refine z_bipush C (v := (-6)) rfl dX2_takes_121 123 rfl ?_
      refine z_icmpI_eq C 130 dX2_takes_123 (by decide) 126 rfl (fun c_12 => ?_) (fun c_12 => ?_)
      rotate_left
      · exfalso; exact c_12 rfl
      refine z_iconst C (v := nI 0) rfl dX2_takes_130 131 rfl ?_
      refine z_eq (st2 := [.int (bI false)]) ?_ rfl rfl rfl
      exact z_bret C hRx dX2_takes_131 (4, (nI a), (-6), H0, D0, n, r) (by rw [(show auOK 3 h d c = false from decide_eq_false (by omega))]) (fun h7 => by rw [(show auOK 3 h d c = false from decide_eq_false (by omega))] at h7; exact Bool.noConfusion h7) rfl
  · skip
    obtain ⟨rfl, ha⟩ := hV.2.1 (by omega)
    obtain ⟨rfl, hs⟩ := hV.2.2.1 (by omega)
    by_cases hdg : 48 ≤ c ∧ c ≤ 57
    · skip
      refine z_iload_n C 1 rfl rfl dX2_takes_0 1 rfl ?_
      refine z_bipush C (v := nI 48) rfl dX2_takes_1 3 rfl ?_
      refine z_bipush C (v := nI 57) rfl dX2_takes_3 5 rfl ?_
      refine z_callN C [.int (nI c), .int (nI 48), .int (nI 57)] [] (tX4_withinN K.l K.g (nI c) 48 57 (by first | omega | assumption) (by first | omega | assumption)) gX2_takes_X4_within_n39 rfl rfl rfl C.kp.2.2.1 (List.mem_of_getElem? (i := 7) rfl) (List.mem_of_getElem? (i := 6) rfl) hdX4_within ⟨Nat.le_of_ble_eq_true rfl, Nat.le_of_ble_eq_true rfl⟩ ⟨Nat.zero_le _, Nat.zero_le _⟩ rfl rfl (Nat.le_of_ble_eq_true rfl) dX2_takes_5 8 rfl (fun u9 hu9 => ?_)
      show Z K 0 0 [wPd K.g p fb tx len 4 (nI a) (nI s) H0 D0, wB K.g fb st r n] [(0, .ref (p 0)), (1, .int (nI c))] 8 [.int (bI (rg (nI c).toInt (Int.ofNat 48) (Int.ofNat 57)))]
      refine z_ifb_eq C 18 dX2_takes_8 (by decide) 11 rfl (fun c_13 => ?_) (fun c_13 => ?_)
      · exfalso; rw [rgN_t (by omega) (by omega) (by omega)] at c_13; exact Bool.noConfusion c_13
      refine z_iload_n C 1 rfl rfl dX2_takes_11 12 rfl ?_
      refine z_bipush C (v := nI 48) rfl dX2_takes_12 14 rfl ?_
      refine z_isub C (by omega) dX2_takes_14 15 rfl ?_
      refine z_goto C 20 dX2_takes_15 (by decide) ?_
      refine z_istore_n C hnL [1, 2, 0] [(0, .ref (p 0)), (1, .int (nI c)), (2, .int (nI (c - 48)))] rfl rfl (Nat.le_of_ble_eq_true rfl) dX2_takes_20 21 rfl ?_
      refine z_aload_n C 0 rfl rfl dX2_takes_21 22 rfl ?_
      refine z_get C zc2 iX2_takes_X2 0 0 rfl rfl 3 (Nat.le_of_ble_eq_true rfl) (List.mem_of_getElem? (i := 1) rfl) (v := .int (nI 4)) rfl dX2_takes_22 25 rfl ?_
      refine z_tab C (by decide) 132 dX2_takes_25 (by decide) (by decide) rfl (by decide) ?_
      refine z_aload_n C 0 rfl rfl dX2_takes_132 133 rfl ?_
      refine z_iload_n C 1 rfl rfl dX2_takes_133 134 rfl ?_
      refine z_bipush C (v := nI 110) rfl dX2_takes_134 136 rfl ?_
      refine z_callV C [.int (nI c), .int (nI 110)] [] (tX2_takesLetter K.l K.g p fb tx len 4 (nI a) (nI s) H0 D0 c 110 (by first | omega | assumption) (by first | omega | assumption)) gX2_takes_X2_takesLetter rfl rfl rfl hdX2_takesLetter ⟨Nat.le_of_ble_eq_true rfl, Nat.le_of_ble_eq_true rfl⟩ ⟨Nat.zero_le _, Nat.zero_le _⟩ 0 0 rfl rfl rfl [0] rfl rfl (zlc (N := 2) rfl rfl) [2, 1] rfl (by decide) (fun _ : Unit => [wPd K.g p fb tx len (4 + 1) (nI a) (nI s) H0 D0, wB K.g fb st r n]) (fun _ => rfl) rfl rfl (Nat.le_of_ble_eq_true rfl) dX2_takes_136 139 rfl (fun u9 hu9 => ?_)
      show Z K 0 0 [wPd K.g p fb tx len (4 + 1) (nI a) (nI s) H0 D0, wB K.g fb st r n] [(0, .ref (p 0)), (1, .int (nI c)), (2, .int (nI (c - 48)))] 139 [.int (bI (decide (c = 110)))]
      exact z_bret C hRx dX2_takes_139 (4 + 1, (nI a), (nI s), H0, D0, n, r) rfl (fun h7 => ⟨rfl, rfl, rfl, by refine ⟨by omega, fun h8 => ?_, fun h8 => ?_, fun h8 => ?_⟩ <;> first | (exfalso; omega) | exact ⟨rfl, by omega⟩ | exact ⟨rfl, by omega, by omega, rfl, by omega⟩⟩) rfl
    · skip
      refine z_iload_n C 1 rfl rfl dX2_takes_0 1 rfl ?_
      refine z_bipush C (v := nI 48) rfl dX2_takes_1 3 rfl ?_
      refine z_bipush C (v := nI 57) rfl dX2_takes_3 5 rfl ?_
      refine z_callN C [.int (nI c), .int (nI 48), .int (nI 57)] [] (tX4_withinN K.l K.g (nI c) 48 57 (by first | omega | assumption) (by first | omega | assumption)) gX2_takes_X4_within_n39 rfl rfl rfl C.kp.2.2.1 (List.mem_of_getElem? (i := 7) rfl) (List.mem_of_getElem? (i := 6) rfl) hdX4_within ⟨Nat.le_of_ble_eq_true rfl, Nat.le_of_ble_eq_true rfl⟩ ⟨Nat.zero_le _, Nat.zero_le _⟩ rfl rfl (Nat.le_of_ble_eq_true rfl) dX2_takes_5 8 rfl (fun u9 hu9 => ?_)
      show Z K 0 0 [wPd K.g p fb tx len 4 (nI a) (nI s) H0 D0, wB K.g fb st r n] [(0, .ref (p 0)), (1, .int (nI c))] 8 [.int (bI (rg (nI c).toInt (Int.ofNat 48) (Int.ofNat 57)))]
      refine z_ifb_eq C 18 dX2_takes_8 (by decide) 11 rfl (fun c_14 => ?_) (fun c_14 => ?_)
      rotate_left
      · exfalso; rw [rgN_f (by omega) (by omega)] at c_14; exact Bool.noConfusion c_14
      refine z_bipush C (v := (-6)) rfl dX2_takes_18 20 rfl ?_
      refine z_istore_n C hnL [1, 2, 0] [(0, .ref (p 0)), (1, .int (nI c)), (2, .int (-6))] rfl rfl (Nat.le_of_ble_eq_true rfl) dX2_takes_20 21 rfl ?_
      refine z_aload_n C 0 rfl rfl dX2_takes_21 22 rfl ?_
      refine z_get C zc2 iX2_takes_X2 0 0 rfl rfl 3 (Nat.le_of_ble_eq_true rfl) (List.mem_of_getElem? (i := 1) rfl) (v := .int (nI 4)) rfl dX2_takes_22 25 rfl ?_
      refine z_tab C (by decide) 132 dX2_takes_25 (by decide) (by decide) rfl (by decide) ?_
      refine z_aload_n C 0 rfl rfl dX2_takes_132 133 rfl ?_
      refine z_iload_n C 1 rfl rfl dX2_takes_133 134 rfl ?_
      refine z_bipush C (v := nI 110) rfl dX2_takes_134 136 rfl ?_
      refine z_callV C [.int (nI c), .int (nI 110)] [] (tX2_takesLetter K.l K.g p fb tx len 4 (nI a) (nI s) H0 D0 c 110 (by first | omega | assumption) (by first | omega | assumption)) gX2_takes_X2_takesLetter rfl rfl rfl hdX2_takesLetter ⟨Nat.le_of_ble_eq_true rfl, Nat.le_of_ble_eq_true rfl⟩ ⟨Nat.zero_le _, Nat.zero_le _⟩ 0 0 rfl rfl rfl [0] rfl rfl (zlc (N := 2) rfl rfl) [2, 1] rfl (by decide) (fun _ : Unit => [wPd K.g p fb tx len (4 + 1) (nI a) (nI s) H0 D0, wB K.g fb st r n]) (fun _ => rfl) rfl rfl (Nat.le_of_ble_eq_true rfl) dX2_takes_136 139 rfl (fun u9 hu9 => ?_)
      show Z K 0 0 [wPd K.g p fb tx len (4 + 1) (nI a) (nI s) H0 D0, wB K.g fb st r n] [(0, .ref (p 0)), (1, .int (nI c)), (2, .int (-6))] 139 [.int (bI (decide (c = 110)))]
      exact z_bret C hRx dX2_takes_139 (4 + 1, (nI a), (nI s), H0, D0, n, r) rfl (fun h7 => ⟨rfl, rfl, rfl, by refine ⟨by omega, fun h8 => ?_, fun h8 => ?_, fun h8 => ?_⟩ <;> first | (exfalso; omega) | exact ⟨rfl, by omega⟩ | exact ⟨rfl, by omega, by omega, rfl, by omega⟩⟩) rfl
  · skip
    obtain ⟨rfl, ha⟩ := hV.2.1 (by omega)
    obtain ⟨rfl, hs⟩ := hV.2.2.1 (by omega)
    by_cases hdg : 48 ≤ c ∧ c ≤ 57
    · skip
      refine z_iload_n C 1 rfl rfl dX2_takes_0 1 rfl ?_
      refine z_bipush C (v := nI 48) rfl dX2_takes_1 3 rfl ?_
      refine z_bipush C (v := nI 57) rfl dX2_takes_3 5 rfl ?_
      refine z_callN C [.int (nI c), .int (nI 48), .int (nI 57)] [] (tX4_withinN K.l K.g (nI c) 48 57 (by first | omega | assumption) (by first | omega | assumption)) gX2_takes_X4_within_n39 rfl rfl rfl C.kp.2.2.1 (List.mem_of_getElem? (i := 7) rfl) (List.mem_of_getElem? (i := 6) rfl) hdX4_within ⟨Nat.le_of_ble_eq_true rfl, Nat.le_of_ble_eq_true rfl⟩ ⟨Nat.zero_le _, Nat.zero_le _⟩ rfl rfl (Nat.le_of_ble_eq_true rfl) dX2_takes_5 8 rfl (fun u9 hu9 => ?_)
      show Z K 0 0 [wPd K.g p fb tx len 5 (nI a) (nI s) H0 D0, wB K.g fb st r n] [(0, .ref (p 0)), (1, .int (nI c))] 8 [.int (bI (rg (nI c).toInt (Int.ofNat 48) (Int.ofNat 57)))]
      refine z_ifb_eq C 18 dX2_takes_8 (by decide) 11 rfl (fun c_15 => ?_) (fun c_15 => ?_)
      · exfalso; rw [rgN_t (by omega) (by omega) (by omega)] at c_15; exact Bool.noConfusion c_15
      refine z_iload_n C 1 rfl rfl dX2_takes_11 12 rfl ?_
      refine z_bipush C (v := nI 48) rfl dX2_takes_12 14 rfl ?_
      refine z_isub C (by omega) dX2_takes_14 15 rfl ?_
      refine z_goto C 20 dX2_takes_15 (by decide) ?_
      refine z_istore_n C hnL [1, 2, 0] [(0, .ref (p 0)), (1, .int (nI c)), (2, .int (nI (c - 48)))] rfl rfl (Nat.le_of_ble_eq_true rfl) dX2_takes_20 21 rfl ?_
      refine z_aload_n C 0 rfl rfl dX2_takes_21 22 rfl ?_
      refine z_get C zc2 iX2_takes_X2 0 0 rfl rfl 3 (Nat.le_of_ble_eq_true rfl) (List.mem_of_getElem? (i := 1) rfl) (v := .int (nI 5)) rfl dX2_takes_22 25 rfl ?_
      refine z_tab C (by decide) 140 dX2_takes_25 (by decide) (by decide) rfl (by decide) ?_
      refine z_aload_n C 0 rfl rfl dX2_takes_140 141 rfl ?_
      refine z_iload_n C 2 rfl rfl dX2_takes_141 142 rfl ?_
      refine z_put C zc2 iX2_takes_X2 0 0 rfl rfl 6 (Nat.le_of_ble_eq_true rfl) (List.mem_of_getElem? (i := 4) rfl) rfl rfl rfl (Nat.le_of_ble_eq_true rfl) (wPd K.g p fb tx len 5 (nI a) (nI s) (nI (c - 48)) D0) rfl [wPd K.g p fb tx len 5 (nI a) (nI s) (nI (c - 48)) D0, wB K.g fb st r n] rfl dX2_takes_142 145 rfl ?_
      refine z_aload_n C 0 rfl rfl dX2_takes_145 146 rfl ?_
      refine z_sipush C (v := nI 3000) rfl dX2_takes_146 149 rfl ?_
      refine z_put C zc2 iX2_takes_X2 0 0 rfl rfl 7 (Nat.le_of_ble_eq_true rfl) (List.mem_of_getElem? (i := 5) rfl) rfl rfl rfl (Nat.le_of_ble_eq_true rfl) (wPd K.g p fb tx len 5 (nI a) (nI s) (nI (c - 48)) (nI 3000)) rfl [wPd K.g p fb tx len 5 (nI a) (nI s) (nI (c - 48)) (nI 3000), wB K.g fb st r n] rfl dX2_takes_149 152 rfl ?_
      refine z_aload_n C 0 rfl rfl dX2_takes_152 153 rfl ?_
      refine z_bipush C (v := nI 6) rfl dX2_takes_153 155 rfl ?_
      refine z_put C zc2 iX2_takes_X2 0 0 rfl rfl 3 (Nat.le_of_ble_eq_true rfl) (List.mem_of_getElem? (i := 1) rfl) rfl rfl rfl (Nat.le_of_ble_eq_true rfl) (wPd K.g p fb tx len 6 (nI a) (nI s) (nI (c - 48)) (nI 3000)) rfl [wPd K.g p fb tx len 6 (nI a) (nI s) (nI (c - 48)) (nI 3000), wB K.g fb st r n] rfl dX2_takes_155 158 rfl ?_
      refine z_iload_n C 2 rfl rfl dX2_takes_158 159 rfl ?_
      refine z_bipush C (v := (-6)) rfl dX2_takes_159 161 rfl ?_
      refine z_icmpI_eq C 172 dX2_takes_161 (by decide) 164 rfl (fun c_16 => ?_) (fun c_16 => ?_)
      · exfalso; exact nI_n6 (by omega) c_16
      refine z_iload_n C 2 rfl rfl dX2_takes_164 165 rfl ?_
      refine z_if_eq C (by omega) 172 dX2_takes_165 (by decide) 168 rfl (fun c_17 => ?_) (fun c_17 => ?_)
      · skip
        refine z_iconst C (v := nI 0) rfl dX2_takes_172 173 rfl ?_
        refine z_eq (st2 := [.int (bI false)]) ?_ rfl rfl rfl
        exact z_bret C hRx dX2_takes_173 (6, (nI a), (nI s), nI (c - 48), nI 3000, n, r) (by rw [(show auOK 5 h d c = false from by rw [auOK_5, isD_t hdg, decide_eq_false (show ¬ c ≠ 48 by omega)]; rfl)]) (fun h7 => by rw [(show auOK 5 h d c = false from by rw [auOK_5, isD_t hdg, decide_eq_false (show ¬ c ≠ 48 by omega)]; rfl)] at h7; exact Bool.noConfusion h7) rfl
      · skip
        refine z_iconst C (v := nI 1) rfl dX2_takes_168 169 rfl ?_
        refine z_goto C 173 dX2_takes_169 (by decide) ?_
        refine z_eq (st2 := [.int (bI true)]) ?_ rfl rfl rfl
        exact z_bret C hRx dX2_takes_173 (6, (nI a), (nI s), nI (c - 48), nI 3000, n, r) (by rw [(show auOK 5 h d c = true from by rw [auOK_5, isD_t hdg, decide_eq_true (show c ≠ 48 from by omega)]; rfl)]) (fun _ => ⟨rfl, rfl, rfl, by refine ⟨by omega, fun h8 => ?_, fun h8 => ?_, fun h8 => ?_⟩ <;> first | (exfalso; omega) | exact ⟨rfl, by omega⟩ | exact ⟨rfl, by omega, by omega, rfl, by omega⟩⟩) rfl
    · skip
      refine z_iload_n C 1 rfl rfl dX2_takes_0 1 rfl ?_
      refine z_bipush C (v := nI 48) rfl dX2_takes_1 3 rfl ?_
      refine z_bipush C (v := nI 57) rfl dX2_takes_3 5 rfl ?_
      refine z_callN C [.int (nI c), .int (nI 48), .int (nI 57)] [] (tX4_withinN K.l K.g (nI c) 48 57 (by first | omega | assumption) (by first | omega | assumption)) gX2_takes_X4_within_n39 rfl rfl rfl C.kp.2.2.1 (List.mem_of_getElem? (i := 7) rfl) (List.mem_of_getElem? (i := 6) rfl) hdX4_within ⟨Nat.le_of_ble_eq_true rfl, Nat.le_of_ble_eq_true rfl⟩ ⟨Nat.zero_le _, Nat.zero_le _⟩ rfl rfl (Nat.le_of_ble_eq_true rfl) dX2_takes_5 8 rfl (fun u9 hu9 => ?_)
      show Z K 0 0 [wPd K.g p fb tx len 5 (nI a) (nI s) H0 D0, wB K.g fb st r n] [(0, .ref (p 0)), (1, .int (nI c))] 8 [.int (bI (rg (nI c).toInt (Int.ofNat 48) (Int.ofNat 57)))]
      refine z_ifb_eq C 18 dX2_takes_8 (by decide) 11 rfl (fun c_18 => ?_) (fun c_18 => ?_)
      rotate_left
      · exfalso; rw [rgN_f (by omega) (by omega)] at c_18; exact Bool.noConfusion c_18
      refine z_bipush C (v := (-6)) rfl dX2_takes_18 20 rfl ?_
      refine z_istore_n C hnL [1, 2, 0] [(0, .ref (p 0)), (1, .int (nI c)), (2, .int (-6))] rfl rfl (Nat.le_of_ble_eq_true rfl) dX2_takes_20 21 rfl ?_
      refine z_aload_n C 0 rfl rfl dX2_takes_21 22 rfl ?_
      refine z_get C zc2 iX2_takes_X2 0 0 rfl rfl 3 (Nat.le_of_ble_eq_true rfl) (List.mem_of_getElem? (i := 1) rfl) (v := .int (nI 5)) rfl dX2_takes_22 25 rfl ?_
      refine z_tab C (by decide) 140 dX2_takes_25 (by decide) (by decide) rfl (by decide) ?_
      refine z_aload_n C 0 rfl rfl dX2_takes_140 141 rfl ?_
      refine z_iload_n C 2 rfl rfl dX2_takes_141 142 rfl ?_
      refine z_put C zc2 iX2_takes_X2 0 0 rfl rfl 6 (Nat.le_of_ble_eq_true rfl) (List.mem_of_getElem? (i := 4) rfl) rfl rfl rfl (Nat.le_of_ble_eq_true rfl) (wPd K.g p fb tx len 5 (nI a) (nI s) (-6) D0) rfl [wPd K.g p fb tx len 5 (nI a) (nI s) (-6) D0, wB K.g fb st r n] rfl dX2_takes_142 145 rfl ?_
      refine z_aload_n C 0 rfl rfl dX2_takes_145 146 rfl ?_
      refine z_sipush C (v := nI 3000) rfl dX2_takes_146 149 rfl ?_
      refine z_put C zc2 iX2_takes_X2 0 0 rfl rfl 7 (Nat.le_of_ble_eq_true rfl) (List.mem_of_getElem? (i := 5) rfl) rfl rfl rfl (Nat.le_of_ble_eq_true rfl) (wPd K.g p fb tx len 5 (nI a) (nI s) (-6) (nI 3000)) rfl [wPd K.g p fb tx len 5 (nI a) (nI s) (-6) (nI 3000), wB K.g fb st r n] rfl dX2_takes_149 152 rfl ?_
      refine z_aload_n C 0 rfl rfl dX2_takes_152 153 rfl ?_
      refine z_bipush C (v := nI 6) rfl dX2_takes_153 155 rfl ?_
      refine z_put C zc2 iX2_takes_X2 0 0 rfl rfl 3 (Nat.le_of_ble_eq_true rfl) (List.mem_of_getElem? (i := 1) rfl) rfl rfl rfl (Nat.le_of_ble_eq_true rfl) (wPd K.g p fb tx len 6 (nI a) (nI s) (-6) (nI 3000)) rfl [wPd K.g p fb tx len 6 (nI a) (nI s) (-6) (nI 3000), wB K.g fb st r n] rfl dX2_takes_155 158 rfl ?_
      refine z_iload_n C 2 rfl rfl dX2_takes_158 159 rfl ?_
      refine z_bipush C (v := (-6)) rfl dX2_takes_159 161 rfl ?_
      refine z_icmpI_eq C 172 dX2_takes_161 (by decide) 164 rfl (fun c_19 => ?_) (fun c_19 => ?_)
      rotate_left
      · exfalso; exact c_19 rfl
      refine z_iconst C (v := nI 0) rfl dX2_takes_172 173 rfl ?_
      refine z_eq (st2 := [.int (bI false)]) ?_ rfl rfl rfl
      exact z_bret C hRx dX2_takes_173 (6, (nI a), (nI s), (-6), nI 3000, n, r) (by rw [(show auOK 5 h d c = false from by rw [auOK_5, isD_f hdg]; rfl)]) (fun h7 => by rw [(show auOK 5 h d c = false from by rw [auOK_5, isD_f hdg]; rfl)] at h7; exact Bool.noConfusion h7) rfl
  · skip
    obtain ⟨rfl, ha⟩ := hV.2.1 (by omega)
    obtain ⟨rfl, hs⟩ := hV.2.2.1 (by omega)
    obtain ⟨rfl, hh1, hh2, rfl, hd⟩ := hV.2.2.2 (by omega)
    by_cases hdg : 48 ≤ c ∧ c ≤ 57
    · skip
      refine z_iload_n C 1 rfl rfl dX2_takes_0 1 rfl ?_
      refine z_bipush C (v := nI 48) rfl dX2_takes_1 3 rfl ?_
      refine z_bipush C (v := nI 57) rfl dX2_takes_3 5 rfl ?_
      refine z_callN C [.int (nI c), .int (nI 48), .int (nI 57)] [] (tX4_withinN K.l K.g (nI c) 48 57 (by first | omega | assumption) (by first | omega | assumption)) gX2_takes_X4_within_n39 rfl rfl rfl C.kp.2.2.1 (List.mem_of_getElem? (i := 7) rfl) (List.mem_of_getElem? (i := 6) rfl) hdX4_within ⟨Nat.le_of_ble_eq_true rfl, Nat.le_of_ble_eq_true rfl⟩ ⟨Nat.zero_le _, Nat.zero_le _⟩ rfl rfl (Nat.le_of_ble_eq_true rfl) dX2_takes_5 8 rfl (fun u9 hu9 => ?_)
      show Z K 0 0 [wPd K.g p fb tx len 6 (nI a) (nI s) (nI h) (nI d), wB K.g fb st r n] [(0, .ref (p 0)), (1, .int (nI c))] 8 [.int (bI (rg (nI c).toInt (Int.ofNat 48) (Int.ofNat 57)))]
      refine z_ifb_eq C 18 dX2_takes_8 (by decide) 11 rfl (fun c_20 => ?_) (fun c_20 => ?_)
      · exfalso; rw [rgN_t (by omega) (by omega) (by omega)] at c_20; exact Bool.noConfusion c_20
      refine z_iload_n C 1 rfl rfl dX2_takes_11 12 rfl ?_
      refine z_bipush C (v := nI 48) rfl dX2_takes_12 14 rfl ?_
      refine z_isub C (by omega) dX2_takes_14 15 rfl ?_
      refine z_goto C 20 dX2_takes_15 (by decide) ?_
      refine z_istore_n C hnL [1, 2, 0] [(0, .ref (p 0)), (1, .int (nI c)), (2, .int (nI (c - 48)))] rfl rfl (Nat.le_of_ble_eq_true rfl) dX2_takes_20 21 rfl ?_
      refine z_aload_n C 0 rfl rfl dX2_takes_21 22 rfl ?_
      refine z_get C zc2 iX2_takes_X2 0 0 rfl rfl 3 (Nat.le_of_ble_eq_true rfl) (List.mem_of_getElem? (i := 1) rfl) (v := .int (nI 6)) rfl dX2_takes_22 25 rfl ?_
      refine z_tab C (by decide) 174 dX2_takes_25 (by decide) (by decide) rfl (by decide) ?_
      refine z_aload_n C 0 rfl rfl dX2_takes_174 175 rfl ?_
      refine z_iload_n C 1 rfl rfl dX2_takes_175 176 rfl ?_
      refine z_iload_n C 2 rfl rfl dX2_takes_176 177 rfl ?_
      refine z_callV C [.int (nI c), .int (nI (c - 48))] [] (tX2_takesBehindHundreds_d K.l K.g p fb tx len 6 a s h d c (c - 48) (by first | omega | assumption) (by first | omega | assumption)) gX2_takes_X2_takesBehindHundreds rfl rfl rfl hdX2_takesBehindHundreds ⟨Nat.le_of_ble_eq_true rfl, Nat.le_of_ble_eq_true rfl⟩ ⟨Nat.zero_le _, Nat.zero_le _⟩ 0 0 rfl rfl rfl [0] rfl rfl (zlc (N := 2) rfl rfl) [2, 1] rfl (by decide) (fun _ : Unit => [wPd K.g p fb tx len 6 (nI a) (nI s) (nI (10 * h + (c - 48))) (nI d), wB K.g fb st r n]) (fun _ => rfl) rfl rfl (Nat.le_of_ble_eq_true rfl) dX2_takes_177 180 rfl (fun u9 hu9 => ?_)
      show Z K 0 0 [wPd K.g p fb tx len 6 (nI a) (nI s) (nI (10 * h + (c - 48))) (nI d), wB K.g fb st r n] [(0, .ref (p 0)), (1, .int (nI c)), (2, .int (nI (c - 48)))] 180 [.int (bI (decide (10 * h + (c - 48) ≤ 20)))]
      exact z_bret C hRx dX2_takes_180 (6, nI a, nI s, nI (10 * h + (c - 48)), nI d, n, r) (by rw [(show auOK 6 h d c = decide (10 * h + (c - 48) ≤ 20) from by rw [auOK_6, if_pos (isD_t hdg)])]) (fun h7 => by rw [(show auOK 6 h d c = decide (10 * h + (c - 48) ≤ 20) from by rw [auOK_6, if_pos (isD_t hdg)])] at h7; have h6 := of_decide_eq_true h7; unfold TKP; rw [(show auN (6, a, s, h, d, n, r) c = (6, a, s, 10 * h + (c - 48), d, n, r) from by rw [auN_6, if_pos (isD_t hdg)])]; exact ⟨rfl, rfl, rfl, by refine ⟨by omega, fun h8 => ?_, fun h8 => ?_, fun h8 => ?_⟩ <;> first | (exfalso; omega) | exact ⟨rfl, by omega⟩ | exact ⟨rfl, by omega, by omega, rfl, by omega⟩⟩) rfl
    · skip
      by_cases hc1 : c = 100
      · skip
        subst hc1
        refine z_iload_n C 1 rfl rfl dX2_takes_0 1 rfl ?_
        refine z_bipush C (v := nI 48) rfl dX2_takes_1 3 rfl ?_
        refine z_bipush C (v := nI 57) rfl dX2_takes_3 5 rfl ?_
        refine z_callN C [.int (nI 100), .int (nI 48), .int (nI 57)] [] (tX4_withinN K.l K.g (nI 100) 48 57 (by first | omega | assumption) (by first | omega | assumption)) gX2_takes_X4_within_n39 rfl rfl rfl C.kp.2.2.1 (List.mem_of_getElem? (i := 7) rfl) (List.mem_of_getElem? (i := 6) rfl) hdX4_within ⟨Nat.le_of_ble_eq_true rfl, Nat.le_of_ble_eq_true rfl⟩ ⟨Nat.zero_le _, Nat.zero_le _⟩ rfl rfl (Nat.le_of_ble_eq_true rfl) dX2_takes_5 8 rfl (fun u9 hu9 => ?_)
        show Z K 0 0 [wPd K.g p fb tx len 6 (nI a) (nI s) (nI h) (nI d), wB K.g fb st r n] [(0, .ref (p 0)), (1, .int (nI 100))] 8 [.int (bI (rg (nI 100).toInt (Int.ofNat 48) (Int.ofNat 57)))]
        refine z_ifb_eq C 18 dX2_takes_8 (by decide) 11 rfl (fun c_21 => ?_) (fun c_21 => ?_)
        rotate_left
        · exfalso; rw [rgN_f (by omega) (by omega)] at c_21; exact Bool.noConfusion c_21
        refine z_bipush C (v := (-6)) rfl dX2_takes_18 20 rfl ?_
        refine z_istore_n C hnL [1, 2, 0] [(0, .ref (p 0)), (1, .int (nI 100)), (2, .int (-6))] rfl rfl (Nat.le_of_ble_eq_true rfl) dX2_takes_20 21 rfl ?_
        refine z_aload_n C 0 rfl rfl dX2_takes_21 22 rfl ?_
        refine z_get C zc2 iX2_takes_X2 0 0 rfl rfl 3 (Nat.le_of_ble_eq_true rfl) (List.mem_of_getElem? (i := 1) rfl) (v := .int (nI 6)) rfl dX2_takes_22 25 rfl ?_
        refine z_tab C (by decide) 174 dX2_takes_25 (by decide) (by decide) rfl (by decide) ?_
        refine z_aload_n C 0 rfl rfl dX2_takes_174 175 rfl ?_
        refine z_iload_n C 1 rfl rfl dX2_takes_175 176 rfl ?_
        refine z_iload_n C 2 rfl rfl dX2_takes_176 177 rfl ?_
        refine z_callV C [.int (nI 100), .int (-6)] [] (tX2_takesBehindHundreds_100 K.l K.g p fb tx len 6 a s h d ) gX2_takes_X2_takesBehindHundreds rfl rfl rfl hdX2_takesBehindHundreds ⟨Nat.le_of_ble_eq_true rfl, Nat.le_of_ble_eq_true rfl⟩ ⟨Nat.zero_le _, Nat.zero_le _⟩ 0 0 rfl rfl rfl [0] rfl rfl (zlc (N := 2) rfl rfl) [2, 1] rfl (by decide) (fun _ : Unit => [wPd K.g p fb tx len 7 (nI a) (nI s) (nI h) (nI d), wB K.g fb st r n]) (fun _ => rfl) rfl rfl (Nat.le_of_ble_eq_true rfl) dX2_takes_177 180 rfl (fun u9 hu9 => ?_)
        show Z K 0 0 [wPd K.g p fb tx len 7 (nI a) (nI s) (nI h) (nI d), wB K.g fb st r n] [(0, .ref (p 0)), (1, .int (nI 100)), (2, .int (-6))] 180 [.int (bI true)]
        exact z_bret C hRx dX2_takes_180 (7, nI a, nI s, nI h, nI d, n, r) rfl (fun _ => ⟨rfl, rfl, rfl, by refine ⟨by omega, fun h8 => ?_, fun h8 => ?_, fun h8 => ?_⟩ <;> first | (exfalso; omega) | exact ⟨rfl, by omega⟩ | exact ⟨rfl, by omega, by omega, rfl, by omega⟩⟩) rfl
      · skip
        by_cases hc2 : c = 59
        · skip
          subst hc2
          refine z_iload_n C 1 rfl rfl dX2_takes_0 1 rfl ?_
          refine z_bipush C (v := nI 48) rfl dX2_takes_1 3 rfl ?_
          refine z_bipush C (v := nI 57) rfl dX2_takes_3 5 rfl ?_
          refine z_callN C [.int (nI 59), .int (nI 48), .int (nI 57)] [] (tX4_withinN K.l K.g (nI 59) 48 57 (by first | omega | assumption) (by first | omega | assumption)) gX2_takes_X4_within_n39 rfl rfl rfl C.kp.2.2.1 (List.mem_of_getElem? (i := 7) rfl) (List.mem_of_getElem? (i := 6) rfl) hdX4_within ⟨Nat.le_of_ble_eq_true rfl, Nat.le_of_ble_eq_true rfl⟩ ⟨Nat.zero_le _, Nat.zero_le _⟩ rfl rfl (Nat.le_of_ble_eq_true rfl) dX2_takes_5 8 rfl (fun u9 hu9 => ?_)
          show Z K 0 0 [wPd K.g p fb tx len 6 (nI a) (nI s) (nI h) (nI d), wB K.g fb st r n] [(0, .ref (p 0)), (1, .int (nI 59))] 8 [.int (bI (rg (nI 59).toInt (Int.ofNat 48) (Int.ofNat 57)))]
          refine z_ifb_eq C 18 dX2_takes_8 (by decide) 11 rfl (fun c_22 => ?_) (fun c_22 => ?_)
          rotate_left
          · exfalso; rw [rgN_f (by omega) (by omega)] at c_22; exact Bool.noConfusion c_22
          refine z_bipush C (v := (-6)) rfl dX2_takes_18 20 rfl ?_
          refine z_istore_n C hnL [1, 2, 0] [(0, .ref (p 0)), (1, .int (nI 59)), (2, .int (-6))] rfl rfl (Nat.le_of_ble_eq_true rfl) dX2_takes_20 21 rfl ?_
          refine z_aload_n C 0 rfl rfl dX2_takes_21 22 rfl ?_
          refine z_get C zc2 iX2_takes_X2 0 0 rfl rfl 3 (Nat.le_of_ble_eq_true rfl) (List.mem_of_getElem? (i := 1) rfl) (v := .int (nI 6)) rfl dX2_takes_22 25 rfl ?_
          refine z_tab C (by decide) 174 dX2_takes_25 (by decide) (by decide) rfl (by decide) ?_
          refine z_aload_n C 0 rfl rfl dX2_takes_174 175 rfl ?_
          refine z_iload_n C 1 rfl rfl dX2_takes_175 176 rfl ?_
          refine z_iload_n C 2 rfl rfl dX2_takes_176 177 rfl ?_
          refine z_callV C [.int (nI 59), .int (-6)] [] (tX2_takesBehindHundreds_59 K.l K.g p fb tx len 6 a s h d st r n (by first | omega | assumption)) gX2_takes_X2_takesBehindHundreds rfl rfl rfl hdX2_takesBehindHundreds ⟨Nat.le_of_ble_eq_true rfl, Nat.le_of_ble_eq_true rfl⟩ ⟨Nat.zero_le _, Nat.zero_le _⟩ 0 0 rfl rfl rfl [0, 1] rfl rfl (zlc (N := 2) rfl rfl) [2, 3] rfl (by decide) (fun _ : Unit => [wPd K.g p fb tx len 0 (nI a) (nI s) (nI h) (nI d), wB K.g fb st (apR r n a s h d) (n + 1)]) (fun _ => rfl) rfl rfl (Nat.le_of_ble_eq_true rfl) dX2_takes_177 180 rfl (fun u9 hu9 => ?_)
          show Z K 0 0 [wPd K.g p fb tx len 0 (nI a) (nI s) (nI h) (nI d), wB K.g fb st (apR r n a s h d) (n + 1)] [(0, .ref (p 0)), (1, .int (nI 59)), (2, .int (-6))] 180 [.int (bI true)]
          exact z_bret C hRx dX2_takes_180 (0, nI a, nI s, nI h, nI d, n + 1, apR r n a s h d) rfl (fun _ => ⟨rfl, rfl, rfl, by refine ⟨by omega, fun h8 => ?_, fun h8 => ?_, fun h8 => ?_⟩ <;> first | (exfalso; omega) | exact ⟨rfl, by omega⟩ | exact ⟨rfl, by omega, by omega, rfl, by omega⟩⟩) rfl
        · skip
          refine z_iload_n C 1 rfl rfl dX2_takes_0 1 rfl ?_
          refine z_bipush C (v := nI 48) rfl dX2_takes_1 3 rfl ?_
          refine z_bipush C (v := nI 57) rfl dX2_takes_3 5 rfl ?_
          refine z_callN C [.int (nI c), .int (nI 48), .int (nI 57)] [] (tX4_withinN K.l K.g (nI c) 48 57 (by first | omega | assumption) (by first | omega | assumption)) gX2_takes_X4_within_n39 rfl rfl rfl C.kp.2.2.1 (List.mem_of_getElem? (i := 7) rfl) (List.mem_of_getElem? (i := 6) rfl) hdX4_within ⟨Nat.le_of_ble_eq_true rfl, Nat.le_of_ble_eq_true rfl⟩ ⟨Nat.zero_le _, Nat.zero_le _⟩ rfl rfl (Nat.le_of_ble_eq_true rfl) dX2_takes_5 8 rfl (fun u9 hu9 => ?_)
          show Z K 0 0 [wPd K.g p fb tx len 6 (nI a) (nI s) (nI h) (nI d), wB K.g fb st r n] [(0, .ref (p 0)), (1, .int (nI c))] 8 [.int (bI (rg (nI c).toInt (Int.ofNat 48) (Int.ofNat 57)))]
          refine z_ifb_eq C 18 dX2_takes_8 (by decide) 11 rfl (fun c_23 => ?_) (fun c_23 => ?_)
          rotate_left
          · exfalso; rw [rgN_f (by omega) (by omega)] at c_23; exact Bool.noConfusion c_23
          refine z_bipush C (v := (-6)) rfl dX2_takes_18 20 rfl ?_
          refine z_istore_n C hnL [1, 2, 0] [(0, .ref (p 0)), (1, .int (nI c)), (2, .int (-6))] rfl rfl (Nat.le_of_ble_eq_true rfl) dX2_takes_20 21 rfl ?_
          refine z_aload_n C 0 rfl rfl dX2_takes_21 22 rfl ?_
          refine z_get C zc2 iX2_takes_X2 0 0 rfl rfl 3 (Nat.le_of_ble_eq_true rfl) (List.mem_of_getElem? (i := 1) rfl) (v := .int (nI 6)) rfl dX2_takes_22 25 rfl ?_
          refine z_tab C (by decide) 174 dX2_takes_25 (by decide) (by decide) rfl (by decide) ?_
          refine z_aload_n C 0 rfl rfl dX2_takes_174 175 rfl ?_
          refine z_iload_n C 1 rfl rfl dX2_takes_175 176 rfl ?_
          refine z_iload_n C 2 rfl rfl dX2_takes_176 177 rfl ?_
          refine z_callV C [.int (nI c), .int (-6)] [] (tX2_takesBehindHundreds_x K.l K.g p fb tx len 6 (nI a) (nI s) (nI h) (nI d) c (by first | omega | assumption) (by first | omega | assumption) (by first | omega | assumption)) gX2_takes_X2_takesBehindHundreds rfl rfl rfl hdX2_takesBehindHundreds ⟨Nat.le_of_ble_eq_true rfl, Nat.le_of_ble_eq_true rfl⟩ ⟨Nat.zero_le _, Nat.zero_le _⟩ 0 0 rfl rfl rfl [0] rfl rfl (zlc (N := 2) rfl rfl) [2, 1] rfl (by decide) (fun _ : Unit => [wPd K.g p fb tx len 6 (nI a) (nI s) (nI h) (nI d), wB K.g fb st r n]) (fun _ => rfl) rfl rfl (Nat.le_of_ble_eq_true rfl) dX2_takes_177 180 rfl (fun u9 hu9 => ?_)
          show Z K 0 0 [wPd K.g p fb tx len 6 (nI a) (nI s) (nI h) (nI d), wB K.g fb st r n] [(0, .ref (p 0)), (1, .int (nI c)), (2, .int (-6))] 180 [.int (bI false)]
          exact z_bret C hRx dX2_takes_180 (6, (nI a), (nI s), (nI h), (nI d), n, r) (by rw [(show auOK 6 h d c = false from by rw [auOK_6, if_neg (by rw [isD_f hdg]; exact Bool.noConfusion)]; exact decide_eq_false (by omega))]) (fun h7 => by rw [(show auOK 6 h d c = false from by rw [auOK_6, if_neg (by rw [isD_f hdg]; exact Bool.noConfusion)]; exact decide_eq_false (by omega))] at h7; exact Bool.noConfusion h7) rfl
  · skip
    obtain ⟨rfl, ha⟩ := hV.2.1 (by omega)
    obtain ⟨rfl, hs⟩ := hV.2.2.1 (by omega)
    obtain ⟨rfl, hh1, hh2, rfl, hd⟩ := hV.2.2.2 (by omega)
    by_cases hdg : 48 ≤ c ∧ c ≤ 57
    · skip
      refine z_iload_n C 1 rfl rfl dX2_takes_0 1 rfl ?_
      refine z_bipush C (v := nI 48) rfl dX2_takes_1 3 rfl ?_
      refine z_bipush C (v := nI 57) rfl dX2_takes_3 5 rfl ?_
      refine z_callN C [.int (nI c), .int (nI 48), .int (nI 57)] [] (tX4_withinN K.l K.g (nI c) 48 57 (by first | omega | assumption) (by first | omega | assumption)) gX2_takes_X4_within_n39 rfl rfl rfl C.kp.2.2.1 (List.mem_of_getElem? (i := 7) rfl) (List.mem_of_getElem? (i := 6) rfl) hdX4_within ⟨Nat.le_of_ble_eq_true rfl, Nat.le_of_ble_eq_true rfl⟩ ⟨Nat.zero_le _, Nat.zero_le _⟩ rfl rfl (Nat.le_of_ble_eq_true rfl) dX2_takes_5 8 rfl (fun u9 hu9 => ?_)
      show Z K 0 0 [wPd K.g p fb tx len 7 (nI a) (nI s) (nI h) (nI d), wB K.g fb st r n] [(0, .ref (p 0)), (1, .int (nI c))] 8 [.int (bI (rg (nI c).toInt (Int.ofNat 48) (Int.ofNat 57)))]
      refine z_ifb_eq C 18 dX2_takes_8 (by decide) 11 rfl (fun c_24 => ?_) (fun c_24 => ?_)
      · exfalso; rw [rgN_t (by omega) (by omega) (by omega)] at c_24; exact Bool.noConfusion c_24
      refine z_iload_n C 1 rfl rfl dX2_takes_11 12 rfl ?_
      refine z_bipush C (v := nI 48) rfl dX2_takes_12 14 rfl ?_
      refine z_isub C (by omega) dX2_takes_14 15 rfl ?_
      refine z_goto C 20 dX2_takes_15 (by decide) ?_
      refine z_istore_n C hnL [1, 2, 0] [(0, .ref (p 0)), (1, .int (nI c)), (2, .int (nI (c - 48)))] rfl rfl (Nat.le_of_ble_eq_true rfl) dX2_takes_20 21 rfl ?_
      refine z_aload_n C 0 rfl rfl dX2_takes_21 22 rfl ?_
      refine z_get C zc2 iX2_takes_X2 0 0 rfl rfl 3 (Nat.le_of_ble_eq_true rfl) (List.mem_of_getElem? (i := 1) rfl) (v := .int (nI 7)) rfl dX2_takes_22 25 rfl ?_
      refine z_tab C (by decide) 181 dX2_takes_25 (by decide) (by decide) rfl (by decide) ?_
      refine z_aload_n C 0 rfl rfl dX2_takes_181 182 rfl ?_
      refine z_iload_n C 2 rfl rfl dX2_takes_182 183 rfl ?_
      refine z_put C zc2 iX2_takes_X2 0 0 rfl rfl 7 (Nat.le_of_ble_eq_true rfl) (List.mem_of_getElem? (i := 5) rfl) rfl rfl rfl (Nat.le_of_ble_eq_true rfl) (wPd K.g p fb tx len 7 (nI a) (nI s) (nI h) (nI (c - 48))) rfl [wPd K.g p fb tx len 7 (nI a) (nI s) (nI h) (nI (c - 48)), wB K.g fb st r n] rfl dX2_takes_183 186 rfl ?_
      refine z_aload_n C 0 rfl rfl dX2_takes_186 187 rfl ?_
      refine z_bipush C (v := nI 8) rfl dX2_takes_187 189 rfl ?_
      refine z_put C zc2 iX2_takes_X2 0 0 rfl rfl 3 (Nat.le_of_ble_eq_true rfl) (List.mem_of_getElem? (i := 1) rfl) rfl rfl rfl (Nat.le_of_ble_eq_true rfl) (wPd K.g p fb tx len 8 (nI a) (nI s) (nI h) (nI (c - 48))) rfl [wPd K.g p fb tx len 8 (nI a) (nI s) (nI h) (nI (c - 48)), wB K.g fb st r n] rfl dX2_takes_189 192 rfl ?_
      refine z_iload_n C 2 rfl rfl dX2_takes_192 193 rfl ?_
      refine z_bipush C (v := (-6)) rfl dX2_takes_193 195 rfl ?_
      refine z_icmpI_eq C 202 dX2_takes_195 (by decide) 198 rfl (fun c_25 => ?_) (fun c_25 => ?_)
      · exfalso; exact nI_n6 (by omega) c_25
      refine z_iconst C (v := nI 1) rfl dX2_takes_198 199 rfl ?_
      refine z_goto C 203 dX2_takes_199 (by decide) ?_
      refine z_eq (st2 := [.int (bI true)]) ?_ rfl rfl rfl
      exact z_bret C hRx dX2_takes_203 (8, (nI a), (nI s), (nI h), nI (c - 48), n, r) (by rw [(show auOK 7 h d c = true from decide_eq_true (by omega))]) (fun _ => ⟨rfl, rfl, rfl, by refine ⟨by omega, fun h8 => ?_, fun h8 => ?_, fun h8 => ?_⟩ <;> first | (exfalso; omega) | exact ⟨rfl, by omega⟩ | exact ⟨rfl, by omega, by omega, rfl, by omega⟩⟩) rfl
    · skip
      refine z_iload_n C 1 rfl rfl dX2_takes_0 1 rfl ?_
      refine z_bipush C (v := nI 48) rfl dX2_takes_1 3 rfl ?_
      refine z_bipush C (v := nI 57) rfl dX2_takes_3 5 rfl ?_
      refine z_callN C [.int (nI c), .int (nI 48), .int (nI 57)] [] (tX4_withinN K.l K.g (nI c) 48 57 (by first | omega | assumption) (by first | omega | assumption)) gX2_takes_X4_within_n39 rfl rfl rfl C.kp.2.2.1 (List.mem_of_getElem? (i := 7) rfl) (List.mem_of_getElem? (i := 6) rfl) hdX4_within ⟨Nat.le_of_ble_eq_true rfl, Nat.le_of_ble_eq_true rfl⟩ ⟨Nat.zero_le _, Nat.zero_le _⟩ rfl rfl (Nat.le_of_ble_eq_true rfl) dX2_takes_5 8 rfl (fun u9 hu9 => ?_)
      show Z K 0 0 [wPd K.g p fb tx len 7 (nI a) (nI s) (nI h) (nI d), wB K.g fb st r n] [(0, .ref (p 0)), (1, .int (nI c))] 8 [.int (bI (rg (nI c).toInt (Int.ofNat 48) (Int.ofNat 57)))]
      refine z_ifb_eq C 18 dX2_takes_8 (by decide) 11 rfl (fun c_26 => ?_) (fun c_26 => ?_)
      rotate_left
      · exfalso; rw [rgN_f (by omega) (by omega)] at c_26; exact Bool.noConfusion c_26
      refine z_bipush C (v := (-6)) rfl dX2_takes_18 20 rfl ?_
      refine z_istore_n C hnL [1, 2, 0] [(0, .ref (p 0)), (1, .int (nI c)), (2, .int (-6))] rfl rfl (Nat.le_of_ble_eq_true rfl) dX2_takes_20 21 rfl ?_
      refine z_aload_n C 0 rfl rfl dX2_takes_21 22 rfl ?_
      refine z_get C zc2 iX2_takes_X2 0 0 rfl rfl 3 (Nat.le_of_ble_eq_true rfl) (List.mem_of_getElem? (i := 1) rfl) (v := .int (nI 7)) rfl dX2_takes_22 25 rfl ?_
      refine z_tab C (by decide) 181 dX2_takes_25 (by decide) (by decide) rfl (by decide) ?_
      refine z_aload_n C 0 rfl rfl dX2_takes_181 182 rfl ?_
      refine z_iload_n C 2 rfl rfl dX2_takes_182 183 rfl ?_
      refine z_put C zc2 iX2_takes_X2 0 0 rfl rfl 7 (Nat.le_of_ble_eq_true rfl) (List.mem_of_getElem? (i := 5) rfl) rfl rfl rfl (Nat.le_of_ble_eq_true rfl) (wPd K.g p fb tx len 7 (nI a) (nI s) (nI h) (-6)) rfl [wPd K.g p fb tx len 7 (nI a) (nI s) (nI h) (-6), wB K.g fb st r n] rfl dX2_takes_183 186 rfl ?_
      refine z_aload_n C 0 rfl rfl dX2_takes_186 187 rfl ?_
      refine z_bipush C (v := nI 8) rfl dX2_takes_187 189 rfl ?_
      refine z_put C zc2 iX2_takes_X2 0 0 rfl rfl 3 (Nat.le_of_ble_eq_true rfl) (List.mem_of_getElem? (i := 1) rfl) rfl rfl rfl (Nat.le_of_ble_eq_true rfl) (wPd K.g p fb tx len 8 (nI a) (nI s) (nI h) (-6)) rfl [wPd K.g p fb tx len 8 (nI a) (nI s) (nI h) (-6), wB K.g fb st r n] rfl dX2_takes_189 192 rfl ?_
      refine z_iload_n C 2 rfl rfl dX2_takes_192 193 rfl ?_
      refine z_bipush C (v := (-6)) rfl dX2_takes_193 195 rfl ?_
      refine z_icmpI_eq C 202 dX2_takes_195 (by decide) 198 rfl (fun c_27 => ?_) (fun c_27 => ?_)
      rotate_left
      · exfalso; exact c_27 rfl
      refine z_iconst C (v := nI 0) rfl dX2_takes_202 203 rfl ?_
      refine z_eq (st2 := [.int (bI false)]) ?_ rfl rfl rfl
      exact z_bret C hRx dX2_takes_203 (8, (nI a), (nI s), (nI h), (-6), n, r) (by rw [(show auOK 7 h d c = false from decide_eq_false (by omega))]) (fun h7 => by rw [(show auOK 7 h d c = false from decide_eq_false (by omega))] at h7; exact Bool.noConfusion h7) rfl
  · skip
    obtain ⟨rfl, ha⟩ := hV.2.1 (by omega)
    obtain ⟨rfl, hs⟩ := hV.2.2.1 (by omega)
    obtain ⟨rfl, hh1, hh2, rfl, hd⟩ := hV.2.2.2 (by omega)
    by_cases hdg : 48 ≤ c ∧ c ≤ 57
    · skip
      refine z_iload_n C 1 rfl rfl dX2_takes_0 1 rfl ?_
      refine z_bipush C (v := nI 48) rfl dX2_takes_1 3 rfl ?_
      refine z_bipush C (v := nI 57) rfl dX2_takes_3 5 rfl ?_
      refine z_callN C [.int (nI c), .int (nI 48), .int (nI 57)] [] (tX4_withinN K.l K.g (nI c) 48 57 (by first | omega | assumption) (by first | omega | assumption)) gX2_takes_X4_within_n39 rfl rfl rfl C.kp.2.2.1 (List.mem_of_getElem? (i := 7) rfl) (List.mem_of_getElem? (i := 6) rfl) hdX4_within ⟨Nat.le_of_ble_eq_true rfl, Nat.le_of_ble_eq_true rfl⟩ ⟨Nat.zero_le _, Nat.zero_le _⟩ rfl rfl (Nat.le_of_ble_eq_true rfl) dX2_takes_5 8 rfl (fun u9 hu9 => ?_)
      show Z K 0 0 [wPd K.g p fb tx len 8 (nI a) (nI s) (nI h) (nI d), wB K.g fb st r n] [(0, .ref (p 0)), (1, .int (nI c))] 8 [.int (bI (rg (nI c).toInt (Int.ofNat 48) (Int.ofNat 57)))]
      refine z_ifb_eq C 18 dX2_takes_8 (by decide) 11 rfl (fun c_28 => ?_) (fun c_28 => ?_)
      · exfalso; rw [rgN_t (by omega) (by omega) (by omega)] at c_28; exact Bool.noConfusion c_28
      refine z_iload_n C 1 rfl rfl dX2_takes_11 12 rfl ?_
      refine z_bipush C (v := nI 48) rfl dX2_takes_12 14 rfl ?_
      refine z_isub C (by omega) dX2_takes_14 15 rfl ?_
      refine z_goto C 20 dX2_takes_15 (by decide) ?_
      refine z_istore_n C hnL [1, 2, 0] [(0, .ref (p 0)), (1, .int (nI c)), (2, .int (nI (c - 48)))] rfl rfl (Nat.le_of_ble_eq_true rfl) dX2_takes_20 21 rfl ?_
      refine z_aload_n C 0 rfl rfl dX2_takes_21 22 rfl ?_
      refine z_get C zc2 iX2_takes_X2 0 0 rfl rfl 3 (Nat.le_of_ble_eq_true rfl) (List.mem_of_getElem? (i := 1) rfl) (v := .int (nI 8)) rfl dX2_takes_22 25 rfl ?_
      refine z_tabO C 204 dX2_takes_25 (by decide) (by decide) ?_
      refine z_aload_n C 0 rfl rfl dX2_takes_204 205 rfl ?_
      refine z_iload_n C 1 rfl rfl dX2_takes_205 206 rfl ?_
      refine z_iload_n C 2 rfl rfl dX2_takes_206 207 rfl ?_
      refine z_callV C [.int (nI c), .int (nI (c - 48))] [] (tX2_takesBehindDue_d K.l K.g p fb tx len 8 a s h d c (c - 48) (by first | omega | assumption) (by first | omega | assumption)) gX2_takes_X2_takesBehindDue rfl rfl rfl hdX2_takesBehindDue ⟨Nat.le_of_ble_eq_true rfl, Nat.le_of_ble_eq_true rfl⟩ ⟨Nat.zero_le _, Nat.zero_le _⟩ 0 0 rfl rfl rfl [0] rfl rfl (zlc (N := 2) rfl rfl) [2, 1] rfl (by decide) (fun _ : Unit => [wPd K.g p fb tx len 8 (nI a) (nI s) (nI h) (nI (10 * d + (c - 48))), wB K.g fb st r n]) (fun _ => rfl) rfl rfl (Nat.le_of_ble_eq_true rfl) dX2_takes_207 210 rfl (fun u9 hu9 => ?_)
      show Z K 0 0 [wPd K.g p fb tx len 8 (nI a) (nI s) (nI h) (nI (10 * d + (c - 48))), wB K.g fb st r n] [(0, .ref (p 0)), (1, .int (nI c)), (2, .int (nI (c - 48)))] 210 [.int (bI (decide (d ≠ 0 ∧ 10 * d + (c - 48) ≤ 3000)))]
      exact z_bret C hRx dX2_takes_210 (8, nI a, nI s, nI h, nI (10 * d + (c - 48)), n, r) (by rw [(show auOK 8 h d c = decide (d ≠ 0 ∧ 10 * d + (c - 48) ≤ 3000) from by rw [auOK_8, if_pos (isD_t hdg)])]) (fun h7 => by rw [(show auOK 8 h d c = decide (d ≠ 0 ∧ 10 * d + (c - 48) ≤ 3000) from by rw [auOK_8, if_pos (isD_t hdg)])] at h7; have h6 := of_decide_eq_true h7; unfold TKP; rw [(show auN (8, a, s, h, d, n, r) c = (8, a, s, h, 10 * d + (c - 48), n, r) from by rw [auN_8, if_pos (isD_t hdg)])]; exact ⟨rfl, rfl, rfl, by refine ⟨by omega, fun h8 => ?_, fun h8 => ?_, fun h8 => ?_⟩ <;> first | (exfalso; omega) | exact ⟨rfl, by omega⟩ | exact ⟨rfl, by omega, by omega, rfl, by omega⟩⟩) rfl
    · skip
      by_cases hc2 : c = 59
      · skip
        subst hc2
        refine z_iload_n C 1 rfl rfl dX2_takes_0 1 rfl ?_
        refine z_bipush C (v := nI 48) rfl dX2_takes_1 3 rfl ?_
        refine z_bipush C (v := nI 57) rfl dX2_takes_3 5 rfl ?_
        refine z_callN C [.int (nI 59), .int (nI 48), .int (nI 57)] [] (tX4_withinN K.l K.g (nI 59) 48 57 (by first | omega | assumption) (by first | omega | assumption)) gX2_takes_X4_within_n39 rfl rfl rfl C.kp.2.2.1 (List.mem_of_getElem? (i := 7) rfl) (List.mem_of_getElem? (i := 6) rfl) hdX4_within ⟨Nat.le_of_ble_eq_true rfl, Nat.le_of_ble_eq_true rfl⟩ ⟨Nat.zero_le _, Nat.zero_le _⟩ rfl rfl (Nat.le_of_ble_eq_true rfl) dX2_takes_5 8 rfl (fun u9 hu9 => ?_)
        show Z K 0 0 [wPd K.g p fb tx len 8 (nI a) (nI s) (nI h) (nI d), wB K.g fb st r n] [(0, .ref (p 0)), (1, .int (nI 59))] 8 [.int (bI (rg (nI 59).toInt (Int.ofNat 48) (Int.ofNat 57)))]
        refine z_ifb_eq C 18 dX2_takes_8 (by decide) 11 rfl (fun c_29 => ?_) (fun c_29 => ?_)
        rotate_left
        · exfalso; rw [rgN_f (by omega) (by omega)] at c_29; exact Bool.noConfusion c_29
        refine z_bipush C (v := (-6)) rfl dX2_takes_18 20 rfl ?_
        refine z_istore_n C hnL [1, 2, 0] [(0, .ref (p 0)), (1, .int (nI 59)), (2, .int (-6))] rfl rfl (Nat.le_of_ble_eq_true rfl) dX2_takes_20 21 rfl ?_
        refine z_aload_n C 0 rfl rfl dX2_takes_21 22 rfl ?_
        refine z_get C zc2 iX2_takes_X2 0 0 rfl rfl 3 (Nat.le_of_ble_eq_true rfl) (List.mem_of_getElem? (i := 1) rfl) (v := .int (nI 8)) rfl dX2_takes_22 25 rfl ?_
        refine z_tabO C 204 dX2_takes_25 (by decide) (by decide) ?_
        refine z_aload_n C 0 rfl rfl dX2_takes_204 205 rfl ?_
        refine z_iload_n C 1 rfl rfl dX2_takes_205 206 rfl ?_
        refine z_iload_n C 2 rfl rfl dX2_takes_206 207 rfl ?_
        refine z_callV C [.int (nI 59), .int (-6)] [] (tX2_takesBehindDue_59 K.l K.g p fb tx len 8 a s h d st r n (by first | omega | assumption)) gX2_takes_X2_takesBehindDue rfl rfl rfl hdX2_takesBehindDue ⟨Nat.le_of_ble_eq_true rfl, Nat.le_of_ble_eq_true rfl⟩ ⟨Nat.zero_le _, Nat.zero_le _⟩ 0 0 rfl rfl rfl [0, 1] rfl rfl (zlc (N := 2) rfl rfl) [2, 3] rfl (by decide) (fun _ : Unit => [wPd K.g p fb tx len 0 (nI a) (nI s) (nI h) (nI d), wB K.g fb st (apR r n a s h d) (n + 1)]) (fun _ => rfl) rfl rfl (Nat.le_of_ble_eq_true rfl) dX2_takes_207 210 rfl (fun u9 hu9 => ?_)
        show Z K 0 0 [wPd K.g p fb tx len 0 (nI a) (nI s) (nI h) (nI d), wB K.g fb st (apR r n a s h d) (n + 1)] [(0, .ref (p 0)), (1, .int (nI 59)), (2, .int (-6))] 210 [.int (bI true)]
        exact z_bret C hRx dX2_takes_210 (0, nI a, nI s, nI h, nI d, n + 1, apR r n a s h d) rfl (fun _ => ⟨rfl, rfl, rfl, by refine ⟨by omega, fun h8 => ?_, fun h8 => ?_, fun h8 => ?_⟩ <;> first | (exfalso; omega) | exact ⟨rfl, by omega⟩ | exact ⟨rfl, by omega, by omega, rfl, by omega⟩⟩) rfl
      · skip
        refine z_iload_n C 1 rfl rfl dX2_takes_0 1 rfl ?_
        refine z_bipush C (v := nI 48) rfl dX2_takes_1 3 rfl ?_
        refine z_bipush C (v := nI 57) rfl dX2_takes_3 5 rfl ?_
        refine z_callN C [.int (nI c), .int (nI 48), .int (nI 57)] [] (tX4_withinN K.l K.g (nI c) 48 57 (by first | omega | assumption) (by first | omega | assumption)) gX2_takes_X4_within_n39 rfl rfl rfl C.kp.2.2.1 (List.mem_of_getElem? (i := 7) rfl) (List.mem_of_getElem? (i := 6) rfl) hdX4_within ⟨Nat.le_of_ble_eq_true rfl, Nat.le_of_ble_eq_true rfl⟩ ⟨Nat.zero_le _, Nat.zero_le _⟩ rfl rfl (Nat.le_of_ble_eq_true rfl) dX2_takes_5 8 rfl (fun u9 hu9 => ?_)
        show Z K 0 0 [wPd K.g p fb tx len 8 (nI a) (nI s) (nI h) (nI d), wB K.g fb st r n] [(0, .ref (p 0)), (1, .int (nI c))] 8 [.int (bI (rg (nI c).toInt (Int.ofNat 48) (Int.ofNat 57)))]
        refine z_ifb_eq C 18 dX2_takes_8 (by decide) 11 rfl (fun c_30 => ?_) (fun c_30 => ?_)
        rotate_left
        · exfalso; rw [rgN_f (by omega) (by omega)] at c_30; exact Bool.noConfusion c_30
        refine z_bipush C (v := (-6)) rfl dX2_takes_18 20 rfl ?_
        refine z_istore_n C hnL [1, 2, 0] [(0, .ref (p 0)), (1, .int (nI c)), (2, .int (-6))] rfl rfl (Nat.le_of_ble_eq_true rfl) dX2_takes_20 21 rfl ?_
        refine z_aload_n C 0 rfl rfl dX2_takes_21 22 rfl ?_
        refine z_get C zc2 iX2_takes_X2 0 0 rfl rfl 3 (Nat.le_of_ble_eq_true rfl) (List.mem_of_getElem? (i := 1) rfl) (v := .int (nI 8)) rfl dX2_takes_22 25 rfl ?_
        refine z_tabO C 204 dX2_takes_25 (by decide) (by decide) ?_
        refine z_aload_n C 0 rfl rfl dX2_takes_204 205 rfl ?_
        refine z_iload_n C 1 rfl rfl dX2_takes_205 206 rfl ?_
        refine z_iload_n C 2 rfl rfl dX2_takes_206 207 rfl ?_
        refine z_callV C [.int (nI c), .int (-6)] [] (tX2_takesBehindDue_x K.l K.g p fb tx len 8 (nI a) (nI s) (nI h) (nI d) c (by first | omega | assumption) (by first | omega | assumption)) gX2_takes_X2_takesBehindDue rfl rfl rfl hdX2_takesBehindDue ⟨Nat.le_of_ble_eq_true rfl, Nat.le_of_ble_eq_true rfl⟩ ⟨Nat.zero_le _, Nat.zero_le _⟩ 0 0 rfl rfl rfl [0] rfl rfl (zlc (N := 2) rfl rfl) [2, 1] rfl (by decide) (fun _ : Unit => [wPd K.g p fb tx len 8 (nI a) (nI s) (nI h) (nI d), wB K.g fb st r n]) (fun _ => rfl) rfl rfl (Nat.le_of_ble_eq_true rfl) dX2_takes_207 210 rfl (fun u9 hu9 => ?_)
        show Z K 0 0 [wPd K.g p fb tx len 8 (nI a) (nI s) (nI h) (nI d), wB K.g fb st r n] [(0, .ref (p 0)), (1, .int (nI c)), (2, .int (-6))] 210 [.int (bI false)]
        exact z_bret C hRx dX2_takes_210 (8, (nI a), (nI s), (nI h), (nI d), n, r) (by rw [(show auOK 8 h d c = false from by rw [auOK_8, if_neg (by rw [isD_f hdg]; exact Bool.noConfusion)]; exact decide_eq_false (by omega))]) (fun h7 => by rw [(show auOK 8 h d c = false from by rw [auOK_8, if_neg (by rw [isD_f hdg]; exact Bool.noConfusion)]; exact decide_eq_false (by omega))] at h7; exact Bool.noConfusion h7) rfl

theorem iX2_parse_X0 : ∀ w ∈ u_ws RX0 TX0 3, w ∈ wsX2_parse := fun w h => (List.mem_cons_of_mem _ (List.mem_append_right _ h))
theorem iX2_parse_X2 : ∀ w ∈ u_ws RX2 TX2 8, w ∈ wsX2_parse := fun w h => (List.mem_cons_of_mem _ (List.mem_append_left _ (List.mem_append_right _ h)))
set_option maxHeartbeats 4000000 in
set_option maxRecDepth 100000 in
theorem tX2_parse (l : Launch) (g : zG) (p fb tx : Nat → Nat) (len ex : Nat) (P0 S0 H0 D0 : Int32) (st : Nat → Nat) (r : Nat → Nat → Nat) (n : Nat) (hl : len ≤ 60) (ht : ∀ i, i < len → tx i ≤ 126) : Met l yX2_parse wsX2_parse ({ frames := 5, cells := 0, slots := 0, locals := 110 } : Room) (zPre g [.ref (p 0)] [wPd g p fb tx len ex P0 S0 H0 D0, wB g fb st r n]) (zQ g (fun u : (Int32) × (Nat) × (Int32) × (Int32) × (Int32) × (Int32) × (Nat) × (Nat → Nat → Nat) => match u with | (v, ex2, P2, S2, H2, D2, n2, r2) => some (.int v) ) (fun u : (Int32) × (Nat) × (Int32) × (Int32) × (Int32) × (Int32) × (Nat) × (Nat → Nat → Nat) => match u with | (v, ex2, P2, S2, H2, D2, n2, r2) => (PAR tx r len v n2 r2)) (fun u : (Int32) × (Nat) × (Int32) × (Int32) × (Int32) × (Int32) × (Nat) × (Nat → Nat → Nat) => match u with | (v, ex2, P2, S2, H2, D2, n2, r2) => [wPd g p fb tx len ex2 P2 S2 H2 D2, wB g fb st r2 n2]) (zA [wPd g p fb tx len ex P0 S0 H0 D0, wB g fb st r n])) 0 0 (zA [wPd g p fb tx len ex P0 S0 H0 D0, wB g fb st r n]) := by
  refine z_entry (cc := cX2_parse) (maxL := 2) (ret := (some .int)) (own := RX2) (by decide) rfl rfl (Nat.le_of_ble_eq_true rfl) [(0, .ref (p 0))] rfl ?_
  intro K hKl hKg hnL C hRx
  subst hKl
  subst hKg
  refine z_aload_n C 0 rfl rfl dX2_parse_0 1 rfl ?_
  refine z_get C zc2 iX2_parse_X2 0 0 rfl rfl 0 (Nat.le_of_ble_eq_true rfl) (List.mem_of_getElem? (i := 1) rfl) (v := .ref (fb 0)) rfl dX2_parse_1 4 rfl ?_
  refine z_iconst C (v := nI 0) rfl dX2_parse_4 5 rfl ?_
  refine z_put C zc0 iX2_parse_X0 1 0 rfl rfl 2 (Nat.le_of_ble_eq_true rfl) (List.mem_of_getElem? (i := 2) rfl) rfl rfl rfl (Nat.le_of_ble_eq_true rfl) (wB K.g fb st r 0) rfl [wPd K.g p fb tx len ex P0 S0 H0 D0, wB K.g fb st r 0] rfl dX2_parse_5 8 rfl ?_
  refine z_aload_n C 0 rfl rfl dX2_parse_8 9 rfl ?_
  refine z_iconst C (v := nI 0) rfl dX2_parse_9 10 rfl ?_
  refine z_put C zc2 iX2_parse_X2 0 0 rfl rfl 3 (Nat.le_of_ble_eq_true rfl) (List.mem_of_getElem? (i := 3) rfl) rfl rfl rfl (Nat.le_of_ble_eq_true rfl) (wPd K.g p fb tx len 0 P0 S0 H0 D0) rfl [wPd K.g p fb tx len 0 P0 S0 H0 D0, wB K.g fb st r 0] rfl dX2_parse_10 13 rfl ?_
  refine z_iconst C (v := nI 0) rfl dX2_parse_13 14 rfl ?_
  refine z_istore_n C hnL [1, 0] [(0, .ref (p 0)), (1, .int (nI 0))] rfl rfl (Nat.le_of_ble_eq_true rfl) dX2_parse_14 15 rfl ?_
  have loop15 : ∀ (mu : Nat) (i : Nat) (ex1 : Nat) (P1 : Int32) (S1 : Int32) (H1 : Int32) (D1 : Int32) (n1 : Nat) (r1 : Nat → Nat → Nat) (a1 : Nat) (s1 : Nat) (h1 : Nat) (d1 : Nat), mu = len - i → i ≤ len → auR tx r i = (ex1, a1, s1, h1, d1, n1, r1) → auGd tx r i → VV ex1 a1 s1 h1 d1 P1 S1 H1 D1 → Z K 0 0 [wPd K.g p fb tx len ex1 P1 S1 H1 D1, wB K.g fb st r1 n1] [(0, .ref (p 0)), (1, .int (nI i))] 15 [] := by
    refine z_ind (fun mu ih15 => ?_)
    intro i ex1 P1 S1 H1 D1 n1 r1 a1 s1 h1 d1 hmu15 hi hR hG hV
    have hcnt := au_cnt hR hG
    have hex8 := hV.1
    refine z_iload_n C 1 rfl rfl dX2_parse_15 16 rfl ?_
    refine z_aload_n C 0 rfl rfl dX2_parse_16 17 rfl ?_
    refine z_get C zc2 iX2_parse_X2 0 0 rfl rfl 1 (Nat.le_of_ble_eq_true rfl) (List.mem_of_getElem? (i := 4) rfl) (v := .int (nI len)) rfl dX2_parse_17 20 rfl ?_
    refine z_icmp_ge C (by omega) (by omega) 44 dX2_parse_20 (by decide) 23 rfl (fun c_1 => ?_) (fun c_1 => ?_)
    · skip
      have hil : i = len := by omega
      refine z_aload_n C 0 rfl rfl dX2_parse_44 45 rfl ?_
      refine z_get C zc2 iX2_parse_X2 0 0 rfl rfl 3 (Nat.le_of_ble_eq_true rfl) (List.mem_of_getElem? (i := 3) rfl) (v := .int (nI ex1)) rfl dX2_parse_45 48 rfl ?_
      refine z_bipush C (v := nI 6) rfl dX2_parse_48 50 rfl ?_
      refine z_icmp_eq C (by omega) (by omega) 67 dX2_parse_50 (by decide) 53 rfl (fun c_2 => ?_) (fun c_2 => ?_)
      · skip
        refine z_aload_n C 0 rfl rfl dX2_parse_67 68 rfl ?_
        have hexv : ex1 = 6 ∨ ex1 = 8 := by omega
        have hbb : a1 ≤ 9 ∧ s1 ≤ 9 ∧ 1 ≤ h1 ∧ h1 ≤ 20 ∧ d1 ≤ 3000 := ⟨(hV.2.1 (by omega)).2, (hV.2.2.1 (by omega)).2, (hV.2.2.2 (by omega)).2.1, (hV.2.2.2 (by omega)).2.2.1, (hV.2.2.2 (by omega)).2.2.2.2⟩
        obtain ⟨rfl, -⟩ := hV.2.1 (by omega)
        obtain ⟨rfl, -⟩ := hV.2.2.1 (by omega)
        obtain ⟨rfl, -, -, rfl, -⟩ := hV.2.2.2 (by omega)
        refine z_callV C [] [] (tX2_endJob K.l K.g p fb tx len ex1 a1 s1 h1 d1 st r1 n1 (by first | omega | assumption)) gX2_parse_X2_endJob rfl rfl rfl hdX2_endJob ⟨Nat.le_of_ble_eq_true rfl, Nat.le_of_ble_eq_true rfl⟩ ⟨Nat.zero_le _, Nat.zero_le _⟩ 0 0 rfl rfl rfl [0, 1] rfl rfl (zlc (N := 2) rfl rfl) [2, 3] rfl (by decide) (fun _ : Unit => [wPd K.g p fb tx len ex1 (nI a1) (nI s1) (nI h1) (nI d1), wB K.g fb st (apR r1 n1 a1 s1 h1 d1) (n1 + 1)]) (fun _ => rfl) rfl rfl (Nat.le_of_ble_eq_true rfl) dX2_parse_68 71 rfl (fun u9 hu9 => ?_)
        show Z K 0 0 [wPd K.g p fb tx len ex1 (nI a1) (nI s1) (nI h1) (nI d1), wB K.g fb st (apR r1 n1 a1 s1 h1 d1) (n1 + 1)] [(0, .ref (p 0)), (1, .int (nI i))] 71 []
        refine z_bipush C (v := (-6)) rfl dX2_parse_71 73 rfl ?_
        exact z_iret C hRx dX2_parse_73 ((-6), ex1, nI a1, nI s1, nI h1, nI d1, n1 + 1, apR r1 n1 a1 s1 h1 d1) rfl (Or.inr (Or.inr ⟨(by rw [← hil]; exact hG), rfl, by omega, ex1, a1, s1, h1, d1, n1, r1, hexv, (by rw [← hil]; exact hR), rfl, rfl, hbb.1, hbb.2.1, hbb.2.2.1, hbb.2.2.2.1, hbb.2.2.2.2⟩)) rfl
      · skip
        refine z_aload_n C 0 rfl rfl dX2_parse_53 54 rfl ?_
        refine z_get C zc2 iX2_parse_X2 0 0 rfl rfl 3 (Nat.le_of_ble_eq_true rfl) (List.mem_of_getElem? (i := 3) rfl) (v := .int (nI ex1)) rfl dX2_parse_54 57 rfl ?_
        refine z_bipush C (v := nI 8) rfl dX2_parse_57 59 rfl ?_
        refine z_icmp_eq C (by omega) (by omega) 67 dX2_parse_59 (by decide) 62 rfl (fun c_3 => ?_) (fun c_3 => ?_)
        · skip
          refine z_aload_n C 0 rfl rfl dX2_parse_67 68 rfl ?_
          have hexv : ex1 = 6 ∨ ex1 = 8 := by omega
          have hbb : a1 ≤ 9 ∧ s1 ≤ 9 ∧ 1 ≤ h1 ∧ h1 ≤ 20 ∧ d1 ≤ 3000 := ⟨(hV.2.1 (by omega)).2, (hV.2.2.1 (by omega)).2, (hV.2.2.2 (by omega)).2.1, (hV.2.2.2 (by omega)).2.2.1, (hV.2.2.2 (by omega)).2.2.2.2⟩
          obtain ⟨rfl, -⟩ := hV.2.1 (by omega)
          obtain ⟨rfl, -⟩ := hV.2.2.1 (by omega)
          obtain ⟨rfl, -, -, rfl, -⟩ := hV.2.2.2 (by omega)
          refine z_callV C [] [] (tX2_endJob K.l K.g p fb tx len ex1 a1 s1 h1 d1 st r1 n1 (by first | omega | assumption)) gX2_parse_X2_endJob rfl rfl rfl hdX2_endJob ⟨Nat.le_of_ble_eq_true rfl, Nat.le_of_ble_eq_true rfl⟩ ⟨Nat.zero_le _, Nat.zero_le _⟩ 0 0 rfl rfl rfl [0, 1] rfl rfl (zlc (N := 2) rfl rfl) [2, 3] rfl (by decide) (fun _ : Unit => [wPd K.g p fb tx len ex1 (nI a1) (nI s1) (nI h1) (nI d1), wB K.g fb st (apR r1 n1 a1 s1 h1 d1) (n1 + 1)]) (fun _ => rfl) rfl rfl (Nat.le_of_ble_eq_true rfl) dX2_parse_68 71 rfl (fun u9 hu9 => ?_)
          show Z K 0 0 [wPd K.g p fb tx len ex1 (nI a1) (nI s1) (nI h1) (nI d1), wB K.g fb st (apR r1 n1 a1 s1 h1 d1) (n1 + 1)] [(0, .ref (p 0)), (1, .int (nI i))] 71 []
          refine z_bipush C (v := (-6)) rfl dX2_parse_71 73 rfl ?_
          exact z_iret C hRx dX2_parse_73 ((-6), ex1, nI a1, nI s1, nI h1, nI d1, n1 + 1, apR r1 n1 a1 s1 h1 d1) rfl (Or.inr (Or.inr ⟨(by rw [← hil]; exact hG), rfl, by omega, ex1, a1, s1, h1, d1, n1, r1, hexv, (by rw [← hil]; exact hR), rfl, rfl, hbb.1, hbb.2.1, hbb.2.2.1, hbb.2.2.2.1, hbb.2.2.2.2⟩)) rfl
        · skip
          refine z_aload_n C 0 rfl rfl dX2_parse_62 63 rfl ?_
          refine z_get C zc2 iX2_parse_X2 0 0 rfl rfl 1 (Nat.le_of_ble_eq_true rfl) (List.mem_of_getElem? (i := 4) rfl) (v := .int (nI len)) rfl dX2_parse_63 66 rfl ?_
          exact z_iret C hRx dX2_parse_66 (nI len, ex1, P1, S1, H1, D1, n1, r1) rfl (Or.inr (Or.inl ⟨(by rw [← hil]; exact hG), by rw [← hil, hR]; omega, by rw [← hil, hR]; omega, rfl⟩)) rfl
    · skip
      have hlt : i < len := by omega
      have hti := ht i hlt
      refine z_aload_n C 0 rfl rfl dX2_parse_23 24 rfl ?_
      refine z_aload_n C 0 rfl rfl dX2_parse_24 25 rfl ?_
      refine z_get C zc2 iX2_parse_X2 0 0 rfl rfl 2 (Nat.le_of_ble_eq_true rfl) (List.mem_of_getElem? (i := 5) rfl) (v := .ref (p 1)) rfl dX2_parse_25 28 rfl ?_
      refine z_iload_n C 1 rfl rfl dX2_parse_28 29 rfl ?_
      refine z_iald C (f := tx) 0 1 rfl rfl (by omega) (by decide) dX2_parse_29 30 rfl ?_
      refine z_callV C [.int (nI (tx i))] [] (tX2_takes K.l K.g p fb tx len ex1 P1 S1 H1 D1 st r1 n1 a1 s1 h1 d1 (tx i) hV (by first | omega | assumption) (by first | omega | assumption)) gX2_parse_X2_takes rfl rfl rfl hdX2_takes ⟨Nat.le_of_ble_eq_true rfl, Nat.le_of_ble_eq_true rfl⟩ ⟨Nat.zero_le _, Nat.zero_le _⟩ 0 0 rfl rfl rfl [0, 1] rfl rfl (zlc (N := 2) rfl rfl) [2, 3] rfl (by decide) (fun u : (Nat) × (Int32) × (Int32) × (Int32) × (Int32) × (Nat) × (Nat → Nat → Nat) => match u with | (ex2, P2, S2, H2, D2, n2, r2) => [wPd K.g p fb tx len ex2 P2 S2 H2 D2, wB K.g fb st r2 n2]) (fun _ => rfl) rfl rfl (Nat.le_of_ble_eq_true rfl) dX2_parse_30 33 rfl (fun u9 hu9 => ?_)
      obtain ⟨ex3, P3, S3, H3, D3, n3, r3⟩ := u9
      have ht9 := hu9
      have ht9 : auOK ex1 h1 d1 (tx i) = true → TKP (ex1, a1, s1, h1, d1, n1, r1) (tx i) ex3 P3 S3 H3 D3 n3 r3 := ht9
      show Z K 0 0 [wPd K.g p fb tx len ex3 P3 S3 H3 D3, wB K.g fb st r3 n3] [(0, .ref (p 0)), (1, .int (nI i))] 33 [.int (bI (auOK ex1 h1 d1 (tx i)))]
      refine z_ifb_ne C 38 dX2_parse_33 (by decide) 36 rfl (fun c_4 => ?_) (fun c_4 => ?_)
      · skip
        have hok := c_4
        have ht3 := ht9 hok
        obtain ⟨a4, s4, h4, d4, hR4, hV4⟩ := TKP_s hR ht3
        refine z_iinc C hnL 1 rfl (v := (nI (i + 1))) (nI_1 _) [1, 0] [(0, .ref (p 0)), (1, .int (nI (i + 1)))] rfl (Nat.le_of_ble_eq_true rfl) dX2_parse_38 41 rfl ?_
        refine z_goto C 15 dX2_parse_41 (by decide) ?_
        exact ih15 _ (by omega) (i + 1) ex3 P3 S3 H3 D3 n3 r3 a4 s4 h4 d4 rfl (by omega) hR4 (auGd_s hG hR hok) hV4
      · skip
        have hno := c_4
        refine z_iload_n C 1 rfl rfl dX2_parse_36 37 rfl ?_
        exact z_iret C hRx dX2_parse_37 (nI i, ex3, P3, S3, H3, D3, n3, r3) rfl (Or.inl ⟨i, hlt, hG, by unfold auG; rw [hR]; exact hno, rfl⟩) rfl
  exact loop15 _ 0 0 P0 S0 H0 D0 0 r 0 0 0 0 rfl (by omega) rfl (fun j h9 => absurd h9 (by omega)) VV_0

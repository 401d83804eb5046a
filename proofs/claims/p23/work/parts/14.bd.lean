/-! BD: the static helpers and Board's methods. -/
/-- a job behind the others -/
def apR (r : Nat → Nat → Nat) (n p s h d : Nat) : Nat → Nat → Nat := fun k => un (r k) n (match k with
  | 0 => p
  | 1 => s
  | 2 => h
  | _ => d)
/-- the first i jobs of ro behind n of r -/
def apA (r : Nat → Nat → Nat) (n : Nat) (ro : Nat → Nat → Nat) : Nat → Nat → Nat → Nat
  | 0 => r
  | i + 1 => apR (apA r n ro i) (n + i) (ro 0 i) (ro 1 i) (ro 2 i) (ro 3 i)
def shf (h : Nat → Nat) (f t : Nat) : Nat → Nat := fun y => if y = t then h f else if f ≤ y ∧ y < t then h (y + 1) else if t < y ∧ y ≤ f then h (y - 1) else h y
def upS (h : Nat → Nat) (f p : Nat) : Nat → Nat := fun y => if f ≤ y ∧ y < p then h (y + 1) else h y
def swp (h : Nat → Nat) (f t : Nat) : Nat → Nat := un (un h f (h t)) t (h f)
/-- the place of a job in the order by a key -/
def plc (h : Nat → Nat) (n j : Nat) : Nat := ct (fun o => decide (h o < h j ∨ (h o = h j ∧ o < j))) n
theorem plc_lt {h : Nat → Nat} {n j : Nat} (hj : j < n) : plc h n j < n := ct_lt (j := j) (decide_eq_false (by omega)) n hj
/-- the first i jobs laid at their places -/
def arR (ro : Nat → Nat → Nat) (pl : Nat → Nat) : Nat → Nat → Nat → Nat
  | 0 => ro
  | i + 1 => fun k => un (arR ro pl i k) (pl i) (ro k i)
def dnS (h : Nat → Nat) (f t p : Nat) : Nat → Nat := fun y => if f ≤ y ∧ y < t then h (y + 1) else if p < y ∧ y ≤ f then h (y - 1) else h y
theorem hdX0_append : yX0_append.cls = RX0 ∧ yX0_append.cls ≠ "java/lang/invoke/MethodHandle" ∧ yX0_append.cls ≠ "java/lang/invoke/VarHandle" ∧ (parseMethodDescriptor yX0_append.desc).map (fun d => d.parameters.length) = some 4 := by decide +kernel
theorem hdX0_copyFrom : yX0_copyFrom.cls = RX0 ∧ yX0_copyFrom.cls ≠ "java/lang/invoke/MethodHandle" ∧ yX0_copyFrom.cls ≠ "java/lang/invoke/VarHandle" ∧ (parseMethodDescriptor yX0_copyFrom.desc).map (fun d => d.parameters.length) = some 1 := by decide +kernel
theorem hdX0_placeBy : yX0_placeBy.cls = RX0 ∧ yX0_placeBy.cls ≠ "java/lang/invoke/MethodHandle" ∧ yX0_placeBy.cls ≠ "java/lang/invoke/VarHandle" ∧ (parseMethodDescriptor yX0_placeBy.desc).map (fun d => d.parameters.length) = some 2 := by decide +kernel
theorem hdX0_shift : yX0_shift.cls = RX0 ∧ yX0_shift.cls ≠ "java/lang/invoke/MethodHandle" ∧ yX0_shift.cls ≠ "java/lang/invoke/VarHandle" ∧ (parseMethodDescriptor yX0_shift.desc).map (fun d => d.parameters.length) = some 2 := by decide +kernel
theorem hdX4_racksFor : yX4_racksFor.cls ≠ "java/lang/invoke/MethodHandle" ∧ yX4_racksFor.cls ≠ "java/lang/invoke/VarHandle" ∧ (parseMethodDescriptor yX4_racksFor.desc).map (fun d => d.parameters.length) = some 2 := by decide +kernel
set_option maxHeartbeats 4000000 in
set_option maxRecDepth 100000 in
theorem tX4_within (l : Launch) (g : zG) (x lo hi : Int32) : Met l yX4_within wsX4_within ({ frames := 0, cells := 0, slots := 0, locals := 0 } : Room) (zPre g [.int x, .int lo, .int hi] []) (zQ g (fun _ : Unit => some (.int (bI (rg x.toInt lo.toInt hi.toInt))) ) (fun _ : Unit => True) (fun _ : Unit => []) (zA [])) 0 0 (zA []) := by
  refine z_entry (cc := cX4_within) (maxL := 3) (ret := (some .boolean)) (own := RX4) (by decide) rfl rfl (Nat.le_of_ble_eq_true rfl) [(0, .int x), (1, .int lo), (2, .int hi)] rfl ?_
  intro K hKl hKg hnL C hRx
  subst hKl
  subst hKg
  refine z_iload_n C 0 rfl rfl dX4_within_0 1 rfl ?_
  refine z_iload_n C 1 rfl rfl dX4_within_1 2 rfl ?_
  refine z_icmpI_lt C 14 dX4_within_2 (by decide) 5 rfl (fun c_1 => ?_) (fun c_1 => ?_)
  · skip
    refine z_iconst C (v := nI 0) rfl dX4_within_14 15 rfl ?_
    refine z_eq (st2 := [.int (bI false)]) ?_ rfl rfl rfl
    exact z_bret C hRx dX4_within_15 () (by rw [rg_f (by simp only [Int32.le_iff_toInt_le, Int32.lt_iff_toInt_lt] at *; omega)]) trivial rfl
  · skip
    refine z_iload_n C 0 rfl rfl dX4_within_5 6 rfl ?_
    refine z_iload_n C 2 rfl rfl dX4_within_6 7 rfl ?_
    refine z_icmpI_gt C 14 dX4_within_7 (by decide) 10 rfl (fun c_2 => ?_) (fun c_2 => ?_)
    · skip
      refine z_iconst C (v := nI 0) rfl dX4_within_14 15 rfl ?_
      refine z_eq (st2 := [.int (bI false)]) ?_ rfl rfl rfl
      exact z_bret C hRx dX4_within_15 () (by rw [rg_f (by simp only [Int32.le_iff_toInt_le, Int32.lt_iff_toInt_lt] at *; omega)]) trivial rfl
    · skip
      refine z_iconst C (v := nI 1) rfl dX4_within_10 11 rfl ?_
      refine z_goto C 15 dX4_within_11 (by decide) ?_
      refine z_eq (st2 := [.int (bI true)]) ?_ rfl rfl rfl
      exact z_bret C hRx dX4_within_15 () (by rw [rg_t (by first | omega | (simp only [Int32.le_iff_toInt_le, Int32.lt_iff_toInt_lt, Int32.not_lt] at *; omega)) (by first | omega | (simp only [Int32.le_iff_toInt_le, Int32.lt_iff_toInt_lt, Int32.not_lt] at *; omega))]) trivial rfl

set_option maxHeartbeats 4000000 in
set_option maxRecDepth 100000 in
theorem tX4_racksFor (l : Launch) (g : zG) (h d : Nat) (h1 : 0 < d) (h2 : d ≤ 1000) (h3 : h ≤ 1000) : Met l yX4_racksFor wsX4_racksFor ({ frames := 0, cells := 0, slots := 0, locals := 0 } : Room) (zPre g [.int (nI h), .int (nI d)] []) (zQ g (fun _ : Unit => some (.int (nI (nd d h))) ) (fun _ : Unit => True) (fun _ : Unit => []) (zA [])) 0 0 (zA []) := by
  refine z_entry (cc := cX4_racksFor) (maxL := 2) (ret := (some .int)) (own := RX4) (by decide) rfl rfl (Nat.le_of_ble_eq_true rfl) [(0, .int (nI h)), (1, .int (nI d))] rfl ?_
  intro K hKl hKg hnL C hRx
  subst hKl
  subst hKg
  refine z_iload_n C 1 rfl rfl dX4_racksFor_0 1 rfl ?_
  refine z_iconst C (v := nI 1) rfl dX4_racksFor_1 2 rfl ?_
  refine z_icmp_ge C (by omega) (by omega) 9 dX4_racksFor_2 (by decide) 5 rfl (fun c_1 => ?_) (fun c_1 => ?_)
  rotate_left
  · exfalso; omega
  refine z_iload_n C 0 rfl rfl dX4_racksFor_9 10 rfl ?_
  refine z_iload_n C 1 rfl rfl dX4_racksFor_10 11 rfl ?_
  refine z_iadd C dX4_racksFor_11 12 rfl ?_
  refine z_iconst C (v := nI 1) rfl dX4_racksFor_12 13 rfl ?_
  refine z_isub C (by omega) dX4_racksFor_13 14 rfl ?_
  refine z_iload_n C 1 rfl rfl dX4_racksFor_14 15 rfl ?_
  refine z_idiv C (by omega) (by omega) (by omega) dX4_racksFor_15 16 rfl ?_
  exact z_iret C hRx dX4_racksFor_16 () rfl trivial rfl

theorem iX0_copyFrom_X0 : ∀ w ∈ u_ws RX0 TX0 3, w ∈ wsX0_copyFrom := fun w h => (List.mem_cons_of_mem _ (List.mem_append_right _ h))
set_option maxHeartbeats 4000000 in
set_option maxRecDepth 100000 in
theorem tX0_copyFrom (l : Launch) (g : zG) (b st : Nat → Nat) (r : Nat → Nat → Nat) (n : Nat) (o so : Nat → Nat) (ro : Nat → Nat → Nat) (no : Nat) : Met l yX0_copyFrom wsX0_copyFrom ({ frames := 1, cells := 0, slots := 0, locals := 60 } : Room) (zPre g [.ref (b 0), .ref (o 0)] [wB g b st r n, wB g o so ro no]) (zQ g (fun _ : Unit => none ) (fun _ : Unit => True) (fun _ : Unit => [wB g b so ro no, wB g o so ro no]) (zA [wB g b st r n, wB g o so ro no])) 0 0 (zA [wB g b st r n, wB g o so ro no]) := by
  refine z_entry (cc := cX0_copyFrom) (maxL := 3) (ret := none) (own := RX0) (by decide) rfl rfl (Nat.le_of_ble_eq_true rfl) [(0, .ref (b 0)), (1, .ref (o 0))] rfl ?_
  intro K hKl hKg hnL C hRx
  subst hKl
  subst hKg
  refine z_aload_n C 1 rfl rfl dX0_copyFrom_0 1 rfl ?_
  refine z_get C zc0 iX0_copyFrom_X0 1 0 rfl rfl 0 (Nat.le_of_ble_eq_true rfl) (List.mem_of_getElem? (i := 1) rfl) (v := .ref (o 1)) rfl dX0_copyFrom_1 4 rfl ?_
  refine z_iconst C (v := nI 0) rfl dX0_copyFrom_4 5 rfl ?_
  refine z_aload_n C 0 rfl rfl dX0_copyFrom_5 6 rfl ?_
  refine z_get C zc0 iX0_copyFrom_X0 0 0 rfl rfl 0 (Nat.le_of_ble_eq_true rfl) (List.mem_of_getElem? (i := 1) rfl) (v := .ref (b 1)) rfl dX0_copyFrom_6 9 rfl ?_
  refine z_iconst C (v := nI 0) rfl dX0_copyFrom_9 10 rfl ?_
  refine z_bipush C (v := nI 7) rfl dX0_copyFrom_10 12 rfl ?_
  refine z_copy C (List.mem_of_getElem? (i := 2) rfl) (List.mem_of_getElem? (i := 3) rfl) (List.mem_of_getElem? (i := 4) rfl) (List.mem_of_getElem? (i := 5) rfl) 1 1 0 1 rfl rfl rfl rfl (by decide) ⟨Nat.le_of_ble_eq_true rfl, Nat.le_of_ble_eq_true rfl⟩ (wB K.g b so r n) rfl [wB K.g b so r n, wB K.g o so ro no] rfl dX0_copyFrom_12 15 rfl ?_
  refine z_iconst C (v := nI 0) rfl dX0_copyFrom_15 16 rfl ?_
  refine z_istore_n C hnL [1, 2, 0] [(0, .ref (b 0)), (1, .ref (o 0)), (2, .int (nI 0))] rfl rfl (Nat.le_of_ble_eq_true rfl) dX0_copyFrom_16 17 rfl ?_
  have loop17 : ∀ (mu : Nat) (i : Nat), mu = 4 - i → i ≤ 4 → Z K 0 0 [wB K.g b so (fun k => if k < i then ro k else r k) n, wB K.g o so ro no] [(0, .ref (b 0)), (1, .ref (o 0)), (2, .int (nI i))] 17 [] := by
    refine z_ind (fun mu ih17 => ?_)
    intro i hmu17 hi
    refine z_iload_n C 2 rfl rfl dX0_copyFrom_17 18 rfl ?_
    refine z_iconst C (v := nI 4) rfl dX0_copyFrom_18 19 rfl ?_
    refine z_icmp_ge C (by omega) (by omega) 47 dX0_copyFrom_19 (by decide) 22 rfl (fun c_1 => ?_) (fun c_1 => ?_)
    · skip
      refine z_wB 0 rfl so ro (fun _ _ => rfl) (by intro k hk y hy; rw [if_pos (by omega)]) [wB K.g b so ro n, wB K.g o so ro no] rfl ?_
      refine z_aload_n C 0 rfl rfl dX0_copyFrom_47 48 rfl ?_
      refine z_aload_n C 1 rfl rfl dX0_copyFrom_48 49 rfl ?_
      refine z_get C zc0 iX0_copyFrom_X0 1 0 rfl rfl 2 (Nat.le_of_ble_eq_true rfl) (List.mem_of_getElem? (i := 7) rfl) (v := .int (nI no)) rfl dX0_copyFrom_49 52 rfl ?_
      refine z_put C zc0 iX0_copyFrom_X0 0 0 rfl rfl 2 (Nat.le_of_ble_eq_true rfl) (List.mem_of_getElem? (i := 7) rfl) rfl rfl rfl (Nat.le_of_ble_eq_true rfl) (wB K.g b so ro no) rfl [wB K.g b so ro no, wB K.g o so ro no] rfl dX0_copyFrom_52 55 rfl ?_
      exact z_vret C hRx dX0_copyFrom_55 () rfl trivial rfl
    · skip
      refine z_aload_n C 1 rfl rfl dX0_copyFrom_22 23 rfl ?_
      refine z_get C zc0 iX0_copyFrom_X0 1 0 rfl rfl 1 (Nat.le_of_ble_eq_true rfl) (List.mem_of_getElem? (i := 6) rfl) (v := .ref (o 2)) rfl dX0_copyFrom_23 26 rfl ?_
      refine z_iload_n C 2 rfl rfl dX0_copyFrom_26 27 rfl ?_
      refine z_aald C (y := (o (3 + i))) 1 2 1 rfl rfl rfl rfl (by omega) (by decide) rfl dX0_copyFrom_27 28 rfl ?_
      refine z_iconst C (v := nI 0) rfl dX0_copyFrom_28 29 rfl ?_
      refine z_aload_n C 0 rfl rfl dX0_copyFrom_29 30 rfl ?_
      refine z_get C zc0 iX0_copyFrom_X0 0 0 rfl rfl 1 (Nat.le_of_ble_eq_true rfl) (List.mem_of_getElem? (i := 6) rfl) (v := .ref (b 2)) rfl dX0_copyFrom_30 33 rfl ?_
      refine z_iload_n C 2 rfl rfl dX0_copyFrom_33 34 rfl ?_
      refine z_aald C (y := (b (3 + i))) 0 2 1 rfl rfl rfl rfl (by omega) (by decide) rfl dX0_copyFrom_34 35 rfl ?_
      refine z_iconst C (v := nI 0) rfl dX0_copyFrom_35 36 rfl ?_
      refine z_bipush C (v := nI 12) rfl dX0_copyFrom_36 38 rfl ?_
      refine z_copy C (List.mem_of_getElem? (i := 2) rfl) (List.mem_of_getElem? (i := 3) rfl) (List.mem_of_getElem? (i := 4) rfl) (List.mem_of_getElem? (i := 5) rfl) 1 (3 + i) 0 (3 + i) rfl (wB_row (by omega)) rfl (wB_row (by omega)) (by decide) ⟨Nat.le_of_ble_eq_true rfl, Nat.le_of_ble_eq_true rfl⟩ (wB K.g b so (un (fun k => if k < i then ro k else r k) i (ro i)) n) (wB_set (by omega)) [wB K.g b so (un (fun k => if k < i then ro k else r k) i (ro i)) n, wB K.g o so ro no] rfl dX0_copyFrom_38 41 rfl ?_
      refine z_iinc C hnL 2 rfl (v := (nI (i + 1))) (nI_1 _) [1, 2, 0] [(0, .ref (b 0)), (1, .ref (o 0)), (2, .int (nI (i + 1)))] rfl (Nat.le_of_ble_eq_true rfl) dX0_copyFrom_41 44 rfl ?_
      refine z_goto C 17 dX0_copyFrom_44 (by decide) ?_
      refine z_wB 0 rfl so (fun k => if k < i + 1 then ro k else r k) (fun _ _ => rfl) (by intro k hk y hy; (try simp only [reduceIte, Nat.lt_irrefl, un, zia]); (repeat' split); all_goals first | rfl | omega | (congr 1 <;> omega) | (congr 2 <;> omega) | (exfalso; omega) | (subst_vars; first | rfl | (exfalso; omega) | (congr 1 <;> omega))) [wB K.g b so (fun k => if k < i + 1 then ro k else r k) n, wB K.g o so ro no] rfl ?_
      exact ih17 _ (by omega) (i + 1) rfl (by omega)
  refine z_wB 0 rfl so (fun k => if k < 0 then ro k else r k) (fun _ _ => rfl) (by intro k hk y hy; rw [if_neg (by omega)]) [wB K.g b so (fun k => if k < 0 then ro k else r k) n, wB K.g o so ro no] rfl ?_
  exact loop17 _ 0 rfl (by omega)

theorem iX0_append_X0 : ∀ w ∈ u_ws RX0 TX0 3, w ∈ wsX0_append := fun w h => (List.mem_cons_of_mem _ (List.mem_append_right _ h))
set_option maxHeartbeats 4000000 in
set_option maxRecDepth 100000 in
theorem tX0_append (l : Launch) (g : zG) (b st : Nat → Nat) (r : Nat → Nat → Nat) (n : Nat) (p s h d : Nat) (hn : n < 12) : Met l yX0_append wsX0_append ({ frames := 0, cells := 0, slots := 0, locals := 0 } : Room) (zPre g [.ref (b 0), .int (nI p), .int (nI s), .int (nI h), .int (nI d)] [wB g b st r n]) (zQ g (fun _ : Unit => none ) (fun _ : Unit => True) (fun _ : Unit => [wB g b st (apR r n p s h d) (n + 1)]) (zA [wB g b st r n])) 0 0 (zA [wB g b st r n]) := by
  refine z_entry (cc := cX0_append) (maxL := 5) (ret := none) (own := RX0) (by decide) rfl rfl (Nat.le_of_ble_eq_true rfl) [(0, .ref (b 0)), (1, .int (nI p)), (2, .int (nI s)), (3, .int (nI h)), (4, .int (nI d))] rfl ?_
  intro K hKl hKg hnL C hRx
  subst hKl
  subst hKg
  refine z_aload_n C 0 rfl rfl dX0_append_0 1 rfl ?_
  refine z_get C zc0 iX0_append_X0 0 0 rfl rfl 2 (Nat.le_of_ble_eq_true rfl) (List.mem_of_getElem? (i := 1) rfl) (v := .int (nI n)) rfl dX0_append_1 4 rfl ?_
  refine z_bipush C (v := nI 12) rfl dX0_append_4 6 rfl ?_
  refine z_icmp_lt C (by omega) (by omega) 10 dX0_append_6 (by decide) 9 rfl (fun c_1 => ?_) (fun c_1 => ?_)
  rotate_left
  · exfalso; omega
  refine z_aload_n C 0 rfl rfl dX0_append_10 11 rfl ?_
  refine z_get C zc0 iX0_append_X0 0 0 rfl rfl 1 (Nat.le_of_ble_eq_true rfl) (List.mem_of_getElem? (i := 2) rfl) (v := .ref (b 2)) rfl dX0_append_11 14 rfl ?_
  refine z_iconst C (v := nI 0) rfl dX0_append_14 15 rfl ?_
  refine z_aald C (y := (b 3)) 0 2 1 rfl rfl rfl rfl (by omega) (by decide) rfl dX0_append_15 16 rfl ?_
  refine z_aload_n C 0 rfl rfl dX0_append_16 17 rfl ?_
  refine z_get C zc0 iX0_append_X0 0 0 rfl rfl 2 (Nat.le_of_ble_eq_true rfl) (List.mem_of_getElem? (i := 1) rfl) (v := .int (nI n)) rfl dX0_append_17 20 rfl ?_
  refine z_iload_n C 1 rfl rfl dX0_append_20 21 rfl ?_
  refine z_iast C (f := (r 0)) 0 3 rfl rfl (by omega) (by decide) (wB K.g b st (un r 0 (un (r 0) n p)) n) rfl [wB K.g b st (un r 0 (un (r 0) n p)) n] rfl dX0_append_21 22 rfl ?_
  refine z_aload_n C 0 rfl rfl dX0_append_22 23 rfl ?_
  refine z_get C zc0 iX0_append_X0 0 0 rfl rfl 1 (Nat.le_of_ble_eq_true rfl) (List.mem_of_getElem? (i := 2) rfl) (v := .ref (b 2)) rfl dX0_append_23 26 rfl ?_
  refine z_iconst C (v := nI 1) rfl dX0_append_26 27 rfl ?_
  refine z_aald C (y := (b 4)) 0 2 1 rfl rfl rfl rfl (by omega) (by decide) rfl dX0_append_27 28 rfl ?_
  refine z_aload_n C 0 rfl rfl dX0_append_28 29 rfl ?_
  refine z_get C zc0 iX0_append_X0 0 0 rfl rfl 2 (Nat.le_of_ble_eq_true rfl) (List.mem_of_getElem? (i := 1) rfl) (v := .int (nI n)) rfl dX0_append_29 32 rfl ?_
  refine z_iload_n C 2 rfl rfl dX0_append_32 33 rfl ?_
  refine z_iast C (f := ((un r 0 (un (r 0) n p)) 1)) 0 4 rfl rfl (by omega) (by decide) (wB K.g b st (un (un r 0 (un (r 0) n p)) 1 (un ((un r 0 (un (r 0) n p)) 1) n s)) n) rfl [wB K.g b st (un (un r 0 (un (r 0) n p)) 1 (un ((un r 0 (un (r 0) n p)) 1) n s)) n] rfl dX0_append_33 34 rfl ?_
  refine z_aload_n C 0 rfl rfl dX0_append_34 35 rfl ?_
  refine z_get C zc0 iX0_append_X0 0 0 rfl rfl 1 (Nat.le_of_ble_eq_true rfl) (List.mem_of_getElem? (i := 2) rfl) (v := .ref (b 2)) rfl dX0_append_35 38 rfl ?_
  refine z_iconst C (v := nI 2) rfl dX0_append_38 39 rfl ?_
  refine z_aald C (y := (b 5)) 0 2 1 rfl rfl rfl rfl (by omega) (by decide) rfl dX0_append_39 40 rfl ?_
  refine z_aload_n C 0 rfl rfl dX0_append_40 41 rfl ?_
  refine z_get C zc0 iX0_append_X0 0 0 rfl rfl 2 (Nat.le_of_ble_eq_true rfl) (List.mem_of_getElem? (i := 1) rfl) (v := .int (nI n)) rfl dX0_append_41 44 rfl ?_
  refine z_iload_n C 3 rfl rfl dX0_append_44 45 rfl ?_
  refine z_iast C (f := ((un (un r 0 (un (r 0) n p)) 1 (un ((un r 0 (un (r 0) n p)) 1) n s)) 2)) 0 5 rfl rfl (by omega) (by decide) (wB K.g b st (un (un (un r 0 (un (r 0) n p)) 1 (un ((un r 0 (un (r 0) n p)) 1) n s)) 2 (un ((un (un r 0 (un (r 0) n p)) 1 (un ((un r 0 (un (r 0) n p)) 1) n s)) 2) n h)) n) rfl [wB K.g b st (un (un (un r 0 (un (r 0) n p)) 1 (un ((un r 0 (un (r 0) n p)) 1) n s)) 2 (un ((un (un r 0 (un (r 0) n p)) 1 (un ((un r 0 (un (r 0) n p)) 1) n s)) 2) n h)) n] rfl dX0_append_45 46 rfl ?_
  refine z_aload_n C 0 rfl rfl dX0_append_46 47 rfl ?_
  refine z_get C zc0 iX0_append_X0 0 0 rfl rfl 1 (Nat.le_of_ble_eq_true rfl) (List.mem_of_getElem? (i := 2) rfl) (v := .ref (b 2)) rfl dX0_append_47 50 rfl ?_
  refine z_iconst C (v := nI 3) rfl dX0_append_50 51 rfl ?_
  refine z_aald C (y := (b 6)) 0 2 1 rfl rfl rfl rfl (by omega) (by decide) rfl dX0_append_51 52 rfl ?_
  refine z_aload_n C 0 rfl rfl dX0_append_52 53 rfl ?_
  refine z_get C zc0 iX0_append_X0 0 0 rfl rfl 2 (Nat.le_of_ble_eq_true rfl) (List.mem_of_getElem? (i := 1) rfl) (v := .int (nI n)) rfl dX0_append_53 56 rfl ?_
  refine z_iload C 4 rfl dX0_append_56 58 rfl ?_
  refine z_iast C (f := ((un (un (un r 0 (un (r 0) n p)) 1 (un ((un r 0 (un (r 0) n p)) 1) n s)) 2 (un ((un (un r 0 (un (r 0) n p)) 1 (un ((un r 0 (un (r 0) n p)) 1) n s)) 2) n h)) 3)) 0 6 rfl rfl (by omega) (by decide) (wB K.g b st (un (un (un (un r 0 (un (r 0) n p)) 1 (un ((un r 0 (un (r 0) n p)) 1) n s)) 2 (un ((un (un r 0 (un (r 0) n p)) 1 (un ((un r 0 (un (r 0) n p)) 1) n s)) 2) n h)) 3 (un ((un (un (un r 0 (un (r 0) n p)) 1 (un ((un r 0 (un (r 0) n p)) 1) n s)) 2 (un ((un (un r 0 (un (r 0) n p)) 1 (un ((un r 0 (un (r 0) n p)) 1) n s)) 2) n h)) 3) n d)) n) rfl [wB K.g b st (un (un (un (un r 0 (un (r 0) n p)) 1 (un ((un r 0 (un (r 0) n p)) 1) n s)) 2 (un ((un (un r 0 (un (r 0) n p)) 1 (un ((un r 0 (un (r 0) n p)) 1) n s)) 2) n h)) 3 (un ((un (un (un r 0 (un (r 0) n p)) 1 (un ((un r 0 (un (r 0) n p)) 1) n s)) 2 (un ((un (un r 0 (un (r 0) n p)) 1 (un ((un r 0 (un (r 0) n p)) 1) n s)) 2) n h)) 3) n d)) n] rfl dX0_append_58 59 rfl ?_
  refine z_aload_n C 0 rfl rfl dX0_append_59 60 rfl ?_
  refine z_dup C rfl dX0_append_60 61 rfl ?_
  refine z_get C zc0 iX0_append_X0 0 0 rfl rfl 2 (Nat.le_of_ble_eq_true rfl) (List.mem_of_getElem? (i := 1) rfl) (v := .int (nI n)) rfl dX0_append_61 64 rfl ?_
  refine z_iconst C (v := nI 1) rfl dX0_append_64 65 rfl ?_
  refine z_iadd C dX0_append_65 66 rfl ?_
  refine z_put C zc0 iX0_append_X0 0 0 rfl rfl 2 (Nat.le_of_ble_eq_true rfl) (List.mem_of_getElem? (i := 1) rfl) rfl rfl rfl (Nat.le_of_ble_eq_true rfl) (wB K.g b st (un (un (un (un r 0 (un (r 0) n p)) 1 (un ((un r 0 (un (r 0) n p)) 1) n s)) 2 (un ((un (un r 0 (un (r 0) n p)) 1 (un ((un r 0 (un (r 0) n p)) 1) n s)) 2) n h)) 3 (un ((un (un (un r 0 (un (r 0) n p)) 1 (un ((un r 0 (un (r 0) n p)) 1) n s)) 2 (un ((un (un r 0 (un (r 0) n p)) 1 (un ((un r 0 (un (r 0) n p)) 1) n s)) 2) n h)) 3) n d)) (n + 1)) rfl [wB K.g b st (un (un (un (un r 0 (un (r 0) n p)) 1 (un ((un r 0 (un (r 0) n p)) 1) n s)) 2 (un ((un (un r 0 (un (r 0) n p)) 1 (un ((un r 0 (un (r 0) n p)) 1) n s)) 2) n h)) 3 (un ((un (un (un r 0 (un (r 0) n p)) 1 (un ((un r 0 (un (r 0) n p)) 1) n s)) 2 (un ((un (un r 0 (un (r 0) n p)) 1 (un ((un r 0 (un (r 0) n p)) 1) n s)) 2) n h)) 3) n d)) (n + 1)] rfl dX0_append_66 69 rfl ?_
  refine z_wB 0 rfl st (apR r n p s h d) (fun _ _ => rfl) (by intro k hk y hy; rcases (show k = 0 ∨ k = 1 ∨ k = 2 ∨ k = 3 by omega) with rfl | rfl | rfl | rfl <;> rfl) [wB K.g b st (apR r n p s h d) (n + 1)] rfl ?_
  exact z_vret C hRx dX0_append_69 () rfl trivial rfl

theorem iX0_appendAll_X0 : ∀ w ∈ u_ws RX0 TX0 3, w ∈ wsX0_appendAll := fun w h => (List.mem_cons_of_mem _ (List.mem_append_right _ h))
set_option maxHeartbeats 4000000 in
set_option maxRecDepth 100000 in
theorem tX0_appendAll (l : Launch) (g : zG) (b st : Nat → Nat) (r : Nat → Nat → Nat) (n : Nat) (o so : Nat → Nat) (ro : Nat → Nat → Nat) (no : Nat) (hn : n + no ≤ 12) : Met l yX0_appendAll wsX0_appendAll ({ frames := 1, cells := 0, slots := 0, locals := 24 } : Room) (zPre g [.ref (b 0), .ref (o 0)] [wB g b st r n, wB g o so ro no]) (zQ g (fun _ : Unit => none ) (fun _ : Unit => True) (fun _ : Unit => [wB g b st (apA r n ro no) (n + no), wB g o so ro no]) (zA [wB g b st r n, wB g o so ro no])) 0 0 (zA [wB g b st r n, wB g o so ro no]) := by
  refine z_entry (cc := cX0_appendAll) (maxL := 3) (ret := none) (own := RX0) (by decide) rfl rfl (Nat.le_of_ble_eq_true rfl) [(0, .ref (b 0)), (1, .ref (o 0))] rfl ?_
  intro K hKl hKg hnL C hRx
  subst hKl
  subst hKg
  refine z_iconst C (v := nI 0) rfl dX0_appendAll_0 1 rfl ?_
  refine z_istore_n C hnL [1, 2, 0] [(0, .ref (b 0)), (1, .ref (o 0)), (2, .int (nI 0))] rfl rfl (Nat.le_of_ble_eq_true rfl) dX0_appendAll_1 2 rfl ?_
  have loop2 : ∀ (mu : Nat) (i : Nat), mu = no - i → i ≤ no → Z K 0 0 [wB K.g b st (apA r n ro i) (n + i), wB K.g o so ro no] [(0, .ref (b 0)), (1, .ref (o 0)), (2, .int (nI i))] 2 [] := by
    refine z_ind (fun mu ih2 => ?_)
    intro i hmu2 hi
    refine z_iload_n C 2 rfl rfl dX0_appendAll_2 3 rfl ?_
    refine z_aload_n C 1 rfl rfl dX0_appendAll_3 4 rfl ?_
    refine z_get C zc0 iX0_appendAll_X0 1 0 rfl rfl 2 (Nat.le_of_ble_eq_true rfl) (List.mem_of_getElem? (i := 1) rfl) (v := .int (nI no)) rfl dX0_appendAll_4 7 rfl ?_
    refine z_icmp_ge C (by omega) (by omega) 52 dX0_appendAll_7 (by decide) 10 rfl (fun c_1 => ?_) (fun c_1 => ?_)
    · skip
      obtain rfl : i = no := by omega
      exact z_vret C hRx dX0_appendAll_52 () rfl trivial rfl
    · skip
      refine z_aload_n C 0 rfl rfl dX0_appendAll_10 11 rfl ?_
      refine z_aload_n C 1 rfl rfl dX0_appendAll_11 12 rfl ?_
      refine z_get C zc0 iX0_appendAll_X0 1 0 rfl rfl 1 (Nat.le_of_ble_eq_true rfl) (List.mem_of_getElem? (i := 2) rfl) (v := .ref (o 2)) rfl dX0_appendAll_12 15 rfl ?_
      refine z_iconst C (v := nI 0) rfl dX0_appendAll_15 16 rfl ?_
      refine z_aald C (y := (o 3)) 1 2 1 rfl rfl rfl rfl (by omega) (by decide) rfl dX0_appendAll_16 17 rfl ?_
      refine z_iload_n C 2 rfl rfl dX0_appendAll_17 18 rfl ?_
      refine z_iald C (f := (ro 0)) 1 3 rfl rfl (by omega) (by decide) dX0_appendAll_18 19 rfl ?_
      refine z_aload_n C 1 rfl rfl dX0_appendAll_19 20 rfl ?_
      refine z_get C zc0 iX0_appendAll_X0 1 0 rfl rfl 1 (Nat.le_of_ble_eq_true rfl) (List.mem_of_getElem? (i := 2) rfl) (v := .ref (o 2)) rfl dX0_appendAll_20 23 rfl ?_
      refine z_iconst C (v := nI 1) rfl dX0_appendAll_23 24 rfl ?_
      refine z_aald C (y := (o 4)) 1 2 1 rfl rfl rfl rfl (by omega) (by decide) rfl dX0_appendAll_24 25 rfl ?_
      refine z_iload_n C 2 rfl rfl dX0_appendAll_25 26 rfl ?_
      refine z_iald C (f := (ro 1)) 1 4 rfl rfl (by omega) (by decide) dX0_appendAll_26 27 rfl ?_
      refine z_aload_n C 1 rfl rfl dX0_appendAll_27 28 rfl ?_
      refine z_get C zc0 iX0_appendAll_X0 1 0 rfl rfl 1 (Nat.le_of_ble_eq_true rfl) (List.mem_of_getElem? (i := 2) rfl) (v := .ref (o 2)) rfl dX0_appendAll_28 31 rfl ?_
      refine z_iconst C (v := nI 2) rfl dX0_appendAll_31 32 rfl ?_
      refine z_aald C (y := (o 5)) 1 2 1 rfl rfl rfl rfl (by omega) (by decide) rfl dX0_appendAll_32 33 rfl ?_
      refine z_iload_n C 2 rfl rfl dX0_appendAll_33 34 rfl ?_
      refine z_iald C (f := (ro 2)) 1 5 rfl rfl (by omega) (by decide) dX0_appendAll_34 35 rfl ?_
      refine z_aload_n C 1 rfl rfl dX0_appendAll_35 36 rfl ?_
      refine z_get C zc0 iX0_appendAll_X0 1 0 rfl rfl 1 (Nat.le_of_ble_eq_true rfl) (List.mem_of_getElem? (i := 2) rfl) (v := .ref (o 2)) rfl dX0_appendAll_36 39 rfl ?_
      refine z_iconst C (v := nI 3) rfl dX0_appendAll_39 40 rfl ?_
      refine z_aald C (y := (o 6)) 1 2 1 rfl rfl rfl rfl (by omega) (by decide) rfl dX0_appendAll_40 41 rfl ?_
      refine z_iload_n C 2 rfl rfl dX0_appendAll_41 42 rfl ?_
      refine z_iald C (f := (ro 3)) 1 6 rfl rfl (by omega) (by decide) dX0_appendAll_42 43 rfl ?_
      refine z_callV C [.int (nI (ro 0 i)), .int (nI (ro 1 i)), .int (nI (ro 2 i)), .int (nI (ro 3 i))] [] (tX0_append K.l K.g b st (apA r n ro i) (n + i) (ro 0 i) (ro 1 i) (ro 2 i) (ro 3 i) (by first | omega | assumption)) gX0_appendAll_X0_append rfl rfl rfl hdX0_append ⟨Nat.le_of_ble_eq_true rfl, Nat.le_of_ble_eq_true rfl⟩ ⟨Nat.zero_le _, Nat.zero_le _⟩ 0 0 rfl rfl rfl [0] rfl rfl (zlc (N := 2) rfl rfl) [2, 1] rfl (by decide) (fun _ : Unit => [wB K.g b st (apR (apA r n ro i) (n + i) (ro 0 i) (ro 1 i) (ro 2 i) (ro 3 i)) ((n + i) + 1), wB K.g o so ro no]) (fun _ => rfl) rfl rfl (Nat.le_of_ble_eq_true rfl) dX0_appendAll_43 46 rfl (fun u9 hu9 => ?_)
      show Z K 0 0 [wB K.g b st (apR (apA r n ro i) (n + i) (ro 0 i) (ro 1 i) (ro 2 i) (ro 3 i)) ((n + i) + 1), wB K.g o so ro no] [(0, .ref (b 0)), (1, .ref (o 0)), (2, .int (nI i))] 46 []
      refine z_iinc C hnL 2 rfl (v := (nI (i + 1))) (nI_1 _) [1, 2, 0] [(0, .ref (b 0)), (1, .ref (o 0)), (2, .int (nI (i + 1)))] rfl (Nat.le_of_ble_eq_true rfl) dX0_appendAll_46 49 rfl ?_
      refine z_goto C 2 dX0_appendAll_49 (by decide) ?_
      exact ih2 _ (by omega) (i + 1) rfl (by omega)
  exact loop2 _ 0 rfl (by omega)

theorem iX0_shift_X0 : ∀ w ∈ u_ws RX0 TX0 3, w ∈ wsX0_shift := fun w h => (List.mem_cons_of_mem _ (List.mem_append_right _ h))
set_option maxHeartbeats 4000000 in
set_option maxRecDepth 100000 in
theorem tX0_shift (l : Launch) (g : zG) (b st : Nat → Nat) (r : Nat → Nat → Nat) (n : Nat) (f t : Nat) (hf : f < 12) (ht : t < 12) : Met l yX0_shift wsX0_shift ({ frames := 0, cells := 0, slots := 0, locals := 0 } : Room) (zPre g [.ref (b 0), .int (nI f), .int (nI t)] [wB g b st r n]) (zQ g (fun _ : Unit => none ) (fun _ : Unit => True) (fun _ : Unit => [wB g b st (fun k => shf (r k) f t) n]) (zA [wB g b st r n])) 0 0 (zA [wB g b st r n]) := by
  refine z_entry (cc := cX0_shift) (maxL := 9) (ret := none) (own := RX0) (by decide) rfl rfl (Nat.le_of_ble_eq_true rfl) [(0, .ref (b 0)), (1, .int (nI f)), (2, .int (nI t))] rfl ?_
  intro K hKl hKg hnL C hRx
  subst hKl
  subst hKg
  refine z_aload_n C 0 rfl rfl dX0_shift_0 1 rfl ?_
  refine z_get C zc0 iX0_shift_X0 0 0 rfl rfl 1 (Nat.le_of_ble_eq_true rfl) (List.mem_of_getElem? (i := 1) rfl) (v := .ref (b 2)) rfl dX0_shift_1 4 rfl ?_
  refine z_astore_n C hnL [1, 2, 3, 0] [(0, .ref (b 0)), (1, .int (nI f)), (2, .int (nI t)), (3, .ref (b 2))] rfl rfl (Nat.le_of_ble_eq_true rfl) dX0_shift_4 5 rfl ?_
  refine z_aload_n C 3 rfl rfl dX0_shift_5 6 rfl ?_
  refine z_alen C 0 2 1 rfl rfl rfl (v := 4) rfl dX0_shift_6 7 rfl ?_
  refine z_istore C hnL [1, 2, 3, 4, 0] [(0, .ref (b 0)), (1, .int (nI f)), (2, .int (nI t)), (3, .ref (b 2)), (4, .int (nI 4))] rfl (Nat.le_of_ble_eq_true rfl) dX0_shift_7 9 rfl ?_
  refine z_iconst C (v := nI 0) rfl dX0_shift_9 10 rfl ?_
  refine z_istore C hnL [1, 2, 3, 4, 5, 0] [(0, .ref (b 0)), (1, .int (nI f)), (2, .int (nI t)), (3, .ref (b 2)), (4, .int (nI 4)), (5, .int (nI 0))] rfl (Nat.le_of_ble_eq_true rfl) dX0_shift_10 12 rfl ?_
  have loop12 : ∀ (mu : Nat) (i : Nat), mu = 4 - i → i ≤ 4 → Z K 0 0 [wB K.g b st (fun k => if k < i then shf (r k) f t else r k) n] [(0, .ref (b 0)), (1, .int (nI f)), (2, .int (nI t)), (3, .ref (b 2)), (4, .int (nI 4)), (5, .int (nI i))] 12 [] := by
    refine z_ind (fun mu ih12 => ?_)
    intro i hmu12 hi
    refine z_iload C 5 rfl dX0_shift_12 14 rfl ?_
    refine z_iload C 4 rfl dX0_shift_14 16 rfl ?_
    refine z_icmp_ge C (by omega) (by omega) 97 dX0_shift_16 (by decide) 19 rfl (fun c_1 => ?_) (fun c_1 => ?_)
    · skip
      refine z_wB 0 rfl st (fun k => shf (r k) f t) (fun _ _ => rfl) (by intro k hk y hy; rw [if_pos (by omega)]) [wB K.g b st (fun k => shf (r k) f t) n] rfl ?_
      exact z_vret C hRx dX0_shift_97 () rfl trivial rfl
    · skip
      refine z_aload_n C 3 rfl rfl dX0_shift_19 20 rfl ?_
      refine z_iload C 5 rfl dX0_shift_20 22 rfl ?_
      refine z_aald C (y := (b (3 + i))) 0 2 1 rfl rfl rfl rfl (by omega) (by decide) rfl dX0_shift_22 23 rfl ?_
      refine z_astore C hnL [1, 2, 3, 4, 5, 6, 0] [(0, .ref (b 0)), (1, .int (nI f)), (2, .int (nI t)), (3, .ref (b 2)), (4, .int (nI 4)), (5, .int (nI i)), (6, .ref (b (3 + i)))] rfl (Nat.le_of_ble_eq_true rfl) dX0_shift_23 25 rfl ?_
      refine z_aload C 6 rfl dX0_shift_25 27 rfl ?_
      refine z_iload_n C 1 rfl rfl dX0_shift_27 28 rfl ?_
      refine z_iald C (f := ((fun k => if k < i then shf (r k) f t else r k) i)) 0 (3 + i) rfl (wB_row (by omega)) (by omega) (by decide) dX0_shift_28 29 rfl ?_
      refine z_top (y := nI (r i f)) (by show nI ((if i < i then shf (r i) f t else r i) f) = _; rw [if_neg (Nat.lt_irrefl i)]) ?_
      refine z_istore C hnL [1, 2, 3, 4, 5, 6, 7, 0] [(0, .ref (b 0)), (1, .int (nI f)), (2, .int (nI t)), (3, .ref (b 2)), (4, .int (nI 4)), (5, .int (nI i)), (6, .ref (b (3 + i))), (7, .int (nI (r i f)))] rfl (Nat.le_of_ble_eq_true rfl) dX0_shift_29 31 rfl ?_
      refine z_iload_n C 1 rfl rfl dX0_shift_31 32 rfl ?_
      refine z_istore C hnL [1, 2, 3, 4, 5, 6, 7, 8, 0] [(0, .ref (b 0)), (1, .int (nI f)), (2, .int (nI t)), (3, .ref (b 2)), (4, .int (nI 4)), (5, .int (nI i)), (6, .ref (b (3 + i))), (7, .int (nI (r i f))), (8, .int (nI f))] rfl (Nat.le_of_ble_eq_true rfl) dX0_shift_32 34 rfl ?_
      have loop34 : ∀ (mu : Nat) (p : Nat), mu = t - p → f ≤ p → p ≤ t ∨ p = f → Z K 0 0 [wB K.g b st (fun k => if k < i then shf (r k) f t else if k = i then upS (r k) f p else r k) n] [(0, .ref (b 0)), (1, .int (nI f)), (2, .int (nI t)), (3, .ref (b 2)), (4, .int (nI 4)), (5, .int (nI i)), (6, .ref (b (3 + i))), (7, .int (nI (r i f))), (8, .int (nI p))] 34 [] := by
        refine z_ind (fun mu ih34 => ?_)
        intro p hmu34 hp hp2
        refine z_iload C 8 rfl dX0_shift_34 36 rfl ?_
        refine z_iload_n C 2 rfl rfl dX0_shift_36 37 rfl ?_
        refine z_icmp_ge C (by omega) (by omega) 58 dX0_shift_37 (by decide) 40 rfl (fun c_2 => ?_) (fun c_2 => ?_)
        · skip
          refine z_iload_n C 1 rfl rfl dX0_shift_58 59 rfl ?_
          refine z_istore C hnL [1, 2, 3, 4, 5, 6, 7, 8, 0] [(0, .ref (b 0)), (1, .int (nI f)), (2, .int (nI t)), (3, .ref (b 2)), (4, .int (nI 4)), (5, .int (nI i)), (6, .ref (b (3 + i))), (7, .int (nI (r i f))), (8, .int (nI f))] rfl (Nat.le_of_ble_eq_true rfl) dX0_shift_59 61 rfl ?_
          have loop61 : ∀ (mu : Nat) (p : Nat), mu = p - t → p ≤ f → t ≤ p ∨ p = f → Z K 0 0 [wB K.g b st (fun k => if k < i then shf (r k) f t else if k = i then dnS (r k) f t p else r k) n] [(0, .ref (b 0)), (1, .int (nI f)), (2, .int (nI t)), (3, .ref (b 2)), (4, .int (nI 4)), (5, .int (nI i)), (6, .ref (b (3 + i))), (7, .int (nI (r i f))), (8, .int (nI p))] 61 [] := by
            refine z_ind (fun mu ih61 => ?_)
            intro p hmu61 hp hp2
            refine z_iload C 8 rfl dX0_shift_61 63 rfl ?_
            refine z_iload_n C 2 rfl rfl dX0_shift_63 64 rfl ?_
            refine z_icmp_le C (by omega) (by omega) 85 dX0_shift_64 (by decide) 67 rfl (fun c_3 => ?_) (fun c_3 => ?_)
            · skip
              refine z_aload C 6 rfl dX0_shift_85 87 rfl ?_
              refine z_iload_n C 2 rfl rfl dX0_shift_87 88 rfl ?_
              refine z_iload C 7 rfl dX0_shift_88 90 rfl ?_
              refine z_iast C (f := ((fun k => if k < i then shf (r k) f t else if k = i then dnS (r k) f t p else r k) i)) 0 (3 + i) rfl (wB_row (by omega)) (by omega) (by decide) (wB K.g b st (un (fun k => if k < i then shf (r k) f t else if k = i then dnS (r k) f t p else r k) i (un ((fun k => if k < i then shf (r k) f t else if k = i then dnS (r k) f t p else r k) i) t (r i f))) n) (wB_set (by omega)) [wB K.g b st (un (fun k => if k < i then shf (r k) f t else if k = i then dnS (r k) f t p else r k) i (un ((fun k => if k < i then shf (r k) f t else if k = i then dnS (r k) f t p else r k) i) t (r i f))) n] rfl dX0_shift_90 91 rfl ?_
              refine z_iinc C hnL 5 rfl (v := (nI (i + 1))) (nI_1 _) [1, 2, 3, 4, 5, 0, 6, 7, 8] [(0, .ref (b 0)), (1, .int (nI f)), (2, .int (nI t)), (3, .ref (b 2)), (4, .int (nI 4)), (5, .int (nI (i + 1))), (6, .ref (b (3 + i))), (7, .int (nI (r i f))), (8, .int (nI p))] rfl (Nat.le_of_ble_eq_true rfl) dX0_shift_91 94 rfl ?_
              refine z_goto C 12 dX0_shift_94 (by decide) ?_
              refine z_lv [0, 1, 2, 3, 4, 5] [(0, .ref (b 0)), (1, .int (nI f)), (2, .int (nI t)), (3, .ref (b 2)), (4, .int (nI 4)), (5, .int (nI (i + 1)))] rfl ?_
              refine z_wB 0 rfl st (fun k => if k < i + 1 then shf (r k) f t else r k) (fun _ _ => rfl) (by intro k hk y hy; (try simp only [reduceIte, Nat.lt_irrefl, un, zia, shf, upS, dnS]); (repeat' split); all_goals first | rfl | omega | (congr 1 <;> omega) | (congr 2 <;> omega) | (exfalso; omega) | (subst_vars; first | rfl | (exfalso; omega) | (congr 1 <;> omega))) [wB K.g b st (fun k => if k < i + 1 then shf (r k) f t else r k) n] rfl ?_
              exact ih12 _ (by omega) (i + 1) rfl (by omega)
            · skip
              refine z_aload C 6 rfl dX0_shift_67 69 rfl ?_
              refine z_iload C 8 rfl dX0_shift_69 71 rfl ?_
              refine z_aload C 6 rfl dX0_shift_71 73 rfl ?_
              refine z_iload C 8 rfl dX0_shift_73 75 rfl ?_
              refine z_iconst C (v := nI 1) rfl dX0_shift_75 76 rfl ?_
              refine z_isub C (by omega) dX0_shift_76 77 rfl ?_
              refine z_iald C (f := ((fun k => if k < i then shf (r k) f t else if k = i then dnS (r k) f t p else r k) i)) 0 (3 + i) rfl (wB_row (by omega)) (by omega) (by decide) dX0_shift_77 78 rfl ?_
              refine z_iast C (f := ((fun k => if k < i then shf (r k) f t else if k = i then dnS (r k) f t p else r k) i)) 0 (3 + i) rfl (wB_row (by omega)) (by omega) (by decide) (wB K.g b st (un (fun k => if k < i then shf (r k) f t else if k = i then dnS (r k) f t p else r k) i (un ((fun k => if k < i then shf (r k) f t else if k = i then dnS (r k) f t p else r k) i) p ((fun k => if k < i then shf (r k) f t else if k = i then dnS (r k) f t p else r k) i (p - 1)))) n) (wB_set (by omega)) [wB K.g b st (un (fun k => if k < i then shf (r k) f t else if k = i then dnS (r k) f t p else r k) i (un ((fun k => if k < i then shf (r k) f t else if k = i then dnS (r k) f t p else r k) i) p ((fun k => if k < i then shf (r k) f t else if k = i then dnS (r k) f t p else r k) i (p - 1)))) n] rfl dX0_shift_78 79 rfl ?_
              refine z_iinc C hnL 8 rfl (v := (nI (p - 1))) (z_dec (by omega)) [1, 2, 3, 4, 5, 6, 7, 8, 0] [(0, .ref (b 0)), (1, .int (nI f)), (2, .int (nI t)), (3, .ref (b 2)), (4, .int (nI 4)), (5, .int (nI i)), (6, .ref (b (3 + i))), (7, .int (nI (r i f))), (8, .int (nI (p - 1)))] rfl (Nat.le_of_ble_eq_true rfl) dX0_shift_79 82 rfl ?_
              refine z_goto C 61 dX0_shift_82 (by decide) ?_
              refine z_wB 0 rfl st (fun k => if k < i then shf (r k) f t else if k = i then dnS (r k) f t (p - 1) else r k) (fun _ _ => rfl) (by intro k hk y hy; (try simp only [reduceIte, Nat.lt_irrefl, un, zia, shf, upS, dnS]); (repeat' split); all_goals first | rfl | omega | (congr 1 <;> omega) | (congr 2 <;> omega) | (exfalso; omega) | (subst_vars; first | rfl | (exfalso; omega) | (congr 1 <;> omega))) [wB K.g b st (fun k => if k < i then shf (r k) f t else if k = i then dnS (r k) f t (p - 1) else r k) n] rfl ?_
              exact ih61 _ (by omega) (p - 1) rfl (by omega) (by omega)
          refine z_wB 0 rfl st (fun k => if k < i then shf (r k) f t else if k = i then dnS (r k) f t f else r k) (fun _ _ => rfl) (by intro k hk y hy; (try simp only [reduceIte, Nat.lt_irrefl, un, zia, shf, upS, dnS]); (repeat' split); all_goals first | rfl | omega | (congr 1 <;> omega) | (congr 2 <;> omega) | (exfalso; omega) | (subst_vars; first | rfl | (exfalso; omega) | (congr 1 <;> omega))) [wB K.g b st (fun k => if k < i then shf (r k) f t else if k = i then dnS (r k) f t f else r k) n] rfl ?_
          exact loop61 _ f rfl (Nat.le_refl _) (Or.inr rfl)
        · skip
          refine z_aload C 6 rfl dX0_shift_40 42 rfl ?_
          refine z_iload C 8 rfl dX0_shift_42 44 rfl ?_
          refine z_aload C 6 rfl dX0_shift_44 46 rfl ?_
          refine z_iload C 8 rfl dX0_shift_46 48 rfl ?_
          refine z_iconst C (v := nI 1) rfl dX0_shift_48 49 rfl ?_
          refine z_iadd C dX0_shift_49 50 rfl ?_
          refine z_iald C (f := ((fun k => if k < i then shf (r k) f t else if k = i then upS (r k) f p else r k) i)) 0 (3 + i) rfl (wB_row (by omega)) (by omega) (by decide) dX0_shift_50 51 rfl ?_
          refine z_iast C (f := ((fun k => if k < i then shf (r k) f t else if k = i then upS (r k) f p else r k) i)) 0 (3 + i) rfl (wB_row (by omega)) (by omega) (by decide) (wB K.g b st (un (fun k => if k < i then shf (r k) f t else if k = i then upS (r k) f p else r k) i (un ((fun k => if k < i then shf (r k) f t else if k = i then upS (r k) f p else r k) i) p ((fun k => if k < i then shf (r k) f t else if k = i then upS (r k) f p else r k) i (p + 1)))) n) (wB_set (by omega)) [wB K.g b st (un (fun k => if k < i then shf (r k) f t else if k = i then upS (r k) f p else r k) i (un ((fun k => if k < i then shf (r k) f t else if k = i then upS (r k) f p else r k) i) p ((fun k => if k < i then shf (r k) f t else if k = i then upS (r k) f p else r k) i (p + 1)))) n] rfl dX0_shift_51 52 rfl ?_
          refine z_iinc C hnL 8 rfl (v := (nI (p + 1))) (nI_1 _) [1, 2, 3, 4, 5, 6, 7, 8, 0] [(0, .ref (b 0)), (1, .int (nI f)), (2, .int (nI t)), (3, .ref (b 2)), (4, .int (nI 4)), (5, .int (nI i)), (6, .ref (b (3 + i))), (7, .int (nI (r i f))), (8, .int (nI (p + 1)))] rfl (Nat.le_of_ble_eq_true rfl) dX0_shift_52 55 rfl ?_
          refine z_goto C 34 dX0_shift_55 (by decide) ?_
          refine z_wB 0 rfl st (fun k => if k < i then shf (r k) f t else if k = i then upS (r k) f (p + 1) else r k) (fun _ _ => rfl) (by intro k hk y hy; (try simp only [reduceIte, Nat.lt_irrefl, un, zia, shf, upS, dnS]); (repeat' split); all_goals first | rfl | omega | (congr 1 <;> omega) | (congr 2 <;> omega) | (exfalso; omega) | (subst_vars; first | rfl | (exfalso; omega) | (congr 1 <;> omega))) [wB K.g b st (fun k => if k < i then shf (r k) f t else if k = i then upS (r k) f (p + 1) else r k) n] rfl ?_
          exact ih34 _ (by omega) (p + 1) rfl (by omega) (by omega)
      refine z_wB 0 rfl st (fun k => if k < i then shf (r k) f t else if k = i then upS (r k) f f else r k) (fun _ _ => rfl) (by intro k hk y hy; (try simp only [reduceIte, Nat.lt_irrefl, un, zia, shf, upS, dnS]); (repeat' split); all_goals first | rfl | omega | (congr 1 <;> omega) | (congr 2 <;> omega) | (exfalso; omega) | (subst_vars; first | rfl | (exfalso; omega) | (congr 1 <;> omega))) [wB K.g b st (fun k => if k < i then shf (r k) f t else if k = i then upS (r k) f f else r k) n] rfl ?_
      exact loop34 _ f rfl (Nat.le_refl _) (Or.inr rfl)
  refine z_wB 0 rfl st (fun k => if k < 0 then shf (r k) f t else r k) (fun _ _ => rfl) (by intro k hk y hy; rw [if_neg (by omega)]) [wB K.g b st (fun k => if k < 0 then shf (r k) f t else r k) n] rfl ?_
  exact loop12 _ 0 rfl (by omega)

theorem iX0_exchange_X0 : ∀ w ∈ u_ws RX0 TX0 3, w ∈ wsX0_exchange := fun w h => (List.mem_cons_of_mem _ (List.mem_append_right _ h))
set_option maxHeartbeats 4000000 in
set_option maxRecDepth 100000 in
theorem tX0_exchange (l : Launch) (g : zG) (b st : Nat → Nat) (r : Nat → Nat → Nat) (n : Nat) (f t : Nat) (hf : f < 12) (ht : t < 12) : Met l yX0_exchange wsX0_exchange ({ frames := 0, cells := 0, slots := 0, locals := 0 } : Room) (zPre g [.ref (b 0), .int (nI f), .int (nI t)] [wB g b st r n]) (zQ g (fun _ : Unit => none ) (fun _ : Unit => True) (fun _ : Unit => [wB g b st (fun k => swp (r k) f t) n]) (zA [wB g b st r n])) 0 0 (zA [wB g b st r n]) := by
  refine z_entry (cc := cX0_exchange) (maxL := 8) (ret := none) (own := RX0) (by decide) rfl rfl (Nat.le_of_ble_eq_true rfl) [(0, .ref (b 0)), (1, .int (nI f)), (2, .int (nI t))] rfl ?_
  intro K hKl hKg hnL C hRx
  subst hKl
  subst hKg
  refine z_aload_n C 0 rfl rfl dX0_exchange_0 1 rfl ?_
  refine z_get C zc0 iX0_exchange_X0 0 0 rfl rfl 1 (Nat.le_of_ble_eq_true rfl) (List.mem_of_getElem? (i := 1) rfl) (v := .ref (b 2)) rfl dX0_exchange_1 4 rfl ?_
  refine z_astore_n C hnL [1, 2, 3, 0] [(0, .ref (b 0)), (1, .int (nI f)), (2, .int (nI t)), (3, .ref (b 2))] rfl rfl (Nat.le_of_ble_eq_true rfl) dX0_exchange_4 5 rfl ?_
  refine z_aload_n C 3 rfl rfl dX0_exchange_5 6 rfl ?_
  refine z_alen C 0 2 1 rfl rfl rfl (v := 4) rfl dX0_exchange_6 7 rfl ?_
  refine z_istore C hnL [1, 2, 3, 4, 0] [(0, .ref (b 0)), (1, .int (nI f)), (2, .int (nI t)), (3, .ref (b 2)), (4, .int (nI 4))] rfl (Nat.le_of_ble_eq_true rfl) dX0_exchange_7 9 rfl ?_
  refine z_iconst C (v := nI 0) rfl dX0_exchange_9 10 rfl ?_
  refine z_istore C hnL [1, 2, 3, 4, 5, 0] [(0, .ref (b 0)), (1, .int (nI f)), (2, .int (nI t)), (3, .ref (b 2)), (4, .int (nI 4)), (5, .int (nI 0))] rfl (Nat.le_of_ble_eq_true rfl) dX0_exchange_10 12 rfl ?_
  have loop12 : ∀ (mu : Nat) (i : Nat), mu = 4 - i → i ≤ 4 → Z K 0 0 [wB K.g b st (fun k => if k < i then swp (r k) f t else r k) n] [(0, .ref (b 0)), (1, .int (nI f)), (2, .int (nI t)), (3, .ref (b 2)), (4, .int (nI 4)), (5, .int (nI i))] 12 [] := by
    refine z_ind (fun mu ih12 => ?_)
    intro i hmu12 hi
    refine z_iload C 5 rfl dX0_exchange_12 14 rfl ?_
    refine z_iload C 4 rfl dX0_exchange_14 16 rfl ?_
    refine z_icmp_ge C (by omega) (by omega) 51 dX0_exchange_16 (by decide) 19 rfl (fun c_1 => ?_) (fun c_1 => ?_)
    · skip
      refine z_wB 0 rfl st (fun k => swp (r k) f t) (fun _ _ => rfl) (by intro k hk y hy; rw [if_pos (by omega)]) [wB K.g b st (fun k => swp (r k) f t) n] rfl ?_
      exact z_vret C hRx dX0_exchange_51 () rfl trivial rfl
    · skip
      refine z_aload_n C 3 rfl rfl dX0_exchange_19 20 rfl ?_
      refine z_iload C 5 rfl dX0_exchange_20 22 rfl ?_
      refine z_aald C (y := (b (3 + i))) 0 2 1 rfl rfl rfl rfl (by omega) (by decide) rfl dX0_exchange_22 23 rfl ?_
      refine z_astore C hnL [1, 2, 3, 4, 5, 6, 0] [(0, .ref (b 0)), (1, .int (nI f)), (2, .int (nI t)), (3, .ref (b 2)), (4, .int (nI 4)), (5, .int (nI i)), (6, .ref (b (3 + i)))] rfl (Nat.le_of_ble_eq_true rfl) dX0_exchange_23 25 rfl ?_
      refine z_aload C 6 rfl dX0_exchange_25 27 rfl ?_
      refine z_iload_n C 1 rfl rfl dX0_exchange_27 28 rfl ?_
      refine z_iald C (f := ((fun k => if k < i then swp (r k) f t else r k) i)) 0 (3 + i) rfl (wB_row (by omega)) (by omega) (by decide) dX0_exchange_28 29 rfl ?_
      refine z_istore C hnL [1, 2, 3, 4, 5, 6, 7, 0] [(0, .ref (b 0)), (1, .int (nI f)), (2, .int (nI t)), (3, .ref (b 2)), (4, .int (nI 4)), (5, .int (nI i)), (6, .ref (b (3 + i))), (7, .int (nI ((fun k => if k < i then swp (r k) f t else r k) i f)))] rfl (Nat.le_of_ble_eq_true rfl) dX0_exchange_29 31 rfl ?_
      refine z_aload C 6 rfl dX0_exchange_31 33 rfl ?_
      refine z_iload_n C 1 rfl rfl dX0_exchange_33 34 rfl ?_
      refine z_aload C 6 rfl dX0_exchange_34 36 rfl ?_
      refine z_iload_n C 2 rfl rfl dX0_exchange_36 37 rfl ?_
      refine z_iald C (f := ((fun k => if k < i then swp (r k) f t else r k) i)) 0 (3 + i) rfl (wB_row (by omega)) (by omega) (by decide) dX0_exchange_37 38 rfl ?_
      refine z_iast C (f := ((fun k => if k < i then swp (r k) f t else r k) i)) 0 (3 + i) rfl (wB_row (by omega)) (by omega) (by decide) (wB K.g b st (un (fun k => if k < i then swp (r k) f t else r k) i (un ((fun k => if k < i then swp (r k) f t else r k) i) f ((fun k => if k < i then swp (r k) f t else r k) i t))) n) (wB_set (by omega)) [wB K.g b st (un (fun k => if k < i then swp (r k) f t else r k) i (un ((fun k => if k < i then swp (r k) f t else r k) i) f ((fun k => if k < i then swp (r k) f t else r k) i t))) n] rfl dX0_exchange_38 39 rfl ?_
      refine z_aload C 6 rfl dX0_exchange_39 41 rfl ?_
      refine z_iload_n C 2 rfl rfl dX0_exchange_41 42 rfl ?_
      refine z_iload C 7 rfl dX0_exchange_42 44 rfl ?_
      refine z_iast C (f := ((un (fun k => if k < i then swp (r k) f t else r k) i (un ((fun k => if k < i then swp (r k) f t else r k) i) f ((fun k => if k < i then swp (r k) f t else r k) i t))) i)) 0 (3 + i) rfl (wB_row (by omega)) (by omega) (by decide) (wB K.g b st (un (un (fun k => if k < i then swp (r k) f t else r k) i (un ((fun k => if k < i then swp (r k) f t else r k) i) f ((fun k => if k < i then swp (r k) f t else r k) i t))) i (un ((un (fun k => if k < i then swp (r k) f t else r k) i (un ((fun k => if k < i then swp (r k) f t else r k) i) f ((fun k => if k < i then swp (r k) f t else r k) i t))) i) t ((fun k => if k < i then swp (r k) f t else r k) i f))) n) (wB_set (by omega)) [wB K.g b st (un (un (fun k => if k < i then swp (r k) f t else r k) i (un ((fun k => if k < i then swp (r k) f t else r k) i) f ((fun k => if k < i then swp (r k) f t else r k) i t))) i (un ((un (fun k => if k < i then swp (r k) f t else r k) i (un ((fun k => if k < i then swp (r k) f t else r k) i) f ((fun k => if k < i then swp (r k) f t else r k) i t))) i) t ((fun k => if k < i then swp (r k) f t else r k) i f))) n] rfl dX0_exchange_44 45 rfl ?_
      refine z_iinc C hnL 5 rfl (v := (nI (i + 1))) (nI_1 _) [1, 2, 3, 4, 5, 0, 6, 7] [(0, .ref (b 0)), (1, .int (nI f)), (2, .int (nI t)), (3, .ref (b 2)), (4, .int (nI 4)), (5, .int (nI (i + 1))), (6, .ref (b (3 + i))), (7, .int (nI ((fun k => if k < i then swp (r k) f t else r k) i f)))] rfl (Nat.le_of_ble_eq_true rfl) dX0_exchange_45 48 rfl ?_
      refine z_goto C 12 dX0_exchange_48 (by decide) ?_
      refine z_lv [0, 1, 2, 3, 4, 5] [(0, .ref (b 0)), (1, .int (nI f)), (2, .int (nI t)), (3, .ref (b 2)), (4, .int (nI 4)), (5, .int (nI (i + 1)))] rfl ?_
      refine z_wB 0 rfl st (fun k => if k < i + 1 then swp (r k) f t else r k) (fun _ _ => rfl) (by intro k hk y hy; (try simp only [reduceIte, Nat.lt_irrefl, un, zia, swp]); (repeat' split); all_goals first | rfl | omega | (congr 1 <;> omega) | (congr 2 <;> omega) | (exfalso; omega) | (subst_vars; first | rfl | (exfalso; omega) | (congr 1 <;> omega))) [wB K.g b st (fun k => if k < i + 1 then swp (r k) f t else r k) n] rfl ?_
      exact ih12 _ (by omega) (i + 1) rfl (by omega)
  refine z_wB 0 rfl st (fun k => if k < 0 then swp (r k) f t else r k) (fun _ _ => rfl) (by intro k hk y hy; rw [if_neg (by omega)]) [wB K.g b st (fun k => if k < 0 then swp (r k) f t else r k) n] rfl ?_
  exact loop12 _ 0 rfl (by omega)

theorem iX0_remove_X0 : ∀ w ∈ u_ws RX0 TX0 3, w ∈ wsX0_remove := fun w h => (List.mem_cons_of_mem _ (List.mem_append_right _ h))
set_option maxHeartbeats 4000000 in
set_option maxRecDepth 100000 in
theorem tX0_remove (l : Launch) (g : zG) (b st : Nat → Nat) (r : Nat → Nat → Nat) (n : Nat) (f : Nat) (hf : f < n) (hn : n ≤ 12) : Met l yX0_remove wsX0_remove ({ frames := 1, cells := 0, slots := 0, locals := 28 } : Room) (zPre g [.ref (b 0), .int (nI f)] [wB g b st r n]) (zQ g (fun _ : Unit => none ) (fun _ : Unit => True) (fun _ : Unit => [wB g b st (fun k => shf (r k) f (n - 1)) (n - 1)]) (zA [wB g b st r n])) 0 0 (zA [wB g b st r n]) := by
  refine z_entry (cc := cX0_remove) (maxL := 2) (ret := none) (own := RX0) (by decide) rfl rfl (Nat.le_of_ble_eq_true rfl) [(0, .ref (b 0)), (1, .int (nI f))] rfl ?_
  intro K hKl hKg hnL C hRx
  subst hKl
  subst hKg
  refine z_aload_n C 0 rfl rfl dX0_remove_0 1 rfl ?_
  refine z_iload_n C 1 rfl rfl dX0_remove_1 2 rfl ?_
  refine z_aload_n C 0 rfl rfl dX0_remove_2 3 rfl ?_
  refine z_get C zc0 iX0_remove_X0 0 0 rfl rfl 2 (Nat.le_of_ble_eq_true rfl) (List.mem_of_getElem? (i := 1) rfl) (v := .int (nI n)) rfl dX0_remove_3 6 rfl ?_
  refine z_iconst C (v := nI 1) rfl dX0_remove_6 7 rfl ?_
  refine z_isub C (by omega) dX0_remove_7 8 rfl ?_
  refine z_callV C [.int (nI f), .int (nI (n - 1))] [] (tX0_shift K.l K.g b st r n f (n - 1) (by first | omega | assumption) (by first | omega | assumption)) gX0_remove_X0_shift rfl rfl rfl hdX0_shift ⟨Nat.le_of_ble_eq_true rfl, Nat.le_of_ble_eq_true rfl⟩ ⟨Nat.zero_le _, Nat.zero_le _⟩ 0 0 rfl rfl rfl [0] rfl rfl (zlc (N := 1) rfl rfl) [1] rfl (by decide) (fun _ : Unit => [wB K.g b st (fun k => shf (r k) f (n - 1)) n]) (fun _ => rfl) rfl rfl (Nat.le_of_ble_eq_true rfl) dX0_remove_8 11 rfl (fun u9 hu9 => ?_)
  show Z K 0 0 [wB K.g b st (fun k => shf (r k) f (n - 1)) n] [(0, .ref (b 0)), (1, .int (nI f))] 11 []
  refine z_aload_n C 0 rfl rfl dX0_remove_11 12 rfl ?_
  refine z_dup C rfl dX0_remove_12 13 rfl ?_
  refine z_get C zc0 iX0_remove_X0 0 0 rfl rfl 2 (Nat.le_of_ble_eq_true rfl) (List.mem_of_getElem? (i := 1) rfl) (v := .int (nI n)) rfl dX0_remove_13 16 rfl ?_
  refine z_iconst C (v := nI 1) rfl dX0_remove_16 17 rfl ?_
  refine z_isub C (by omega) dX0_remove_17 18 rfl ?_
  refine z_put C zc0 iX0_remove_X0 0 0 rfl rfl 2 (Nat.le_of_ble_eq_true rfl) (List.mem_of_getElem? (i := 1) rfl) rfl rfl rfl (Nat.le_of_ble_eq_true rfl) (wB K.g b st (fun k => shf (r k) f (n - 1)) (n - 1)) rfl [wB K.g b st (fun k => shf (r k) f (n - 1)) (n - 1)] rfl dX0_remove_18 21 rfl ?_
  exact z_vret C hRx dX0_remove_21 () rfl trivial rfl

theorem iX0_placeBy_X0 : ∀ w ∈ u_ws RX0 TX0 3, w ∈ wsX0_placeBy := fun w h => (List.mem_cons_of_mem _ (List.mem_append_right _ h))
set_option maxHeartbeats 4000000 in
set_option maxRecDepth 100000 in
theorem tX0_placeBy (l : Launch) (g : zG) (b st : Nat → Nat) (r : Nat → Nat → Nat) (n : Nat) (f j : Nat) (hf : f < 4) (hj : j < n) (hn : n ≤ 12) (hb : ∀ y, y < n → r f y ≤ 3000) : Met l yX0_placeBy wsX0_placeBy ({ frames := 0, cells := 0, slots := 0, locals := 0 } : Room) (zPre g [.ref (b 0), .int (nI f), .int (nI j)] [wB g b st r n]) (zQ g (fun _ : Unit => some (.int (nI (plc (r f) n j))) ) (fun _ : Unit => True) (fun _ : Unit => [wB g b st r n]) (zA [wB g b st r n])) 0 0 (zA [wB g b st r n]) := by
  refine z_entry (cc := cX0_placeBy) (maxL := 6) (ret := (some .int)) (own := RX0) (by decide) rfl rfl (Nat.le_of_ble_eq_true rfl) [(0, .ref (b 0)), (1, .int (nI f)), (2, .int (nI j))] rfl ?_
  intro K hKl hKg hnL C hRx
  subst hKl
  subst hKg
  have hbj := hb j hj
  refine z_aload_n C 0 rfl rfl dX0_placeBy_0 1 rfl ?_
  refine z_get C zc0 iX0_placeBy_X0 0 0 rfl rfl 1 (Nat.le_of_ble_eq_true rfl) (List.mem_of_getElem? (i := 1) rfl) (v := .ref (b 2)) rfl dX0_placeBy_1 4 rfl ?_
  refine z_iload_n C 1 rfl rfl dX0_placeBy_4 5 rfl ?_
  refine z_aald C (y := (b (3 + f))) 0 2 1 rfl rfl rfl rfl (by omega) (by decide) rfl dX0_placeBy_5 6 rfl ?_
  refine z_astore_n C hnL [1, 2, 3, 0] [(0, .ref (b 0)), (1, .int (nI f)), (2, .int (nI j)), (3, .ref (b (3 + f)))] rfl rfl (Nat.le_of_ble_eq_true rfl) dX0_placeBy_6 7 rfl ?_
  refine z_iconst C (v := nI 0) rfl dX0_placeBy_7 8 rfl ?_
  refine z_istore C hnL [1, 2, 3, 4, 0] [(0, .ref (b 0)), (1, .int (nI f)), (2, .int (nI j)), (3, .ref (b (3 + f))), (4, .int (nI 0))] rfl (Nat.le_of_ble_eq_true rfl) dX0_placeBy_8 10 rfl ?_
  refine z_iconst C (v := nI 0) rfl dX0_placeBy_10 11 rfl ?_
  refine z_istore C hnL [1, 2, 3, 4, 5, 0] [(0, .ref (b 0)), (1, .int (nI f)), (2, .int (nI j)), (3, .ref (b (3 + f))), (4, .int (nI 0)), (5, .int (nI 0))] rfl (Nat.le_of_ble_eq_true rfl) dX0_placeBy_11 13 rfl ?_
  have loop13 : ∀ (mu : Nat) (i : Nat) (x : Nat), mu = n - i → i ≤ n → x = ct (fun o => decide (r f o < r f j ∨ (r f o = r f j ∧ o < j))) i → Z K 0 0 [wB K.g b st r n] [(0, .ref (b 0)), (1, .int (nI f)), (2, .int (nI j)), (3, .ref (b (3 + f))), (4, .int (nI x)), (5, .int (nI i))] 13 [] := by
    refine z_ind (fun mu ih13 => ?_)
    intro i x hmu13 hi hx
    refine z_iload C 5 rfl dX0_placeBy_13 15 rfl ?_
    refine z_aload_n C 0 rfl rfl dX0_placeBy_15 16 rfl ?_
    refine z_get C zc0 iX0_placeBy_X0 0 0 rfl rfl 2 (Nat.le_of_ble_eq_true rfl) (List.mem_of_getElem? (i := 2) rfl) (v := .int (nI n)) rfl dX0_placeBy_16 19 rfl ?_
    refine z_icmp_ge C (by omega) (by omega) 57 dX0_placeBy_19 (by decide) 22 rfl (fun c_1 => ?_) (fun c_1 => ?_)
    · skip
      refine z_iload C 4 rfl dX0_placeBy_57 59 rfl ?_
      obtain rfl : i = n := by omega
      exact z_iret C hRx dX0_placeBy_59 () (by rw [hx]; rfl) trivial rfl
    · skip
      refine z_aload_n C 3 rfl rfl dX0_placeBy_22 23 rfl ?_
      refine z_iload C 5 rfl dX0_placeBy_23 25 rfl ?_
      refine z_iald C (f := (r f)) 0 (3 + f) rfl (wB_row (by omega)) (by omega) (by decide) dX0_placeBy_25 26 rfl ?_
      have hbi := hb i (by omega)
      refine z_aload_n C 3 rfl rfl dX0_placeBy_26 27 rfl ?_
      refine z_iload_n C 2 rfl rfl dX0_placeBy_27 28 rfl ?_
      refine z_iald C (f := (r f)) 0 (3 + f) rfl (wB_row (by omega)) (by omega) (by decide) dX0_placeBy_28 29 rfl ?_
      refine z_icmp_lt C (by omega) (by omega) 48 dX0_placeBy_29 (by decide) 32 rfl (fun c_2 => ?_) (fun c_2 => ?_)
      · skip
        refine z_iinc C hnL 4 rfl (v := (nI (x + 1))) (nI_1 _) [1, 2, 3, 4, 0, 5] [(0, .ref (b 0)), (1, .int (nI f)), (2, .int (nI j)), (3, .ref (b (3 + f))), (4, .int (nI (x + 1))), (5, .int (nI i))] rfl (Nat.le_of_ble_eq_true rfl) dX0_placeBy_48 51 rfl ?_
        refine z_iinc C hnL 5 rfl (v := (nI (i + 1))) (nI_1 _) [1, 2, 3, 4, 5, 0] [(0, .ref (b 0)), (1, .int (nI f)), (2, .int (nI j)), (3, .ref (b (3 + f))), (4, .int (nI (x + 1))), (5, .int (nI (i + 1)))] rfl (Nat.le_of_ble_eq_true rfl) dX0_placeBy_51 54 rfl ?_
        refine z_goto C 13 dX0_placeBy_54 (by decide) ?_
        exact ih13 _ (by omega) (i + 1) (x + 1) rfl (by omega) (by rw [hx]; exact (ct_s (decide_eq_true (by omega))).symm)
      · skip
        refine z_aload_n C 3 rfl rfl dX0_placeBy_32 33 rfl ?_
        refine z_iload C 5 rfl dX0_placeBy_33 35 rfl ?_
        refine z_iald C (f := (r f)) 0 (3 + f) rfl (wB_row (by omega)) (by omega) (by decide) dX0_placeBy_35 36 rfl ?_
        refine z_aload_n C 3 rfl rfl dX0_placeBy_36 37 rfl ?_
        refine z_iload_n C 2 rfl rfl dX0_placeBy_37 38 rfl ?_
        refine z_iald C (f := (r f)) 0 (3 + f) rfl (wB_row (by omega)) (by omega) (by decide) dX0_placeBy_38 39 rfl ?_
        refine z_icmp_ne C (by omega) (by omega) 51 dX0_placeBy_39 (by decide) 42 rfl (fun c_3 => ?_) (fun c_3 => ?_)
        · skip
          refine z_iinc C hnL 5 rfl (v := (nI (i + 1))) (nI_1 _) [1, 2, 3, 4, 5, 0] [(0, .ref (b 0)), (1, .int (nI f)), (2, .int (nI j)), (3, .ref (b (3 + f))), (4, .int (nI x)), (5, .int (nI (i + 1)))] rfl (Nat.le_of_ble_eq_true rfl) dX0_placeBy_51 54 rfl ?_
          refine z_goto C 13 dX0_placeBy_54 (by decide) ?_
          exact ih13 _ (by omega) (i + 1) x rfl (by omega) (by rw [hx]; exact (ct_f (decide_eq_false (by omega))).symm)
        · skip
          refine z_iload C 5 rfl dX0_placeBy_42 44 rfl ?_
          refine z_iload_n C 2 rfl rfl dX0_placeBy_44 45 rfl ?_
          refine z_icmp_ge C (by omega) (by omega) 51 dX0_placeBy_45 (by decide) 48 rfl (fun c_4 => ?_) (fun c_4 => ?_)
          · skip
            refine z_iinc C hnL 5 rfl (v := (nI (i + 1))) (nI_1 _) [1, 2, 3, 4, 5, 0] [(0, .ref (b 0)), (1, .int (nI f)), (2, .int (nI j)), (3, .ref (b (3 + f))), (4, .int (nI x)), (5, .int (nI (i + 1)))] rfl (Nat.le_of_ble_eq_true rfl) dX0_placeBy_51 54 rfl ?_
            refine z_goto C 13 dX0_placeBy_54 (by decide) ?_
            exact ih13 _ (by omega) (i + 1) x rfl (by omega) (by rw [hx]; exact (ct_f (decide_eq_false (by omega))).symm)
          · skip
            refine z_iinc C hnL 4 rfl (v := (nI (x + 1))) (nI_1 _) [1, 2, 3, 4, 0, 5] [(0, .ref (b 0)), (1, .int (nI f)), (2, .int (nI j)), (3, .ref (b (3 + f))), (4, .int (nI (x + 1))), (5, .int (nI i))] rfl (Nat.le_of_ble_eq_true rfl) dX0_placeBy_48 51 rfl ?_
            refine z_iinc C hnL 5 rfl (v := (nI (i + 1))) (nI_1 _) [1, 2, 3, 4, 5, 0] [(0, .ref (b 0)), (1, .int (nI f)), (2, .int (nI j)), (3, .ref (b (3 + f))), (4, .int (nI (x + 1))), (5, .int (nI (i + 1)))] rfl (Nat.le_of_ble_eq_true rfl) dX0_placeBy_51 54 rfl ?_
            refine z_goto C 13 dX0_placeBy_54 (by decide) ?_
            exact ih13 _ (by omega) (i + 1) (x + 1) rfl (by omega) (by rw [hx]; exact (ct_s (decide_eq_true (by omega))).symm)
  exact loop13 _ 0 0 rfl (by omega) rfl

theorem iX0_mostRacksNeeded_X0 : ∀ w ∈ u_ws RX0 TX0 3, w ∈ wsX0_mostRacksNeeded := fun w h => (List.mem_cons_of_mem _ (List.mem_append_right _ h))
set_option maxHeartbeats 4000000 in
set_option maxRecDepth 100000 in
theorem tX0_mostRacksNeeded (l : Launch) (g : zG) (b st : Nat → Nat) (r : Nat → Nat → Nat) (n : Nat) (d : Nat) (hd : 0 < d) (hd2 : d ≤ 10) (hn : n ≤ 12) (hb : ∀ y, y < n → r 2 y ≤ 20) : Met l yX0_mostRacksNeeded wsX0_mostRacksNeeded ({ frames := 1, cells := 0, slots := 0, locals := 21 } : Room) (zPre g [.ref (b 0), .int (nI d)] [wB g b st r n]) (zQ g (fun _ : Unit => some (.int (nI (mx (fun y => nd d (r 2 y)) n))) ) (fun _ : Unit => True) (fun _ : Unit => [wB g b st r n]) (zA [wB g b st r n])) 0 0 (zA [wB g b st r n]) := by
  refine z_entry (cc := cX0_mostRacksNeeded) (maxL := 4) (ret := (some .int)) (own := RX0) (by decide) rfl rfl (Nat.le_of_ble_eq_true rfl) [(0, .ref (b 0)), (1, .int (nI d))] rfl ?_
  intro K hKl hKg hnL C hRx
  subst hKl
  subst hKg
  refine z_iconst C (v := nI 0) rfl dX0_mostRacksNeeded_0 1 rfl ?_
  refine z_istore_n C hnL [1, 2, 0] [(0, .ref (b 0)), (1, .int (nI d)), (2, .int (nI 0))] rfl rfl (Nat.le_of_ble_eq_true rfl) dX0_mostRacksNeeded_1 2 rfl ?_
  refine z_iconst C (v := nI 0) rfl dX0_mostRacksNeeded_2 3 rfl ?_
  refine z_istore_n C hnL [1, 2, 3, 0] [(0, .ref (b 0)), (1, .int (nI d)), (2, .int (nI 0)), (3, .int (nI 0))] rfl rfl (Nat.le_of_ble_eq_true rfl) dX0_mostRacksNeeded_3 4 rfl ?_
  have loop4 : ∀ (mu : Nat) (i : Nat) (x : Nat), mu = n - i → i ≤ n → x = mx (fun y => nd d (r 2 y)) i → Z K 0 0 [wB K.g b st r n] [(0, .ref (b 0)), (1, .int (nI d)), (2, .int (nI x)), (3, .int (nI i))] 4 [] := by
    refine z_ind (fun mu ih4 => ?_)
    intro i x hmu4 hi hx
    refine z_iload_n C 3 rfl rfl dX0_mostRacksNeeded_4 5 rfl ?_
    refine z_aload_n C 0 rfl rfl dX0_mostRacksNeeded_5 6 rfl ?_
    refine z_get C zc0 iX0_mostRacksNeeded_X0 0 0 rfl rfl 2 (Nat.le_of_ble_eq_true rfl) (List.mem_of_getElem? (i := 1) rfl) (v := .int (nI n)) rfl dX0_mostRacksNeeded_6 9 rfl ?_
    refine z_icmp_ge C (by omega) (by omega) 35 dX0_mostRacksNeeded_9 (by decide) 12 rfl (fun c_1 => ?_) (fun c_1 => ?_)
    · skip
      refine z_iload_n C 2 rfl rfl dX0_mostRacksNeeded_35 36 rfl ?_
      obtain rfl : i = n := by omega
      exact z_iret C hRx dX0_mostRacksNeeded_36 () (by rw [hx]) trivial rfl
    · skip
      refine z_iload_n C 2 rfl rfl dX0_mostRacksNeeded_12 13 rfl ?_
      refine z_aload_n C 0 rfl rfl dX0_mostRacksNeeded_13 14 rfl ?_
      refine z_get C zc0 iX0_mostRacksNeeded_X0 0 0 rfl rfl 1 (Nat.le_of_ble_eq_true rfl) (List.mem_of_getElem? (i := 2) rfl) (v := .ref (b 2)) rfl dX0_mostRacksNeeded_14 17 rfl ?_
      refine z_iconst C (v := nI 2) rfl dX0_mostRacksNeeded_17 18 rfl ?_
      refine z_aald C (y := (b 5)) 0 2 1 rfl rfl rfl rfl (by omega) (by decide) rfl dX0_mostRacksNeeded_18 19 rfl ?_
      refine z_iload_n C 3 rfl rfl dX0_mostRacksNeeded_19 20 rfl ?_
      refine z_iald C (f := (r 2)) 0 5 rfl rfl (by omega) (by decide) dX0_mostRacksNeeded_20 21 rfl ?_
      have hbi := hb i (by omega)
      have hq := Nat.le_trans (nd_le (h := r 2 i) hd) hbi
      have hxb : x ≤ 20 := by rw [hx]; exact mx_le i (fun y hy => Nat.le_trans (nd_le hd) (hb y (by omega)))
      refine z_iload_n C 1 rfl rfl dX0_mostRacksNeeded_21 22 rfl ?_
      refine z_callN C [.int (nI (r 2 i)), .int (nI d)] [.int (nI x)] (tX4_racksFor K.l K.g (r 2 i) d (by first | omega | assumption) (by first | omega | assumption) (by first | omega | assumption)) gX0_mostRacksNeeded_X4_racksFor_n49 rfl rfl rfl C.kp.2.1 (List.mem_of_getElem? (i := 8) rfl) (List.mem_of_getElem? (i := 7) rfl) hdX4_racksFor ⟨Nat.le_of_ble_eq_true rfl, Nat.le_of_ble_eq_true rfl⟩ ⟨Nat.zero_le _, Nat.zero_le _⟩ rfl rfl (Nat.le_of_ble_eq_true rfl) dX0_mostRacksNeeded_22 25 rfl (fun u9 hu9 => ?_)
      show Z K 0 0 [wB K.g b st r n] [(0, .ref (b 0)), (1, .int (nI d)), (2, .int (nI x)), (3, .int (nI i))] 25 [.int (nI (nd d (r 2 i))), .int (nI x)]
      refine z_max C (List.mem_of_getElem? (i := 3) rfl) (List.mem_of_getElem? (i := 4) rfl) (List.mem_of_getElem? (i := 5) rfl) (List.mem_of_getElem? (i := 6) rfl) ⟨Nat.le_of_ble_eq_true rfl, Nat.le_of_ble_eq_true rfl⟩ ⟨Nat.zero_le _, Nat.zero_le _⟩ (by omega) (by omega) dX0_mostRacksNeeded_25 28 rfl ?_
      refine z_nm (fun x_2 ex_2 => ?_)
      refine z_istore_n C hnL [1, 2, 0, 3] [(0, .ref (b 0)), (1, .int (nI d)), (2, .int (nI x_2)), (3, .int (nI i))] rfl rfl (Nat.le_of_ble_eq_true rfl) dX0_mostRacksNeeded_28 29 rfl ?_
      refine z_iinc C hnL 3 rfl (v := (nI (i + 1))) (nI_1 _) [1, 2, 3, 0] [(0, .ref (b 0)), (1, .int (nI d)), (2, .int (nI x_2)), (3, .int (nI (i + 1)))] rfl (Nat.le_of_ble_eq_true rfl) dX0_mostRacksNeeded_29 32 rfl ?_
      refine z_goto C 4 dX0_mostRacksNeeded_32 (by decide) ?_
      exact ih4 _ (by omega) (i + 1) x_2 rfl (by omega) (by rw [mx_s, ← hx]; omega)
  exact loop4 _ 0 0 rfl (by omega) rfl

theorem iX0_hundredsOfAll_X0 : ∀ w ∈ u_ws RX0 TX0 3, w ∈ wsX0_hundredsOfAll := fun w h => (List.mem_cons_of_mem _ (List.mem_append_right _ h))
set_option maxHeartbeats 4000000 in
set_option maxRecDepth 100000 in
theorem tX0_hundredsOfAll (l : Launch) (g : zG) (b st : Nat → Nat) (r : Nat → Nat → Nat) (n : Nat) (hn : n ≤ 12) : Met l yX0_hundredsOfAll wsX0_hundredsOfAll ({ frames := 0, cells := 0, slots := 0, locals := 0 } : Room) (zPre g [.ref (b 0)] [wB g b st r n]) (zQ g (fun _ : Unit => some (.int (nI (sm (r 2) n))) ) (fun _ : Unit => True) (fun _ : Unit => [wB g b st r n]) (zA [wB g b st r n])) 0 0 (zA [wB g b st r n]) := by
  refine z_entry (cc := cX0_hundredsOfAll) (maxL := 3) (ret := (some .int)) (own := RX0) (by decide) rfl rfl (Nat.le_of_ble_eq_true rfl) [(0, .ref (b 0))] rfl ?_
  intro K hKl hKg hnL C hRx
  subst hKl
  subst hKg
  refine z_iconst C (v := nI 0) rfl dX0_hundredsOfAll_0 1 rfl ?_
  refine z_istore_n C hnL [1, 0] [(0, .ref (b 0)), (1, .int (nI 0))] rfl rfl (Nat.le_of_ble_eq_true rfl) dX0_hundredsOfAll_1 2 rfl ?_
  refine z_iconst C (v := nI 0) rfl dX0_hundredsOfAll_2 3 rfl ?_
  refine z_istore_n C hnL [1, 2, 0] [(0, .ref (b 0)), (1, .int (nI 0)), (2, .int (nI 0))] rfl rfl (Nat.le_of_ble_eq_true rfl) dX0_hundredsOfAll_3 4 rfl ?_
  have loop4 : ∀ (mu : Nat) (i : Nat) (x : Nat), mu = n - i → i ≤ n → x = sm (r 2) i → Z K 0 0 [wB K.g b st r n] [(0, .ref (b 0)), (1, .int (nI x)), (2, .int (nI i))] 4 [] := by
    refine z_ind (fun mu ih4 => ?_)
    intro i x hmu4 hi hx
    refine z_iload_n C 2 rfl rfl dX0_hundredsOfAll_4 5 rfl ?_
    refine z_aload_n C 0 rfl rfl dX0_hundredsOfAll_5 6 rfl ?_
    refine z_get C zc0 iX0_hundredsOfAll_X0 0 0 rfl rfl 2 (Nat.le_of_ble_eq_true rfl) (List.mem_of_getElem? (i := 1) rfl) (v := .int (nI n)) rfl dX0_hundredsOfAll_6 9 rfl ?_
    refine z_icmp_ge C (by omega) (by omega) 29 dX0_hundredsOfAll_9 (by decide) 12 rfl (fun c_1 => ?_) (fun c_1 => ?_)
    · skip
      refine z_iload_n C 1 rfl rfl dX0_hundredsOfAll_29 30 rfl ?_
      obtain rfl : i = n := by omega
      exact z_iret C hRx dX0_hundredsOfAll_30 () (by rw [hx]) trivial rfl
    · skip
      refine z_iload_n C 1 rfl rfl dX0_hundredsOfAll_12 13 rfl ?_
      refine z_aload_n C 0 rfl rfl dX0_hundredsOfAll_13 14 rfl ?_
      refine z_get C zc0 iX0_hundredsOfAll_X0 0 0 rfl rfl 1 (Nat.le_of_ble_eq_true rfl) (List.mem_of_getElem? (i := 2) rfl) (v := .ref (b 2)) rfl dX0_hundredsOfAll_14 17 rfl ?_
      refine z_iconst C (v := nI 2) rfl dX0_hundredsOfAll_17 18 rfl ?_
      refine z_aald C (y := (b 5)) 0 2 1 rfl rfl rfl rfl (by omega) (by decide) rfl dX0_hundredsOfAll_18 19 rfl ?_
      refine z_iload_n C 2 rfl rfl dX0_hundredsOfAll_19 20 rfl ?_
      refine z_iald C (f := (r 2)) 0 5 rfl rfl (by omega) (by decide) dX0_hundredsOfAll_20 21 rfl ?_
      refine z_iadd C dX0_hundredsOfAll_21 22 rfl ?_
      refine z_nm (fun x_2 ex_2 => ?_)
      refine z_istore_n C hnL [1, 0, 2] [(0, .ref (b 0)), (1, .int (nI x_2)), (2, .int (nI i))] rfl rfl (Nat.le_of_ble_eq_true rfl) dX0_hundredsOfAll_22 23 rfl ?_
      refine z_iinc C hnL 2 rfl (v := (nI (i + 1))) (nI_1 _) [1, 2, 0] [(0, .ref (b 0)), (1, .int (nI x_2)), (2, .int (nI (i + 1)))] rfl (Nat.le_of_ble_eq_true rfl) dX0_hundredsOfAll_23 26 rfl ?_
      refine z_goto C 4 dX0_hundredsOfAll_26 (by decide) ?_
      exact ih4 _ (by omega) (i + 1) x_2 rfl (by omega) (by rw [sm_s, ← hx]; omega)
  exact loop4 _ 0 0 rfl (by omega) rfl

theorem iX0_arrange_X0 : ∀ w ∈ u_ws RX0 TX0 3, w ∈ wsX0_arrange := fun w h => (List.mem_cons_of_mem _ (List.mem_append_right _ h))
set_option maxHeartbeats 4000000 in
set_option maxRecDepth 100000 in
theorem tX0_arrange (l : Launch) (g : zG) (b st : Nat → Nat) (r : Nat → Nat → Nat) (n : Nat) (o so : Nat → Nat) (ro : Nat → Nat → Nat) (no f : Nat) (hf : f < 4) (hn : no ≤ 12) (hb : ∀ y, y < no → ro f y ≤ 3000) : Met l yX0_arrange wsX0_arrange ({ frames := 2, cells := 0, slots := 0, locals := 82 } : Room) (zPre g [.ref (b 0), .ref (o 0), .int (nI f)] [wB g b st r n, wB g o so ro no]) (zQ g (fun _ : Unit => some (.int (nI (ct (fun y => decide (plc (ro f) no y ≠ y)) no))) ) (fun _ : Unit => True) (fun _ : Unit => [wB g b so (arR ro (plc (ro f) no) no) no, wB g o so ro no]) (zA [wB g b st r n, wB g o so ro no])) 0 0 (zA [wB g b st r n, wB g o so ro no]) := by
  refine z_entry (cc := cX0_arrange) (maxL := 7) (ret := (some .int)) (own := RX0) (by decide) rfl rfl (Nat.le_of_ble_eq_true rfl) [(0, .ref (b 0)), (1, .ref (o 0)), (2, .int (nI f))] rfl ?_
  intro K hKl hKg hnL C hRx
  subst hKl
  subst hKg
  refine z_aload_n C 0 rfl rfl dX0_arrange_0 1 rfl ?_
  refine z_aload_n C 1 rfl rfl dX0_arrange_1 2 rfl ?_
  refine z_callV C [.ref (o 0)] [] (tX0_copyFrom K.l K.g b st r n o so ro no ) gX0_arrange_X0_copyFrom rfl rfl rfl hdX0_copyFrom ⟨Nat.le_of_ble_eq_true rfl, Nat.le_of_ble_eq_true rfl⟩ ⟨Nat.zero_le _, Nat.zero_le _⟩ 0 0 rfl rfl rfl [0, 1] rfl rfl (zlc (N := 2) rfl rfl) [2, 3] rfl (by decide) (fun _ : Unit => [wB K.g b so ro no, wB K.g o so ro no]) (fun _ => rfl) rfl rfl (Nat.le_of_ble_eq_true rfl) dX0_arrange_2 5 rfl (fun u9 hu9 => ?_)
  show Z K 0 0 [wB K.g b so ro no, wB K.g o so ro no] [(0, .ref (b 0)), (1, .ref (o 0)), (2, .int (nI f))] 5 []
  refine z_iconst C (v := nI 0) rfl dX0_arrange_5 6 rfl ?_
  refine z_istore_n C hnL [1, 2, 3, 0] [(0, .ref (b 0)), (1, .ref (o 0)), (2, .int (nI f)), (3, .int (nI 0))] rfl rfl (Nat.le_of_ble_eq_true rfl) dX0_arrange_6 7 rfl ?_
  refine z_iconst C (v := nI 0) rfl dX0_arrange_7 8 rfl ?_
  refine z_istore C hnL [1, 2, 3, 4, 0] [(0, .ref (b 0)), (1, .ref (o 0)), (2, .int (nI f)), (3, .int (nI 0)), (4, .int (nI 0))] rfl (Nat.le_of_ble_eq_true rfl) dX0_arrange_8 10 rfl ?_
  have loop10 : ∀ (mu : Nat) (i : Nat) (x : Nat), mu = no - i → i ≤ no → x = ct (fun y => decide (plc (ro f) no y ≠ y)) i → Z K 0 0 [wB K.g b so (arR ro (plc (ro f) no) i) no, wB K.g o so ro no] [(0, .ref (b 0)), (1, .ref (o 0)), (2, .int (nI f)), (3, .int (nI x)), (4, .int (nI i))] 10 [] := by
    refine z_ind (fun mu ih10 => ?_)
    intro i x hmu10 hi hx
    refine z_iload C 4 rfl dX0_arrange_10 12 rfl ?_
    refine z_aload_n C 1 rfl rfl dX0_arrange_12 13 rfl ?_
    refine z_get C zc0 iX0_arrange_X0 1 0 rfl rfl 2 (Nat.le_of_ble_eq_true rfl) (List.mem_of_getElem? (i := 1) rfl) (v := .int (nI no)) rfl dX0_arrange_13 16 rfl ?_
    refine z_icmp_ge C (by omega) (by omega) 79 dX0_arrange_16 (by decide) 19 rfl (fun c_1 => ?_) (fun c_1 => ?_)
    · skip
      refine z_iload_n C 3 rfl rfl dX0_arrange_79 80 rfl ?_
      obtain rfl : i = no := by omega
      exact z_iret C hRx dX0_arrange_80 () (by rw [hx]) trivial rfl
    · skip
      refine z_aload_n C 1 rfl rfl dX0_arrange_19 20 rfl ?_
      refine z_iload_n C 2 rfl rfl dX0_arrange_20 21 rfl ?_
      refine z_iload C 4 rfl dX0_arrange_21 23 rfl ?_
      refine z_callV C [.int (nI f), .int (nI i)] [] (tX0_placeBy K.l K.g o so ro no f i (by first | omega | assumption) (by first | omega | assumption) (by first | omega | assumption) (by first | omega | assumption)) gX0_arrange_X0_placeBy rfl rfl rfl hdX0_placeBy ⟨Nat.le_of_ble_eq_true rfl, Nat.le_of_ble_eq_true rfl⟩ ⟨Nat.zero_le _, Nat.zero_le _⟩ 1 0 rfl rfl rfl [1] rfl rfl (zlc (N := 2) rfl rfl) [0, 2] rfl (by decide) (fun _ : Unit => [wB K.g b so (arR ro (plc (ro f) no) i) no, wB K.g o so ro no]) (fun _ => rfl) rfl rfl (Nat.le_of_ble_eq_true rfl) dX0_arrange_23 26 rfl (fun u9 hu9 => ?_)
      show Z K 0 0 [wB K.g b so (arR ro (plc (ro f) no) i) no, wB K.g o so ro no] [(0, .ref (b 0)), (1, .ref (o 0)), (2, .int (nI f)), (3, .int (nI x)), (4, .int (nI i))] 26 [.int (nI (plc (ro f) no i))]
      have hpl : plc (ro f) no i < no := plc_lt (by omega)
      refine z_istore C hnL [1, 2, 3, 4, 5, 0] [(0, .ref (b 0)), (1, .ref (o 0)), (2, .int (nI f)), (3, .int (nI x)), (4, .int (nI i)), (5, .int (nI (plc (ro f) no i)))] rfl (Nat.le_of_ble_eq_true rfl) dX0_arrange_26 28 rfl ?_
      refine z_iconst C (v := nI 0) rfl dX0_arrange_28 29 rfl ?_
      refine z_istore C hnL [1, 2, 3, 4, 5, 6, 0] [(0, .ref (b 0)), (1, .ref (o 0)), (2, .int (nI f)), (3, .int (nI x)), (4, .int (nI i)), (5, .int (nI (plc (ro f) no i))), (6, .int (nI 0))] rfl (Nat.le_of_ble_eq_true rfl) dX0_arrange_29 31 rfl ?_
      have loop31 : ∀ (mu : Nat) (e : Nat), mu = 4 - e → e ≤ 4 → Z K 0 0 [wB K.g b so (fun k => if k < e then arR ro (plc (ro f) no) (i + 1) k else arR ro (plc (ro f) no) i k) no, wB K.g o so ro no] [(0, .ref (b 0)), (1, .ref (o 0)), (2, .int (nI f)), (3, .int (nI x)), (4, .int (nI i)), (5, .int (nI (plc (ro f) no i))), (6, .int (nI e))] 31 [] := by
        refine z_ind (fun mu ih31 => ?_)
        intro e hmu31 he
        refine z_iload C 6 rfl dX0_arrange_31 33 rfl ?_
        refine z_iconst C (v := nI 4) rfl dX0_arrange_33 34 rfl ?_
        refine z_icmp_ge C (by omega) (by omega) 63 dX0_arrange_34 (by decide) 37 rfl (fun c_2 => ?_) (fun c_2 => ?_)
        · skip
          refine z_wB 0 rfl so (arR ro (plc (ro f) no) (i + 1)) (fun _ _ => rfl) (by intro k hk y hy; rw [if_pos (by omega)]) [wB K.g b so (arR ro (plc (ro f) no) (i + 1)) no, wB K.g o so ro no] rfl ?_
          refine z_iload C 5 rfl dX0_arrange_63 65 rfl ?_
          refine z_iload C 4 rfl dX0_arrange_65 67 rfl ?_
          refine z_icmp_eq C (by omega) (by omega) 73 dX0_arrange_67 (by decide) 70 rfl (fun c_3 => ?_) (fun c_3 => ?_)
          · skip
            refine z_iinc C hnL 4 rfl (v := (nI (i + 1))) (nI_1 _) [1, 2, 3, 4, 0, 5, 6] [(0, .ref (b 0)), (1, .ref (o 0)), (2, .int (nI f)), (3, .int (nI x)), (4, .int (nI (i + 1))), (5, .int (nI (plc (ro f) no i))), (6, .int (nI e))] rfl (Nat.le_of_ble_eq_true rfl) dX0_arrange_73 76 rfl ?_
            refine z_goto C 10 dX0_arrange_76 (by decide) ?_
            refine z_lv [0, 1, 2, 3, 4] [(0, .ref (b 0)), (1, .ref (o 0)), (2, .int (nI f)), (3, .int (nI x)), (4, .int (nI (i + 1)))] rfl ?_
            exact ih10 _ (by omega) (i + 1) x rfl (by omega) (by rw [hx]; exact (ct_f (decide_eq_false (by omega))).symm)
          · skip
            refine z_iinc C hnL 3 rfl (v := (nI (x + 1))) (nI_1 _) [1, 2, 3, 0, 4, 5, 6] [(0, .ref (b 0)), (1, .ref (o 0)), (2, .int (nI f)), (3, .int (nI (x + 1))), (4, .int (nI i)), (5, .int (nI (plc (ro f) no i))), (6, .int (nI e))] rfl (Nat.le_of_ble_eq_true rfl) dX0_arrange_70 73 rfl ?_
            refine z_iinc C hnL 4 rfl (v := (nI (i + 1))) (nI_1 _) [1, 2, 3, 4, 0, 5, 6] [(0, .ref (b 0)), (1, .ref (o 0)), (2, .int (nI f)), (3, .int (nI (x + 1))), (4, .int (nI (i + 1))), (5, .int (nI (plc (ro f) no i))), (6, .int (nI e))] rfl (Nat.le_of_ble_eq_true rfl) dX0_arrange_73 76 rfl ?_
            refine z_goto C 10 dX0_arrange_76 (by decide) ?_
            refine z_lv [0, 1, 2, 3, 4] [(0, .ref (b 0)), (1, .ref (o 0)), (2, .int (nI f)), (3, .int (nI (x + 1))), (4, .int (nI (i + 1)))] rfl ?_
            exact ih10 _ (by omega) (i + 1) (x + 1) rfl (by omega) (by rw [hx]; exact (ct_s (decide_eq_true (by omega))).symm)
        · skip
          refine z_aload_n C 0 rfl rfl dX0_arrange_37 38 rfl ?_
          refine z_get C zc0 iX0_arrange_X0 0 0 rfl rfl 1 (Nat.le_of_ble_eq_true rfl) (List.mem_of_getElem? (i := 2) rfl) (v := .ref (b 2)) rfl dX0_arrange_38 41 rfl ?_
          refine z_iload C 6 rfl dX0_arrange_41 43 rfl ?_
          refine z_aald C (y := (b (3 + e))) 0 2 1 rfl rfl rfl rfl (by omega) (by decide) rfl dX0_arrange_43 44 rfl ?_
          refine z_iload C 5 rfl dX0_arrange_44 46 rfl ?_
          refine z_aload_n C 1 rfl rfl dX0_arrange_46 47 rfl ?_
          refine z_get C zc0 iX0_arrange_X0 1 0 rfl rfl 1 (Nat.le_of_ble_eq_true rfl) (List.mem_of_getElem? (i := 2) rfl) (v := .ref (o 2)) rfl dX0_arrange_47 50 rfl ?_
          refine z_iload C 6 rfl dX0_arrange_50 52 rfl ?_
          refine z_aald C (y := (o (3 + e))) 1 2 1 rfl rfl rfl rfl (by omega) (by decide) rfl dX0_arrange_52 53 rfl ?_
          refine z_iload C 4 rfl dX0_arrange_53 55 rfl ?_
          refine z_iald C (f := (ro e)) 1 (3 + e) rfl (wB_row (by omega)) (by omega) (by decide) dX0_arrange_55 56 rfl ?_
          refine z_nm (fun x_4 ex_4 => ?_)
          refine z_iast C (f := ((fun k => if k < e then arR ro (plc (ro f) no) (i + 1) k else arR ro (plc (ro f) no) i k) e)) 0 (3 + e) rfl (wB_row (by omega)) (by omega) (by decide) (wB K.g b so (un (fun k => if k < e then arR ro (plc (ro f) no) (i + 1) k else arR ro (plc (ro f) no) i k) e (un ((fun k => if k < e then arR ro (plc (ro f) no) (i + 1) k else arR ro (plc (ro f) no) i k) e) (plc (ro f) no i) x_4)) no) (wB_set (by omega)) [wB K.g b so (un (fun k => if k < e then arR ro (plc (ro f) no) (i + 1) k else arR ro (plc (ro f) no) i k) e (un ((fun k => if k < e then arR ro (plc (ro f) no) (i + 1) k else arR ro (plc (ro f) no) i k) e) (plc (ro f) no i) x_4)) no, wB K.g o so ro no] rfl dX0_arrange_56 57 rfl ?_
          refine z_iinc C hnL 6 rfl (v := (nI (e + 1))) (nI_1 _) [1, 2, 3, 4, 5, 6, 0] [(0, .ref (b 0)), (1, .ref (o 0)), (2, .int (nI f)), (3, .int (nI x)), (4, .int (nI i)), (5, .int (nI (plc (ro f) no i))), (6, .int (nI (e + 1)))] rfl (Nat.le_of_ble_eq_true rfl) dX0_arrange_57 60 rfl ?_
          refine z_goto C 31 dX0_arrange_60 (by decide) ?_
          refine z_wB 0 rfl so (fun k => if k < e + 1 then arR ro (plc (ro f) no) (i + 1) k else arR ro (plc (ro f) no) i k) (fun _ _ => rfl) (by intro k hk y hy; (try simp only [reduceIte, Nat.lt_irrefl, un, zia, arR]); (repeat' split); all_goals first | rfl | omega | (congr 1 <;> omega) | (congr 2 <;> omega) | (exfalso; omega) | (subst_vars; first | rfl | (exfalso; omega) | (congr 1 <;> omega))) [wB K.g b so (fun k => if k < e + 1 then arR ro (plc (ro f) no) (i + 1) k else arR ro (plc (ro f) no) i k) no, wB K.g o so ro no] rfl ?_
          exact ih31 _ (by omega) (e + 1) rfl (by omega)
      refine z_wB 0 rfl so (fun k => if k < 0 then arR ro (plc (ro f) no) (i + 1) k else arR ro (plc (ro f) no) i k) (fun _ _ => rfl) (by intro k hk y hy; rw [if_neg (by omega)]) [wB K.g b so (fun k => if k < 0 then arR ro (plc (ro f) no) (i + 1) k else arR ro (plc (ro f) no) i k) no, wB K.g o so ro no] rfl ?_
      exact loop31 _ 0 rfl (by omega)
  exact loop10 _ 0 0 rfl (by omega) rfl

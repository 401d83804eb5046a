/-! IS: isStep, branch by branch. -/
theorem GB_ap {st : Nat → Nat} {r : Nat → Nat → Nat} {n a s h d : Nat} (hG : GB st r n) (hn : n < 12) (q1 : a ≤ 9) (q2 : s ≤ 9) (q3 : 1 ≤ h) (q4 : h ≤ 20) (q5 : d ≤ 3000) (q6 : nd (st 6) h ≤ st 5) : GB st (apR r n a s h d) (n + 1) := by
  obtain ⟨-, hS, hJ, hR⟩ := hG
  refine ⟨by omega, hS, fun j hj => ?_, fun j hj => ?_⟩
  · by_cases e : j = n
    · subst e
      show un (r 0) j a j ≤ 9 ∧ un (r 1) j s j ≤ 9 ∧ 1 ≤ un (r 2) j h j ∧ un (r 2) j h j ≤ 20 ∧ un (r 3) j d j ≤ 3000
      rw [un_s, un_s, un_s, un_s]
      exact ⟨q1, q2, q3, q4, q5⟩
    · show un (r 0) n a j ≤ 9 ∧ un (r 1) n s j ≤ 9 ∧ 1 ≤ un (r 2) n h j ∧ un (r 2) n h j ≤ 20 ∧ un (r 3) n d j ≤ 3000
      rw [un_n e, un_n e, un_n e, un_n e]
      exact hJ j (by omega)
  · show nd (st 6) (un (r 2) n h j) ≤ st 5
    by_cases e : j = n
    · subst e; rw [un_s]; exact q6
    · rw [un_n e]; exact hR j (by omega)
theorem GB_drop {st : Nat → Nat} {r : Nat → Nat → Nat} {n j : Nat} (hG : GB st r n) (hj : j < n) : GB st (fun k => shf (r k) j (n - 1)) (n - 1) := by
  obtain ⟨h1, hS, hJ, hR⟩ := hG
  have a := okJ_shf (t := n - 1) hj (by omega) hJ
  have b := okR_shf (t := n - 1) hj (by omega) hR
  exact ⟨by omega, hS, fun i hi => a i (by omega), fun i hi => b i (by omega)⟩
theorem DB_drop {st st' : Nat → Nat} {r r' : Nat → Nat → Nat} {n n' j : Nat} (h : DB st r n st' r' n') (hj : j < n) : DB st (fun k => shf (r k) j (n - 1)) (n - 1) st' (fun k => shf (r' k) j (n' - 1)) (n' - 1) := by
  obtain ⟨e, h1, h2⟩ := h
  rw [e]
  have a := dR_shf (f := j) (t := n - 1) hj (by omega) h2
  exact ⟨rfl, h1, fun i hi => a i (by omega)⟩
theorem DB_ap {st st' : Nat → Nat} {r r' : Nat → Nat → Nat} {n n' pl sh hu du : Nat} (h : DB st r n st' r' n') : DB st (apR r n pl sh hu du) (n + 1) st' (apR r' n' pl sh hu (2 * du)) (n' + 1) := by
  obtain ⟨e, h1, h2⟩ := h
  rw [e]
  refine ⟨rfl, h1, fun j hj => ?_⟩
  show un (r' 0) n pl j = un (r 0) n pl j ∧ un (r' 1) n sh j = un (r 1) n sh j ∧ un (r' 2) n hu j = un (r 2) n hu j ∧ un (r' 3) n (2 * du) j = 2 * un (r 3) n du j
  by_cases q : j = n
  · subst q
    rw [un_s, un_s, un_s, un_s, un_s, un_s, un_s, un_s]
    exact ⟨rfl, rfl, rfl, rfl⟩
  · rw [un_n q, un_n q, un_n q, un_n q, un_n q, un_n q, un_n q, un_n q]
    exact h2 j (by omega)
theorem dR_due {r r' : Nat → Nat → Nat} {n jb du : Nat} (h : dR r r' n) : dR (un r 3 (un (r 3) jb du)) (un r' 3 (un (r' 3) jb (2 * du))) n := by
  intro j hj
  obtain ⟨h0, h1, h2, h3⟩ := h j hj
  refine ⟨h0, h1, h2, ?_⟩
  show un (r' 3) jb (2 * du) j = 2 * un (r 3) jb du j
  by_cases q : j = jb
  · subst q; rw [un_s, un_s]
  · rw [un_n q, un_n q]; exact h3
theorem PL_le {st : Nat → Nat} {r : Nat → Nat → Nat} {n R j : Nat} (hS : okS st) (hJ : okJ r n) (hR : okR st r n R) (hn : n ≤ 12) (hj : j < n) : PL st r R n j ≤ 20000 := by
  have h1 := isP_bd hS hJ hR (PP_ok hR) j hj
  have h2 := hS.2.2.2.2.2.1
  unfold PL PD
  omega
theorem dS_un1 {st st' : Nat → Nat} {k v : Nat} (h : dS st st') (hk : k < 5) : dS (un st k v) (un st' k (2 * v)) := by
  refine ⟨fun i hi => ?_, ?_, ?_⟩
  · by_cases q : i = k
    · subst q; rw [un_s, un_s]
    · rw [un_n q, un_n q]; exact h.1 i hi
  · rw [un_n (by omega), un_n (by omega)]; exact h.2.1
  · rw [un_n (by omega), un_n (by omega)]; exact h.2.2
theorem dS_un2 {st st' : Nat → Nat} {k v : Nat} (h : dS st st') (hk : 5 ≤ k) (hk6 : k ≤ 6) : dS (un st k v) (un st' k v) := by
  refine ⟨fun i hi => ?_, ?_, ?_⟩
  · rw [un_n (by omega), un_n (by omega)]; exact h.1 i hi
  · by_cases q : k = 5
    · subst q; rw [un_s, un_s]
    · rw [un_n (by omega), un_n (by omega)]; exact h.2.1
  · by_cases q : k = 6
    · subst q; rw [un_s, un_s]
    · rw [un_n (by omega), un_n (by omega)]; exact h.2.2
theorem dS_56 {st st' : Nat → Nat} {k : Nat} (h : dS st st') (h1 : 5 ≤ k) (h2 : k ≤ 6) : st' k = st k := by
  rcases (show k = 5 ∨ k = 6 by omega) with rfl | rfl
  · exact h.2.1
  · exact h.2.2
theorem set_eq {st st' : Nat → Nat} {r r' : Nat → Nat → Nat} {n n' : Nat} (hN : n' = n) (hs : dS st st') (hr : dR r r' n) : mND st' r' n' = mND st r n ∧ st' 5 = st 5 := by
  rw [hN]
  exact ⟨d_mND hs hr, hs.2.1⟩
/-- a value that both shops take -/
def setR (k v : Nat) : Prop := leS k ≤ v ∧ v ≤ moS k ∧ (k < 5 → leS k ≤ 2 * v ∧ 2 * v ≤ moS k)
theorem setR_mk {k v : Nat} (h : (k < 2 ∧ v ≤ 30) ∨ (k = 2 ∧ v ≤ 4) ∨ (k = 3 ∧ 1 ≤ v ∧ v ≤ 10) ∨ (k = 4 ∧ v ≤ 250) ∨ (k = 5 ∧ 4 ≤ v ∧ v ≤ 20) ∨ (k = 6 ∧ 1 ≤ v ∧ v ≤ 10)) : setR k v := by
  unfold setR
  rcases (show k = 0 ∨ k = 1 ∨ k = 2 ∨ k = 3 ∨ k = 4 ∨ k = 5 ∨ k = 6 by omega) with rfl | rfl | rfl | rfl | rfl | rfl | rfl <;> (simp only [leS, moS]; omega)
theorem CN_st {st : Nat → Nat} {r : Nat → Nat → Nat} {n len kp k : Nat} (h : k < 7) : CN st r n len kp k = st k := by
  rcases (show k = 0 ∨ k = 1 ∨ k = 2 ∨ k = 3 ∨ k = 4 ∨ k = 5 ∨ k = 6 by omega) with rfl | rfl | rfl | rfl | rfl | rfl | rfl <;> rfl
theorem JO_r {st : Nat → Nat} {r : Nat → Nat → Nat} {n j k : Nat} (h : k ≤ 3) : JO st r n j k = r k j := by
  rcases (show k = 0 ∨ k = 1 ∨ k = 2 ∨ k = 3 by omega) with rfl | rfl | rfl | rfl <;> rfl
theorem okS_500 {st : Nat → Nat} {k : Nat} (h : okS st) (hk : k < 7) : st k ≤ 500 := by
  unfold okS at h
  rcases (show k = 0 ∨ k = 1 ∨ k = 2 ∨ k = 3 ∨ k = 4 ∨ k = 5 ∨ k = 6 by omega) with rfl | rfl | rfl | rfl | rfl | rfl | rfl <;> omega
theorem nI_n5 {g : Nat} (h : g < 2 ^ 31) : nI g ≠ (-5) := fun e => nI_pos h (by rw [e]; decide)
theorem nd_alt {d h : Nat} (hd : 0 < d) (hh : 1 ≤ h) : nd d h = (h - 1) / d + 1 := by
  unfold nd
  rw [show h + d - 1 = (h - 1) + d by omega, Nat.add_div_right _ hd]
abbrev RS (K : zK) (x : Nat → Nat) (a : oA) (y : Nat → Nat) (b : oA) (A : Nat → Prop) : Prop := Rx K (some .boolean) (fun u : (oS) × (oJ) × (oS) × (oJ) => match u with | (S2, J2, T2, J3) => some (.int (bI true)) ) (fun u : (oS) × (oJ) × (oS) × (oJ) => match u with | (S2, J2, T2, J3) => (INV S2) ∧ (INV T2) ∧ (REL S2 T2 6)) (fun u : (oS) × (oJ) × (oS) × (oJ) => match u with | (S2, J2, T2, J3) => [wO K.g x a S2 J2, wO K.g y b T2 J3]) A
theorem hdL_isTyped : yL_isTyped.cls ≠ "java/lang/invoke/MethodHandle" ∧ yL_isTyped.cls ≠ "java/lang/invoke/VarHandle" ∧ (parseMethodDescriptor yL_isTyped.desc).map (fun d => d.parameters.length) = some 5 := by decide +kernel
theorem hdL_up : yL_up.cls ≠ "java/lang/invoke/MethodHandle" ∧ yL_up.cls ≠ "java/lang/invoke/VarHandle" ∧ (parseMethodDescriptor yL_up.desc).map (fun d => d.parameters.length) = some 2 := by decide +kernel
theorem hdX4_drop : yX4_drop.cls = RX4 ∧ yX4_drop.cls ≠ "java/lang/invoke/MethodHandle" ∧ yX4_drop.cls ≠ "java/lang/invoke/VarHandle" ∧ (parseMethodDescriptor yX4_drop.desc).map (fun d => d.parameters.length) = some 1 := by decide +kernel
theorem hdX4_due : yX4_due.cls = RX4 ∧ yX4_due.cls ≠ "java/lang/invoke/MethodHandle" ∧ yX4_due.cls ≠ "java/lang/invoke/VarHandle" ∧ (parseMethodDescriptor yX4_due.desc).map (fun d => d.parameters.length) = some 2 := by decide +kernel
theorem hdX4_job : yX4_job.cls = RX4 ∧ yX4_job.cls ≠ "java/lang/invoke/MethodHandle" ∧ yX4_job.cls ≠ "java/lang/invoke/VarHandle" ∧ (parseMethodDescriptor yX4_job.desc).map (fun d => d.parameters.length) = some 4 := by decide +kernel
theorem hdX4_move : yX4_move.cls = RX4 ∧ yX4_move.cls ≠ "java/lang/invoke/MethodHandle" ∧ yX4_move.cls ≠ "java/lang/invoke/VarHandle" ∧ (parseMethodDescriptor yX4_move.desc).map (fun d => d.parameters.length) = some 2 := by decide +kernel
theorem hdX4_order : yX4_order.cls = RX4 ∧ yX4_order.cls ≠ "java/lang/invoke/MethodHandle" ∧ yX4_order.cls ≠ "java/lang/invoke/VarHandle" ∧ (parseMethodDescriptor yX4_order.desc).map (fun d => d.parameters.length) = some 1 := by decide +kernel
theorem hdX4_read : yX4_read.cls = RX4 ∧ yX4_read.cls ≠ "java/lang/invoke/MethodHandle" ∧ yX4_read.cls ≠ "java/lang/invoke/VarHandle" ∧ (parseMethodDescriptor yX4_read.desc).map (fun d => d.parameters.length) = some 0 := by decide +kernel
theorem hdX4_restore : yX4_restore.cls = RX4 ∧ yX4_restore.cls ≠ "java/lang/invoke/MethodHandle" ∧ yX4_restore.cls ≠ "java/lang/invoke/VarHandle" ∧ (parseMethodDescriptor yX4_restore.desc).map (fun d => d.parameters.length) = some 1 := by decide +kernel
theorem hdX4_save : yX4_save.cls = RX4 ∧ yX4_save.cls ≠ "java/lang/invoke/MethodHandle" ∧ yX4_save.cls ≠ "java/lang/invoke/VarHandle" ∧ (parseMethodDescriptor yX4_save.desc).map (fun d => d.parameters.length) = some 1 := by decide +kernel
theorem hdX4_set : yX4_set.cls = RX4 ∧ yX4_set.cls ≠ "java/lang/invoke/MethodHandle" ∧ yX4_set.cls ≠ "java/lang/invoke/VarHandle" ∧ (parseMethodDescriptor yX4_set.desc).map (fun d => d.parameters.length) = some 2 := by decide +kernel
theorem hdX4_undo : yX4_undo.cls = RX4 ∧ yX4_undo.cls ≠ "java/lang/invoke/MethodHandle" ∧ yX4_undo.cls ≠ "java/lang/invoke/VarHandle" ∧ (parseMethodDescriptor yX4_undo.desc).map (fun d => d.parameters.length) = some 0 := by decide +kernel

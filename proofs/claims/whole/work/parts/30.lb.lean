/-! LB: the law's branches. -/
def IV (sv : Nat → Bool) (st : Nat → Nat) (r : Nat → Nat → Nat) (n : Nat) (tx : Nat → Nat) (len : Nat) (kp : Nat) (nx : Nat) (hs : Nat → Nat → Nat) (hr : Nat → Nat → Nat → Nat) (hm : Nat → Nat) (ss : Nat → Nat → Nat) (sr : Nat → Nat → Nat → Nat) (sn : Nat → Nat) (all : Nat → Nat) (hist : Nat → Nat) (slo : Nat → Nat) (sav : Nat → Nat) : Prop := GB st r n ∧ Bd all st r n ∧ IH kp nx hs hr hm hist ∧ IS sv ss sr sn sav slo ∧ IT tx len
/-- the rest of the law from the loop's head -/
def LI (K : zK) (b : Nat) (x bd tr q p fb h : Nat → Nat) (ho sb : Nat → Nat → Nat) (y : Nat → Nat) (i : Nat) : Prop := ∀ (sv : Nat → Bool) (st : Nat → Nat) (r : Nat → Nat → Nat) (n : Nat) (ts : Nat → Nat) (tq : Nat → Nat → Nat) (tn : Nat) (a0 : Nat → Nat) (a1 : Nat → Nat) (a2 : Nat → Nat) (a3 : Nat → Nat) (a4 : Nat → Nat) (a5 : Nat → Nat) (a6 : Nat → Nat) (a7 : Nat → Nat) (s0 : Nat) (s1 : Nat) (s2 : Nat) (s3 : Nat) (s4 : Nat) (s5 : Nat) (s6 : Nat) (s7 : Nat) (s8 : Nat) (s9 : Nat) (tx : Nat → Nat) (len : Nat) (ex : Nat) (pl : Int32) (sh : Int32) (hu : Int32) (du : Int32) (fs : Nat → Nat) (fr : Nat → Nat → Nat) (fn : Nat) (kp : Nat) (nx : Nat) (hs : Nat → Nat → Nat) (hr : Nat → Nat → Nat → Nat) (hm : Nat → Nat) (ss : Nat → Nat → Nat) (sr : Nat → Nat → Nat → Nat) (sn : Nat → Nat) (all : Nat → Nat) (kept : Nat → Nat) (hist : Nat → Nat) (slo : Nat → Nat) (sav : Nat → Nat) (beg : Nat → Nat) (prt : Nat → Nat) (frm : Nat → Nat) (sp : Nat) (tol : Nat → Nat) (rd : Nat), IV sv st r n tx len kp nx hs hr hm ss sr sn all hist slo sav → Z K 104 1616 [wX K.g x bd tr q p h sb sv, wB K.g bd st r n, wB K.g tr ts tq tn, wP K.g q a0 a1 a2 a3 a4 a5 a6 a7 s0 s1 s2 s3 s4 s5 s6 s7 s8 s9, wPd K.g p fb tx len ex pl sh hu du, wB K.g fb fs fr fn, wH K.g h ho kp nx, wB K.g (ho 0) (hs 0) (hr 0) (hm 0), wB K.g (ho 1) (hs 1) (hr 1) (hm 1), wB K.g (ho 2) (hs 2) (hr 2) (hm 2), wB K.g (ho 3) (hs 3) (hr 3) (hm 3), wB K.g (ho 4) (hs 4) (hr 4) (hm 4), wB K.g (ho 5) (hs 5) (hr 5) (hm 5), wB K.g (sb 0) (ss 0) (sr 0) (sn 0), wB K.g (sb 1) (ss 1) (sr 1) (sn 1), wM K.g y all kept hist kp slo sav beg prt frm tx len sp tol rd] [(0, .ref b), (1, .ref (x 0)), (2, .ref (y 0)), (3, .int (nI i))] 18 []
/-- what the law has at hand -/
def LH (K : zK) (b L : Nat) (xs : Nat → Int32) : Prop := va_X b L xs K.s K.s.heap ∧ b < K.s.heap.size ∧ ¬ K.A b ∧ L ≤ 2560 ∧ eSet K.A K.s ∧ eOrd K.A K.s
theorem IS_t {b : Bool} {s : Nat} {P : Prop} (h : (b = true ∧ s = 1 ∧ P) ∨ (b = false ∧ s = 0)) (e : b = true) : b = true ∧ s = 1 ∧ P := by
  rcases h with h | h
  · exact h
  · exact absurd (e.symm.trans h.1) (by decide)
theorem IS_f {b : Bool} {s : Nat} {P : Prop} (h : (b = true ∧ s = 1 ∧ P) ∨ (b = false ∧ s = 0)) (e : ¬ b = true) : s = 0 := by
  rcases h with h | h
  · exact absurd h.1 e
  · exact h.2
theorem GB_ap {st : Nat → Nat} {r : Nat → Nat → Nat} {n a s h d : Nat} (hG : GB st r n) (hn : n < 12) (q1 : a ≤ 9) (q2 : s ≤ 9) (q3 : 1 ≤ h) (q4 : h ≤ 20) (q5 : d ≤ 3000) (q6 : nd (st 6) h ≤ st 5) : GB st (apR r n a s h d) (n + 1) := by
  obtain ⟨-, hS, hJ, hR⟩ := hG
  refine ⟨by omega, hS, fun j hj => ?_, fun j hj => ?_⟩
  · by_cases e : j = n
    · subst e
      show un (r 0) j a j ≤ 9 ∧ un (r 1) j s j ≤ 9 ∧ 1 ≤ un (r 2) j h j ∧ un (r 2) j h j ≤ 20 ∧ un (r 3) j d j ≤ 3000
      rw [un_s, un_s, un_s, un_s]
      exact ⟨q1, q2, q3, q4, q5⟩
    · show un (r 0) n a j ≤ 9 ∧ un (r 1) n s j ≤ 9 ∧ 1 ≤ un (r 2) n h j ∧ un (r 2) n h j ≤ 20 ∧ un (r 3) n d j ≤ 3000
      rw [un_n e, un_n e, un_n e, un_n e]
      exact hJ j (by omega)
  · show nd (st 6) (un (r 2) n h j) ≤ st 5
    by_cases e : j = n
    · subst e; rw [un_s]; exact q6
    · rw [un_n e]; exact hR j (by omega)
theorem GB_drop {st : Nat → Nat} {r : Nat → Nat → Nat} {n j : Nat} (hG : GB st r n) (hj : j < n) : GB st (fun k => shf (r k) j (n - 1)) (n - 1) := by
  obtain ⟨h1, hS, hJ, hR⟩ := hG
  have a := okJ_shf (t := n - 1) hj (by omega) hJ
  have b := okR_shf (t := n - 1) hj (by omega) hR
  exact ⟨by omega, hS, fun i hi => a i (by omega), fun i hi => b i (by omega)⟩
theorem GB_apA {st : Nat → Nat} {r ro : Nat → Nat → Nat} {n no : Nat} (hG : GB st r n) (ho : okJ ro no) (hn : n + no ≤ 12) (hm : mND st ro no ≤ st 5) : ∀ i, i ≤ no → GB st (apA r n ro i) (n + i)
  | 0, _ => hG
  | i + 1, hi => by
    have ih := GB_apA hG ho hn hm i (by omega)
    obtain ⟨q1, q2, q3, q4, q5⟩ := ho i (by omega)
    exact GB_ap ih (by omega) q1 q2 q3 q4 q5 (Nat.le_trans (mND_ge (st := st) (r := ro) (show i < no by omega)) hm)
theorem RD_iv {st tx hm hm3 : Nat → Nat} {r r3 r4 r5 fr : Nat → Nat → Nat} {n n3 n4 n5 len len3 kp kp3 nx nx3 hl5 tl5 : Nat} {hs hs3 : Nat → Nat → Nat} {hr hr3 : Nat → Nat → Nat → Nat} {all al5 hist hi5 : Nat → Nat} {v4 w4 v5 w5 : Int32} (hG : GB st r n) (hB : Bd all st r n) (hH : IH kp nx hs hr hm hist) (hT : IT tx len) (hp4 : PAR tx fr len w4 n4 r4)
    (hc4 : (w4 ≠ (-6) ∧ v4 = (-3) ∧ len3 = len ∧ r3 = r ∧ n3 = n ∧ kp3 = kp ∧ nx3 = nx ∧ hs3 = hs ∧ hr3 = hr ∧ hm3 = hm) ∨ (w4 = (-6) ∧ st 5 < mND st r4 n4 ∧ v4 = (-5) ∧ len3 = len ∧ r3 = r ∧ n3 = n ∧ kp3 = kp ∧ nx3 = nx ∧ hs3 = hs ∧ hr3 = hr ∧ hm3 = hm) ∨ (w4 = (-6) ∧ mND st r4 n4 ≤ st 5 ∧ 12 < n + n4 ∧ v4 = (-4) ∧ len3 = len ∧ r3 = r ∧ n3 = n ∧ kp3 = kp ∧ nx3 = nx ∧ hs3 = hs ∧ hr3 = hr ∧ hm3 = hm) ∨ (w4 = (-6) ∧ mND st r4 n4 ≤ st 5 ∧ n + n4 ≤ 12 ∧ v4 = nI (n + n4) ∧ len3 = 0 ∧ r3 = apA r n r4 n4 ∧ n3 = n + n4 ∧ kp3 = min (kp + 1) 6 ∧ nx3 = (if nx = 5 then 0 else nx + 1) ∧ hs3 = un hs nx st ∧ hr3 = un hr nx r ∧ hm3 = un hm nx n)) (hp5 : PAR tx fr len w5 n5 r5)
    (hc5 : (w5 ≠ (-6) ∧ v5 = (-3) ∧ al5 = all ∧ hi5 = hist ∧ hl5 = kp ∧ tl5 = len) ∨ (w5 = (-6) ∧ st 5 < mND st r5 n5 ∧ v5 = (-5) ∧ al5 = all ∧ hi5 = hist ∧ hl5 = kp ∧ tl5 = len) ∨ (w5 = (-6) ∧ mND st r5 n5 ≤ st 5 ∧ 12 < n + n5 ∧ v5 = (-4) ∧ al5 = all ∧ hi5 = hist ∧ hl5 = kp ∧ tl5 = len) ∨ (w5 = (-6) ∧ mND st r5 n5 ≤ st 5 ∧ n + n5 ≤ 12 ∧ v5 = nI (n + n5) ∧ tl5 = 0 ∧ Bd al5 st (apA r n r5 n5) (n + n5) ∧ HCh all hist kp hi5 hl5)) : v4 = v5 ∧ kp3 = hl5 ∧ len3 = tl5 ∧ GB st r3 n3 ∧ Bd al5 st r3 n3 ∧ IH kp3 nx3 hs3 hr3 hm3 hi5 ∧ IT tx len3 := by
  obtain ⟨ew, en⟩ := PAR_un hT.1 hp4 hp5
  subst ew
  rcases hc4 with ⟨a1, rfl, rfl, rfl, rfl, rfl, rfl, rfl, rfl, rfl⟩ | ⟨a1, a2, rfl, rfl, rfl, rfl, rfl, rfl, rfl, rfl, rfl⟩ | ⟨a1, a2, a3, rfl, rfl, rfl, rfl, rfl, rfl, rfl, rfl, rfl⟩ | ⟨a1, a2, a3, rfl, rfl, rfl, rfl, rfl, rfl, rfl, rfl, rfl⟩
  · rcases hc5 with ⟨b1, rfl, rfl, rfl, rfl, rfl⟩ | ⟨b1, -⟩ | ⟨b1, -⟩ | ⟨b1, -⟩
    · exact ⟨rfl, rfl, rfl, hG, hB, hH, hT⟩
    · exact absurd b1 a1
    · exact absurd b1 a1
    · exact absurd b1 a1
  · obtain ⟨rfl, rfl⟩ := en a1
    rcases hc5 with ⟨b1, -⟩ | ⟨b1, b2, rfl, rfl, rfl, rfl, rfl⟩ | ⟨b1, b2, -⟩ | ⟨b1, b2, -⟩
    · exact absurd a1 b1
    · exact ⟨rfl, rfl, rfl, hG, hB, hH, hT⟩
    · omega
    · omega
  · obtain ⟨rfl, rfl⟩ := en a1
    rcases hc5 with ⟨b1, -⟩ | ⟨b1, b2, -⟩ | ⟨b1, b2, b3, rfl, rfl, rfl, rfl, rfl⟩ | ⟨b1, b2, b3, -⟩
    · exact absurd a1 b1
    · omega
    · exact ⟨rfl, rfl, rfl, hG, hB, hH, hT⟩
    · omega
  · obtain ⟨rfl, rfl⟩ := en a1
    rcases hc5 with ⟨b1, -⟩ | ⟨b1, b2, -⟩ | ⟨b1, b2, b3, -⟩ | ⟨b1, b2, b3, rfl, rfl, b4, b5⟩
    · exact absurd a1 b1
    · omega
    · omega
    · obtain ⟨c1, c2⟩ := IH_push hH hG hB b5
      exact ⟨rfl, c1.symm, rfl, GB_apA hG (PAR_ok hp4 hT.1 a1).2 a3 a2 n4 (Nat.le_refl _), b4, c2, IT_0⟩
theorem hdX4_at : yX4_at.cls = RX4 ∧ yX4_at.cls ≠ "java/lang/invoke/MethodHandle" ∧ yX4_at.cls ≠ "java/lang/invoke/VarHandle" ∧ (parseMethodDescriptor yX4_at.desc).map (fun d => d.parameters.length) = some 2 := by decide +kernel
theorem hdX4_bestExchange : yX4_bestExchange.cls = RX4 ∧ yX4_bestExchange.cls ≠ "java/lang/invoke/MethodHandle" ∧ yX4_bestExchange.cls ≠ "java/lang/invoke/VarHandle" ∧ (parseMethodDescriptor yX4_bestExchange.desc).map (fun d => d.parameters.length) = some 1 := by decide +kernel
theorem hdX4_bestFirst : yX4_bestFirst.cls = RX4 ∧ yX4_bestFirst.cls ≠ "java/lang/invoke/MethodHandle" ∧ yX4_bestFirst.cls ≠ "java/lang/invoke/VarHandle" ∧ (parseMethodDescriptor yX4_bestFirst.desc).map (fun d => d.parameters.length) = some 0 := by decide +kernel
theorem hdX4_count : yX4_count.cls = RX4 ∧ yX4_count.cls ≠ "java/lang/invoke/MethodHandle" ∧ yX4_count.cls ≠ "java/lang/invoke/VarHandle" ∧ (parseMethodDescriptor yX4_count.desc).map (fun d => d.parameters.length) = some 1 := by decide +kernel
theorem hdX4_drop : yX4_drop.cls = RX4 ∧ yX4_drop.cls ≠ "java/lang/invoke/MethodHandle" ∧ yX4_drop.cls ≠ "java/lang/invoke/VarHandle" ∧ (parseMethodDescriptor yX4_drop.desc).map (fun d => d.parameters.length) = some 1 := by decide +kernel
theorem hdX4_due : yX4_due.cls = RX4 ∧ yX4_due.cls ≠ "java/lang/invoke/MethodHandle" ∧ yX4_due.cls ≠ "java/lang/invoke/VarHandle" ∧ (parseMethodDescriptor yX4_due.desc).map (fun d => d.parameters.length) = some 2 := by decide +kernel
theorem hdX4_fault : yX4_fault.cls = RX4 ∧ yX4_fault.cls ≠ "java/lang/invoke/MethodHandle" ∧ yX4_fault.cls ≠ "java/lang/invoke/VarHandle" ∧ (parseMethodDescriptor yX4_fault.desc).map (fun d => d.parameters.length) = some 0 := by decide +kernel
theorem hdX4_ifOrdered : yX4_ifOrdered.cls = RX4 ∧ yX4_ifOrdered.cls ≠ "java/lang/invoke/MethodHandle" ∧ yX4_ifOrdered.cls ≠ "java/lang/invoke/VarHandle" ∧ (parseMethodDescriptor yX4_ifOrdered.desc).map (fun d => d.parameters.length) = some 2 := by decide +kernel
theorem hdX4_job : yX4_job.cls = RX4 ∧ yX4_job.cls ≠ "java/lang/invoke/MethodHandle" ∧ yX4_job.cls ≠ "java/lang/invoke/VarHandle" ∧ (parseMethodDescriptor yX4_job.desc).map (fun d => d.parameters.length) = some 4 := by decide +kernel
theorem hdX4_jobOf : yX4_jobOf.cls = RX4 ∧ yX4_jobOf.cls ≠ "java/lang/invoke/MethodHandle" ∧ yX4_jobOf.cls ≠ "java/lang/invoke/VarHandle" ∧ (parseMethodDescriptor yX4_jobOf.desc).map (fun d => d.parameters.length) = some 2 := by decide +kernel
theorem hdX4_leastRacks : yX4_leastRacks.cls = RX4 ∧ yX4_leastRacks.cls ≠ "java/lang/invoke/MethodHandle" ∧ yX4_leastRacks.cls ≠ "java/lang/invoke/VarHandle" ∧ (parseMethodDescriptor yX4_leastRacks.desc).map (fun d => d.parameters.length) = some 0 := by decide +kernel
theorem hdX4_move : yX4_move.cls = RX4 ∧ yX4_move.cls ≠ "java/lang/invoke/MethodHandle" ∧ yX4_move.cls ≠ "java/lang/invoke/VarHandle" ∧ (parseMethodDescriptor yX4_move.desc).map (fun d => d.parameters.length) = some 2 := by decide +kernel
theorem hdX4_order : yX4_order.cls = RX4 ∧ yX4_order.cls ≠ "java/lang/invoke/MethodHandle" ∧ yX4_order.cls ≠ "java/lang/invoke/VarHandle" ∧ (parseMethodDescriptor yX4_order.desc).map (fun d => d.parameters.length) = some 1 := by decide +kernel
theorem hdX4_put : yX4_put.cls = RX4 ∧ yX4_put.cls ≠ "java/lang/invoke/MethodHandle" ∧ yX4_put.cls ≠ "java/lang/invoke/VarHandle" ∧ (parseMethodDescriptor yX4_put.desc).map (fun d => d.parameters.length) = some 1 := by decide +kernel
theorem hdX4_read : yX4_read.cls = RX4 ∧ yX4_read.cls ≠ "java/lang/invoke/MethodHandle" ∧ yX4_read.cls ≠ "java/lang/invoke/VarHandle" ∧ (parseMethodDescriptor yX4_read.desc).map (fun d => d.parameters.length) = some 0 := by decide +kernel
theorem hdX4_restore : yX4_restore.cls = RX4 ∧ yX4_restore.cls ≠ "java/lang/invoke/MethodHandle" ∧ yX4_restore.cls ≠ "java/lang/invoke/VarHandle" ∧ (parseMethodDescriptor yX4_restore.desc).map (fun d => d.parameters.length) = some 1 := by decide +kernel
theorem hdX4_save : yX4_save.cls = RX4 ∧ yX4_save.cls ≠ "java/lang/invoke/MethodHandle" ∧ yX4_save.cls ≠ "java/lang/invoke/VarHandle" ∧ (parseMethodDescriptor yX4_save.desc).map (fun d => d.parameters.length) = some 1 := by decide +kernel
theorem hdX4_set : yX4_set.cls = RX4 ∧ yX4_set.cls ≠ "java/lang/invoke/MethodHandle" ∧ yX4_set.cls ≠ "java/lang/invoke/VarHandle" ∧ (parseMethodDescriptor yX4_set.desc).map (fun d => d.parameters.length) = some 2 := by decide +kernel
theorem hdX4_undo : yX4_undo.cls = RX4 ∧ yX4_undo.cls ≠ "java/lang/invoke/MethodHandle" ∧ yX4_undo.cls ≠ "java/lang/invoke/VarHandle" ∧ (parseMethodDescriptor yX4_undo.desc).map (fun d => d.parameters.length) = some 0 := by decide +kernel
theorem hdX4_wipe : yX4_wipe.cls = RX4 ∧ yX4_wipe.cls ≠ "java/lang/invoke/MethodHandle" ∧ yX4_wipe.cls ≠ "java/lang/invoke/VarHandle" ∧ (parseMethodDescriptor yX4_wipe.desc).map (fun d => d.parameters.length) = some 0 := by decide +kernel
theorem hdX5_at : yX5_at.cls = RX5 ∧ yX5_at.cls ≠ "java/lang/invoke/MethodHandle" ∧ yX5_at.cls ≠ "java/lang/invoke/VarHandle" ∧ (parseMethodDescriptor yX5_at.desc).map (fun d => d.parameters.length) = some 2 := by decide +kernel
theorem hdX5_bestExchange : yX5_bestExchange.cls = RX5 ∧ yX5_bestExchange.cls ≠ "java/lang/invoke/MethodHandle" ∧ yX5_bestExchange.cls ≠ "java/lang/invoke/VarHandle" ∧ (parseMethodDescriptor yX5_bestExchange.desc).map (fun d => d.parameters.length) = some 1 := by decide +kernel
theorem hdX5_bestFirst : yX5_bestFirst.cls = RX5 ∧ yX5_bestFirst.cls ≠ "java/lang/invoke/MethodHandle" ∧ yX5_bestFirst.cls ≠ "java/lang/invoke/VarHandle" ∧ (parseMethodDescriptor yX5_bestFirst.desc).map (fun d => d.parameters.length) = some 0 := by decide +kernel
theorem hdX5_count : yX5_count.cls = RX5 ∧ yX5_count.cls ≠ "java/lang/invoke/MethodHandle" ∧ yX5_count.cls ≠ "java/lang/invoke/VarHandle" ∧ (parseMethodDescriptor yX5_count.desc).map (fun d => d.parameters.length) = some 1 := by decide +kernel
theorem hdX5_drop : yX5_drop.cls = RX5 ∧ yX5_drop.cls ≠ "java/lang/invoke/MethodHandle" ∧ yX5_drop.cls ≠ "java/lang/invoke/VarHandle" ∧ (parseMethodDescriptor yX5_drop.desc).map (fun d => d.parameters.length) = some 1 := by decide +kernel
theorem hdX5_due : yX5_due.cls = RX5 ∧ yX5_due.cls ≠ "java/lang/invoke/MethodHandle" ∧ yX5_due.cls ≠ "java/lang/invoke/VarHandle" ∧ (parseMethodDescriptor yX5_due.desc).map (fun d => d.parameters.length) = some 2 := by decide +kernel
theorem hdX5_ifOrdered : yX5_ifOrdered.cls = RX5 ∧ yX5_ifOrdered.cls ≠ "java/lang/invoke/MethodHandle" ∧ yX5_ifOrdered.cls ≠ "java/lang/invoke/VarHandle" ∧ (parseMethodDescriptor yX5_ifOrdered.desc).map (fun d => d.parameters.length) = some 2 := by decide +kernel
theorem hdX5_job : yX5_job.cls = RX5 ∧ yX5_job.cls ≠ "java/lang/invoke/MethodHandle" ∧ yX5_job.cls ≠ "java/lang/invoke/VarHandle" ∧ (parseMethodDescriptor yX5_job.desc).map (fun d => d.parameters.length) = some 4 := by decide +kernel
theorem hdX5_jobOf : yX5_jobOf.cls = RX5 ∧ yX5_jobOf.cls ≠ "java/lang/invoke/MethodHandle" ∧ yX5_jobOf.cls ≠ "java/lang/invoke/VarHandle" ∧ (parseMethodDescriptor yX5_jobOf.desc).map (fun d => d.parameters.length) = some 2 := by decide +kernel
theorem hdX5_leastRacks : yX5_leastRacks.cls = RX5 ∧ yX5_leastRacks.cls ≠ "java/lang/invoke/MethodHandle" ∧ yX5_leastRacks.cls ≠ "java/lang/invoke/VarHandle" ∧ (parseMethodDescriptor yX5_leastRacks.desc).map (fun d => d.parameters.length) = some 0 := by decide +kernel
theorem hdX5_move : yX5_move.cls = RX5 ∧ yX5_move.cls ≠ "java/lang/invoke/MethodHandle" ∧ yX5_move.cls ≠ "java/lang/invoke/VarHandle" ∧ (parseMethodDescriptor yX5_move.desc).map (fun d => d.parameters.length) = some 2 := by decide +kernel
theorem hdX5_order : yX5_order.cls = RX5 ∧ yX5_order.cls ≠ "java/lang/invoke/MethodHandle" ∧ yX5_order.cls ≠ "java/lang/invoke/VarHandle" ∧ (parseMethodDescriptor yX5_order.desc).map (fun d => d.parameters.length) = some 1 := by decide +kernel
theorem hdX5_put : yX5_put.cls = RX5 ∧ yX5_put.cls ≠ "java/lang/invoke/MethodHandle" ∧ yX5_put.cls ≠ "java/lang/invoke/VarHandle" ∧ (parseMethodDescriptor yX5_put.desc).map (fun d => d.parameters.length) = some 1 := by decide +kernel
theorem hdX5_read : yX5_read.cls = RX5 ∧ yX5_read.cls ≠ "java/lang/invoke/MethodHandle" ∧ yX5_read.cls ≠ "java/lang/invoke/VarHandle" ∧ (parseMethodDescriptor yX5_read.desc).map (fun d => d.parameters.length) = some 0 := by decide +kernel
theorem hdX5_restore : yX5_restore.cls = RX5 ∧ yX5_restore.cls ≠ "java/lang/invoke/MethodHandle" ∧ yX5_restore.cls ≠ "java/lang/invoke/VarHandle" ∧ (parseMethodDescriptor yX5_restore.desc).map (fun d => d.parameters.length) = some 1 := by decide +kernel
theorem hdX5_save : yX5_save.cls = RX5 ∧ yX5_save.cls ≠ "java/lang/invoke/MethodHandle" ∧ yX5_save.cls ≠ "java/lang/invoke/VarHandle" ∧ (parseMethodDescriptor yX5_save.desc).map (fun d => d.parameters.length) = some 1 := by decide +kernel
theorem hdX5_set : yX5_set.cls = RX5 ∧ yX5_set.cls ≠ "java/lang/invoke/MethodHandle" ∧ yX5_set.cls ≠ "java/lang/invoke/VarHandle" ∧ (parseMethodDescriptor yX5_set.desc).map (fun d => d.parameters.length) = some 2 := by decide +kernel
theorem hdX5_undo : yX5_undo.cls = RX5 ∧ yX5_undo.cls ≠ "java/lang/invoke/MethodHandle" ∧ yX5_undo.cls ≠ "java/lang/invoke/VarHandle" ∧ (parseMethodDescriptor yX5_undo.desc).map (fun d => d.parameters.length) = some 0 := by decide +kernel
theorem hdX5_wipe : yX5_wipe.cls = RX5 ∧ yX5_wipe.cls ≠ "java/lang/invoke/MethodHandle" ∧ yX5_wipe.cls ≠ "java/lang/invoke/VarHandle" ∧ (parseMethodDescriptor yX5_wipe.desc).map (fun d => d.parameters.length) = some 0 := by decide +kernel
set_option maxHeartbeats 4000000 in
set_option maxRecDepth 100000 in
theorem lb_wipe {K : zK} (C : Cx K room_1 RL cL_law wsL_law) (hnL : K.nL = 4) (b : Nat) (x bd tr q p fb h : Nat → Nat) (ho sb : Nat → Nat → Nat) (y : Nat → Nat) (L : Nat) (xs : Nat → Int32) (i : Nat) (hLH : LH K b L xs) (hiL : i + 5 ≤ L) (kk : LI K b x bd tr q p fb h ho sb y (i + 5)) (sv : Nat → Bool) (st : Nat → Nat) (r : Nat → Nat → Nat) (n : Nat) (ts : Nat → Nat) (tq : Nat → Nat → Nat) (tn : Nat) (a0 : Nat → Nat) (a1 : Nat → Nat) (a2 : Nat → Nat) (a3 : Nat → Nat) (a4 : Nat → Nat) (a5 : Nat → Nat) (a6 : Nat → Nat) (a7 : Nat → Nat) (s0 : Nat) (s1 : Nat) (s2 : Nat) (s3 : Nat) (s4 : Nat) (s5 : Nat) (s6 : Nat) (s7 : Nat) (s8 : Nat) (s9 : Nat) (tx : Nat → Nat) (len : Nat) (ex : Nat) (pl : Int32) (sh : Int32) (hu : Int32) (du : Int32) (fs : Nat → Nat) (fr : Nat → Nat → Nat) (fn : Nat) (kp : Nat) (nx : Nat) (hs : Nat → Nat → Nat) (hr : Nat → Nat → Nat → Nat) (hm : Nat → Nat) (ss : Nat → Nat → Nat) (sr : Nat → Nat → Nat → Nat) (sn : Nat → Nat) (all : Nat → Nat) (kept : Nat → Nat) (hist : Nat → Nat) (slo : Nat → Nat) (sav : Nat → Nat) (beg : Nat → Nat) (prt : Nat → Nat) (frm : Nat → Nat) (sp : Nat) (tol : Nat → Nat) (rd : Nat) (hI : IV sv st r n tx len kp nx hs hr hm ss sr sn all hist slo sav) : Z K 104 1616 [wX K.g x bd tr q p h sb sv, wB K.g bd st r n, wB K.g tr ts tq tn, wP K.g q a0 a1 a2 a3 a4 a5 a6 a7 s0 s1 s2 s3 s4 s5 s6 s7 s8 s9, wPd K.g p fb tx len ex pl sh hu du, wB K.g fb fs fr fn, wH K.g h ho kp nx, wB K.g (ho 0) (hs 0) (hr 0) (hm 0), wB K.g (ho 1) (hs 1) (hr 1) (hm 1), wB K.g (ho 2) (hs 2) (hr 2) (hm 2), wB K.g (ho 3) (hs 3) (hr 3) (hm 3), wB K.g (ho 4) (hs 4) (hr 4) (hm 4), wB K.g (ho 5) (hs 5) (hr 5) (hm 5), wB K.g (sb 0) (ss 0) (sr 0) (sn 0), wB K.g (sb 1) (ss 1) (sr 1) (sn 1), wM K.g y all kept hist kp slo sav beg prt frm tx len sp tol rd] [(0, .ref b), (1, .ref (x 0)), (2, .ref (y 0)), (3, .int (nI i))] 563 [] := by
  obtain ⟨hX, hbl, hbA, hL, heSet, heOrd⟩ := hLH
  obtain ⟨hG, hB, hH, hSl, hT⟩ := hI
  obtain ⟨hn, hS, hJ, hR⟩ := id hG
  have hk := hH.1
  have hx := hH.2.1
  have hl := hT.1
  have ht := hT.2
  refine z_aload_n C 1 rfl rfl dL_law_563 564 rfl ?_
  refine z_callV C [] [] (tX4_wipe K.l K.g x bd tr q p h sb sv fb tx len ex pl sh hu du ) gL_law_X4_wipe rfl rfl rfl hdX4_wipe ⟨Nat.le_of_ble_eq_true rfl, Nat.le_of_ble_eq_true rfl⟩ ⟨Nat.le_of_ble_eq_true rfl, Nat.le_of_ble_eq_true rfl⟩ 0 0 rfl rfl rfl [0, 4] rfl rfl (zlc (N := 16) rfl rfl) [16, 1, 2, 3, 17, 5, 6, 7, 8, 9, 10, 11, 12, 13, 14, 15] rfl (by decide) (fun _ : Unit => [wX K.g x bd tr q p h sb sv, wB K.g bd st r n, wB K.g tr ts tq tn, wP K.g q a0 a1 a2 a3 a4 a5 a6 a7 s0 s1 s2 s3 s4 s5 s6 s7 s8 s9, wPd K.g p fb tx 0 ex pl sh hu du, wB K.g fb fs fr fn, wH K.g h ho kp nx, wB K.g (ho 0) (hs 0) (hr 0) (hm 0), wB K.g (ho 1) (hs 1) (hr 1) (hm 1), wB K.g (ho 2) (hs 2) (hr 2) (hm 2), wB K.g (ho 3) (hs 3) (hr 3) (hm 3), wB K.g (ho 4) (hs 4) (hr 4) (hm 4), wB K.g (ho 5) (hs 5) (hr 5) (hm 5), wB K.g (sb 0) (ss 0) (sr 0) (sn 0), wB K.g (sb 1) (ss 1) (sr 1) (sn 1), wM K.g y all kept hist kp slo sav beg prt frm tx len sp tol rd]) (fun _ => rfl) rfl rfl (Nat.le_of_ble_eq_true rfl) dL_law_564 567 rfl (fun u9 hu9 => ?_)
  show Z K 104 1616 [wX K.g x bd tr q p h sb sv, wB K.g bd st r n, wB K.g tr ts tq tn, wP K.g q a0 a1 a2 a3 a4 a5 a6 a7 s0 s1 s2 s3 s4 s5 s6 s7 s8 s9, wPd K.g p fb tx 0 ex pl sh hu du, wB K.g fb fs fr fn, wH K.g h ho kp nx, wB K.g (ho 0) (hs 0) (hr 0) (hm 0), wB K.g (ho 1) (hs 1) (hr 1) (hm 1), wB K.g (ho 2) (hs 2) (hr 2) (hm 2), wB K.g (ho 3) (hs 3) (hr 3) (hm 3), wB K.g (ho 4) (hs 4) (hr 4) (hm 4), wB K.g (ho 5) (hs 5) (hr 5) (hm 5), wB K.g (sb 0) (ss 0) (sr 0) (sn 0), wB K.g (sb 1) (ss 1) (sr 1) (sn 1), wM K.g y all kept hist kp slo sav beg prt frm tx len sp tol rd] [(0, .ref b), (1, .ref (x 0)), (2, .ref (y 0)), (3, .int (nI i))] 567 [.int (nI len)]
  refine z_aload_n C 2 rfl rfl dL_law_567 568 rfl ?_
  refine z_callV C [] [.int (nI len)] (tX5_wipe K.l K.g y all kept hist kp slo sav beg prt frm tx len sp tol rd ) gL_law_X5_wipe rfl rfl rfl hdX5_wipe ⟨Nat.le_of_ble_eq_true rfl, Nat.le_of_ble_eq_true rfl⟩ ⟨Nat.le_of_ble_eq_true rfl, Nat.le_of_ble_eq_true rfl⟩ 15 0 rfl rfl rfl [15] rfl rfl (zlc (N := 16) rfl rfl) [0, 1, 2, 3, 4, 5, 6, 7, 8, 9, 10, 11, 12, 13, 14, 16] rfl (by decide) (fun _ : Unit => [wX K.g x bd tr q p h sb sv, wB K.g bd st r n, wB K.g tr ts tq tn, wP K.g q a0 a1 a2 a3 a4 a5 a6 a7 s0 s1 s2 s3 s4 s5 s6 s7 s8 s9, wPd K.g p fb tx 0 ex pl sh hu du, wB K.g fb fs fr fn, wH K.g h ho kp nx, wB K.g (ho 0) (hs 0) (hr 0) (hm 0), wB K.g (ho 1) (hs 1) (hr 1) (hm 1), wB K.g (ho 2) (hs 2) (hr 2) (hm 2), wB K.g (ho 3) (hs 3) (hr 3) (hm 3), wB K.g (ho 4) (hs 4) (hr 4) (hm 4), wB K.g (ho 5) (hs 5) (hr 5) (hm 5), wB K.g (sb 0) (ss 0) (sr 0) (sn 0), wB K.g (sb 1) (ss 1) (sr 1) (sn 1), wM K.g y all kept hist kp slo sav beg prt frm tx 0 sp tol rd]) (fun _ => rfl) rfl rfl (Nat.le_of_ble_eq_true rfl) dL_law_568 571 rfl (fun u9 hu9 => ?_)
  show Z K 104 1616 [wX K.g x bd tr q p h sb sv, wB K.g bd st r n, wB K.g tr ts tq tn, wP K.g q a0 a1 a2 a3 a4 a5 a6 a7 s0 s1 s2 s3 s4 s5 s6 s7 s8 s9, wPd K.g p fb tx 0 ex pl sh hu du, wB K.g fb fs fr fn, wH K.g h ho kp nx, wB K.g (ho 0) (hs 0) (hr 0) (hm 0), wB K.g (ho 1) (hs 1) (hr 1) (hm 1), wB K.g (ho 2) (hs 2) (hr 2) (hm 2), wB K.g (ho 3) (hs 3) (hr 3) (hm 3), wB K.g (ho 4) (hs 4) (hr 4) (hm 4), wB K.g (ho 5) (hs 5) (hr 5) (hm 5), wB K.g (sb 0) (ss 0) (sr 0) (sn 0), wB K.g (sb 1) (ss 1) (sr 1) (sn 1), wM K.g y all kept hist kp slo sav beg prt frm tx 0 sp tol rd] [(0, .ref b), (1, .ref (x 0)), (2, .ref (y 0)), (3, .int (nI i))] 571 [.int (nI len), .int (nI len)]
  refine z_icmpI_eq C 648 dL_law_571 (by decide) 574 rfl (fun c9 => ?_) (fun c9 => absurd rfl c9)
  refine z_iinc C hnL 3 rfl (v := nI (i + 5)) (nI_add _ 5) [1, 2, 3, 0] [(0, .ref b), (1, .ref (x 0)), (2, .ref (y 0)), (3, .int (nI (i + 5)))] rfl (Nat.le_of_ble_eq_true rfl) dL_law_648 651 rfl ?_
  refine z_goto C 18 dL_law_651 (by decide) ?_
  exact kk sv st r n ts tq tn a0 a1 a2 a3 a4 a5 a6 a7 s0 s1 s2 s3 s4 s5 s6 s7 s8 s9 tx 0 ex pl sh hu du fs fr fn kp nx hs hr hm ss sr sn all kept hist slo sav beg prt frm sp tol rd ⟨hG, hB, hH, hSl, IT_0⟩

set_option maxHeartbeats 4000000 in
set_option maxRecDepth 100000 in
theorem lb_bestFirst {K : zK} (C : Cx K room_1 RL cL_law wsL_law) (hnL : K.nL = 4) (b : Nat) (x bd tr q p fb h : Nat → Nat) (ho sb : Nat → Nat → Nat) (y : Nat → Nat) (L : Nat) (xs : Nat → Int32) (i : Nat) (hLH : LH K b L xs) (hiL : i + 5 ≤ L) (kk : LI K b x bd tr q p fb h ho sb y (i + 5)) (sv : Nat → Bool) (st : Nat → Nat) (r : Nat → Nat → Nat) (n : Nat) (ts : Nat → Nat) (tq : Nat → Nat → Nat) (tn : Nat) (a0 : Nat → Nat) (a1 : Nat → Nat) (a2 : Nat → Nat) (a3 : Nat → Nat) (a4 : Nat → Nat) (a5 : Nat → Nat) (a6 : Nat → Nat) (a7 : Nat → Nat) (s0 : Nat) (s1 : Nat) (s2 : Nat) (s3 : Nat) (s4 : Nat) (s5 : Nat) (s6 : Nat) (s7 : Nat) (s8 : Nat) (s9 : Nat) (tx : Nat → Nat) (len : Nat) (ex : Nat) (pl : Int32) (sh : Int32) (hu : Int32) (du : Int32) (fs : Nat → Nat) (fr : Nat → Nat → Nat) (fn : Nat) (kp : Nat) (nx : Nat) (hs : Nat → Nat → Nat) (hr : Nat → Nat → Nat → Nat) (hm : Nat → Nat) (ss : Nat → Nat → Nat) (sr : Nat → Nat → Nat → Nat) (sn : Nat → Nat) (all : Nat → Nat) (kept : Nat → Nat) (hist : Nat → Nat) (slo : Nat → Nat) (sav : Nat → Nat) (beg : Nat → Nat) (prt : Nat → Nat) (frm : Nat → Nat) (sp : Nat) (tol : Nat → Nat) (rd : Nat) (hI : IV sv st r n tx len kp nx hs hr hm ss sr sn all hist slo sav) : Z K 104 1616 [wX K.g x bd tr q p h sb sv, wB K.g bd st r n, wB K.g tr ts tq tn, wP K.g q a0 a1 a2 a3 a4 a5 a6 a7 s0 s1 s2 s3 s4 s5 s6 s7 s8 s9, wPd K.g p fb tx len ex pl sh hu du, wB K.g fb fs fr fn, wH K.g h ho kp nx, wB K.g (ho 0) (hs 0) (hr 0) (hm 0), wB K.g (ho 1) (hs 1) (hr 1) (hm 1), wB K.g (ho 2) (hs 2) (hr 2) (hm 2), wB K.g (ho 3) (hs 3) (hr 3) (hm 3), wB K.g (ho 4) (hs 4) (hr 4) (hm 4), wB K.g (ho 5) (hs 5) (hr 5) (hm 5), wB K.g (sb 0) (ss 0) (sr 0) (sn 0), wB K.g (sb 1) (ss 1) (sr 1) (sn 1), wM K.g y all kept hist kp slo sav beg prt frm tx len sp tol rd] [(0, .ref b), (1, .ref (x 0)), (2, .ref (y 0)), (3, .int (nI i))] 484 [] := by
  obtain ⟨hX, hbl, hbA, hL, heSet, heOrd⟩ := hLH
  obtain ⟨hG, hB, hH, hSl, hT⟩ := hI
  obtain ⟨hn, hS, hJ, hR⟩ := id hG
  have hk := hH.1
  have hx := hH.2.1
  have hl := hT.1
  have ht := hT.2
  refine z_aload_n C 1 rfl rfl dL_law_484 485 rfl ?_
  refine z_callV C [] [] (tX4_bestFirst K.l K.g x bd tr q p h sb sv a0 a1 a2 a3 a4 a5 a6 a7 s0 s1 s2 s3 s4 s5 s6 s7 s8 s9 st r n ts tq tn (by first | omega | assumption) (by first | omega | assumption) (by first | omega | assumption) (by first | omega | assumption)) gL_law_X4_bestFirst rfl rfl rfl hdX4_bestFirst ⟨Nat.le_of_ble_eq_true rfl, Nat.le_of_ble_eq_true rfl⟩ ⟨Nat.le_of_ble_eq_true rfl, Nat.le_of_ble_eq_true rfl⟩ 0 0 rfl rfl rfl [0, 3, 1, 2] rfl rfl (zlc (N := 16) rfl rfl) [16, 18, 19, 17, 4, 5, 6, 7, 8, 9, 10, 11, 12, 13, 14, 15] rfl (by decide) (fun u : (Nat → Nat) × (Nat → Nat) × (Nat → Nat) × (Nat → Nat) × (Nat → Nat) × (Nat → Nat) × (Nat → Nat) × (Nat → Nat) × (Nat) × (Nat) × (Nat) × (Nat) × (Nat) × (Nat) × (Nat) × (Nat) × (Nat) × (Nat) => match u with | (c0, c1, c2, c3, c4, c5, c6, c7, d1, d2, d3, d4, d5, d6, d7, d8, d9, d0) => [wX K.g x bd tr q p h sb sv, wB K.g bd st r n, wB K.g tr st r n, wP K.g q c0 c1 c2 c3 c4 c5 c6 c7 d0 d1 d2 d3 d4 d5 d6 d7 d8 d9, wPd K.g p fb tx len ex pl sh hu du, wB K.g fb fs fr fn, wH K.g h ho kp nx, wB K.g (ho 0) (hs 0) (hr 0) (hm 0), wB K.g (ho 1) (hs 1) (hr 1) (hm 1), wB K.g (ho 2) (hs 2) (hr 2) (hm 2), wB K.g (ho 3) (hs 3) (hr 3) (hm 3), wB K.g (ho 4) (hs 4) (hr 4) (hm 4), wB K.g (ho 5) (hs 5) (hr 5) (hm 5), wB K.g (sb 0) (ss 0) (sr 0) (sn 0), wB K.g (sb 1) (ss 1) (sr 1) (sn 1), wM K.g y all kept hist kp slo sav beg prt frm tx len sp tol rd]) (fun _ => rfl) rfl rfl (Nat.le_of_ble_eq_true rfl) dL_law_485 488 rfl (fun u9 hu9 => ?_)
  obtain ⟨c0_1, c1_2, c2_3, c3_4, c4_5, c5_6, c6_7, c7_8, d1_9, d2_10, d3_11, d4_12, d5_13, d6_14, d7_15, d8_16, d9_17, d0_18⟩ := u9
  show Z K 104 1616 [wX K.g x bd tr q p h sb sv, wB K.g bd st r n, wB K.g tr st r n, wP K.g q c0_1 c1_2 c2_3 c3_4 c4_5 c5_6 c6_7 c7_8 d0_18 d1_9 d2_10 d3_11 d4_12 d5_13 d6_14 d7_15 d8_16 d9_17, wPd K.g p fb tx len ex pl sh hu du, wB K.g fb fs fr fn, wH K.g h ho kp nx, wB K.g (ho 0) (hs 0) (hr 0) (hm 0), wB K.g (ho 1) (hs 1) (hr 1) (hm 1), wB K.g (ho 2) (hs 2) (hr 2) (hm 2), wB K.g (ho 3) (hs 3) (hr 3) (hm 3), wB K.g (ho 4) (hs 4) (hr 4) (hm 4), wB K.g (ho 5) (hs 5) (hr 5) (hm 5), wB K.g (sb 0) (ss 0) (sr 0) (sn 0), wB K.g (sb 1) (ss 1) (sr 1) (sn 1), wM K.g y all kept hist kp slo sav beg prt frm tx len sp tol rd] [(0, .ref b), (1, .ref (x 0)), (2, .ref (y 0)), (3, .int (nI i))] 488 [.int ((bfO st r n n).1)]
  refine z_aload_n C 2 rfl rfl dL_law_488 489 rfl ?_
  refine z_callV C [] [.int ((bfO st r n n).1)] (tX5_bestFirst K.l K.g y all kept hist kp slo sav beg prt frm tx len sp tol rd st r n (by first | omega | assumption) (by first | omega | assumption) (by first | omega | assumption) (by first | omega | assumption) (by first | omega | assumption)) gL_law_X5_bestFirst rfl rfl rfl hdX5_bestFirst ⟨Nat.le_of_ble_eq_true rfl, Nat.le_of_ble_eq_true rfl⟩ ⟨Nat.le_of_ble_eq_true rfl, Nat.le_of_ble_eq_true rfl⟩ 15 0 rfl rfl rfl [15] rfl rfl (zlc (N := 16) rfl rfl) [0, 1, 2, 3, 4, 5, 6, 7, 8, 9, 10, 11, 12, 13, 14, 16] rfl (by decide) (fun u : (Nat → Nat) × (Nat → Nat) × (Nat → Nat) => match u with | (all2, beg2, prt2) => [wX K.g x bd tr q p h sb sv, wB K.g bd st r n, wB K.g tr st r n, wP K.g q c0_1 c1_2 c2_3 c3_4 c4_5 c5_6 c6_7 c7_8 d0_18 d1_9 d2_10 d3_11 d4_12 d5_13 d6_14 d7_15 d8_16 d9_17, wPd K.g p fb tx len ex pl sh hu du, wB K.g fb fs fr fn, wH K.g h ho kp nx, wB K.g (ho 0) (hs 0) (hr 0) (hm 0), wB K.g (ho 1) (hs 1) (hr 1) (hm 1), wB K.g (ho 2) (hs 2) (hr 2) (hm 2), wB K.g (ho 3) (hs 3) (hr 3) (hm 3), wB K.g (ho 4) (hs 4) (hr 4) (hm 4), wB K.g (ho 5) (hs 5) (hr 5) (hm 5), wB K.g (sb 0) (ss 0) (sr 0) (sn 0), wB K.g (sb 1) (ss 1) (sr 1) (sn 1), wM K.g y all2 kept hist kp slo sav beg2 prt2 frm tx len sp tol rd]) (fun _ => rfl) rfl rfl (Nat.le_of_ble_eq_true rfl) dL_law_489 492 rfl (fun u9 hu9 => ?_)
  obtain ⟨al2, bg2, pr2⟩ := u9
  have hB2 := hu9
  have hB2 : Bd al2 st r n := hB2
  show Z K 104 1616 [wX K.g x bd tr q p h sb sv, wB K.g bd st r n, wB K.g tr st r n, wP K.g q c0_1 c1_2 c2_3 c3_4 c4_5 c5_6 c6_7 c7_8 d0_18 d1_9 d2_10 d3_11 d4_12 d5_13 d6_14 d7_15 d8_16 d9_17, wPd K.g p fb tx len ex pl sh hu du, wB K.g fb fs fr fn, wH K.g h ho kp nx, wB K.g (ho 0) (hs 0) (hr 0) (hm 0), wB K.g (ho 1) (hs 1) (hr 1) (hm 1), wB K.g (ho 2) (hs 2) (hr 2) (hm 2), wB K.g (ho 3) (hs 3) (hr 3) (hm 3), wB K.g (ho 4) (hs 4) (hr 4) (hm 4), wB K.g (ho 5) (hs 5) (hr 5) (hm 5), wB K.g (sb 0) (ss 0) (sr 0) (sn 0), wB K.g (sb 1) (ss 1) (sr 1) (sn 1), wM K.g y al2 kept hist kp slo sav bg2 pr2 frm tx len sp tol rd] [(0, .ref b), (1, .ref (x 0)), (2, .ref (y 0)), (3, .int (nI i))] 492 [.int ((bfO st r n n).1), .int ((bfO st r n n).1)]
  refine z_icmpI_eq C 648 dL_law_492 (by decide) 495 rfl (fun c9 => ?_) (fun c9 => absurd rfl c9)
  refine z_iinc C hnL 3 rfl (v := nI (i + 5)) (nI_add _ 5) [1, 2, 3, 0] [(0, .ref b), (1, .ref (x 0)), (2, .ref (y 0)), (3, .int (nI (i + 5)))] rfl (Nat.le_of_ble_eq_true rfl) dL_law_648 651 rfl ?_
  refine z_goto C 18 dL_law_651 (by decide) ?_
  exact kk sv st r n st r n c0_1 c1_2 c2_3 c3_4 c4_5 c5_6 c6_7 c7_8 d0_18 d1_9 d2_10 d3_11 d4_12 d5_13 d6_14 d7_15 d8_16 d9_17 tx len ex pl sh hu du fs fr fn kp nx hs hr hm ss sr sn al2 kept hist slo sav bg2 pr2 frm sp tol rd ⟨hG, hB2, hH, hSl, hT⟩

set_option maxHeartbeats 4000000 in
set_option maxRecDepth 100000 in
theorem lb_leastRacks {K : zK} (C : Cx K room_1 RL cL_law wsL_law) (hnL : K.nL = 4) (b : Nat) (x bd tr q p fb h : Nat → Nat) (ho sb : Nat → Nat → Nat) (y : Nat → Nat) (L : Nat) (xs : Nat → Int32) (i : Nat) (hLH : LH K b L xs) (hiL : i + 5 ≤ L) (kk : LI K b x bd tr q p fb h ho sb y (i + 5)) (sv : Nat → Bool) (st : Nat → Nat) (r : Nat → Nat → Nat) (n : Nat) (ts : Nat → Nat) (tq : Nat → Nat → Nat) (tn : Nat) (a0 : Nat → Nat) (a1 : Nat → Nat) (a2 : Nat → Nat) (a3 : Nat → Nat) (a4 : Nat → Nat) (a5 : Nat → Nat) (a6 : Nat → Nat) (a7 : Nat → Nat) (s0 : Nat) (s1 : Nat) (s2 : Nat) (s3 : Nat) (s4 : Nat) (s5 : Nat) (s6 : Nat) (s7 : Nat) (s8 : Nat) (s9 : Nat) (tx : Nat → Nat) (len : Nat) (ex : Nat) (pl : Int32) (sh : Int32) (hu : Int32) (du : Int32) (fs : Nat → Nat) (fr : Nat → Nat → Nat) (fn : Nat) (kp : Nat) (nx : Nat) (hs : Nat → Nat → Nat) (hr : Nat → Nat → Nat → Nat) (hm : Nat → Nat) (ss : Nat → Nat → Nat) (sr : Nat → Nat → Nat → Nat) (sn : Nat → Nat) (all : Nat → Nat) (kept : Nat → Nat) (hist : Nat → Nat) (slo : Nat → Nat) (sav : Nat → Nat) (beg : Nat → Nat) (prt : Nat → Nat) (frm : Nat → Nat) (sp : Nat) (tol : Nat → Nat) (rd : Nat) (hI : IV sv st r n tx len kp nx hs hr hm ss sr sn all hist slo sav) : Z K 104 1616 [wX K.g x bd tr q p h sb sv, wB K.g bd st r n, wB K.g tr ts tq tn, wP K.g q a0 a1 a2 a3 a4 a5 a6 a7 s0 s1 s2 s3 s4 s5 s6 s7 s8 s9, wPd K.g p fb tx len ex pl sh hu du, wB K.g fb fs fr fn, wH K.g h ho kp nx, wB K.g (ho 0) (hs 0) (hr 0) (hm 0), wB K.g (ho 1) (hs 1) (hr 1) (hm 1), wB K.g (ho 2) (hs 2) (hr 2) (hm 2), wB K.g (ho 3) (hs 3) (hr 3) (hm 3), wB K.g (ho 4) (hs 4) (hr 4) (hm 4), wB K.g (ho 5) (hs 5) (hr 5) (hm 5), wB K.g (sb 0) (ss 0) (sr 0) (sn 0), wB K.g (sb 1) (ss 1) (sr 1) (sn 1), wM K.g y all kept hist kp slo sav beg prt frm tx len sp tol rd] [(0, .ref b), (1, .ref (x 0)), (2, .ref (y 0)), (3, .int (nI i))] 497 [] := by
  obtain ⟨hX, hbl, hbA, hL, heSet, heOrd⟩ := hLH
  obtain ⟨hG, hB, hH, hSl, hT⟩ := hI
  obtain ⟨hn, hS, hJ, hR⟩ := id hG
  have hk := hH.1
  have hx := hH.2.1
  have hl := hT.1
  have ht := hT.2
  refine z_aload_n C 1 rfl rfl dL_law_497 498 rfl ?_
  refine z_callVE (E := eSet) (fun _ _ _ e e2 h => eSet.same e e2 h) (fun _ _ _ hS9 hW9 hAB => eSet.later heSet hS9 hW9 hAB) C [] [] (tX4_leastRacks K.l K.g x bd tr q p h sb sv a0 a1 a2 a3 a4 a5 a6 a7 s0 s1 s2 s3 s4 s5 s6 s7 s8 s9 st r n (by first | omega | assumption) (by first | omega | assumption) (by first | omega | assumption)) gL_law_X4_leastRacks rfl rfl rfl hdX4_leastRacks ⟨Nat.le_of_ble_eq_true rfl, Nat.le_of_ble_eq_true rfl⟩ ⟨Nat.le_of_ble_eq_true rfl, Nat.le_of_ble_eq_true rfl⟩ 0 0 rfl rfl rfl [0, 3, 1] rfl rfl (zlc (N := 16) rfl rfl) [16, 18, 2, 17, 4, 5, 6, 7, 8, 9, 10, 11, 12, 13, 14, 15] rfl (by decide) (fun u : (Nat → Nat) × (Nat → Nat) × (Nat → Nat) × (Nat → Nat) × (Nat → Nat) × (Nat → Nat) × (Nat → Nat) × (Nat → Nat) × (Nat) × (Nat) × (Nat) × (Nat) × (Nat) × (Nat) × (Nat) × (Nat) × (Nat) × (Nat) => match u with | (c0, c1, c2, c3, c4, c5, c6, c7, d1, d2, d3, d4, d5, d6, d7, d8, d9, d0) => [wX K.g x bd tr q p h sb sv, wB K.g bd st r n, wB K.g tr ts tq tn, wP K.g q c0 c1 c2 c3 c4 c5 c6 c7 d0 d1 d2 d3 d4 d5 d6 d7 d8 d9, wPd K.g p fb tx len ex pl sh hu du, wB K.g fb fs fr fn, wH K.g h ho kp nx, wB K.g (ho 0) (hs 0) (hr 0) (hm 0), wB K.g (ho 1) (hs 1) (hr 1) (hm 1), wB K.g (ho 2) (hs 2) (hr 2) (hm 2), wB K.g (ho 3) (hs 3) (hr 3) (hm 3), wB K.g (ho 4) (hs 4) (hr 4) (hm 4), wB K.g (ho 5) (hs 5) (hr 5) (hm 5), wB K.g (sb 0) (ss 0) (sr 0) (sn 0), wB K.g (sb 1) (ss 1) (sr 1) (sn 1), wM K.g y all kept hist kp slo sav beg prt frm tx len sp tol rd]) (fun _ => rfl) rfl rfl (Nat.le_of_ble_eq_true rfl) dL_law_498 501 rfl (fun u9 hu9 => ?_)
  obtain ⟨c0_1, c1_2, c2_3, c3_4, c4_5, c5_6, c6_7, c7_8, d1_9, d2_10, d3_11, d4_12, d5_13, d6_14, d7_15, d8_16, d9_17, d0_18⟩ := u9
  show Z K 104 1616 [wX K.g x bd tr q p h sb sv, wB K.g bd st r n, wB K.g tr ts tq tn, wP K.g q c0_1 c1_2 c2_3 c3_4 c4_5 c5_6 c6_7 c7_8 d0_18 d1_9 d2_10 d3_11 d4_12 d5_13 d6_14 d7_15 d8_16 d9_17, wPd K.g p fb tx len ex pl sh hu du, wB K.g fb fs fr fn, wH K.g h ho kp nx, wB K.g (ho 0) (hs 0) (hr 0) (hm 0), wB K.g (ho 1) (hs 1) (hr 1) (hm 1), wB K.g (ho 2) (hs 2) (hr 2) (hm 2), wB K.g (ho 3) (hs 3) (hr 3) (hm 3), wB K.g (ho 4) (hs 4) (hr 4) (hm 4), wB K.g (ho 5) (hs 5) (hr 5) (hm 5), wB K.g (sb 0) (ss 0) (sr 0) (sn 0), wB K.g (sb 1) (ss 1) (sr 1) (sn 1), wM K.g y all kept hist kp slo sav beg prt frm tx len sp tol rd] [(0, .ref b), (1, .ref (x 0)), (2, .ref (y 0)), (3, .int (nI i))] 501 [.int (lrF st r n 4 17)]
  refine z_aload_n C 2 rfl rfl dL_law_501 502 rfl ?_
  refine z_callV C [] [.int (lrF st r n 4 17)] (tX5_leastRacks K.l K.g y all kept hist kp slo sav beg prt frm tx len sp tol rd st r n (by first | omega | assumption) (by first | omega | assumption) (by first | omega | assumption) (by first | omega | assumption)) gL_law_X5_leastRacks rfl rfl rfl hdX5_leastRacks ⟨Nat.le_of_ble_eq_true rfl, Nat.le_of_ble_eq_true rfl⟩ ⟨Nat.le_of_ble_eq_true rfl, Nat.le_of_ble_eq_true rfl⟩ 15 0 rfl rfl rfl [15] rfl rfl (zlc (N := 16) rfl rfl) [0, 1, 2, 3, 4, 5, 6, 7, 8, 9, 10, 11, 12, 13, 14, 16] rfl (by decide) (fun u : (Nat → Nat) × (Nat → Nat) × (Nat → Nat) => match u with | (all2, beg2, prt2) => [wX K.g x bd tr q p h sb sv, wB K.g bd st r n, wB K.g tr ts tq tn, wP K.g q c0_1 c1_2 c2_3 c3_4 c4_5 c5_6 c6_7 c7_8 d0_18 d1_9 d2_10 d3_11 d4_12 d5_13 d6_14 d7_15 d8_16 d9_17, wPd K.g p fb tx len ex pl sh hu du, wB K.g fb fs fr fn, wH K.g h ho kp nx, wB K.g (ho 0) (hs 0) (hr 0) (hm 0), wB K.g (ho 1) (hs 1) (hr 1) (hm 1), wB K.g (ho 2) (hs 2) (hr 2) (hm 2), wB K.g (ho 3) (hs 3) (hr 3) (hm 3), wB K.g (ho 4) (hs 4) (hr 4) (hm 4), wB K.g (ho 5) (hs 5) (hr 5) (hm 5), wB K.g (sb 0) (ss 0) (sr 0) (sn 0), wB K.g (sb 1) (ss 1) (sr 1) (sn 1), wM K.g y all2 kept hist kp slo sav beg2 prt2 frm tx len sp tol rd]) (fun _ => rfl) rfl rfl (Nat.le_of_ble_eq_true rfl) dL_law_502 505 rfl (fun u9 hu9 => ?_)
  obtain ⟨al2, bg2, pr2⟩ := u9
  have hB2 := hu9
  have hB2 : Bd al2 st r n := hB2
  show Z K 104 1616 [wX K.g x bd tr q p h sb sv, wB K.g bd st r n, wB K.g tr ts tq tn, wP K.g q c0_1 c1_2 c2_3 c3_4 c4_5 c5_6 c6_7 c7_8 d0_18 d1_9 d2_10 d3_11 d4_12 d5_13 d6_14 d7_15 d8_16 d9_17, wPd K.g p fb tx len ex pl sh hu du, wB K.g fb fs fr fn, wH K.g h ho kp nx, wB K.g (ho 0) (hs 0) (hr 0) (hm 0), wB K.g (ho 1) (hs 1) (hr 1) (hm 1), wB K.g (ho 2) (hs 2) (hr 2) (hm 2), wB K.g (ho 3) (hs 3) (hr 3) (hm 3), wB K.g (ho 4) (hs 4) (hr 4) (hm 4), wB K.g (ho 5) (hs 5) (hr 5) (hm 5), wB K.g (sb 0) (ss 0) (sr 0) (sn 0), wB K.g (sb 1) (ss 1) (sr 1) (sn 1), wM K.g y al2 kept hist kp slo sav bg2 pr2 frm tx len sp tol rd] [(0, .ref b), (1, .ref (x 0)), (2, .ref (y 0)), (3, .int (nI i))] 505 [.int (lrF st r n 4 17), .int (lrF st r n 4 17)]
  refine z_icmpI_eq C 648 dL_law_505 (by decide) 508 rfl (fun c9 => ?_) (fun c9 => absurd rfl c9)
  refine z_iinc C hnL 3 rfl (v := nI (i + 5)) (nI_add _ 5) [1, 2, 3, 0] [(0, .ref b), (1, .ref (x 0)), (2, .ref (y 0)), (3, .int (nI (i + 5)))] rfl (Nat.le_of_ble_eq_true rfl) dL_law_648 651 rfl ?_
  refine z_goto C 18 dL_law_651 (by decide) ?_
  exact kk sv st r n ts tq tn c0_1 c1_2 c2_3 c3_4 c4_5 c5_6 c6_7 c7_8 d0_18 d1_9 d2_10 d3_11 d4_12 d5_13 d6_14 d7_15 d8_16 d9_17 tx len ex pl sh hu du fs fr fn kp nx hs hr hm ss sr sn al2 kept hist slo sav bg2 pr2 frm sp tol rd ⟨hG, hB2, hH, hSl, hT⟩

set_option maxHeartbeats 4000000 in
set_option maxRecDepth 100000 in
theorem lb_undo {K : zK} (C : Cx K room_1 RL cL_law wsL_law) (hnL : K.nL = 4) (b : Nat) (x bd tr q p fb h : Nat → Nat) (ho sb : Nat → Nat → Nat) (y : Nat → Nat) (L : Nat) (xs : Nat → Int32) (i : Nat) (hLH : LH K b L xs) (hiL : i + 5 ≤ L) (kk : LI K b x bd tr q p fb h ho sb y (i + 5)) (sv : Nat → Bool) (st : Nat → Nat) (r : Nat → Nat → Nat) (n : Nat) (ts : Nat → Nat) (tq : Nat → Nat → Nat) (tn : Nat) (a0 : Nat → Nat) (a1 : Nat → Nat) (a2 : Nat → Nat) (a3 : Nat → Nat) (a4 : Nat → Nat) (a5 : Nat → Nat) (a6 : Nat → Nat) (a7 : Nat → Nat) (s0 : Nat) (s1 : Nat) (s2 : Nat) (s3 : Nat) (s4 : Nat) (s5 : Nat) (s6 : Nat) (s7 : Nat) (s8 : Nat) (s9 : Nat) (tx : Nat → Nat) (len : Nat) (ex : Nat) (pl : Int32) (sh : Int32) (hu : Int32) (du : Int32) (fs : Nat → Nat) (fr : Nat → Nat → Nat) (fn : Nat) (kp : Nat) (nx : Nat) (hs : Nat → Nat → Nat) (hr : Nat → Nat → Nat → Nat) (hm : Nat → Nat) (ss : Nat → Nat → Nat) (sr : Nat → Nat → Nat → Nat) (sn : Nat → Nat) (all : Nat → Nat) (kept : Nat → Nat) (hist : Nat → Nat) (slo : Nat → Nat) (sav : Nat → Nat) (beg : Nat → Nat) (prt : Nat → Nat) (frm : Nat → Nat) (sp : Nat) (tol : Nat → Nat) (rd : Nat) (hI : IV sv st r n tx len kp nx hs hr hm ss sr sn all hist slo sav) : Z K 104 1616 [wX K.g x bd tr q p h sb sv, wB K.g bd st r n, wB K.g tr ts tq tn, wP K.g q a0 a1 a2 a3 a4 a5 a6 a7 s0 s1 s2 s3 s4 s5 s6 s7 s8 s9, wPd K.g p fb tx len ex pl sh hu du, wB K.g fb fs fr fn, wH K.g h ho kp nx, wB K.g (ho 0) (hs 0) (hr 0) (hm 0), wB K.g (ho 1) (hs 1) (hr 1) (hm 1), wB K.g (ho 2) (hs 2) (hr 2) (hm 2), wB K.g (ho 3) (hs 3) (hr 3) (hm 3), wB K.g (ho 4) (hs 4) (hr 4) (hm 4), wB K.g (ho 5) (hs 5) (hr 5) (hm 5), wB K.g (sb 0) (ss 0) (sr 0) (sn 0), wB K.g (sb 1) (ss 1) (sr 1) (sn 1), wM K.g y all kept hist kp slo sav beg prt frm tx len sp tol rd] [(0, .ref b), (1, .ref (x 0)), (2, .ref (y 0)), (3, .int (nI i))] 589 [] := by
  obtain ⟨hX, hbl, hbA, hL, heSet, heOrd⟩ := hLH
  obtain ⟨hG, hB, hH, hSl, hT⟩ := hI
  obtain ⟨hn, hS, hJ, hR⟩ := id hG
  have hk := hH.1
  have hx := hH.2.1
  have hl := hT.1
  have ht := hT.2
  by_cases hq1 : 0 < kp
  rotate_left
  · skip
    refine z_aload_n C 1 rfl rfl dL_law_589 590 rfl ?_
    refine z_callV C [] [] (tX4_undo_np K.l K.g x bd tr q p h sb sv ho kp nx (by first | omega | assumption)) gL_law_X4_undo rfl rfl rfl hdX4_undo ⟨Nat.le_of_ble_eq_true rfl, Nat.le_of_ble_eq_true rfl⟩ ⟨Nat.le_of_ble_eq_true rfl, Nat.le_of_ble_eq_true rfl⟩ 0 0 rfl rfl rfl [0, 6] rfl rfl (zlc (N := 16) rfl rfl) [16, 1, 2, 3, 4, 5, 17, 7, 8, 9, 10, 11, 12, 13, 14, 15] rfl (by decide) (fun _ : Unit => [wX K.g x bd tr q p h sb sv, wB K.g bd st r n, wB K.g tr ts tq tn, wP K.g q a0 a1 a2 a3 a4 a5 a6 a7 s0 s1 s2 s3 s4 s5 s6 s7 s8 s9, wPd K.g p fb tx len ex pl sh hu du, wB K.g fb fs fr fn, wH K.g h ho kp nx, wB K.g (ho 0) (hs 0) (hr 0) (hm 0), wB K.g (ho 1) (hs 1) (hr 1) (hm 1), wB K.g (ho 2) (hs 2) (hr 2) (hm 2), wB K.g (ho 3) (hs 3) (hr 3) (hm 3), wB K.g (ho 4) (hs 4) (hr 4) (hm 4), wB K.g (ho 5) (hs 5) (hr 5) (hm 5), wB K.g (sb 0) (ss 0) (sr 0) (sn 0), wB K.g (sb 1) (ss 1) (sr 1) (sn 1), wM K.g y all kept hist kp slo sav beg prt frm tx len sp tol rd]) (fun _ => rfl) rfl rfl (Nat.le_of_ble_eq_true rfl) dL_law_590 593 rfl (fun u9 hu9 => ?_)
    show Z K 104 1616 [wX K.g x bd tr q p h sb sv, wB K.g bd st r n, wB K.g tr ts tq tn, wP K.g q a0 a1 a2 a3 a4 a5 a6 a7 s0 s1 s2 s3 s4 s5 s6 s7 s8 s9, wPd K.g p fb tx len ex pl sh hu du, wB K.g fb fs fr fn, wH K.g h ho kp nx, wB K.g (ho 0) (hs 0) (hr 0) (hm 0), wB K.g (ho 1) (hs 1) (hr 1) (hm 1), wB K.g (ho 2) (hs 2) (hr 2) (hm 2), wB K.g (ho 3) (hs 3) (hr 3) (hm 3), wB K.g (ho 4) (hs 4) (hr 4) (hm 4), wB K.g (ho 5) (hs 5) (hr 5) (hm 5), wB K.g (sb 0) (ss 0) (sr 0) (sn 0), wB K.g (sb 1) (ss 1) (sr 1) (sn 1), wM K.g y all kept hist kp slo sav beg prt frm tx len sp tol rd] [(0, .ref b), (1, .ref (x 0)), (2, .ref (y 0)), (3, .int (nI i))] 593 [.int (-5)]
    refine z_aload_n C 2 rfl rfl dL_law_593 594 rfl ?_
    refine z_callV C [] [.int (-5)] (tX5_undo_np K.l K.g y all kept hist kp slo sav beg prt frm tx len sp tol rd (by first | omega | assumption)) gL_law_X5_undo rfl rfl rfl hdX5_undo ⟨Nat.le_of_ble_eq_true rfl, Nat.le_of_ble_eq_true rfl⟩ ⟨Nat.le_of_ble_eq_true rfl, Nat.le_of_ble_eq_true rfl⟩ 15 0 rfl rfl rfl [15] rfl rfl (zlc (N := 16) rfl rfl) [0, 1, 2, 3, 4, 5, 6, 7, 8, 9, 10, 11, 12, 13, 14, 16] rfl (by decide) (fun _ : Unit => [wX K.g x bd tr q p h sb sv, wB K.g bd st r n, wB K.g tr ts tq tn, wP K.g q a0 a1 a2 a3 a4 a5 a6 a7 s0 s1 s2 s3 s4 s5 s6 s7 s8 s9, wPd K.g p fb tx len ex pl sh hu du, wB K.g fb fs fr fn, wH K.g h ho kp nx, wB K.g (ho 0) (hs 0) (hr 0) (hm 0), wB K.g (ho 1) (hs 1) (hr 1) (hm 1), wB K.g (ho 2) (hs 2) (hr 2) (hm 2), wB K.g (ho 3) (hs 3) (hr 3) (hm 3), wB K.g (ho 4) (hs 4) (hr 4) (hm 4), wB K.g (ho 5) (hs 5) (hr 5) (hm 5), wB K.g (sb 0) (ss 0) (sr 0) (sn 0), wB K.g (sb 1) (ss 1) (sr 1) (sn 1), wM K.g y all kept hist kp slo sav beg prt frm tx len sp tol rd]) (fun _ => rfl) rfl rfl (Nat.le_of_ble_eq_true rfl) dL_law_594 597 rfl (fun u9 hu9 => ?_)
    show Z K 104 1616 [wX K.g x bd tr q p h sb sv, wB K.g bd st r n, wB K.g tr ts tq tn, wP K.g q a0 a1 a2 a3 a4 a5 a6 a7 s0 s1 s2 s3 s4 s5 s6 s7 s8 s9, wPd K.g p fb tx len ex pl sh hu du, wB K.g fb fs fr fn, wH K.g h ho kp nx, wB K.g (ho 0) (hs 0) (hr 0) (hm 0), wB K.g (ho 1) (hs 1) (hr 1) (hm 1), wB K.g (ho 2) (hs 2) (hr 2) (hm 2), wB K.g (ho 3) (hs 3) (hr 3) (hm 3), wB K.g (ho 4) (hs 4) (hr 4) (hm 4), wB K.g (ho 5) (hs 5) (hr 5) (hm 5), wB K.g (sb 0) (ss 0) (sr 0) (sn 0), wB K.g (sb 1) (ss 1) (sr 1) (sn 1), wM K.g y all kept hist kp slo sav beg prt frm tx len sp tol rd] [(0, .ref b), (1, .ref (x 0)), (2, .ref (y 0)), (3, .int (nI i))] 597 [.int (-5), .int (-5)]
    refine z_icmpI_eq C 648 dL_law_597 (by decide) 600 rfl (fun c9 => ?_) (fun c9 => absurd rfl c9)
    refine z_iinc C hnL 3 rfl (v := nI (i + 5)) (nI_add _ 5) [1, 2, 3, 0] [(0, .ref b), (1, .ref (x 0)), (2, .ref (y 0)), (3, .int (nI (i + 5)))] rfl (Nat.le_of_ble_eq_true rfl) dL_law_648 651 rfl ?_
    refine z_goto C 18 dL_law_651 (by decide) ?_
    exact kk sv st r n ts tq tn a0 a1 a2 a3 a4 a5 a6 a7 s0 s1 s2 s3 s4 s5 s6 s7 s8 s9 tx len ex pl sh hu du fs fr fn kp nx hs hr hm ss sr sn all kept hist slo sav beg prt frm sp tol rd ⟨hG, hB, hH, hSl, hT⟩
  refine z_aload_n C 1 rfl rfl dL_law_589 590 rfl ?_
  refine z_callV C [] [] (tX4_undo_ok K.l K.g x bd tr q p h sb sv st r n ho hs hr hm kp nx (by first | omega | assumption) (by first | omega | assumption) (by first | omega | assumption)) gL_law_X4_undo rfl rfl rfl hdX4_undo ⟨Nat.le_of_ble_eq_true rfl, Nat.le_of_ble_eq_true rfl⟩ ⟨Nat.le_of_ble_eq_true rfl, Nat.le_of_ble_eq_true rfl⟩ 0 0 rfl rfl rfl [0, 1, 6, 7, 8, 9, 10, 11, 12] rfl rfl (zlc (N := 16) rfl rfl) [16, 17, 2, 3, 4, 5, 18, 19, 20, 21, 22, 23, 24, 13, 14, 15] rfl (by decide) (fun _ : Unit => [wX K.g x bd tr q p h sb sv, wB K.g bd (hs (bkx nx)) (hr (bkx nx)) (hm (bkx nx)), wB K.g tr ts tq tn, wP K.g q a0 a1 a2 a3 a4 a5 a6 a7 s0 s1 s2 s3 s4 s5 s6 s7 s8 s9, wPd K.g p fb tx len ex pl sh hu du, wB K.g fb fs fr fn, wH K.g h ho (kp - 1) (bkx nx), wB K.g (ho 0) (hs 0) (hr 0) (hm 0), wB K.g (ho 1) (hs 1) (hr 1) (hm 1), wB K.g (ho 2) (hs 2) (hr 2) (hm 2), wB K.g (ho 3) (hs 3) (hr 3) (hm 3), wB K.g (ho 4) (hs 4) (hr 4) (hm 4), wB K.g (ho 5) (hs 5) (hr 5) (hm 5), wB K.g (sb 0) (ss 0) (sr 0) (sn 0), wB K.g (sb 1) (ss 1) (sr 1) (sn 1), wM K.g y all kept hist kp slo sav beg prt frm tx len sp tol rd]) (fun _ => rfl) rfl rfl (Nat.le_of_ble_eq_true rfl) dL_law_590 593 rfl (fun u9 hu9 => ?_)
  show Z K 104 1616 [wX K.g x bd tr q p h sb sv, wB K.g bd (hs (bkx nx)) (hr (bkx nx)) (hm (bkx nx)), wB K.g tr ts tq tn, wP K.g q a0 a1 a2 a3 a4 a5 a6 a7 s0 s1 s2 s3 s4 s5 s6 s7 s8 s9, wPd K.g p fb tx len ex pl sh hu du, wB K.g fb fs fr fn, wH K.g h ho (kp - 1) (bkx nx), wB K.g (ho 0) (hs 0) (hr 0) (hm 0), wB K.g (ho 1) (hs 1) (hr 1) (hm 1), wB K.g (ho 2) (hs 2) (hr 2) (hm 2), wB K.g (ho 3) (hs 3) (hr 3) (hm 3), wB K.g (ho 4) (hs 4) (hr 4) (hm 4), wB K.g (ho 5) (hs 5) (hr 5) (hm 5), wB K.g (sb 0) (ss 0) (sr 0) (sn 0), wB K.g (sb 1) (ss 1) (sr 1) (sn 1), wM K.g y all kept hist kp slo sav beg prt frm tx len sp tol rd] [(0, .ref b), (1, .ref (x 0)), (2, .ref (y 0)), (3, .int (nI i))] 593 [.int (nI (kp - 1))]
  refine z_aload_n C 2 rfl rfl dL_law_593 594 rfl ?_
  refine z_callV C [] [.int (nI (kp - 1))] (tX5_undo_ok K.l K.g y all kept hist kp slo sav beg prt frm tx len sp tol rd (hs (bkx nx)) (hr (bkx nx)) (hm (bkx nx)) (by first | omega | assumption) (by first | omega | assumption) (IH_pop hH (by omega)).1.2 (IH_pop hH (by omega)).1.1.1) gL_law_X5_undo rfl rfl rfl hdX5_undo ⟨Nat.le_of_ble_eq_true rfl, Nat.le_of_ble_eq_true rfl⟩ ⟨Nat.le_of_ble_eq_true rfl, Nat.le_of_ble_eq_true rfl⟩ 15 0 rfl rfl rfl [15] rfl rfl (zlc (N := 16) rfl rfl) [0, 1, 2, 3, 4, 5, 6, 7, 8, 9, 10, 11, 12, 13, 14, 16] rfl (by decide) (fun all2 : Nat → Nat => [wX K.g x bd tr q p h sb sv, wB K.g bd (hs (bkx nx)) (hr (bkx nx)) (hm (bkx nx)), wB K.g tr ts tq tn, wP K.g q a0 a1 a2 a3 a4 a5 a6 a7 s0 s1 s2 s3 s4 s5 s6 s7 s8 s9, wPd K.g p fb tx len ex pl sh hu du, wB K.g fb fs fr fn, wH K.g h ho (kp - 1) (bkx nx), wB K.g (ho 0) (hs 0) (hr 0) (hm 0), wB K.g (ho 1) (hs 1) (hr 1) (hm 1), wB K.g (ho 2) (hs 2) (hr 2) (hm 2), wB K.g (ho 3) (hs 3) (hr 3) (hm 3), wB K.g (ho 4) (hs 4) (hr 4) (hm 4), wB K.g (ho 5) (hs 5) (hr 5) (hm 5), wB K.g (sb 0) (ss 0) (sr 0) (sn 0), wB K.g (sb 1) (ss 1) (sr 1) (sn 1), wM K.g y all2 kept hist (kp - 1) slo sav beg prt frm tx len sp tol rd]) (fun _ => rfl) rfl rfl (Nat.le_of_ble_eq_true rfl) dL_law_594 597 rfl (fun u9 hu9 => ?_)
  obtain ⟨al2, rfl⟩ : ∃ z, z = u9 := ⟨_, rfl⟩
  have hB2 := hu9
  have hB2 : Bd al2 (hs (bkx nx)) (hr (bkx nx)) (hm (bkx nx)) := hB2
  show Z K 104 1616 [wX K.g x bd tr q p h sb sv, wB K.g bd (hs (bkx nx)) (hr (bkx nx)) (hm (bkx nx)), wB K.g tr ts tq tn, wP K.g q a0 a1 a2 a3 a4 a5 a6 a7 s0 s1 s2 s3 s4 s5 s6 s7 s8 s9, wPd K.g p fb tx len ex pl sh hu du, wB K.g fb fs fr fn, wH K.g h ho (kp - 1) (bkx nx), wB K.g (ho 0) (hs 0) (hr 0) (hm 0), wB K.g (ho 1) (hs 1) (hr 1) (hm 1), wB K.g (ho 2) (hs 2) (hr 2) (hm 2), wB K.g (ho 3) (hs 3) (hr 3) (hm 3), wB K.g (ho 4) (hs 4) (hr 4) (hm 4), wB K.g (ho 5) (hs 5) (hr 5) (hm 5), wB K.g (sb 0) (ss 0) (sr 0) (sn 0), wB K.g (sb 1) (ss 1) (sr 1) (sn 1), wM K.g y al2 kept hist (kp - 1) slo sav beg prt frm tx len sp tol rd] [(0, .ref b), (1, .ref (x 0)), (2, .ref (y 0)), (3, .int (nI i))] 597 [.int (nI (kp - 1)), .int (nI (kp - 1))]
  refine z_icmpI_eq C 648 dL_law_597 (by decide) 600 rfl (fun c9 => ?_) (fun c9 => absurd rfl c9)
  refine z_iinc C hnL 3 rfl (v := nI (i + 5)) (nI_add _ 5) [1, 2, 3, 0] [(0, .ref b), (1, .ref (x 0)), (2, .ref (y 0)), (3, .int (nI (i + 5)))] rfl (Nat.le_of_ble_eq_true rfl) dL_law_648 651 rfl ?_
  refine z_goto C 18 dL_law_651 (by decide) ?_
  exact kk sv (hs (bkx nx)) (hr (bkx nx)) (hm (bkx nx)) ts tq tn a0 a1 a2 a3 a4 a5 a6 a7 s0 s1 s2 s3 s4 s5 s6 s7 s8 s9 tx len ex pl sh hu du fs fr fn (kp - 1) (bkx nx) hs hr hm ss sr sn al2 kept hist slo sav beg prt frm sp tol rd ⟨(IH_pop hH (by omega)).1.1, hB2, (IH_pop hH (by omega)).2, hSl, hT⟩

set_option maxHeartbeats 4000000 in
set_option maxRecDepth 100000 in
theorem lb_save {K : zK} (C : Cx K room_1 RL cL_law wsL_law) (hnL : K.nL = 4) (b : Nat) (x bd tr q p fb h : Nat → Nat) (ho sb : Nat → Nat → Nat) (y : Nat → Nat) (L : Nat) (xs : Nat → Int32) (i : Nat) (hLH : LH K b L xs) (hiL : i + 5 ≤ L) (kk : LI K b x bd tr q p fb h ho sb y (i + 5)) (sv : Nat → Bool) (st : Nat → Nat) (r : Nat → Nat → Nat) (n : Nat) (ts : Nat → Nat) (tq : Nat → Nat → Nat) (tn : Nat) (a0 : Nat → Nat) (a1 : Nat → Nat) (a2 : Nat → Nat) (a3 : Nat → Nat) (a4 : Nat → Nat) (a5 : Nat → Nat) (a6 : Nat → Nat) (a7 : Nat → Nat) (s0 : Nat) (s1 : Nat) (s2 : Nat) (s3 : Nat) (s4 : Nat) (s5 : Nat) (s6 : Nat) (s7 : Nat) (s8 : Nat) (s9 : Nat) (tx : Nat → Nat) (len : Nat) (ex : Nat) (pl : Int32) (sh : Int32) (hu : Int32) (du : Int32) (fs : Nat → Nat) (fr : Nat → Nat → Nat) (fn : Nat) (kp : Nat) (nx : Nat) (hs : Nat → Nat → Nat) (hr : Nat → Nat → Nat → Nat) (hm : Nat → Nat) (ss : Nat → Nat → Nat) (sr : Nat → Nat → Nat → Nat) (sn : Nat → Nat) (all : Nat → Nat) (kept : Nat → Nat) (hist : Nat → Nat) (slo : Nat → Nat) (sav : Nat → Nat) (beg : Nat → Nat) (prt : Nat → Nat) (frm : Nat → Nat) (sp : Nat) (tol : Nat → Nat) (rd : Nat) (hI : IV sv st r n tx len kp nx hs hr hm ss sr sn all hist slo sav) : Z K 104 1616 [wX K.g x bd tr q p h sb sv, wB K.g bd st r n, wB K.g tr ts tq tn, wP K.g q a0 a1 a2 a3 a4 a5 a6 a7 s0 s1 s2 s3 s4 s5 s6 s7 s8 s9, wPd K.g p fb tx len ex pl sh hu du, wB K.g fb fs fr fn, wH K.g h ho kp nx, wB K.g (ho 0) (hs 0) (hr 0) (hm 0), wB K.g (ho 1) (hs 1) (hr 1) (hm 1), wB K.g (ho 2) (hs 2) (hr 2) (hm 2), wB K.g (ho 3) (hs 3) (hr 3) (hm 3), wB K.g (ho 4) (hs 4) (hr 4) (hm 4), wB K.g (ho 5) (hs 5) (hr 5) (hm 5), wB K.g (sb 0) (ss 0) (sr 0) (sn 0), wB K.g (sb 1) (ss 1) (sr 1) (sn 1), wM K.g y all kept hist kp slo sav beg prt frm tx len sp tol rd] [(0, .ref b), (1, .ref (x 0)), (2, .ref (y 0)), (3, .int (nI i))] 602 [] := by
  obtain ⟨hX, hbl, hbA, hL, heSet, heOrd⟩ := hLH
  obtain ⟨hG, hB, hH, hSl, hT⟩ := hI
  obtain ⟨hn, hS, hJ, hR⟩ := id hG
  have hk := hH.1
  have hx := hH.2.1
  have hl := hT.1
  have ht := hT.2
  by_cases hb1 : rg (xs (i + 1)).toInt (Int.ofNat 0) (Int.ofNat 1) = true
  rotate_left
  · skip
    have hb1 : rg (xs (i + 1)).toInt (Int.ofNat 0) (Int.ofNat 1) = false := eq_false_of_ne_true hb1
    refine z_aload_n C 1 rfl rfl dL_law_602 603 rfl ?_
    refine z_aload_n C 0 rfl rfl dL_law_603 604 rfl ?_
    refine z_iload_n C 3 rfl rfl dL_law_604 605 rfl ?_
    refine z_iconst C (v := nI 1) rfl dL_law_605 606 rfl ?_
    refine z_iadd C dL_law_606 607 rfl ?_
    refine z_xld C hX hbl hbA (by omega) (by omega) dL_law_607 608 rfl ?_
    refine z_callV C [.int (xs (i + 1))] [] (tX4_save_bv K.l K.g x bd tr q p h sb sv (xs (i + 1)) hb1) gL_law_X4_save rfl rfl rfl hdX4_save ⟨Nat.le_of_ble_eq_true rfl, Nat.le_of_ble_eq_true rfl⟩ ⟨Nat.le_of_ble_eq_true rfl, Nat.le_of_ble_eq_true rfl⟩ 0 0 rfl rfl rfl [0] rfl rfl (zlc (N := 16) rfl rfl) [16, 1, 2, 3, 4, 5, 6, 7, 8, 9, 10, 11, 12, 13, 14, 15] rfl (by decide) (fun _ : Unit => [wX K.g x bd tr q p h sb sv, wB K.g bd st r n, wB K.g tr ts tq tn, wP K.g q a0 a1 a2 a3 a4 a5 a6 a7 s0 s1 s2 s3 s4 s5 s6 s7 s8 s9, wPd K.g p fb tx len ex pl sh hu du, wB K.g fb fs fr fn, wH K.g h ho kp nx, wB K.g (ho 0) (hs 0) (hr 0) (hm 0), wB K.g (ho 1) (hs 1) (hr 1) (hm 1), wB K.g (ho 2) (hs 2) (hr 2) (hm 2), wB K.g (ho 3) (hs 3) (hr 3) (hm 3), wB K.g (ho 4) (hs 4) (hr 4) (hm 4), wB K.g (ho 5) (hs 5) (hr 5) (hm 5), wB K.g (sb 0) (ss 0) (sr 0) (sn 0), wB K.g (sb 1) (ss 1) (sr 1) (sn 1), wM K.g y all kept hist kp slo sav beg prt frm tx len sp tol rd]) (fun _ => rfl) rfl rfl (Nat.le_of_ble_eq_true rfl) dL_law_608 611 rfl (fun u9 hu9 => ?_)
    show Z K 104 1616 [wX K.g x bd tr q p h sb sv, wB K.g bd st r n, wB K.g tr ts tq tn, wP K.g q a0 a1 a2 a3 a4 a5 a6 a7 s0 s1 s2 s3 s4 s5 s6 s7 s8 s9, wPd K.g p fb tx len ex pl sh hu du, wB K.g fb fs fr fn, wH K.g h ho kp nx, wB K.g (ho 0) (hs 0) (hr 0) (hm 0), wB K.g (ho 1) (hs 1) (hr 1) (hm 1), wB K.g (ho 2) (hs 2) (hr 2) (hm 2), wB K.g (ho 3) (hs 3) (hr 3) (hm 3), wB K.g (ho 4) (hs 4) (hr 4) (hm 4), wB K.g (ho 5) (hs 5) (hr 5) (hm 5), wB K.g (sb 0) (ss 0) (sr 0) (sn 0), wB K.g (sb 1) (ss 1) (sr 1) (sn 1), wM K.g y all kept hist kp slo sav beg prt frm tx len sp tol rd] [(0, .ref b), (1, .ref (x 0)), (2, .ref (y 0)), (3, .int (nI i))] 611 [.int (-2)]
    refine z_aload_n C 2 rfl rfl dL_law_611 612 rfl ?_
    refine z_aload_n C 0 rfl rfl dL_law_612 613 rfl ?_
    refine z_iload_n C 3 rfl rfl dL_law_613 614 rfl ?_
    refine z_iconst C (v := nI 1) rfl dL_law_614 615 rfl ?_
    refine z_iadd C dL_law_615 616 rfl ?_
    refine z_xld C hX hbl hbA (by omega) (by omega) dL_law_616 617 rfl ?_
    refine z_callV C [.int (xs (i + 1))] [.int (-2)] (tX5_save_bv K.l K.g y all kept hist kp slo sav beg prt frm tx len sp tol rd (xs (i + 1)) hb1) gL_law_X5_save rfl rfl rfl hdX5_save ⟨Nat.le_of_ble_eq_true rfl, Nat.le_of_ble_eq_true rfl⟩ ⟨Nat.le_of_ble_eq_true rfl, Nat.le_of_ble_eq_true rfl⟩ 15 0 rfl rfl rfl [15] rfl rfl (zlc (N := 16) rfl rfl) [0, 1, 2, 3, 4, 5, 6, 7, 8, 9, 10, 11, 12, 13, 14, 16] rfl (by decide) (fun _ : Unit => [wX K.g x bd tr q p h sb sv, wB K.g bd st r n, wB K.g tr ts tq tn, wP K.g q a0 a1 a2 a3 a4 a5 a6 a7 s0 s1 s2 s3 s4 s5 s6 s7 s8 s9, wPd K.g p fb tx len ex pl sh hu du, wB K.g fb fs fr fn, wH K.g h ho kp nx, wB K.g (ho 0) (hs 0) (hr 0) (hm 0), wB K.g (ho 1) (hs 1) (hr 1) (hm 1), wB K.g (ho 2) (hs 2) (hr 2) (hm 2), wB K.g (ho 3) (hs 3) (hr 3) (hm 3), wB K.g (ho 4) (hs 4) (hr 4) (hm 4), wB K.g (ho 5) (hs 5) (hr 5) (hm 5), wB K.g (sb 0) (ss 0) (sr 0) (sn 0), wB K.g (sb 1) (ss 1) (sr 1) (sn 1), wM K.g y all kept hist kp slo sav beg prt frm tx len sp tol rd]) (fun _ => rfl) rfl rfl (Nat.le_of_ble_eq_true rfl) dL_law_617 620 rfl (fun u9 hu9 => ?_)
    show Z K 104 1616 [wX K.g x bd tr q p h sb sv, wB K.g bd st r n, wB K.g tr ts tq tn, wP K.g q a0 a1 a2 a3 a4 a5 a6 a7 s0 s1 s2 s3 s4 s5 s6 s7 s8 s9, wPd K.g p fb tx len ex pl sh hu du, wB K.g fb fs fr fn, wH K.g h ho kp nx, wB K.g (ho 0) (hs 0) (hr 0) (hm 0), wB K.g (ho 1) (hs 1) (hr 1) (hm 1), wB K.g (ho 2) (hs 2) (hr 2) (hm 2), wB K.g (ho 3) (hs 3) (hr 3) (hm 3), wB K.g (ho 4) (hs 4) (hr 4) (hm 4), wB K.g (ho 5) (hs 5) (hr 5) (hm 5), wB K.g (sb 0) (ss 0) (sr 0) (sn 0), wB K.g (sb 1) (ss 1) (sr 1) (sn 1), wM K.g y all kept hist kp slo sav beg prt frm tx len sp tol rd] [(0, .ref b), (1, .ref (x 0)), (2, .ref (y 0)), (3, .int (nI i))] 620 [.int (-2), .int (-2)]
    refine z_icmpI_eq C 648 dL_law_620 (by decide) 623 rfl (fun c9 => ?_) (fun c9 => absurd rfl c9)
    refine z_iinc C hnL 3 rfl (v := nI (i + 5)) (nI_add _ 5) [1, 2, 3, 0] [(0, .ref b), (1, .ref (x 0)), (2, .ref (y 0)), (3, .int (nI (i + 5)))] rfl (Nat.le_of_ble_eq_true rfl) dL_law_648 651 rfl ?_
    refine z_goto C 18 dL_law_651 (by decide) ?_
    exact kk sv st r n ts tq tn a0 a1 a2 a3 a4 a5 a6 a7 s0 s1 s2 s3 s4 s5 s6 s7 s8 s9 tx len ex pl sh hu du fs fr fn kp nx hs hr hm ss sr sn all kept hist slo sav beg prt frm sp tol rd ⟨hG, hB, hH, hSl, hT⟩
  obtain ⟨k, hlo1, hhi1, ea1⟩ := rg_nI (lo := 0) (hi := 1) hb1
  refine z_aload_n C 1 rfl rfl dL_law_602 603 rfl ?_
  refine z_aload_n C 0 rfl rfl dL_law_603 604 rfl ?_
  refine z_iload_n C 3 rfl rfl dL_law_604 605 rfl ?_
  refine z_iconst C (v := nI 1) rfl dL_law_605 606 rfl ?_
  refine z_iadd C dL_law_606 607 rfl ?_
  refine z_xld C hX hbl hbA (by omega) (by omega) dL_law_607 608 rfl ?_
  refine z_top ea1 ?_
  refine z_callV C [.int (nI k)] [] (tX4_save_ok K.l K.g x bd tr q p h sb sv st r n ss sr sn k (by first | omega | assumption)) gL_law_X4_save rfl rfl rfl hdX4_save ⟨Nat.le_of_ble_eq_true rfl, Nat.le_of_ble_eq_true rfl⟩ ⟨Nat.le_of_ble_eq_true rfl, Nat.le_of_ble_eq_true rfl⟩ 0 0 rfl rfl rfl [0, 1, 13, 14] rfl rfl (zlc (N := 16) rfl rfl) [16, 17, 2, 3, 4, 5, 6, 7, 8, 9, 10, 11, 12, 18, 19, 15] rfl (by decide) (fun _ : Unit => [wX K.g x bd tr q p h sb (un sv k true), wB K.g bd st r n, wB K.g tr ts tq tn, wP K.g q a0 a1 a2 a3 a4 a5 a6 a7 s0 s1 s2 s3 s4 s5 s6 s7 s8 s9, wPd K.g p fb tx len ex pl sh hu du, wB K.g fb fs fr fn, wH K.g h ho kp nx, wB K.g (ho 0) (hs 0) (hr 0) (hm 0), wB K.g (ho 1) (hs 1) (hr 1) (hm 1), wB K.g (ho 2) (hs 2) (hr 2) (hm 2), wB K.g (ho 3) (hs 3) (hr 3) (hm 3), wB K.g (ho 4) (hs 4) (hr 4) (hm 4), wB K.g (ho 5) (hs 5) (hr 5) (hm 5), wB K.g (sb 0) ((un ss k st) 0) ((un sr k r) 0) ((un sn k n) 0), wB K.g (sb 1) ((un ss k st) 1) ((un sr k r) 1) ((un sn k n) 1), wM K.g y all kept hist kp slo sav beg prt frm tx len sp tol rd]) (fun _ => rfl) rfl rfl (Nat.le_of_ble_eq_true rfl) dL_law_608 611 rfl (fun u9 hu9 => ?_)
  show Z K 104 1616 [wX K.g x bd tr q p h sb (un sv k true), wB K.g bd st r n, wB K.g tr ts tq tn, wP K.g q a0 a1 a2 a3 a4 a5 a6 a7 s0 s1 s2 s3 s4 s5 s6 s7 s8 s9, wPd K.g p fb tx len ex pl sh hu du, wB K.g fb fs fr fn, wH K.g h ho kp nx, wB K.g (ho 0) (hs 0) (hr 0) (hm 0), wB K.g (ho 1) (hs 1) (hr 1) (hm 1), wB K.g (ho 2) (hs 2) (hr 2) (hm 2), wB K.g (ho 3) (hs 3) (hr 3) (hm 3), wB K.g (ho 4) (hs 4) (hr 4) (hm 4), wB K.g (ho 5) (hs 5) (hr 5) (hm 5), wB K.g (sb 0) ((un ss k st) 0) ((un sr k r) 0) ((un sn k n) 0), wB K.g (sb 1) ((un ss k st) 1) ((un sr k r) 1) ((un sn k n) 1), wM K.g y all kept hist kp slo sav beg prt frm tx len sp tol rd] [(0, .ref b), (1, .ref (x 0)), (2, .ref (y 0)), (3, .int (nI i))] 611 [.int (nI n)]
  refine z_aload_n C 2 rfl rfl dL_law_611 612 rfl ?_
  refine z_aload_n C 0 rfl rfl dL_law_612 613 rfl ?_
  refine z_iload_n C 3 rfl rfl dL_law_613 614 rfl ?_
  refine z_iconst C (v := nI 1) rfl dL_law_614 615 rfl ?_
  refine z_iadd C dL_law_615 616 rfl ?_
  refine z_xld C hX hbl hbA (by omega) (by omega) dL_law_616 617 rfl ?_
  refine z_top ea1 ?_
  refine z_callV C [.int (nI k)] [.int (nI n)] (tX5_save_ok K.l K.g y all kept hist kp slo sav beg prt frm tx len sp tol rd st r n k (by first | omega | assumption) (by first | omega | assumption) (by first | omega | assumption)) gL_law_X5_save rfl rfl rfl hdX5_save ⟨Nat.le_of_ble_eq_true rfl, Nat.le_of_ble_eq_true rfl⟩ ⟨Nat.le_of_ble_eq_true rfl, Nat.le_of_ble_eq_true rfl⟩ 15 0 rfl rfl rfl [15] rfl rfl (zlc (N := 16) rfl rfl) [0, 1, 2, 3, 4, 5, 6, 7, 8, 9, 10, 11, 12, 13, 14, 16] rfl (by decide) (fun slo2 : Nat → Nat => [wX K.g x bd tr q p h sb (un sv k true), wB K.g bd st r n, wB K.g tr ts tq tn, wP K.g q a0 a1 a2 a3 a4 a5 a6 a7 s0 s1 s2 s3 s4 s5 s6 s7 s8 s9, wPd K.g p fb tx len ex pl sh hu du, wB K.g fb fs fr fn, wH K.g h ho kp nx, wB K.g (ho 0) (hs 0) (hr 0) (hm 0), wB K.g (ho 1) (hs 1) (hr 1) (hm 1), wB K.g (ho 2) (hs 2) (hr 2) (hm 2), wB K.g (ho 3) (hs 3) (hr 3) (hm 3), wB K.g (ho 4) (hs 4) (hr 4) (hm 4), wB K.g (ho 5) (hs 5) (hr 5) (hm 5), wB K.g (sb 0) ((un ss k st) 0) ((un sr k r) 0) ((un sn k n) 0), wB K.g (sb 1) ((un ss k st) 1) ((un sr k r) 1) ((un sn k n) 1), wM K.g y all kept hist kp slo2 (un sav k 1) beg prt frm tx len sp tol rd]) (fun _ => rfl) rfl rfl (Nat.le_of_ble_eq_true rfl) dL_law_617 620 rfl (fun u9 hu9 => ?_)
  obtain ⟨sl2, rfl⟩ : ∃ z, z = u9 := ⟨_, rfl⟩
  have hs2 := hu9
  have hs2 : ∀ u, u < 112 → sl2 u = if 56 * k ≤ u ∧ u < 56 * k + 56 then all (u - 56 * k) else slo u := hs2
  show Z K 104 1616 [wX K.g x bd tr q p h sb (un sv k true), wB K.g bd st r n, wB K.g tr ts tq tn, wP K.g q a0 a1 a2 a3 a4 a5 a6 a7 s0 s1 s2 s3 s4 s5 s6 s7 s8 s9, wPd K.g p fb tx len ex pl sh hu du, wB K.g fb fs fr fn, wH K.g h ho kp nx, wB K.g (ho 0) (hs 0) (hr 0) (hm 0), wB K.g (ho 1) (hs 1) (hr 1) (hm 1), wB K.g (ho 2) (hs 2) (hr 2) (hm 2), wB K.g (ho 3) (hs 3) (hr 3) (hm 3), wB K.g (ho 4) (hs 4) (hr 4) (hm 4), wB K.g (ho 5) (hs 5) (hr 5) (hm 5), wB K.g (sb 0) ((un ss k st) 0) ((un sr k r) 0) ((un sn k n) 0), wB K.g (sb 1) ((un ss k st) 1) ((un sr k r) 1) ((un sn k n) 1), wM K.g y all kept hist kp sl2 (un sav k 1) beg prt frm tx len sp tol rd] [(0, .ref b), (1, .ref (x 0)), (2, .ref (y 0)), (3, .int (nI i))] 620 [.int (nI n), .int (nI n)]
  refine z_icmpI_eq C 648 dL_law_620 (by decide) 623 rfl (fun c9 => ?_) (fun c9 => absurd rfl c9)
  refine z_iinc C hnL 3 rfl (v := nI (i + 5)) (nI_add _ 5) [1, 2, 3, 0] [(0, .ref b), (1, .ref (x 0)), (2, .ref (y 0)), (3, .int (nI (i + 5)))] rfl (Nat.le_of_ble_eq_true rfl) dL_law_648 651 rfl ?_
  refine z_goto C 18 dL_law_651 (by decide) ?_
  exact kk (un sv k true) st r n ts tq tn a0 a1 a2 a3 a4 a5 a6 a7 s0 s1 s2 s3 s4 s5 s6 s7 s8 s9 tx len ex pl sh hu du fs fr fn kp nx hs hr hm (un ss k st) (un sr k r) (un sn k n) all kept hist sl2 (un sav k 1) beg prt frm sp tol rd ⟨hG, hB, hH, IS_save hSl (by omega) hG hB hs2, hT⟩

set_option maxHeartbeats 4000000 in
set_option maxRecDepth 100000 in
theorem lb_jobOf {K : zK} (C : Cx K room_1 RL cL_law wsL_law) (hnL : K.nL = 4) (b : Nat) (x bd tr q p fb h : Nat → Nat) (ho sb : Nat → Nat → Nat) (y : Nat → Nat) (L : Nat) (xs : Nat → Int32) (i : Nat) (hLH : LH K b L xs) (hiL : i + 5 ≤ L) (kk : LI K b x bd tr q p fb h ho sb y (i + 5)) (sv : Nat → Bool) (st : Nat → Nat) (r : Nat → Nat → Nat) (n : Nat) (ts : Nat → Nat) (tq : Nat → Nat → Nat) (tn : Nat) (a0 : Nat → Nat) (a1 : Nat → Nat) (a2 : Nat → Nat) (a3 : Nat → Nat) (a4 : Nat → Nat) (a5 : Nat → Nat) (a6 : Nat → Nat) (a7 : Nat → Nat) (s0 : Nat) (s1 : Nat) (s2 : Nat) (s3 : Nat) (s4 : Nat) (s5 : Nat) (s6 : Nat) (s7 : Nat) (s8 : Nat) (s9 : Nat) (tx : Nat → Nat) (len : Nat) (ex : Nat) (pl : Int32) (sh : Int32) (hu : Int32) (du : Int32) (fs : Nat → Nat) (fr : Nat → Nat → Nat) (fn : Nat) (kp : Nat) (nx : Nat) (hs : Nat → Nat → Nat) (hr : Nat → Nat → Nat → Nat) (hm : Nat → Nat) (ss : Nat → Nat → Nat) (sr : Nat → Nat → Nat → Nat) (sn : Nat → Nat) (all : Nat → Nat) (kept : Nat → Nat) (hist : Nat → Nat) (slo : Nat → Nat) (sav : Nat → Nat) (beg : Nat → Nat) (prt : Nat → Nat) (frm : Nat → Nat) (sp : Nat) (tol : Nat → Nat) (rd : Nat) (hI : IV sv st r n tx len kp nx hs hr hm ss sr sn all hist slo sav) : Z K 104 1616 [wX K.g x bd tr q p h sb sv, wB K.g bd st r n, wB K.g tr ts tq tn, wP K.g q a0 a1 a2 a3 a4 a5 a6 a7 s0 s1 s2 s3 s4 s5 s6 s7 s8 s9, wPd K.g p fb tx len ex pl sh hu du, wB K.g fb fs fr fn, wH K.g h ho kp nx, wB K.g (ho 0) (hs 0) (hr 0) (hm 0), wB K.g (ho 1) (hs 1) (hr 1) (hm 1), wB K.g (ho 2) (hs 2) (hr 2) (hm 2), wB K.g (ho 3) (hs 3) (hr 3) (hm 3), wB K.g (ho 4) (hs 4) (hr 4) (hm 4), wB K.g (ho 5) (hs 5) (hr 5) (hm 5), wB K.g (sb 0) (ss 0) (sr 0) (sn 0), wB K.g (sb 1) (ss 1) (sr 1) (sn 1), wM K.g y all kept hist kp slo sav beg prt frm tx len sp tol rd] [(0, .ref b), (1, .ref (x 0)), (2, .ref (y 0)), (3, .int (nI i))] 339 [] := by
  obtain ⟨hX, hbl, hbA, hL, heSet, heOrd⟩ := hLH
  obtain ⟨hG, hB, hH, hSl, hT⟩ := hI
  obtain ⟨hn, hS, hJ, hR⟩ := id hG
  have hk := hH.1
  have hx := hH.2.1
  have hl := hT.1
  have ht := hT.2
  by_cases hb1 : isJ (xs (i + 1)) n = true
  rotate_left
  · skip
    have hb1 : isJ (xs (i + 1)) n = false := eq_false_of_ne_true hb1
    refine z_aload_n C 1 rfl rfl dL_law_339 340 rfl ?_
    refine z_aload_n C 0 rfl rfl dL_law_340 341 rfl ?_
    refine z_iload_n C 3 rfl rfl dL_law_341 342 rfl ?_
    refine z_iconst C (v := nI 1) rfl dL_law_342 343 rfl ?_
    refine z_iadd C dL_law_343 344 rfl ?_
    refine z_xld C hX hbl hbA (by omega) (by omega) dL_law_344 345 rfl ?_
    refine z_aload_n C 0 rfl rfl dL_law_345 346 rfl ?_
    refine z_iload_n C 3 rfl rfl dL_law_346 347 rfl ?_
    refine z_iconst C (v := nI 2) rfl dL_law_347 348 rfl ?_
    refine z_iadd C dL_law_348 349 rfl ?_
    refine z_xld C hX hbl hbA (by omega) (by omega) dL_law_349 350 rfl ?_
    refine z_callV C [.int (xs (i + 1)), .int (xs (i + 2))] [] (tX4_jobOf_ns K.l K.g x bd tr q p h sb sv st r n (xs (i + 1)) (xs (i + 2)) (by first | omega | assumption) hb1) gL_law_X4_jobOf rfl rfl rfl hdX4_jobOf ⟨Nat.le_of_ble_eq_true rfl, Nat.le_of_ble_eq_true rfl⟩ ⟨Nat.le_of_ble_eq_true rfl, Nat.le_of_ble_eq_true rfl⟩ 0 0 rfl rfl rfl [0, 1] rfl rfl (zlc (N := 16) rfl rfl) [16, 17, 2, 3, 4, 5, 6, 7, 8, 9, 10, 11, 12, 13, 14, 15] rfl (by decide) (fun _ : Unit => [wX K.g x bd tr q p h sb sv, wB K.g bd st r n, wB K.g tr ts tq tn, wP K.g q a0 a1 a2 a3 a4 a5 a6 a7 s0 s1 s2 s3 s4 s5 s6 s7 s8 s9, wPd K.g p fb tx len ex pl sh hu du, wB K.g fb fs fr fn, wH K.g h ho kp nx, wB K.g (ho 0) (hs 0) (hr 0) (hm 0), wB K.g (ho 1) (hs 1) (hr 1) (hm 1), wB K.g (ho 2) (hs 2) (hr 2) (hm 2), wB K.g (ho 3) (hs 3) (hr 3) (hm 3), wB K.g (ho 4) (hs 4) (hr 4) (hm 4), wB K.g (ho 5) (hs 5) (hr 5) (hm 5), wB K.g (sb 0) (ss 0) (sr 0) (sn 0), wB K.g (sb 1) (ss 1) (sr 1) (sn 1), wM K.g y all kept hist kp slo sav beg prt frm tx len sp tol rd]) (fun _ => rfl) rfl rfl (Nat.le_of_ble_eq_true rfl) dL_law_350 353 rfl (fun u9 hu9 => ?_)
    show Z K 104 1616 [wX K.g x bd tr q p h sb sv, wB K.g bd st r n, wB K.g tr ts tq tn, wP K.g q a0 a1 a2 a3 a4 a5 a6 a7 s0 s1 s2 s3 s4 s5 s6 s7 s8 s9, wPd K.g p fb tx len ex pl sh hu du, wB K.g fb fs fr fn, wH K.g h ho kp nx, wB K.g (ho 0) (hs 0) (hr 0) (hm 0), wB K.g (ho 1) (hs 1) (hr 1) (hm 1), wB K.g (ho 2) (hs 2) (hr 2) (hm 2), wB K.g (ho 3) (hs 3) (hr 3) (hm 3), wB K.g (ho 4) (hs 4) (hr 4) (hm 4), wB K.g (ho 5) (hs 5) (hr 5) (hm 5), wB K.g (sb 0) (ss 0) (sr 0) (sn 0), wB K.g (sb 1) (ss 1) (sr 1) (sn 1), wM K.g y all kept hist kp slo sav beg prt frm tx len sp tol rd] [(0, .ref b), (1, .ref (x 0)), (2, .ref (y 0)), (3, .int (nI i))] 353 [.int (-1)]
    refine z_aload_n C 2 rfl rfl dL_law_353 354 rfl ?_
    refine z_aload_n C 0 rfl rfl dL_law_354 355 rfl ?_
    refine z_iload_n C 3 rfl rfl dL_law_355 356 rfl ?_
    refine z_iconst C (v := nI 1) rfl dL_law_356 357 rfl ?_
    refine z_iadd C dL_law_357 358 rfl ?_
    refine z_xld C hX hbl hbA (by omega) (by omega) dL_law_358 359 rfl ?_
    refine z_aload_n C 0 rfl rfl dL_law_359 360 rfl ?_
    refine z_iload_n C 3 rfl rfl dL_law_360 361 rfl ?_
    refine z_iconst C (v := nI 2) rfl dL_law_361 362 rfl ?_
    refine z_iadd C dL_law_362 363 rfl ?_
    refine z_xld C hX hbl hbA (by omega) (by omega) dL_law_363 364 rfl ?_
    refine z_callV C [.int (xs (i + 1)), .int (xs (i + 2))] [.int (-1)] (tX5_jobOf_ns K.l K.g y all kept hist kp slo sav beg prt frm tx len sp tol rd st r n (xs (i + 1)) (xs (i + 2)) (by first | omega | assumption) (by first | omega | assumption) hb1) gL_law_X5_jobOf rfl rfl rfl hdX5_jobOf ⟨Nat.le_of_ble_eq_true rfl, Nat.le_of_ble_eq_true rfl⟩ ⟨Nat.le_of_ble_eq_true rfl, Nat.le_of_ble_eq_true rfl⟩ 15 0 rfl rfl rfl [15] rfl rfl (zlc (N := 16) rfl rfl) [0, 1, 2, 3, 4, 5, 6, 7, 8, 9, 10, 11, 12, 13, 14, 16] rfl (by decide) (fun _ : Unit => [wX K.g x bd tr q p h sb sv, wB K.g bd st r n, wB K.g tr ts tq tn, wP K.g q a0 a1 a2 a3 a4 a5 a6 a7 s0 s1 s2 s3 s4 s5 s6 s7 s8 s9, wPd K.g p fb tx len ex pl sh hu du, wB K.g fb fs fr fn, wH K.g h ho kp nx, wB K.g (ho 0) (hs 0) (hr 0) (hm 0), wB K.g (ho 1) (hs 1) (hr 1) (hm 1), wB K.g (ho 2) (hs 2) (hr 2) (hm 2), wB K.g (ho 3) (hs 3) (hr 3) (hm 3), wB K.g (ho 4) (hs 4) (hr 4) (hm 4), wB K.g (ho 5) (hs 5) (hr 5) (hm 5), wB K.g (sb 0) (ss 0) (sr 0) (sn 0), wB K.g (sb 1) (ss 1) (sr 1) (sn 1), wM K.g y all kept hist kp slo sav beg prt frm tx len sp tol rd]) (fun _ => rfl) rfl rfl (Nat.le_of_ble_eq_true rfl) dL_law_364 367 rfl (fun u9 hu9 => ?_)
    show Z K 104 1616 [wX K.g x bd tr q p h sb sv, wB K.g bd st r n, wB K.g tr ts tq tn, wP K.g q a0 a1 a2 a3 a4 a5 a6 a7 s0 s1 s2 s3 s4 s5 s6 s7 s8 s9, wPd K.g p fb tx len ex pl sh hu du, wB K.g fb fs fr fn, wH K.g h ho kp nx, wB K.g (ho 0) (hs 0) (hr 0) (hm 0), wB K.g (ho 1) (hs 1) (hr 1) (hm 1), wB K.g (ho 2) (hs 2) (hr 2) (hm 2), wB K.g (ho 3) (hs 3) (hr 3) (hm 3), wB K.g (ho 4) (hs 4) (hr 4) (hm 4), wB K.g (ho 5) (hs 5) (hr 5) (hm 5), wB K.g (sb 0) (ss 0) (sr 0) (sn 0), wB K.g (sb 1) (ss 1) (sr 1) (sn 1), wM K.g y all kept hist kp slo sav beg prt frm tx len sp tol rd] [(0, .ref b), (1, .ref (x 0)), (2, .ref (y 0)), (3, .int (nI i))] 367 [.int (-1), .int (-1)]
    refine z_icmpI_eq C 648 dL_law_367 (by decide) 370 rfl (fun c9 => ?_) (fun c9 => absurd rfl c9)
    refine z_iinc C hnL 3 rfl (v := nI (i + 5)) (nI_add _ 5) [1, 2, 3, 0] [(0, .ref b), (1, .ref (x 0)), (2, .ref (y 0)), (3, .int (nI (i + 5)))] rfl (Nat.le_of_ble_eq_true rfl) dL_law_648 651 rfl ?_
    refine z_goto C 18 dL_law_651 (by decide) ?_
    exact kk sv st r n ts tq tn a0 a1 a2 a3 a4 a5 a6 a7 s0 s1 s2 s3 s4 s5 s6 s7 s8 s9 tx len ex pl sh hu du fs fr fn kp nx hs hr hm ss sr sn all kept hist slo sav beg prt frm sp tol rd ⟨hG, hB, hH, hSl, hT⟩
  obtain ⟨j, hhi1, ea1⟩ := isJ_i hn hb1
  by_cases hb2 : rg (xs (i + 2)).toInt (Int.ofNat 0) (Int.ofNat 11) = true
  rotate_left
  · skip
    have hb2 : rg (xs (i + 2)).toInt (Int.ofNat 0) (Int.ofNat 11) = false := eq_false_of_ne_true hb2
    refine z_aload_n C 1 rfl rfl dL_law_339 340 rfl ?_
    refine z_aload_n C 0 rfl rfl dL_law_340 341 rfl ?_
    refine z_iload_n C 3 rfl rfl dL_law_341 342 rfl ?_
    refine z_iconst C (v := nI 1) rfl dL_law_342 343 rfl ?_
    refine z_iadd C dL_law_343 344 rfl ?_
    refine z_xld C hX hbl hbA (by omega) (by omega) dL_law_344 345 rfl ?_
    refine z_top ea1 ?_
    refine z_aload_n C 0 rfl rfl dL_law_345 346 rfl ?_
    refine z_iload_n C 3 rfl rfl dL_law_346 347 rfl ?_
    refine z_iconst C (v := nI 2) rfl dL_law_347 348 rfl ?_
    refine z_iadd C dL_law_348 349 rfl ?_
    refine z_xld C hX hbl hbA (by omega) (by omega) dL_law_349 350 rfl ?_
    refine z_callV C [.int (nI j), .int (xs (i + 2))] [] (tX4_jobOf_bv K.l K.g x bd tr q p h sb sv st r n j (xs (i + 2)) (by first | omega | assumption) (by first | omega | assumption) hb2) gL_law_X4_jobOf rfl rfl rfl hdX4_jobOf ⟨Nat.le_of_ble_eq_true rfl, Nat.le_of_ble_eq_true rfl⟩ ⟨Nat.le_of_ble_eq_true rfl, Nat.le_of_ble_eq_true rfl⟩ 0 0 rfl rfl rfl [0, 1] rfl rfl (zlc (N := 16) rfl rfl) [16, 17, 2, 3, 4, 5, 6, 7, 8, 9, 10, 11, 12, 13, 14, 15] rfl (by decide) (fun _ : Unit => [wX K.g x bd tr q p h sb sv, wB K.g bd st r n, wB K.g tr ts tq tn, wP K.g q a0 a1 a2 a3 a4 a5 a6 a7 s0 s1 s2 s3 s4 s5 s6 s7 s8 s9, wPd K.g p fb tx len ex pl sh hu du, wB K.g fb fs fr fn, wH K.g h ho kp nx, wB K.g (ho 0) (hs 0) (hr 0) (hm 0), wB K.g (ho 1) (hs 1) (hr 1) (hm 1), wB K.g (ho 2) (hs 2) (hr 2) (hm 2), wB K.g (ho 3) (hs 3) (hr 3) (hm 3), wB K.g (ho 4) (hs 4) (hr 4) (hm 4), wB K.g (ho 5) (hs 5) (hr 5) (hm 5), wB K.g (sb 0) (ss 0) (sr 0) (sn 0), wB K.g (sb 1) (ss 1) (sr 1) (sn 1), wM K.g y all kept hist kp slo sav beg prt frm tx len sp tol rd]) (fun _ => rfl) rfl rfl (Nat.le_of_ble_eq_true rfl) dL_law_350 353 rfl (fun u9 hu9 => ?_)
    show Z K 104 1616 [wX K.g x bd tr q p h sb sv, wB K.g bd st r n, wB K.g tr ts tq tn, wP K.g q a0 a1 a2 a3 a4 a5 a6 a7 s0 s1 s2 s3 s4 s5 s6 s7 s8 s9, wPd K.g p fb tx len ex pl sh hu du, wB K.g fb fs fr fn, wH K.g h ho kp nx, wB K.g (ho 0) (hs 0) (hr 0) (hm 0), wB K.g (ho 1) (hs 1) (hr 1) (hm 1), wB K.g (ho 2) (hs 2) (hr 2) (hm 2), wB K.g (ho 3) (hs 3) (hr 3) (hm 3), wB K.g (ho 4) (hs 4) (hr 4) (hm 4), wB K.g (ho 5) (hs 5) (hr 5) (hm 5), wB K.g (sb 0) (ss 0) (sr 0) (sn 0), wB K.g (sb 1) (ss 1) (sr 1) (sn 1), wM K.g y all kept hist kp slo sav beg prt frm tx len sp tol rd] [(0, .ref b), (1, .ref (x 0)), (2, .ref (y 0)), (3, .int (nI i))] 353 [.int (-2)]
    refine z_aload_n C 2 rfl rfl dL_law_353 354 rfl ?_
    refine z_aload_n C 0 rfl rfl dL_law_354 355 rfl ?_
    refine z_iload_n C 3 rfl rfl dL_law_355 356 rfl ?_
    refine z_iconst C (v := nI 1) rfl dL_law_356 357 rfl ?_
    refine z_iadd C dL_law_357 358 rfl ?_
    refine z_xld C hX hbl hbA (by omega) (by omega) dL_law_358 359 rfl ?_
    refine z_top ea1 ?_
    refine z_aload_n C 0 rfl rfl dL_law_359 360 rfl ?_
    refine z_iload_n C 3 rfl rfl dL_law_360 361 rfl ?_
    refine z_iconst C (v := nI 2) rfl dL_law_361 362 rfl ?_
    refine z_iadd C dL_law_362 363 rfl ?_
    refine z_xld C hX hbl hbA (by omega) (by omega) dL_law_363 364 rfl ?_
    refine z_callV C [.int (nI j), .int (xs (i + 2))] [.int (-2)] (tX5_jobOf_bv K.l K.g y all kept hist kp slo sav beg prt frm tx len sp tol rd st r n j (xs (i + 2)) (by first | omega | assumption) (by first | omega | assumption) (by first | omega | assumption) (by first | omega | assumption) (by first | omega | assumption) (by first | omega | assumption) hb2) gL_law_X5_jobOf rfl rfl rfl hdX5_jobOf ⟨Nat.le_of_ble_eq_true rfl, Nat.le_of_ble_eq_true rfl⟩ ⟨Nat.le_of_ble_eq_true rfl, Nat.le_of_ble_eq_true rfl⟩ 15 0 rfl rfl rfl [15] rfl rfl (zlc (N := 16) rfl rfl) [0, 1, 2, 3, 4, 5, 6, 7, 8, 9, 10, 11, 12, 13, 14, 16] rfl (by decide) (fun u : (Nat → Nat) × (Nat → Nat) => match u with | (beg2, prt2) => [wX K.g x bd tr q p h sb sv, wB K.g bd st r n, wB K.g tr ts tq tn, wP K.g q a0 a1 a2 a3 a4 a5 a6 a7 s0 s1 s2 s3 s4 s5 s6 s7 s8 s9, wPd K.g p fb tx len ex pl sh hu du, wB K.g fb fs fr fn, wH K.g h ho kp nx, wB K.g (ho 0) (hs 0) (hr 0) (hm 0), wB K.g (ho 1) (hs 1) (hr 1) (hm 1), wB K.g (ho 2) (hs 2) (hr 2) (hm 2), wB K.g (ho 3) (hs 3) (hr 3) (hm 3), wB K.g (ho 4) (hs 4) (hr 4) (hm 4), wB K.g (ho 5) (hs 5) (hr 5) (hm 5), wB K.g (sb 0) (ss 0) (sr 0) (sn 0), wB K.g (sb 1) (ss 1) (sr 1) (sn 1), wM K.g y all kept hist kp slo sav beg2 prt2 frm tx len sp tol rd]) (fun _ => rfl) rfl rfl (Nat.le_of_ble_eq_true rfl) dL_law_364 367 rfl (fun u9 hu9 => ?_)
    obtain ⟨beg2_1, prt2_2⟩ := u9
    show Z K 104 1616 [wX K.g x bd tr q p h sb sv, wB K.g bd st r n, wB K.g tr ts tq tn, wP K.g q a0 a1 a2 a3 a4 a5 a6 a7 s0 s1 s2 s3 s4 s5 s6 s7 s8 s9, wPd K.g p fb tx len ex pl sh hu du, wB K.g fb fs fr fn, wH K.g h ho kp nx, wB K.g (ho 0) (hs 0) (hr 0) (hm 0), wB K.g (ho 1) (hs 1) (hr 1) (hm 1), wB K.g (ho 2) (hs 2) (hr 2) (hm 2), wB K.g (ho 3) (hs 3) (hr 3) (hm 3), wB K.g (ho 4) (hs 4) (hr 4) (hm 4), wB K.g (ho 5) (hs 5) (hr 5) (hm 5), wB K.g (sb 0) (ss 0) (sr 0) (sn 0), wB K.g (sb 1) (ss 1) (sr 1) (sn 1), wM K.g y all kept hist kp slo sav beg2_1 prt2_2 frm tx len sp tol rd] [(0, .ref b), (1, .ref (x 0)), (2, .ref (y 0)), (3, .int (nI i))] 367 [.int (-2), .int (-2)]
    refine z_icmpI_eq C 648 dL_law_367 (by decide) 370 rfl (fun c9 => ?_) (fun c9 => absurd rfl c9)
    refine z_iinc C hnL 3 rfl (v := nI (i + 5)) (nI_add _ 5) [1, 2, 3, 0] [(0, .ref b), (1, .ref (x 0)), (2, .ref (y 0)), (3, .int (nI (i + 5)))] rfl (Nat.le_of_ble_eq_true rfl) dL_law_648 651 rfl ?_
    refine z_goto C 18 dL_law_651 (by decide) ?_
    exact kk sv st r n ts tq tn a0 a1 a2 a3 a4 a5 a6 a7 s0 s1 s2 s3 s4 s5 s6 s7 s8 s9 tx len ex pl sh hu du fs fr fn kp nx hs hr hm ss sr sn all kept hist slo sav beg2_1 prt2_2 frm sp tol rd ⟨hG, hB, hH, hSl, hT⟩
  obtain ⟨k, hlo2, hhi2, ea2⟩ := rg_nI (lo := 0) (hi := 11) hb2
  refine z_aload_n C 1 rfl rfl dL_law_339 340 rfl ?_
  refine z_aload_n C 0 rfl rfl dL_law_340 341 rfl ?_
  refine z_iload_n C 3 rfl rfl dL_law_341 342 rfl ?_
  refine z_iconst C (v := nI 1) rfl dL_law_342 343 rfl ?_
  refine z_iadd C dL_law_343 344 rfl ?_
  refine z_xld C hX hbl hbA (by omega) (by omega) dL_law_344 345 rfl ?_
  refine z_top ea1 ?_
  refine z_aload_n C 0 rfl rfl dL_law_345 346 rfl ?_
  refine z_iload_n C 3 rfl rfl dL_law_346 347 rfl ?_
  refine z_iconst C (v := nI 2) rfl dL_law_347 348 rfl ?_
  refine z_iadd C dL_law_348 349 rfl ?_
  refine z_xld C hX hbl hbA (by omega) (by omega) dL_law_349 350 rfl ?_
  refine z_top ea2 ?_
  refine z_callV C [.int (nI j), .int (nI k)] [] (tX4_jobOf_ok K.l K.g x bd tr q p h sb sv a0 a1 a2 a3 a4 a5 a6 a7 s0 s1 s2 s3 s4 s5 s6 s7 s8 s9 st r n j k (by first | omega | assumption) (by first | omega | assumption) (by first | omega | assumption) (by first | omega | assumption) (by first | omega | assumption) (by first | omega | assumption)) gL_law_X4_jobOf rfl rfl rfl hdX4_jobOf ⟨Nat.le_of_ble_eq_true rfl, Nat.le_of_ble_eq_true rfl⟩ ⟨Nat.le_of_ble_eq_true rfl, Nat.le_of_ble_eq_true rfl⟩ 0 0 rfl rfl rfl [0, 3, 1] rfl rfl (zlc (N := 16) rfl rfl) [16, 18, 2, 17, 4, 5, 6, 7, 8, 9, 10, 11, 12, 13, 14, 15] rfl (by decide) (fun u : (Nat → Nat) × (Nat → Nat) × (Nat → Nat) × (Nat → Nat) × (Nat → Nat) × (Nat → Nat) × (Nat → Nat) × (Nat → Nat) × (Nat) × (Nat) × (Nat) × (Nat) × (Nat) × (Nat) × (Nat) × (Nat) × (Nat) × (Nat) => match u with | (c0, c1, c2, c3, c4, c5, c6, c7, d1, d2, d3, d4, d5, d6, d7, d8, d9, d0) => [wX K.g x bd tr q p h sb sv, wB K.g bd st r n, wB K.g tr ts tq tn, wP K.g q c0 c1 c2 c3 c4 c5 c6 c7 d0 d1 d2 d3 d4 d5 d6 d7 d8 d9, wPd K.g p fb tx len ex pl sh hu du, wB K.g fb fs fr fn, wH K.g h ho kp nx, wB K.g (ho 0) (hs 0) (hr 0) (hm 0), wB K.g (ho 1) (hs 1) (hr 1) (hm 1), wB K.g (ho 2) (hs 2) (hr 2) (hm 2), wB K.g (ho 3) (hs 3) (hr 3) (hm 3), wB K.g (ho 4) (hs 4) (hr 4) (hm 4), wB K.g (ho 5) (hs 5) (hr 5) (hm 5), wB K.g (sb 0) (ss 0) (sr 0) (sn 0), wB K.g (sb 1) (ss 1) (sr 1) (sn 1), wM K.g y all kept hist kp slo sav beg prt frm tx len sp tol rd]) (fun _ => rfl) rfl rfl (Nat.le_of_ble_eq_true rfl) dL_law_350 353 rfl (fun u9 hu9 => ?_)
  obtain ⟨c0_3, c1_4, c2_5, c3_6, c4_7, c5_8, c6_9, c7_10, d1_11, d2_12, d3_13, d4_14, d5_15, d6_16, d7_17, d8_18, d9_19, d0_20⟩ := u9
  show Z K 104 1616 [wX K.g x bd tr q p h sb sv, wB K.g bd st r n, wB K.g tr ts tq tn, wP K.g q c0_3 c1_4 c2_5 c3_6 c4_7 c5_8 c6_9 c7_10 d0_20 d1_11 d2_12 d3_13 d4_14 d5_15 d6_16 d7_17 d8_18 d9_19, wPd K.g p fb tx len ex pl sh hu du, wB K.g fb fs fr fn, wH K.g h ho kp nx, wB K.g (ho 0) (hs 0) (hr 0) (hm 0), wB K.g (ho 1) (hs 1) (hr 1) (hm 1), wB K.g (ho 2) (hs 2) (hr 2) (hm 2), wB K.g (ho 3) (hs 3) (hr 3) (hm 3), wB K.g (ho 4) (hs 4) (hr 4) (hm 4), wB K.g (ho 5) (hs 5) (hr 5) (hm 5), wB K.g (sb 0) (ss 0) (sr 0) (sn 0), wB K.g (sb 1) (ss 1) (sr 1) (sn 1), wM K.g y all kept hist kp slo sav beg prt frm tx len sp tol rd] [(0, .ref b), (1, .ref (x 0)), (2, .ref (y 0)), (3, .int (nI i))] 353 [.int (nI (JO st r n j k))]
  refine z_aload_n C 2 rfl rfl dL_law_353 354 rfl ?_
  refine z_aload_n C 0 rfl rfl dL_law_354 355 rfl ?_
  refine z_iload_n C 3 rfl rfl dL_law_355 356 rfl ?_
  refine z_iconst C (v := nI 1) rfl dL_law_356 357 rfl ?_
  refine z_iadd C dL_law_357 358 rfl ?_
  refine z_xld C hX hbl hbA (by omega) (by omega) dL_law_358 359 rfl ?_
  refine z_top ea1 ?_
  refine z_aload_n C 0 rfl rfl dL_law_359 360 rfl ?_
  refine z_iload_n C 3 rfl rfl dL_law_360 361 rfl ?_
  refine z_iconst C (v := nI 2) rfl dL_law_361 362 rfl ?_
  refine z_iadd C dL_law_362 363 rfl ?_
  refine z_xld C hX hbl hbA (by omega) (by omega) dL_law_363 364 rfl ?_
  refine z_top ea2 ?_
  refine z_callV C [.int (nI j), .int (nI k)] [.int (nI (JO st r n j k))] (tX5_jobOf_ok K.l K.g y all kept hist kp slo sav beg prt frm tx len sp tol rd st r n j k (by first | omega | assumption) (by first | omega | assumption) (by first | omega | assumption) (by first | omega | assumption) (by first | omega | assumption) (by first | omega | assumption) (by first | omega | assumption)) gL_law_X5_jobOf rfl rfl rfl hdX5_jobOf ⟨Nat.le_of_ble_eq_true rfl, Nat.le_of_ble_eq_true rfl⟩ ⟨Nat.le_of_ble_eq_true rfl, Nat.le_of_ble_eq_true rfl⟩ 15 0 rfl rfl rfl [15] rfl rfl (zlc (N := 16) rfl rfl) [0, 1, 2, 3, 4, 5, 6, 7, 8, 9, 10, 11, 12, 13, 14, 16] rfl (by decide) (fun u : (Nat → Nat) × (Nat → Nat) => match u with | (beg2, prt2) => [wX K.g x bd tr q p h sb sv, wB K.g bd st r n, wB K.g tr ts tq tn, wP K.g q c0_3 c1_4 c2_5 c3_6 c4_7 c5_8 c6_9 c7_10 d0_20 d1_11 d2_12 d3_13 d4_14 d5_15 d6_16 d7_17 d8_18 d9_19, wPd K.g p fb tx len ex pl sh hu du, wB K.g fb fs fr fn, wH K.g h ho kp nx, wB K.g (ho 0) (hs 0) (hr 0) (hm 0), wB K.g (ho 1) (hs 1) (hr 1) (hm 1), wB K.g (ho 2) (hs 2) (hr 2) (hm 2), wB K.g (ho 3) (hs 3) (hr 3) (hm 3), wB K.g (ho 4) (hs 4) (hr 4) (hm 4), wB K.g (ho 5) (hs 5) (hr 5) (hm 5), wB K.g (sb 0) (ss 0) (sr 0) (sn 0), wB K.g (sb 1) (ss 1) (sr 1) (sn 1), wM K.g y all kept hist kp slo sav beg2 prt2 frm tx len sp tol rd]) (fun _ => rfl) rfl rfl (Nat.le_of_ble_eq_true rfl) dL_law_364 367 rfl (fun u9 hu9 => ?_)
  obtain ⟨beg2_21, prt2_22⟩ := u9
  show Z K 104 1616 [wX K.g x bd tr q p h sb sv, wB K.g bd st r n, wB K.g tr ts tq tn, wP K.g q c0_3 c1_4 c2_5 c3_6 c4_7 c5_8 c6_9 c7_10 d0_20 d1_11 d2_12 d3_13 d4_14 d5_15 d6_16 d7_17 d8_18 d9_19, wPd K.g p fb tx len ex pl sh hu du, wB K.g fb fs fr fn, wH K.g h ho kp nx, wB K.g (ho 0) (hs 0) (hr 0) (hm 0), wB K.g (ho 1) (hs 1) (hr 1) (hm 1), wB K.g (ho 2) (hs 2) (hr 2) (hm 2), wB K.g (ho 3) (hs 3) (hr 3) (hm 3), wB K.g (ho 4) (hs 4) (hr 4) (hm 4), wB K.g (ho 5) (hs 5) (hr 5) (hm 5), wB K.g (sb 0) (ss 0) (sr 0) (sn 0), wB K.g (sb 1) (ss 1) (sr 1) (sn 1), wM K.g y all kept hist kp slo sav beg2_21 prt2_22 frm tx len sp tol rd] [(0, .ref b), (1, .ref (x 0)), (2, .ref (y 0)), (3, .int (nI i))] 367 [.int (nI (JO st r n j k)), .int (nI (JO st r n j k))]
  refine z_icmpI_eq C 648 dL_law_367 (by decide) 370 rfl (fun c9 => ?_) (fun c9 => absurd rfl c9)
  refine z_iinc C hnL 3 rfl (v := nI (i + 5)) (nI_add _ 5) [1, 2, 3, 0] [(0, .ref b), (1, .ref (x 0)), (2, .ref (y 0)), (3, .int (nI (i + 5)))] rfl (Nat.le_of_ble_eq_true rfl) dL_law_648 651 rfl ?_
  refine z_goto C 18 dL_law_651 (by decide) ?_
  exact kk sv st r n ts tq tn c0_3 c1_4 c2_5 c3_6 c4_7 c5_8 c6_9 c7_10 d0_20 d1_11 d2_12 d3_13 d4_14 d5_15 d6_16 d7_17 d8_18 d9_19 tx len ex pl sh hu du fs fr fn kp nx hs hr hm ss sr sn all kept hist slo sav beg2_21 prt2_22 frm sp tol rd ⟨hG, hB, hH, hSl, hT⟩

set_option maxHeartbeats 4000000 in
set_option maxRecDepth 100000 in
theorem lb_count {K : zK} (C : Cx K room_1 RL cL_law wsL_law) (hnL : K.nL = 4) (b : Nat) (x bd tr q p fb h : Nat → Nat) (ho sb : Nat → Nat → Nat) (y : Nat → Nat) (L : Nat) (xs : Nat → Int32) (i : Nat) (hLH : LH K b L xs) (hiL : i + 5 ≤ L) (kk : LI K b x bd tr q p fb h ho sb y (i + 5)) (sv : Nat → Bool) (st : Nat → Nat) (r : Nat → Nat → Nat) (n : Nat) (ts : Nat → Nat) (tq : Nat → Nat → Nat) (tn : Nat) (a0 : Nat → Nat) (a1 : Nat → Nat) (a2 : Nat → Nat) (a3 : Nat → Nat) (a4 : Nat → Nat) (a5 : Nat → Nat) (a6 : Nat → Nat) (a7 : Nat → Nat) (s0 : Nat) (s1 : Nat) (s2 : Nat) (s3 : Nat) (s4 : Nat) (s5 : Nat) (s6 : Nat) (s7 : Nat) (s8 : Nat) (s9 : Nat) (tx : Nat → Nat) (len : Nat) (ex : Nat) (pl : Int32) (sh : Int32) (hu : Int32) (du : Int32) (fs : Nat → Nat) (fr : Nat → Nat → Nat) (fn : Nat) (kp : Nat) (nx : Nat) (hs : Nat → Nat → Nat) (hr : Nat → Nat → Nat → Nat) (hm : Nat → Nat) (ss : Nat → Nat → Nat) (sr : Nat → Nat → Nat → Nat) (sn : Nat → Nat) (all : Nat → Nat) (kept : Nat → Nat) (hist : Nat → Nat) (slo : Nat → Nat) (sav : Nat → Nat) (beg : Nat → Nat) (prt : Nat → Nat) (frm : Nat → Nat) (sp : Nat) (tol : Nat → Nat) (rd : Nat) (hI : IV sv st r n tx len kp nx hs hr hm ss sr sn all hist slo sav) : Z K 104 1616 [wX K.g x bd tr q p h sb sv, wB K.g bd st r n, wB K.g tr ts tq tn, wP K.g q a0 a1 a2 a3 a4 a5 a6 a7 s0 s1 s2 s3 s4 s5 s6 s7 s8 s9, wPd K.g p fb tx len ex pl sh hu du, wB K.g fb fs fr fn, wH K.g h ho kp nx, wB K.g (ho 0) (hs 0) (hr 0) (hm 0), wB K.g (ho 1) (hs 1) (hr 1) (hm 1), wB K.g (ho 2) (hs 2) (hr 2) (hm 2), wB K.g (ho 3) (hs 3) (hr 3) (hm 3), wB K.g (ho 4) (hs 4) (hr 4) (hm 4), wB K.g (ho 5) (hs 5) (hr 5) (hm 5), wB K.g (sb 0) (ss 0) (sr 0) (sn 0), wB K.g (sb 1) (ss 1) (sr 1) (sn 1), wM K.g y all kept hist kp slo sav beg prt frm tx len sp tol rd] [(0, .ref b), (1, .ref (x 0)), (2, .ref (y 0)), (3, .int (nI i))] 372 [] := by
  obtain ⟨hX, hbl, hbA, hL, heSet, heOrd⟩ := hLH
  obtain ⟨hG, hB, hH, hSl, hT⟩ := hI
  obtain ⟨hn, hS, hJ, hR⟩ := id hG
  have hk := hH.1
  have hx := hH.2.1
  have hl := hT.1
  have ht := hT.2
  by_cases hb1 : rg (xs (i + 1)).toInt (Int.ofNat 0) (Int.ofNat 19) = true
  rotate_left
  · skip
    have hb1 : rg (xs (i + 1)).toInt (Int.ofNat 0) (Int.ofNat 19) = false := eq_false_of_ne_true hb1
    refine z_aload_n C 1 rfl rfl dL_law_372 373 rfl ?_
    refine z_aload_n C 0 rfl rfl dL_law_373 374 rfl ?_
    refine z_iload_n C 3 rfl rfl dL_law_374 375 rfl ?_
    refine z_iconst C (v := nI 1) rfl dL_law_375 376 rfl ?_
    refine z_iadd C dL_law_376 377 rfl ?_
    refine z_xld C hX hbl hbA (by omega) (by omega) dL_law_377 378 rfl ?_
    refine z_callV C [.int (xs (i + 1))] [] (tX4_count_bv K.l K.g x bd tr q p h sb sv (xs (i + 1)) hb1) gL_law_X4_count rfl rfl rfl hdX4_count ⟨Nat.le_of_ble_eq_true rfl, Nat.le_of_ble_eq_true rfl⟩ ⟨Nat.le_of_ble_eq_true rfl, Nat.le_of_ble_eq_true rfl⟩ 0 0 rfl rfl rfl [0] rfl rfl (zlc (N := 16) rfl rfl) [16, 1, 2, 3, 4, 5, 6, 7, 8, 9, 10, 11, 12, 13, 14, 15] rfl (by decide) (fun _ : Unit => [wX K.g x bd tr q p h sb sv, wB K.g bd st r n, wB K.g tr ts tq tn, wP K.g q a0 a1 a2 a3 a4 a5 a6 a7 s0 s1 s2 s3 s4 s5 s6 s7 s8 s9, wPd K.g p fb tx len ex pl sh hu du, wB K.g fb fs fr fn, wH K.g h ho kp nx, wB K.g (ho 0) (hs 0) (hr 0) (hm 0), wB K.g (ho 1) (hs 1) (hr 1) (hm 1), wB K.g (ho 2) (hs 2) (hr 2) (hm 2), wB K.g (ho 3) (hs 3) (hr 3) (hm 3), wB K.g (ho 4) (hs 4) (hr 4) (hm 4), wB K.g (ho 5) (hs 5) (hr 5) (hm 5), wB K.g (sb 0) (ss 0) (sr 0) (sn 0), wB K.g (sb 1) (ss 1) (sr 1) (sn 1), wM K.g y all kept hist kp slo sav beg prt frm tx len sp tol rd]) (fun _ => rfl) rfl rfl (Nat.le_of_ble_eq_true rfl) dL_law_378 381 rfl (fun u9 hu9 => ?_)
    show Z K 104 1616 [wX K.g x bd tr q p h sb sv, wB K.g bd st r n, wB K.g tr ts tq tn, wP K.g q a0 a1 a2 a3 a4 a5 a6 a7 s0 s1 s2 s3 s4 s5 s6 s7 s8 s9, wPd K.g p fb tx len ex pl sh hu du, wB K.g fb fs fr fn, wH K.g h ho kp nx, wB K.g (ho 0) (hs 0) (hr 0) (hm 0), wB K.g (ho 1) (hs 1) (hr 1) (hm 1), wB K.g (ho 2) (hs 2) (hr 2) (hm 2), wB K.g (ho 3) (hs 3) (hr 3) (hm 3), wB K.g (ho 4) (hs 4) (hr 4) (hm 4), wB K.g (ho 5) (hs 5) (hr 5) (hm 5), wB K.g (sb 0) (ss 0) (sr 0) (sn 0), wB K.g (sb 1) (ss 1) (sr 1) (sn 1), wM K.g y all kept hist kp slo sav beg prt frm tx len sp tol rd] [(0, .ref b), (1, .ref (x 0)), (2, .ref (y 0)), (3, .int (nI i))] 381 [.int (-2)]
    refine z_aload_n C 2 rfl rfl dL_law_381 382 rfl ?_
    refine z_aload_n C 0 rfl rfl dL_law_382 383 rfl ?_
    refine z_iload_n C 3 rfl rfl dL_law_383 384 rfl ?_
    refine z_iconst C (v := nI 1) rfl dL_law_384 385 rfl ?_
    refine z_iadd C dL_law_385 386 rfl ?_
    refine z_xld C hX hbl hbA (by omega) (by omega) dL_law_386 387 rfl ?_
    refine z_callV C [.int (xs (i + 1))] [.int (-2)] (tX5_count_bv K.l K.g y all kept hist kp slo sav beg prt frm tx len sp tol rd st r n (xs (i + 1)) (by first | omega | assumption) (by first | omega | assumption) (by first | omega | assumption) (by first | omega | assumption) (by first | omega | assumption) hb1) gL_law_X5_count rfl rfl rfl hdX5_count ⟨Nat.le_of_ble_eq_true rfl, Nat.le_of_ble_eq_true rfl⟩ ⟨Nat.le_of_ble_eq_true rfl, Nat.le_of_ble_eq_true rfl⟩ 15 0 rfl rfl rfl [15] rfl rfl (zlc (N := 16) rfl rfl) [0, 1, 2, 3, 4, 5, 6, 7, 8, 9, 10, 11, 12, 13, 14, 16] rfl (by decide) (fun u : (Nat → Nat) × (Nat → Nat) => match u with | (beg2, prt2) => [wX K.g x bd tr q p h sb sv, wB K.g bd st r n, wB K.g tr ts tq tn, wP K.g q a0 a1 a2 a3 a4 a5 a6 a7 s0 s1 s2 s3 s4 s5 s6 s7 s8 s9, wPd K.g p fb tx len ex pl sh hu du, wB K.g fb fs fr fn, wH K.g h ho kp nx, wB K.g (ho 0) (hs 0) (hr 0) (hm 0), wB K.g (ho 1) (hs 1) (hr 1) (hm 1), wB K.g (ho 2) (hs 2) (hr 2) (hm 2), wB K.g (ho 3) (hs 3) (hr 3) (hm 3), wB K.g (ho 4) (hs 4) (hr 4) (hm 4), wB K.g (ho 5) (hs 5) (hr 5) (hm 5), wB K.g (sb 0) (ss 0) (sr 0) (sn 0), wB K.g (sb 1) (ss 1) (sr 1) (sn 1), wM K.g y all kept hist kp slo sav beg2 prt2 frm tx len sp tol rd]) (fun _ => rfl) rfl rfl (Nat.le_of_ble_eq_true rfl) dL_law_387 390 rfl (fun u9 hu9 => ?_)
    obtain ⟨beg2_1, prt2_2⟩ := u9
    show Z K 104 1616 [wX K.g x bd tr q p h sb sv, wB K.g bd st r n, wB K.g tr ts tq tn, wP K.g q a0 a1 a2 a3 a4 a5 a6 a7 s0 s1 s2 s3 s4 s5 s6 s7 s8 s9, wPd K.g p fb tx len ex pl sh hu du, wB K.g fb fs fr fn, wH K.g h ho kp nx, wB K.g (ho 0) (hs 0) (hr 0) (hm 0), wB K.g (ho 1) (hs 1) (hr 1) (hm 1), wB K.g (ho 2) (hs 2) (hr 2) (hm 2), wB K.g (ho 3) (hs 3) (hr 3) (hm 3), wB K.g (ho 4) (hs 4) (hr 4) (hm 4), wB K.g (ho 5) (hs 5) (hr 5) (hm 5), wB K.g (sb 0) (ss 0) (sr 0) (sn 0), wB K.g (sb 1) (ss 1) (sr 1) (sn 1), wM K.g y all kept hist kp slo sav beg2_1 prt2_2 frm tx len sp tol rd] [(0, .ref b), (1, .ref (x 0)), (2, .ref (y 0)), (3, .int (nI i))] 390 [.int (-2), .int (-2)]
    refine z_icmpI_eq C 648 dL_law_390 (by decide) 393 rfl (fun c9 => ?_) (fun c9 => absurd rfl c9)
    refine z_iinc C hnL 3 rfl (v := nI (i + 5)) (nI_add _ 5) [1, 2, 3, 0] [(0, .ref b), (1, .ref (x 0)), (2, .ref (y 0)), (3, .int (nI (i + 5)))] rfl (Nat.le_of_ble_eq_true rfl) dL_law_648 651 rfl ?_
    refine z_goto C 18 dL_law_651 (by decide) ?_
    exact kk sv st r n ts tq tn a0 a1 a2 a3 a4 a5 a6 a7 s0 s1 s2 s3 s4 s5 s6 s7 s8 s9 tx len ex pl sh hu du fs fr fn kp nx hs hr hm ss sr sn all kept hist slo sav beg2_1 prt2_2 frm sp tol rd ⟨hG, hB, hH, hSl, hT⟩
  obtain ⟨k, hlo1, hhi1, ea1⟩ := rg_nI (lo := 0) (hi := 19) hb1
  refine z_aload_n C 1 rfl rfl dL_law_372 373 rfl ?_
  refine z_aload_n C 0 rfl rfl dL_law_373 374 rfl ?_
  refine z_iload_n C 3 rfl rfl dL_law_374 375 rfl ?_
  refine z_iconst C (v := nI 1) rfl dL_law_375 376 rfl ?_
  refine z_iadd C dL_law_376 377 rfl ?_
  refine z_xld C hX hbl hbA (by omega) (by omega) dL_law_377 378 rfl ?_
  refine z_top ea1 ?_
  refine z_callV C [.int (nI k)] [] (tX4_count_ok K.l K.g x bd tr q p h sb sv a0 a1 a2 a3 a4 a5 a6 a7 s0 s1 s2 s3 s4 s5 s6 s7 s8 s9 st r n fb tx len ex pl sh hu du ho kp nx k (by first | omega | assumption) (by first | omega | assumption) (by first | omega | assumption) (by first | omega | assumption) (by first | omega | assumption)) gL_law_X4_count rfl rfl rfl hdX4_count ⟨Nat.le_of_ble_eq_true rfl, Nat.le_of_ble_eq_true rfl⟩ ⟨Nat.le_of_ble_eq_true rfl, Nat.le_of_ble_eq_true rfl⟩ 0 0 rfl rfl rfl [0, 3, 1, 4, 6] rfl rfl (zlc (N := 16) rfl rfl) [16, 18, 2, 17, 19, 5, 20, 7, 8, 9, 10, 11, 12, 13, 14, 15] rfl (by decide) (fun u : (Nat → Nat) × (Nat → Nat) × (Nat → Nat) × (Nat → Nat) × (Nat → Nat) × (Nat → Nat) × (Nat → Nat) × (Nat → Nat) × (Nat) × (Nat) × (Nat) × (Nat) × (Nat) × (Nat) × (Nat) × (Nat) × (Nat) × (Nat) => match u with | (c0, c1, c2, c3, c4, c5, c6, c7, d1, d2, d3, d4, d5, d6, d7, d8, d9, d0) => [wX K.g x bd tr q p h sb sv, wB K.g bd st r n, wB K.g tr ts tq tn, wP K.g q c0 c1 c2 c3 c4 c5 c6 c7 d0 d1 d2 d3 d4 d5 d6 d7 d8 d9, wPd K.g p fb tx len ex pl sh hu du, wB K.g fb fs fr fn, wH K.g h ho kp nx, wB K.g (ho 0) (hs 0) (hr 0) (hm 0), wB K.g (ho 1) (hs 1) (hr 1) (hm 1), wB K.g (ho 2) (hs 2) (hr 2) (hm 2), wB K.g (ho 3) (hs 3) (hr 3) (hm 3), wB K.g (ho 4) (hs 4) (hr 4) (hm 4), wB K.g (ho 5) (hs 5) (hr 5) (hm 5), wB K.g (sb 0) (ss 0) (sr 0) (sn 0), wB K.g (sb 1) (ss 1) (sr 1) (sn 1), wM K.g y all kept hist kp slo sav beg prt frm tx len sp tol rd]) (fun _ => rfl) rfl rfl (Nat.le_of_ble_eq_true rfl) dL_law_378 381 rfl (fun u9 hu9 => ?_)
  obtain ⟨c0_3, c1_4, c2_5, c3_6, c4_7, c5_8, c6_9, c7_10, d1_11, d2_12, d3_13, d4_14, d5_15, d6_16, d7_17, d8_18, d9_19, d0_20⟩ := u9
  show Z K 104 1616 [wX K.g x bd tr q p h sb sv, wB K.g bd st r n, wB K.g tr ts tq tn, wP K.g q c0_3 c1_4 c2_5 c3_6 c4_7 c5_8 c6_9 c7_10 d0_20 d1_11 d2_12 d3_13 d4_14 d5_15 d6_16 d7_17 d8_18 d9_19, wPd K.g p fb tx len ex pl sh hu du, wB K.g fb fs fr fn, wH K.g h ho kp nx, wB K.g (ho 0) (hs 0) (hr 0) (hm 0), wB K.g (ho 1) (hs 1) (hr 1) (hm 1), wB K.g (ho 2) (hs 2) (hr 2) (hm 2), wB K.g (ho 3) (hs 3) (hr 3) (hm 3), wB K.g (ho 4) (hs 4) (hr 4) (hm 4), wB K.g (ho 5) (hs 5) (hr 5) (hm 5), wB K.g (sb 0) (ss 0) (sr 0) (sn 0), wB K.g (sb 1) (ss 1) (sr 1) (sn 1), wM K.g y all kept hist kp slo sav beg prt frm tx len sp tol rd] [(0, .ref b), (1, .ref (x 0)), (2, .ref (y 0)), (3, .int (nI i))] 381 [.int (nI (CN st r n len kp k))]
  refine z_aload_n C 2 rfl rfl dL_law_381 382 rfl ?_
  refine z_aload_n C 0 rfl rfl dL_law_382 383 rfl ?_
  refine z_iload_n C 3 rfl rfl dL_law_383 384 rfl ?_
  refine z_iconst C (v := nI 1) rfl dL_law_384 385 rfl ?_
  refine z_iadd C dL_law_385 386 rfl ?_
  refine z_xld C hX hbl hbA (by omega) (by omega) dL_law_386 387 rfl ?_
  refine z_top ea1 ?_
  refine z_callV C [.int (nI k)] [.int (nI (CN st r n len kp k))] (tX5_count_ok K.l K.g y all kept hist kp slo sav beg prt frm tx len sp tol rd st r n k (by first | omega | assumption) (by first | omega | assumption) (by first | omega | assumption) (by first | omega | assumption) (by first | omega | assumption) (by first | omega | assumption)) gL_law_X5_count rfl rfl rfl hdX5_count ⟨Nat.le_of_ble_eq_true rfl, Nat.le_of_ble_eq_true rfl⟩ ⟨Nat.le_of_ble_eq_true rfl, Nat.le_of_ble_eq_true rfl⟩ 15 0 rfl rfl rfl [15] rfl rfl (zlc (N := 16) rfl rfl) [0, 1, 2, 3, 4, 5, 6, 7, 8, 9, 10, 11, 12, 13, 14, 16] rfl (by decide) (fun u : (Nat → Nat) × (Nat → Nat) => match u with | (beg2, prt2) => [wX K.g x bd tr q p h sb sv, wB K.g bd st r n, wB K.g tr ts tq tn, wP K.g q c0_3 c1_4 c2_5 c3_6 c4_7 c5_8 c6_9 c7_10 d0_20 d1_11 d2_12 d3_13 d4_14 d5_15 d6_16 d7_17 d8_18 d9_19, wPd K.g p fb tx len ex pl sh hu du, wB K.g fb fs fr fn, wH K.g h ho kp nx, wB K.g (ho 0) (hs 0) (hr 0) (hm 0), wB K.g (ho 1) (hs 1) (hr 1) (hm 1), wB K.g (ho 2) (hs 2) (hr 2) (hm 2), wB K.g (ho 3) (hs 3) (hr 3) (hm 3), wB K.g (ho 4) (hs 4) (hr 4) (hm 4), wB K.g (ho 5) (hs 5) (hr 5) (hm 5), wB K.g (sb 0) (ss 0) (sr 0) (sn 0), wB K.g (sb 1) (ss 1) (sr 1) (sn 1), wM K.g y all kept hist kp slo sav beg2 prt2 frm tx len sp tol rd]) (fun _ => rfl) rfl rfl (Nat.le_of_ble_eq_true rfl) dL_law_387 390 rfl (fun u9 hu9 => ?_)
  obtain ⟨beg2_21, prt2_22⟩ := u9
  show Z K 104 1616 [wX K.g x bd tr q p h sb sv, wB K.g bd st r n, wB K.g tr ts tq tn, wP K.g q c0_3 c1_4 c2_5 c3_6 c4_7 c5_8 c6_9 c7_10 d0_20 d1_11 d2_12 d3_13 d4_14 d5_15 d6_16 d7_17 d8_18 d9_19, wPd K.g p fb tx len ex pl sh hu du, wB K.g fb fs fr fn, wH K.g h ho kp nx, wB K.g (ho 0) (hs 0) (hr 0) (hm 0), wB K.g (ho 1) (hs 1) (hr 1) (hm 1), wB K.g (ho 2) (hs 2) (hr 2) (hm 2), wB K.g (ho 3) (hs 3) (hr 3) (hm 3), wB K.g (ho 4) (hs 4) (hr 4) (hm 4), wB K.g (ho 5) (hs 5) (hr 5) (hm 5), wB K.g (sb 0) (ss 0) (sr 0) (sn 0), wB K.g (sb 1) (ss 1) (sr 1) (sn 1), wM K.g y all kept hist kp slo sav beg2_21 prt2_22 frm tx len sp tol rd] [(0, .ref b), (1, .ref (x 0)), (2, .ref (y 0)), (3, .int (nI i))] 390 [.int (nI (CN st r n len kp k)), .int (nI (CN st r n len kp k))]
  refine z_icmpI_eq C 648 dL_law_390 (by decide) 393 rfl (fun c9 => ?_) (fun c9 => absurd rfl c9)
  refine z_iinc C hnL 3 rfl (v := nI (i + 5)) (nI_add _ 5) [1, 2, 3, 0] [(0, .ref b), (1, .ref (x 0)), (2, .ref (y 0)), (3, .int (nI (i + 5)))] rfl (Nat.le_of_ble_eq_true rfl) dL_law_648 651 rfl ?_
  refine z_goto C 18 dL_law_651 (by decide) ?_
  exact kk sv st r n ts tq tn c0_3 c1_4 c2_5 c3_6 c4_7 c5_8 c6_9 c7_10 d0_20 d1_11 d2_12 d3_13 d4_14 d5_15 d6_16 d7_17 d8_18 d9_19 tx len ex pl sh hu du fs fr fn kp nx hs hr hm ss sr sn all kept hist slo sav beg2_21 prt2_22 frm sp tol rd ⟨hG, hB, hH, hSl, hT⟩

set_option maxHeartbeats 4000000 in
set_option maxRecDepth 100000 in
theorem lb_at {K : zK} (C : Cx K room_1 RL cL_law wsL_law) (hnL : K.nL = 4) (b : Nat) (x bd tr q p fb h : Nat → Nat) (ho sb : Nat → Nat → Nat) (y : Nat → Nat) (L : Nat) (xs : Nat → Int32) (i : Nat) (hLH : LH K b L xs) (hiL : i + 5 ≤ L) (kk : LI K b x bd tr q p fb h ho sb y (i + 5)) (sv : Nat → Bool) (st : Nat → Nat) (r : Nat → Nat → Nat) (n : Nat) (ts : Nat → Nat) (tq : Nat → Nat → Nat) (tn : Nat) (a0 : Nat → Nat) (a1 : Nat → Nat) (a2 : Nat → Nat) (a3 : Nat → Nat) (a4 : Nat → Nat) (a5 : Nat → Nat) (a6 : Nat → Nat) (a7 : Nat → Nat) (s0 : Nat) (s1 : Nat) (s2 : Nat) (s3 : Nat) (s4 : Nat) (s5 : Nat) (s6 : Nat) (s7 : Nat) (s8 : Nat) (s9 : Nat) (tx : Nat → Nat) (len : Nat) (ex : Nat) (pl : Int32) (sh : Int32) (hu : Int32) (du : Int32) (fs : Nat → Nat) (fr : Nat → Nat → Nat) (fn : Nat) (kp : Nat) (nx : Nat) (hs : Nat → Nat → Nat) (hr : Nat → Nat → Nat → Nat) (hm : Nat → Nat) (ss : Nat → Nat → Nat) (sr : Nat → Nat → Nat → Nat) (sn : Nat → Nat) (all : Nat → Nat) (kept : Nat → Nat) (hist : Nat → Nat) (slo : Nat → Nat) (sav : Nat → Nat) (beg : Nat → Nat) (prt : Nat → Nat) (frm : Nat → Nat) (sp : Nat) (tol : Nat → Nat) (rd : Nat) (hI : IV sv st r n tx len kp nx hs hr hm ss sr sn all hist slo sav) : Z K 104 1616 [wX K.g x bd tr q p h sb sv, wB K.g bd st r n, wB K.g tr ts tq tn, wP K.g q a0 a1 a2 a3 a4 a5 a6 a7 s0 s1 s2 s3 s4 s5 s6 s7 s8 s9, wPd K.g p fb tx len ex pl sh hu du, wB K.g fb fs fr fn, wH K.g h ho kp nx, wB K.g (ho 0) (hs 0) (hr 0) (hm 0), wB K.g (ho 1) (hs 1) (hr 1) (hm 1), wB K.g (ho 2) (hs 2) (hr 2) (hm 2), wB K.g (ho 3) (hs 3) (hr 3) (hm 3), wB K.g (ho 4) (hs 4) (hr 4) (hm 4), wB K.g (ho 5) (hs 5) (hr 5) (hm 5), wB K.g (sb 0) (ss 0) (sr 0) (sn 0), wB K.g (sb 1) (ss 1) (sr 1) (sn 1), wM K.g y all kept hist kp slo sav beg prt frm tx len sp tol rd] [(0, .ref b), (1, .ref (x 0)), (2, .ref (y 0)), (3, .int (nI i))] 395 [] := by
  obtain ⟨hX, hbl, hbA, hL, heSet, heOrd⟩ := hLH
  obtain ⟨hG, hB, hH, hSl, hT⟩ := hI
  obtain ⟨hn, hS, hJ, hR⟩ := id hG
  have hk := hH.1
  have hx := hH.2.1
  have hl := hT.1
  have ht := hT.2
  by_cases hb1 : rg (xs (i + 1)).toInt (Int.ofNat 0) (Int.ofNat 99999) = true
  rotate_left
  · skip
    have hb1 : rg (xs (i + 1)).toInt (Int.ofNat 0) (Int.ofNat 99999) = false := eq_false_of_ne_true hb1
    refine z_aload_n C 1 rfl rfl dL_law_395 396 rfl ?_
    refine z_aload_n C 0 rfl rfl dL_law_396 397 rfl ?_
    refine z_iload_n C 3 rfl rfl dL_law_397 398 rfl ?_
    refine z_iconst C (v := nI 1) rfl dL_law_398 399 rfl ?_
    refine z_iadd C dL_law_399 400 rfl ?_
    refine z_xld C hX hbl hbA (by omega) (by omega) dL_law_400 401 rfl ?_
    refine z_aload_n C 0 rfl rfl dL_law_401 402 rfl ?_
    refine z_iload_n C 3 rfl rfl dL_law_402 403 rfl ?_
    refine z_iconst C (v := nI 2) rfl dL_law_403 404 rfl ?_
    refine z_iadd C dL_law_404 405 rfl ?_
    refine z_xld C hX hbl hbA (by omega) (by omega) dL_law_405 406 rfl ?_
    refine z_callV C [.int (xs (i + 1)), .int (xs (i + 2))] [] (tX4_at_bv K.l K.g x bd tr q p h sb sv (xs (i + 1)) (xs (i + 2)) (by rw [hb1]; rfl)) gL_law_X4_at rfl rfl rfl hdX4_at ⟨Nat.le_of_ble_eq_true rfl, Nat.le_of_ble_eq_true rfl⟩ ⟨Nat.le_of_ble_eq_true rfl, Nat.le_of_ble_eq_true rfl⟩ 0 0 rfl rfl rfl [0] rfl rfl (zlc (N := 16) rfl rfl) [16, 1, 2, 3, 4, 5, 6, 7, 8, 9, 10, 11, 12, 13, 14, 15] rfl (by decide) (fun _ : Unit => [wX K.g x bd tr q p h sb sv, wB K.g bd st r n, wB K.g tr ts tq tn, wP K.g q a0 a1 a2 a3 a4 a5 a6 a7 s0 s1 s2 s3 s4 s5 s6 s7 s8 s9, wPd K.g p fb tx len ex pl sh hu du, wB K.g fb fs fr fn, wH K.g h ho kp nx, wB K.g (ho 0) (hs 0) (hr 0) (hm 0), wB K.g (ho 1) (hs 1) (hr 1) (hm 1), wB K.g (ho 2) (hs 2) (hr 2) (hm 2), wB K.g (ho 3) (hs 3) (hr 3) (hm 3), wB K.g (ho 4) (hs 4) (hr 4) (hm 4), wB K.g (ho 5) (hs 5) (hr 5) (hm 5), wB K.g (sb 0) (ss 0) (sr 0) (sn 0), wB K.g (sb 1) (ss 1) (sr 1) (sn 1), wM K.g y all kept hist kp slo sav beg prt frm tx len sp tol rd]) (fun _ => rfl) rfl rfl (Nat.le_of_ble_eq_true rfl) dL_law_406 409 rfl (fun u9 hu9 => ?_)
    show Z K 104 1616 [wX K.g x bd tr q p h sb sv, wB K.g bd st r n, wB K.g tr ts tq tn, wP K.g q a0 a1 a2 a3 a4 a5 a6 a7 s0 s1 s2 s3 s4 s5 s6 s7 s8 s9, wPd K.g p fb tx len ex pl sh hu du, wB K.g fb fs fr fn, wH K.g h ho kp nx, wB K.g (ho 0) (hs 0) (hr 0) (hm 0), wB K.g (ho 1) (hs 1) (hr 1) (hm 1), wB K.g (ho 2) (hs 2) (hr 2) (hm 2), wB K.g (ho 3) (hs 3) (hr 3) (hm 3), wB K.g (ho 4) (hs 4) (hr 4) (hm 4), wB K.g (ho 5) (hs 5) (hr 5) (hm 5), wB K.g (sb 0) (ss 0) (sr 0) (sn 0), wB K.g (sb 1) (ss 1) (sr 1) (sn 1), wM K.g y all kept hist kp slo sav beg prt frm tx len sp tol rd] [(0, .ref b), (1, .ref (x 0)), (2, .ref (y 0)), (3, .int (nI i))] 409 [.int (-2)]
    refine z_aload_n C 2 rfl rfl dL_law_409 410 rfl ?_
    refine z_aload_n C 0 rfl rfl dL_law_410 411 rfl ?_
    refine z_iload_n C 3 rfl rfl dL_law_411 412 rfl ?_
    refine z_iconst C (v := nI 1) rfl dL_law_412 413 rfl ?_
    refine z_iadd C dL_law_413 414 rfl ?_
    refine z_xld C hX hbl hbA (by omega) (by omega) dL_law_414 415 rfl ?_
    refine z_aload_n C 0 rfl rfl dL_law_415 416 rfl ?_
    refine z_iload_n C 3 rfl rfl dL_law_416 417 rfl ?_
    refine z_iconst C (v := nI 2) rfl dL_law_417 418 rfl ?_
    refine z_iadd C dL_law_418 419 rfl ?_
    refine z_xld C hX hbl hbA (by omega) (by omega) dL_law_419 420 rfl ?_
    refine z_callV C [.int (xs (i + 1)), .int (xs (i + 2))] [.int (-2)] (tX5_at_bv K.l K.g y all kept hist kp slo sav beg prt frm tx len sp tol rd (xs (i + 1)) (xs (i + 2)) (by rw [hb1]; rfl)) gL_law_X5_at rfl rfl rfl hdX5_at ⟨Nat.le_of_ble_eq_true rfl, Nat.le_of_ble_eq_true rfl⟩ ⟨Nat.le_of_ble_eq_true rfl, Nat.le_of_ble_eq_true rfl⟩ 15 0 rfl rfl rfl [15] rfl rfl (zlc (N := 16) rfl rfl) [0, 1, 2, 3, 4, 5, 6, 7, 8, 9, 10, 11, 12, 13, 14, 16] rfl (by decide) (fun _ : Unit => [wX K.g x bd tr q p h sb sv, wB K.g bd st r n, wB K.g tr ts tq tn, wP K.g q a0 a1 a2 a3 a4 a5 a6 a7 s0 s1 s2 s3 s4 s5 s6 s7 s8 s9, wPd K.g p fb tx len ex pl sh hu du, wB K.g fb fs fr fn, wH K.g h ho kp nx, wB K.g (ho 0) (hs 0) (hr 0) (hm 0), wB K.g (ho 1) (hs 1) (hr 1) (hm 1), wB K.g (ho 2) (hs 2) (hr 2) (hm 2), wB K.g (ho 3) (hs 3) (hr 3) (hm 3), wB K.g (ho 4) (hs 4) (hr 4) (hm 4), wB K.g (ho 5) (hs 5) (hr 5) (hm 5), wB K.g (sb 0) (ss 0) (sr 0) (sn 0), wB K.g (sb 1) (ss 1) (sr 1) (sn 1), wM K.g y all kept hist kp slo sav beg prt frm tx len sp tol rd]) (fun _ => rfl) rfl rfl (Nat.le_of_ble_eq_true rfl) dL_law_420 423 rfl (fun u9 hu9 => ?_)
    show Z K 104 1616 [wX K.g x bd tr q p h sb sv, wB K.g bd st r n, wB K.g tr ts tq tn, wP K.g q a0 a1 a2 a3 a4 a5 a6 a7 s0 s1 s2 s3 s4 s5 s6 s7 s8 s9, wPd K.g p fb tx len ex pl sh hu du, wB K.g fb fs fr fn, wH K.g h ho kp nx, wB K.g (ho 0) (hs 0) (hr 0) (hm 0), wB K.g (ho 1) (hs 1) (hr 1) (hm 1), wB K.g (ho 2) (hs 2) (hr 2) (hm 2), wB K.g (ho 3) (hs 3) (hr 3) (hm 3), wB K.g (ho 4) (hs 4) (hr 4) (hm 4), wB K.g (ho 5) (hs 5) (hr 5) (hm 5), wB K.g (sb 0) (ss 0) (sr 0) (sn 0), wB K.g (sb 1) (ss 1) (sr 1) (sn 1), wM K.g y all kept hist kp slo sav beg prt frm tx len sp tol rd] [(0, .ref b), (1, .ref (x 0)), (2, .ref (y 0)), (3, .int (nI i))] 423 [.int (-2), .int (-2)]
    refine z_icmpI_eq C 648 dL_law_423 (by decide) 426 rfl (fun c9 => ?_) (fun c9 => absurd rfl c9)
    refine z_iinc C hnL 3 rfl (v := nI (i + 5)) (nI_add _ 5) [1, 2, 3, 0] [(0, .ref b), (1, .ref (x 0)), (2, .ref (y 0)), (3, .int (nI (i + 5)))] rfl (Nat.le_of_ble_eq_true rfl) dL_law_648 651 rfl ?_
    refine z_goto C 18 dL_law_651 (by decide) ?_
    exact kk sv st r n ts tq tn a0 a1 a2 a3 a4 a5 a6 a7 s0 s1 s2 s3 s4 s5 s6 s7 s8 s9 tx len ex pl sh hu du fs fr fn kp nx hs hr hm ss sr sn all kept hist slo sav beg prt frm sp tol rd ⟨hG, hB, hH, hSl, hT⟩
  obtain ⟨m, hlo1, hhi1, ea1⟩ := rg_nI (lo := 0) (hi := 99999) hb1
  by_cases hb2 : rg (xs (i + 2)).toInt (Int.ofNat 0) (Int.ofNat 3) = true
  rotate_left
  · skip
    have hb2 : rg (xs (i + 2)).toInt (Int.ofNat 0) (Int.ofNat 3) = false := eq_false_of_ne_true hb2
    refine z_aload_n C 1 rfl rfl dL_law_395 396 rfl ?_
    refine z_aload_n C 0 rfl rfl dL_law_396 397 rfl ?_
    refine z_iload_n C 3 rfl rfl dL_law_397 398 rfl ?_
    refine z_iconst C (v := nI 1) rfl dL_law_398 399 rfl ?_
    refine z_iadd C dL_law_399 400 rfl ?_
    refine z_xld C hX hbl hbA (by omega) (by omega) dL_law_400 401 rfl ?_
    refine z_aload_n C 0 rfl rfl dL_law_401 402 rfl ?_
    refine z_iload_n C 3 rfl rfl dL_law_402 403 rfl ?_
    refine z_iconst C (v := nI 2) rfl dL_law_403 404 rfl ?_
    refine z_iadd C dL_law_404 405 rfl ?_
    refine z_xld C hX hbl hbA (by omega) (by omega) dL_law_405 406 rfl ?_
    refine z_callV C [.int (xs (i + 1)), .int (xs (i + 2))] [] (tX4_at_bv K.l K.g x bd tr q p h sb sv (xs (i + 1)) (xs (i + 2)) (by rw [hb1, hb2]; rfl)) gL_law_X4_at rfl rfl rfl hdX4_at ⟨Nat.le_of_ble_eq_true rfl, Nat.le_of_ble_eq_true rfl⟩ ⟨Nat.le_of_ble_eq_true rfl, Nat.le_of_ble_eq_true rfl⟩ 0 0 rfl rfl rfl [0] rfl rfl (zlc (N := 16) rfl rfl) [16, 1, 2, 3, 4, 5, 6, 7, 8, 9, 10, 11, 12, 13, 14, 15] rfl (by decide) (fun _ : Unit => [wX K.g x bd tr q p h sb sv, wB K.g bd st r n, wB K.g tr ts tq tn, wP K.g q a0 a1 a2 a3 a4 a5 a6 a7 s0 s1 s2 s3 s4 s5 s6 s7 s8 s9, wPd K.g p fb tx len ex pl sh hu du, wB K.g fb fs fr fn, wH K.g h ho kp nx, wB K.g (ho 0) (hs 0) (hr 0) (hm 0), wB K.g (ho 1) (hs 1) (hr 1) (hm 1), wB K.g (ho 2) (hs 2) (hr 2) (hm 2), wB K.g (ho 3) (hs 3) (hr 3) (hm 3), wB K.g (ho 4) (hs 4) (hr 4) (hm 4), wB K.g (ho 5) (hs 5) (hr 5) (hm 5), wB K.g (sb 0) (ss 0) (sr 0) (sn 0), wB K.g (sb 1) (ss 1) (sr 1) (sn 1), wM K.g y all kept hist kp slo sav beg prt frm tx len sp tol rd]) (fun _ => rfl) rfl rfl (Nat.le_of_ble_eq_true rfl) dL_law_406 409 rfl (fun u9 hu9 => ?_)
    show Z K 104 1616 [wX K.g x bd tr q p h sb sv, wB K.g bd st r n, wB K.g tr ts tq tn, wP K.g q a0 a1 a2 a3 a4 a5 a6 a7 s0 s1 s2 s3 s4 s5 s6 s7 s8 s9, wPd K.g p fb tx len ex pl sh hu du, wB K.g fb fs fr fn, wH K.g h ho kp nx, wB K.g (ho 0) (hs 0) (hr 0) (hm 0), wB K.g (ho 1) (hs 1) (hr 1) (hm 1), wB K.g (ho 2) (hs 2) (hr 2) (hm 2), wB K.g (ho 3) (hs 3) (hr 3) (hm 3), wB K.g (ho 4) (hs 4) (hr 4) (hm 4), wB K.g (ho 5) (hs 5) (hr 5) (hm 5), wB K.g (sb 0) (ss 0) (sr 0) (sn 0), wB K.g (sb 1) (ss 1) (sr 1) (sn 1), wM K.g y all kept hist kp slo sav beg prt frm tx len sp tol rd] [(0, .ref b), (1, .ref (x 0)), (2, .ref (y 0)), (3, .int (nI i))] 409 [.int (-2)]
    refine z_aload_n C 2 rfl rfl dL_law_409 410 rfl ?_
    refine z_aload_n C 0 rfl rfl dL_law_410 411 rfl ?_
    refine z_iload_n C 3 rfl rfl dL_law_411 412 rfl ?_
    refine z_iconst C (v := nI 1) rfl dL_law_412 413 rfl ?_
    refine z_iadd C dL_law_413 414 rfl ?_
    refine z_xld C hX hbl hbA (by omega) (by omega) dL_law_414 415 rfl ?_
    refine z_aload_n C 0 rfl rfl dL_law_415 416 rfl ?_
    refine z_iload_n C 3 rfl rfl dL_law_416 417 rfl ?_
    refine z_iconst C (v := nI 2) rfl dL_law_417 418 rfl ?_
    refine z_iadd C dL_law_418 419 rfl ?_
    refine z_xld C hX hbl hbA (by omega) (by omega) dL_law_419 420 rfl ?_
    refine z_callV C [.int (xs (i + 1)), .int (xs (i + 2))] [.int (-2)] (tX5_at_bv K.l K.g y all kept hist kp slo sav beg prt frm tx len sp tol rd (xs (i + 1)) (xs (i + 2)) (by rw [hb1, hb2]; rfl)) gL_law_X5_at rfl rfl rfl hdX5_at ⟨Nat.le_of_ble_eq_true rfl, Nat.le_of_ble_eq_true rfl⟩ ⟨Nat.le_of_ble_eq_true rfl, Nat.le_of_ble_eq_true rfl⟩ 15 0 rfl rfl rfl [15] rfl rfl (zlc (N := 16) rfl rfl) [0, 1, 2, 3, 4, 5, 6, 7, 8, 9, 10, 11, 12, 13, 14, 16] rfl (by decide) (fun _ : Unit => [wX K.g x bd tr q p h sb sv, wB K.g bd st r n, wB K.g tr ts tq tn, wP K.g q a0 a1 a2 a3 a4 a5 a6 a7 s0 s1 s2 s3 s4 s5 s6 s7 s8 s9, wPd K.g p fb tx len ex pl sh hu du, wB K.g fb fs fr fn, wH K.g h ho kp nx, wB K.g (ho 0) (hs 0) (hr 0) (hm 0), wB K.g (ho 1) (hs 1) (hr 1) (hm 1), wB K.g (ho 2) (hs 2) (hr 2) (hm 2), wB K.g (ho 3) (hs 3) (hr 3) (hm 3), wB K.g (ho 4) (hs 4) (hr 4) (hm 4), wB K.g (ho 5) (hs 5) (hr 5) (hm 5), wB K.g (sb 0) (ss 0) (sr 0) (sn 0), wB K.g (sb 1) (ss 1) (sr 1) (sn 1), wM K.g y all kept hist kp slo sav beg prt frm tx len sp tol rd]) (fun _ => rfl) rfl rfl (Nat.le_of_ble_eq_true rfl) dL_law_420 423 rfl (fun u9 hu9 => ?_)
    show Z K 104 1616 [wX K.g x bd tr q p h sb sv, wB K.g bd st r n, wB K.g tr ts tq tn, wP K.g q a0 a1 a2 a3 a4 a5 a6 a7 s0 s1 s2 s3 s4 s5 s6 s7 s8 s9, wPd K.g p fb tx len ex pl sh hu du, wB K.g fb fs fr fn, wH K.g h ho kp nx, wB K.g (ho 0) (hs 0) (hr 0) (hm 0), wB K.g (ho 1) (hs 1) (hr 1) (hm 1), wB K.g (ho 2) (hs 2) (hr 2) (hm 2), wB K.g (ho 3) (hs 3) (hr 3) (hm 3), wB K.g (ho 4) (hs 4) (hr 4) (hm 4), wB K.g (ho 5) (hs 5) (hr 5) (hm 5), wB K.g (sb 0) (ss 0) (sr 0) (sn 0), wB K.g (sb 1) (ss 1) (sr 1) (sn 1), wM K.g y all kept hist kp slo sav beg prt frm tx len sp tol rd] [(0, .ref b), (1, .ref (x 0)), (2, .ref (y 0)), (3, .int (nI i))] 423 [.int (-2), .int (-2)]
    refine z_icmpI_eq C 648 dL_law_423 (by decide) 426 rfl (fun c9 => ?_) (fun c9 => absurd rfl c9)
    refine z_iinc C hnL 3 rfl (v := nI (i + 5)) (nI_add _ 5) [1, 2, 3, 0] [(0, .ref b), (1, .ref (x 0)), (2, .ref (y 0)), (3, .int (nI (i + 5)))] rfl (Nat.le_of_ble_eq_true rfl) dL_law_648 651 rfl ?_
    refine z_goto C 18 dL_law_651 (by decide) ?_
    exact kk sv st r n ts tq tn a0 a1 a2 a3 a4 a5 a6 a7 s0 s1 s2 s3 s4 s5 s6 s7 s8 s9 tx len ex pl sh hu du fs fr fn kp nx hs hr hm ss sr sn all kept hist slo sav beg prt frm sp tol rd ⟨hG, hB, hH, hSl, hT⟩
  obtain ⟨k, hlo2, hhi2, ea2⟩ := rg_nI (lo := 0) (hi := 3) hb2
  refine z_aload_n C 1 rfl rfl dL_law_395 396 rfl ?_
  refine z_aload_n C 0 rfl rfl dL_law_396 397 rfl ?_
  refine z_iload_n C 3 rfl rfl dL_law_397 398 rfl ?_
  refine z_iconst C (v := nI 1) rfl dL_law_398 399 rfl ?_
  refine z_iadd C dL_law_399 400 rfl ?_
  refine z_xld C hX hbl hbA (by omega) (by omega) dL_law_400 401 rfl ?_
  refine z_top ea1 ?_
  refine z_aload_n C 0 rfl rfl dL_law_401 402 rfl ?_
  refine z_iload_n C 3 rfl rfl dL_law_402 403 rfl ?_
  refine z_iconst C (v := nI 2) rfl dL_law_403 404 rfl ?_
  refine z_iadd C dL_law_404 405 rfl ?_
  refine z_xld C hX hbl hbA (by omega) (by omega) dL_law_405 406 rfl ?_
  refine z_top ea2 ?_
  refine z_callV C [.int (nI m), .int (nI k)] [] (tX4_at_ok K.l K.g x bd tr q p h sb sv a0 a1 a2 a3 a4 a5 a6 a7 s0 s1 s2 s3 s4 s5 s6 s7 s8 s9 st r n m k (by first | omega | assumption) (by first | omega | assumption) (by first | omega | assumption) (by first | omega | assumption) (by first | omega | assumption) (by first | omega | assumption)) gL_law_X4_at rfl rfl rfl hdX4_at ⟨Nat.le_of_ble_eq_true rfl, Nat.le_of_ble_eq_true rfl⟩ ⟨Nat.le_of_ble_eq_true rfl, Nat.le_of_ble_eq_true rfl⟩ 0 0 rfl rfl rfl [0, 3, 1] rfl rfl (zlc (N := 16) rfl rfl) [16, 18, 2, 17, 4, 5, 6, 7, 8, 9, 10, 11, 12, 13, 14, 15] rfl (by decide) (fun u : (Nat → Nat) × (Nat → Nat) × (Nat → Nat) × (Nat → Nat) × (Nat → Nat) × (Nat → Nat) × (Nat → Nat) × (Nat → Nat) × (Nat) × (Nat) × (Nat) × (Nat) × (Nat) × (Nat) × (Nat) × (Nat) × (Nat) => match u with | (c0, c1, c2, c3, c4, c5, c6, c7, d1, d2, d3, d4, d5, d6, d7, d8, d9) => [wX K.g x bd tr q p h sb sv, wB K.g bd st r n, wB K.g tr ts tq tn, wP K.g q c0 c1 c2 c3 c4 c5 c6 c7 n d1 d2 d3 d4 d5 d6 d7 d8 d9, wPd K.g p fb tx len ex pl sh hu du, wB K.g fb fs fr fn, wH K.g h ho kp nx, wB K.g (ho 0) (hs 0) (hr 0) (hm 0), wB K.g (ho 1) (hs 1) (hr 1) (hm 1), wB K.g (ho 2) (hs 2) (hr 2) (hm 2), wB K.g (ho 3) (hs 3) (hr 3) (hm 3), wB K.g (ho 4) (hs 4) (hr 4) (hm 4), wB K.g (ho 5) (hs 5) (hr 5) (hm 5), wB K.g (sb 0) (ss 0) (sr 0) (sn 0), wB K.g (sb 1) (ss 1) (sr 1) (sn 1), wM K.g y all kept hist kp slo sav beg prt frm tx len sp tol rd]) (fun _ => rfl) rfl rfl (Nat.le_of_ble_eq_true rfl) dL_law_406 409 rfl (fun u9 hu9 => ?_)
  obtain ⟨c0_1, c1_2, c2_3, c3_4, c4_5, c5_6, c6_7, c7_8, d1_9, d2_10, d3_11, d4_12, d5_13, d6_14, d7_15, d8_16, d9_17⟩ := u9
  show Z K 104 1616 [wX K.g x bd tr q p h sb sv, wB K.g bd st r n, wB K.g tr ts tq tn, wP K.g q c0_1 c1_2 c2_3 c3_4 c4_5 c5_6 c6_7 c7_8 n d1_9 d2_10 d3_11 d4_12 d5_13 d6_14 d7_15 d8_16 d9_17, wPd K.g p fb tx len ex pl sh hu du, wB K.g fb fs fr fn, wH K.g h ho kp nx, wB K.g (ho 0) (hs 0) (hr 0) (hm 0), wB K.g (ho 1) (hs 1) (hr 1) (hm 1), wB K.g (ho 2) (hs 2) (hr 2) (hm 2), wB K.g (ho 3) (hs 3) (hr 3) (hm 3), wB K.g (ho 4) (hs 4) (hr 4) (hm 4), wB K.g (ho 5) (hs 5) (hr 5) (hm 5), wB K.g (sb 0) (ss 0) (sr 0) (sn 0), wB K.g (sb 1) (ss 1) (sr 1) (sn 1), wM K.g y all kept hist kp slo sav beg prt frm tx len sp tol rd] [(0, .ref b), (1, .ref (x 0)), (2, .ref (y 0)), (3, .int (nI i))] 409 [.int (AT st r n m k)]
  refine z_aload_n C 2 rfl rfl dL_law_409 410 rfl ?_
  refine z_aload_n C 0 rfl rfl dL_law_410 411 rfl ?_
  refine z_iload_n C 3 rfl rfl dL_law_411 412 rfl ?_
  refine z_iconst C (v := nI 1) rfl dL_law_412 413 rfl ?_
  refine z_iadd C dL_law_413 414 rfl ?_
  refine z_xld C hX hbl hbA (by omega) (by omega) dL_law_414 415 rfl ?_
  refine z_top ea1 ?_
  refine z_aload_n C 0 rfl rfl dL_law_415 416 rfl ?_
  refine z_iload_n C 3 rfl rfl dL_law_416 417 rfl ?_
  refine z_iconst C (v := nI 2) rfl dL_law_417 418 rfl ?_
  refine z_iadd C dL_law_418 419 rfl ?_
  refine z_xld C hX hbl hbA (by omega) (by omega) dL_law_419 420 rfl ?_
  refine z_top ea2 ?_
  refine z_callV C [.int (nI m), .int (nI k)] [.int (AT st r n m k)] (tX5_at_ok K.l K.g y all kept hist kp slo sav beg prt frm tx len sp tol rd st r n m k (by first | omega | assumption) (by first | omega | assumption) (by first | omega | assumption) (by first | omega | assumption) (by first | omega | assumption) (by first | omega | assumption) (by first | omega | assumption)) gL_law_X5_at rfl rfl rfl hdX5_at ⟨Nat.le_of_ble_eq_true rfl, Nat.le_of_ble_eq_true rfl⟩ ⟨Nat.le_of_ble_eq_true rfl, Nat.le_of_ble_eq_true rfl⟩ 15 0 rfl rfl rfl [15] rfl rfl (zlc (N := 16) rfl rfl) [0, 1, 2, 3, 4, 5, 6, 7, 8, 9, 10, 11, 12, 13, 14, 16] rfl (by decide) (fun u : (Nat → Nat) × (Nat → Nat) => match u with | (beg2, prt2) => [wX K.g x bd tr q p h sb sv, wB K.g bd st r n, wB K.g tr ts tq tn, wP K.g q c0_1 c1_2 c2_3 c3_4 c4_5 c5_6 c6_7 c7_8 n d1_9 d2_10 d3_11 d4_12 d5_13 d6_14 d7_15 d8_16 d9_17, wPd K.g p fb tx len ex pl sh hu du, wB K.g fb fs fr fn, wH K.g h ho kp nx, wB K.g (ho 0) (hs 0) (hr 0) (hm 0), wB K.g (ho 1) (hs 1) (hr 1) (hm 1), wB K.g (ho 2) (hs 2) (hr 2) (hm 2), wB K.g (ho 3) (hs 3) (hr 3) (hm 3), wB K.g (ho 4) (hs 4) (hr 4) (hm 4), wB K.g (ho 5) (hs 5) (hr 5) (hm 5), wB K.g (sb 0) (ss 0) (sr 0) (sn 0), wB K.g (sb 1) (ss 1) (sr 1) (sn 1), wM K.g y all kept hist kp slo sav beg2 prt2 frm tx len sp tol rd]) (fun _ => rfl) rfl rfl (Nat.le_of_ble_eq_true rfl) dL_law_420 423 rfl (fun u9 hu9 => ?_)
  obtain ⟨bg2, pr2⟩ := u9
  show Z K 104 1616 [wX K.g x bd tr q p h sb sv, wB K.g bd st r n, wB K.g tr ts tq tn, wP K.g q c0_1 c1_2 c2_3 c3_4 c4_5 c5_6 c6_7 c7_8 n d1_9 d2_10 d3_11 d4_12 d5_13 d6_14 d7_15 d8_16 d9_17, wPd K.g p fb tx len ex pl sh hu du, wB K.g fb fs fr fn, wH K.g h ho kp nx, wB K.g (ho 0) (hs 0) (hr 0) (hm 0), wB K.g (ho 1) (hs 1) (hr 1) (hm 1), wB K.g (ho 2) (hs 2) (hr 2) (hm 2), wB K.g (ho 3) (hs 3) (hr 3) (hm 3), wB K.g (ho 4) (hs 4) (hr 4) (hm 4), wB K.g (ho 5) (hs 5) (hr 5) (hm 5), wB K.g (sb 0) (ss 0) (sr 0) (sn 0), wB K.g (sb 1) (ss 1) (sr 1) (sn 1), wM K.g y all kept hist kp slo sav bg2 pr2 frm tx len sp tol rd] [(0, .ref b), (1, .ref (x 0)), (2, .ref (y 0)), (3, .int (nI i))] 423 [.int (AT st r n m k), .int (AT st r n m k)]
  refine z_icmpI_eq C 648 dL_law_423 (by decide) 426 rfl (fun c9 => ?_) (fun c9 => absurd rfl c9)
  refine z_iinc C hnL 3 rfl (v := nI (i + 5)) (nI_add _ 5) [1, 2, 3, 0] [(0, .ref b), (1, .ref (x 0)), (2, .ref (y 0)), (3, .int (nI (i + 5)))] rfl (Nat.le_of_ble_eq_true rfl) dL_law_648 651 rfl ?_
  refine z_goto C 18 dL_law_651 (by decide) ?_
  exact kk sv st r n ts tq tn c0_1 c1_2 c2_3 c3_4 c4_5 c5_6 c6_7 c7_8 n d1_9 d2_10 d3_11 d4_12 d5_13 d6_14 d7_15 d8_16 d9_17 tx len ex pl sh hu du fs fr fn kp nx hs hr hm ss sr sn all kept hist slo sav bg2 pr2 frm sp tol rd ⟨hG, hB, hH, hSl, hT⟩

set_option maxHeartbeats 4000000 in
set_option maxRecDepth 100000 in
theorem lb_ifOrdered {K : zK} (C : Cx K room_1 RL cL_law wsL_law) (hnL : K.nL = 4) (b : Nat) (x bd tr q p fb h : Nat → Nat) (ho sb : Nat → Nat → Nat) (y : Nat → Nat) (L : Nat) (xs : Nat → Int32) (i : Nat) (hLH : LH K b L xs) (hiL : i + 5 ≤ L) (kk : LI K b x bd tr q p fb h ho sb y (i + 5)) (sv : Nat → Bool) (st : Nat → Nat) (r : Nat → Nat → Nat) (n : Nat) (ts : Nat → Nat) (tq : Nat → Nat → Nat) (tn : Nat) (a0 : Nat → Nat) (a1 : Nat → Nat) (a2 : Nat → Nat) (a3 : Nat → Nat) (a4 : Nat → Nat) (a5 : Nat → Nat) (a6 : Nat → Nat) (a7 : Nat → Nat) (s0 : Nat) (s1 : Nat) (s2 : Nat) (s3 : Nat) (s4 : Nat) (s5 : Nat) (s6 : Nat) (s7 : Nat) (s8 : Nat) (s9 : Nat) (tx : Nat → Nat) (len : Nat) (ex : Nat) (pl : Int32) (sh : Int32) (hu : Int32) (du : Int32) (fs : Nat → Nat) (fr : Nat → Nat → Nat) (fn : Nat) (kp : Nat) (nx : Nat) (hs : Nat → Nat → Nat) (hr : Nat → Nat → Nat → Nat) (hm : Nat → Nat) (ss : Nat → Nat → Nat) (sr : Nat → Nat → Nat → Nat) (sn : Nat → Nat) (all : Nat → Nat) (kept : Nat → Nat) (hist : Nat → Nat) (slo : Nat → Nat) (sav : Nat → Nat) (beg : Nat → Nat) (prt : Nat → Nat) (frm : Nat → Nat) (sp : Nat) (tol : Nat → Nat) (rd : Nat) (hI : IV sv st r n tx len kp nx hs hr hm ss sr sn all hist slo sav) : Z K 104 1616 [wX K.g x bd tr q p h sb sv, wB K.g bd st r n, wB K.g tr ts tq tn, wP K.g q a0 a1 a2 a3 a4 a5 a6 a7 s0 s1 s2 s3 s4 s5 s6 s7 s8 s9, wPd K.g p fb tx len ex pl sh hu du, wB K.g fb fs fr fn, wH K.g h ho kp nx, wB K.g (ho 0) (hs 0) (hr 0) (hm 0), wB K.g (ho 1) (hs 1) (hr 1) (hm 1), wB K.g (ho 2) (hs 2) (hr 2) (hm 2), wB K.g (ho 3) (hs 3) (hr 3) (hm 3), wB K.g (ho 4) (hs 4) (hr 4) (hm 4), wB K.g (ho 5) (hs 5) (hr 5) (hm 5), wB K.g (sb 0) (ss 0) (sr 0) (sn 0), wB K.g (sb 1) (ss 1) (sr 1) (sn 1), wM K.g y all kept hist kp slo sav beg prt frm tx len sp tol rd] [(0, .ref b), (1, .ref (x 0)), (2, .ref (y 0)), (3, .int (nI i))] 428 [] := by
  obtain ⟨hX, hbl, hbA, hL, heSet, heOrd⟩ := hLH
  obtain ⟨hG, hB, hH, hSl, hT⟩ := hI
  obtain ⟨hn, hS, hJ, hR⟩ := id hG
  have hk := hH.1
  have hx := hH.2.1
  have hl := hT.1
  have ht := hT.2
  by_cases hb1 : rg (xs (i + 1)).toInt (Int.ofNat 0) (Int.ofNat 3) = true
  rotate_left
  · skip
    have hb1 : rg (xs (i + 1)).toInt (Int.ofNat 0) (Int.ofNat 3) = false := eq_false_of_ne_true hb1
    refine z_aload_n C 1 rfl rfl dL_law_428 429 rfl ?_
    refine z_aload_n C 0 rfl rfl dL_law_429 430 rfl ?_
    refine z_iload_n C 3 rfl rfl dL_law_430 431 rfl ?_
    refine z_iconst C (v := nI 1) rfl dL_law_431 432 rfl ?_
    refine z_iadd C dL_law_432 433 rfl ?_
    refine z_xld C hX hbl hbA (by omega) (by omega) dL_law_433 434 rfl ?_
    refine z_aload_n C 0 rfl rfl dL_law_434 435 rfl ?_
    refine z_iload_n C 3 rfl rfl dL_law_435 436 rfl ?_
    refine z_iconst C (v := nI 2) rfl dL_law_436 437 rfl ?_
    refine z_iadd C dL_law_437 438 rfl ?_
    refine z_xld C hX hbl hbA (by omega) (by omega) dL_law_438 439 rfl ?_
    refine z_callVE (E := eOrd) (fun _ _ _ e e2 h => eOrd.same e e2 h) (fun _ _ _ hS9 hW9 hAB => eOrd.later heOrd hS9 hW9 hAB) C [.int (xs (i + 1)), .int (xs (i + 2))] [] (tX4_ifOrdered_bv K.l K.g x bd tr q p h sb sv (xs (i + 1)) (xs (i + 2)) (by rw [hb1]; rfl)) gL_law_X4_ifOrdered rfl rfl rfl hdX4_ifOrdered ⟨Nat.le_of_ble_eq_true rfl, Nat.le_of_ble_eq_true rfl⟩ ⟨Nat.le_of_ble_eq_true rfl, Nat.le_of_ble_eq_true rfl⟩ 0 0 rfl rfl rfl [0] rfl rfl (zlc (N := 16) rfl rfl) [16, 1, 2, 3, 4, 5, 6, 7, 8, 9, 10, 11, 12, 13, 14, 15] rfl (by decide) (fun _ : Unit => [wX K.g x bd tr q p h sb sv, wB K.g bd st r n, wB K.g tr ts tq tn, wP K.g q a0 a1 a2 a3 a4 a5 a6 a7 s0 s1 s2 s3 s4 s5 s6 s7 s8 s9, wPd K.g p fb tx len ex pl sh hu du, wB K.g fb fs fr fn, wH K.g h ho kp nx, wB K.g (ho 0) (hs 0) (hr 0) (hm 0), wB K.g (ho 1) (hs 1) (hr 1) (hm 1), wB K.g (ho 2) (hs 2) (hr 2) (hm 2), wB K.g (ho 3) (hs 3) (hr 3) (hm 3), wB K.g (ho 4) (hs 4) (hr 4) (hm 4), wB K.g (ho 5) (hs 5) (hr 5) (hm 5), wB K.g (sb 0) (ss 0) (sr 0) (sn 0), wB K.g (sb 1) (ss 1) (sr 1) (sn 1), wM K.g y all kept hist kp slo sav beg prt frm tx len sp tol rd]) (fun _ => rfl) rfl rfl (Nat.le_of_ble_eq_true rfl) dL_law_439 442 rfl (fun u9 hu9 => ?_)
    show Z K 104 1616 [wX K.g x bd tr q p h sb sv, wB K.g bd st r n, wB K.g tr ts tq tn, wP K.g q a0 a1 a2 a3 a4 a5 a6 a7 s0 s1 s2 s3 s4 s5 s6 s7 s8 s9, wPd K.g p fb tx len ex pl sh hu du, wB K.g fb fs fr fn, wH K.g h ho kp nx, wB K.g (ho 0) (hs 0) (hr 0) (hm 0), wB K.g (ho 1) (hs 1) (hr 1) (hm 1), wB K.g (ho 2) (hs 2) (hr 2) (hm 2), wB K.g (ho 3) (hs 3) (hr 3) (hm 3), wB K.g (ho 4) (hs 4) (hr 4) (hm 4), wB K.g (ho 5) (hs 5) (hr 5) (hm 5), wB K.g (sb 0) (ss 0) (sr 0) (sn 0), wB K.g (sb 1) (ss 1) (sr 1) (sn 1), wM K.g y all kept hist kp slo sav beg prt frm tx len sp tol rd] [(0, .ref b), (1, .ref (x 0)), (2, .ref (y 0)), (3, .int (nI i))] 442 [.int (-2)]
    refine z_aload_n C 2 rfl rfl dL_law_442 443 rfl ?_
    refine z_aload_n C 0 rfl rfl dL_law_443 444 rfl ?_
    refine z_iload_n C 3 rfl rfl dL_law_444 445 rfl ?_
    refine z_iconst C (v := nI 1) rfl dL_law_445 446 rfl ?_
    refine z_iadd C dL_law_446 447 rfl ?_
    refine z_xld C hX hbl hbA (by omega) (by omega) dL_law_447 448 rfl ?_
    refine z_aload_n C 0 rfl rfl dL_law_448 449 rfl ?_
    refine z_iload_n C 3 rfl rfl dL_law_449 450 rfl ?_
    refine z_iconst C (v := nI 2) rfl dL_law_450 451 rfl ?_
    refine z_iadd C dL_law_451 452 rfl ?_
    refine z_xld C hX hbl hbA (by omega) (by omega) dL_law_452 453 rfl ?_
    refine z_callV C [.int (xs (i + 1)), .int (xs (i + 2))] [.int (-2)] (tX5_ifOrdered_bv K.l K.g y all kept hist kp slo sav beg prt frm tx len sp tol rd (xs (i + 1)) (xs (i + 2)) (by rw [hb1]; rfl)) gL_law_X5_ifOrdered rfl rfl rfl hdX5_ifOrdered ⟨Nat.le_of_ble_eq_true rfl, Nat.le_of_ble_eq_true rfl⟩ ⟨Nat.le_of_ble_eq_true rfl, Nat.le_of_ble_eq_true rfl⟩ 15 0 rfl rfl rfl [15] rfl rfl (zlc (N := 16) rfl rfl) [0, 1, 2, 3, 4, 5, 6, 7, 8, 9, 10, 11, 12, 13, 14, 16] rfl (by decide) (fun _ : Unit => [wX K.g x bd tr q p h sb sv, wB K.g bd st r n, wB K.g tr ts tq tn, wP K.g q a0 a1 a2 a3 a4 a5 a6 a7 s0 s1 s2 s3 s4 s5 s6 s7 s8 s9, wPd K.g p fb tx len ex pl sh hu du, wB K.g fb fs fr fn, wH K.g h ho kp nx, wB K.g (ho 0) (hs 0) (hr 0) (hm 0), wB K.g (ho 1) (hs 1) (hr 1) (hm 1), wB K.g (ho 2) (hs 2) (hr 2) (hm 2), wB K.g (ho 3) (hs 3) (hr 3) (hm 3), wB K.g (ho 4) (hs 4) (hr 4) (hm 4), wB K.g (ho 5) (hs 5) (hr 5) (hm 5), wB K.g (sb 0) (ss 0) (sr 0) (sn 0), wB K.g (sb 1) (ss 1) (sr 1) (sn 1), wM K.g y all kept hist kp slo sav beg prt frm tx len sp tol rd]) (fun _ => rfl) rfl rfl (Nat.le_of_ble_eq_true rfl) dL_law_453 456 rfl (fun u9 hu9 => ?_)
    show Z K 104 1616 [wX K.g x bd tr q p h sb sv, wB K.g bd st r n, wB K.g tr ts tq tn, wP K.g q a0 a1 a2 a3 a4 a5 a6 a7 s0 s1 s2 s3 s4 s5 s6 s7 s8 s9, wPd K.g p fb tx len ex pl sh hu du, wB K.g fb fs fr fn, wH K.g h ho kp nx, wB K.g (ho 0) (hs 0) (hr 0) (hm 0), wB K.g (ho 1) (hs 1) (hr 1) (hm 1), wB K.g (ho 2) (hs 2) (hr 2) (hm 2), wB K.g (ho 3) (hs 3) (hr 3) (hm 3), wB K.g (ho 4) (hs 4) (hr 4) (hm 4), wB K.g (ho 5) (hs 5) (hr 5) (hm 5), wB K.g (sb 0) (ss 0) (sr 0) (sn 0), wB K.g (sb 1) (ss 1) (sr 1) (sn 1), wM K.g y all kept hist kp slo sav beg prt frm tx len sp tol rd] [(0, .ref b), (1, .ref (x 0)), (2, .ref (y 0)), (3, .int (nI i))] 456 [.int (-2), .int (-2)]
    refine z_icmpI_eq C 648 dL_law_456 (by decide) 459 rfl (fun c9 => ?_) (fun c9 => absurd rfl c9)
    refine z_iinc C hnL 3 rfl (v := nI (i + 5)) (nI_add _ 5) [1, 2, 3, 0] [(0, .ref b), (1, .ref (x 0)), (2, .ref (y 0)), (3, .int (nI (i + 5)))] rfl (Nat.le_of_ble_eq_true rfl) dL_law_648 651 rfl ?_
    refine z_goto C 18 dL_law_651 (by decide) ?_
    exact kk sv st r n ts tq tn a0 a1 a2 a3 a4 a5 a6 a7 s0 s1 s2 s3 s4 s5 s6 s7 s8 s9 tx len ex pl sh hu du fs fr fn kp nx hs hr hm ss sr sn all kept hist slo sav beg prt frm sp tol rd ⟨hG, hB, hH, hSl, hT⟩
  obtain ⟨m, hlo1, hhi1, ea1⟩ := rg_nI (lo := 0) (hi := 3) hb1
  by_cases hb2 : rg (xs (i + 2)).toInt (Int.ofNat 0) (Int.ofNat 3) = true
  rotate_left
  · skip
    have hb2 : rg (xs (i + 2)).toInt (Int.ofNat 0) (Int.ofNat 3) = false := eq_false_of_ne_true hb2
    refine z_aload_n C 1 rfl rfl dL_law_428 429 rfl ?_
    refine z_aload_n C 0 rfl rfl dL_law_429 430 rfl ?_
    refine z_iload_n C 3 rfl rfl dL_law_430 431 rfl ?_
    refine z_iconst C (v := nI 1) rfl dL_law_431 432 rfl ?_
    refine z_iadd C dL_law_432 433 rfl ?_
    refine z_xld C hX hbl hbA (by omega) (by omega) dL_law_433 434 rfl ?_
    refine z_aload_n C 0 rfl rfl dL_law_434 435 rfl ?_
    refine z_iload_n C 3 rfl rfl dL_law_435 436 rfl ?_
    refine z_iconst C (v := nI 2) rfl dL_law_436 437 rfl ?_
    refine z_iadd C dL_law_437 438 rfl ?_
    refine z_xld C hX hbl hbA (by omega) (by omega) dL_law_438 439 rfl ?_
    refine z_callVE (E := eOrd) (fun _ _ _ e e2 h => eOrd.same e e2 h) (fun _ _ _ hS9 hW9 hAB => eOrd.later heOrd hS9 hW9 hAB) C [.int (xs (i + 1)), .int (xs (i + 2))] [] (tX4_ifOrdered_bv K.l K.g x bd tr q p h sb sv (xs (i + 1)) (xs (i + 2)) (by rw [hb1, hb2]; rfl)) gL_law_X4_ifOrdered rfl rfl rfl hdX4_ifOrdered ⟨Nat.le_of_ble_eq_true rfl, Nat.le_of_ble_eq_true rfl⟩ ⟨Nat.le_of_ble_eq_true rfl, Nat.le_of_ble_eq_true rfl⟩ 0 0 rfl rfl rfl [0] rfl rfl (zlc (N := 16) rfl rfl) [16, 1, 2, 3, 4, 5, 6, 7, 8, 9, 10, 11, 12, 13, 14, 15] rfl (by decide) (fun _ : Unit => [wX K.g x bd tr q p h sb sv, wB K.g bd st r n, wB K.g tr ts tq tn, wP K.g q a0 a1 a2 a3 a4 a5 a6 a7 s0 s1 s2 s3 s4 s5 s6 s7 s8 s9, wPd K.g p fb tx len ex pl sh hu du, wB K.g fb fs fr fn, wH K.g h ho kp nx, wB K.g (ho 0) (hs 0) (hr 0) (hm 0), wB K.g (ho 1) (hs 1) (hr 1) (hm 1), wB K.g (ho 2) (hs 2) (hr 2) (hm 2), wB K.g (ho 3) (hs 3) (hr 3) (hm 3), wB K.g (ho 4) (hs 4) (hr 4) (hm 4), wB K.g (ho 5) (hs 5) (hr 5) (hm 5), wB K.g (sb 0) (ss 0) (sr 0) (sn 0), wB K.g (sb 1) (ss 1) (sr 1) (sn 1), wM K.g y all kept hist kp slo sav beg prt frm tx len sp tol rd]) (fun _ => rfl) rfl rfl (Nat.le_of_ble_eq_true rfl) dL_law_439 442 rfl (fun u9 hu9 => ?_)
    show Z K 104 1616 [wX K.g x bd tr q p h sb sv, wB K.g bd st r n, wB K.g tr ts tq tn, wP K.g q a0 a1 a2 a3 a4 a5 a6 a7 s0 s1 s2 s3 s4 s5 s6 s7 s8 s9, wPd K.g p fb tx len ex pl sh hu du, wB K.g fb fs fr fn, wH K.g h ho kp nx, wB K.g (ho 0) (hs 0) (hr 0) (hm 0), wB K.g (ho 1) (hs 1) (hr 1) (hm 1), wB K.g (ho 2) (hs 2) (hr 2) (hm 2), wB K.g (ho 3) (hs 3) (hr 3) (hm 3), wB K.g (ho 4) (hs 4) (hr 4) (hm 4), wB K.g (ho 5) (hs 5) (hr 5) (hm 5), wB K.g (sb 0) (ss 0) (sr 0) (sn 0), wB K.g (sb 1) (ss 1) (sr 1) (sn 1), wM K.g y all kept hist kp slo sav beg prt frm tx len sp tol rd] [(0, .ref b), (1, .ref (x 0)), (2, .ref (y 0)), (3, .int (nI i))] 442 [.int (-2)]
    refine z_aload_n C 2 rfl rfl dL_law_442 443 rfl ?_
    refine z_aload_n C 0 rfl rfl dL_law_443 444 rfl ?_
    refine z_iload_n C 3 rfl rfl dL_law_444 445 rfl ?_
    refine z_iconst C (v := nI 1) rfl dL_law_445 446 rfl ?_
    refine z_iadd C dL_law_446 447 rfl ?_
    refine z_xld C hX hbl hbA (by omega) (by omega) dL_law_447 448 rfl ?_
    refine z_aload_n C 0 rfl rfl dL_law_448 449 rfl ?_
    refine z_iload_n C 3 rfl rfl dL_law_449 450 rfl ?_
    refine z_iconst C (v := nI 2) rfl dL_law_450 451 rfl ?_
    refine z_iadd C dL_law_451 452 rfl ?_
    refine z_xld C hX hbl hbA (by omega) (by omega) dL_law_452 453 rfl ?_
    refine z_callV C [.int (xs (i + 1)), .int (xs (i + 2))] [.int (-2)] (tX5_ifOrdered_bv K.l K.g y all kept hist kp slo sav beg prt frm tx len sp tol rd (xs (i + 1)) (xs (i + 2)) (by rw [hb1, hb2]; rfl)) gL_law_X5_ifOrdered rfl rfl rfl hdX5_ifOrdered ⟨Nat.le_of_ble_eq_true rfl, Nat.le_of_ble_eq_true rfl⟩ ⟨Nat.le_of_ble_eq_true rfl, Nat.le_of_ble_eq_true rfl⟩ 15 0 rfl rfl rfl [15] rfl rfl (zlc (N := 16) rfl rfl) [0, 1, 2, 3, 4, 5, 6, 7, 8, 9, 10, 11, 12, 13, 14, 16] rfl (by decide) (fun _ : Unit => [wX K.g x bd tr q p h sb sv, wB K.g bd st r n, wB K.g tr ts tq tn, wP K.g q a0 a1 a2 a3 a4 a5 a6 a7 s0 s1 s2 s3 s4 s5 s6 s7 s8 s9, wPd K.g p fb tx len ex pl sh hu du, wB K.g fb fs fr fn, wH K.g h ho kp nx, wB K.g (ho 0) (hs 0) (hr 0) (hm 0), wB K.g (ho 1) (hs 1) (hr 1) (hm 1), wB K.g (ho 2) (hs 2) (hr 2) (hm 2), wB K.g (ho 3) (hs 3) (hr 3) (hm 3), wB K.g (ho 4) (hs 4) (hr 4) (hm 4), wB K.g (ho 5) (hs 5) (hr 5) (hm 5), wB K.g (sb 0) (ss 0) (sr 0) (sn 0), wB K.g (sb 1) (ss 1) (sr 1) (sn 1), wM K.g y all kept hist kp slo sav beg prt frm tx len sp tol rd]) (fun _ => rfl) rfl rfl (Nat.le_of_ble_eq_true rfl) dL_law_453 456 rfl (fun u9 hu9 => ?_)
    show Z K 104 1616 [wX K.g x bd tr q p h sb sv, wB K.g bd st r n, wB K.g tr ts tq tn, wP K.g q a0 a1 a2 a3 a4 a5 a6 a7 s0 s1 s2 s3 s4 s5 s6 s7 s8 s9, wPd K.g p fb tx len ex pl sh hu du, wB K.g fb fs fr fn, wH K.g h ho kp nx, wB K.g (ho 0) (hs 0) (hr 0) (hm 0), wB K.g (ho 1) (hs 1) (hr 1) (hm 1), wB K.g (ho 2) (hs 2) (hr 2) (hm 2), wB K.g (ho 3) (hs 3) (hr 3) (hm 3), wB K.g (ho 4) (hs 4) (hr 4) (hm 4), wB K.g (ho 5) (hs 5) (hr 5) (hm 5), wB K.g (sb 0) (ss 0) (sr 0) (sn 0), wB K.g (sb 1) (ss 1) (sr 1) (sn 1), wM K.g y all kept hist kp slo sav beg prt frm tx len sp tol rd] [(0, .ref b), (1, .ref (x 0)), (2, .ref (y 0)), (3, .int (nI i))] 456 [.int (-2), .int (-2)]
    refine z_icmpI_eq C 648 dL_law_456 (by decide) 459 rfl (fun c9 => ?_) (fun c9 => absurd rfl c9)
    refine z_iinc C hnL 3 rfl (v := nI (i + 5)) (nI_add _ 5) [1, 2, 3, 0] [(0, .ref b), (1, .ref (x 0)), (2, .ref (y 0)), (3, .int (nI (i + 5)))] rfl (Nat.le_of_ble_eq_true rfl) dL_law_648 651 rfl ?_
    refine z_goto C 18 dL_law_651 (by decide) ?_
    exact kk sv st r n ts tq tn a0 a1 a2 a3 a4 a5 a6 a7 s0 s1 s2 s3 s4 s5 s6 s7 s8 s9 tx len ex pl sh hu du fs fr fn kp nx hs hr hm ss sr sn all kept hist slo sav beg prt frm sp tol rd ⟨hG, hB, hH, hSl, hT⟩
  obtain ⟨k, hlo2, hhi2, ea2⟩ := rg_nI (lo := 0) (hi := 3) hb2
  refine z_aload_n C 1 rfl rfl dL_law_428 429 rfl ?_
  refine z_aload_n C 0 rfl rfl dL_law_429 430 rfl ?_
  refine z_iload_n C 3 rfl rfl dL_law_430 431 rfl ?_
  refine z_iconst C (v := nI 1) rfl dL_law_431 432 rfl ?_
  refine z_iadd C dL_law_432 433 rfl ?_
  refine z_xld C hX hbl hbA (by omega) (by omega) dL_law_433 434 rfl ?_
  refine z_top ea1 ?_
  refine z_aload_n C 0 rfl rfl dL_law_434 435 rfl ?_
  refine z_iload_n C 3 rfl rfl dL_law_435 436 rfl ?_
  refine z_iconst C (v := nI 2) rfl dL_law_436 437 rfl ?_
  refine z_iadd C dL_law_437 438 rfl ?_
  refine z_xld C hX hbl hbA (by omega) (by omega) dL_law_438 439 rfl ?_
  refine z_top ea2 ?_
  refine z_callVE (E := eOrd) (fun _ _ _ e e2 h => eOrd.same e e2 h) (fun _ _ _ hS9 hW9 hAB => eOrd.later heOrd hS9 hW9 hAB) C [.int (nI m), .int (nI k)] [] (tX4_ifOrdered_ok K.l K.g x bd tr q p h sb sv a0 a1 a2 a3 a4 a5 a6 a7 s0 s1 s2 s3 s4 s5 s6 s7 s8 s9 st r n ts tq tn m k (by first | omega | assumption) (by first | omega | assumption) (by first | omega | assumption) (by first | omega | assumption) (by first | omega | assumption) (by first | omega | assumption)) gL_law_X4_ifOrdered rfl rfl rfl hdX4_ifOrdered ⟨Nat.le_of_ble_eq_true rfl, Nat.le_of_ble_eq_true rfl⟩ ⟨Nat.le_of_ble_eq_true rfl, Nat.le_of_ble_eq_true rfl⟩ 0 0 rfl rfl rfl [0, 3, 1, 2] rfl rfl (zlc (N := 16) rfl rfl) [16, 18, 19, 17, 4, 5, 6, 7, 8, 9, 10, 11, 12, 13, 14, 15] rfl (by decide) (fun u : (Nat → Nat) × (Nat → Nat) × (Nat → Nat) × (Nat → Nat) × (Nat → Nat) × (Nat → Nat) × (Nat → Nat) × (Nat → Nat) × (Nat) × (Nat) × (Nat) × (Nat) × (Nat) × (Nat) × (Nat) × (Nat) × (Nat) => match u with | (c0, c1, c2, c3, c4, c5, c6, c7, d1, d2, d3, d4, d5, d6, d7, d8, d9) => [wX K.g x bd tr q p h sb sv, wB K.g bd st r n, wB K.g tr st (arR r (plc (r (foR m)) n) n) n, wP K.g q c0 c1 c2 c3 c4 c5 c6 c7 n d1 d2 d3 d4 d5 d6 d7 d8 d9, wPd K.g p fb tx len ex pl sh hu du, wB K.g fb fs fr fn, wH K.g h ho kp nx, wB K.g (ho 0) (hs 0) (hr 0) (hm 0), wB K.g (ho 1) (hs 1) (hr 1) (hm 1), wB K.g (ho 2) (hs 2) (hr 2) (hm 2), wB K.g (ho 3) (hs 3) (hr 3) (hm 3), wB K.g (ho 4) (hs 4) (hr 4) (hm 4), wB K.g (ho 5) (hs 5) (hr 5) (hm 5), wB K.g (sb 0) (ss 0) (sr 0) (sn 0), wB K.g (sb 1) (ss 1) (sr 1) (sn 1), wM K.g y all kept hist kp slo sav beg prt frm tx len sp tol rd]) (fun _ => rfl) rfl rfl (Nat.le_of_ble_eq_true rfl) dL_law_439 442 rfl (fun u9 hu9 => ?_)
  obtain ⟨c0_1, c1_2, c2_3, c3_4, c4_5, c5_6, c6_7, c7_8, d1_9, d2_10, d3_11, d4_12, d5_13, d6_14, d7_15, d8_16, d9_17⟩ := u9
  show Z K 104 1616 [wX K.g x bd tr q p h sb sv, wB K.g bd st r n, wB K.g tr st (arR r (plc (r (foR m)) n) n) n, wP K.g q c0_1 c1_2 c2_3 c3_4 c4_5 c5_6 c6_7 c7_8 n d1_9 d2_10 d3_11 d4_12 d5_13 d6_14 d7_15 d8_16 d9_17, wPd K.g p fb tx len ex pl sh hu du, wB K.g fb fs fr fn, wH K.g h ho kp nx, wB K.g (ho 0) (hs 0) (hr 0) (hm 0), wB K.g (ho 1) (hs 1) (hr 1) (hm 1), wB K.g (ho 2) (hs 2) (hr 2) (hm 2), wB K.g (ho 3) (hs 3) (hr 3) (hm 3), wB K.g (ho 4) (hs 4) (hr 4) (hm 4), wB K.g (ho 5) (hs 5) (hr 5) (hm 5), wB K.g (sb 0) (ss 0) (sr 0) (sn 0), wB K.g (sb 1) (ss 1) (sr 1) (sn 1), wM K.g y all kept hist kp slo sav beg prt frm tx len sp tol rd] [(0, .ref b), (1, .ref (x 0)), (2, .ref (y 0)), (3, .int (nI i))] 442 [.int (nI (IO st (oR r (foR m) n) n k))]
  refine z_aload_n C 2 rfl rfl dL_law_442 443 rfl ?_
  refine z_aload_n C 0 rfl rfl dL_law_443 444 rfl ?_
  refine z_iload_n C 3 rfl rfl dL_law_444 445 rfl ?_
  refine z_iconst C (v := nI 1) rfl dL_law_445 446 rfl ?_
  refine z_iadd C dL_law_446 447 rfl ?_
  refine z_xld C hX hbl hbA (by omega) (by omega) dL_law_447 448 rfl ?_
  refine z_top ea1 ?_
  refine z_aload_n C 0 rfl rfl dL_law_448 449 rfl ?_
  refine z_iload_n C 3 rfl rfl dL_law_449 450 rfl ?_
  refine z_iconst C (v := nI 2) rfl dL_law_450 451 rfl ?_
  refine z_iadd C dL_law_451 452 rfl ?_
  refine z_xld C hX hbl hbA (by omega) (by omega) dL_law_452 453 rfl ?_
  refine z_top ea2 ?_
  refine z_callV C [.int (nI m), .int (nI k)] [.int (nI (IO st (oR r (foR m) n) n k))] (tX5_ifOrdered_ok K.l K.g y all kept hist kp slo sav beg prt frm tx len sp tol rd st r n m k (by first | omega | assumption) (by first | omega | assumption) (by first | omega | assumption) (by first | omega | assumption) (by first | omega | assumption) (by first | omega | assumption) (by first | omega | assumption)) gL_law_X5_ifOrdered rfl rfl rfl hdX5_ifOrdered ⟨Nat.le_of_ble_eq_true rfl, Nat.le_of_ble_eq_true rfl⟩ ⟨Nat.le_of_ble_eq_true rfl, Nat.le_of_ble_eq_true rfl⟩ 15 0 rfl rfl rfl [15] rfl rfl (zlc (N := 16) rfl rfl) [0, 1, 2, 3, 4, 5, 6, 7, 8, 9, 10, 11, 12, 13, 14, 16] rfl (by decide) (fun u : (Nat → Nat) × (Nat → Nat) × (Nat → Nat) × (Nat → Nat) × (Nat → Nat) => match u with | (all2, kept2, beg2, prt2, frm2) => [wX K.g x bd tr q p h sb sv, wB K.g bd st r n, wB K.g tr st (arR r (plc (r (foR m)) n) n) n, wP K.g q c0_1 c1_2 c2_3 c3_4 c4_5 c5_6 c6_7 c7_8 n d1_9 d2_10 d3_11 d4_12 d5_13 d6_14 d7_15 d8_16 d9_17, wPd K.g p fb tx len ex pl sh hu du, wB K.g fb fs fr fn, wH K.g h ho kp nx, wB K.g (ho 0) (hs 0) (hr 0) (hm 0), wB K.g (ho 1) (hs 1) (hr 1) (hm 1), wB K.g (ho 2) (hs 2) (hr 2) (hm 2), wB K.g (ho 3) (hs 3) (hr 3) (hm 3), wB K.g (ho 4) (hs 4) (hr 4) (hm 4), wB K.g (ho 5) (hs 5) (hr 5) (hm 5), wB K.g (sb 0) (ss 0) (sr 0) (sn 0), wB K.g (sb 1) (ss 1) (sr 1) (sn 1), wM K.g y all2 kept2 hist kp slo sav beg2 prt2 frm2 tx len sp tol rd]) (fun _ => rfl) rfl rfl (Nat.le_of_ble_eq_true rfl) dL_law_453 456 rfl (fun u9 hu9 => ?_)
  obtain ⟨al2, ke2, bg2, pr2, fm2⟩ := u9
  have hB2 := hu9
  have hB2 : Bd al2 st r n := hB2
  show Z K 104 1616 [wX K.g x bd tr q p h sb sv, wB K.g bd st r n, wB K.g tr st (arR r (plc (r (foR m)) n) n) n, wP K.g q c0_1 c1_2 c2_3 c3_4 c4_5 c5_6 c6_7 c7_8 n d1_9 d2_10 d3_11 d4_12 d5_13 d6_14 d7_15 d8_16 d9_17, wPd K.g p fb tx len ex pl sh hu du, wB K.g fb fs fr fn, wH K.g h ho kp nx, wB K.g (ho 0) (hs 0) (hr 0) (hm 0), wB K.g (ho 1) (hs 1) (hr 1) (hm 1), wB K.g (ho 2) (hs 2) (hr 2) (hm 2), wB K.g (ho 3) (hs 3) (hr 3) (hm 3), wB K.g (ho 4) (hs 4) (hr 4) (hm 4), wB K.g (ho 5) (hs 5) (hr 5) (hm 5), wB K.g (sb 0) (ss 0) (sr 0) (sn 0), wB K.g (sb 1) (ss 1) (sr 1) (sn 1), wM K.g y al2 ke2 hist kp slo sav bg2 pr2 fm2 tx len sp tol rd] [(0, .ref b), (1, .ref (x 0)), (2, .ref (y 0)), (3, .int (nI i))] 456 [.int (nI (IO st (oR r (foR m) n) n k)), .int (nI (IO st (oR r (foR m) n) n k))]
  refine z_icmpI_eq C 648 dL_law_456 (by decide) 459 rfl (fun c9 => ?_) (fun c9 => absurd rfl c9)
  refine z_iinc C hnL 3 rfl (v := nI (i + 5)) (nI_add _ 5) [1, 2, 3, 0] [(0, .ref b), (1, .ref (x 0)), (2, .ref (y 0)), (3, .int (nI (i + 5)))] rfl (Nat.le_of_ble_eq_true rfl) dL_law_648 651 rfl ?_
  refine z_goto C 18 dL_law_651 (by decide) ?_
  exact kk sv st r n st (arR r (plc (r (foR m)) n) n) n c0_1 c1_2 c2_3 c3_4 c4_5 c5_6 c6_7 c7_8 n d1_9 d2_10 d3_11 d4_12 d5_13 d6_14 d7_15 d8_16 d9_17 tx len ex pl sh hu du fs fr fn kp nx hs hr hm ss sr sn al2 ke2 hist slo sav bg2 pr2 fm2 sp tol rd ⟨hG, hB2, hH, hSl, hT⟩

set_option maxHeartbeats 4000000 in
set_option maxRecDepth 100000 in
theorem lb_bestExchange {K : zK} (C : Cx K room_1 RL cL_law wsL_law) (hnL : K.nL = 4) (b : Nat) (x bd tr q p fb h : Nat → Nat) (ho sb : Nat → Nat → Nat) (y : Nat → Nat) (L : Nat) (xs : Nat → Int32) (i : Nat) (hLH : LH K b L xs) (hiL : i + 5 ≤ L) (kk : LI K b x bd tr q p fb h ho sb y (i + 5)) (sv : Nat → Bool) (st : Nat → Nat) (r : Nat → Nat → Nat) (n : Nat) (ts : Nat → Nat) (tq : Nat → Nat → Nat) (tn : Nat) (a0 : Nat → Nat) (a1 : Nat → Nat) (a2 : Nat → Nat) (a3 : Nat → Nat) (a4 : Nat → Nat) (a5 : Nat → Nat) (a6 : Nat → Nat) (a7 : Nat → Nat) (s0 : Nat) (s1 : Nat) (s2 : Nat) (s3 : Nat) (s4 : Nat) (s5 : Nat) (s6 : Nat) (s7 : Nat) (s8 : Nat) (s9 : Nat) (tx : Nat → Nat) (len : Nat) (ex : Nat) (pl : Int32) (sh : Int32) (hu : Int32) (du : Int32) (fs : Nat → Nat) (fr : Nat → Nat → Nat) (fn : Nat) (kp : Nat) (nx : Nat) (hs : Nat → Nat → Nat) (hr : Nat → Nat → Nat → Nat) (hm : Nat → Nat) (ss : Nat → Nat → Nat) (sr : Nat → Nat → Nat → Nat) (sn : Nat → Nat) (all : Nat → Nat) (kept : Nat → Nat) (hist : Nat → Nat) (slo : Nat → Nat) (sav : Nat → Nat) (beg : Nat → Nat) (prt : Nat → Nat) (frm : Nat → Nat) (sp : Nat) (tol : Nat → Nat) (rd : Nat) (hI : IV sv st r n tx len kp nx hs hr hm ss sr sn all hist slo sav) : Z K 104 1616 [wX K.g x bd tr q p h sb sv, wB K.g bd st r n, wB K.g tr ts tq tn, wP K.g q a0 a1 a2 a3 a4 a5 a6 a7 s0 s1 s2 s3 s4 s5 s6 s7 s8 s9, wPd K.g p fb tx len ex pl sh hu du, wB K.g fb fs fr fn, wH K.g h ho kp nx, wB K.g (ho 0) (hs 0) (hr 0) (hm 0), wB K.g (ho 1) (hs 1) (hr 1) (hm 1), wB K.g (ho 2) (hs 2) (hr 2) (hm 2), wB K.g (ho 3) (hs 3) (hr 3) (hm 3), wB K.g (ho 4) (hs 4) (hr 4) (hm 4), wB K.g (ho 5) (hs 5) (hr 5) (hm 5), wB K.g (sb 0) (ss 0) (sr 0) (sn 0), wB K.g (sb 1) (ss 1) (sr 1) (sn 1), wM K.g y all kept hist kp slo sav beg prt frm tx len sp tol rd] [(0, .ref b), (1, .ref (x 0)), (2, .ref (y 0)), (3, .int (nI i))] 461 [] := by
  obtain ⟨hX, hbl, hbA, hL, heSet, heOrd⟩ := hLH
  obtain ⟨hG, hB, hH, hSl, hT⟩ := hI
  obtain ⟨hn, hS, hJ, hR⟩ := id hG
  have hk := hH.1
  have hx := hH.2.1
  have hl := hT.1
  have ht := hT.2
  by_cases hb1 : rg (xs (i + 1)).toInt (Int.ofNat 0) (Int.ofNat 2) = true
  rotate_left
  · skip
    have hb1 : rg (xs (i + 1)).toInt (Int.ofNat 0) (Int.ofNat 2) = false := eq_false_of_ne_true hb1
    refine z_aload_n C 1 rfl rfl dL_law_461 462 rfl ?_
    refine z_aload_n C 0 rfl rfl dL_law_462 463 rfl ?_
    refine z_iload_n C 3 rfl rfl dL_law_463 464 rfl ?_
    refine z_iconst C (v := nI 1) rfl dL_law_464 465 rfl ?_
    refine z_iadd C dL_law_465 466 rfl ?_
    refine z_xld C hX hbl hbA (by omega) (by omega) dL_law_466 467 rfl ?_
    refine z_callV C [.int (xs (i + 1))] [] (tX4_bestExchange_bv K.l K.g x bd tr q p h sb sv (xs (i + 1)) hb1) gL_law_X4_bestExchange rfl rfl rfl hdX4_bestExchange ⟨Nat.le_of_ble_eq_true rfl, Nat.le_of_ble_eq_true rfl⟩ ⟨Nat.le_of_ble_eq_true rfl, Nat.le_of_ble_eq_true rfl⟩ 0 0 rfl rfl rfl [0] rfl rfl (zlc (N := 16) rfl rfl) [16, 1, 2, 3, 4, 5, 6, 7, 8, 9, 10, 11, 12, 13, 14, 15] rfl (by decide) (fun _ : Unit => [wX K.g x bd tr q p h sb sv, wB K.g bd st r n, wB K.g tr ts tq tn, wP K.g q a0 a1 a2 a3 a4 a5 a6 a7 s0 s1 s2 s3 s4 s5 s6 s7 s8 s9, wPd K.g p fb tx len ex pl sh hu du, wB K.g fb fs fr fn, wH K.g h ho kp nx, wB K.g (ho 0) (hs 0) (hr 0) (hm 0), wB K.g (ho 1) (hs 1) (hr 1) (hm 1), wB K.g (ho 2) (hs 2) (hr 2) (hm 2), wB K.g (ho 3) (hs 3) (hr 3) (hm 3), wB K.g (ho 4) (hs 4) (hr 4) (hm 4), wB K.g (ho 5) (hs 5) (hr 5) (hm 5), wB K.g (sb 0) (ss 0) (sr 0) (sn 0), wB K.g (sb 1) (ss 1) (sr 1) (sn 1), wM K.g y all kept hist kp slo sav beg prt frm tx len sp tol rd]) (fun _ => rfl) rfl rfl (Nat.le_of_ble_eq_true rfl) dL_law_467 470 rfl (fun u9 hu9 => ?_)
    show Z K 104 1616 [wX K.g x bd tr q p h sb sv, wB K.g bd st r n, wB K.g tr ts tq tn, wP K.g q a0 a1 a2 a3 a4 a5 a6 a7 s0 s1 s2 s3 s4 s5 s6 s7 s8 s9, wPd K.g p fb tx len ex pl sh hu du, wB K.g fb fs fr fn, wH K.g h ho kp nx, wB K.g (ho 0) (hs 0) (hr 0) (hm 0), wB K.g (ho 1) (hs 1) (hr 1) (hm 1), wB K.g (ho 2) (hs 2) (hr 2) (hm 2), wB K.g (ho 3) (hs 3) (hr 3) (hm 3), wB K.g (ho 4) (hs 4) (hr 4) (hm 4), wB K.g (ho 5) (hs 5) (hr 5) (hm 5), wB K.g (sb 0) (ss 0) (sr 0) (sn 0), wB K.g (sb 1) (ss 1) (sr 1) (sn 1), wM K.g y all kept hist kp slo sav beg prt frm tx len sp tol rd] [(0, .ref b), (1, .ref (x 0)), (2, .ref (y 0)), (3, .int (nI i))] 470 [.int (-2)]
    refine z_aload_n C 2 rfl rfl dL_law_470 471 rfl ?_
    refine z_aload_n C 0 rfl rfl dL_law_471 472 rfl ?_
    refine z_iload_n C 3 rfl rfl dL_law_472 473 rfl ?_
    refine z_iconst C (v := nI 1) rfl dL_law_473 474 rfl ?_
    refine z_iadd C dL_law_474 475 rfl ?_
    refine z_xld C hX hbl hbA (by omega) (by omega) dL_law_475 476 rfl ?_
    refine z_callV C [.int (xs (i + 1))] [.int (-2)] (tX5_bestExchange_bv K.l K.g y all kept hist kp slo sav beg prt frm tx len sp tol rd (xs (i + 1)) hb1) gL_law_X5_bestExchange rfl rfl rfl hdX5_bestExchange ⟨Nat.le_of_ble_eq_true rfl, Nat.le_of_ble_eq_true rfl⟩ ⟨Nat.le_of_ble_eq_true rfl, Nat.le_of_ble_eq_true rfl⟩ 15 0 rfl rfl rfl [15] rfl rfl (zlc (N := 16) rfl rfl) [0, 1, 2, 3, 4, 5, 6, 7, 8, 9, 10, 11, 12, 13, 14, 16] rfl (by decide) (fun _ : Unit => [wX K.g x bd tr q p h sb sv, wB K.g bd st r n, wB K.g tr ts tq tn, wP K.g q a0 a1 a2 a3 a4 a5 a6 a7 s0 s1 s2 s3 s4 s5 s6 s7 s8 s9, wPd K.g p fb tx len ex pl sh hu du, wB K.g fb fs fr fn, wH K.g h ho kp nx, wB K.g (ho 0) (hs 0) (hr 0) (hm 0), wB K.g (ho 1) (hs 1) (hr 1) (hm 1), wB K.g (ho 2) (hs 2) (hr 2) (hm 2), wB K.g (ho 3) (hs 3) (hr 3) (hm 3), wB K.g (ho 4) (hs 4) (hr 4) (hm 4), wB K.g (ho 5) (hs 5) (hr 5) (hm 5), wB K.g (sb 0) (ss 0) (sr 0) (sn 0), wB K.g (sb 1) (ss 1) (sr 1) (sn 1), wM K.g y all kept hist kp slo sav beg prt frm tx len sp tol rd]) (fun _ => rfl) rfl rfl (Nat.le_of_ble_eq_true rfl) dL_law_476 479 rfl (fun u9 hu9 => ?_)
    show Z K 104 1616 [wX K.g x bd tr q p h sb sv, wB K.g bd st r n, wB K.g tr ts tq tn, wP K.g q a0 a1 a2 a3 a4 a5 a6 a7 s0 s1 s2 s3 s4 s5 s6 s7 s8 s9, wPd K.g p fb tx len ex pl sh hu du, wB K.g fb fs fr fn, wH K.g h ho kp nx, wB K.g (ho 0) (hs 0) (hr 0) (hm 0), wB K.g (ho 1) (hs 1) (hr 1) (hm 1), wB K.g (ho 2) (hs 2) (hr 2) (hm 2), wB K.g (ho 3) (hs 3) (hr 3) (hm 3), wB K.g (ho 4) (hs 4) (hr 4) (hm 4), wB K.g (ho 5) (hs 5) (hr 5) (hm 5), wB K.g (sb 0) (ss 0) (sr 0) (sn 0), wB K.g (sb 1) (ss 1) (sr 1) (sn 1), wM K.g y all kept hist kp slo sav beg prt frm tx len sp tol rd] [(0, .ref b), (1, .ref (x 0)), (2, .ref (y 0)), (3, .int (nI i))] 479 [.int (-2), .int (-2)]
    refine z_icmpI_eq C 648 dL_law_479 (by decide) 482 rfl (fun c9 => ?_) (fun c9 => absurd rfl c9)
    refine z_iinc C hnL 3 rfl (v := nI (i + 5)) (nI_add _ 5) [1, 2, 3, 0] [(0, .ref b), (1, .ref (x 0)), (2, .ref (y 0)), (3, .int (nI (i + 5)))] rfl (Nat.le_of_ble_eq_true rfl) dL_law_648 651 rfl ?_
    refine z_goto C 18 dL_law_651 (by decide) ?_
    exact kk sv st r n ts tq tn a0 a1 a2 a3 a4 a5 a6 a7 s0 s1 s2 s3 s4 s5 s6 s7 s8 s9 tx len ex pl sh hu du fs fr fn kp nx hs hr hm ss sr sn all kept hist slo sav beg prt frm sp tol rd ⟨hG, hB, hH, hSl, hT⟩
  obtain ⟨k, hlo1, hhi1, ea1⟩ := rg_nI (lo := 0) (hi := 2) hb1
  refine z_aload_n C 1 rfl rfl dL_law_461 462 rfl ?_
  refine z_aload_n C 0 rfl rfl dL_law_462 463 rfl ?_
  refine z_iload_n C 3 rfl rfl dL_law_463 464 rfl ?_
  refine z_iconst C (v := nI 1) rfl dL_law_464 465 rfl ?_
  refine z_iadd C dL_law_465 466 rfl ?_
  refine z_xld C hX hbl hbA (by omega) (by omega) dL_law_466 467 rfl ?_
  refine z_top ea1 ?_
  refine z_callV C [.int (nI k)] [] (tX4_bestExchange_ok K.l K.g x bd tr q p h sb sv a0 a1 a2 a3 a4 a5 a6 a7 s0 s1 s2 s3 s4 s5 s6 s7 s8 s9 st r n ts tq tn k (by first | omega | assumption) (by first | omega | assumption) (by first | omega | assumption) (by first | omega | assumption) (by first | omega | assumption)) gL_law_X4_bestExchange rfl rfl rfl hdX4_bestExchange ⟨Nat.le_of_ble_eq_true rfl, Nat.le_of_ble_eq_true rfl⟩ ⟨Nat.le_of_ble_eq_true rfl, Nat.le_of_ble_eq_true rfl⟩ 0 0 rfl rfl rfl [0, 3, 1, 2] rfl rfl (zlc (N := 16) rfl rfl) [16, 18, 19, 17, 4, 5, 6, 7, 8, 9, 10, 11, 12, 13, 14, 15] rfl (by decide) (fun u : (Nat → Nat) × (Nat → Nat) × (Nat → Nat) × (Nat → Nat) × (Nat → Nat) × (Nat → Nat) × (Nat → Nat) × (Nat → Nat) × (Nat) × (Nat) × (Nat) × (Nat) × (Nat) × (Nat) × (Nat) × (Nat) × (Nat) × (Nat) => match u with | (c0, c1, c2, c3, c4, c5, c6, c7, d1, d2, d3, d4, d5, d6, d7, d8, d9, d0) => [wX K.g x bd tr q p h sb sv, wB K.g bd st r n, wB K.g tr st r n, wP K.g q c0 c1 c2 c3 c4 c5 c6 c7 d0 d1 d2 d3 d4 d5 d6 d7 d8 d9, wPd K.g p fb tx len ex pl sh hu du, wB K.g fb fs fr fn, wH K.g h ho kp nx, wB K.g (ho 0) (hs 0) (hr 0) (hm 0), wB K.g (ho 1) (hs 1) (hr 1) (hm 1), wB K.g (ho 2) (hs 2) (hr 2) (hm 2), wB K.g (ho 3) (hs 3) (hr 3) (hm 3), wB K.g (ho 4) (hs 4) (hr 4) (hm 4), wB K.g (ho 5) (hs 5) (hr 5) (hm 5), wB K.g (sb 0) (ss 0) (sr 0) (sn 0), wB K.g (sb 1) (ss 1) (sr 1) (sn 1), wM K.g y all kept hist kp slo sav beg prt frm tx len sp tol rd]) (fun _ => rfl) rfl rfl (Nat.le_of_ble_eq_true rfl) dL_law_467 470 rfl (fun u9 hu9 => ?_)
  obtain ⟨c0_1, c1_2, c2_3, c3_4, c4_5, c5_6, c6_7, c7_8, d1_9, d2_10, d3_11, d4_12, d5_13, d6_14, d7_15, d8_16, d9_17, d0_18⟩ := u9
  show Z K 104 1616 [wX K.g x bd tr q p h sb sv, wB K.g bd st r n, wB K.g tr st r n, wP K.g q c0_1 c1_2 c2_3 c3_4 c4_5 c5_6 c6_7 c7_8 d0_18 d1_9 d2_10 d3_11 d4_12 d5_13 d6_14 d7_15 d8_16 d9_17, wPd K.g p fb tx len ex pl sh hu du, wB K.g fb fs fr fn, wH K.g h ho kp nx, wB K.g (ho 0) (hs 0) (hr 0) (hm 0), wB K.g (ho 1) (hs 1) (hr 1) (hm 1), wB K.g (ho 2) (hs 2) (hr 2) (hm 2), wB K.g (ho 3) (hs 3) (hr 3) (hm 3), wB K.g (ho 4) (hs 4) (hr 4) (hm 4), wB K.g (ho 5) (hs 5) (hr 5) (hm 5), wB K.g (sb 0) (ss 0) (sr 0) (sn 0), wB K.g (sb 1) (ss 1) (sr 1) (sn 1), wM K.g y all kept hist kp slo sav beg prt frm tx len sp tol rd] [(0, .ref b), (1, .ref (x 0)), (2, .ref (y 0)), (3, .int (nI i))] 470 [.int (BE st r n k)]
  refine z_aload_n C 2 rfl rfl dL_law_470 471 rfl ?_
  refine z_aload_n C 0 rfl rfl dL_law_471 472 rfl ?_
  refine z_iload_n C 3 rfl rfl dL_law_472 473 rfl ?_
  refine z_iconst C (v := nI 1) rfl dL_law_473 474 rfl ?_
  refine z_iadd C dL_law_474 475 rfl ?_
  refine z_xld C hX hbl hbA (by omega) (by omega) dL_law_475 476 rfl ?_
  refine z_top ea1 ?_
  refine z_callV C [.int (nI k)] [.int (BE st r n k)] (tX5_bestExchange_ok K.l K.g y all kept hist kp slo sav beg prt frm tx len sp tol rd st r n k (by first | omega | assumption) (by first | omega | assumption) (by first | omega | assumption) (by first | omega | assumption) (by first | omega | assumption) (by first | omega | assumption)) gL_law_X5_bestExchange rfl rfl rfl hdX5_bestExchange ⟨Nat.le_of_ble_eq_true rfl, Nat.le_of_ble_eq_true rfl⟩ ⟨Nat.le_of_ble_eq_true rfl, Nat.le_of_ble_eq_true rfl⟩ 15 0 rfl rfl rfl [15] rfl rfl (zlc (N := 16) rfl rfl) [0, 1, 2, 3, 4, 5, 6, 7, 8, 9, 10, 11, 12, 13, 14, 16] rfl (by decide) (fun u : (Nat → Nat) × (Nat → Nat) × (Nat → Nat) => match u with | (all2, beg2, prt2) => [wX K.g x bd tr q p h sb sv, wB K.g bd st r n, wB K.g tr st r n, wP K.g q c0_1 c1_2 c2_3 c3_4 c4_5 c5_6 c6_7 c7_8 d0_18 d1_9 d2_10 d3_11 d4_12 d5_13 d6_14 d7_15 d8_16 d9_17, wPd K.g p fb tx len ex pl sh hu du, wB K.g fb fs fr fn, wH K.g h ho kp nx, wB K.g (ho 0) (hs 0) (hr 0) (hm 0), wB K.g (ho 1) (hs 1) (hr 1) (hm 1), wB K.g (ho 2) (hs 2) (hr 2) (hm 2), wB K.g (ho 3) (hs 3) (hr 3) (hm 3), wB K.g (ho 4) (hs 4) (hr 4) (hm 4), wB K.g (ho 5) (hs 5) (hr 5) (hm 5), wB K.g (sb 0) (ss 0) (sr 0) (sn 0), wB K.g (sb 1) (ss 1) (sr 1) (sn 1), wM K.g y all2 kept hist kp slo sav beg2 prt2 frm tx len sp tol rd]) (fun _ => rfl) rfl rfl (Nat.le_of_ble_eq_true rfl) dL_law_476 479 rfl (fun u9 hu9 => ?_)
  obtain ⟨al2, bg2, pr2⟩ := u9
  have hB2 := hu9
  have hB2 : Bd al2 st r n := hB2
  show Z K 104 1616 [wX K.g x bd tr q p h sb sv, wB K.g bd st r n, wB K.g tr st r n, wP K.g q c0_1 c1_2 c2_3 c3_4 c4_5 c5_6 c6_7 c7_8 d0_18 d1_9 d2_10 d3_11 d4_12 d5_13 d6_14 d7_15 d8_16 d9_17, wPd K.g p fb tx len ex pl sh hu du, wB K.g fb fs fr fn, wH K.g h ho kp nx, wB K.g (ho 0) (hs 0) (hr 0) (hm 0), wB K.g (ho 1) (hs 1) (hr 1) (hm 1), wB K.g (ho 2) (hs 2) (hr 2) (hm 2), wB K.g (ho 3) (hs 3) (hr 3) (hm 3), wB K.g (ho 4) (hs 4) (hr 4) (hm 4), wB K.g (ho 5) (hs 5) (hr 5) (hm 5), wB K.g (sb 0) (ss 0) (sr 0) (sn 0), wB K.g (sb 1) (ss 1) (sr 1) (sn 1), wM K.g y al2 kept hist kp slo sav bg2 pr2 frm tx len sp tol rd] [(0, .ref b), (1, .ref (x 0)), (2, .ref (y 0)), (3, .int (nI i))] 479 [.int (BE st r n k), .int (BE st r n k)]
  refine z_icmpI_eq C 648 dL_law_479 (by decide) 482 rfl (fun c9 => ?_) (fun c9 => absurd rfl c9)
  refine z_iinc C hnL 3 rfl (v := nI (i + 5)) (nI_add _ 5) [1, 2, 3, 0] [(0, .ref b), (1, .ref (x 0)), (2, .ref (y 0)), (3, .int (nI (i + 5)))] rfl (Nat.le_of_ble_eq_true rfl) dL_law_648 651 rfl ?_
  refine z_goto C 18 dL_law_651 (by decide) ?_
  exact kk sv st r n st r n c0_1 c1_2 c2_3 c3_4 c4_5 c5_6 c6_7 c7_8 d0_18 d1_9 d2_10 d3_11 d4_12 d5_13 d6_14 d7_15 d8_16 d9_17 tx len ex pl sh hu du fs fr fn kp nx hs hr hm ss sr sn al2 kept hist slo sav bg2 pr2 frm sp tol rd ⟨hG, hB2, hH, hSl, hT⟩

set_option maxHeartbeats 4000000 in
set_option maxRecDepth 100000 in
theorem lb_restore {K : zK} (C : Cx K room_1 RL cL_law wsL_law) (hnL : K.nL = 4) (b : Nat) (x bd tr q p fb h : Nat → Nat) (ho sb : Nat → Nat → Nat) (y : Nat → Nat) (L : Nat) (xs : Nat → Int32) (i : Nat) (hLH : LH K b L xs) (hiL : i + 5 ≤ L) (kk : LI K b x bd tr q p fb h ho sb y (i + 5)) (sv : Nat → Bool) (st : Nat → Nat) (r : Nat → Nat → Nat) (n : Nat) (ts : Nat → Nat) (tq : Nat → Nat → Nat) (tn : Nat) (a0 : Nat → Nat) (a1 : Nat → Nat) (a2 : Nat → Nat) (a3 : Nat → Nat) (a4 : Nat → Nat) (a5 : Nat → Nat) (a6 : Nat → Nat) (a7 : Nat → Nat) (s0 : Nat) (s1 : Nat) (s2 : Nat) (s3 : Nat) (s4 : Nat) (s5 : Nat) (s6 : Nat) (s7 : Nat) (s8 : Nat) (s9 : Nat) (tx : Nat → Nat) (len : Nat) (ex : Nat) (pl : Int32) (sh : Int32) (hu : Int32) (du : Int32) (fs : Nat → Nat) (fr : Nat → Nat → Nat) (fn : Nat) (kp : Nat) (nx : Nat) (hs : Nat → Nat → Nat) (hr : Nat → Nat → Nat → Nat) (hm : Nat → Nat) (ss : Nat → Nat → Nat) (sr : Nat → Nat → Nat → Nat) (sn : Nat → Nat) (all : Nat → Nat) (kept : Nat → Nat) (hist : Nat → Nat) (slo : Nat → Nat) (sav : Nat → Nat) (beg : Nat → Nat) (prt : Nat → Nat) (frm : Nat → Nat) (sp : Nat) (tol : Nat → Nat) (rd : Nat) (hI : IV sv st r n tx len kp nx hs hr hm ss sr sn all hist slo sav) : Z K 104 1616 [wX K.g x bd tr q p h sb sv, wB K.g bd st r n, wB K.g tr ts tq tn, wP K.g q a0 a1 a2 a3 a4 a5 a6 a7 s0 s1 s2 s3 s4 s5 s6 s7 s8 s9, wPd K.g p fb tx len ex pl sh hu du, wB K.g fb fs fr fn, wH K.g h ho kp nx, wB K.g (ho 0) (hs 0) (hr 0) (hm 0), wB K.g (ho 1) (hs 1) (hr 1) (hm 1), wB K.g (ho 2) (hs 2) (hr 2) (hm 2), wB K.g (ho 3) (hs 3) (hr 3) (hm 3), wB K.g (ho 4) (hs 4) (hr 4) (hm 4), wB K.g (ho 5) (hs 5) (hr 5) (hm 5), wB K.g (sb 0) (ss 0) (sr 0) (sn 0), wB K.g (sb 1) (ss 1) (sr 1) (sn 1), wM K.g y all kept hist kp slo sav beg prt frm tx len sp tol rd] [(0, .ref b), (1, .ref (x 0)), (2, .ref (y 0)), (3, .int (nI i))] 625 [] := by
  obtain ⟨hX, hbl, hbA, hL, heSet, heOrd⟩ := hLH
  obtain ⟨hG, hB, hH, hSl, hT⟩ := hI
  obtain ⟨hn, hS, hJ, hR⟩ := id hG
  have hk := hH.1
  have hx := hH.2.1
  have hl := hT.1
  have ht := hT.2
  by_cases hb1 : rg (xs (i + 1)).toInt (Int.ofNat 0) (Int.ofNat 1) = true
  rotate_left
  · skip
    have hb1 : rg (xs (i + 1)).toInt (Int.ofNat 0) (Int.ofNat 1) = false := eq_false_of_ne_true hb1
    refine z_aload_n C 1 rfl rfl dL_law_625 626 rfl ?_
    refine z_aload_n C 0 rfl rfl dL_law_626 627 rfl ?_
    refine z_iload_n C 3 rfl rfl dL_law_627 628 rfl ?_
    refine z_iconst C (v := nI 1) rfl dL_law_628 629 rfl ?_
    refine z_iadd C dL_law_629 630 rfl ?_
    refine z_xld C hX hbl hbA (by omega) (by omega) dL_law_630 631 rfl ?_
    refine z_callV C [.int (xs (i + 1))] [] (tX4_restore_bv K.l K.g x bd tr q p h sb sv (xs (i + 1)) hb1) gL_law_X4_restore rfl rfl rfl hdX4_restore ⟨Nat.le_of_ble_eq_true rfl, Nat.le_of_ble_eq_true rfl⟩ ⟨Nat.le_of_ble_eq_true rfl, Nat.le_of_ble_eq_true rfl⟩ 0 0 rfl rfl rfl [0] rfl rfl (zlc (N := 16) rfl rfl) [16, 1, 2, 3, 4, 5, 6, 7, 8, 9, 10, 11, 12, 13, 14, 15] rfl (by decide) (fun _ : Unit => [wX K.g x bd tr q p h sb sv, wB K.g bd st r n, wB K.g tr ts tq tn, wP K.g q a0 a1 a2 a3 a4 a5 a6 a7 s0 s1 s2 s3 s4 s5 s6 s7 s8 s9, wPd K.g p fb tx len ex pl sh hu du, wB K.g fb fs fr fn, wH K.g h ho kp nx, wB K.g (ho 0) (hs 0) (hr 0) (hm 0), wB K.g (ho 1) (hs 1) (hr 1) (hm 1), wB K.g (ho 2) (hs 2) (hr 2) (hm 2), wB K.g (ho 3) (hs 3) (hr 3) (hm 3), wB K.g (ho 4) (hs 4) (hr 4) (hm 4), wB K.g (ho 5) (hs 5) (hr 5) (hm 5), wB K.g (sb 0) (ss 0) (sr 0) (sn 0), wB K.g (sb 1) (ss 1) (sr 1) (sn 1), wM K.g y all kept hist kp slo sav beg prt frm tx len sp tol rd]) (fun _ => rfl) rfl rfl (Nat.le_of_ble_eq_true rfl) dL_law_631 634 rfl (fun u9 hu9 => ?_)
    show Z K 104 1616 [wX K.g x bd tr q p h sb sv, wB K.g bd st r n, wB K.g tr ts tq tn, wP K.g q a0 a1 a2 a3 a4 a5 a6 a7 s0 s1 s2 s3 s4 s5 s6 s7 s8 s9, wPd K.g p fb tx len ex pl sh hu du, wB K.g fb fs fr fn, wH K.g h ho kp nx, wB K.g (ho 0) (hs 0) (hr 0) (hm 0), wB K.g (ho 1) (hs 1) (hr 1) (hm 1), wB K.g (ho 2) (hs 2) (hr 2) (hm 2), wB K.g (ho 3) (hs 3) (hr 3) (hm 3), wB K.g (ho 4) (hs 4) (hr 4) (hm 4), wB K.g (ho 5) (hs 5) (hr 5) (hm 5), wB K.g (sb 0) (ss 0) (sr 0) (sn 0), wB K.g (sb 1) (ss 1) (sr 1) (sn 1), wM K.g y all kept hist kp slo sav beg prt frm tx len sp tol rd] [(0, .ref b), (1, .ref (x 0)), (2, .ref (y 0)), (3, .int (nI i))] 634 [.int (-2)]
    refine z_aload_n C 2 rfl rfl dL_law_634 635 rfl ?_
    refine z_aload_n C 0 rfl rfl dL_law_635 636 rfl ?_
    refine z_iload_n C 3 rfl rfl dL_law_636 637 rfl ?_
    refine z_iconst C (v := nI 1) rfl dL_law_637 638 rfl ?_
    refine z_iadd C dL_law_638 639 rfl ?_
    refine z_xld C hX hbl hbA (by omega) (by omega) dL_law_639 640 rfl ?_
    refine z_callV C [.int (xs (i + 1))] [.int (-2)] (tX5_restore_bv K.l K.g y all kept hist kp slo sav beg prt frm tx len sp tol rd (xs (i + 1)) hb1) gL_law_X5_restore rfl rfl rfl hdX5_restore ⟨Nat.le_of_ble_eq_true rfl, Nat.le_of_ble_eq_true rfl⟩ ⟨Nat.le_of_ble_eq_true rfl, Nat.le_of_ble_eq_true rfl⟩ 15 0 rfl rfl rfl [15] rfl rfl (zlc (N := 16) rfl rfl) [0, 1, 2, 3, 4, 5, 6, 7, 8, 9, 10, 11, 12, 13, 14, 16] rfl (by decide) (fun _ : Unit => [wX K.g x bd tr q p h sb sv, wB K.g bd st r n, wB K.g tr ts tq tn, wP K.g q a0 a1 a2 a3 a4 a5 a6 a7 s0 s1 s2 s3 s4 s5 s6 s7 s8 s9, wPd K.g p fb tx len ex pl sh hu du, wB K.g fb fs fr fn, wH K.g h ho kp nx, wB K.g (ho 0) (hs 0) (hr 0) (hm 0), wB K.g (ho 1) (hs 1) (hr 1) (hm 1), wB K.g (ho 2) (hs 2) (hr 2) (hm 2), wB K.g (ho 3) (hs 3) (hr 3) (hm 3), wB K.g (ho 4) (hs 4) (hr 4) (hm 4), wB K.g (ho 5) (hs 5) (hr 5) (hm 5), wB K.g (sb 0) (ss 0) (sr 0) (sn 0), wB K.g (sb 1) (ss 1) (sr 1) (sn 1), wM K.g y all kept hist kp slo sav beg prt frm tx len sp tol rd]) (fun _ => rfl) rfl rfl (Nat.le_of_ble_eq_true rfl) dL_law_640 643 rfl (fun u9 hu9 => ?_)
    show Z K 104 1616 [wX K.g x bd tr q p h sb sv, wB K.g bd st r n, wB K.g tr ts tq tn, wP K.g q a0 a1 a2 a3 a4 a5 a6 a7 s0 s1 s2 s3 s4 s5 s6 s7 s8 s9, wPd K.g p fb tx len ex pl sh hu du, wB K.g fb fs fr fn, wH K.g h ho kp nx, wB K.g (ho 0) (hs 0) (hr 0) (hm 0), wB K.g (ho 1) (hs 1) (hr 1) (hm 1), wB K.g (ho 2) (hs 2) (hr 2) (hm 2), wB K.g (ho 3) (hs 3) (hr 3) (hm 3), wB K.g (ho 4) (hs 4) (hr 4) (hm 4), wB K.g (ho 5) (hs 5) (hr 5) (hm 5), wB K.g (sb 0) (ss 0) (sr 0) (sn 0), wB K.g (sb 1) (ss 1) (sr 1) (sn 1), wM K.g y all kept hist kp slo sav beg prt frm tx len sp tol rd] [(0, .ref b), (1, .ref (x 0)), (2, .ref (y 0)), (3, .int (nI i))] 643 [.int (-2), .int (-2)]
    refine z_icmpI_eq C 648 dL_law_643 (by decide) 646 rfl (fun c9 => ?_) (fun c9 => absurd rfl c9)
    refine z_iinc C hnL 3 rfl (v := nI (i + 5)) (nI_add _ 5) [1, 2, 3, 0] [(0, .ref b), (1, .ref (x 0)), (2, .ref (y 0)), (3, .int (nI (i + 5)))] rfl (Nat.le_of_ble_eq_true rfl) dL_law_648 651 rfl ?_
    refine z_goto C 18 dL_law_651 (by decide) ?_
    exact kk sv st r n ts tq tn a0 a1 a2 a3 a4 a5 a6 a7 s0 s1 s2 s3 s4 s5 s6 s7 s8 s9 tx len ex pl sh hu du fs fr fn kp nx hs hr hm ss sr sn all kept hist slo sav beg prt frm sp tol rd ⟨hG, hB, hH, hSl, hT⟩
  obtain ⟨k, hlo1, hhi1, ea1⟩ := rg_nI (lo := 0) (hi := 1) hb1
  have hSk := hSl k (by omega)
  by_cases hq1 : sv k = true
  rotate_left
  · skip
    refine z_aload_n C 1 rfl rfl dL_law_625 626 rfl ?_
    refine z_aload_n C 0 rfl rfl dL_law_626 627 rfl ?_
    refine z_iload_n C 3 rfl rfl dL_law_627 628 rfl ?_
    refine z_iconst C (v := nI 1) rfl dL_law_628 629 rfl ?_
    refine z_iadd C dL_law_629 630 rfl ?_
    refine z_xld C hX hbl hbA (by omega) (by omega) dL_law_630 631 rfl ?_
    refine z_top ea1 ?_
    refine z_callV C [.int (nI k)] [] (tX4_restore_np K.l K.g x bd tr q p h sb sv k (by first | omega | assumption) (eq_false_of_ne_true hq1)) gL_law_X4_restore rfl rfl rfl hdX4_restore ⟨Nat.le_of_ble_eq_true rfl, Nat.le_of_ble_eq_true rfl⟩ ⟨Nat.le_of_ble_eq_true rfl, Nat.le_of_ble_eq_true rfl⟩ 0 0 rfl rfl rfl [0] rfl rfl (zlc (N := 16) rfl rfl) [16, 1, 2, 3, 4, 5, 6, 7, 8, 9, 10, 11, 12, 13, 14, 15] rfl (by decide) (fun _ : Unit => [wX K.g x bd tr q p h sb sv, wB K.g bd st r n, wB K.g tr ts tq tn, wP K.g q a0 a1 a2 a3 a4 a5 a6 a7 s0 s1 s2 s3 s4 s5 s6 s7 s8 s9, wPd K.g p fb tx len ex pl sh hu du, wB K.g fb fs fr fn, wH K.g h ho kp nx, wB K.g (ho 0) (hs 0) (hr 0) (hm 0), wB K.g (ho 1) (hs 1) (hr 1) (hm 1), wB K.g (ho 2) (hs 2) (hr 2) (hm 2), wB K.g (ho 3) (hs 3) (hr 3) (hm 3), wB K.g (ho 4) (hs 4) (hr 4) (hm 4), wB K.g (ho 5) (hs 5) (hr 5) (hm 5), wB K.g (sb 0) (ss 0) (sr 0) (sn 0), wB K.g (sb 1) (ss 1) (sr 1) (sn 1), wM K.g y all kept hist kp slo sav beg prt frm tx len sp tol rd]) (fun _ => rfl) rfl rfl (Nat.le_of_ble_eq_true rfl) dL_law_631 634 rfl (fun u9 hu9 => ?_)
    show Z K 104 1616 [wX K.g x bd tr q p h sb sv, wB K.g bd st r n, wB K.g tr ts tq tn, wP K.g q a0 a1 a2 a3 a4 a5 a6 a7 s0 s1 s2 s3 s4 s5 s6 s7 s8 s9, wPd K.g p fb tx len ex pl sh hu du, wB K.g fb fs fr fn, wH K.g h ho kp nx, wB K.g (ho 0) (hs 0) (hr 0) (hm 0), wB K.g (ho 1) (hs 1) (hr 1) (hm 1), wB K.g (ho 2) (hs 2) (hr 2) (hm 2), wB K.g (ho 3) (hs 3) (hr 3) (hm 3), wB K.g (ho 4) (hs 4) (hr 4) (hm 4), wB K.g (ho 5) (hs 5) (hr 5) (hm 5), wB K.g (sb 0) (ss 0) (sr 0) (sn 0), wB K.g (sb 1) (ss 1) (sr 1) (sn 1), wM K.g y all kept hist kp slo sav beg prt frm tx len sp tol rd] [(0, .ref b), (1, .ref (x 0)), (2, .ref (y 0)), (3, .int (nI i))] 634 [.int (-5)]
    refine z_aload_n C 2 rfl rfl dL_law_634 635 rfl ?_
    refine z_aload_n C 0 rfl rfl dL_law_635 636 rfl ?_
    refine z_iload_n C 3 rfl rfl dL_law_636 637 rfl ?_
    refine z_iconst C (v := nI 1) rfl dL_law_637 638 rfl ?_
    refine z_iadd C dL_law_638 639 rfl ?_
    refine z_xld C hX hbl hbA (by omega) (by omega) dL_law_639 640 rfl ?_
    refine z_top ea1 ?_
    refine z_callV C [.int (nI k)] [.int (-5)] (tX5_restore_np K.l K.g y all kept hist kp slo sav beg prt frm tx len sp tol rd k (by first | omega | assumption) (IS_f hSk hq1)) gL_law_X5_restore rfl rfl rfl hdX5_restore ⟨Nat.le_of_ble_eq_true rfl, Nat.le_of_ble_eq_true rfl⟩ ⟨Nat.le_of_ble_eq_true rfl, Nat.le_of_ble_eq_true rfl⟩ 15 0 rfl rfl rfl [15] rfl rfl (zlc (N := 16) rfl rfl) [0, 1, 2, 3, 4, 5, 6, 7, 8, 9, 10, 11, 12, 13, 14, 16] rfl (by decide) (fun _ : Unit => [wX K.g x bd tr q p h sb sv, wB K.g bd st r n, wB K.g tr ts tq tn, wP K.g q a0 a1 a2 a3 a4 a5 a6 a7 s0 s1 s2 s3 s4 s5 s6 s7 s8 s9, wPd K.g p fb tx len ex pl sh hu du, wB K.g fb fs fr fn, wH K.g h ho kp nx, wB K.g (ho 0) (hs 0) (hr 0) (hm 0), wB K.g (ho 1) (hs 1) (hr 1) (hm 1), wB K.g (ho 2) (hs 2) (hr 2) (hm 2), wB K.g (ho 3) (hs 3) (hr 3) (hm 3), wB K.g (ho 4) (hs 4) (hr 4) (hm 4), wB K.g (ho 5) (hs 5) (hr 5) (hm 5), wB K.g (sb 0) (ss 0) (sr 0) (sn 0), wB K.g (sb 1) (ss 1) (sr 1) (sn 1), wM K.g y all kept hist kp slo sav beg prt frm tx len sp tol rd]) (fun _ => rfl) rfl rfl (Nat.le_of_ble_eq_true rfl) dL_law_640 643 rfl (fun u9 hu9 => ?_)
    show Z K 104 1616 [wX K.g x bd tr q p h sb sv, wB K.g bd st r n, wB K.g tr ts tq tn, wP K.g q a0 a1 a2 a3 a4 a5 a6 a7 s0 s1 s2 s3 s4 s5 s6 s7 s8 s9, wPd K.g p fb tx len ex pl sh hu du, wB K.g fb fs fr fn, wH K.g h ho kp nx, wB K.g (ho 0) (hs 0) (hr 0) (hm 0), wB K.g (ho 1) (hs 1) (hr 1) (hm 1), wB K.g (ho 2) (hs 2) (hr 2) (hm 2), wB K.g (ho 3) (hs 3) (hr 3) (hm 3), wB K.g (ho 4) (hs 4) (hr 4) (hm 4), wB K.g (ho 5) (hs 5) (hr 5) (hm 5), wB K.g (sb 0) (ss 0) (sr 0) (sn 0), wB K.g (sb 1) (ss 1) (sr 1) (sn 1), wM K.g y all kept hist kp slo sav beg prt frm tx len sp tol rd] [(0, .ref b), (1, .ref (x 0)), (2, .ref (y 0)), (3, .int (nI i))] 643 [.int (-5), .int (-5)]
    refine z_icmpI_eq C 648 dL_law_643 (by decide) 646 rfl (fun c9 => ?_) (fun c9 => absurd rfl c9)
    refine z_iinc C hnL 3 rfl (v := nI (i + 5)) (nI_add _ 5) [1, 2, 3, 0] [(0, .ref b), (1, .ref (x 0)), (2, .ref (y 0)), (3, .int (nI (i + 5)))] rfl (Nat.le_of_ble_eq_true rfl) dL_law_648 651 rfl ?_
    refine z_goto C 18 dL_law_651 (by decide) ?_
    exact kk sv st r n ts tq tn a0 a1 a2 a3 a4 a5 a6 a7 s0 s1 s2 s3 s4 s5 s6 s7 s8 s9 tx len ex pl sh hu du fs fr fn kp nx hs hr hm ss sr sn all kept hist slo sav beg prt frm sp tol rd ⟨hG, hB, hH, hSl, hT⟩
  refine z_aload_n C 1 rfl rfl dL_law_625 626 rfl ?_
  refine z_aload_n C 0 rfl rfl dL_law_626 627 rfl ?_
  refine z_iload_n C 3 rfl rfl dL_law_627 628 rfl ?_
  refine z_iconst C (v := nI 1) rfl dL_law_628 629 rfl ?_
  refine z_iadd C dL_law_629 630 rfl ?_
  refine z_xld C hX hbl hbA (by omega) (by omega) dL_law_630 631 rfl ?_
  refine z_top ea1 ?_
  refine z_callV C [.int (nI k)] [] (tX4_restore_ok K.l K.g x bd tr q p h sb sv st r n ss sr sn ho hs hr hm kp nx k (by first | omega | assumption) (by first | omega | assumption) (by first | omega | assumption) hq1) gL_law_X4_restore rfl rfl rfl hdX4_restore ⟨Nat.le_of_ble_eq_true rfl, Nat.le_of_ble_eq_true rfl⟩ ⟨Nat.le_of_ble_eq_true rfl, Nat.le_of_ble_eq_true rfl⟩ 0 0 rfl rfl rfl [0, 1, 13, 14, 6, 7, 8, 9, 10, 11, 12] rfl rfl (zlc (N := 16) rfl rfl) [16, 17, 2, 3, 4, 5, 20, 21, 22, 23, 24, 25, 26, 18, 19, 15] rfl (by decide) (fun _ : Unit => [wX K.g x bd tr q p h sb sv, wB K.g bd (ss k) (sr k) (sn k), wB K.g tr ts tq tn, wP K.g q a0 a1 a2 a3 a4 a5 a6 a7 s0 s1 s2 s3 s4 s5 s6 s7 s8 s9, wPd K.g p fb tx len ex pl sh hu du, wB K.g fb fs fr fn, wH K.g h ho (min (kp + 1) 6) (if nx = 5 then 0 else nx + 1), wB K.g (ho 0) ((un hs nx st) 0) ((un hr nx r) 0) ((un hm nx n) 0), wB K.g (ho 1) ((un hs nx st) 1) ((un hr nx r) 1) ((un hm nx n) 1), wB K.g (ho 2) ((un hs nx st) 2) ((un hr nx r) 2) ((un hm nx n) 2), wB K.g (ho 3) ((un hs nx st) 3) ((un hr nx r) 3) ((un hm nx n) 3), wB K.g (ho 4) ((un hs nx st) 4) ((un hr nx r) 4) ((un hm nx n) 4), wB K.g (ho 5) ((un hs nx st) 5) ((un hr nx r) 5) ((un hm nx n) 5), wB K.g (sb 0) (ss 0) (sr 0) (sn 0), wB K.g (sb 1) (ss 1) (sr 1) (sn 1), wM K.g y all kept hist kp slo sav beg prt frm tx len sp tol rd]) (fun _ => rfl) rfl rfl (Nat.le_of_ble_eq_true rfl) dL_law_631 634 rfl (fun u9 hu9 => ?_)
  show Z K 104 1616 [wX K.g x bd tr q p h sb sv, wB K.g bd (ss k) (sr k) (sn k), wB K.g tr ts tq tn, wP K.g q a0 a1 a2 a3 a4 a5 a6 a7 s0 s1 s2 s3 s4 s5 s6 s7 s8 s9, wPd K.g p fb tx len ex pl sh hu du, wB K.g fb fs fr fn, wH K.g h ho (min (kp + 1) 6) (if nx = 5 then 0 else nx + 1), wB K.g (ho 0) ((un hs nx st) 0) ((un hr nx r) 0) ((un hm nx n) 0), wB K.g (ho 1) ((un hs nx st) 1) ((un hr nx r) 1) ((un hm nx n) 1), wB K.g (ho 2) ((un hs nx st) 2) ((un hr nx r) 2) ((un hm nx n) 2), wB K.g (ho 3) ((un hs nx st) 3) ((un hr nx r) 3) ((un hm nx n) 3), wB K.g (ho 4) ((un hs nx st) 4) ((un hr nx r) 4) ((un hm nx n) 4), wB K.g (ho 5) ((un hs nx st) 5) ((un hr nx r) 5) ((un hm nx n) 5), wB K.g (sb 0) (ss 0) (sr 0) (sn 0), wB K.g (sb 1) (ss 1) (sr 1) (sn 1), wM K.g y all kept hist kp slo sav beg prt frm tx len sp tol rd] [(0, .ref b), (1, .ref (x 0)), (2, .ref (y 0)), (3, .int (nI i))] 634 [.int (nI (sn k))]
  refine z_aload_n C 2 rfl rfl dL_law_634 635 rfl ?_
  refine z_aload_n C 0 rfl rfl dL_law_635 636 rfl ?_
  refine z_iload_n C 3 rfl rfl dL_law_636 637 rfl ?_
  refine z_iconst C (v := nI 1) rfl dL_law_637 638 rfl ?_
  refine z_iadd C dL_law_638 639 rfl ?_
  refine z_xld C hX hbl hbA (by omega) (by omega) dL_law_639 640 rfl ?_
  refine z_top ea1 ?_
  refine z_callV C [.int (nI k)] [.int (nI (sn k))] (tX5_restore_ok K.l K.g y all kept hist kp slo sav beg prt frm tx len sp tol rd (ss k) (sr k) (sn k) k (by first | omega | assumption) (by first | omega | assumption) (IS_t hSk hq1).2.1 (IS_t hSk hq1).2.2.2 (IS_t hSk hq1).2.2.1.1) gL_law_X5_restore rfl rfl rfl hdX5_restore ⟨Nat.le_of_ble_eq_true rfl, Nat.le_of_ble_eq_true rfl⟩ ⟨Nat.le_of_ble_eq_true rfl, Nat.le_of_ble_eq_true rfl⟩ 15 0 rfl rfl rfl [15] rfl rfl (zlc (N := 16) rfl rfl) [0, 1, 2, 3, 4, 5, 6, 7, 8, 9, 10, 11, 12, 13, 14, 16] rfl (by decide) (fun u : (Nat → Nat) × (Nat → Nat) × (Nat) => match u with | (all2, hist2, hl2) => [wX K.g x bd tr q p h sb sv, wB K.g bd (ss k) (sr k) (sn k), wB K.g tr ts tq tn, wP K.g q a0 a1 a2 a3 a4 a5 a6 a7 s0 s1 s2 s3 s4 s5 s6 s7 s8 s9, wPd K.g p fb tx len ex pl sh hu du, wB K.g fb fs fr fn, wH K.g h ho (min (kp + 1) 6) (if nx = 5 then 0 else nx + 1), wB K.g (ho 0) ((un hs nx st) 0) ((un hr nx r) 0) ((un hm nx n) 0), wB K.g (ho 1) ((un hs nx st) 1) ((un hr nx r) 1) ((un hm nx n) 1), wB K.g (ho 2) ((un hs nx st) 2) ((un hr nx r) 2) ((un hm nx n) 2), wB K.g (ho 3) ((un hs nx st) 3) ((un hr nx r) 3) ((un hm nx n) 3), wB K.g (ho 4) ((un hs nx st) 4) ((un hr nx r) 4) ((un hm nx n) 4), wB K.g (ho 5) ((un hs nx st) 5) ((un hr nx r) 5) ((un hm nx n) 5), wB K.g (sb 0) (ss 0) (sr 0) (sn 0), wB K.g (sb 1) (ss 1) (sr 1) (sn 1), wM K.g y all2 kept hist2 hl2 slo sav beg prt frm tx len sp tol rd]) (fun _ => rfl) rfl rfl (Nat.le_of_ble_eq_true rfl) dL_law_640 643 rfl (fun u9 hu9 => ?_)
  obtain ⟨al2, hi2, hl9⟩ := u9
  obtain ⟨hB2, hC⟩ := hu9
  have hB2 : Bd al2 (ss k) (sr k) (sn k) := hB2
  have hC : HCh all hist kp hi2 hl9 := hC
  show Z K 104 1616 [wX K.g x bd tr q p h sb sv, wB K.g bd (ss k) (sr k) (sn k), wB K.g tr ts tq tn, wP K.g q a0 a1 a2 a3 a4 a5 a6 a7 s0 s1 s2 s3 s4 s5 s6 s7 s8 s9, wPd K.g p fb tx len ex pl sh hu du, wB K.g fb fs fr fn, wH K.g h ho (min (kp + 1) 6) (if nx = 5 then 0 else nx + 1), wB K.g (ho 0) ((un hs nx st) 0) ((un hr nx r) 0) ((un hm nx n) 0), wB K.g (ho 1) ((un hs nx st) 1) ((un hr nx r) 1) ((un hm nx n) 1), wB K.g (ho 2) ((un hs nx st) 2) ((un hr nx r) 2) ((un hm nx n) 2), wB K.g (ho 3) ((un hs nx st) 3) ((un hr nx r) 3) ((un hm nx n) 3), wB K.g (ho 4) ((un hs nx st) 4) ((un hr nx r) 4) ((un hm nx n) 4), wB K.g (ho 5) ((un hs nx st) 5) ((un hr nx r) 5) ((un hm nx n) 5), wB K.g (sb 0) (ss 0) (sr 0) (sn 0), wB K.g (sb 1) (ss 1) (sr 1) (sn 1), wM K.g y al2 kept hi2 hl9 slo sav beg prt frm tx len sp tol rd] [(0, .ref b), (1, .ref (x 0)), (2, .ref (y 0)), (3, .int (nI i))] 643 [.int (nI (sn k)), .int (nI (sn k))]
  refine z_icmpI_eq C 648 dL_law_643 (by decide) 646 rfl (fun c9 => ?_) (fun c9 => absurd rfl c9)
  refine z_iinc C hnL 3 rfl (v := nI (i + 5)) (nI_add _ 5) [1, 2, 3, 0] [(0, .ref b), (1, .ref (x 0)), (2, .ref (y 0)), (3, .int (nI (i + 5)))] rfl (Nat.le_of_ble_eq_true rfl) dL_law_648 651 rfl ?_
  refine z_goto C 18 dL_law_651 (by decide) ?_
  have hPush := IH_push hH hG hB hC
  obtain rfl := hPush.1
  exact kk sv (ss k) (sr k) (sn k) ts tq tn a0 a1 a2 a3 a4 a5 a6 a7 s0 s1 s2 s3 s4 s5 s6 s7 s8 s9 tx len ex pl sh hu du fs fr fn (min (kp + 1) 6) (if nx = 5 then 0 else nx + 1) (un hs nx st) (un hr nx r) (un hm nx n) ss sr sn al2 kept hi2 slo sav beg prt frm sp tol rd ⟨(IS_t hSk hq1).2.2.1, hB2, hPush.2, hSl, hT⟩

set_option maxHeartbeats 4000000 in
set_option maxRecDepth 100000 in
theorem lb_set {K : zK} (C : Cx K room_1 RL cL_law wsL_law) (hnL : K.nL = 4) (b : Nat) (x bd tr q p fb h : Nat → Nat) (ho sb : Nat → Nat → Nat) (y : Nat → Nat) (L : Nat) (xs : Nat → Int32) (i : Nat) (hLH : LH K b L xs) (hiL : i + 5 ≤ L) (kk : LI K b x bd tr q p fb h ho sb y (i + 5)) (sv : Nat → Bool) (st : Nat → Nat) (r : Nat → Nat → Nat) (n : Nat) (ts : Nat → Nat) (tq : Nat → Nat → Nat) (tn : Nat) (a0 : Nat → Nat) (a1 : Nat → Nat) (a2 : Nat → Nat) (a3 : Nat → Nat) (a4 : Nat → Nat) (a5 : Nat → Nat) (a6 : Nat → Nat) (a7 : Nat → Nat) (s0 : Nat) (s1 : Nat) (s2 : Nat) (s3 : Nat) (s4 : Nat) (s5 : Nat) (s6 : Nat) (s7 : Nat) (s8 : Nat) (s9 : Nat) (tx : Nat → Nat) (len : Nat) (ex : Nat) (pl : Int32) (sh : Int32) (hu : Int32) (du : Int32) (fs : Nat → Nat) (fr : Nat → Nat → Nat) (fn : Nat) (kp : Nat) (nx : Nat) (hs : Nat → Nat → Nat) (hr : Nat → Nat → Nat → Nat) (hm : Nat → Nat) (ss : Nat → Nat → Nat) (sr : Nat → Nat → Nat → Nat) (sn : Nat → Nat) (all : Nat → Nat) (kept : Nat → Nat) (hist : Nat → Nat) (slo : Nat → Nat) (sav : Nat → Nat) (beg : Nat → Nat) (prt : Nat → Nat) (frm : Nat → Nat) (sp : Nat) (tol : Nat → Nat) (rd : Nat) (hI : IV sv st r n tx len kp nx hs hr hm ss sr sn all hist slo sav) : Z K 104 1616 [wX K.g x bd tr q p h sb sv, wB K.g bd st r n, wB K.g tr ts tq tn, wP K.g q a0 a1 a2 a3 a4 a5 a6 a7 s0 s1 s2 s3 s4 s5 s6 s7 s8 s9, wPd K.g p fb tx len ex pl sh hu du, wB K.g fb fs fr fn, wH K.g h ho kp nx, wB K.g (ho 0) (hs 0) (hr 0) (hm 0), wB K.g (ho 1) (hs 1) (hr 1) (hm 1), wB K.g (ho 2) (hs 2) (hr 2) (hm 2), wB K.g (ho 3) (hs 3) (hr 3) (hm 3), wB K.g (ho 4) (hs 4) (hr 4) (hm 4), wB K.g (ho 5) (hs 5) (hr 5) (hm 5), wB K.g (sb 0) (ss 0) (sr 0) (sn 0), wB K.g (sb 1) (ss 1) (sr 1) (sn 1), wM K.g y all kept hist kp slo sav beg prt frm tx len sp tol rd] [(0, .ref b), (1, .ref (x 0)), (2, .ref (y 0)), (3, .int (nI i))] 128 [] := by
  obtain ⟨hX, hbl, hbA, hL, heSet, heOrd⟩ := hLH
  obtain ⟨hG, hB, hH, hSl, hT⟩ := hI
  obtain ⟨hn, hS, hJ, hR⟩ := id hG
  have hk := hH.1
  have hx := hH.2.1
  have hl := hT.1
  have ht := hT.2
  by_cases hb1 : rg (xs (i + 1)).toInt (Int.ofNat 0) (Int.ofNat 6) = true
  rotate_left
  · skip
    have hb1 : rg (xs (i + 1)).toInt (Int.ofNat 0) (Int.ofNat 6) = false := eq_false_of_ne_true hb1
    refine z_aload_n C 1 rfl rfl dL_law_128 129 rfl ?_
    refine z_aload_n C 0 rfl rfl dL_law_129 130 rfl ?_
    refine z_iload_n C 3 rfl rfl dL_law_130 131 rfl ?_
    refine z_iconst C (v := nI 1) rfl dL_law_131 132 rfl ?_
    refine z_iadd C dL_law_132 133 rfl ?_
    refine z_xld C hX hbl hbA (by omega) (by omega) dL_law_133 134 rfl ?_
    refine z_aload_n C 0 rfl rfl dL_law_134 135 rfl ?_
    refine z_iload_n C 3 rfl rfl dL_law_135 136 rfl ?_
    refine z_iconst C (v := nI 2) rfl dL_law_136 137 rfl ?_
    refine z_iadd C dL_law_137 138 rfl ?_
    refine z_xld C hX hbl hbA (by omega) (by omega) dL_law_138 139 rfl ?_
    refine z_callVE (E := eSet) (fun _ _ _ e e2 h => eSet.same e e2 h) (fun _ _ _ hS9 hW9 hAB => eSet.later heSet hS9 hW9 hAB) C [.int (xs (i + 1)), .int (xs (i + 2))] [] (tX4_set_b1 K.l K.g x bd tr q p h sb sv (xs (i + 1)) (xs (i + 2)) hb1) gL_law_X4_set rfl rfl rfl hdX4_set ⟨Nat.le_of_ble_eq_true rfl, Nat.le_of_ble_eq_true rfl⟩ ⟨Nat.le_of_ble_eq_true rfl, Nat.le_of_ble_eq_true rfl⟩ 0 0 rfl rfl rfl [0] rfl rfl (zlc (N := 16) rfl rfl) [16, 1, 2, 3, 4, 5, 6, 7, 8, 9, 10, 11, 12, 13, 14, 15] rfl (by decide) (fun _ : Unit => [wX K.g x bd tr q p h sb sv, wB K.g bd st r n, wB K.g tr ts tq tn, wP K.g q a0 a1 a2 a3 a4 a5 a6 a7 s0 s1 s2 s3 s4 s5 s6 s7 s8 s9, wPd K.g p fb tx len ex pl sh hu du, wB K.g fb fs fr fn, wH K.g h ho kp nx, wB K.g (ho 0) (hs 0) (hr 0) (hm 0), wB K.g (ho 1) (hs 1) (hr 1) (hm 1), wB K.g (ho 2) (hs 2) (hr 2) (hm 2), wB K.g (ho 3) (hs 3) (hr 3) (hm 3), wB K.g (ho 4) (hs 4) (hr 4) (hm 4), wB K.g (ho 5) (hs 5) (hr 5) (hm 5), wB K.g (sb 0) (ss 0) (sr 0) (sn 0), wB K.g (sb 1) (ss 1) (sr 1) (sn 1), wM K.g y all kept hist kp slo sav beg prt frm tx len sp tol rd]) (fun _ => rfl) rfl rfl (Nat.le_of_ble_eq_true rfl) dL_law_139 142 rfl (fun u9 hu9 => ?_)
    show Z K 104 1616 [wX K.g x bd tr q p h sb sv, wB K.g bd st r n, wB K.g tr ts tq tn, wP K.g q a0 a1 a2 a3 a4 a5 a6 a7 s0 s1 s2 s3 s4 s5 s6 s7 s8 s9, wPd K.g p fb tx len ex pl sh hu du, wB K.g fb fs fr fn, wH K.g h ho kp nx, wB K.g (ho 0) (hs 0) (hr 0) (hm 0), wB K.g (ho 1) (hs 1) (hr 1) (hm 1), wB K.g (ho 2) (hs 2) (hr 2) (hm 2), wB K.g (ho 3) (hs 3) (hr 3) (hm 3), wB K.g (ho 4) (hs 4) (hr 4) (hm 4), wB K.g (ho 5) (hs 5) (hr 5) (hm 5), wB K.g (sb 0) (ss 0) (sr 0) (sn 0), wB K.g (sb 1) (ss 1) (sr 1) (sn 1), wM K.g y all kept hist kp slo sav beg prt frm tx len sp tol rd] [(0, .ref b), (1, .ref (x 0)), (2, .ref (y 0)), (3, .int (nI i))] 142 [.int (-2)]
    refine z_aload_n C 2 rfl rfl dL_law_142 143 rfl ?_
    refine z_aload_n C 0 rfl rfl dL_law_143 144 rfl ?_
    refine z_iload_n C 3 rfl rfl dL_law_144 145 rfl ?_
    refine z_iconst C (v := nI 1) rfl dL_law_145 146 rfl ?_
    refine z_iadd C dL_law_146 147 rfl ?_
    refine z_xld C hX hbl hbA (by omega) (by omega) dL_law_147 148 rfl ?_
    refine z_aload_n C 0 rfl rfl dL_law_148 149 rfl ?_
    refine z_iload_n C 3 rfl rfl dL_law_149 150 rfl ?_
    refine z_iconst C (v := nI 2) rfl dL_law_150 151 rfl ?_
    refine z_iadd C dL_law_151 152 rfl ?_
    refine z_xld C hX hbl hbA (by omega) (by omega) dL_law_152 153 rfl ?_
    refine z_callV C [.int (xs (i + 1)), .int (xs (i + 2))] [.int (-2)] (tX5_set_b1 K.l K.g y all kept hist kp slo sav beg prt frm tx len sp tol rd (xs (i + 1)) (xs (i + 2)) hb1) gL_law_X5_set rfl rfl rfl hdX5_set ⟨Nat.le_of_ble_eq_true rfl, Nat.le_of_ble_eq_true rfl⟩ ⟨Nat.le_of_ble_eq_true rfl, Nat.le_of_ble_eq_true rfl⟩ 15 0 rfl rfl rfl [15] rfl rfl (zlc (N := 16) rfl rfl) [0, 1, 2, 3, 4, 5, 6, 7, 8, 9, 10, 11, 12, 13, 14, 16] rfl (by decide) (fun _ : Unit => [wX K.g x bd tr q p h sb sv, wB K.g bd st r n, wB K.g tr ts tq tn, wP K.g q a0 a1 a2 a3 a4 a5 a6 a7 s0 s1 s2 s3 s4 s5 s6 s7 s8 s9, wPd K.g p fb tx len ex pl sh hu du, wB K.g fb fs fr fn, wH K.g h ho kp nx, wB K.g (ho 0) (hs 0) (hr 0) (hm 0), wB K.g (ho 1) (hs 1) (hr 1) (hm 1), wB K.g (ho 2) (hs 2) (hr 2) (hm 2), wB K.g (ho 3) (hs 3) (hr 3) (hm 3), wB K.g (ho 4) (hs 4) (hr 4) (hm 4), wB K.g (ho 5) (hs 5) (hr 5) (hm 5), wB K.g (sb 0) (ss 0) (sr 0) (sn 0), wB K.g (sb 1) (ss 1) (sr 1) (sn 1), wM K.g y all kept hist kp slo sav beg prt frm tx len sp tol rd]) (fun _ => rfl) rfl rfl (Nat.le_of_ble_eq_true rfl) dL_law_153 156 rfl (fun u9 hu9 => ?_)
    show Z K 104 1616 [wX K.g x bd tr q p h sb sv, wB K.g bd st r n, wB K.g tr ts tq tn, wP K.g q a0 a1 a2 a3 a4 a5 a6 a7 s0 s1 s2 s3 s4 s5 s6 s7 s8 s9, wPd K.g p fb tx len ex pl sh hu du, wB K.g fb fs fr fn, wH K.g h ho kp nx, wB K.g (ho 0) (hs 0) (hr 0) (hm 0), wB K.g (ho 1) (hs 1) (hr 1) (hm 1), wB K.g (ho 2) (hs 2) (hr 2) (hm 2), wB K.g (ho 3) (hs 3) (hr 3) (hm 3), wB K.g (ho 4) (hs 4) (hr 4) (hm 4), wB K.g (ho 5) (hs 5) (hr 5) (hm 5), wB K.g (sb 0) (ss 0) (sr 0) (sn 0), wB K.g (sb 1) (ss 1) (sr 1) (sn 1), wM K.g y all kept hist kp slo sav beg prt frm tx len sp tol rd] [(0, .ref b), (1, .ref (x 0)), (2, .ref (y 0)), (3, .int (nI i))] 156 [.int (-2), .int (-2)]
    refine z_icmpI_eq C 648 dL_law_156 (by decide) 159 rfl (fun c9 => ?_) (fun c9 => absurd rfl c9)
    refine z_iinc C hnL 3 rfl (v := nI (i + 5)) (nI_add _ 5) [1, 2, 3, 0] [(0, .ref b), (1, .ref (x 0)), (2, .ref (y 0)), (3, .int (nI (i + 5)))] rfl (Nat.le_of_ble_eq_true rfl) dL_law_648 651 rfl ?_
    refine z_goto C 18 dL_law_651 (by decide) ?_
    exact kk sv st r n ts tq tn a0 a1 a2 a3 a4 a5 a6 a7 s0 s1 s2 s3 s4 s5 s6 s7 s8 s9 tx len ex pl sh hu du fs fr fn kp nx hs hr hm ss sr sn all kept hist slo sav beg prt frm sp tol rd ⟨hG, hB, hH, hSl, hT⟩
  obtain ⟨k, hlo1, hhi1, ea1⟩ := rg_nI (lo := 0) (hi := 6) hb1
  by_cases hb2 : rg (xs (i + 2)).toInt (Int.ofNat (leS k)) (Int.ofNat (moS k)) = true
  rotate_left
  · skip
    have hb2 : rg (xs (i + 2)).toInt (Int.ofNat (leS k)) (Int.ofNat (moS k)) = false := eq_false_of_ne_true hb2
    refine z_aload_n C 1 rfl rfl dL_law_128 129 rfl ?_
    refine z_aload_n C 0 rfl rfl dL_law_129 130 rfl ?_
    refine z_iload_n C 3 rfl rfl dL_law_130 131 rfl ?_
    refine z_iconst C (v := nI 1) rfl dL_law_131 132 rfl ?_
    refine z_iadd C dL_law_132 133 rfl ?_
    refine z_xld C hX hbl hbA (by omega) (by omega) dL_law_133 134 rfl ?_
    refine z_top ea1 ?_
    refine z_aload_n C 0 rfl rfl dL_law_134 135 rfl ?_
    refine z_iload_n C 3 rfl rfl dL_law_135 136 rfl ?_
    refine z_iconst C (v := nI 2) rfl dL_law_136 137 rfl ?_
    refine z_iadd C dL_law_137 138 rfl ?_
    refine z_xld C hX hbl hbA (by omega) (by omega) dL_law_138 139 rfl ?_
    refine z_callVE (E := eSet) (fun _ _ _ e e2 h => eSet.same e e2 h) (fun _ _ _ hS9 hW9 hAB => eSet.later heSet hS9 hW9 hAB) C [.int (nI k), .int (xs (i + 2))] [] (tX4_set_b2 K.l K.g x bd tr q p h sb sv k (xs (i + 2)) (by first | omega | assumption) hb2) gL_law_X4_set rfl rfl rfl hdX4_set ⟨Nat.le_of_ble_eq_true rfl, Nat.le_of_ble_eq_true rfl⟩ ⟨Nat.le_of_ble_eq_true rfl, Nat.le_of_ble_eq_true rfl⟩ 0 0 rfl rfl rfl [0] rfl rfl (zlc (N := 16) rfl rfl) [16, 1, 2, 3, 4, 5, 6, 7, 8, 9, 10, 11, 12, 13, 14, 15] rfl (by decide) (fun _ : Unit => [wX K.g x bd tr q p h sb sv, wB K.g bd st r n, wB K.g tr ts tq tn, wP K.g q a0 a1 a2 a3 a4 a5 a6 a7 s0 s1 s2 s3 s4 s5 s6 s7 s8 s9, wPd K.g p fb tx len ex pl sh hu du, wB K.g fb fs fr fn, wH K.g h ho kp nx, wB K.g (ho 0) (hs 0) (hr 0) (hm 0), wB K.g (ho 1) (hs 1) (hr 1) (hm 1), wB K.g (ho 2) (hs 2) (hr 2) (hm 2), wB K.g (ho 3) (hs 3) (hr 3) (hm 3), wB K.g (ho 4) (hs 4) (hr 4) (hm 4), wB K.g (ho 5) (hs 5) (hr 5) (hm 5), wB K.g (sb 0) (ss 0) (sr 0) (sn 0), wB K.g (sb 1) (ss 1) (sr 1) (sn 1), wM K.g y all kept hist kp slo sav beg prt frm tx len sp tol rd]) (fun _ => rfl) rfl rfl (Nat.le_of_ble_eq_true rfl) dL_law_139 142 rfl (fun u9 hu9 => ?_)
    show Z K 104 1616 [wX K.g x bd tr q p h sb sv, wB K.g bd st r n, wB K.g tr ts tq tn, wP K.g q a0 a1 a2 a3 a4 a5 a6 a7 s0 s1 s2 s3 s4 s5 s6 s7 s8 s9, wPd K.g p fb tx len ex pl sh hu du, wB K.g fb fs fr fn, wH K.g h ho kp nx, wB K.g (ho 0) (hs 0) (hr 0) (hm 0), wB K.g (ho 1) (hs 1) (hr 1) (hm 1), wB K.g (ho 2) (hs 2) (hr 2) (hm 2), wB K.g (ho 3) (hs 3) (hr 3) (hm 3), wB K.g (ho 4) (hs 4) (hr 4) (hm 4), wB K.g (ho 5) (hs 5) (hr 5) (hm 5), wB K.g (sb 0) (ss 0) (sr 0) (sn 0), wB K.g (sb 1) (ss 1) (sr 1) (sn 1), wM K.g y all kept hist kp slo sav beg prt frm tx len sp tol rd] [(0, .ref b), (1, .ref (x 0)), (2, .ref (y 0)), (3, .int (nI i))] 142 [.int (-2)]
    refine z_aload_n C 2 rfl rfl dL_law_142 143 rfl ?_
    refine z_aload_n C 0 rfl rfl dL_law_143 144 rfl ?_
    refine z_iload_n C 3 rfl rfl dL_law_144 145 rfl ?_
    refine z_iconst C (v := nI 1) rfl dL_law_145 146 rfl ?_
    refine z_iadd C dL_law_146 147 rfl ?_
    refine z_xld C hX hbl hbA (by omega) (by omega) dL_law_147 148 rfl ?_
    refine z_top ea1 ?_
    refine z_aload_n C 0 rfl rfl dL_law_148 149 rfl ?_
    refine z_iload_n C 3 rfl rfl dL_law_149 150 rfl ?_
    refine z_iconst C (v := nI 2) rfl dL_law_150 151 rfl ?_
    refine z_iadd C dL_law_151 152 rfl ?_
    refine z_xld C hX hbl hbA (by omega) (by omega) dL_law_152 153 rfl ?_
    refine z_callV C [.int (nI k), .int (xs (i + 2))] [.int (-2)] (tX5_set_b2 K.l K.g y all kept hist kp slo sav beg prt frm tx len sp tol rd k (xs (i + 2)) (by first | omega | assumption) hb2) gL_law_X5_set rfl rfl rfl hdX5_set ⟨Nat.le_of_ble_eq_true rfl, Nat.le_of_ble_eq_true rfl⟩ ⟨Nat.le_of_ble_eq_true rfl, Nat.le_of_ble_eq_true rfl⟩ 15 0 rfl rfl rfl [15] rfl rfl (zlc (N := 16) rfl rfl) [0, 1, 2, 3, 4, 5, 6, 7, 8, 9, 10, 11, 12, 13, 14, 16] rfl (by decide) (fun _ : Unit => [wX K.g x bd tr q p h sb sv, wB K.g bd st r n, wB K.g tr ts tq tn, wP K.g q a0 a1 a2 a3 a4 a5 a6 a7 s0 s1 s2 s3 s4 s5 s6 s7 s8 s9, wPd K.g p fb tx len ex pl sh hu du, wB K.g fb fs fr fn, wH K.g h ho kp nx, wB K.g (ho 0) (hs 0) (hr 0) (hm 0), wB K.g (ho 1) (hs 1) (hr 1) (hm 1), wB K.g (ho 2) (hs 2) (hr 2) (hm 2), wB K.g (ho 3) (hs 3) (hr 3) (hm 3), wB K.g (ho 4) (hs 4) (hr 4) (hm 4), wB K.g (ho 5) (hs 5) (hr 5) (hm 5), wB K.g (sb 0) (ss 0) (sr 0) (sn 0), wB K.g (sb 1) (ss 1) (sr 1) (sn 1), wM K.g y all kept hist kp slo sav beg prt frm tx len sp tol rd]) (fun _ => rfl) rfl rfl (Nat.le_of_ble_eq_true rfl) dL_law_153 156 rfl (fun u9 hu9 => ?_)
    show Z K 104 1616 [wX K.g x bd tr q p h sb sv, wB K.g bd st r n, wB K.g tr ts tq tn, wP K.g q a0 a1 a2 a3 a4 a5 a6 a7 s0 s1 s2 s3 s4 s5 s6 s7 s8 s9, wPd K.g p fb tx len ex pl sh hu du, wB K.g fb fs fr fn, wH K.g h ho kp nx, wB K.g (ho 0) (hs 0) (hr 0) (hm 0), wB K.g (ho 1) (hs 1) (hr 1) (hm 1), wB K.g (ho 2) (hs 2) (hr 2) (hm 2), wB K.g (ho 3) (hs 3) (hr 3) (hm 3), wB K.g (ho 4) (hs 4) (hr 4) (hm 4), wB K.g (ho 5) (hs 5) (hr 5) (hm 5), wB K.g (sb 0) (ss 0) (sr 0) (sn 0), wB K.g (sb 1) (ss 1) (sr 1) (sn 1), wM K.g y all kept hist kp slo sav beg prt frm tx len sp tol rd] [(0, .ref b), (1, .ref (x 0)), (2, .ref (y 0)), (3, .int (nI i))] 156 [.int (-2), .int (-2)]
    refine z_icmpI_eq C 648 dL_law_156 (by decide) 159 rfl (fun c9 => ?_) (fun c9 => absurd rfl c9)
    refine z_iinc C hnL 3 rfl (v := nI (i + 5)) (nI_add _ 5) [1, 2, 3, 0] [(0, .ref b), (1, .ref (x 0)), (2, .ref (y 0)), (3, .int (nI (i + 5)))] rfl (Nat.le_of_ble_eq_true rfl) dL_law_648 651 rfl ?_
    refine z_goto C 18 dL_law_651 (by decide) ?_
    exact kk sv st r n ts tq tn a0 a1 a2 a3 a4 a5 a6 a7 s0 s1 s2 s3 s4 s5 s6 s7 s8 s9 tx len ex pl sh hu du fs fr fn kp nx hs hr hm ss sr sn all kept hist slo sav beg prt frm sp tol rd ⟨hG, hB, hH, hSl, hT⟩
  obtain ⟨v, hlo2, hhi2, ea2⟩ := rg_nI (lo := leS k) (hi := moS k) hb2
  by_cases hq1 : mND (un st k v) r n ≤ un st k v 5
  rotate_left
  · skip
    refine z_aload_n C 1 rfl rfl dL_law_128 129 rfl ?_
    refine z_aload_n C 0 rfl rfl dL_law_129 130 rfl ?_
    refine z_iload_n C 3 rfl rfl dL_law_130 131 rfl ?_
    refine z_iconst C (v := nI 1) rfl dL_law_131 132 rfl ?_
    refine z_iadd C dL_law_132 133 rfl ?_
    refine z_xld C hX hbl hbA (by omega) (by omega) dL_law_133 134 rfl ?_
    refine z_top ea1 ?_
    refine z_aload_n C 0 rfl rfl dL_law_134 135 rfl ?_
    refine z_iload_n C 3 rfl rfl dL_law_135 136 rfl ?_
    refine z_iconst C (v := nI 2) rfl dL_law_136 137 rfl ?_
    refine z_iadd C dL_law_137 138 rfl ?_
    refine z_xld C hX hbl hbA (by omega) (by omega) dL_law_138 139 rfl ?_
    refine z_top ea2 ?_
    refine z_callVE (E := eSet) (fun _ _ _ e e2 h => eSet.same e e2 h) (fun _ _ _ hS9 hW9 hAB => eSet.later heSet hS9 hW9 hAB) C [.int (nI k), .int (nI v)] [] (tX4_set_np K.l K.g x bd tr q p h sb sv st r n k v (by first | omega | assumption) (by first | omega | assumption) (by first | omega | assumption) (by first | omega | assumption) (by first | omega | assumption) (by first | omega | assumption) (Nat.lt_of_not_le hq1)) gL_law_X4_set rfl rfl rfl hdX4_set ⟨Nat.le_of_ble_eq_true rfl, Nat.le_of_ble_eq_true rfl⟩ ⟨Nat.le_of_ble_eq_true rfl, Nat.le_of_ble_eq_true rfl⟩ 0 0 rfl rfl rfl [0, 1] rfl rfl (zlc (N := 16) rfl rfl) [16, 17, 2, 3, 4, 5, 6, 7, 8, 9, 10, 11, 12, 13, 14, 15] rfl (by decide) (fun _ : Unit => [wX K.g x bd tr q p h sb sv, wB K.g bd st r n, wB K.g tr ts tq tn, wP K.g q a0 a1 a2 a3 a4 a5 a6 a7 s0 s1 s2 s3 s4 s5 s6 s7 s8 s9, wPd K.g p fb tx len ex pl sh hu du, wB K.g fb fs fr fn, wH K.g h ho kp nx, wB K.g (ho 0) (hs 0) (hr 0) (hm 0), wB K.g (ho 1) (hs 1) (hr 1) (hm 1), wB K.g (ho 2) (hs 2) (hr 2) (hm 2), wB K.g (ho 3) (hs 3) (hr 3) (hm 3), wB K.g (ho 4) (hs 4) (hr 4) (hm 4), wB K.g (ho 5) (hs 5) (hr 5) (hm 5), wB K.g (sb 0) (ss 0) (sr 0) (sn 0), wB K.g (sb 1) (ss 1) (sr 1) (sn 1), wM K.g y all kept hist kp slo sav beg prt frm tx len sp tol rd]) (fun _ => rfl) rfl rfl (Nat.le_of_ble_eq_true rfl) dL_law_139 142 rfl (fun u9 hu9 => ?_)
    show Z K 104 1616 [wX K.g x bd tr q p h sb sv, wB K.g bd st r n, wB K.g tr ts tq tn, wP K.g q a0 a1 a2 a3 a4 a5 a6 a7 s0 s1 s2 s3 s4 s5 s6 s7 s8 s9, wPd K.g p fb tx len ex pl sh hu du, wB K.g fb fs fr fn, wH K.g h ho kp nx, wB K.g (ho 0) (hs 0) (hr 0) (hm 0), wB K.g (ho 1) (hs 1) (hr 1) (hm 1), wB K.g (ho 2) (hs 2) (hr 2) (hm 2), wB K.g (ho 3) (hs 3) (hr 3) (hm 3), wB K.g (ho 4) (hs 4) (hr 4) (hm 4), wB K.g (ho 5) (hs 5) (hr 5) (hm 5), wB K.g (sb 0) (ss 0) (sr 0) (sn 0), wB K.g (sb 1) (ss 1) (sr 1) (sn 1), wM K.g y all kept hist kp slo sav beg prt frm tx len sp tol rd] [(0, .ref b), (1, .ref (x 0)), (2, .ref (y 0)), (3, .int (nI i))] 142 [.int (-5)]
    refine z_aload_n C 2 rfl rfl dL_law_142 143 rfl ?_
    refine z_aload_n C 0 rfl rfl dL_law_143 144 rfl ?_
    refine z_iload_n C 3 rfl rfl dL_law_144 145 rfl ?_
    refine z_iconst C (v := nI 1) rfl dL_law_145 146 rfl ?_
    refine z_iadd C dL_law_146 147 rfl ?_
    refine z_xld C hX hbl hbA (by omega) (by omega) dL_law_147 148 rfl ?_
    refine z_top ea1 ?_
    refine z_aload_n C 0 rfl rfl dL_law_148 149 rfl ?_
    refine z_iload_n C 3 rfl rfl dL_law_149 150 rfl ?_
    refine z_iconst C (v := nI 2) rfl dL_law_150 151 rfl ?_
    refine z_iadd C dL_law_151 152 rfl ?_
    refine z_xld C hX hbl hbA (by omega) (by omega) dL_law_152 153 rfl ?_
    refine z_top ea2 ?_
    refine z_callV C [.int (nI k), .int (nI v)] [.int (-5)] (tX5_set_np K.l K.g y all kept hist kp slo sav beg prt frm tx len sp tol rd st r n k v (by first | omega | assumption) (by first | omega | assumption) (by first | omega | assumption) (by first | omega | assumption) (by first | omega | assumption) (by first | omega | assumption) (by first | omega | assumption) (Nat.lt_of_not_le hq1)) gL_law_X5_set rfl rfl rfl hdX5_set ⟨Nat.le_of_ble_eq_true rfl, Nat.le_of_ble_eq_true rfl⟩ ⟨Nat.le_of_ble_eq_true rfl, Nat.le_of_ble_eq_true rfl⟩ 15 0 rfl rfl rfl [15] rfl rfl (zlc (N := 16) rfl rfl) [0, 1, 2, 3, 4, 5, 6, 7, 8, 9, 10, 11, 12, 13, 14, 16] rfl (by decide) (fun _ : Unit => [wX K.g x bd tr q p h sb sv, wB K.g bd st r n, wB K.g tr ts tq tn, wP K.g q a0 a1 a2 a3 a4 a5 a6 a7 s0 s1 s2 s3 s4 s5 s6 s7 s8 s9, wPd K.g p fb tx len ex pl sh hu du, wB K.g fb fs fr fn, wH K.g h ho kp nx, wB K.g (ho 0) (hs 0) (hr 0) (hm 0), wB K.g (ho 1) (hs 1) (hr 1) (hm 1), wB K.g (ho 2) (hs 2) (hr 2) (hm 2), wB K.g (ho 3) (hs 3) (hr 3) (hm 3), wB K.g (ho 4) (hs 4) (hr 4) (hm 4), wB K.g (ho 5) (hs 5) (hr 5) (hm 5), wB K.g (sb 0) (ss 0) (sr 0) (sn 0), wB K.g (sb 1) (ss 1) (sr 1) (sn 1), wM K.g y all kept hist kp slo sav beg prt frm tx len sp tol rd]) (fun _ => rfl) rfl rfl (Nat.le_of_ble_eq_true rfl) dL_law_153 156 rfl (fun u9 hu9 => ?_)
    show Z K 104 1616 [wX K.g x bd tr q p h sb sv, wB K.g bd st r n, wB K.g tr ts tq tn, wP K.g q a0 a1 a2 a3 a4 a5 a6 a7 s0 s1 s2 s3 s4 s5 s6 s7 s8 s9, wPd K.g p fb tx len ex pl sh hu du, wB K.g fb fs fr fn, wH K.g h ho kp nx, wB K.g (ho 0) (hs 0) (hr 0) (hm 0), wB K.g (ho 1) (hs 1) (hr 1) (hm 1), wB K.g (ho 2) (hs 2) (hr 2) (hm 2), wB K.g (ho 3) (hs 3) (hr 3) (hm 3), wB K.g (ho 4) (hs 4) (hr 4) (hm 4), wB K.g (ho 5) (hs 5) (hr 5) (hm 5), wB K.g (sb 0) (ss 0) (sr 0) (sn 0), wB K.g (sb 1) (ss 1) (sr 1) (sn 1), wM K.g y all kept hist kp slo sav beg prt frm tx len sp tol rd] [(0, .ref b), (1, .ref (x 0)), (2, .ref (y 0)), (3, .int (nI i))] 156 [.int (-5), .int (-5)]
    refine z_icmpI_eq C 648 dL_law_156 (by decide) 159 rfl (fun c9 => ?_) (fun c9 => absurd rfl c9)
    refine z_iinc C hnL 3 rfl (v := nI (i + 5)) (nI_add _ 5) [1, 2, 3, 0] [(0, .ref b), (1, .ref (x 0)), (2, .ref (y 0)), (3, .int (nI (i + 5)))] rfl (Nat.le_of_ble_eq_true rfl) dL_law_648 651 rfl ?_
    refine z_goto C 18 dL_law_651 (by decide) ?_
    exact kk sv st r n ts tq tn a0 a1 a2 a3 a4 a5 a6 a7 s0 s1 s2 s3 s4 s5 s6 s7 s8 s9 tx len ex pl sh hu du fs fr fn kp nx hs hr hm ss sr sn all kept hist slo sav beg prt frm sp tol rd ⟨hG, hB, hH, hSl, hT⟩
  refine z_aload_n C 1 rfl rfl dL_law_128 129 rfl ?_
  refine z_aload_n C 0 rfl rfl dL_law_129 130 rfl ?_
  refine z_iload_n C 3 rfl rfl dL_law_130 131 rfl ?_
  refine z_iconst C (v := nI 1) rfl dL_law_131 132 rfl ?_
  refine z_iadd C dL_law_132 133 rfl ?_
  refine z_xld C hX hbl hbA (by omega) (by omega) dL_law_133 134 rfl ?_
  refine z_top ea1 ?_
  refine z_aload_n C 0 rfl rfl dL_law_134 135 rfl ?_
  refine z_iload_n C 3 rfl rfl dL_law_135 136 rfl ?_
  refine z_iconst C (v := nI 2) rfl dL_law_136 137 rfl ?_
  refine z_iadd C dL_law_137 138 rfl ?_
  refine z_xld C hX hbl hbA (by omega) (by omega) dL_law_138 139 rfl ?_
  refine z_top ea2 ?_
  refine z_callVE (E := eSet) (fun _ _ _ e e2 h => eSet.same e e2 h) (fun _ _ _ hS9 hW9 hAB => eSet.later heSet hS9 hW9 hAB) C [.int (nI k), .int (nI v)] [] (tX4_set_ok K.l K.g x bd tr q p h sb sv st r n ho hs hr hm kp nx k v (by first | omega | assumption) (by first | omega | assumption) (by first | omega | assumption) (by first | omega | assumption) (by first | omega | assumption) (by first | omega | assumption) (by first | omega | assumption) (by first | omega | assumption) hq1) gL_law_X4_set rfl rfl rfl hdX4_set ⟨Nat.le_of_ble_eq_true rfl, Nat.le_of_ble_eq_true rfl⟩ ⟨Nat.le_of_ble_eq_true rfl, Nat.le_of_ble_eq_true rfl⟩ 0 0 rfl rfl rfl [0, 1, 6, 7, 8, 9, 10, 11, 12] rfl rfl (zlc (N := 16) rfl rfl) [16, 17, 2, 3, 4, 5, 18, 19, 20, 21, 22, 23, 24, 13, 14, 15] rfl (by decide) (fun _ : Unit => [wX K.g x bd tr q p h sb sv, wB K.g bd (un st k v) r n, wB K.g tr ts tq tn, wP K.g q a0 a1 a2 a3 a4 a5 a6 a7 s0 s1 s2 s3 s4 s5 s6 s7 s8 s9, wPd K.g p fb tx len ex pl sh hu du, wB K.g fb fs fr fn, wH K.g h ho (min (kp + 1) 6) (if nx = 5 then 0 else nx + 1), wB K.g (ho 0) ((un hs nx st) 0) ((un hr nx r) 0) ((un hm nx n) 0), wB K.g (ho 1) ((un hs nx st) 1) ((un hr nx r) 1) ((un hm nx n) 1), wB K.g (ho 2) ((un hs nx st) 2) ((un hr nx r) 2) ((un hm nx n) 2), wB K.g (ho 3) ((un hs nx st) 3) ((un hr nx r) 3) ((un hm nx n) 3), wB K.g (ho 4) ((un hs nx st) 4) ((un hr nx r) 4) ((un hm nx n) 4), wB K.g (ho 5) ((un hs nx st) 5) ((un hr nx r) 5) ((un hm nx n) 5), wB K.g (sb 0) (ss 0) (sr 0) (sn 0), wB K.g (sb 1) (ss 1) (sr 1) (sn 1), wM K.g y all kept hist kp slo sav beg prt frm tx len sp tol rd]) (fun _ => rfl) rfl rfl (Nat.le_of_ble_eq_true rfl) dL_law_139 142 rfl (fun u9 hu9 => ?_)
  show Z K 104 1616 [wX K.g x bd tr q p h sb sv, wB K.g bd (un st k v) r n, wB K.g tr ts tq tn, wP K.g q a0 a1 a2 a3 a4 a5 a6 a7 s0 s1 s2 s3 s4 s5 s6 s7 s8 s9, wPd K.g p fb tx len ex pl sh hu du, wB K.g fb fs fr fn, wH K.g h ho (min (kp + 1) 6) (if nx = 5 then 0 else nx + 1), wB K.g (ho 0) ((un hs nx st) 0) ((un hr nx r) 0) ((un hm nx n) 0), wB K.g (ho 1) ((un hs nx st) 1) ((un hr nx r) 1) ((un hm nx n) 1), wB K.g (ho 2) ((un hs nx st) 2) ((un hr nx r) 2) ((un hm nx n) 2), wB K.g (ho 3) ((un hs nx st) 3) ((un hr nx r) 3) ((un hm nx n) 3), wB K.g (ho 4) ((un hs nx st) 4) ((un hr nx r) 4) ((un hm nx n) 4), wB K.g (ho 5) ((un hs nx st) 5) ((un hr nx r) 5) ((un hm nx n) 5), wB K.g (sb 0) (ss 0) (sr 0) (sn 0), wB K.g (sb 1) (ss 1) (sr 1) (sn 1), wM K.g y all kept hist kp slo sav beg prt frm tx len sp tol rd] [(0, .ref b), (1, .ref (x 0)), (2, .ref (y 0)), (3, .int (nI i))] 142 [.int (nI (st k))]
  refine z_aload_n C 2 rfl rfl dL_law_142 143 rfl ?_
  refine z_aload_n C 0 rfl rfl dL_law_143 144 rfl ?_
  refine z_iload_n C 3 rfl rfl dL_law_144 145 rfl ?_
  refine z_iconst C (v := nI 1) rfl dL_law_145 146 rfl ?_
  refine z_iadd C dL_law_146 147 rfl ?_
  refine z_xld C hX hbl hbA (by omega) (by omega) dL_law_147 148 rfl ?_
  refine z_top ea1 ?_
  refine z_aload_n C 0 rfl rfl dL_law_148 149 rfl ?_
  refine z_iload_n C 3 rfl rfl dL_law_149 150 rfl ?_
  refine z_iconst C (v := nI 2) rfl dL_law_150 151 rfl ?_
  refine z_iadd C dL_law_151 152 rfl ?_
  refine z_xld C hX hbl hbA (by omega) (by omega) dL_law_152 153 rfl ?_
  refine z_top ea2 ?_
  refine z_callV C [.int (nI k), .int (nI v)] [.int (nI (st k))] (tX5_set_ok K.l K.g y all kept hist kp slo sav beg prt frm tx len sp tol rd st r n k v (by first | omega | assumption) (by first | omega | assumption) (by first | omega | assumption) (by first | omega | assumption) (by first | omega | assumption) (by first | omega | assumption) (by first | omega | assumption) (by first | omega | assumption) hq1) gL_law_X5_set rfl rfl rfl hdX5_set ⟨Nat.le_of_ble_eq_true rfl, Nat.le_of_ble_eq_true rfl⟩ ⟨Nat.le_of_ble_eq_true rfl, Nat.le_of_ble_eq_true rfl⟩ 15 0 rfl rfl rfl [15] rfl rfl (zlc (N := 16) rfl rfl) [0, 1, 2, 3, 4, 5, 6, 7, 8, 9, 10, 11, 12, 13, 14, 16] rfl (by decide) (fun u : (Nat → Nat) × (Nat → Nat) × (Nat) => match u with | (all2, hist2, hl2) => [wX K.g x bd tr q p h sb sv, wB K.g bd (un st k v) r n, wB K.g tr ts tq tn, wP K.g q a0 a1 a2 a3 a4 a5 a6 a7 s0 s1 s2 s3 s4 s5 s6 s7 s8 s9, wPd K.g p fb tx len ex pl sh hu du, wB K.g fb fs fr fn, wH K.g h ho (min (kp + 1) 6) (if nx = 5 then 0 else nx + 1), wB K.g (ho 0) ((un hs nx st) 0) ((un hr nx r) 0) ((un hm nx n) 0), wB K.g (ho 1) ((un hs nx st) 1) ((un hr nx r) 1) ((un hm nx n) 1), wB K.g (ho 2) ((un hs nx st) 2) ((un hr nx r) 2) ((un hm nx n) 2), wB K.g (ho 3) ((un hs nx st) 3) ((un hr nx r) 3) ((un hm nx n) 3), wB K.g (ho 4) ((un hs nx st) 4) ((un hr nx r) 4) ((un hm nx n) 4), wB K.g (ho 5) ((un hs nx st) 5) ((un hr nx r) 5) ((un hm nx n) 5), wB K.g (sb 0) (ss 0) (sr 0) (sn 0), wB K.g (sb 1) (ss 1) (sr 1) (sn 1), wM K.g y all2 kept hist2 hl2 slo sav beg prt frm tx len sp tol rd]) (fun _ => rfl) rfl rfl (Nat.le_of_ble_eq_true rfl) dL_law_153 156 rfl (fun u9 hu9 => ?_)
  obtain ⟨al2, hi2, hl9⟩ := u9
  obtain ⟨hB2, hC⟩ := hu9
  have hB2 : Bd al2 (un st k v) r n := hB2
  have hC : HCh all hist kp hi2 hl9 := hC
  show Z K 104 1616 [wX K.g x bd tr q p h sb sv, wB K.g bd (un st k v) r n, wB K.g tr ts tq tn, wP K.g q a0 a1 a2 a3 a4 a5 a6 a7 s0 s1 s2 s3 s4 s5 s6 s7 s8 s9, wPd K.g p fb tx len ex pl sh hu du, wB K.g fb fs fr fn, wH K.g h ho (min (kp + 1) 6) (if nx = 5 then 0 else nx + 1), wB K.g (ho 0) ((un hs nx st) 0) ((un hr nx r) 0) ((un hm nx n) 0), wB K.g (ho 1) ((un hs nx st) 1) ((un hr nx r) 1) ((un hm nx n) 1), wB K.g (ho 2) ((un hs nx st) 2) ((un hr nx r) 2) ((un hm nx n) 2), wB K.g (ho 3) ((un hs nx st) 3) ((un hr nx r) 3) ((un hm nx n) 3), wB K.g (ho 4) ((un hs nx st) 4) ((un hr nx r) 4) ((un hm nx n) 4), wB K.g (ho 5) ((un hs nx st) 5) ((un hr nx r) 5) ((un hm nx n) 5), wB K.g (sb 0) (ss 0) (sr 0) (sn 0), wB K.g (sb 1) (ss 1) (sr 1) (sn 1), wM K.g y al2 kept hi2 hl9 slo sav beg prt frm tx len sp tol rd] [(0, .ref b), (1, .ref (x 0)), (2, .ref (y 0)), (3, .int (nI i))] 156 [.int (nI (st k)), .int (nI (st k))]
  refine z_icmpI_eq C 648 dL_law_156 (by decide) 159 rfl (fun c9 => ?_) (fun c9 => absurd rfl c9)
  refine z_iinc C hnL 3 rfl (v := nI (i + 5)) (nI_add _ 5) [1, 2, 3, 0] [(0, .ref b), (1, .ref (x 0)), (2, .ref (y 0)), (3, .int (nI (i + 5)))] rfl (Nat.le_of_ble_eq_true rfl) dL_law_648 651 rfl ?_
  refine z_goto C 18 dL_law_651 (by decide) ?_
  have hPush := IH_push hH hG hB hC
  obtain rfl := hPush.1
  exact kk sv (un st k v) r n ts tq tn a0 a1 a2 a3 a4 a5 a6 a7 s0 s1 s2 s3 s4 s5 s6 s7 s8 s9 tx len ex pl sh hu du fs fr fn (min (kp + 1) 6) (if nx = 5 then 0 else nx + 1) (un hs nx st) (un hr nx r) (un hm nx n) ss sr sn al2 kept hi2 slo sav beg prt frm sp tol rd ⟨⟨hn, okS_un hS (by omega) hlo2 hhi2, hJ, fun j hj => Nat.le_trans (mND_ge hj) hq1⟩, hB2, hPush.2, hSl, hT⟩

set_option maxHeartbeats 4000000 in
set_option maxRecDepth 100000 in
theorem lb_job {K : zK} (C : Cx K room_1 RL cL_law wsL_law) (hnL : K.nL = 4) (b : Nat) (x bd tr q p fb h : Nat → Nat) (ho sb : Nat → Nat → Nat) (y : Nat → Nat) (L : Nat) (xs : Nat → Int32) (i : Nat) (hLH : LH K b L xs) (hiL : i + 5 ≤ L) (kk : LI K b x bd tr q p fb h ho sb y (i + 5)) (sv : Nat → Bool) (st : Nat → Nat) (r : Nat → Nat → Nat) (n : Nat) (ts : Nat → Nat) (tq : Nat → Nat → Nat) (tn : Nat) (a0 : Nat → Nat) (a1 : Nat → Nat) (a2 : Nat → Nat) (a3 : Nat → Nat) (a4 : Nat → Nat) (a5 : Nat → Nat) (a6 : Nat → Nat) (a7 : Nat → Nat) (s0 : Nat) (s1 : Nat) (s2 : Nat) (s3 : Nat) (s4 : Nat) (s5 : Nat) (s6 : Nat) (s7 : Nat) (s8 : Nat) (s9 : Nat) (tx : Nat → Nat) (len : Nat) (ex : Nat) (pl : Int32) (sh : Int32) (hu : Int32) (du : Int32) (fs : Nat → Nat) (fr : Nat → Nat → Nat) (fn : Nat) (kp : Nat) (nx : Nat) (hs : Nat → Nat → Nat) (hr : Nat → Nat → Nat → Nat) (hm : Nat → Nat) (ss : Nat → Nat → Nat) (sr : Nat → Nat → Nat → Nat) (sn : Nat → Nat) (all : Nat → Nat) (kept : Nat → Nat) (hist : Nat → Nat) (slo : Nat → Nat) (sav : Nat → Nat) (beg : Nat → Nat) (prt : Nat → Nat) (frm : Nat → Nat) (sp : Nat) (tol : Nat → Nat) (rd : Nat) (hI : IV sv st r n tx len kp nx hs hr hm ss sr sn all hist slo sav) : Z K 104 1616 [wX K.g x bd tr q p h sb sv, wB K.g bd st r n, wB K.g tr ts tq tn, wP K.g q a0 a1 a2 a3 a4 a5 a6 a7 s0 s1 s2 s3 s4 s5 s6 s7 s8 s9, wPd K.g p fb tx len ex pl sh hu du, wB K.g fb fs fr fn, wH K.g h ho kp nx, wB K.g (ho 0) (hs 0) (hr 0) (hm 0), wB K.g (ho 1) (hs 1) (hr 1) (hm 1), wB K.g (ho 2) (hs 2) (hr 2) (hm 2), wB K.g (ho 3) (hs 3) (hr 3) (hm 3), wB K.g (ho 4) (hs 4) (hr 4) (hm 4), wB K.g (ho 5) (hs 5) (hr 5) (hm 5), wB K.g (sb 0) (ss 0) (sr 0) (sn 0), wB K.g (sb 1) (ss 1) (sr 1) (sn 1), wM K.g y all kept hist kp slo sav beg prt frm tx len sp tol rd] [(0, .ref b), (1, .ref (x 0)), (2, .ref (y 0)), (3, .int (nI i))] 161 [] := by
  obtain ⟨hX, hbl, hbA, hL, heSet, heOrd⟩ := hLH
  obtain ⟨hG, hB, hH, hSl, hT⟩ := hI
  obtain ⟨hn, hS, hJ, hR⟩ := id hG
  have hk := hH.1
  have hx := hH.2.1
  have hl := hT.1
  have ht := hT.2
  by_cases hb1 : rg (xs (i + 1)).toInt (Int.ofNat 0) (Int.ofNat 9) = true
  rotate_left
  · skip
    have hb1 : rg (xs (i + 1)).toInt (Int.ofNat 0) (Int.ofNat 9) = false := eq_false_of_ne_true hb1
    refine z_aload_n C 1 rfl rfl dL_law_161 162 rfl ?_
    refine z_aload_n C 0 rfl rfl dL_law_162 163 rfl ?_
    refine z_iload_n C 3 rfl rfl dL_law_163 164 rfl ?_
    refine z_iconst C (v := nI 1) rfl dL_law_164 165 rfl ?_
    refine z_iadd C dL_law_165 166 rfl ?_
    refine z_xld C hX hbl hbA (by omega) (by omega) dL_law_166 167 rfl ?_
    refine z_aload_n C 0 rfl rfl dL_law_167 168 rfl ?_
    refine z_iload_n C 3 rfl rfl dL_law_168 169 rfl ?_
    refine z_iconst C (v := nI 2) rfl dL_law_169 170 rfl ?_
    refine z_iadd C dL_law_170 171 rfl ?_
    refine z_xld C hX hbl hbA (by omega) (by omega) dL_law_171 172 rfl ?_
    refine z_aload_n C 0 rfl rfl dL_law_172 173 rfl ?_
    refine z_iload_n C 3 rfl rfl dL_law_173 174 rfl ?_
    refine z_iconst C (v := nI 3) rfl dL_law_174 175 rfl ?_
    refine z_iadd C dL_law_175 176 rfl ?_
    refine z_xld C hX hbl hbA (by omega) (by omega) dL_law_176 177 rfl ?_
    refine z_aload_n C 0 rfl rfl dL_law_177 178 rfl ?_
    refine z_iload_n C 3 rfl rfl dL_law_178 179 rfl ?_
    refine z_iconst C (v := nI 4) rfl dL_law_179 180 rfl ?_
    refine z_iadd C dL_law_180 181 rfl ?_
    refine z_xld C hX hbl hbA (by omega) (by omega) dL_law_181 182 rfl ?_
    refine z_callV C [.int (xs (i + 1)), .int (xs (i + 2)), .int (xs (i + 3)), .int (xs (i + 4))] [] (tX4_job_b K.l K.g x bd tr q p h sb sv (xs (i + 1)) (xs (i + 2)) (xs (i + 3)) (xs (i + 4)) (by rw [hb1]; rfl)) gL_law_X4_job rfl rfl rfl hdX4_job ⟨Nat.le_of_ble_eq_true rfl, Nat.le_of_ble_eq_true rfl⟩ ⟨Nat.le_of_ble_eq_true rfl, Nat.le_of_ble_eq_true rfl⟩ 0 0 rfl rfl rfl [0] rfl rfl (zlc (N := 16) rfl rfl) [16, 1, 2, 3, 4, 5, 6, 7, 8, 9, 10, 11, 12, 13, 14, 15] rfl (by decide) (fun _ : Unit => [wX K.g x bd tr q p h sb sv, wB K.g bd st r n, wB K.g tr ts tq tn, wP K.g q a0 a1 a2 a3 a4 a5 a6 a7 s0 s1 s2 s3 s4 s5 s6 s7 s8 s9, wPd K.g p fb tx len ex pl sh hu du, wB K.g fb fs fr fn, wH K.g h ho kp nx, wB K.g (ho 0) (hs 0) (hr 0) (hm 0), wB K.g (ho 1) (hs 1) (hr 1) (hm 1), wB K.g (ho 2) (hs 2) (hr 2) (hm 2), wB K.g (ho 3) (hs 3) (hr 3) (hm 3), wB K.g (ho 4) (hs 4) (hr 4) (hm 4), wB K.g (ho 5) (hs 5) (hr 5) (hm 5), wB K.g (sb 0) (ss 0) (sr 0) (sn 0), wB K.g (sb 1) (ss 1) (sr 1) (sn 1), wM K.g y all kept hist kp slo sav beg prt frm tx len sp tol rd]) (fun _ => rfl) rfl rfl (Nat.le_of_ble_eq_true rfl) dL_law_182 185 rfl (fun u9 hu9 => ?_)
    show Z K 104 1616 [wX K.g x bd tr q p h sb sv, wB K.g bd st r n, wB K.g tr ts tq tn, wP K.g q a0 a1 a2 a3 a4 a5 a6 a7 s0 s1 s2 s3 s4 s5 s6 s7 s8 s9, wPd K.g p fb tx len ex pl sh hu du, wB K.g fb fs fr fn, wH K.g h ho kp nx, wB K.g (ho 0) (hs 0) (hr 0) (hm 0), wB K.g (ho 1) (hs 1) (hr 1) (hm 1), wB K.g (ho 2) (hs 2) (hr 2) (hm 2), wB K.g (ho 3) (hs 3) (hr 3) (hm 3), wB K.g (ho 4) (hs 4) (hr 4) (hm 4), wB K.g (ho 5) (hs 5) (hr 5) (hm 5), wB K.g (sb 0) (ss 0) (sr 0) (sn 0), wB K.g (sb 1) (ss 1) (sr 1) (sn 1), wM K.g y all kept hist kp slo sav beg prt frm tx len sp tol rd] [(0, .ref b), (1, .ref (x 0)), (2, .ref (y 0)), (3, .int (nI i))] 185 [.int (-2)]
    refine z_aload_n C 2 rfl rfl dL_law_185 186 rfl ?_
    refine z_aload_n C 0 rfl rfl dL_law_186 187 rfl ?_
    refine z_iload_n C 3 rfl rfl dL_law_187 188 rfl ?_
    refine z_iconst C (v := nI 1) rfl dL_law_188 189 rfl ?_
    refine z_iadd C dL_law_189 190 rfl ?_
    refine z_xld C hX hbl hbA (by omega) (by omega) dL_law_190 191 rfl ?_
    refine z_aload_n C 0 rfl rfl dL_law_191 192 rfl ?_
    refine z_iload_n C 3 rfl rfl dL_law_192 193 rfl ?_
    refine z_iconst C (v := nI 2) rfl dL_law_193 194 rfl ?_
    refine z_iadd C dL_law_194 195 rfl ?_
    refine z_xld C hX hbl hbA (by omega) (by omega) dL_law_195 196 rfl ?_
    refine z_aload_n C 0 rfl rfl dL_law_196 197 rfl ?_
    refine z_iload_n C 3 rfl rfl dL_law_197 198 rfl ?_
    refine z_iconst C (v := nI 3) rfl dL_law_198 199 rfl ?_
    refine z_iadd C dL_law_199 200 rfl ?_
    refine z_xld C hX hbl hbA (by omega) (by omega) dL_law_200 201 rfl ?_
    refine z_aload_n C 0 rfl rfl dL_law_201 202 rfl ?_
    refine z_iload_n C 3 rfl rfl dL_law_202 203 rfl ?_
    refine z_iconst C (v := nI 4) rfl dL_law_203 204 rfl ?_
    refine z_iadd C dL_law_204 205 rfl ?_
    refine z_xld C hX hbl hbA (by omega) (by omega) dL_law_205 206 rfl ?_
    refine z_callV C [.int (xs (i + 1)), .int (xs (i + 2)), .int (xs (i + 3)), .int (xs (i + 4))] [.int (-2)] (tX5_job_b K.l K.g y all kept hist kp slo sav beg prt frm tx len sp tol rd (xs (i + 1)) (xs (i + 2)) (xs (i + 3)) (xs (i + 4)) (by rw [hb1]; rfl)) gL_law_X5_job rfl rfl rfl hdX5_job ⟨Nat.le_of_ble_eq_true rfl, Nat.le_of_ble_eq_true rfl⟩ ⟨Nat.le_of_ble_eq_true rfl, Nat.le_of_ble_eq_true rfl⟩ 15 0 rfl rfl rfl [15] rfl rfl (zlc (N := 16) rfl rfl) [0, 1, 2, 3, 4, 5, 6, 7, 8, 9, 10, 11, 12, 13, 14, 16] rfl (by decide) (fun _ : Unit => [wX K.g x bd tr q p h sb sv, wB K.g bd st r n, wB K.g tr ts tq tn, wP K.g q a0 a1 a2 a3 a4 a5 a6 a7 s0 s1 s2 s3 s4 s5 s6 s7 s8 s9, wPd K.g p fb tx len ex pl sh hu du, wB K.g fb fs fr fn, wH K.g h ho kp nx, wB K.g (ho 0) (hs 0) (hr 0) (hm 0), wB K.g (ho 1) (hs 1) (hr 1) (hm 1), wB K.g (ho 2) (hs 2) (hr 2) (hm 2), wB K.g (ho 3) (hs 3) (hr 3) (hm 3), wB K.g (ho 4) (hs 4) (hr 4) (hm 4), wB K.g (ho 5) (hs 5) (hr 5) (hm 5), wB K.g (sb 0) (ss 0) (sr 0) (sn 0), wB K.g (sb 1) (ss 1) (sr 1) (sn 1), wM K.g y all kept hist kp slo sav beg prt frm tx len sp tol rd]) (fun _ => rfl) rfl rfl (Nat.le_of_ble_eq_true rfl) dL_law_206 209 rfl (fun u9 hu9 => ?_)
    show Z K 104 1616 [wX K.g x bd tr q p h sb sv, wB K.g bd st r n, wB K.g tr ts tq tn, wP K.g q a0 a1 a2 a3 a4 a5 a6 a7 s0 s1 s2 s3 s4 s5 s6 s7 s8 s9, wPd K.g p fb tx len ex pl sh hu du, wB K.g fb fs fr fn, wH K.g h ho kp nx, wB K.g (ho 0) (hs 0) (hr 0) (hm 0), wB K.g (ho 1) (hs 1) (hr 1) (hm 1), wB K.g (ho 2) (hs 2) (hr 2) (hm 2), wB K.g (ho 3) (hs 3) (hr 3) (hm 3), wB K.g (ho 4) (hs 4) (hr 4) (hm 4), wB K.g (ho 5) (hs 5) (hr 5) (hm 5), wB K.g (sb 0) (ss 0) (sr 0) (sn 0), wB K.g (sb 1) (ss 1) (sr 1) (sn 1), wM K.g y all kept hist kp slo sav beg prt frm tx len sp tol rd] [(0, .ref b), (1, .ref (x 0)), (2, .ref (y 0)), (3, .int (nI i))] 209 [.int (-2), .int (-2)]
    refine z_icmpI_eq C 648 dL_law_209 (by decide) 212 rfl (fun c9 => ?_) (fun c9 => absurd rfl c9)
    refine z_iinc C hnL 3 rfl (v := nI (i + 5)) (nI_add _ 5) [1, 2, 3, 0] [(0, .ref b), (1, .ref (x 0)), (2, .ref (y 0)), (3, .int (nI (i + 5)))] rfl (Nat.le_of_ble_eq_true rfl) dL_law_648 651 rfl ?_
    refine z_goto C 18 dL_law_651 (by decide) ?_
    exact kk sv st r n ts tq tn a0 a1 a2 a3 a4 a5 a6 a7 s0 s1 s2 s3 s4 s5 s6 s7 s8 s9 tx len ex pl sh hu du fs fr fn kp nx hs hr hm ss sr sn all kept hist slo sav beg prt frm sp tol rd ⟨hG, hB, hH, hSl, hT⟩
  obtain ⟨ja, hlo1, hhi1, ea1⟩ := rg_nI (lo := 0) (hi := 9) hb1
  by_cases hb2 : rg (xs (i + 2)).toInt (Int.ofNat 0) (Int.ofNat 9) = true
  rotate_left
  · skip
    have hb2 : rg (xs (i + 2)).toInt (Int.ofNat 0) (Int.ofNat 9) = false := eq_false_of_ne_true hb2
    refine z_aload_n C 1 rfl rfl dL_law_161 162 rfl ?_
    refine z_aload_n C 0 rfl rfl dL_law_162 163 rfl ?_
    refine z_iload_n C 3 rfl rfl dL_law_163 164 rfl ?_
    refine z_iconst C (v := nI 1) rfl dL_law_164 165 rfl ?_
    refine z_iadd C dL_law_165 166 rfl ?_
    refine z_xld C hX hbl hbA (by omega) (by omega) dL_law_166 167 rfl ?_
    refine z_aload_n C 0 rfl rfl dL_law_167 168 rfl ?_
    refine z_iload_n C 3 rfl rfl dL_law_168 169 rfl ?_
    refine z_iconst C (v := nI 2) rfl dL_law_169 170 rfl ?_
    refine z_iadd C dL_law_170 171 rfl ?_
    refine z_xld C hX hbl hbA (by omega) (by omega) dL_law_171 172 rfl ?_
    refine z_aload_n C 0 rfl rfl dL_law_172 173 rfl ?_
    refine z_iload_n C 3 rfl rfl dL_law_173 174 rfl ?_
    refine z_iconst C (v := nI 3) rfl dL_law_174 175 rfl ?_
    refine z_iadd C dL_law_175 176 rfl ?_
    refine z_xld C hX hbl hbA (by omega) (by omega) dL_law_176 177 rfl ?_
    refine z_aload_n C 0 rfl rfl dL_law_177 178 rfl ?_
    refine z_iload_n C 3 rfl rfl dL_law_178 179 rfl ?_
    refine z_iconst C (v := nI 4) rfl dL_law_179 180 rfl ?_
    refine z_iadd C dL_law_180 181 rfl ?_
    refine z_xld C hX hbl hbA (by omega) (by omega) dL_law_181 182 rfl ?_
    refine z_callV C [.int (xs (i + 1)), .int (xs (i + 2)), .int (xs (i + 3)), .int (xs (i + 4))] [] (tX4_job_b K.l K.g x bd tr q p h sb sv (xs (i + 1)) (xs (i + 2)) (xs (i + 3)) (xs (i + 4)) (by rw [hb1, hb2]; rfl)) gL_law_X4_job rfl rfl rfl hdX4_job ⟨Nat.le_of_ble_eq_true rfl, Nat.le_of_ble_eq_true rfl⟩ ⟨Nat.le_of_ble_eq_true rfl, Nat.le_of_ble_eq_true rfl⟩ 0 0 rfl rfl rfl [0] rfl rfl (zlc (N := 16) rfl rfl) [16, 1, 2, 3, 4, 5, 6, 7, 8, 9, 10, 11, 12, 13, 14, 15] rfl (by decide) (fun _ : Unit => [wX K.g x bd tr q p h sb sv, wB K.g bd st r n, wB K.g tr ts tq tn, wP K.g q a0 a1 a2 a3 a4 a5 a6 a7 s0 s1 s2 s3 s4 s5 s6 s7 s8 s9, wPd K.g p fb tx len ex pl sh hu du, wB K.g fb fs fr fn, wH K.g h ho kp nx, wB K.g (ho 0) (hs 0) (hr 0) (hm 0), wB K.g (ho 1) (hs 1) (hr 1) (hm 1), wB K.g (ho 2) (hs 2) (hr 2) (hm 2), wB K.g (ho 3) (hs 3) (hr 3) (hm 3), wB K.g (ho 4) (hs 4) (hr 4) (hm 4), wB K.g (ho 5) (hs 5) (hr 5) (hm 5), wB K.g (sb 0) (ss 0) (sr 0) (sn 0), wB K.g (sb 1) (ss 1) (sr 1) (sn 1), wM K.g y all kept hist kp slo sav beg prt frm tx len sp tol rd]) (fun _ => rfl) rfl rfl (Nat.le_of_ble_eq_true rfl) dL_law_182 185 rfl (fun u9 hu9 => ?_)
    show Z K 104 1616 [wX K.g x bd tr q p h sb sv, wB K.g bd st r n, wB K.g tr ts tq tn, wP K.g q a0 a1 a2 a3 a4 a5 a6 a7 s0 s1 s2 s3 s4 s5 s6 s7 s8 s9, wPd K.g p fb tx len ex pl sh hu du, wB K.g fb fs fr fn, wH K.g h ho kp nx, wB K.g (ho 0) (hs 0) (hr 0) (hm 0), wB K.g (ho 1) (hs 1) (hr 1) (hm 1), wB K.g (ho 2) (hs 2) (hr 2) (hm 2), wB K.g (ho 3) (hs 3) (hr 3) (hm 3), wB K.g (ho 4) (hs 4) (hr 4) (hm 4), wB K.g (ho 5) (hs 5) (hr 5) (hm 5), wB K.g (sb 0) (ss 0) (sr 0) (sn 0), wB K.g (sb 1) (ss 1) (sr 1) (sn 1), wM K.g y all kept hist kp slo sav beg prt frm tx len sp tol rd] [(0, .ref b), (1, .ref (x 0)), (2, .ref (y 0)), (3, .int (nI i))] 185 [.int (-2)]
    refine z_aload_n C 2 rfl rfl dL_law_185 186 rfl ?_
    refine z_aload_n C 0 rfl rfl dL_law_186 187 rfl ?_
    refine z_iload_n C 3 rfl rfl dL_law_187 188 rfl ?_
    refine z_iconst C (v := nI 1) rfl dL_law_188 189 rfl ?_
    refine z_iadd C dL_law_189 190 rfl ?_
    refine z_xld C hX hbl hbA (by omega) (by omega) dL_law_190 191 rfl ?_
    refine z_aload_n C 0 rfl rfl dL_law_191 192 rfl ?_
    refine z_iload_n C 3 rfl rfl dL_law_192 193 rfl ?_
    refine z_iconst C (v := nI 2) rfl dL_law_193 194 rfl ?_
    refine z_iadd C dL_law_194 195 rfl ?_
    refine z_xld C hX hbl hbA (by omega) (by omega) dL_law_195 196 rfl ?_
    refine z_aload_n C 0 rfl rfl dL_law_196 197 rfl ?_
    refine z_iload_n C 3 rfl rfl dL_law_197 198 rfl ?_
    refine z_iconst C (v := nI 3) rfl dL_law_198 199 rfl ?_
    refine z_iadd C dL_law_199 200 rfl ?_
    refine z_xld C hX hbl hbA (by omega) (by omega) dL_law_200 201 rfl ?_
    refine z_aload_n C 0 rfl rfl dL_law_201 202 rfl ?_
    refine z_iload_n C 3 rfl rfl dL_law_202 203 rfl ?_
    refine z_iconst C (v := nI 4) rfl dL_law_203 204 rfl ?_
    refine z_iadd C dL_law_204 205 rfl ?_
    refine z_xld C hX hbl hbA (by omega) (by omega) dL_law_205 206 rfl ?_
    refine z_callV C [.int (xs (i + 1)), .int (xs (i + 2)), .int (xs (i + 3)), .int (xs (i + 4))] [.int (-2)] (tX5_job_b K.l K.g y all kept hist kp slo sav beg prt frm tx len sp tol rd (xs (i + 1)) (xs (i + 2)) (xs (i + 3)) (xs (i + 4)) (by rw [hb1, hb2]; rfl)) gL_law_X5_job rfl rfl rfl hdX5_job ⟨Nat.le_of_ble_eq_true rfl, Nat.le_of_ble_eq_true rfl⟩ ⟨Nat.le_of_ble_eq_true rfl, Nat.le_of_ble_eq_true rfl⟩ 15 0 rfl rfl rfl [15] rfl rfl (zlc (N := 16) rfl rfl) [0, 1, 2, 3, 4, 5, 6, 7, 8, 9, 10, 11, 12, 13, 14, 16] rfl (by decide) (fun _ : Unit => [wX K.g x bd tr q p h sb sv, wB K.g bd st r n, wB K.g tr ts tq tn, wP K.g q a0 a1 a2 a3 a4 a5 a6 a7 s0 s1 s2 s3 s4 s5 s6 s7 s8 s9, wPd K.g p fb tx len ex pl sh hu du, wB K.g fb fs fr fn, wH K.g h ho kp nx, wB K.g (ho 0) (hs 0) (hr 0) (hm 0), wB K.g (ho 1) (hs 1) (hr 1) (hm 1), wB K.g (ho 2) (hs 2) (hr 2) (hm 2), wB K.g (ho 3) (hs 3) (hr 3) (hm 3), wB K.g (ho 4) (hs 4) (hr 4) (hm 4), wB K.g (ho 5) (hs 5) (hr 5) (hm 5), wB K.g (sb 0) (ss 0) (sr 0) (sn 0), wB K.g (sb 1) (ss 1) (sr 1) (sn 1), wM K.g y all kept hist kp slo sav beg prt frm tx len sp tol rd]) (fun _ => rfl) rfl rfl (Nat.le_of_ble_eq_true rfl) dL_law_206 209 rfl (fun u9 hu9 => ?_)
    show Z K 104 1616 [wX K.g x bd tr q p h sb sv, wB K.g bd st r n, wB K.g tr ts tq tn, wP K.g q a0 a1 a2 a3 a4 a5 a6 a7 s0 s1 s2 s3 s4 s5 s6 s7 s8 s9, wPd K.g p fb tx len ex pl sh hu du, wB K.g fb fs fr fn, wH K.g h ho kp nx, wB K.g (ho 0) (hs 0) (hr 0) (hm 0), wB K.g (ho 1) (hs 1) (hr 1) (hm 1), wB K.g (ho 2) (hs 2) (hr 2) (hm 2), wB K.g (ho 3) (hs 3) (hr 3) (hm 3), wB K.g (ho 4) (hs 4) (hr 4) (hm 4), wB K.g (ho 5) (hs 5) (hr 5) (hm 5), wB K.g (sb 0) (ss 0) (sr 0) (sn 0), wB K.g (sb 1) (ss 1) (sr 1) (sn 1), wM K.g y all kept hist kp slo sav beg prt frm tx len sp tol rd] [(0, .ref b), (1, .ref (x 0)), (2, .ref (y 0)), (3, .int (nI i))] 209 [.int (-2), .int (-2)]
    refine z_icmpI_eq C 648 dL_law_209 (by decide) 212 rfl (fun c9 => ?_) (fun c9 => absurd rfl c9)
    refine z_iinc C hnL 3 rfl (v := nI (i + 5)) (nI_add _ 5) [1, 2, 3, 0] [(0, .ref b), (1, .ref (x 0)), (2, .ref (y 0)), (3, .int (nI (i + 5)))] rfl (Nat.le_of_ble_eq_true rfl) dL_law_648 651 rfl ?_
    refine z_goto C 18 dL_law_651 (by decide) ?_
    exact kk sv st r n ts tq tn a0 a1 a2 a3 a4 a5 a6 a7 s0 s1 s2 s3 s4 s5 s6 s7 s8 s9 tx len ex pl sh hu du fs fr fn kp nx hs hr hm ss sr sn all kept hist slo sav beg prt frm sp tol rd ⟨hG, hB, hH, hSl, hT⟩
  obtain ⟨jb, hlo2, hhi2, ea2⟩ := rg_nI (lo := 0) (hi := 9) hb2
  by_cases hb3 : rg (xs (i + 3)).toInt (Int.ofNat 1) (Int.ofNat 20) = true
  rotate_left
  · skip
    have hb3 : rg (xs (i + 3)).toInt (Int.ofNat 1) (Int.ofNat 20) = false := eq_false_of_ne_true hb3
    refine z_aload_n C 1 rfl rfl dL_law_161 162 rfl ?_
    refine z_aload_n C 0 rfl rfl dL_law_162 163 rfl ?_
    refine z_iload_n C 3 rfl rfl dL_law_163 164 rfl ?_
    refine z_iconst C (v := nI 1) rfl dL_law_164 165 rfl ?_
    refine z_iadd C dL_law_165 166 rfl ?_
    refine z_xld C hX hbl hbA (by omega) (by omega) dL_law_166 167 rfl ?_
    refine z_aload_n C 0 rfl rfl dL_law_167 168 rfl ?_
    refine z_iload_n C 3 rfl rfl dL_law_168 169 rfl ?_
    refine z_iconst C (v := nI 2) rfl dL_law_169 170 rfl ?_
    refine z_iadd C dL_law_170 171 rfl ?_
    refine z_xld C hX hbl hbA (by omega) (by omega) dL_law_171 172 rfl ?_
    refine z_aload_n C 0 rfl rfl dL_law_172 173 rfl ?_
    refine z_iload_n C 3 rfl rfl dL_law_173 174 rfl ?_
    refine z_iconst C (v := nI 3) rfl dL_law_174 175 rfl ?_
    refine z_iadd C dL_law_175 176 rfl ?_
    refine z_xld C hX hbl hbA (by omega) (by omega) dL_law_176 177 rfl ?_
    refine z_aload_n C 0 rfl rfl dL_law_177 178 rfl ?_
    refine z_iload_n C 3 rfl rfl dL_law_178 179 rfl ?_
    refine z_iconst C (v := nI 4) rfl dL_law_179 180 rfl ?_
    refine z_iadd C dL_law_180 181 rfl ?_
    refine z_xld C hX hbl hbA (by omega) (by omega) dL_law_181 182 rfl ?_
    refine z_callV C [.int (xs (i + 1)), .int (xs (i + 2)), .int (xs (i + 3)), .int (xs (i + 4))] [] (tX4_job_b K.l K.g x bd tr q p h sb sv (xs (i + 1)) (xs (i + 2)) (xs (i + 3)) (xs (i + 4)) (by rw [hb1, hb2, hb3]; rfl)) gL_law_X4_job rfl rfl rfl hdX4_job ⟨Nat.le_of_ble_eq_true rfl, Nat.le_of_ble_eq_true rfl⟩ ⟨Nat.le_of_ble_eq_true rfl, Nat.le_of_ble_eq_true rfl⟩ 0 0 rfl rfl rfl [0] rfl rfl (zlc (N := 16) rfl rfl) [16, 1, 2, 3, 4, 5, 6, 7, 8, 9, 10, 11, 12, 13, 14, 15] rfl (by decide) (fun _ : Unit => [wX K.g x bd tr q p h sb sv, wB K.g bd st r n, wB K.g tr ts tq tn, wP K.g q a0 a1 a2 a3 a4 a5 a6 a7 s0 s1 s2 s3 s4 s5 s6 s7 s8 s9, wPd K.g p fb tx len ex pl sh hu du, wB K.g fb fs fr fn, wH K.g h ho kp nx, wB K.g (ho 0) (hs 0) (hr 0) (hm 0), wB K.g (ho 1) (hs 1) (hr 1) (hm 1), wB K.g (ho 2) (hs 2) (hr 2) (hm 2), wB K.g (ho 3) (hs 3) (hr 3) (hm 3), wB K.g (ho 4) (hs 4) (hr 4) (hm 4), wB K.g (ho 5) (hs 5) (hr 5) (hm 5), wB K.g (sb 0) (ss 0) (sr 0) (sn 0), wB K.g (sb 1) (ss 1) (sr 1) (sn 1), wM K.g y all kept hist kp slo sav beg prt frm tx len sp tol rd]) (fun _ => rfl) rfl rfl (Nat.le_of_ble_eq_true rfl) dL_law_182 185 rfl (fun u9 hu9 => ?_)
    show Z K 104 1616 [wX K.g x bd tr q p h sb sv, wB K.g bd st r n, wB K.g tr ts tq tn, wP K.g q a0 a1 a2 a3 a4 a5 a6 a7 s0 s1 s2 s3 s4 s5 s6 s7 s8 s9, wPd K.g p fb tx len ex pl sh hu du, wB K.g fb fs fr fn, wH K.g h ho kp nx, wB K.g (ho 0) (hs 0) (hr 0) (hm 0), wB K.g (ho 1) (hs 1) (hr 1) (hm 1), wB K.g (ho 2) (hs 2) (hr 2) (hm 2), wB K.g (ho 3) (hs 3) (hr 3) (hm 3), wB K.g (ho 4) (hs 4) (hr 4) (hm 4), wB K.g (ho 5) (hs 5) (hr 5) (hm 5), wB K.g (sb 0) (ss 0) (sr 0) (sn 0), wB K.g (sb 1) (ss 1) (sr 1) (sn 1), wM K.g y all kept hist kp slo sav beg prt frm tx len sp tol rd] [(0, .ref b), (1, .ref (x 0)), (2, .ref (y 0)), (3, .int (nI i))] 185 [.int (-2)]
    refine z_aload_n C 2 rfl rfl dL_law_185 186 rfl ?_
    refine z_aload_n C 0 rfl rfl dL_law_186 187 rfl ?_
    refine z_iload_n C 3 rfl rfl dL_law_187 188 rfl ?_
    refine z_iconst C (v := nI 1) rfl dL_law_188 189 rfl ?_
    refine z_iadd C dL_law_189 190 rfl ?_
    refine z_xld C hX hbl hbA (by omega) (by omega) dL_law_190 191 rfl ?_
    refine z_aload_n C 0 rfl rfl dL_law_191 192 rfl ?_
    refine z_iload_n C 3 rfl rfl dL_law_192 193 rfl ?_
    refine z_iconst C (v := nI 2) rfl dL_law_193 194 rfl ?_
    refine z_iadd C dL_law_194 195 rfl ?_
    refine z_xld C hX hbl hbA (by omega) (by omega) dL_law_195 196 rfl ?_
    refine z_aload_n C 0 rfl rfl dL_law_196 197 rfl ?_
    refine z_iload_n C 3 rfl rfl dL_law_197 198 rfl ?_
    refine z_iconst C (v := nI 3) rfl dL_law_198 199 rfl ?_
    refine z_iadd C dL_law_199 200 rfl ?_
    refine z_xld C hX hbl hbA (by omega) (by omega) dL_law_200 201 rfl ?_
    refine z_aload_n C 0 rfl rfl dL_law_201 202 rfl ?_
    refine z_iload_n C 3 rfl rfl dL_law_202 203 rfl ?_
    refine z_iconst C (v := nI 4) rfl dL_law_203 204 rfl ?_
    refine z_iadd C dL_law_204 205 rfl ?_
    refine z_xld C hX hbl hbA (by omega) (by omega) dL_law_205 206 rfl ?_
    refine z_callV C [.int (xs (i + 1)), .int (xs (i + 2)), .int (xs (i + 3)), .int (xs (i + 4))] [.int (-2)] (tX5_job_b K.l K.g y all kept hist kp slo sav beg prt frm tx len sp tol rd (xs (i + 1)) (xs (i + 2)) (xs (i + 3)) (xs (i + 4)) (by rw [hb1, hb2, hb3]; rfl)) gL_law_X5_job rfl rfl rfl hdX5_job ⟨Nat.le_of_ble_eq_true rfl, Nat.le_of_ble_eq_true rfl⟩ ⟨Nat.le_of_ble_eq_true rfl, Nat.le_of_ble_eq_true rfl⟩ 15 0 rfl rfl rfl [15] rfl rfl (zlc (N := 16) rfl rfl) [0, 1, 2, 3, 4, 5, 6, 7, 8, 9, 10, 11, 12, 13, 14, 16] rfl (by decide) (fun _ : Unit => [wX K.g x bd tr q p h sb sv, wB K.g bd st r n, wB K.g tr ts tq tn, wP K.g q a0 a1 a2 a3 a4 a5 a6 a7 s0 s1 s2 s3 s4 s5 s6 s7 s8 s9, wPd K.g p fb tx len ex pl sh hu du, wB K.g fb fs fr fn, wH K.g h ho kp nx, wB K.g (ho 0) (hs 0) (hr 0) (hm 0), wB K.g (ho 1) (hs 1) (hr 1) (hm 1), wB K.g (ho 2) (hs 2) (hr 2) (hm 2), wB K.g (ho 3) (hs 3) (hr 3) (hm 3), wB K.g (ho 4) (hs 4) (hr 4) (hm 4), wB K.g (ho 5) (hs 5) (hr 5) (hm 5), wB K.g (sb 0) (ss 0) (sr 0) (sn 0), wB K.g (sb 1) (ss 1) (sr 1) (sn 1), wM K.g y all kept hist kp slo sav beg prt frm tx len sp tol rd]) (fun _ => rfl) rfl rfl (Nat.le_of_ble_eq_true rfl) dL_law_206 209 rfl (fun u9 hu9 => ?_)
    show Z K 104 1616 [wX K.g x bd tr q p h sb sv, wB K.g bd st r n, wB K.g tr ts tq tn, wP K.g q a0 a1 a2 a3 a4 a5 a6 a7 s0 s1 s2 s3 s4 s5 s6 s7 s8 s9, wPd K.g p fb tx len ex pl sh hu du, wB K.g fb fs fr fn, wH K.g h ho kp nx, wB K.g (ho 0) (hs 0) (hr 0) (hm 0), wB K.g (ho 1) (hs 1) (hr 1) (hm 1), wB K.g (ho 2) (hs 2) (hr 2) (hm 2), wB K.g (ho 3) (hs 3) (hr 3) (hm 3), wB K.g (ho 4) (hs 4) (hr 4) (hm 4), wB K.g (ho 5) (hs 5) (hr 5) (hm 5), wB K.g (sb 0) (ss 0) (sr 0) (sn 0), wB K.g (sb 1) (ss 1) (sr 1) (sn 1), wM K.g y all kept hist kp slo sav beg prt frm tx len sp tol rd] [(0, .ref b), (1, .ref (x 0)), (2, .ref (y 0)), (3, .int (nI i))] 209 [.int (-2), .int (-2)]
    refine z_icmpI_eq C 648 dL_law_209 (by decide) 212 rfl (fun c9 => ?_) (fun c9 => absurd rfl c9)
    refine z_iinc C hnL 3 rfl (v := nI (i + 5)) (nI_add _ 5) [1, 2, 3, 0] [(0, .ref b), (1, .ref (x 0)), (2, .ref (y 0)), (3, .int (nI (i + 5)))] rfl (Nat.le_of_ble_eq_true rfl) dL_law_648 651 rfl ?_
    refine z_goto C 18 dL_law_651 (by decide) ?_
    exact kk sv st r n ts tq tn a0 a1 a2 a3 a4 a5 a6 a7 s0 s1 s2 s3 s4 s5 s6 s7 s8 s9 tx len ex pl sh hu du fs fr fn kp nx hs hr hm ss sr sn all kept hist slo sav beg prt frm sp tol rd ⟨hG, hB, hH, hSl, hT⟩
  obtain ⟨jc, hlo3, hhi3, ea3⟩ := rg_nI (lo := 1) (hi := 20) hb3
  by_cases hb4 : rg (xs (i + 4)).toInt (Int.ofNat 0) (Int.ofNat 3000) = true
  rotate_left
  · skip
    have hb4 : rg (xs (i + 4)).toInt (Int.ofNat 0) (Int.ofNat 3000) = false := eq_false_of_ne_true hb4
    refine z_aload_n C 1 rfl rfl dL_law_161 162 rfl ?_
    refine z_aload_n C 0 rfl rfl dL_law_162 163 rfl ?_
    refine z_iload_n C 3 rfl rfl dL_law_163 164 rfl ?_
    refine z_iconst C (v := nI 1) rfl dL_law_164 165 rfl ?_
    refine z_iadd C dL_law_165 166 rfl ?_
    refine z_xld C hX hbl hbA (by omega) (by omega) dL_law_166 167 rfl ?_
    refine z_aload_n C 0 rfl rfl dL_law_167 168 rfl ?_
    refine z_iload_n C 3 rfl rfl dL_law_168 169 rfl ?_
    refine z_iconst C (v := nI 2) rfl dL_law_169 170 rfl ?_
    refine z_iadd C dL_law_170 171 rfl ?_
    refine z_xld C hX hbl hbA (by omega) (by omega) dL_law_171 172 rfl ?_
    refine z_aload_n C 0 rfl rfl dL_law_172 173 rfl ?_
    refine z_iload_n C 3 rfl rfl dL_law_173 174 rfl ?_
    refine z_iconst C (v := nI 3) rfl dL_law_174 175 rfl ?_
    refine z_iadd C dL_law_175 176 rfl ?_
    refine z_xld C hX hbl hbA (by omega) (by omega) dL_law_176 177 rfl ?_
    refine z_aload_n C 0 rfl rfl dL_law_177 178 rfl ?_
    refine z_iload_n C 3 rfl rfl dL_law_178 179 rfl ?_
    refine z_iconst C (v := nI 4) rfl dL_law_179 180 rfl ?_
    refine z_iadd C dL_law_180 181 rfl ?_
    refine z_xld C hX hbl hbA (by omega) (by omega) dL_law_181 182 rfl ?_
    refine z_callV C [.int (xs (i + 1)), .int (xs (i + 2)), .int (xs (i + 3)), .int (xs (i + 4))] [] (tX4_job_b K.l K.g x bd tr q p h sb sv (xs (i + 1)) (xs (i + 2)) (xs (i + 3)) (xs (i + 4)) (by rw [hb1, hb2, hb3, hb4]; rfl)) gL_law_X4_job rfl rfl rfl hdX4_job ⟨Nat.le_of_ble_eq_true rfl, Nat.le_of_ble_eq_true rfl⟩ ⟨Nat.le_of_ble_eq_true rfl, Nat.le_of_ble_eq_true rfl⟩ 0 0 rfl rfl rfl [0] rfl rfl (zlc (N := 16) rfl rfl) [16, 1, 2, 3, 4, 5, 6, 7, 8, 9, 10, 11, 12, 13, 14, 15] rfl (by decide) (fun _ : Unit => [wX K.g x bd tr q p h sb sv, wB K.g bd st r n, wB K.g tr ts tq tn, wP K.g q a0 a1 a2 a3 a4 a5 a6 a7 s0 s1 s2 s3 s4 s5 s6 s7 s8 s9, wPd K.g p fb tx len ex pl sh hu du, wB K.g fb fs fr fn, wH K.g h ho kp nx, wB K.g (ho 0) (hs 0) (hr 0) (hm 0), wB K.g (ho 1) (hs 1) (hr 1) (hm 1), wB K.g (ho 2) (hs 2) (hr 2) (hm 2), wB K.g (ho 3) (hs 3) (hr 3) (hm 3), wB K.g (ho 4) (hs 4) (hr 4) (hm 4), wB K.g (ho 5) (hs 5) (hr 5) (hm 5), wB K.g (sb 0) (ss 0) (sr 0) (sn 0), wB K.g (sb 1) (ss 1) (sr 1) (sn 1), wM K.g y all kept hist kp slo sav beg prt frm tx len sp tol rd]) (fun _ => rfl) rfl rfl (Nat.le_of_ble_eq_true rfl) dL_law_182 185 rfl (fun u9 hu9 => ?_)
    show Z K 104 1616 [wX K.g x bd tr q p h sb sv, wB K.g bd st r n, wB K.g tr ts tq tn, wP K.g q a0 a1 a2 a3 a4 a5 a6 a7 s0 s1 s2 s3 s4 s5 s6 s7 s8 s9, wPd K.g p fb tx len ex pl sh hu du, wB K.g fb fs fr fn, wH K.g h ho kp nx, wB K.g (ho 0) (hs 0) (hr 0) (hm 0), wB K.g (ho 1) (hs 1) (hr 1) (hm 1), wB K.g (ho 2) (hs 2) (hr 2) (hm 2), wB K.g (ho 3) (hs 3) (hr 3) (hm 3), wB K.g (ho 4) (hs 4) (hr 4) (hm 4), wB K.g (ho 5) (hs 5) (hr 5) (hm 5), wB K.g (sb 0) (ss 0) (sr 0) (sn 0), wB K.g (sb 1) (ss 1) (sr 1) (sn 1), wM K.g y all kept hist kp slo sav beg prt frm tx len sp tol rd] [(0, .ref b), (1, .ref (x 0)), (2, .ref (y 0)), (3, .int (nI i))] 185 [.int (-2)]
    refine z_aload_n C 2 rfl rfl dL_law_185 186 rfl ?_
    refine z_aload_n C 0 rfl rfl dL_law_186 187 rfl ?_
    refine z_iload_n C 3 rfl rfl dL_law_187 188 rfl ?_
    refine z_iconst C (v := nI 1) rfl dL_law_188 189 rfl ?_
    refine z_iadd C dL_law_189 190 rfl ?_
    refine z_xld C hX hbl hbA (by omega) (by omega) dL_law_190 191 rfl ?_
    refine z_aload_n C 0 rfl rfl dL_law_191 192 rfl ?_
    refine z_iload_n C 3 rfl rfl dL_law_192 193 rfl ?_
    refine z_iconst C (v := nI 2) rfl dL_law_193 194 rfl ?_
    refine z_iadd C dL_law_194 195 rfl ?_
    refine z_xld C hX hbl hbA (by omega) (by omega) dL_law_195 196 rfl ?_
    refine z_aload_n C 0 rfl rfl dL_law_196 197 rfl ?_
    refine z_iload_n C 3 rfl rfl dL_law_197 198 rfl ?_
    refine z_iconst C (v := nI 3) rfl dL_law_198 199 rfl ?_
    refine z_iadd C dL_law_199 200 rfl ?_
    refine z_xld C hX hbl hbA (by omega) (by omega) dL_law_200 201 rfl ?_
    refine z_aload_n C 0 rfl rfl dL_law_201 202 rfl ?_
    refine z_iload_n C 3 rfl rfl dL_law_202 203 rfl ?_
    refine z_iconst C (v := nI 4) rfl dL_law_203 204 rfl ?_
    refine z_iadd C dL_law_204 205 rfl ?_
    refine z_xld C hX hbl hbA (by omega) (by omega) dL_law_205 206 rfl ?_
    refine z_callV C [.int (xs (i + 1)), .int (xs (i + 2)), .int (xs (i + 3)), .int (xs (i + 4))] [.int (-2)] (tX5_job_b K.l K.g y all kept hist kp slo sav beg prt frm tx len sp tol rd (xs (i + 1)) (xs (i + 2)) (xs (i + 3)) (xs (i + 4)) (by rw [hb1, hb2, hb3, hb4]; rfl)) gL_law_X5_job rfl rfl rfl hdX5_job ⟨Nat.le_of_ble_eq_true rfl, Nat.le_of_ble_eq_true rfl⟩ ⟨Nat.le_of_ble_eq_true rfl, Nat.le_of_ble_eq_true rfl⟩ 15 0 rfl rfl rfl [15] rfl rfl (zlc (N := 16) rfl rfl) [0, 1, 2, 3, 4, 5, 6, 7, 8, 9, 10, 11, 12, 13, 14, 16] rfl (by decide) (fun _ : Unit => [wX K.g x bd tr q p h sb sv, wB K.g bd st r n, wB K.g tr ts tq tn, wP K.g q a0 a1 a2 a3 a4 a5 a6 a7 s0 s1 s2 s3 s4 s5 s6 s7 s8 s9, wPd K.g p fb tx len ex pl sh hu du, wB K.g fb fs fr fn, wH K.g h ho kp nx, wB K.g (ho 0) (hs 0) (hr 0) (hm 0), wB K.g (ho 1) (hs 1) (hr 1) (hm 1), wB K.g (ho 2) (hs 2) (hr 2) (hm 2), wB K.g (ho 3) (hs 3) (hr 3) (hm 3), wB K.g (ho 4) (hs 4) (hr 4) (hm 4), wB K.g (ho 5) (hs 5) (hr 5) (hm 5), wB K.g (sb 0) (ss 0) (sr 0) (sn 0), wB K.g (sb 1) (ss 1) (sr 1) (sn 1), wM K.g y all kept hist kp slo sav beg prt frm tx len sp tol rd]) (fun _ => rfl) rfl rfl (Nat.le_of_ble_eq_true rfl) dL_law_206 209 rfl (fun u9 hu9 => ?_)
    show Z K 104 1616 [wX K.g x bd tr q p h sb sv, wB K.g bd st r n, wB K.g tr ts tq tn, wP K.g q a0 a1 a2 a3 a4 a5 a6 a7 s0 s1 s2 s3 s4 s5 s6 s7 s8 s9, wPd K.g p fb tx len ex pl sh hu du, wB K.g fb fs fr fn, wH K.g h ho kp nx, wB K.g (ho 0) (hs 0) (hr 0) (hm 0), wB K.g (ho 1) (hs 1) (hr 1) (hm 1), wB K.g (ho 2) (hs 2) (hr 2) (hm 2), wB K.g (ho 3) (hs 3) (hr 3) (hm 3), wB K.g (ho 4) (hs 4) (hr 4) (hm 4), wB K.g (ho 5) (hs 5) (hr 5) (hm 5), wB K.g (sb 0) (ss 0) (sr 0) (sn 0), wB K.g (sb 1) (ss 1) (sr 1) (sn 1), wM K.g y all kept hist kp slo sav beg prt frm tx len sp tol rd] [(0, .ref b), (1, .ref (x 0)), (2, .ref (y 0)), (3, .int (nI i))] 209 [.int (-2), .int (-2)]
    refine z_icmpI_eq C 648 dL_law_209 (by decide) 212 rfl (fun c9 => ?_) (fun c9 => absurd rfl c9)
    refine z_iinc C hnL 3 rfl (v := nI (i + 5)) (nI_add _ 5) [1, 2, 3, 0] [(0, .ref b), (1, .ref (x 0)), (2, .ref (y 0)), (3, .int (nI (i + 5)))] rfl (Nat.le_of_ble_eq_true rfl) dL_law_648 651 rfl ?_
    refine z_goto C 18 dL_law_651 (by decide) ?_
    exact kk sv st r n ts tq tn a0 a1 a2 a3 a4 a5 a6 a7 s0 s1 s2 s3 s4 s5 s6 s7 s8 s9 tx len ex pl sh hu du fs fr fn kp nx hs hr hm ss sr sn all kept hist slo sav beg prt frm sp tol rd ⟨hG, hB, hH, hSl, hT⟩
  obtain ⟨jd, hlo4, hhi4, ea4⟩ := rg_nI (lo := 0) (hi := 3000) hb4
  by_cases hq2 : nd (st 6) jc ≤ st 5
  rotate_left
  · skip
    refine z_aload_n C 1 rfl rfl dL_law_161 162 rfl ?_
    refine z_aload_n C 0 rfl rfl dL_law_162 163 rfl ?_
    refine z_iload_n C 3 rfl rfl dL_law_163 164 rfl ?_
    refine z_iconst C (v := nI 1) rfl dL_law_164 165 rfl ?_
    refine z_iadd C dL_law_165 166 rfl ?_
    refine z_xld C hX hbl hbA (by omega) (by omega) dL_law_166 167 rfl ?_
    refine z_top ea1 ?_
    refine z_aload_n C 0 rfl rfl dL_law_167 168 rfl ?_
    refine z_iload_n C 3 rfl rfl dL_law_168 169 rfl ?_
    refine z_iconst C (v := nI 2) rfl dL_law_169 170 rfl ?_
    refine z_iadd C dL_law_170 171 rfl ?_
    refine z_xld C hX hbl hbA (by omega) (by omega) dL_law_171 172 rfl ?_
    refine z_top ea2 ?_
    refine z_aload_n C 0 rfl rfl dL_law_172 173 rfl ?_
    refine z_iload_n C 3 rfl rfl dL_law_173 174 rfl ?_
    refine z_iconst C (v := nI 3) rfl dL_law_174 175 rfl ?_
    refine z_iadd C dL_law_175 176 rfl ?_
    refine z_xld C hX hbl hbA (by omega) (by omega) dL_law_176 177 rfl ?_
    refine z_top ea3 ?_
    refine z_aload_n C 0 rfl rfl dL_law_177 178 rfl ?_
    refine z_iload_n C 3 rfl rfl dL_law_178 179 rfl ?_
    refine z_iconst C (v := nI 4) rfl dL_law_179 180 rfl ?_
    refine z_iadd C dL_law_180 181 rfl ?_
    refine z_xld C hX hbl hbA (by omega) (by omega) dL_law_181 182 rfl ?_
    refine z_top ea4 ?_
    refine z_callV C [.int (nI ja), .int (nI jb), .int (nI jc), .int (nI jd)] [] (tX4_job_np K.l K.g x bd tr q p h sb sv st r n ja jb jc jd (by first | omega | assumption) (by first | omega | assumption) (by first | omega | assumption) (by first | omega | assumption) (by first | omega | assumption) (by first | omega | assumption) (by first | omega | assumption)) gL_law_X4_job rfl rfl rfl hdX4_job ⟨Nat.le_of_ble_eq_true rfl, Nat.le_of_ble_eq_true rfl⟩ ⟨Nat.le_of_ble_eq_true rfl, Nat.le_of_ble_eq_true rfl⟩ 0 0 rfl rfl rfl [0, 1] rfl rfl (zlc (N := 16) rfl rfl) [16, 17, 2, 3, 4, 5, 6, 7, 8, 9, 10, 11, 12, 13, 14, 15] rfl (by decide) (fun _ : Unit => [wX K.g x bd tr q p h sb sv, wB K.g bd st r n, wB K.g tr ts tq tn, wP K.g q a0 a1 a2 a3 a4 a5 a6 a7 s0 s1 s2 s3 s4 s5 s6 s7 s8 s9, wPd K.g p fb tx len ex pl sh hu du, wB K.g fb fs fr fn, wH K.g h ho kp nx, wB K.g (ho 0) (hs 0) (hr 0) (hm 0), wB K.g (ho 1) (hs 1) (hr 1) (hm 1), wB K.g (ho 2) (hs 2) (hr 2) (hm 2), wB K.g (ho 3) (hs 3) (hr 3) (hm 3), wB K.g (ho 4) (hs 4) (hr 4) (hm 4), wB K.g (ho 5) (hs 5) (hr 5) (hm 5), wB K.g (sb 0) (ss 0) (sr 0) (sn 0), wB K.g (sb 1) (ss 1) (sr 1) (sn 1), wM K.g y all kept hist kp slo sav beg prt frm tx len sp tol rd]) (fun _ => rfl) rfl rfl (Nat.le_of_ble_eq_true rfl) dL_law_182 185 rfl (fun u9 hu9 => ?_)
    show Z K 104 1616 [wX K.g x bd tr q p h sb sv, wB K.g bd st r n, wB K.g tr ts tq tn, wP K.g q a0 a1 a2 a3 a4 a5 a6 a7 s0 s1 s2 s3 s4 s5 s6 s7 s8 s9, wPd K.g p fb tx len ex pl sh hu du, wB K.g fb fs fr fn, wH K.g h ho kp nx, wB K.g (ho 0) (hs 0) (hr 0) (hm 0), wB K.g (ho 1) (hs 1) (hr 1) (hm 1), wB K.g (ho 2) (hs 2) (hr 2) (hm 2), wB K.g (ho 3) (hs 3) (hr 3) (hm 3), wB K.g (ho 4) (hs 4) (hr 4) (hm 4), wB K.g (ho 5) (hs 5) (hr 5) (hm 5), wB K.g (sb 0) (ss 0) (sr 0) (sn 0), wB K.g (sb 1) (ss 1) (sr 1) (sn 1), wM K.g y all kept hist kp slo sav beg prt frm tx len sp tol rd] [(0, .ref b), (1, .ref (x 0)), (2, .ref (y 0)), (3, .int (nI i))] 185 [.int (-5)]
    refine z_aload_n C 2 rfl rfl dL_law_185 186 rfl ?_
    refine z_aload_n C 0 rfl rfl dL_law_186 187 rfl ?_
    refine z_iload_n C 3 rfl rfl dL_law_187 188 rfl ?_
    refine z_iconst C (v := nI 1) rfl dL_law_188 189 rfl ?_
    refine z_iadd C dL_law_189 190 rfl ?_
    refine z_xld C hX hbl hbA (by omega) (by omega) dL_law_190 191 rfl ?_
    refine z_top ea1 ?_
    refine z_aload_n C 0 rfl rfl dL_law_191 192 rfl ?_
    refine z_iload_n C 3 rfl rfl dL_law_192 193 rfl ?_
    refine z_iconst C (v := nI 2) rfl dL_law_193 194 rfl ?_
    refine z_iadd C dL_law_194 195 rfl ?_
    refine z_xld C hX hbl hbA (by omega) (by omega) dL_law_195 196 rfl ?_
    refine z_top ea2 ?_
    refine z_aload_n C 0 rfl rfl dL_law_196 197 rfl ?_
    refine z_iload_n C 3 rfl rfl dL_law_197 198 rfl ?_
    refine z_iconst C (v := nI 3) rfl dL_law_198 199 rfl ?_
    refine z_iadd C dL_law_199 200 rfl ?_
    refine z_xld C hX hbl hbA (by omega) (by omega) dL_law_200 201 rfl ?_
    refine z_top ea3 ?_
    refine z_aload_n C 0 rfl rfl dL_law_201 202 rfl ?_
    refine z_iload_n C 3 rfl rfl dL_law_202 203 rfl ?_
    refine z_iconst C (v := nI 4) rfl dL_law_203 204 rfl ?_
    refine z_iadd C dL_law_204 205 rfl ?_
    refine z_xld C hX hbl hbA (by omega) (by omega) dL_law_205 206 rfl ?_
    refine z_top ea4 ?_
    refine z_callV C [.int (nI ja), .int (nI jb), .int (nI jc), .int (nI jd)] [.int (-5)] (tX5_job_np K.l K.g y all kept hist kp slo sav beg prt frm tx len sp tol rd st r n ja jb jc jd (by first | omega | assumption) (by first | omega | assumption) (by first | omega | assumption) (by first | omega | assumption) (by first | omega | assumption) (by first | omega | assumption) (by first | omega | assumption) (by first | omega | assumption) (by first | omega | assumption)) gL_law_X5_job rfl rfl rfl hdX5_job ⟨Nat.le_of_ble_eq_true rfl, Nat.le_of_ble_eq_true rfl⟩ ⟨Nat.le_of_ble_eq_true rfl, Nat.le_of_ble_eq_true rfl⟩ 15 0 rfl rfl rfl [15] rfl rfl (zlc (N := 16) rfl rfl) [0, 1, 2, 3, 4, 5, 6, 7, 8, 9, 10, 11, 12, 13, 14, 16] rfl (by decide) (fun _ : Unit => [wX K.g x bd tr q p h sb sv, wB K.g bd st r n, wB K.g tr ts tq tn, wP K.g q a0 a1 a2 a3 a4 a5 a6 a7 s0 s1 s2 s3 s4 s5 s6 s7 s8 s9, wPd K.g p fb tx len ex pl sh hu du, wB K.g fb fs fr fn, wH K.g h ho kp nx, wB K.g (ho 0) (hs 0) (hr 0) (hm 0), wB K.g (ho 1) (hs 1) (hr 1) (hm 1), wB K.g (ho 2) (hs 2) (hr 2) (hm 2), wB K.g (ho 3) (hs 3) (hr 3) (hm 3), wB K.g (ho 4) (hs 4) (hr 4) (hm 4), wB K.g (ho 5) (hs 5) (hr 5) (hm 5), wB K.g (sb 0) (ss 0) (sr 0) (sn 0), wB K.g (sb 1) (ss 1) (sr 1) (sn 1), wM K.g y all kept hist kp slo sav beg prt frm tx len sp tol rd]) (fun _ => rfl) rfl rfl (Nat.le_of_ble_eq_true rfl) dL_law_206 209 rfl (fun u9 hu9 => ?_)
    show Z K 104 1616 [wX K.g x bd tr q p h sb sv, wB K.g bd st r n, wB K.g tr ts tq tn, wP K.g q a0 a1 a2 a3 a4 a5 a6 a7 s0 s1 s2 s3 s4 s5 s6 s7 s8 s9, wPd K.g p fb tx len ex pl sh hu du, wB K.g fb fs fr fn, wH K.g h ho kp nx, wB K.g (ho 0) (hs 0) (hr 0) (hm 0), wB K.g (ho 1) (hs 1) (hr 1) (hm 1), wB K.g (ho 2) (hs 2) (hr 2) (hm 2), wB K.g (ho 3) (hs 3) (hr 3) (hm 3), wB K.g (ho 4) (hs 4) (hr 4) (hm 4), wB K.g (ho 5) (hs 5) (hr 5) (hm 5), wB K.g (sb 0) (ss 0) (sr 0) (sn 0), wB K.g (sb 1) (ss 1) (sr 1) (sn 1), wM K.g y all kept hist kp slo sav beg prt frm tx len sp tol rd] [(0, .ref b), (1, .ref (x 0)), (2, .ref (y 0)), (3, .int (nI i))] 209 [.int (-5), .int (-5)]
    refine z_icmpI_eq C 648 dL_law_209 (by decide) 212 rfl (fun c9 => ?_) (fun c9 => absurd rfl c9)
    refine z_iinc C hnL 3 rfl (v := nI (i + 5)) (nI_add _ 5) [1, 2, 3, 0] [(0, .ref b), (1, .ref (x 0)), (2, .ref (y 0)), (3, .int (nI (i + 5)))] rfl (Nat.le_of_ble_eq_true rfl) dL_law_648 651 rfl ?_
    refine z_goto C 18 dL_law_651 (by decide) ?_
    exact kk sv st r n ts tq tn a0 a1 a2 a3 a4 a5 a6 a7 s0 s1 s2 s3 s4 s5 s6 s7 s8 s9 tx len ex pl sh hu du fs fr fn kp nx hs hr hm ss sr sn all kept hist slo sav beg prt frm sp tol rd ⟨hG, hB, hH, hSl, hT⟩
  by_cases hq1 : n < 12
  rotate_left
  · skip
    refine z_aload_n C 1 rfl rfl dL_law_161 162 rfl ?_
    refine z_aload_n C 0 rfl rfl dL_law_162 163 rfl ?_
    refine z_iload_n C 3 rfl rfl dL_law_163 164 rfl ?_
    refine z_iconst C (v := nI 1) rfl dL_law_164 165 rfl ?_
    refine z_iadd C dL_law_165 166 rfl ?_
    refine z_xld C hX hbl hbA (by omega) (by omega) dL_law_166 167 rfl ?_
    refine z_top ea1 ?_
    refine z_aload_n C 0 rfl rfl dL_law_167 168 rfl ?_
    refine z_iload_n C 3 rfl rfl dL_law_168 169 rfl ?_
    refine z_iconst C (v := nI 2) rfl dL_law_169 170 rfl ?_
    refine z_iadd C dL_law_170 171 rfl ?_
    refine z_xld C hX hbl hbA (by omega) (by omega) dL_law_171 172 rfl ?_
    refine z_top ea2 ?_
    refine z_aload_n C 0 rfl rfl dL_law_172 173 rfl ?_
    refine z_iload_n C 3 rfl rfl dL_law_173 174 rfl ?_
    refine z_iconst C (v := nI 3) rfl dL_law_174 175 rfl ?_
    refine z_iadd C dL_law_175 176 rfl ?_
    refine z_xld C hX hbl hbA (by omega) (by omega) dL_law_176 177 rfl ?_
    refine z_top ea3 ?_
    refine z_aload_n C 0 rfl rfl dL_law_177 178 rfl ?_
    refine z_iload_n C 3 rfl rfl dL_law_178 179 rfl ?_
    refine z_iconst C (v := nI 4) rfl dL_law_179 180 rfl ?_
    refine z_iadd C dL_law_180 181 rfl ?_
    refine z_xld C hX hbl hbA (by omega) (by omega) dL_law_181 182 rfl ?_
    refine z_top ea4 ?_
    refine z_callV C [.int (nI ja), .int (nI jb), .int (nI jc), .int (nI jd)] [] (tX4_job_tm K.l K.g x bd tr q p h sb sv st r n ja jb jc jd (by first | omega | assumption) (by first | omega | assumption) (by first | omega | assumption) (by first | omega | assumption) (by first | omega | assumption) (by first | omega | assumption) (by first | omega | assumption) (by first | omega | assumption)) gL_law_X4_job rfl rfl rfl hdX4_job ⟨Nat.le_of_ble_eq_true rfl, Nat.le_of_ble_eq_true rfl⟩ ⟨Nat.le_of_ble_eq_true rfl, Nat.le_of_ble_eq_true rfl⟩ 0 0 rfl rfl rfl [0, 1] rfl rfl (zlc (N := 16) rfl rfl) [16, 17, 2, 3, 4, 5, 6, 7, 8, 9, 10, 11, 12, 13, 14, 15] rfl (by decide) (fun _ : Unit => [wX K.g x bd tr q p h sb sv, wB K.g bd st r n, wB K.g tr ts tq tn, wP K.g q a0 a1 a2 a3 a4 a5 a6 a7 s0 s1 s2 s3 s4 s5 s6 s7 s8 s9, wPd K.g p fb tx len ex pl sh hu du, wB K.g fb fs fr fn, wH K.g h ho kp nx, wB K.g (ho 0) (hs 0) (hr 0) (hm 0), wB K.g (ho 1) (hs 1) (hr 1) (hm 1), wB K.g (ho 2) (hs 2) (hr 2) (hm 2), wB K.g (ho 3) (hs 3) (hr 3) (hm 3), wB K.g (ho 4) (hs 4) (hr 4) (hm 4), wB K.g (ho 5) (hs 5) (hr 5) (hm 5), wB K.g (sb 0) (ss 0) (sr 0) (sn 0), wB K.g (sb 1) (ss 1) (sr 1) (sn 1), wM K.g y all kept hist kp slo sav beg prt frm tx len sp tol rd]) (fun _ => rfl) rfl rfl (Nat.le_of_ble_eq_true rfl) dL_law_182 185 rfl (fun u9 hu9 => ?_)
    show Z K 104 1616 [wX K.g x bd tr q p h sb sv, wB K.g bd st r n, wB K.g tr ts tq tn, wP K.g q a0 a1 a2 a3 a4 a5 a6 a7 s0 s1 s2 s3 s4 s5 s6 s7 s8 s9, wPd K.g p fb tx len ex pl sh hu du, wB K.g fb fs fr fn, wH K.g h ho kp nx, wB K.g (ho 0) (hs 0) (hr 0) (hm 0), wB K.g (ho 1) (hs 1) (hr 1) (hm 1), wB K.g (ho 2) (hs 2) (hr 2) (hm 2), wB K.g (ho 3) (hs 3) (hr 3) (hm 3), wB K.g (ho 4) (hs 4) (hr 4) (hm 4), wB K.g (ho 5) (hs 5) (hr 5) (hm 5), wB K.g (sb 0) (ss 0) (sr 0) (sn 0), wB K.g (sb 1) (ss 1) (sr 1) (sn 1), wM K.g y all kept hist kp slo sav beg prt frm tx len sp tol rd] [(0, .ref b), (1, .ref (x 0)), (2, .ref (y 0)), (3, .int (nI i))] 185 [.int (-4)]
    refine z_aload_n C 2 rfl rfl dL_law_185 186 rfl ?_
    refine z_aload_n C 0 rfl rfl dL_law_186 187 rfl ?_
    refine z_iload_n C 3 rfl rfl dL_law_187 188 rfl ?_
    refine z_iconst C (v := nI 1) rfl dL_law_188 189 rfl ?_
    refine z_iadd C dL_law_189 190 rfl ?_
    refine z_xld C hX hbl hbA (by omega) (by omega) dL_law_190 191 rfl ?_
    refine z_top ea1 ?_
    refine z_aload_n C 0 rfl rfl dL_law_191 192 rfl ?_
    refine z_iload_n C 3 rfl rfl dL_law_192 193 rfl ?_
    refine z_iconst C (v := nI 2) rfl dL_law_193 194 rfl ?_
    refine z_iadd C dL_law_194 195 rfl ?_
    refine z_xld C hX hbl hbA (by omega) (by omega) dL_law_195 196 rfl ?_
    refine z_top ea2 ?_
    refine z_aload_n C 0 rfl rfl dL_law_196 197 rfl ?_
    refine z_iload_n C 3 rfl rfl dL_law_197 198 rfl ?_
    refine z_iconst C (v := nI 3) rfl dL_law_198 199 rfl ?_
    refine z_iadd C dL_law_199 200 rfl ?_
    refine z_xld C hX hbl hbA (by omega) (by omega) dL_law_200 201 rfl ?_
    refine z_top ea3 ?_
    refine z_aload_n C 0 rfl rfl dL_law_201 202 rfl ?_
    refine z_iload_n C 3 rfl rfl dL_law_202 203 rfl ?_
    refine z_iconst C (v := nI 4) rfl dL_law_203 204 rfl ?_
    refine z_iadd C dL_law_204 205 rfl ?_
    refine z_xld C hX hbl hbA (by omega) (by omega) dL_law_205 206 rfl ?_
    refine z_top ea4 ?_
    refine z_callV C [.int (nI ja), .int (nI jb), .int (nI jc), .int (nI jd)] [.int (-4)] (tX5_job_tm K.l K.g y all kept hist kp slo sav beg prt frm tx len sp tol rd st r n ja jb jc jd (by first | omega | assumption) (by first | omega | assumption) (by first | omega | assumption) (by first | omega | assumption) (by first | omega | assumption) (by first | omega | assumption) (by first | omega | assumption) (by first | omega | assumption) (by first | omega | assumption) (by first | omega | assumption)) gL_law_X5_job rfl rfl rfl hdX5_job ⟨Nat.le_of_ble_eq_true rfl, Nat.le_of_ble_eq_true rfl⟩ ⟨Nat.le_of_ble_eq_true rfl, Nat.le_of_ble_eq_true rfl⟩ 15 0 rfl rfl rfl [15] rfl rfl (zlc (N := 16) rfl rfl) [0, 1, 2, 3, 4, 5, 6, 7, 8, 9, 10, 11, 12, 13, 14, 16] rfl (by decide) (fun _ : Unit => [wX K.g x bd tr q p h sb sv, wB K.g bd st r n, wB K.g tr ts tq tn, wP K.g q a0 a1 a2 a3 a4 a5 a6 a7 s0 s1 s2 s3 s4 s5 s6 s7 s8 s9, wPd K.g p fb tx len ex pl sh hu du, wB K.g fb fs fr fn, wH K.g h ho kp nx, wB K.g (ho 0) (hs 0) (hr 0) (hm 0), wB K.g (ho 1) (hs 1) (hr 1) (hm 1), wB K.g (ho 2) (hs 2) (hr 2) (hm 2), wB K.g (ho 3) (hs 3) (hr 3) (hm 3), wB K.g (ho 4) (hs 4) (hr 4) (hm 4), wB K.g (ho 5) (hs 5) (hr 5) (hm 5), wB K.g (sb 0) (ss 0) (sr 0) (sn 0), wB K.g (sb 1) (ss 1) (sr 1) (sn 1), wM K.g y all kept hist kp slo sav beg prt frm tx len sp tol rd]) (fun _ => rfl) rfl rfl (Nat.le_of_ble_eq_true rfl) dL_law_206 209 rfl (fun u9 hu9 => ?_)
    show Z K 104 1616 [wX K.g x bd tr q p h sb sv, wB K.g bd st r n, wB K.g tr ts tq tn, wP K.g q a0 a1 a2 a3 a4 a5 a6 a7 s0 s1 s2 s3 s4 s5 s6 s7 s8 s9, wPd K.g p fb tx len ex pl sh hu du, wB K.g fb fs fr fn, wH K.g h ho kp nx, wB K.g (ho 0) (hs 0) (hr 0) (hm 0), wB K.g (ho 1) (hs 1) (hr 1) (hm 1), wB K.g (ho 2) (hs 2) (hr 2) (hm 2), wB K.g (ho 3) (hs 3) (hr 3) (hm 3), wB K.g (ho 4) (hs 4) (hr 4) (hm 4), wB K.g (ho 5) (hs 5) (hr 5) (hm 5), wB K.g (sb 0) (ss 0) (sr 0) (sn 0), wB K.g (sb 1) (ss 1) (sr 1) (sn 1), wM K.g y all kept hist kp slo sav beg prt frm tx len sp tol rd] [(0, .ref b), (1, .ref (x 0)), (2, .ref (y 0)), (3, .int (nI i))] 209 [.int (-4), .int (-4)]
    refine z_icmpI_eq C 648 dL_law_209 (by decide) 212 rfl (fun c9 => ?_) (fun c9 => absurd rfl c9)
    refine z_iinc C hnL 3 rfl (v := nI (i + 5)) (nI_add _ 5) [1, 2, 3, 0] [(0, .ref b), (1, .ref (x 0)), (2, .ref (y 0)), (3, .int (nI (i + 5)))] rfl (Nat.le_of_ble_eq_true rfl) dL_law_648 651 rfl ?_
    refine z_goto C 18 dL_law_651 (by decide) ?_
    exact kk sv st r n ts tq tn a0 a1 a2 a3 a4 a5 a6 a7 s0 s1 s2 s3 s4 s5 s6 s7 s8 s9 tx len ex pl sh hu du fs fr fn kp nx hs hr hm ss sr sn all kept hist slo sav beg prt frm sp tol rd ⟨hG, hB, hH, hSl, hT⟩
  refine z_aload_n C 1 rfl rfl dL_law_161 162 rfl ?_
  refine z_aload_n C 0 rfl rfl dL_law_162 163 rfl ?_
  refine z_iload_n C 3 rfl rfl dL_law_163 164 rfl ?_
  refine z_iconst C (v := nI 1) rfl dL_law_164 165 rfl ?_
  refine z_iadd C dL_law_165 166 rfl ?_
  refine z_xld C hX hbl hbA (by omega) (by omega) dL_law_166 167 rfl ?_
  refine z_top ea1 ?_
  refine z_aload_n C 0 rfl rfl dL_law_167 168 rfl ?_
  refine z_iload_n C 3 rfl rfl dL_law_168 169 rfl ?_
  refine z_iconst C (v := nI 2) rfl dL_law_169 170 rfl ?_
  refine z_iadd C dL_law_170 171 rfl ?_
  refine z_xld C hX hbl hbA (by omega) (by omega) dL_law_171 172 rfl ?_
  refine z_top ea2 ?_
  refine z_aload_n C 0 rfl rfl dL_law_172 173 rfl ?_
  refine z_iload_n C 3 rfl rfl dL_law_173 174 rfl ?_
  refine z_iconst C (v := nI 3) rfl dL_law_174 175 rfl ?_
  refine z_iadd C dL_law_175 176 rfl ?_
  refine z_xld C hX hbl hbA (by omega) (by omega) dL_law_176 177 rfl ?_
  refine z_top ea3 ?_
  refine z_aload_n C 0 rfl rfl dL_law_177 178 rfl ?_
  refine z_iload_n C 3 rfl rfl dL_law_178 179 rfl ?_
  refine z_iconst C (v := nI 4) rfl dL_law_179 180 rfl ?_
  refine z_iadd C dL_law_180 181 rfl ?_
  refine z_xld C hX hbl hbA (by omega) (by omega) dL_law_181 182 rfl ?_
  refine z_top ea4 ?_
  refine z_callV C [.int (nI ja), .int (nI jb), .int (nI jc), .int (nI jd)] [] (tX4_job_ok K.l K.g x bd tr q p h sb sv st r n ho hs hr hm kp nx ja jb jc jd (by first | omega | assumption) (by first | omega | assumption) (by first | omega | assumption) (by first | omega | assumption) (by first | omega | assumption) (by first | omega | assumption) (by first | omega | assumption) (by first | omega | assumption) (by first | omega | assumption) (by first | omega | assumption)) gL_law_X4_job rfl rfl rfl hdX4_job ⟨Nat.le_of_ble_eq_true rfl, Nat.le_of_ble_eq_true rfl⟩ ⟨Nat.le_of_ble_eq_true rfl, Nat.le_of_ble_eq_true rfl⟩ 0 0 rfl rfl rfl [0, 1, 6, 7, 8, 9, 10, 11, 12] rfl rfl (zlc (N := 16) rfl rfl) [16, 17, 2, 3, 4, 5, 18, 19, 20, 21, 22, 23, 24, 13, 14, 15] rfl (by decide) (fun _ : Unit => [wX K.g x bd tr q p h sb sv, wB K.g bd st (apR r n ja jb jc jd) (n + 1), wB K.g tr ts tq tn, wP K.g q a0 a1 a2 a3 a4 a5 a6 a7 s0 s1 s2 s3 s4 s5 s6 s7 s8 s9, wPd K.g p fb tx len ex pl sh hu du, wB K.g fb fs fr fn, wH K.g h ho (min (kp + 1) 6) (if nx = 5 then 0 else nx + 1), wB K.g (ho 0) ((un hs nx st) 0) ((un hr nx r) 0) ((un hm nx n) 0), wB K.g (ho 1) ((un hs nx st) 1) ((un hr nx r) 1) ((un hm nx n) 1), wB K.g (ho 2) ((un hs nx st) 2) ((un hr nx r) 2) ((un hm nx n) 2), wB K.g (ho 3) ((un hs nx st) 3) ((un hr nx r) 3) ((un hm nx n) 3), wB K.g (ho 4) ((un hs nx st) 4) ((un hr nx r) 4) ((un hm nx n) 4), wB K.g (ho 5) ((un hs nx st) 5) ((un hr nx r) 5) ((un hm nx n) 5), wB K.g (sb 0) (ss 0) (sr 0) (sn 0), wB K.g (sb 1) (ss 1) (sr 1) (sn 1), wM K.g y all kept hist kp slo sav beg prt frm tx len sp tol rd]) (fun _ => rfl) rfl rfl (Nat.le_of_ble_eq_true rfl) dL_law_182 185 rfl (fun u9 hu9 => ?_)
  show Z K 104 1616 [wX K.g x bd tr q p h sb sv, wB K.g bd st (apR r n ja jb jc jd) (n + 1), wB K.g tr ts tq tn, wP K.g q a0 a1 a2 a3 a4 a5 a6 a7 s0 s1 s2 s3 s4 s5 s6 s7 s8 s9, wPd K.g p fb tx len ex pl sh hu du, wB K.g fb fs fr fn, wH K.g h ho (min (kp + 1) 6) (if nx = 5 then 0 else nx + 1), wB K.g (ho 0) ((un hs nx st) 0) ((un hr nx r) 0) ((un hm nx n) 0), wB K.g (ho 1) ((un hs nx st) 1) ((un hr nx r) 1) ((un hm nx n) 1), wB K.g (ho 2) ((un hs nx st) 2) ((un hr nx r) 2) ((un hm nx n) 2), wB K.g (ho 3) ((un hs nx st) 3) ((un hr nx r) 3) ((un hm nx n) 3), wB K.g (ho 4) ((un hs nx st) 4) ((un hr nx r) 4) ((un hm nx n) 4), wB K.g (ho 5) ((un hs nx st) 5) ((un hr nx r) 5) ((un hm nx n) 5), wB K.g (sb 0) (ss 0) (sr 0) (sn 0), wB K.g (sb 1) (ss 1) (sr 1) (sn 1), wM K.g y all kept hist kp slo sav beg prt frm tx len sp tol rd] [(0, .ref b), (1, .ref (x 0)), (2, .ref (y 0)), (3, .int (nI i))] 185 [.int (nI n)]
  refine z_aload_n C 2 rfl rfl dL_law_185 186 rfl ?_
  refine z_aload_n C 0 rfl rfl dL_law_186 187 rfl ?_
  refine z_iload_n C 3 rfl rfl dL_law_187 188 rfl ?_
  refine z_iconst C (v := nI 1) rfl dL_law_188 189 rfl ?_
  refine z_iadd C dL_law_189 190 rfl ?_
  refine z_xld C hX hbl hbA (by omega) (by omega) dL_law_190 191 rfl ?_
  refine z_top ea1 ?_
  refine z_aload_n C 0 rfl rfl dL_law_191 192 rfl ?_
  refine z_iload_n C 3 rfl rfl dL_law_192 193 rfl ?_
  refine z_iconst C (v := nI 2) rfl dL_law_193 194 rfl ?_
  refine z_iadd C dL_law_194 195 rfl ?_
  refine z_xld C hX hbl hbA (by omega) (by omega) dL_law_195 196 rfl ?_
  refine z_top ea2 ?_
  refine z_aload_n C 0 rfl rfl dL_law_196 197 rfl ?_
  refine z_iload_n C 3 rfl rfl dL_law_197 198 rfl ?_
  refine z_iconst C (v := nI 3) rfl dL_law_198 199 rfl ?_
  refine z_iadd C dL_law_199 200 rfl ?_
  refine z_xld C hX hbl hbA (by omega) (by omega) dL_law_200 201 rfl ?_
  refine z_top ea3 ?_
  refine z_aload_n C 0 rfl rfl dL_law_201 202 rfl ?_
  refine z_iload_n C 3 rfl rfl dL_law_202 203 rfl ?_
  refine z_iconst C (v := nI 4) rfl dL_law_203 204 rfl ?_
  refine z_iadd C dL_law_204 205 rfl ?_
  refine z_xld C hX hbl hbA (by omega) (by omega) dL_law_205 206 rfl ?_
  refine z_top ea4 ?_
  refine z_callV C [.int (nI ja), .int (nI jb), .int (nI jc), .int (nI jd)] [.int (nI n)] (tX5_job_ok K.l K.g y all kept hist kp slo sav beg prt frm tx len sp tol rd st r n ja jb jc jd (by first | omega | assumption) (by first | omega | assumption) (by first | omega | assumption) (by first | omega | assumption) (by first | omega | assumption) (by first | omega | assumption) (by first | omega | assumption) (by first | omega | assumption) (by first | omega | assumption) (by first | omega | assumption) (by first | omega | assumption)) gL_law_X5_job rfl rfl rfl hdX5_job ⟨Nat.le_of_ble_eq_true rfl, Nat.le_of_ble_eq_true rfl⟩ ⟨Nat.le_of_ble_eq_true rfl, Nat.le_of_ble_eq_true rfl⟩ 15 0 rfl rfl rfl [15] rfl rfl (zlc (N := 16) rfl rfl) [0, 1, 2, 3, 4, 5, 6, 7, 8, 9, 10, 11, 12, 13, 14, 16] rfl (by decide) (fun u : (Nat → Nat) × (Nat → Nat) × (Nat) => match u with | (all2, hist2, hl2) => [wX K.g x bd tr q p h sb sv, wB K.g bd st (apR r n ja jb jc jd) (n + 1), wB K.g tr ts tq tn, wP K.g q a0 a1 a2 a3 a4 a5 a6 a7 s0 s1 s2 s3 s4 s5 s6 s7 s8 s9, wPd K.g p fb tx len ex pl sh hu du, wB K.g fb fs fr fn, wH K.g h ho (min (kp + 1) 6) (if nx = 5 then 0 else nx + 1), wB K.g (ho 0) ((un hs nx st) 0) ((un hr nx r) 0) ((un hm nx n) 0), wB K.g (ho 1) ((un hs nx st) 1) ((un hr nx r) 1) ((un hm nx n) 1), wB K.g (ho 2) ((un hs nx st) 2) ((un hr nx r) 2) ((un hm nx n) 2), wB K.g (ho 3) ((un hs nx st) 3) ((un hr nx r) 3) ((un hm nx n) 3), wB K.g (ho 4) ((un hs nx st) 4) ((un hr nx r) 4) ((un hm nx n) 4), wB K.g (ho 5) ((un hs nx st) 5) ((un hr nx r) 5) ((un hm nx n) 5), wB K.g (sb 0) (ss 0) (sr 0) (sn 0), wB K.g (sb 1) (ss 1) (sr 1) (sn 1), wM K.g y all2 kept hist2 hl2 slo sav beg prt frm tx len sp tol rd]) (fun _ => rfl) rfl rfl (Nat.le_of_ble_eq_true rfl) dL_law_206 209 rfl (fun u9 hu9 => ?_)
  obtain ⟨al2, hi2, hl9⟩ := u9
  obtain ⟨hB2, hC⟩ := hu9
  have hB2 : Bd al2 st (apR r n ja jb jc jd) (n + 1) := hB2
  have hC : HCh all hist kp hi2 hl9 := hC
  show Z K 104 1616 [wX K.g x bd tr q p h sb sv, wB K.g bd st (apR r n ja jb jc jd) (n + 1), wB K.g tr ts tq tn, wP K.g q a0 a1 a2 a3 a4 a5 a6 a7 s0 s1 s2 s3 s4 s5 s6 s7 s8 s9, wPd K.g p fb tx len ex pl sh hu du, wB K.g fb fs fr fn, wH K.g h ho (min (kp + 1) 6) (if nx = 5 then 0 else nx + 1), wB K.g (ho 0) ((un hs nx st) 0) ((un hr nx r) 0) ((un hm nx n) 0), wB K.g (ho 1) ((un hs nx st) 1) ((un hr nx r) 1) ((un hm nx n) 1), wB K.g (ho 2) ((un hs nx st) 2) ((un hr nx r) 2) ((un hm nx n) 2), wB K.g (ho 3) ((un hs nx st) 3) ((un hr nx r) 3) ((un hm nx n) 3), wB K.g (ho 4) ((un hs nx st) 4) ((un hr nx r) 4) ((un hm nx n) 4), wB K.g (ho 5) ((un hs nx st) 5) ((un hr nx r) 5) ((un hm nx n) 5), wB K.g (sb 0) (ss 0) (sr 0) (sn 0), wB K.g (sb 1) (ss 1) (sr 1) (sn 1), wM K.g y al2 kept hi2 hl9 slo sav beg prt frm tx len sp tol rd] [(0, .ref b), (1, .ref (x 0)), (2, .ref (y 0)), (3, .int (nI i))] 209 [.int (nI n), .int (nI n)]
  refine z_icmpI_eq C 648 dL_law_209 (by decide) 212 rfl (fun c9 => ?_) (fun c9 => absurd rfl c9)
  refine z_iinc C hnL 3 rfl (v := nI (i + 5)) (nI_add _ 5) [1, 2, 3, 0] [(0, .ref b), (1, .ref (x 0)), (2, .ref (y 0)), (3, .int (nI (i + 5)))] rfl (Nat.le_of_ble_eq_true rfl) dL_law_648 651 rfl ?_
  refine z_goto C 18 dL_law_651 (by decide) ?_
  have hPush := IH_push hH hG hB hC
  obtain rfl := hPush.1
  exact kk sv st (apR r n ja jb jc jd) (n + 1) ts tq tn a0 a1 a2 a3 a4 a5 a6 a7 s0 s1 s2 s3 s4 s5 s6 s7 s8 s9 tx len ex pl sh hu du fs fr fn (min (kp + 1) 6) (if nx = 5 then 0 else nx + 1) (un hs nx st) (un hr nx r) (un hm nx n) ss sr sn al2 kept hi2 slo sav beg prt frm sp tol rd ⟨GB_ap hG hq1 hhi1 hhi2 hlo3 hhi3 hhi4 hq2, hB2, hPush.2, hSl, hT⟩

set_option maxHeartbeats 4000000 in
set_option maxRecDepth 100000 in
theorem lb_drop {K : zK} (C : Cx K room_1 RL cL_law wsL_law) (hnL : K.nL = 4) (b : Nat) (x bd tr q p fb h : Nat → Nat) (ho sb : Nat → Nat → Nat) (y : Nat → Nat) (L : Nat) (xs : Nat → Int32) (i : Nat) (hLH : LH K b L xs) (hiL : i + 5 ≤ L) (kk : LI K b x bd tr q p fb h ho sb y (i + 5)) (sv : Nat → Bool) (st : Nat → Nat) (r : Nat → Nat → Nat) (n : Nat) (ts : Nat → Nat) (tq : Nat → Nat → Nat) (tn : Nat) (a0 : Nat → Nat) (a1 : Nat → Nat) (a2 : Nat → Nat) (a3 : Nat → Nat) (a4 : Nat → Nat) (a5 : Nat → Nat) (a6 : Nat → Nat) (a7 : Nat → Nat) (s0 : Nat) (s1 : Nat) (s2 : Nat) (s3 : Nat) (s4 : Nat) (s5 : Nat) (s6 : Nat) (s7 : Nat) (s8 : Nat) (s9 : Nat) (tx : Nat → Nat) (len : Nat) (ex : Nat) (pl : Int32) (sh : Int32) (hu : Int32) (du : Int32) (fs : Nat → Nat) (fr : Nat → Nat → Nat) (fn : Nat) (kp : Nat) (nx : Nat) (hs : Nat → Nat → Nat) (hr : Nat → Nat → Nat → Nat) (hm : Nat → Nat) (ss : Nat → Nat → Nat) (sr : Nat → Nat → Nat → Nat) (sn : Nat → Nat) (all : Nat → Nat) (kept : Nat → Nat) (hist : Nat → Nat) (slo : Nat → Nat) (sav : Nat → Nat) (beg : Nat → Nat) (prt : Nat → Nat) (frm : Nat → Nat) (sp : Nat) (tol : Nat → Nat) (rd : Nat) (hI : IV sv st r n tx len kp nx hs hr hm ss sr sn all hist slo sav) : Z K 104 1616 [wX K.g x bd tr q p h sb sv, wB K.g bd st r n, wB K.g tr ts tq tn, wP K.g q a0 a1 a2 a3 a4 a5 a6 a7 s0 s1 s2 s3 s4 s5 s6 s7 s8 s9, wPd K.g p fb tx len ex pl sh hu du, wB K.g fb fs fr fn, wH K.g h ho kp nx, wB K.g (ho 0) (hs 0) (hr 0) (hm 0), wB K.g (ho 1) (hs 1) (hr 1) (hm 1), wB K.g (ho 2) (hs 2) (hr 2) (hm 2), wB K.g (ho 3) (hs 3) (hr 3) (hm 3), wB K.g (ho 4) (hs 4) (hr 4) (hm 4), wB K.g (ho 5) (hs 5) (hr 5) (hm 5), wB K.g (sb 0) (ss 0) (sr 0) (sn 0), wB K.g (sb 1) (ss 1) (sr 1) (sn 1), wM K.g y all kept hist kp slo sav beg prt frm tx len sp tol rd] [(0, .ref b), (1, .ref (x 0)), (2, .ref (y 0)), (3, .int (nI i))] 227 [] := by
  obtain ⟨hX, hbl, hbA, hL, heSet, heOrd⟩ := hLH
  obtain ⟨hG, hB, hH, hSl, hT⟩ := hI
  obtain ⟨hn, hS, hJ, hR⟩ := id hG
  have hk := hH.1
  have hx := hH.2.1
  have hl := hT.1
  have ht := hT.2
  by_cases hb1 : isJ (xs (i + 1)) n = true
  rotate_left
  · skip
    have hb1 : isJ (xs (i + 1)) n = false := eq_false_of_ne_true hb1
    refine z_aload_n C 1 rfl rfl dL_law_227 228 rfl ?_
    refine z_aload_n C 0 rfl rfl dL_law_228 229 rfl ?_
    refine z_iload_n C 3 rfl rfl dL_law_229 230 rfl ?_
    refine z_iconst C (v := nI 1) rfl dL_law_230 231 rfl ?_
    refine z_iadd C dL_law_231 232 rfl ?_
    refine z_xld C hX hbl hbA (by omega) (by omega) dL_law_232 233 rfl ?_
    refine z_callV C [.int (xs (i + 1))] [] (tX4_drop_ns K.l K.g x bd tr q p h sb sv st r n (xs (i + 1)) (by first | omega | assumption) hb1) gL_law_X4_drop rfl rfl rfl hdX4_drop ⟨Nat.le_of_ble_eq_true rfl, Nat.le_of_ble_eq_true rfl⟩ ⟨Nat.le_of_ble_eq_true rfl, Nat.le_of_ble_eq_true rfl⟩ 0 0 rfl rfl rfl [0, 1] rfl rfl (zlc (N := 16) rfl rfl) [16, 17, 2, 3, 4, 5, 6, 7, 8, 9, 10, 11, 12, 13, 14, 15] rfl (by decide) (fun _ : Unit => [wX K.g x bd tr q p h sb sv, wB K.g bd st r n, wB K.g tr ts tq tn, wP K.g q a0 a1 a2 a3 a4 a5 a6 a7 s0 s1 s2 s3 s4 s5 s6 s7 s8 s9, wPd K.g p fb tx len ex pl sh hu du, wB K.g fb fs fr fn, wH K.g h ho kp nx, wB K.g (ho 0) (hs 0) (hr 0) (hm 0), wB K.g (ho 1) (hs 1) (hr 1) (hm 1), wB K.g (ho 2) (hs 2) (hr 2) (hm 2), wB K.g (ho 3) (hs 3) (hr 3) (hm 3), wB K.g (ho 4) (hs 4) (hr 4) (hm 4), wB K.g (ho 5) (hs 5) (hr 5) (hm 5), wB K.g (sb 0) (ss 0) (sr 0) (sn 0), wB K.g (sb 1) (ss 1) (sr 1) (sn 1), wM K.g y all kept hist kp slo sav beg prt frm tx len sp tol rd]) (fun _ => rfl) rfl rfl (Nat.le_of_ble_eq_true rfl) dL_law_233 236 rfl (fun u9 hu9 => ?_)
    show Z K 104 1616 [wX K.g x bd tr q p h sb sv, wB K.g bd st r n, wB K.g tr ts tq tn, wP K.g q a0 a1 a2 a3 a4 a5 a6 a7 s0 s1 s2 s3 s4 s5 s6 s7 s8 s9, wPd K.g p fb tx len ex pl sh hu du, wB K.g fb fs fr fn, wH K.g h ho kp nx, wB K.g (ho 0) (hs 0) (hr 0) (hm 0), wB K.g (ho 1) (hs 1) (hr 1) (hm 1), wB K.g (ho 2) (hs 2) (hr 2) (hm 2), wB K.g (ho 3) (hs 3) (hr 3) (hm 3), wB K.g (ho 4) (hs 4) (hr 4) (hm 4), wB K.g (ho 5) (hs 5) (hr 5) (hm 5), wB K.g (sb 0) (ss 0) (sr 0) (sn 0), wB K.g (sb 1) (ss 1) (sr 1) (sn 1), wM K.g y all kept hist kp slo sav beg prt frm tx len sp tol rd] [(0, .ref b), (1, .ref (x 0)), (2, .ref (y 0)), (3, .int (nI i))] 236 [.int (-1)]
    refine z_aload_n C 2 rfl rfl dL_law_236 237 rfl ?_
    refine z_aload_n C 0 rfl rfl dL_law_237 238 rfl ?_
    refine z_iload_n C 3 rfl rfl dL_law_238 239 rfl ?_
    refine z_iconst C (v := nI 1) rfl dL_law_239 240 rfl ?_
    refine z_iadd C dL_law_240 241 rfl ?_
    refine z_xld C hX hbl hbA (by omega) (by omega) dL_law_241 242 rfl ?_
    refine z_callV C [.int (xs (i + 1))] [.int (-1)] (tX5_drop_ns K.l K.g y all kept hist kp slo sav beg prt frm tx len sp tol rd st r n (xs (i + 1)) (by first | omega | assumption) (by first | omega | assumption) hb1) gL_law_X5_drop rfl rfl rfl hdX5_drop ⟨Nat.le_of_ble_eq_true rfl, Nat.le_of_ble_eq_true rfl⟩ ⟨Nat.le_of_ble_eq_true rfl, Nat.le_of_ble_eq_true rfl⟩ 15 0 rfl rfl rfl [15] rfl rfl (zlc (N := 16) rfl rfl) [0, 1, 2, 3, 4, 5, 6, 7, 8, 9, 10, 11, 12, 13, 14, 16] rfl (by decide) (fun _ : Unit => [wX K.g x bd tr q p h sb sv, wB K.g bd st r n, wB K.g tr ts tq tn, wP K.g q a0 a1 a2 a3 a4 a5 a6 a7 s0 s1 s2 s3 s4 s5 s6 s7 s8 s9, wPd K.g p fb tx len ex pl sh hu du, wB K.g fb fs fr fn, wH K.g h ho kp nx, wB K.g (ho 0) (hs 0) (hr 0) (hm 0), wB K.g (ho 1) (hs 1) (hr 1) (hm 1), wB K.g (ho 2) (hs 2) (hr 2) (hm 2), wB K.g (ho 3) (hs 3) (hr 3) (hm 3), wB K.g (ho 4) (hs 4) (hr 4) (hm 4), wB K.g (ho 5) (hs 5) (hr 5) (hm 5), wB K.g (sb 0) (ss 0) (sr 0) (sn 0), wB K.g (sb 1) (ss 1) (sr 1) (sn 1), wM K.g y all kept hist kp slo sav beg prt frm tx len sp tol rd]) (fun _ => rfl) rfl rfl (Nat.le_of_ble_eq_true rfl) dL_law_242 245 rfl (fun u9 hu9 => ?_)
    show Z K 104 1616 [wX K.g x bd tr q p h sb sv, wB K.g bd st r n, wB K.g tr ts tq tn, wP K.g q a0 a1 a2 a3 a4 a5 a6 a7 s0 s1 s2 s3 s4 s5 s6 s7 s8 s9, wPd K.g p fb tx len ex pl sh hu du, wB K.g fb fs fr fn, wH K.g h ho kp nx, wB K.g (ho 0) (hs 0) (hr 0) (hm 0), wB K.g (ho 1) (hs 1) (hr 1) (hm 1), wB K.g (ho 2) (hs 2) (hr 2) (hm 2), wB K.g (ho 3) (hs 3) (hr 3) (hm 3), wB K.g (ho 4) (hs 4) (hr 4) (hm 4), wB K.g (ho 5) (hs 5) (hr 5) (hm 5), wB K.g (sb 0) (ss 0) (sr 0) (sn 0), wB K.g (sb 1) (ss 1) (sr 1) (sn 1), wM K.g y all kept hist kp slo sav beg prt frm tx len sp tol rd] [(0, .ref b), (1, .ref (x 0)), (2, .ref (y 0)), (3, .int (nI i))] 245 [.int (-1), .int (-1)]
    refine z_icmpI_eq C 648 dL_law_245 (by decide) 248 rfl (fun c9 => ?_) (fun c9 => absurd rfl c9)
    refine z_iinc C hnL 3 rfl (v := nI (i + 5)) (nI_add _ 5) [1, 2, 3, 0] [(0, .ref b), (1, .ref (x 0)), (2, .ref (y 0)), (3, .int (nI (i + 5)))] rfl (Nat.le_of_ble_eq_true rfl) dL_law_648 651 rfl ?_
    refine z_goto C 18 dL_law_651 (by decide) ?_
    exact kk sv st r n ts tq tn a0 a1 a2 a3 a4 a5 a6 a7 s0 s1 s2 s3 s4 s5 s6 s7 s8 s9 tx len ex pl sh hu du fs fr fn kp nx hs hr hm ss sr sn all kept hist slo sav beg prt frm sp tol rd ⟨hG, hB, hH, hSl, hT⟩
  obtain ⟨j, hhi1, ea1⟩ := isJ_i hn hb1
  refine z_aload_n C 1 rfl rfl dL_law_227 228 rfl ?_
  refine z_aload_n C 0 rfl rfl dL_law_228 229 rfl ?_
  refine z_iload_n C 3 rfl rfl dL_law_229 230 rfl ?_
  refine z_iconst C (v := nI 1) rfl dL_law_230 231 rfl ?_
  refine z_iadd C dL_law_231 232 rfl ?_
  refine z_xld C hX hbl hbA (by omega) (by omega) dL_law_232 233 rfl ?_
  refine z_top ea1 ?_
  refine z_callV C [.int (nI j)] [] (tX4_drop_ok K.l K.g x bd tr q p h sb sv st r n ho hs hr hm kp nx j (by first | omega | assumption) (by first | omega | assumption) (by first | omega | assumption) (by first | omega | assumption)) gL_law_X4_drop rfl rfl rfl hdX4_drop ⟨Nat.le_of_ble_eq_true rfl, Nat.le_of_ble_eq_true rfl⟩ ⟨Nat.le_of_ble_eq_true rfl, Nat.le_of_ble_eq_true rfl⟩ 0 0 rfl rfl rfl [0, 1, 6, 7, 8, 9, 10, 11, 12] rfl rfl (zlc (N := 16) rfl rfl) [16, 17, 2, 3, 4, 5, 18, 19, 20, 21, 22, 23, 24, 13, 14, 15] rfl (by decide) (fun _ : Unit => [wX K.g x bd tr q p h sb sv, wB K.g bd st (fun k => shf (r k) j (n - 1)) (n - 1), wB K.g tr ts tq tn, wP K.g q a0 a1 a2 a3 a4 a5 a6 a7 s0 s1 s2 s3 s4 s5 s6 s7 s8 s9, wPd K.g p fb tx len ex pl sh hu du, wB K.g fb fs fr fn, wH K.g h ho (min (kp + 1) 6) (if nx = 5 then 0 else nx + 1), wB K.g (ho 0) ((un hs nx st) 0) ((un hr nx r) 0) ((un hm nx n) 0), wB K.g (ho 1) ((un hs nx st) 1) ((un hr nx r) 1) ((un hm nx n) 1), wB K.g (ho 2) ((un hs nx st) 2) ((un hr nx r) 2) ((un hm nx n) 2), wB K.g (ho 3) ((un hs nx st) 3) ((un hr nx r) 3) ((un hm nx n) 3), wB K.g (ho 4) ((un hs nx st) 4) ((un hr nx r) 4) ((un hm nx n) 4), wB K.g (ho 5) ((un hs nx st) 5) ((un hr nx r) 5) ((un hm nx n) 5), wB K.g (sb 0) (ss 0) (sr 0) (sn 0), wB K.g (sb 1) (ss 1) (sr 1) (sn 1), wM K.g y all kept hist kp slo sav beg prt frm tx len sp tol rd]) (fun _ => rfl) rfl rfl (Nat.le_of_ble_eq_true rfl) dL_law_233 236 rfl (fun u9 hu9 => ?_)
  show Z K 104 1616 [wX K.g x bd tr q p h sb sv, wB K.g bd st (fun k => shf (r k) j (n - 1)) (n - 1), wB K.g tr ts tq tn, wP K.g q a0 a1 a2 a3 a4 a5 a6 a7 s0 s1 s2 s3 s4 s5 s6 s7 s8 s9, wPd K.g p fb tx len ex pl sh hu du, wB K.g fb fs fr fn, wH K.g h ho (min (kp + 1) 6) (if nx = 5 then 0 else nx + 1), wB K.g (ho 0) ((un hs nx st) 0) ((un hr nx r) 0) ((un hm nx n) 0), wB K.g (ho 1) ((un hs nx st) 1) ((un hr nx r) 1) ((un hm nx n) 1), wB K.g (ho 2) ((un hs nx st) 2) ((un hr nx r) 2) ((un hm nx n) 2), wB K.g (ho 3) ((un hs nx st) 3) ((un hr nx r) 3) ((un hm nx n) 3), wB K.g (ho 4) ((un hs nx st) 4) ((un hr nx r) 4) ((un hm nx n) 4), wB K.g (ho 5) ((un hs nx st) 5) ((un hr nx r) 5) ((un hm nx n) 5), wB K.g (sb 0) (ss 0) (sr 0) (sn 0), wB K.g (sb 1) (ss 1) (sr 1) (sn 1), wM K.g y all kept hist kp slo sav beg prt frm tx len sp tol rd] [(0, .ref b), (1, .ref (x 0)), (2, .ref (y 0)), (3, .int (nI i))] 236 [.int (nI (n - 1))]
  refine z_aload_n C 2 rfl rfl dL_law_236 237 rfl ?_
  refine z_aload_n C 0 rfl rfl dL_law_237 238 rfl ?_
  refine z_iload_n C 3 rfl rfl dL_law_238 239 rfl ?_
  refine z_iconst C (v := nI 1) rfl dL_law_239 240 rfl ?_
  refine z_iadd C dL_law_240 241 rfl ?_
  refine z_xld C hX hbl hbA (by omega) (by omega) dL_law_241 242 rfl ?_
  refine z_top ea1 ?_
  refine z_callV C [.int (nI j)] [.int (nI (n - 1))] (tX5_drop_ok K.l K.g y all kept hist kp slo sav beg prt frm tx len sp tol rd st r n j (by first | omega | assumption) (by first | omega | assumption) (by first | omega | assumption) (by first | omega | assumption)) gL_law_X5_drop rfl rfl rfl hdX5_drop ⟨Nat.le_of_ble_eq_true rfl, Nat.le_of_ble_eq_true rfl⟩ ⟨Nat.le_of_ble_eq_true rfl, Nat.le_of_ble_eq_true rfl⟩ 15 0 rfl rfl rfl [15] rfl rfl (zlc (N := 16) rfl rfl) [0, 1, 2, 3, 4, 5, 6, 7, 8, 9, 10, 11, 12, 13, 14, 16] rfl (by decide) (fun u : (Nat → Nat) × (Nat → Nat) × (Nat) => match u with | (all2, hist2, hl2) => [wX K.g x bd tr q p h sb sv, wB K.g bd st (fun k => shf (r k) j (n - 1)) (n - 1), wB K.g tr ts tq tn, wP K.g q a0 a1 a2 a3 a4 a5 a6 a7 s0 s1 s2 s3 s4 s5 s6 s7 s8 s9, wPd K.g p fb tx len ex pl sh hu du, wB K.g fb fs fr fn, wH K.g h ho (min (kp + 1) 6) (if nx = 5 then 0 else nx + 1), wB K.g (ho 0) ((un hs nx st) 0) ((un hr nx r) 0) ((un hm nx n) 0), wB K.g (ho 1) ((un hs nx st) 1) ((un hr nx r) 1) ((un hm nx n) 1), wB K.g (ho 2) ((un hs nx st) 2) ((un hr nx r) 2) ((un hm nx n) 2), wB K.g (ho 3) ((un hs nx st) 3) ((un hr nx r) 3) ((un hm nx n) 3), wB K.g (ho 4) ((un hs nx st) 4) ((un hr nx r) 4) ((un hm nx n) 4), wB K.g (ho 5) ((un hs nx st) 5) ((un hr nx r) 5) ((un hm nx n) 5), wB K.g (sb 0) (ss 0) (sr 0) (sn 0), wB K.g (sb 1) (ss 1) (sr 1) (sn 1), wM K.g y all2 kept hist2 hl2 slo sav beg prt frm tx len sp tol rd]) (fun _ => rfl) rfl rfl (Nat.le_of_ble_eq_true rfl) dL_law_242 245 rfl (fun u9 hu9 => ?_)
  obtain ⟨al2, hi2, hl9⟩ := u9
  obtain ⟨hB2, hC⟩ := hu9
  have hB2 : Bd al2 st (fun k => shf (r k) j (n - 1)) (n - 1) := hB2
  have hC : HCh all hist kp hi2 hl9 := hC
  show Z K 104 1616 [wX K.g x bd tr q p h sb sv, wB K.g bd st (fun k => shf (r k) j (n - 1)) (n - 1), wB K.g tr ts tq tn, wP K.g q a0 a1 a2 a3 a4 a5 a6 a7 s0 s1 s2 s3 s4 s5 s6 s7 s8 s9, wPd K.g p fb tx len ex pl sh hu du, wB K.g fb fs fr fn, wH K.g h ho (min (kp + 1) 6) (if nx = 5 then 0 else nx + 1), wB K.g (ho 0) ((un hs nx st) 0) ((un hr nx r) 0) ((un hm nx n) 0), wB K.g (ho 1) ((un hs nx st) 1) ((un hr nx r) 1) ((un hm nx n) 1), wB K.g (ho 2) ((un hs nx st) 2) ((un hr nx r) 2) ((un hm nx n) 2), wB K.g (ho 3) ((un hs nx st) 3) ((un hr nx r) 3) ((un hm nx n) 3), wB K.g (ho 4) ((un hs nx st) 4) ((un hr nx r) 4) ((un hm nx n) 4), wB K.g (ho 5) ((un hs nx st) 5) ((un hr nx r) 5) ((un hm nx n) 5), wB K.g (sb 0) (ss 0) (sr 0) (sn 0), wB K.g (sb 1) (ss 1) (sr 1) (sn 1), wM K.g y al2 kept hi2 hl9 slo sav beg prt frm tx len sp tol rd] [(0, .ref b), (1, .ref (x 0)), (2, .ref (y 0)), (3, .int (nI i))] 245 [.int (nI (n - 1)), .int (nI (n - 1))]
  refine z_icmpI_eq C 648 dL_law_245 (by decide) 248 rfl (fun c9 => ?_) (fun c9 => absurd rfl c9)
  refine z_iinc C hnL 3 rfl (v := nI (i + 5)) (nI_add _ 5) [1, 2, 3, 0] [(0, .ref b), (1, .ref (x 0)), (2, .ref (y 0)), (3, .int (nI (i + 5)))] rfl (Nat.le_of_ble_eq_true rfl) dL_law_648 651 rfl ?_
  refine z_goto C 18 dL_law_651 (by decide) ?_
  have hPush := IH_push hH hG hB hC
  obtain rfl := hPush.1
  exact kk sv st (fun k => shf (r k) j (n - 1)) (n - 1) ts tq tn a0 a1 a2 a3 a4 a5 a6 a7 s0 s1 s2 s3 s4 s5 s6 s7 s8 s9 tx len ex pl sh hu du fs fr fn (min (kp + 1) 6) (if nx = 5 then 0 else nx + 1) (un hs nx st) (un hr nx r) (un hm nx n) ss sr sn al2 kept hi2 slo sav beg prt frm sp tol rd ⟨GB_drop hG hhi1, hB2, hPush.2, hSl, hT⟩

set_option maxHeartbeats 4000000 in
set_option maxRecDepth 100000 in
theorem lb_move {K : zK} (C : Cx K room_1 RL cL_law wsL_law) (hnL : K.nL = 4) (b : Nat) (x bd tr q p fb h : Nat → Nat) (ho sb : Nat → Nat → Nat) (y : Nat → Nat) (L : Nat) (xs : Nat → Int32) (i : Nat) (hLH : LH K b L xs) (hiL : i + 5 ≤ L) (kk : LI K b x bd tr q p fb h ho sb y (i + 5)) (sv : Nat → Bool) (st : Nat → Nat) (r : Nat → Nat → Nat) (n : Nat) (ts : Nat → Nat) (tq : Nat → Nat → Nat) (tn : Nat) (a0 : Nat → Nat) (a1 : Nat → Nat) (a2 : Nat → Nat) (a3 : Nat → Nat) (a4 : Nat → Nat) (a5 : Nat → Nat) (a6 : Nat → Nat) (a7 : Nat → Nat) (s0 : Nat) (s1 : Nat) (s2 : Nat) (s3 : Nat) (s4 : Nat) (s5 : Nat) (s6 : Nat) (s7 : Nat) (s8 : Nat) (s9 : Nat) (tx : Nat → Nat) (len : Nat) (ex : Nat) (pl : Int32) (sh : Int32) (hu : Int32) (du : Int32) (fs : Nat → Nat) (fr : Nat → Nat → Nat) (fn : Nat) (kp : Nat) (nx : Nat) (hs : Nat → Nat → Nat) (hr : Nat → Nat → Nat → Nat) (hm : Nat → Nat) (ss : Nat → Nat → Nat) (sr : Nat → Nat → Nat → Nat) (sn : Nat → Nat) (all : Nat → Nat) (kept : Nat → Nat) (hist : Nat → Nat) (slo : Nat → Nat) (sav : Nat → Nat) (beg : Nat → Nat) (prt : Nat → Nat) (frm : Nat → Nat) (sp : Nat) (tol : Nat → Nat) (rd : Nat) (hI : IV sv st r n tx len kp nx hs hr hm ss sr sn all hist slo sav) : Z K 104 1616 [wX K.g x bd tr q p h sb sv, wB K.g bd st r n, wB K.g tr ts tq tn, wP K.g q a0 a1 a2 a3 a4 a5 a6 a7 s0 s1 s2 s3 s4 s5 s6 s7 s8 s9, wPd K.g p fb tx len ex pl sh hu du, wB K.g fb fs fr fn, wH K.g h ho kp nx, wB K.g (ho 0) (hs 0) (hr 0) (hm 0), wB K.g (ho 1) (hs 1) (hr 1) (hm 1), wB K.g (ho 2) (hs 2) (hr 2) (hm 2), wB K.g (ho 3) (hs 3) (hr 3) (hm 3), wB K.g (ho 4) (hs 4) (hr 4) (hm 4), wB K.g (ho 5) (hs 5) (hr 5) (hm 5), wB K.g (sb 0) (ss 0) (sr 0) (sn 0), wB K.g (sb 1) (ss 1) (sr 1) (sn 1), wM K.g y all kept hist kp slo sav beg prt frm tx len sp tol rd] [(0, .ref b), (1, .ref (x 0)), (2, .ref (y 0)), (3, .int (nI i))] 250 [] := by
  obtain ⟨hX, hbl, hbA, hL, heSet, heOrd⟩ := hLH
  obtain ⟨hG, hB, hH, hSl, hT⟩ := hI
  obtain ⟨hn, hS, hJ, hR⟩ := id hG
  have hk := hH.1
  have hx := hH.2.1
  have hl := hT.1
  have ht := hT.2
  by_cases hb1 : isJ (xs (i + 1)) n = true
  rotate_left
  · skip
    have hb1 : isJ (xs (i + 1)) n = false := eq_false_of_ne_true hb1
    refine z_aload_n C 1 rfl rfl dL_law_250 251 rfl ?_
    refine z_aload_n C 0 rfl rfl dL_law_251 252 rfl ?_
    refine z_iload_n C 3 rfl rfl dL_law_252 253 rfl ?_
    refine z_iconst C (v := nI 1) rfl dL_law_253 254 rfl ?_
    refine z_iadd C dL_law_254 255 rfl ?_
    refine z_xld C hX hbl hbA (by omega) (by omega) dL_law_255 256 rfl ?_
    refine z_aload_n C 0 rfl rfl dL_law_256 257 rfl ?_
    refine z_iload_n C 3 rfl rfl dL_law_257 258 rfl ?_
    refine z_iconst C (v := nI 2) rfl dL_law_258 259 rfl ?_
    refine z_iadd C dL_law_259 260 rfl ?_
    refine z_xld C hX hbl hbA (by omega) (by omega) dL_law_260 261 rfl ?_
    refine z_callV C [.int (xs (i + 1)), .int (xs (i + 2))] [] (tX4_move_ns K.l K.g x bd tr q p h sb sv st r n (xs (i + 1)) (xs (i + 2)) (by first | omega | assumption) (by rw [hb1]; rfl)) gL_law_X4_move rfl rfl rfl hdX4_move ⟨Nat.le_of_ble_eq_true rfl, Nat.le_of_ble_eq_true rfl⟩ ⟨Nat.le_of_ble_eq_true rfl, Nat.le_of_ble_eq_true rfl⟩ 0 0 rfl rfl rfl [0, 1] rfl rfl (zlc (N := 16) rfl rfl) [16, 17, 2, 3, 4, 5, 6, 7, 8, 9, 10, 11, 12, 13, 14, 15] rfl (by decide) (fun _ : Unit => [wX K.g x bd tr q p h sb sv, wB K.g bd st r n, wB K.g tr ts tq tn, wP K.g q a0 a1 a2 a3 a4 a5 a6 a7 s0 s1 s2 s3 s4 s5 s6 s7 s8 s9, wPd K.g p fb tx len ex pl sh hu du, wB K.g fb fs fr fn, wH K.g h ho kp nx, wB K.g (ho 0) (hs 0) (hr 0) (hm 0), wB K.g (ho 1) (hs 1) (hr 1) (hm 1), wB K.g (ho 2) (hs 2) (hr 2) (hm 2), wB K.g (ho 3) (hs 3) (hr 3) (hm 3), wB K.g (ho 4) (hs 4) (hr 4) (hm 4), wB K.g (ho 5) (hs 5) (hr 5) (hm 5), wB K.g (sb 0) (ss 0) (sr 0) (sn 0), wB K.g (sb 1) (ss 1) (sr 1) (sn 1), wM K.g y all kept hist kp slo sav beg prt frm tx len sp tol rd]) (fun _ => rfl) rfl rfl (Nat.le_of_ble_eq_true rfl) dL_law_261 264 rfl (fun u9 hu9 => ?_)
    show Z K 104 1616 [wX K.g x bd tr q p h sb sv, wB K.g bd st r n, wB K.g tr ts tq tn, wP K.g q a0 a1 a2 a3 a4 a5 a6 a7 s0 s1 s2 s3 s4 s5 s6 s7 s8 s9, wPd K.g p fb tx len ex pl sh hu du, wB K.g fb fs fr fn, wH K.g h ho kp nx, wB K.g (ho 0) (hs 0) (hr 0) (hm 0), wB K.g (ho 1) (hs 1) (hr 1) (hm 1), wB K.g (ho 2) (hs 2) (hr 2) (hm 2), wB K.g (ho 3) (hs 3) (hr 3) (hm 3), wB K.g (ho 4) (hs 4) (hr 4) (hm 4), wB K.g (ho 5) (hs 5) (hr 5) (hm 5), wB K.g (sb 0) (ss 0) (sr 0) (sn 0), wB K.g (sb 1) (ss 1) (sr 1) (sn 1), wM K.g y all kept hist kp slo sav beg prt frm tx len sp tol rd] [(0, .ref b), (1, .ref (x 0)), (2, .ref (y 0)), (3, .int (nI i))] 264 [.int (-1)]
    refine z_aload_n C 2 rfl rfl dL_law_264 265 rfl ?_
    refine z_aload_n C 0 rfl rfl dL_law_265 266 rfl ?_
    refine z_iload_n C 3 rfl rfl dL_law_266 267 rfl ?_
    refine z_iconst C (v := nI 1) rfl dL_law_267 268 rfl ?_
    refine z_iadd C dL_law_268 269 rfl ?_
    refine z_xld C hX hbl hbA (by omega) (by omega) dL_law_269 270 rfl ?_
    refine z_aload_n C 0 rfl rfl dL_law_270 271 rfl ?_
    refine z_iload_n C 3 rfl rfl dL_law_271 272 rfl ?_
    refine z_iconst C (v := nI 2) rfl dL_law_272 273 rfl ?_
    refine z_iadd C dL_law_273 274 rfl ?_
    refine z_xld C hX hbl hbA (by omega) (by omega) dL_law_274 275 rfl ?_
    refine z_callV C [.int (xs (i + 1)), .int (xs (i + 2))] [.int (-1)] (tX5_move_ns K.l K.g y all kept hist kp slo sav beg prt frm tx len sp tol rd st r n (xs (i + 1)) (xs (i + 2)) (by first | omega | assumption) (by first | omega | assumption) (by rw [hb1]; rfl)) gL_law_X5_move rfl rfl rfl hdX5_move ⟨Nat.le_of_ble_eq_true rfl, Nat.le_of_ble_eq_true rfl⟩ ⟨Nat.le_of_ble_eq_true rfl, Nat.le_of_ble_eq_true rfl⟩ 15 0 rfl rfl rfl [15] rfl rfl (zlc (N := 16) rfl rfl) [0, 1, 2, 3, 4, 5, 6, 7, 8, 9, 10, 11, 12, 13, 14, 16] rfl (by decide) (fun _ : Unit => [wX K.g x bd tr q p h sb sv, wB K.g bd st r n, wB K.g tr ts tq tn, wP K.g q a0 a1 a2 a3 a4 a5 a6 a7 s0 s1 s2 s3 s4 s5 s6 s7 s8 s9, wPd K.g p fb tx len ex pl sh hu du, wB K.g fb fs fr fn, wH K.g h ho kp nx, wB K.g (ho 0) (hs 0) (hr 0) (hm 0), wB K.g (ho 1) (hs 1) (hr 1) (hm 1), wB K.g (ho 2) (hs 2) (hr 2) (hm 2), wB K.g (ho 3) (hs 3) (hr 3) (hm 3), wB K.g (ho 4) (hs 4) (hr 4) (hm 4), wB K.g (ho 5) (hs 5) (hr 5) (hm 5), wB K.g (sb 0) (ss 0) (sr 0) (sn 0), wB K.g (sb 1) (ss 1) (sr 1) (sn 1), wM K.g y all kept hist kp slo sav beg prt frm tx len sp tol rd]) (fun _ => rfl) rfl rfl (Nat.le_of_ble_eq_true rfl) dL_law_275 278 rfl (fun u9 hu9 => ?_)
    show Z K 104 1616 [wX K.g x bd tr q p h sb sv, wB K.g bd st r n, wB K.g tr ts tq tn, wP K.g q a0 a1 a2 a3 a4 a5 a6 a7 s0 s1 s2 s3 s4 s5 s6 s7 s8 s9, wPd K.g p fb tx len ex pl sh hu du, wB K.g fb fs fr fn, wH K.g h ho kp nx, wB K.g (ho 0) (hs 0) (hr 0) (hm 0), wB K.g (ho 1) (hs 1) (hr 1) (hm 1), wB K.g (ho 2) (hs 2) (hr 2) (hm 2), wB K.g (ho 3) (hs 3) (hr 3) (hm 3), wB K.g (ho 4) (hs 4) (hr 4) (hm 4), wB K.g (ho 5) (hs 5) (hr 5) (hm 5), wB K.g (sb 0) (ss 0) (sr 0) (sn 0), wB K.g (sb 1) (ss 1) (sr 1) (sn 1), wM K.g y all kept hist kp slo sav beg prt frm tx len sp tol rd] [(0, .ref b), (1, .ref (x 0)), (2, .ref (y 0)), (3, .int (nI i))] 278 [.int (-1), .int (-1)]
    refine z_icmpI_eq C 648 dL_law_278 (by decide) 281 rfl (fun c9 => ?_) (fun c9 => absurd rfl c9)
    refine z_iinc C hnL 3 rfl (v := nI (i + 5)) (nI_add _ 5) [1, 2, 3, 0] [(0, .ref b), (1, .ref (x 0)), (2, .ref (y 0)), (3, .int (nI (i + 5)))] rfl (Nat.le_of_ble_eq_true rfl) dL_law_648 651 rfl ?_
    refine z_goto C 18 dL_law_651 (by decide) ?_
    exact kk sv st r n ts tq tn a0 a1 a2 a3 a4 a5 a6 a7 s0 s1 s2 s3 s4 s5 s6 s7 s8 s9 tx len ex pl sh hu du fs fr fn kp nx hs hr hm ss sr sn all kept hist slo sav beg prt frm sp tol rd ⟨hG, hB, hH, hSl, hT⟩
  obtain ⟨j, hhi1, ea1⟩ := isJ_i hn hb1
  by_cases hb2 : isJ (xs (i + 2)) n = true
  rotate_left
  · skip
    have hb2 : isJ (xs (i + 2)) n = false := eq_false_of_ne_true hb2
    refine z_aload_n C 1 rfl rfl dL_law_250 251 rfl ?_
    refine z_aload_n C 0 rfl rfl dL_law_251 252 rfl ?_
    refine z_iload_n C 3 rfl rfl dL_law_252 253 rfl ?_
    refine z_iconst C (v := nI 1) rfl dL_law_253 254 rfl ?_
    refine z_iadd C dL_law_254 255 rfl ?_
    refine z_xld C hX hbl hbA (by omega) (by omega) dL_law_255 256 rfl ?_
    refine z_aload_n C 0 rfl rfl dL_law_256 257 rfl ?_
    refine z_iload_n C 3 rfl rfl dL_law_257 258 rfl ?_
    refine z_iconst C (v := nI 2) rfl dL_law_258 259 rfl ?_
    refine z_iadd C dL_law_259 260 rfl ?_
    refine z_xld C hX hbl hbA (by omega) (by omega) dL_law_260 261 rfl ?_
    refine z_callV C [.int (xs (i + 1)), .int (xs (i + 2))] [] (tX4_move_ns K.l K.g x bd tr q p h sb sv st r n (xs (i + 1)) (xs (i + 2)) (by first | omega | assumption) (by rw [hb1, hb2]; rfl)) gL_law_X4_move rfl rfl rfl hdX4_move ⟨Nat.le_of_ble_eq_true rfl, Nat.le_of_ble_eq_true rfl⟩ ⟨Nat.le_of_ble_eq_true rfl, Nat.le_of_ble_eq_true rfl⟩ 0 0 rfl rfl rfl [0, 1] rfl rfl (zlc (N := 16) rfl rfl) [16, 17, 2, 3, 4, 5, 6, 7, 8, 9, 10, 11, 12, 13, 14, 15] rfl (by decide) (fun _ : Unit => [wX K.g x bd tr q p h sb sv, wB K.g bd st r n, wB K.g tr ts tq tn, wP K.g q a0 a1 a2 a3 a4 a5 a6 a7 s0 s1 s2 s3 s4 s5 s6 s7 s8 s9, wPd K.g p fb tx len ex pl sh hu du, wB K.g fb fs fr fn, wH K.g h ho kp nx, wB K.g (ho 0) (hs 0) (hr 0) (hm 0), wB K.g (ho 1) (hs 1) (hr 1) (hm 1), wB K.g (ho 2) (hs 2) (hr 2) (hm 2), wB K.g (ho 3) (hs 3) (hr 3) (hm 3), wB K.g (ho 4) (hs 4) (hr 4) (hm 4), wB K.g (ho 5) (hs 5) (hr 5) (hm 5), wB K.g (sb 0) (ss 0) (sr 0) (sn 0), wB K.g (sb 1) (ss 1) (sr 1) (sn 1), wM K.g y all kept hist kp slo sav beg prt frm tx len sp tol rd]) (fun _ => rfl) rfl rfl (Nat.le_of_ble_eq_true rfl) dL_law_261 264 rfl (fun u9 hu9 => ?_)
    show Z K 104 1616 [wX K.g x bd tr q p h sb sv, wB K.g bd st r n, wB K.g tr ts tq tn, wP K.g q a0 a1 a2 a3 a4 a5 a6 a7 s0 s1 s2 s3 s4 s5 s6 s7 s8 s9, wPd K.g p fb tx len ex pl sh hu du, wB K.g fb fs fr fn, wH K.g h ho kp nx, wB K.g (ho 0) (hs 0) (hr 0) (hm 0), wB K.g (ho 1) (hs 1) (hr 1) (hm 1), wB K.g (ho 2) (hs 2) (hr 2) (hm 2), wB K.g (ho 3) (hs 3) (hr 3) (hm 3), wB K.g (ho 4) (hs 4) (hr 4) (hm 4), wB K.g (ho 5) (hs 5) (hr 5) (hm 5), wB K.g (sb 0) (ss 0) (sr 0) (sn 0), wB K.g (sb 1) (ss 1) (sr 1) (sn 1), wM K.g y all kept hist kp slo sav beg prt frm tx len sp tol rd] [(0, .ref b), (1, .ref (x 0)), (2, .ref (y 0)), (3, .int (nI i))] 264 [.int (-1)]
    refine z_aload_n C 2 rfl rfl dL_law_264 265 rfl ?_
    refine z_aload_n C 0 rfl rfl dL_law_265 266 rfl ?_
    refine z_iload_n C 3 rfl rfl dL_law_266 267 rfl ?_
    refine z_iconst C (v := nI 1) rfl dL_law_267 268 rfl ?_
    refine z_iadd C dL_law_268 269 rfl ?_
    refine z_xld C hX hbl hbA (by omega) (by omega) dL_law_269 270 rfl ?_
    refine z_aload_n C 0 rfl rfl dL_law_270 271 rfl ?_
    refine z_iload_n C 3 rfl rfl dL_law_271 272 rfl ?_
    refine z_iconst C (v := nI 2) rfl dL_law_272 273 rfl ?_
    refine z_iadd C dL_law_273 274 rfl ?_
    refine z_xld C hX hbl hbA (by omega) (by omega) dL_law_274 275 rfl ?_
    refine z_callV C [.int (xs (i + 1)), .int (xs (i + 2))] [.int (-1)] (tX5_move_ns K.l K.g y all kept hist kp slo sav beg prt frm tx len sp tol rd st r n (xs (i + 1)) (xs (i + 2)) (by first | omega | assumption) (by first | omega | assumption) (by rw [hb1, hb2]; rfl)) gL_law_X5_move rfl rfl rfl hdX5_move ⟨Nat.le_of_ble_eq_true rfl, Nat.le_of_ble_eq_true rfl⟩ ⟨Nat.le_of_ble_eq_true rfl, Nat.le_of_ble_eq_true rfl⟩ 15 0 rfl rfl rfl [15] rfl rfl (zlc (N := 16) rfl rfl) [0, 1, 2, 3, 4, 5, 6, 7, 8, 9, 10, 11, 12, 13, 14, 16] rfl (by decide) (fun _ : Unit => [wX K.g x bd tr q p h sb sv, wB K.g bd st r n, wB K.g tr ts tq tn, wP K.g q a0 a1 a2 a3 a4 a5 a6 a7 s0 s1 s2 s3 s4 s5 s6 s7 s8 s9, wPd K.g p fb tx len ex pl sh hu du, wB K.g fb fs fr fn, wH K.g h ho kp nx, wB K.g (ho 0) (hs 0) (hr 0) (hm 0), wB K.g (ho 1) (hs 1) (hr 1) (hm 1), wB K.g (ho 2) (hs 2) (hr 2) (hm 2), wB K.g (ho 3) (hs 3) (hr 3) (hm 3), wB K.g (ho 4) (hs 4) (hr 4) (hm 4), wB K.g (ho 5) (hs 5) (hr 5) (hm 5), wB K.g (sb 0) (ss 0) (sr 0) (sn 0), wB K.g (sb 1) (ss 1) (sr 1) (sn 1), wM K.g y all kept hist kp slo sav beg prt frm tx len sp tol rd]) (fun _ => rfl) rfl rfl (Nat.le_of_ble_eq_true rfl) dL_law_275 278 rfl (fun u9 hu9 => ?_)
    show Z K 104 1616 [wX K.g x bd tr q p h sb sv, wB K.g bd st r n, wB K.g tr ts tq tn, wP K.g q a0 a1 a2 a3 a4 a5 a6 a7 s0 s1 s2 s3 s4 s5 s6 s7 s8 s9, wPd K.g p fb tx len ex pl sh hu du, wB K.g fb fs fr fn, wH K.g h ho kp nx, wB K.g (ho 0) (hs 0) (hr 0) (hm 0), wB K.g (ho 1) (hs 1) (hr 1) (hm 1), wB K.g (ho 2) (hs 2) (hr 2) (hm 2), wB K.g (ho 3) (hs 3) (hr 3) (hm 3), wB K.g (ho 4) (hs 4) (hr 4) (hm 4), wB K.g (ho 5) (hs 5) (hr 5) (hm 5), wB K.g (sb 0) (ss 0) (sr 0) (sn 0), wB K.g (sb 1) (ss 1) (sr 1) (sn 1), wM K.g y all kept hist kp slo sav beg prt frm tx len sp tol rd] [(0, .ref b), (1, .ref (x 0)), (2, .ref (y 0)), (3, .int (nI i))] 278 [.int (-1), .int (-1)]
    refine z_icmpI_eq C 648 dL_law_278 (by decide) 281 rfl (fun c9 => ?_) (fun c9 => absurd rfl c9)
    refine z_iinc C hnL 3 rfl (v := nI (i + 5)) (nI_add _ 5) [1, 2, 3, 0] [(0, .ref b), (1, .ref (x 0)), (2, .ref (y 0)), (3, .int (nI (i + 5)))] rfl (Nat.le_of_ble_eq_true rfl) dL_law_648 651 rfl ?_
    refine z_goto C 18 dL_law_651 (by decide) ?_
    exact kk sv st r n ts tq tn a0 a1 a2 a3 a4 a5 a6 a7 s0 s1 s2 s3 s4 s5 s6 s7 s8 s9 tx len ex pl sh hu du fs fr fn kp nx hs hr hm ss sr sn all kept hist slo sav beg prt frm sp tol rd ⟨hG, hB, hH, hSl, hT⟩
  obtain ⟨w, hhi2, ea2⟩ := isJ_i hn hb2
  refine z_aload_n C 1 rfl rfl dL_law_250 251 rfl ?_
  refine z_aload_n C 0 rfl rfl dL_law_251 252 rfl ?_
  refine z_iload_n C 3 rfl rfl dL_law_252 253 rfl ?_
  refine z_iconst C (v := nI 1) rfl dL_law_253 254 rfl ?_
  refine z_iadd C dL_law_254 255 rfl ?_
  refine z_xld C hX hbl hbA (by omega) (by omega) dL_law_255 256 rfl ?_
  refine z_top ea1 ?_
  refine z_aload_n C 0 rfl rfl dL_law_256 257 rfl ?_
  refine z_iload_n C 3 rfl rfl dL_law_257 258 rfl ?_
  refine z_iconst C (v := nI 2) rfl dL_law_258 259 rfl ?_
  refine z_iadd C dL_law_259 260 rfl ?_
  refine z_xld C hX hbl hbA (by omega) (by omega) dL_law_260 261 rfl ?_
  refine z_top ea2 ?_
  refine z_callV C [.int (nI j), .int (nI w)] [] (tX4_move_ok K.l K.g x bd tr q p h sb sv a0 a1 a2 a3 a4 a5 a6 a7 s0 s1 s2 s3 s4 s5 s6 s7 s8 s9 st r n ho hs hr hm kp nx j w (by first | omega | assumption) (by first | omega | assumption) (by first | omega | assumption) (by first | omega | assumption) (by first | omega | assumption) (by first | omega | assumption) (by first | omega | assumption) (by first | omega | assumption)) gL_law_X4_move rfl rfl rfl hdX4_move ⟨Nat.le_of_ble_eq_true rfl, Nat.le_of_ble_eq_true rfl⟩ ⟨Nat.le_of_ble_eq_true rfl, Nat.le_of_ble_eq_true rfl⟩ 0 0 rfl rfl rfl [0, 3, 1, 6, 7, 8, 9, 10, 11, 12] rfl rfl (zlc (N := 16) rfl rfl) [16, 18, 2, 17, 4, 5, 19, 20, 21, 22, 23, 24, 25, 13, 14, 15] rfl (by decide) (fun u : (Nat → Nat) × (Nat → Nat) × (Nat → Nat) × (Nat → Nat) × (Nat → Nat) × (Nat → Nat) × (Nat → Nat) × (Nat → Nat) × (Nat) × (Nat) × (Nat) × (Nat) × (Nat) × (Nat) × (Nat) × (Nat) × (Nat) => match u with | (c0, c1, c2, c3, c4, c5, c6, c7, d1, d2, d3, d4, d5, d6, d7, d8, d9) => [wX K.g x bd tr q p h sb sv, wB K.g bd st (fun k => shf (r k) j w) n, wB K.g tr ts tq tn, wP K.g q c0 c1 c2 c3 c4 c5 c6 c7 n d1 d2 d3 d4 d5 d6 d7 d8 d9, wPd K.g p fb tx len ex pl sh hu du, wB K.g fb fs fr fn, wH K.g h ho (min (kp + 1) 6) (if nx = 5 then 0 else nx + 1), wB K.g (ho 0) ((un hs nx st) 0) ((un hr nx r) 0) ((un hm nx n) 0), wB K.g (ho 1) ((un hs nx st) 1) ((un hr nx r) 1) ((un hm nx n) 1), wB K.g (ho 2) ((un hs nx st) 2) ((un hr nx r) 2) ((un hm nx n) 2), wB K.g (ho 3) ((un hs nx st) 3) ((un hr nx r) 3) ((un hm nx n) 3), wB K.g (ho 4) ((un hs nx st) 4) ((un hr nx r) 4) ((un hm nx n) 4), wB K.g (ho 5) ((un hs nx st) 5) ((un hr nx r) 5) ((un hm nx n) 5), wB K.g (sb 0) (ss 0) (sr 0) (sn 0), wB K.g (sb 1) (ss 1) (sr 1) (sn 1), wM K.g y all kept hist kp slo sav beg prt frm tx len sp tol rd]) (fun _ => rfl) rfl rfl (Nat.le_of_ble_eq_true rfl) dL_law_261 264 rfl (fun u9 hu9 => ?_)
  obtain ⟨c0_1, c1_2, c2_3, c3_4, c4_5, c5_6, c6_7, c7_8, d1_9, d2_10, d3_11, d4_12, d5_13, d6_14, d7_15, d8_16, d9_17⟩ := u9
  show Z K 104 1616 [wX K.g x bd tr q p h sb sv, wB K.g bd st (fun k => shf (r k) j w) n, wB K.g tr ts tq tn, wP K.g q c0_1 c1_2 c2_3 c3_4 c4_5 c5_6 c6_7 c7_8 n d1_9 d2_10 d3_11 d4_12 d5_13 d6_14 d7_15 d8_16 d9_17, wPd K.g p fb tx len ex pl sh hu du, wB K.g fb fs fr fn, wH K.g h ho (min (kp + 1) 6) (if nx = 5 then 0 else nx + 1), wB K.g (ho 0) ((un hs nx st) 0) ((un hr nx r) 0) ((un hm nx n) 0), wB K.g (ho 1) ((un hs nx st) 1) ((un hr nx r) 1) ((un hm nx n) 1), wB K.g (ho 2) ((un hs nx st) 2) ((un hr nx r) 2) ((un hm nx n) 2), wB K.g (ho 3) ((un hs nx st) 3) ((un hr nx r) 3) ((un hm nx n) 3), wB K.g (ho 4) ((un hs nx st) 4) ((un hr nx r) 4) ((un hm nx n) 4), wB K.g (ho 5) ((un hs nx st) 5) ((un hr nx r) 5) ((un hm nx n) 5), wB K.g (sb 0) (ss 0) (sr 0) (sn 0), wB K.g (sb 1) (ss 1) (sr 1) (sn 1), wM K.g y all kept hist kp slo sav beg prt frm tx len sp tol rd] [(0, .ref b), (1, .ref (x 0)), (2, .ref (y 0)), (3, .int (nI i))] 264 [.int (nI (LSm st (fun k => shf (r k) j w) (st 5) n))]
  refine z_aload_n C 2 rfl rfl dL_law_264 265 rfl ?_
  refine z_aload_n C 0 rfl rfl dL_law_265 266 rfl ?_
  refine z_iload_n C 3 rfl rfl dL_law_266 267 rfl ?_
  refine z_iconst C (v := nI 1) rfl dL_law_267 268 rfl ?_
  refine z_iadd C dL_law_268 269 rfl ?_
  refine z_xld C hX hbl hbA (by omega) (by omega) dL_law_269 270 rfl ?_
  refine z_top ea1 ?_
  refine z_aload_n C 0 rfl rfl dL_law_270 271 rfl ?_
  refine z_iload_n C 3 rfl rfl dL_law_271 272 rfl ?_
  refine z_iconst C (v := nI 2) rfl dL_law_272 273 rfl ?_
  refine z_iadd C dL_law_273 274 rfl ?_
  refine z_xld C hX hbl hbA (by omega) (by omega) dL_law_274 275 rfl ?_
  refine z_top ea2 ?_
  refine z_callV C [.int (nI j), .int (nI w)] [.int (nI (LSm st (fun k => shf (r k) j w) (st 5) n))] (tX5_move_ok K.l K.g y all kept hist kp slo sav beg prt frm tx len sp tol rd st r n j w (by first | omega | assumption) (by first | omega | assumption) (by first | omega | assumption) (by first | omega | assumption) (by first | omega | assumption) (by first | omega | assumption) (by first | omega | assumption) (by first | omega | assumption)) gL_law_X5_move rfl rfl rfl hdX5_move ⟨Nat.le_of_ble_eq_true rfl, Nat.le_of_ble_eq_true rfl⟩ ⟨Nat.le_of_ble_eq_true rfl, Nat.le_of_ble_eq_true rfl⟩ 15 0 rfl rfl rfl [15] rfl rfl (zlc (N := 16) rfl rfl) [0, 1, 2, 3, 4, 5, 6, 7, 8, 9, 10, 11, 12, 13, 14, 16] rfl (by decide) (fun u : (Nat → Nat) × (Nat → Nat) × (Nat) × (Nat → Nat) × (Nat → Nat) => match u with | (all2, hist2, hl2, beg2, prt2) => [wX K.g x bd tr q p h sb sv, wB K.g bd st (fun k => shf (r k) j w) n, wB K.g tr ts tq tn, wP K.g q c0_1 c1_2 c2_3 c3_4 c4_5 c5_6 c6_7 c7_8 n d1_9 d2_10 d3_11 d4_12 d5_13 d6_14 d7_15 d8_16 d9_17, wPd K.g p fb tx len ex pl sh hu du, wB K.g fb fs fr fn, wH K.g h ho (min (kp + 1) 6) (if nx = 5 then 0 else nx + 1), wB K.g (ho 0) ((un hs nx st) 0) ((un hr nx r) 0) ((un hm nx n) 0), wB K.g (ho 1) ((un hs nx st) 1) ((un hr nx r) 1) ((un hm nx n) 1), wB K.g (ho 2) ((un hs nx st) 2) ((un hr nx r) 2) ((un hm nx n) 2), wB K.g (ho 3) ((un hs nx st) 3) ((un hr nx r) 3) ((un hm nx n) 3), wB K.g (ho 4) ((un hs nx st) 4) ((un hr nx r) 4) ((un hm nx n) 4), wB K.g (ho 5) ((un hs nx st) 5) ((un hr nx r) 5) ((un hm nx n) 5), wB K.g (sb 0) (ss 0) (sr 0) (sn 0), wB K.g (sb 1) (ss 1) (sr 1) (sn 1), wM K.g y all2 kept hist2 hl2 slo sav beg2 prt2 frm tx len sp tol rd]) (fun _ => rfl) rfl rfl (Nat.le_of_ble_eq_true rfl) dL_law_275 278 rfl (fun u9 hu9 => ?_)
  obtain ⟨al2, hi2, hl9, bg2, pr2⟩ := u9
  obtain ⟨hB2, hC⟩ := hu9
  have hB2 : Bd al2 st (fun k => shf (r k) j w) n := hB2
  have hC : HCh all hist kp hi2 hl9 := hC
  show Z K 104 1616 [wX K.g x bd tr q p h sb sv, wB K.g bd st (fun k => shf (r k) j w) n, wB K.g tr ts tq tn, wP K.g q c0_1 c1_2 c2_3 c3_4 c4_5 c5_6 c6_7 c7_8 n d1_9 d2_10 d3_11 d4_12 d5_13 d6_14 d7_15 d8_16 d9_17, wPd K.g p fb tx len ex pl sh hu du, wB K.g fb fs fr fn, wH K.g h ho (min (kp + 1) 6) (if nx = 5 then 0 else nx + 1), wB K.g (ho 0) ((un hs nx st) 0) ((un hr nx r) 0) ((un hm nx n) 0), wB K.g (ho 1) ((un hs nx st) 1) ((un hr nx r) 1) ((un hm nx n) 1), wB K.g (ho 2) ((un hs nx st) 2) ((un hr nx r) 2) ((un hm nx n) 2), wB K.g (ho 3) ((un hs nx st) 3) ((un hr nx r) 3) ((un hm nx n) 3), wB K.g (ho 4) ((un hs nx st) 4) ((un hr nx r) 4) ((un hm nx n) 4), wB K.g (ho 5) ((un hs nx st) 5) ((un hr nx r) 5) ((un hm nx n) 5), wB K.g (sb 0) (ss 0) (sr 0) (sn 0), wB K.g (sb 1) (ss 1) (sr 1) (sn 1), wM K.g y al2 kept hi2 hl9 slo sav bg2 pr2 frm tx len sp tol rd] [(0, .ref b), (1, .ref (x 0)), (2, .ref (y 0)), (3, .int (nI i))] 278 [.int (nI (LSm st (fun k => shf (r k) j w) (st 5) n)), .int (nI (LSm st (fun k => shf (r k) j w) (st 5) n))]
  refine z_icmpI_eq C 648 dL_law_278 (by decide) 281 rfl (fun c9 => ?_) (fun c9 => absurd rfl c9)
  refine z_iinc C hnL 3 rfl (v := nI (i + 5)) (nI_add _ 5) [1, 2, 3, 0] [(0, .ref b), (1, .ref (x 0)), (2, .ref (y 0)), (3, .int (nI (i + 5)))] rfl (Nat.le_of_ble_eq_true rfl) dL_law_648 651 rfl ?_
  refine z_goto C 18 dL_law_651 (by decide) ?_
  have hPush := IH_push hH hG hB hC
  obtain rfl := hPush.1
  exact kk sv st (fun k => shf (r k) j w) n ts tq tn c0_1 c1_2 c2_3 c3_4 c4_5 c5_6 c6_7 c7_8 n d1_9 d2_10 d3_11 d4_12 d5_13 d6_14 d7_15 d8_16 d9_17 tx len ex pl sh hu du fs fr fn (min (kp + 1) 6) (if nx = 5 then 0 else nx + 1) (un hs nx st) (un hr nx r) (un hm nx n) ss sr sn al2 kept hi2 slo sav bg2 pr2 frm sp tol rd ⟨⟨hn, hS, okJ_shf hhi1 hhi2 hJ, okR_shf hhi1 hhi2 hR⟩, hB2, hPush.2, hSl, hT⟩

set_option maxHeartbeats 4000000 in
set_option maxRecDepth 100000 in
theorem lb_due {K : zK} (C : Cx K room_1 RL cL_law wsL_law) (hnL : K.nL = 4) (b : Nat) (x bd tr q p fb h : Nat → Nat) (ho sb : Nat → Nat → Nat) (y : Nat → Nat) (L : Nat) (xs : Nat → Int32) (i : Nat) (hLH : LH K b L xs) (hiL : i + 5 ≤ L) (kk : LI K b x bd tr q p fb h ho sb y (i + 5)) (sv : Nat → Bool) (st : Nat → Nat) (r : Nat → Nat → Nat) (n : Nat) (ts : Nat → Nat) (tq : Nat → Nat → Nat) (tn : Nat) (a0 : Nat → Nat) (a1 : Nat → Nat) (a2 : Nat → Nat) (a3 : Nat → Nat) (a4 : Nat → Nat) (a5 : Nat → Nat) (a6 : Nat → Nat) (a7 : Nat → Nat) (s0 : Nat) (s1 : Nat) (s2 : Nat) (s3 : Nat) (s4 : Nat) (s5 : Nat) (s6 : Nat) (s7 : Nat) (s8 : Nat) (s9 : Nat) (tx : Nat → Nat) (len : Nat) (ex : Nat) (pl : Int32) (sh : Int32) (hu : Int32) (du : Int32) (fs : Nat → Nat) (fr : Nat → Nat → Nat) (fn : Nat) (kp : Nat) (nx : Nat) (hs : Nat → Nat → Nat) (hr : Nat → Nat → Nat → Nat) (hm : Nat → Nat) (ss : Nat → Nat → Nat) (sr : Nat → Nat → Nat → Nat) (sn : Nat → Nat) (all : Nat → Nat) (kept : Nat → Nat) (hist : Nat → Nat) (slo : Nat → Nat) (sav : Nat → Nat) (beg : Nat → Nat) (prt : Nat → Nat) (frm : Nat → Nat) (sp : Nat) (tol : Nat → Nat) (rd : Nat) (hI : IV sv st r n tx len kp nx hs hr hm ss sr sn all hist slo sav) : Z K 104 1616 [wX K.g x bd tr q p h sb sv, wB K.g bd st r n, wB K.g tr ts tq tn, wP K.g q a0 a1 a2 a3 a4 a5 a6 a7 s0 s1 s2 s3 s4 s5 s6 s7 s8 s9, wPd K.g p fb tx len ex pl sh hu du, wB K.g fb fs fr fn, wH K.g h ho kp nx, wB K.g (ho 0) (hs 0) (hr 0) (hm 0), wB K.g (ho 1) (hs 1) (hr 1) (hm 1), wB K.g (ho 2) (hs 2) (hr 2) (hm 2), wB K.g (ho 3) (hs 3) (hr 3) (hm 3), wB K.g (ho 4) (hs 4) (hr 4) (hm 4), wB K.g (ho 5) (hs 5) (hr 5) (hm 5), wB K.g (sb 0) (ss 0) (sr 0) (sn 0), wB K.g (sb 1) (ss 1) (sr 1) (sn 1), wM K.g y all kept hist kp slo sav beg prt frm tx len sp tol rd] [(0, .ref b), (1, .ref (x 0)), (2, .ref (y 0)), (3, .int (nI i))] 283 [] := by
  obtain ⟨hX, hbl, hbA, hL, heSet, heOrd⟩ := hLH
  obtain ⟨hG, hB, hH, hSl, hT⟩ := hI
  obtain ⟨hn, hS, hJ, hR⟩ := id hG
  have hk := hH.1
  have hx := hH.2.1
  have hl := hT.1
  have ht := hT.2
  by_cases hb1 : isJ (xs (i + 1)) n = true
  rotate_left
  · skip
    have hb1 : isJ (xs (i + 1)) n = false := eq_false_of_ne_true hb1
    refine z_aload_n C 1 rfl rfl dL_law_283 284 rfl ?_
    refine z_aload_n C 0 rfl rfl dL_law_284 285 rfl ?_
    refine z_iload_n C 3 rfl rfl dL_law_285 286 rfl ?_
    refine z_iconst C (v := nI 1) rfl dL_law_286 287 rfl ?_
    refine z_iadd C dL_law_287 288 rfl ?_
    refine z_xld C hX hbl hbA (by omega) (by omega) dL_law_288 289 rfl ?_
    refine z_aload_n C 0 rfl rfl dL_law_289 290 rfl ?_
    refine z_iload_n C 3 rfl rfl dL_law_290 291 rfl ?_
    refine z_iconst C (v := nI 2) rfl dL_law_291 292 rfl ?_
    refine z_iadd C dL_law_292 293 rfl ?_
    refine z_xld C hX hbl hbA (by omega) (by omega) dL_law_293 294 rfl ?_
    refine z_callV C [.int (xs (i + 1)), .int (xs (i + 2))] [] (tX4_due_ns K.l K.g x bd tr q p h sb sv st r n (xs (i + 1)) (xs (i + 2)) (by first | omega | assumption) hb1) gL_law_X4_due rfl rfl rfl hdX4_due ⟨Nat.le_of_ble_eq_true rfl, Nat.le_of_ble_eq_true rfl⟩ ⟨Nat.le_of_ble_eq_true rfl, Nat.le_of_ble_eq_true rfl⟩ 0 0 rfl rfl rfl [0, 1] rfl rfl (zlc (N := 16) rfl rfl) [16, 17, 2, 3, 4, 5, 6, 7, 8, 9, 10, 11, 12, 13, 14, 15] rfl (by decide) (fun _ : Unit => [wX K.g x bd tr q p h sb sv, wB K.g bd st r n, wB K.g tr ts tq tn, wP K.g q a0 a1 a2 a3 a4 a5 a6 a7 s0 s1 s2 s3 s4 s5 s6 s7 s8 s9, wPd K.g p fb tx len ex pl sh hu du, wB K.g fb fs fr fn, wH K.g h ho kp nx, wB K.g (ho 0) (hs 0) (hr 0) (hm 0), wB K.g (ho 1) (hs 1) (hr 1) (hm 1), wB K.g (ho 2) (hs 2) (hr 2) (hm 2), wB K.g (ho 3) (hs 3) (hr 3) (hm 3), wB K.g (ho 4) (hs 4) (hr 4) (hm 4), wB K.g (ho 5) (hs 5) (hr 5) (hm 5), wB K.g (sb 0) (ss 0) (sr 0) (sn 0), wB K.g (sb 1) (ss 1) (sr 1) (sn 1), wM K.g y all kept hist kp slo sav beg prt frm tx len sp tol rd]) (fun _ => rfl) rfl rfl (Nat.le_of_ble_eq_true rfl) dL_law_294 297 rfl (fun u9 hu9 => ?_)
    show Z K 104 1616 [wX K.g x bd tr q p h sb sv, wB K.g bd st r n, wB K.g tr ts tq tn, wP K.g q a0 a1 a2 a3 a4 a5 a6 a7 s0 s1 s2 s3 s4 s5 s6 s7 s8 s9, wPd K.g p fb tx len ex pl sh hu du, wB K.g fb fs fr fn, wH K.g h ho kp nx, wB K.g (ho 0) (hs 0) (hr 0) (hm 0), wB K.g (ho 1) (hs 1) (hr 1) (hm 1), wB K.g (ho 2) (hs 2) (hr 2) (hm 2), wB K.g (ho 3) (hs 3) (hr 3) (hm 3), wB K.g (ho 4) (hs 4) (hr 4) (hm 4), wB K.g (ho 5) (hs 5) (hr 5) (hm 5), wB K.g (sb 0) (ss 0) (sr 0) (sn 0), wB K.g (sb 1) (ss 1) (sr 1) (sn 1), wM K.g y all kept hist kp slo sav beg prt frm tx len sp tol rd] [(0, .ref b), (1, .ref (x 0)), (2, .ref (y 0)), (3, .int (nI i))] 297 [.int (-1)]
    refine z_aload_n C 2 rfl rfl dL_law_297 298 rfl ?_
    refine z_aload_n C 0 rfl rfl dL_law_298 299 rfl ?_
    refine z_iload_n C 3 rfl rfl dL_law_299 300 rfl ?_
    refine z_iconst C (v := nI 1) rfl dL_law_300 301 rfl ?_
    refine z_iadd C dL_law_301 302 rfl ?_
    refine z_xld C hX hbl hbA (by omega) (by omega) dL_law_302 303 rfl ?_
    refine z_aload_n C 0 rfl rfl dL_law_303 304 rfl ?_
    refine z_iload_n C 3 rfl rfl dL_law_304 305 rfl ?_
    refine z_iconst C (v := nI 2) rfl dL_law_305 306 rfl ?_
    refine z_iadd C dL_law_306 307 rfl ?_
    refine z_xld C hX hbl hbA (by omega) (by omega) dL_law_307 308 rfl ?_
    refine z_callV C [.int (xs (i + 1)), .int (xs (i + 2))] [.int (-1)] (tX5_due_ns K.l K.g y all kept hist kp slo sav beg prt frm tx len sp tol rd st r n (xs (i + 1)) (xs (i + 2)) (by first | omega | assumption) (by first | omega | assumption) hb1) gL_law_X5_due rfl rfl rfl hdX5_due ⟨Nat.le_of_ble_eq_true rfl, Nat.le_of_ble_eq_true rfl⟩ ⟨Nat.le_of_ble_eq_true rfl, Nat.le_of_ble_eq_true rfl⟩ 15 0 rfl rfl rfl [15] rfl rfl (zlc (N := 16) rfl rfl) [0, 1, 2, 3, 4, 5, 6, 7, 8, 9, 10, 11, 12, 13, 14, 16] rfl (by decide) (fun _ : Unit => [wX K.g x bd tr q p h sb sv, wB K.g bd st r n, wB K.g tr ts tq tn, wP K.g q a0 a1 a2 a3 a4 a5 a6 a7 s0 s1 s2 s3 s4 s5 s6 s7 s8 s9, wPd K.g p fb tx len ex pl sh hu du, wB K.g fb fs fr fn, wH K.g h ho kp nx, wB K.g (ho 0) (hs 0) (hr 0) (hm 0), wB K.g (ho 1) (hs 1) (hr 1) (hm 1), wB K.g (ho 2) (hs 2) (hr 2) (hm 2), wB K.g (ho 3) (hs 3) (hr 3) (hm 3), wB K.g (ho 4) (hs 4) (hr 4) (hm 4), wB K.g (ho 5) (hs 5) (hr 5) (hm 5), wB K.g (sb 0) (ss 0) (sr 0) (sn 0), wB K.g (sb 1) (ss 1) (sr 1) (sn 1), wM K.g y all kept hist kp slo sav beg prt frm tx len sp tol rd]) (fun _ => rfl) rfl rfl (Nat.le_of_ble_eq_true rfl) dL_law_308 311 rfl (fun u9 hu9 => ?_)
    show Z K 104 1616 [wX K.g x bd tr q p h sb sv, wB K.g bd st r n, wB K.g tr ts tq tn, wP K.g q a0 a1 a2 a3 a4 a5 a6 a7 s0 s1 s2 s3 s4 s5 s6 s7 s8 s9, wPd K.g p fb tx len ex pl sh hu du, wB K.g fb fs fr fn, wH K.g h ho kp nx, wB K.g (ho 0) (hs 0) (hr 0) (hm 0), wB K.g (ho 1) (hs 1) (hr 1) (hm 1), wB K.g (ho 2) (hs 2) (hr 2) (hm 2), wB K.g (ho 3) (hs 3) (hr 3) (hm 3), wB K.g (ho 4) (hs 4) (hr 4) (hm 4), wB K.g (ho 5) (hs 5) (hr 5) (hm 5), wB K.g (sb 0) (ss 0) (sr 0) (sn 0), wB K.g (sb 1) (ss 1) (sr 1) (sn 1), wM K.g y all kept hist kp slo sav beg prt frm tx len sp tol rd] [(0, .ref b), (1, .ref (x 0)), (2, .ref (y 0)), (3, .int (nI i))] 311 [.int (-1), .int (-1)]
    refine z_icmpI_eq C 648 dL_law_311 (by decide) 314 rfl (fun c9 => ?_) (fun c9 => absurd rfl c9)
    refine z_iinc C hnL 3 rfl (v := nI (i + 5)) (nI_add _ 5) [1, 2, 3, 0] [(0, .ref b), (1, .ref (x 0)), (2, .ref (y 0)), (3, .int (nI (i + 5)))] rfl (Nat.le_of_ble_eq_true rfl) dL_law_648 651 rfl ?_
    refine z_goto C 18 dL_law_651 (by decide) ?_
    exact kk sv st r n ts tq tn a0 a1 a2 a3 a4 a5 a6 a7 s0 s1 s2 s3 s4 s5 s6 s7 s8 s9 tx len ex pl sh hu du fs fr fn kp nx hs hr hm ss sr sn all kept hist slo sav beg prt frm sp tol rd ⟨hG, hB, hH, hSl, hT⟩
  obtain ⟨j, hhi1, ea1⟩ := isJ_i hn hb1
  by_cases hb2 : rg (xs (i + 2)).toInt (Int.ofNat 0) (Int.ofNat 3000) = true
  rotate_left
  · skip
    have hb2 : rg (xs (i + 2)).toInt (Int.ofNat 0) (Int.ofNat 3000) = false := eq_false_of_ne_true hb2
    refine z_aload_n C 1 rfl rfl dL_law_283 284 rfl ?_
    refine z_aload_n C 0 rfl rfl dL_law_284 285 rfl ?_
    refine z_iload_n C 3 rfl rfl dL_law_285 286 rfl ?_
    refine z_iconst C (v := nI 1) rfl dL_law_286 287 rfl ?_
    refine z_iadd C dL_law_287 288 rfl ?_
    refine z_xld C hX hbl hbA (by omega) (by omega) dL_law_288 289 rfl ?_
    refine z_top ea1 ?_
    refine z_aload_n C 0 rfl rfl dL_law_289 290 rfl ?_
    refine z_iload_n C 3 rfl rfl dL_law_290 291 rfl ?_
    refine z_iconst C (v := nI 2) rfl dL_law_291 292 rfl ?_
    refine z_iadd C dL_law_292 293 rfl ?_
    refine z_xld C hX hbl hbA (by omega) (by omega) dL_law_293 294 rfl ?_
    refine z_callV C [.int (nI j), .int (xs (i + 2))] [] (tX4_due_bv K.l K.g x bd tr q p h sb sv st r n j (xs (i + 2)) (by first | omega | assumption) (by first | omega | assumption) hb2) gL_law_X4_due rfl rfl rfl hdX4_due ⟨Nat.le_of_ble_eq_true rfl, Nat.le_of_ble_eq_true rfl⟩ ⟨Nat.le_of_ble_eq_true rfl, Nat.le_of_ble_eq_true rfl⟩ 0 0 rfl rfl rfl [0, 1] rfl rfl (zlc (N := 16) rfl rfl) [16, 17, 2, 3, 4, 5, 6, 7, 8, 9, 10, 11, 12, 13, 14, 15] rfl (by decide) (fun _ : Unit => [wX K.g x bd tr q p h sb sv, wB K.g bd st r n, wB K.g tr ts tq tn, wP K.g q a0 a1 a2 a3 a4 a5 a6 a7 s0 s1 s2 s3 s4 s5 s6 s7 s8 s9, wPd K.g p fb tx len ex pl sh hu du, wB K.g fb fs fr fn, wH K.g h ho kp nx, wB K.g (ho 0) (hs 0) (hr 0) (hm 0), wB K.g (ho 1) (hs 1) (hr 1) (hm 1), wB K.g (ho 2) (hs 2) (hr 2) (hm 2), wB K.g (ho 3) (hs 3) (hr 3) (hm 3), wB K.g (ho 4) (hs 4) (hr 4) (hm 4), wB K.g (ho 5) (hs 5) (hr 5) (hm 5), wB K.g (sb 0) (ss 0) (sr 0) (sn 0), wB K.g (sb 1) (ss 1) (sr 1) (sn 1), wM K.g y all kept hist kp slo sav beg prt frm tx len sp tol rd]) (fun _ => rfl) rfl rfl (Nat.le_of_ble_eq_true rfl) dL_law_294 297 rfl (fun u9 hu9 => ?_)
    show Z K 104 1616 [wX K.g x bd tr q p h sb sv, wB K.g bd st r n, wB K.g tr ts tq tn, wP K.g q a0 a1 a2 a3 a4 a5 a6 a7 s0 s1 s2 s3 s4 s5 s6 s7 s8 s9, wPd K.g p fb tx len ex pl sh hu du, wB K.g fb fs fr fn, wH K.g h ho kp nx, wB K.g (ho 0) (hs 0) (hr 0) (hm 0), wB K.g (ho 1) (hs 1) (hr 1) (hm 1), wB K.g (ho 2) (hs 2) (hr 2) (hm 2), wB K.g (ho 3) (hs 3) (hr 3) (hm 3), wB K.g (ho 4) (hs 4) (hr 4) (hm 4), wB K.g (ho 5) (hs 5) (hr 5) (hm 5), wB K.g (sb 0) (ss 0) (sr 0) (sn 0), wB K.g (sb 1) (ss 1) (sr 1) (sn 1), wM K.g y all kept hist kp slo sav beg prt frm tx len sp tol rd] [(0, .ref b), (1, .ref (x 0)), (2, .ref (y 0)), (3, .int (nI i))] 297 [.int (-2)]
    refine z_aload_n C 2 rfl rfl dL_law_297 298 rfl ?_
    refine z_aload_n C 0 rfl rfl dL_law_298 299 rfl ?_
    refine z_iload_n C 3 rfl rfl dL_law_299 300 rfl ?_
    refine z_iconst C (v := nI 1) rfl dL_law_300 301 rfl ?_
    refine z_iadd C dL_law_301 302 rfl ?_
    refine z_xld C hX hbl hbA (by omega) (by omega) dL_law_302 303 rfl ?_
    refine z_top ea1 ?_
    refine z_aload_n C 0 rfl rfl dL_law_303 304 rfl ?_
    refine z_iload_n C 3 rfl rfl dL_law_304 305 rfl ?_
    refine z_iconst C (v := nI 2) rfl dL_law_305 306 rfl ?_
    refine z_iadd C dL_law_306 307 rfl ?_
    refine z_xld C hX hbl hbA (by omega) (by omega) dL_law_307 308 rfl ?_
    refine z_callV C [.int (nI j), .int (xs (i + 2))] [.int (-2)] (tX5_due_bv K.l K.g y all kept hist kp slo sav beg prt frm tx len sp tol rd st r n j (xs (i + 2)) (by first | omega | assumption) (by first | omega | assumption) (by first | omega | assumption) hb2) gL_law_X5_due rfl rfl rfl hdX5_due ⟨Nat.le_of_ble_eq_true rfl, Nat.le_of_ble_eq_true rfl⟩ ⟨Nat.le_of_ble_eq_true rfl, Nat.le_of_ble_eq_true rfl⟩ 15 0 rfl rfl rfl [15] rfl rfl (zlc (N := 16) rfl rfl) [0, 1, 2, 3, 4, 5, 6, 7, 8, 9, 10, 11, 12, 13, 14, 16] rfl (by decide) (fun _ : Unit => [wX K.g x bd tr q p h sb sv, wB K.g bd st r n, wB K.g tr ts tq tn, wP K.g q a0 a1 a2 a3 a4 a5 a6 a7 s0 s1 s2 s3 s4 s5 s6 s7 s8 s9, wPd K.g p fb tx len ex pl sh hu du, wB K.g fb fs fr fn, wH K.g h ho kp nx, wB K.g (ho 0) (hs 0) (hr 0) (hm 0), wB K.g (ho 1) (hs 1) (hr 1) (hm 1), wB K.g (ho 2) (hs 2) (hr 2) (hm 2), wB K.g (ho 3) (hs 3) (hr 3) (hm 3), wB K.g (ho 4) (hs 4) (hr 4) (hm 4), wB K.g (ho 5) (hs 5) (hr 5) (hm 5), wB K.g (sb 0) (ss 0) (sr 0) (sn 0), wB K.g (sb 1) (ss 1) (sr 1) (sn 1), wM K.g y all kept hist kp slo sav beg prt frm tx len sp tol rd]) (fun _ => rfl) rfl rfl (Nat.le_of_ble_eq_true rfl) dL_law_308 311 rfl (fun u9 hu9 => ?_)
    show Z K 104 1616 [wX K.g x bd tr q p h sb sv, wB K.g bd st r n, wB K.g tr ts tq tn, wP K.g q a0 a1 a2 a3 a4 a5 a6 a7 s0 s1 s2 s3 s4 s5 s6 s7 s8 s9, wPd K.g p fb tx len ex pl sh hu du, wB K.g fb fs fr fn, wH K.g h ho kp nx, wB K.g (ho 0) (hs 0) (hr 0) (hm 0), wB K.g (ho 1) (hs 1) (hr 1) (hm 1), wB K.g (ho 2) (hs 2) (hr 2) (hm 2), wB K.g (ho 3) (hs 3) (hr 3) (hm 3), wB K.g (ho 4) (hs 4) (hr 4) (hm 4), wB K.g (ho 5) (hs 5) (hr 5) (hm 5), wB K.g (sb 0) (ss 0) (sr 0) (sn 0), wB K.g (sb 1) (ss 1) (sr 1) (sn 1), wM K.g y all kept hist kp slo sav beg prt frm tx len sp tol rd] [(0, .ref b), (1, .ref (x 0)), (2, .ref (y 0)), (3, .int (nI i))] 311 [.int (-2), .int (-2)]
    refine z_icmpI_eq C 648 dL_law_311 (by decide) 314 rfl (fun c9 => ?_) (fun c9 => absurd rfl c9)
    refine z_iinc C hnL 3 rfl (v := nI (i + 5)) (nI_add _ 5) [1, 2, 3, 0] [(0, .ref b), (1, .ref (x 0)), (2, .ref (y 0)), (3, .int (nI (i + 5)))] rfl (Nat.le_of_ble_eq_true rfl) dL_law_648 651 rfl ?_
    refine z_goto C 18 dL_law_651 (by decide) ?_
    exact kk sv st r n ts tq tn a0 a1 a2 a3 a4 a5 a6 a7 s0 s1 s2 s3 s4 s5 s6 s7 s8 s9 tx len ex pl sh hu du fs fr fn kp nx hs hr hm ss sr sn all kept hist slo sav beg prt frm sp tol rd ⟨hG, hB, hH, hSl, hT⟩
  obtain ⟨w, hlo2, hhi2, ea2⟩ := rg_nI (lo := 0) (hi := 3000) hb2
  refine z_aload_n C 1 rfl rfl dL_law_283 284 rfl ?_
  refine z_aload_n C 0 rfl rfl dL_law_284 285 rfl ?_
  refine z_iload_n C 3 rfl rfl dL_law_285 286 rfl ?_
  refine z_iconst C (v := nI 1) rfl dL_law_286 287 rfl ?_
  refine z_iadd C dL_law_287 288 rfl ?_
  refine z_xld C hX hbl hbA (by omega) (by omega) dL_law_288 289 rfl ?_
  refine z_top ea1 ?_
  refine z_aload_n C 0 rfl rfl dL_law_289 290 rfl ?_
  refine z_iload_n C 3 rfl rfl dL_law_290 291 rfl ?_
  refine z_iconst C (v := nI 2) rfl dL_law_291 292 rfl ?_
  refine z_iadd C dL_law_292 293 rfl ?_
  refine z_xld C hX hbl hbA (by omega) (by omega) dL_law_293 294 rfl ?_
  refine z_top ea2 ?_
  refine z_callV C [.int (nI j), .int (nI w)] [] (tX4_due_ok K.l K.g x bd tr q p h sb sv a0 a1 a2 a3 a4 a5 a6 a7 s0 s1 s2 s3 s4 s5 s6 s7 s8 s9 st r n ho hs hr hm kp nx j w (by first | omega | assumption) (by first | omega | assumption) (by first | omega | assumption) (by first | omega | assumption) (by first | omega | assumption) (by first | omega | assumption) (by first | omega | assumption) (by first | omega | assumption)) gL_law_X4_due rfl rfl rfl hdX4_due ⟨Nat.le_of_ble_eq_true rfl, Nat.le_of_ble_eq_true rfl⟩ ⟨Nat.le_of_ble_eq_true rfl, Nat.le_of_ble_eq_true rfl⟩ 0 0 rfl rfl rfl [0, 3, 1, 6, 7, 8, 9, 10, 11, 12] rfl rfl (zlc (N := 16) rfl rfl) [16, 18, 2, 17, 4, 5, 19, 20, 21, 22, 23, 24, 25, 13, 14, 15] rfl (by decide) (fun u : (Nat → Nat) × (Nat → Nat) × (Nat → Nat) × (Nat → Nat) × (Nat → Nat) × (Nat → Nat) × (Nat → Nat) × (Nat → Nat) × (Nat) × (Nat) × (Nat) × (Nat) × (Nat) × (Nat) × (Nat) × (Nat) × (Nat) => match u with | (c0, c1, c2, c3, c4, c5, c6, c7, d1, d2, d3, d4, d5, d6, d7, d8, d9) => [wX K.g x bd tr q p h sb sv, wB K.g bd st (un r 3 (un (r 3) j w)) n, wB K.g tr ts tq tn, wP K.g q c0 c1 c2 c3 c4 c5 c6 c7 n d1 d2 d3 d4 d5 d6 d7 d8 d9, wPd K.g p fb tx len ex pl sh hu du, wB K.g fb fs fr fn, wH K.g h ho (min (kp + 1) 6) (if nx = 5 then 0 else nx + 1), wB K.g (ho 0) ((un hs nx st) 0) ((un hr nx r) 0) ((un hm nx n) 0), wB K.g (ho 1) ((un hs nx st) 1) ((un hr nx r) 1) ((un hm nx n) 1), wB K.g (ho 2) ((un hs nx st) 2) ((un hr nx r) 2) ((un hm nx n) 2), wB K.g (ho 3) ((un hs nx st) 3) ((un hr nx r) 3) ((un hm nx n) 3), wB K.g (ho 4) ((un hs nx st) 4) ((un hr nx r) 4) ((un hm nx n) 4), wB K.g (ho 5) ((un hs nx st) 5) ((un hr nx r) 5) ((un hm nx n) 5), wB K.g (sb 0) (ss 0) (sr 0) (sn 0), wB K.g (sb 1) (ss 1) (sr 1) (sn 1), wM K.g y all kept hist kp slo sav beg prt frm tx len sp tol rd]) (fun _ => rfl) rfl rfl (Nat.le_of_ble_eq_true rfl) dL_law_294 297 rfl (fun u9 hu9 => ?_)
  obtain ⟨c0_1, c1_2, c2_3, c3_4, c4_5, c5_6, c6_7, c7_8, d1_9, d2_10, d3_11, d4_12, d5_13, d6_14, d7_15, d8_16, d9_17⟩ := u9
  show Z K 104 1616 [wX K.g x bd tr q p h sb sv, wB K.g bd st (un r 3 (un (r 3) j w)) n, wB K.g tr ts tq tn, wP K.g q c0_1 c1_2 c2_3 c3_4 c4_5 c5_6 c6_7 c7_8 n d1_9 d2_10 d3_11 d4_12 d5_13 d6_14 d7_15 d8_16 d9_17, wPd K.g p fb tx len ex pl sh hu du, wB K.g fb fs fr fn, wH K.g h ho (min (kp + 1) 6) (if nx = 5 then 0 else nx + 1), wB K.g (ho 0) ((un hs nx st) 0) ((un hr nx r) 0) ((un hm nx n) 0), wB K.g (ho 1) ((un hs nx st) 1) ((un hr nx r) 1) ((un hm nx n) 1), wB K.g (ho 2) ((un hs nx st) 2) ((un hr nx r) 2) ((un hm nx n) 2), wB K.g (ho 3) ((un hs nx st) 3) ((un hr nx r) 3) ((un hm nx n) 3), wB K.g (ho 4) ((un hs nx st) 4) ((un hr nx r) 4) ((un hm nx n) 4), wB K.g (ho 5) ((un hs nx st) 5) ((un hr nx r) 5) ((un hm nx n) 5), wB K.g (sb 0) (ss 0) (sr 0) (sn 0), wB K.g (sb 1) (ss 1) (sr 1) (sn 1), wM K.g y all kept hist kp slo sav beg prt frm tx len sp tol rd] [(0, .ref b), (1, .ref (x 0)), (2, .ref (y 0)), (3, .int (nI i))] 297 [.int (nI (PL st (un r 3 (un (r 3) j w)) (st 5) n j))]
  refine z_aload_n C 2 rfl rfl dL_law_297 298 rfl ?_
  refine z_aload_n C 0 rfl rfl dL_law_298 299 rfl ?_
  refine z_iload_n C 3 rfl rfl dL_law_299 300 rfl ?_
  refine z_iconst C (v := nI 1) rfl dL_law_300 301 rfl ?_
  refine z_iadd C dL_law_301 302 rfl ?_
  refine z_xld C hX hbl hbA (by omega) (by omega) dL_law_302 303 rfl ?_
  refine z_top ea1 ?_
  refine z_aload_n C 0 rfl rfl dL_law_303 304 rfl ?_
  refine z_iload_n C 3 rfl rfl dL_law_304 305 rfl ?_
  refine z_iconst C (v := nI 2) rfl dL_law_305 306 rfl ?_
  refine z_iadd C dL_law_306 307 rfl ?_
  refine z_xld C hX hbl hbA (by omega) (by omega) dL_law_307 308 rfl ?_
  refine z_top ea2 ?_
  refine z_callV C [.int (nI j), .int (nI w)] [.int (nI (PL st (un r 3 (un (r 3) j w)) (st 5) n j))] (tX5_due_ok K.l K.g y all kept hist kp slo sav beg prt frm tx len sp tol rd st r n j w (by first | omega | assumption) (by first | omega | assumption) (by first | omega | assumption) (by first | omega | assumption) (by first | omega | assumption) (by first | omega | assumption) (by first | omega | assumption) (by first | omega | assumption)) gL_law_X5_due rfl rfl rfl hdX5_due ⟨Nat.le_of_ble_eq_true rfl, Nat.le_of_ble_eq_true rfl⟩ ⟨Nat.le_of_ble_eq_true rfl, Nat.le_of_ble_eq_true rfl⟩ 15 0 rfl rfl rfl [15] rfl rfl (zlc (N := 16) rfl rfl) [0, 1, 2, 3, 4, 5, 6, 7, 8, 9, 10, 11, 12, 13, 14, 16] rfl (by decide) (fun u : (Nat → Nat) × (Nat → Nat) × (Nat) × (Nat → Nat) × (Nat → Nat) => match u with | (all2, hist2, hl2, beg2, prt2) => [wX K.g x bd tr q p h sb sv, wB K.g bd st (un r 3 (un (r 3) j w)) n, wB K.g tr ts tq tn, wP K.g q c0_1 c1_2 c2_3 c3_4 c4_5 c5_6 c6_7 c7_8 n d1_9 d2_10 d3_11 d4_12 d5_13 d6_14 d7_15 d8_16 d9_17, wPd K.g p fb tx len ex pl sh hu du, wB K.g fb fs fr fn, wH K.g h ho (min (kp + 1) 6) (if nx = 5 then 0 else nx + 1), wB K.g (ho 0) ((un hs nx st) 0) ((un hr nx r) 0) ((un hm nx n) 0), wB K.g (ho 1) ((un hs nx st) 1) ((un hr nx r) 1) ((un hm nx n) 1), wB K.g (ho 2) ((un hs nx st) 2) ((un hr nx r) 2) ((un hm nx n) 2), wB K.g (ho 3) ((un hs nx st) 3) ((un hr nx r) 3) ((un hm nx n) 3), wB K.g (ho 4) ((un hs nx st) 4) ((un hr nx r) 4) ((un hm nx n) 4), wB K.g (ho 5) ((un hs nx st) 5) ((un hr nx r) 5) ((un hm nx n) 5), wB K.g (sb 0) (ss 0) (sr 0) (sn 0), wB K.g (sb 1) (ss 1) (sr 1) (sn 1), wM K.g y all2 kept hist2 hl2 slo sav beg2 prt2 frm tx len sp tol rd]) (fun _ => rfl) rfl rfl (Nat.le_of_ble_eq_true rfl) dL_law_308 311 rfl (fun u9 hu9 => ?_)
  obtain ⟨al2, hi2, hl9, bg2, pr2⟩ := u9
  obtain ⟨hB2, hC⟩ := hu9
  have hB2 : Bd al2 st (un r 3 (un (r 3) j w)) n := hB2
  have hC : HCh all hist kp hi2 hl9 := hC
  show Z K 104 1616 [wX K.g x bd tr q p h sb sv, wB K.g bd st (un r 3 (un (r 3) j w)) n, wB K.g tr ts tq tn, wP K.g q c0_1 c1_2 c2_3 c3_4 c4_5 c5_6 c6_7 c7_8 n d1_9 d2_10 d3_11 d4_12 d5_13 d6_14 d7_15 d8_16 d9_17, wPd K.g p fb tx len ex pl sh hu du, wB K.g fb fs fr fn, wH K.g h ho (min (kp + 1) 6) (if nx = 5 then 0 else nx + 1), wB K.g (ho 0) ((un hs nx st) 0) ((un hr nx r) 0) ((un hm nx n) 0), wB K.g (ho 1) ((un hs nx st) 1) ((un hr nx r) 1) ((un hm nx n) 1), wB K.g (ho 2) ((un hs nx st) 2) ((un hr nx r) 2) ((un hm nx n) 2), wB K.g (ho 3) ((un hs nx st) 3) ((un hr nx r) 3) ((un hm nx n) 3), wB K.g (ho 4) ((un hs nx st) 4) ((un hr nx r) 4) ((un hm nx n) 4), wB K.g (ho 5) ((un hs nx st) 5) ((un hr nx r) 5) ((un hm nx n) 5), wB K.g (sb 0) (ss 0) (sr 0) (sn 0), wB K.g (sb 1) (ss 1) (sr 1) (sn 1), wM K.g y al2 kept hi2 hl9 slo sav bg2 pr2 frm tx len sp tol rd] [(0, .ref b), (1, .ref (x 0)), (2, .ref (y 0)), (3, .int (nI i))] 311 [.int (nI (PL st (un r 3 (un (r 3) j w)) (st 5) n j)), .int (nI (PL st (un r 3 (un (r 3) j w)) (st 5) n j))]
  refine z_icmpI_eq C 648 dL_law_311 (by decide) 314 rfl (fun c9 => ?_) (fun c9 => absurd rfl c9)
  refine z_iinc C hnL 3 rfl (v := nI (i + 5)) (nI_add _ 5) [1, 2, 3, 0] [(0, .ref b), (1, .ref (x 0)), (2, .ref (y 0)), (3, .int (nI (i + 5)))] rfl (Nat.le_of_ble_eq_true rfl) dL_law_648 651 rfl ?_
  refine z_goto C 18 dL_law_651 (by decide) ?_
  have hPush := IH_push hH hG hB hC
  obtain rfl := hPush.1
  exact kk sv st (un r 3 (un (r 3) j w)) n ts tq tn c0_1 c1_2 c2_3 c3_4 c4_5 c5_6 c6_7 c7_8 n d1_9 d2_10 d3_11 d4_12 d5_13 d6_14 d7_15 d8_16 d9_17 tx len ex pl sh hu du fs fr fn (min (kp + 1) 6) (if nx = 5 then 0 else nx + 1) (un hs nx st) (un hr nx r) (un hm nx n) ss sr sn al2 kept hi2 slo sav bg2 pr2 frm sp tol rd ⟨⟨hn, hS, okJ_due hJ hhi2, fun j hj => hR j hj⟩, hB2, hPush.2, hSl, hT⟩

set_option maxHeartbeats 4000000 in
set_option maxRecDepth 100000 in
theorem lb_order {K : zK} (C : Cx K room_1 RL cL_law wsL_law) (hnL : K.nL = 4) (b : Nat) (x bd tr q p fb h : Nat → Nat) (ho sb : Nat → Nat → Nat) (y : Nat → Nat) (L : Nat) (xs : Nat → Int32) (i : Nat) (hLH : LH K b L xs) (hiL : i + 5 ≤ L) (kk : LI K b x bd tr q p fb h ho sb y (i + 5)) (sv : Nat → Bool) (st : Nat → Nat) (r : Nat → Nat → Nat) (n : Nat) (ts : Nat → Nat) (tq : Nat → Nat → Nat) (tn : Nat) (a0 : Nat → Nat) (a1 : Nat → Nat) (a2 : Nat → Nat) (a3 : Nat → Nat) (a4 : Nat → Nat) (a5 : Nat → Nat) (a6 : Nat → Nat) (a7 : Nat → Nat) (s0 : Nat) (s1 : Nat) (s2 : Nat) (s3 : Nat) (s4 : Nat) (s5 : Nat) (s6 : Nat) (s7 : Nat) (s8 : Nat) (s9 : Nat) (tx : Nat → Nat) (len : Nat) (ex : Nat) (pl : Int32) (sh : Int32) (hu : Int32) (du : Int32) (fs : Nat → Nat) (fr : Nat → Nat → Nat) (fn : Nat) (kp : Nat) (nx : Nat) (hs : Nat → Nat → Nat) (hr : Nat → Nat → Nat → Nat) (hm : Nat → Nat) (ss : Nat → Nat → Nat) (sr : Nat → Nat → Nat → Nat) (sn : Nat → Nat) (all : Nat → Nat) (kept : Nat → Nat) (hist : Nat → Nat) (slo : Nat → Nat) (sav : Nat → Nat) (beg : Nat → Nat) (prt : Nat → Nat) (frm : Nat → Nat) (sp : Nat) (tol : Nat → Nat) (rd : Nat) (hI : IV sv st r n tx len kp nx hs hr hm ss sr sn all hist slo sav) : Z K 104 1616 [wX K.g x bd tr q p h sb sv, wB K.g bd st r n, wB K.g tr ts tq tn, wP K.g q a0 a1 a2 a3 a4 a5 a6 a7 s0 s1 s2 s3 s4 s5 s6 s7 s8 s9, wPd K.g p fb tx len ex pl sh hu du, wB K.g fb fs fr fn, wH K.g h ho kp nx, wB K.g (ho 0) (hs 0) (hr 0) (hm 0), wB K.g (ho 1) (hs 1) (hr 1) (hm 1), wB K.g (ho 2) (hs 2) (hr 2) (hm 2), wB K.g (ho 3) (hs 3) (hr 3) (hm 3), wB K.g (ho 4) (hs 4) (hr 4) (hm 4), wB K.g (ho 5) (hs 5) (hr 5) (hm 5), wB K.g (sb 0) (ss 0) (sr 0) (sn 0), wB K.g (sb 1) (ss 1) (sr 1) (sn 1), wM K.g y all kept hist kp slo sav beg prt frm tx len sp tol rd] [(0, .ref b), (1, .ref (x 0)), (2, .ref (y 0)), (3, .int (nI i))] 316 [] := by
  obtain ⟨hX, hbl, hbA, hL, heSet, heOrd⟩ := hLH
  obtain ⟨hG, hB, hH, hSl, hT⟩ := hI
  obtain ⟨hn, hS, hJ, hR⟩ := id hG
  have hk := hH.1
  have hx := hH.2.1
  have hl := hT.1
  have ht := hT.2
  by_cases hb1 : rg (xs (i + 1)).toInt (Int.ofNat 0) (Int.ofNat 3) = true
  rotate_left
  · skip
    have hb1 : rg (xs (i + 1)).toInt (Int.ofNat 0) (Int.ofNat 3) = false := eq_false_of_ne_true hb1
    refine z_aload_n C 1 rfl rfl dL_law_316 317 rfl ?_
    refine z_aload_n C 0 rfl rfl dL_law_317 318 rfl ?_
    refine z_iload_n C 3 rfl rfl dL_law_318 319 rfl ?_
    refine z_iconst C (v := nI 1) rfl dL_law_319 320 rfl ?_
    refine z_iadd C dL_law_320 321 rfl ?_
    refine z_xld C hX hbl hbA (by omega) (by omega) dL_law_321 322 rfl ?_
    refine z_callVE (E := eOrd) (fun _ _ _ e e2 h => eOrd.same e e2 h) (fun _ _ _ hS9 hW9 hAB => eOrd.later heOrd hS9 hW9 hAB) C [.int (xs (i + 1))] [] (tX4_order_bv K.l K.g x bd tr q p h sb sv (xs (i + 1)) hb1) gL_law_X4_order rfl rfl rfl hdX4_order ⟨Nat.le_of_ble_eq_true rfl, Nat.le_of_ble_eq_true rfl⟩ ⟨Nat.le_of_ble_eq_true rfl, Nat.le_of_ble_eq_true rfl⟩ 0 0 rfl rfl rfl [0] rfl rfl (zlc (N := 16) rfl rfl) [16, 1, 2, 3, 4, 5, 6, 7, 8, 9, 10, 11, 12, 13, 14, 15] rfl (by decide) (fun _ : Unit => [wX K.g x bd tr q p h sb sv, wB K.g bd st r n, wB K.g tr ts tq tn, wP K.g q a0 a1 a2 a3 a4 a5 a6 a7 s0 s1 s2 s3 s4 s5 s6 s7 s8 s9, wPd K.g p fb tx len ex pl sh hu du, wB K.g fb fs fr fn, wH K.g h ho kp nx, wB K.g (ho 0) (hs 0) (hr 0) (hm 0), wB K.g (ho 1) (hs 1) (hr 1) (hm 1), wB K.g (ho 2) (hs 2) (hr 2) (hm 2), wB K.g (ho 3) (hs 3) (hr 3) (hm 3), wB K.g (ho 4) (hs 4) (hr 4) (hm 4), wB K.g (ho 5) (hs 5) (hr 5) (hm 5), wB K.g (sb 0) (ss 0) (sr 0) (sn 0), wB K.g (sb 1) (ss 1) (sr 1) (sn 1), wM K.g y all kept hist kp slo sav beg prt frm tx len sp tol rd]) (fun _ => rfl) rfl rfl (Nat.le_of_ble_eq_true rfl) dL_law_322 325 rfl (fun u9 hu9 => ?_)
    show Z K 104 1616 [wX K.g x bd tr q p h sb sv, wB K.g bd st r n, wB K.g tr ts tq tn, wP K.g q a0 a1 a2 a3 a4 a5 a6 a7 s0 s1 s2 s3 s4 s5 s6 s7 s8 s9, wPd K.g p fb tx len ex pl sh hu du, wB K.g fb fs fr fn, wH K.g h ho kp nx, wB K.g (ho 0) (hs 0) (hr 0) (hm 0), wB K.g (ho 1) (hs 1) (hr 1) (hm 1), wB K.g (ho 2) (hs 2) (hr 2) (hm 2), wB K.g (ho 3) (hs 3) (hr 3) (hm 3), wB K.g (ho 4) (hs 4) (hr 4) (hm 4), wB K.g (ho 5) (hs 5) (hr 5) (hm 5), wB K.g (sb 0) (ss 0) (sr 0) (sn 0), wB K.g (sb 1) (ss 1) (sr 1) (sn 1), wM K.g y all kept hist kp slo sav beg prt frm tx len sp tol rd] [(0, .ref b), (1, .ref (x 0)), (2, .ref (y 0)), (3, .int (nI i))] 325 [.int (-2)]
    refine z_aload_n C 2 rfl rfl dL_law_325 326 rfl ?_
    refine z_aload_n C 0 rfl rfl dL_law_326 327 rfl ?_
    refine z_iload_n C 3 rfl rfl dL_law_327 328 rfl ?_
    refine z_iconst C (v := nI 1) rfl dL_law_328 329 rfl ?_
    refine z_iadd C dL_law_329 330 rfl ?_
    refine z_xld C hX hbl hbA (by omega) (by omega) dL_law_330 331 rfl ?_
    refine z_callV C [.int (xs (i + 1))] [.int (-2)] (tX5_order_bv K.l K.g y all kept hist kp slo sav beg prt frm tx len sp tol rd (xs (i + 1)) hb1) gL_law_X5_order rfl rfl rfl hdX5_order ⟨Nat.le_of_ble_eq_true rfl, Nat.le_of_ble_eq_true rfl⟩ ⟨Nat.le_of_ble_eq_true rfl, Nat.le_of_ble_eq_true rfl⟩ 15 0 rfl rfl rfl [15] rfl rfl (zlc (N := 16) rfl rfl) [0, 1, 2, 3, 4, 5, 6, 7, 8, 9, 10, 11, 12, 13, 14, 16] rfl (by decide) (fun _ : Unit => [wX K.g x bd tr q p h sb sv, wB K.g bd st r n, wB K.g tr ts tq tn, wP K.g q a0 a1 a2 a3 a4 a5 a6 a7 s0 s1 s2 s3 s4 s5 s6 s7 s8 s9, wPd K.g p fb tx len ex pl sh hu du, wB K.g fb fs fr fn, wH K.g h ho kp nx, wB K.g (ho 0) (hs 0) (hr 0) (hm 0), wB K.g (ho 1) (hs 1) (hr 1) (hm 1), wB K.g (ho 2) (hs 2) (hr 2) (hm 2), wB K.g (ho 3) (hs 3) (hr 3) (hm 3), wB K.g (ho 4) (hs 4) (hr 4) (hm 4), wB K.g (ho 5) (hs 5) (hr 5) (hm 5), wB K.g (sb 0) (ss 0) (sr 0) (sn 0), wB K.g (sb 1) (ss 1) (sr 1) (sn 1), wM K.g y all kept hist kp slo sav beg prt frm tx len sp tol rd]) (fun _ => rfl) rfl rfl (Nat.le_of_ble_eq_true rfl) dL_law_331 334 rfl (fun u9 hu9 => ?_)
    show Z K 104 1616 [wX K.g x bd tr q p h sb sv, wB K.g bd st r n, wB K.g tr ts tq tn, wP K.g q a0 a1 a2 a3 a4 a5 a6 a7 s0 s1 s2 s3 s4 s5 s6 s7 s8 s9, wPd K.g p fb tx len ex pl sh hu du, wB K.g fb fs fr fn, wH K.g h ho kp nx, wB K.g (ho 0) (hs 0) (hr 0) (hm 0), wB K.g (ho 1) (hs 1) (hr 1) (hm 1), wB K.g (ho 2) (hs 2) (hr 2) (hm 2), wB K.g (ho 3) (hs 3) (hr 3) (hm 3), wB K.g (ho 4) (hs 4) (hr 4) (hm 4), wB K.g (ho 5) (hs 5) (hr 5) (hm 5), wB K.g (sb 0) (ss 0) (sr 0) (sn 0), wB K.g (sb 1) (ss 1) (sr 1) (sn 1), wM K.g y all kept hist kp slo sav beg prt frm tx len sp tol rd] [(0, .ref b), (1, .ref (x 0)), (2, .ref (y 0)), (3, .int (nI i))] 334 [.int (-2), .int (-2)]
    refine z_icmpI_eq C 648 dL_law_334 (by decide) 337 rfl (fun c9 => ?_) (fun c9 => absurd rfl c9)
    refine z_iinc C hnL 3 rfl (v := nI (i + 5)) (nI_add _ 5) [1, 2, 3, 0] [(0, .ref b), (1, .ref (x 0)), (2, .ref (y 0)), (3, .int (nI (i + 5)))] rfl (Nat.le_of_ble_eq_true rfl) dL_law_648 651 rfl ?_
    refine z_goto C 18 dL_law_651 (by decide) ?_
    exact kk sv st r n ts tq tn a0 a1 a2 a3 a4 a5 a6 a7 s0 s1 s2 s3 s4 s5 s6 s7 s8 s9 tx len ex pl sh hu du fs fr fn kp nx hs hr hm ss sr sn all kept hist slo sav beg prt frm sp tol rd ⟨hG, hB, hH, hSl, hT⟩
  obtain ⟨k, hlo1, hhi1, ea1⟩ := rg_nI (lo := 0) (hi := 3) hb1
  refine z_aload_n C 1 rfl rfl dL_law_316 317 rfl ?_
  refine z_aload_n C 0 rfl rfl dL_law_317 318 rfl ?_
  refine z_iload_n C 3 rfl rfl dL_law_318 319 rfl ?_
  refine z_iconst C (v := nI 1) rfl dL_law_319 320 rfl ?_
  refine z_iadd C dL_law_320 321 rfl ?_
  refine z_xld C hX hbl hbA (by omega) (by omega) dL_law_321 322 rfl ?_
  refine z_top ea1 ?_
  refine z_callVE (E := eOrd) (fun _ _ _ e e2 h => eOrd.same e e2 h) (fun _ _ _ hS9 hW9 hAB => eOrd.later heOrd hS9 hW9 hAB) C [.int (nI k)] [] (tX4_order_ok K.l K.g x bd tr q p h sb sv st r n ts tq tn ho hs hr hm kp nx k (by first | omega | assumption) (by first | omega | assumption) (by first | omega | assumption) (by first | omega | assumption) (by first | omega | assumption) (by first | omega | assumption) (by first | omega | assumption)) gL_law_X4_order rfl rfl rfl hdX4_order ⟨Nat.le_of_ble_eq_true rfl, Nat.le_of_ble_eq_true rfl⟩ ⟨Nat.le_of_ble_eq_true rfl, Nat.le_of_ble_eq_true rfl⟩ 0 0 rfl rfl rfl [0, 1, 2, 6, 7, 8, 9, 10, 11, 12] rfl rfl (zlc (N := 16) rfl rfl) [16, 17, 18, 3, 4, 5, 19, 20, 21, 22, 23, 24, 25, 13, 14, 15] rfl (by decide) (fun _ : Unit => [wX K.g x bd tr q p h sb sv, wB K.g bd st (arR r (plc (r (foR k)) n) n) n, wB K.g tr st (arR r (plc (r (foR k)) n) n) n, wP K.g q a0 a1 a2 a3 a4 a5 a6 a7 s0 s1 s2 s3 s4 s5 s6 s7 s8 s9, wPd K.g p fb tx len ex pl sh hu du, wB K.g fb fs fr fn, wH K.g h ho (min (kp + 1) 6) (if nx = 5 then 0 else nx + 1), wB K.g (ho 0) ((un hs nx st) 0) ((un hr nx r) 0) ((un hm nx n) 0), wB K.g (ho 1) ((un hs nx st) 1) ((un hr nx r) 1) ((un hm nx n) 1), wB K.g (ho 2) ((un hs nx st) 2) ((un hr nx r) 2) ((un hm nx n) 2), wB K.g (ho 3) ((un hs nx st) 3) ((un hr nx r) 3) ((un hm nx n) 3), wB K.g (ho 4) ((un hs nx st) 4) ((un hr nx r) 4) ((un hm nx n) 4), wB K.g (ho 5) ((un hs nx st) 5) ((un hr nx r) 5) ((un hm nx n) 5), wB K.g (sb 0) (ss 0) (sr 0) (sn 0), wB K.g (sb 1) (ss 1) (sr 1) (sn 1), wM K.g y all kept hist kp slo sav beg prt frm tx len sp tol rd]) (fun _ => rfl) rfl rfl (Nat.le_of_ble_eq_true rfl) dL_law_322 325 rfl (fun u9 hu9 => ?_)
  show Z K 104 1616 [wX K.g x bd tr q p h sb sv, wB K.g bd st (arR r (plc (r (foR k)) n) n) n, wB K.g tr st (arR r (plc (r (foR k)) n) n) n, wP K.g q a0 a1 a2 a3 a4 a5 a6 a7 s0 s1 s2 s3 s4 s5 s6 s7 s8 s9, wPd K.g p fb tx len ex pl sh hu du, wB K.g fb fs fr fn, wH K.g h ho (min (kp + 1) 6) (if nx = 5 then 0 else nx + 1), wB K.g (ho 0) ((un hs nx st) 0) ((un hr nx r) 0) ((un hm nx n) 0), wB K.g (ho 1) ((un hs nx st) 1) ((un hr nx r) 1) ((un hm nx n) 1), wB K.g (ho 2) ((un hs nx st) 2) ((un hr nx r) 2) ((un hm nx n) 2), wB K.g (ho 3) ((un hs nx st) 3) ((un hr nx r) 3) ((un hm nx n) 3), wB K.g (ho 4) ((un hs nx st) 4) ((un hr nx r) 4) ((un hm nx n) 4), wB K.g (ho 5) ((un hs nx st) 5) ((un hr nx r) 5) ((un hm nx n) 5), wB K.g (sb 0) (ss 0) (sr 0) (sn 0), wB K.g (sb 1) (ss 1) (sr 1) (sn 1), wM K.g y all kept hist kp slo sav beg prt frm tx len sp tol rd] [(0, .ref b), (1, .ref (x 0)), (2, .ref (y 0)), (3, .int (nI i))] 325 [.int (nI (ct (fun y => decide (plc (r (foR k)) n y ≠ y)) n))]
  refine z_aload_n C 2 rfl rfl dL_law_325 326 rfl ?_
  refine z_aload_n C 0 rfl rfl dL_law_326 327 rfl ?_
  refine z_iload_n C 3 rfl rfl dL_law_327 328 rfl ?_
  refine z_iconst C (v := nI 1) rfl dL_law_328 329 rfl ?_
  refine z_iadd C dL_law_329 330 rfl ?_
  refine z_xld C hX hbl hbA (by omega) (by omega) dL_law_330 331 rfl ?_
  refine z_top ea1 ?_
  refine z_callV C [.int (nI k)] [.int (nI (ct (fun y => decide (plc (r (foR k)) n y ≠ y)) n))] (tX5_order_ok K.l K.g y all kept hist kp slo sav beg prt frm tx len sp tol rd st r n k (by first | omega | assumption) (by first | omega | assumption) (by first | omega | assumption) (by first | omega | assumption) (by first | omega | assumption)) gL_law_X5_order rfl rfl rfl hdX5_order ⟨Nat.le_of_ble_eq_true rfl, Nat.le_of_ble_eq_true rfl⟩ ⟨Nat.le_of_ble_eq_true rfl, Nat.le_of_ble_eq_true rfl⟩ 15 0 rfl rfl rfl [15] rfl rfl (zlc (N := 16) rfl rfl) [0, 1, 2, 3, 4, 5, 6, 7, 8, 9, 10, 11, 12, 13, 14, 16] rfl (by decide) (fun u : (Nat → Nat) × (Nat → Nat) × (Nat) × (Nat → Nat) => match u with | (all2, hist2, hl2, frm2) => [wX K.g x bd tr q p h sb sv, wB K.g bd st (arR r (plc (r (foR k)) n) n) n, wB K.g tr st (arR r (plc (r (foR k)) n) n) n, wP K.g q a0 a1 a2 a3 a4 a5 a6 a7 s0 s1 s2 s3 s4 s5 s6 s7 s8 s9, wPd K.g p fb tx len ex pl sh hu du, wB K.g fb fs fr fn, wH K.g h ho (min (kp + 1) 6) (if nx = 5 then 0 else nx + 1), wB K.g (ho 0) ((un hs nx st) 0) ((un hr nx r) 0) ((un hm nx n) 0), wB K.g (ho 1) ((un hs nx st) 1) ((un hr nx r) 1) ((un hm nx n) 1), wB K.g (ho 2) ((un hs nx st) 2) ((un hr nx r) 2) ((un hm nx n) 2), wB K.g (ho 3) ((un hs nx st) 3) ((un hr nx r) 3) ((un hm nx n) 3), wB K.g (ho 4) ((un hs nx st) 4) ((un hr nx r) 4) ((un hm nx n) 4), wB K.g (ho 5) ((un hs nx st) 5) ((un hr nx r) 5) ((un hm nx n) 5), wB K.g (sb 0) (ss 0) (sr 0) (sn 0), wB K.g (sb 1) (ss 1) (sr 1) (sn 1), wM K.g y all2 kept hist2 hl2 slo sav beg prt frm2 tx len sp tol rd]) (fun _ => rfl) rfl rfl (Nat.le_of_ble_eq_true rfl) dL_law_331 334 rfl (fun u9 hu9 => ?_)
  obtain ⟨al2, hi2, hl9, fm2⟩ := u9
  obtain ⟨hB2, hC⟩ := hu9
  have hB2 : Bd al2 st (oR r (foR k) n) n := hB2
  have hC : HCh all hist kp hi2 hl9 := hC
  show Z K 104 1616 [wX K.g x bd tr q p h sb sv, wB K.g bd st (arR r (plc (r (foR k)) n) n) n, wB K.g tr st (arR r (plc (r (foR k)) n) n) n, wP K.g q a0 a1 a2 a3 a4 a5 a6 a7 s0 s1 s2 s3 s4 s5 s6 s7 s8 s9, wPd K.g p fb tx len ex pl sh hu du, wB K.g fb fs fr fn, wH K.g h ho (min (kp + 1) 6) (if nx = 5 then 0 else nx + 1), wB K.g (ho 0) ((un hs nx st) 0) ((un hr nx r) 0) ((un hm nx n) 0), wB K.g (ho 1) ((un hs nx st) 1) ((un hr nx r) 1) ((un hm nx n) 1), wB K.g (ho 2) ((un hs nx st) 2) ((un hr nx r) 2) ((un hm nx n) 2), wB K.g (ho 3) ((un hs nx st) 3) ((un hr nx r) 3) ((un hm nx n) 3), wB K.g (ho 4) ((un hs nx st) 4) ((un hr nx r) 4) ((un hm nx n) 4), wB K.g (ho 5) ((un hs nx st) 5) ((un hr nx r) 5) ((un hm nx n) 5), wB K.g (sb 0) (ss 0) (sr 0) (sn 0), wB K.g (sb 1) (ss 1) (sr 1) (sn 1), wM K.g y al2 kept hi2 hl9 slo sav beg prt fm2 tx len sp tol rd] [(0, .ref b), (1, .ref (x 0)), (2, .ref (y 0)), (3, .int (nI i))] 334 [.int (nI (ct (fun y => decide (plc (r (foR k)) n y ≠ y)) n)), .int (nI (ct (fun y => decide (plc (r (foR k)) n y ≠ y)) n))]
  refine z_icmpI_eq C 648 dL_law_334 (by decide) 337 rfl (fun c9 => ?_) (fun c9 => absurd rfl c9)
  refine z_iinc C hnL 3 rfl (v := nI (i + 5)) (nI_add _ 5) [1, 2, 3, 0] [(0, .ref b), (1, .ref (x 0)), (2, .ref (y 0)), (3, .int (nI (i + 5)))] rfl (Nat.le_of_ble_eq_true rfl) dL_law_648 651 rfl ?_
  refine z_goto C 18 dL_law_651 (by decide) ?_
  have hPush := IH_push hH hG hB hC
  obtain rfl := hPush.1
  exact kk sv st (arR r (plc (r (foR k)) n) n) n st (arR r (plc (r (foR k)) n) n) n a0 a1 a2 a3 a4 a5 a6 a7 s0 s1 s2 s3 s4 s5 s6 s7 s8 s9 tx len ex pl sh hu du fs fr fn (min (kp + 1) 6) (if nx = 5 then 0 else nx + 1) (un hs nx st) (un hr nx r) (un hm nx n) ss sr sn al2 kept hi2 slo sav beg prt fm2 sp tol rd ⟨⟨hn, hS, okJ_oR hJ, okR_oR hR⟩, hB2, hPush.2, hSl, hT⟩

set_option maxHeartbeats 4000000 in
set_option maxRecDepth 100000 in
theorem lb_put {K : zK} (C : Cx K room_1 RL cL_law wsL_law) (hnL : K.nL = 4) (b : Nat) (x bd tr q p fb h : Nat → Nat) (ho sb : Nat → Nat → Nat) (y : Nat → Nat) (L : Nat) (xs : Nat → Int32) (i : Nat) (hLH : LH K b L xs) (hiL : i + 5 ≤ L) (kk : LI K b x bd tr q p fb h ho sb y (i + 5)) (sv : Nat → Bool) (st : Nat → Nat) (r : Nat → Nat → Nat) (n : Nat) (ts : Nat → Nat) (tq : Nat → Nat → Nat) (tn : Nat) (a0 : Nat → Nat) (a1 : Nat → Nat) (a2 : Nat → Nat) (a3 : Nat → Nat) (a4 : Nat → Nat) (a5 : Nat → Nat) (a6 : Nat → Nat) (a7 : Nat → Nat) (s0 : Nat) (s1 : Nat) (s2 : Nat) (s3 : Nat) (s4 : Nat) (s5 : Nat) (s6 : Nat) (s7 : Nat) (s8 : Nat) (s9 : Nat) (tx : Nat → Nat) (len : Nat) (ex : Nat) (pl : Int32) (sh : Int32) (hu : Int32) (du : Int32) (fs : Nat → Nat) (fr : Nat → Nat → Nat) (fn : Nat) (kp : Nat) (nx : Nat) (hs : Nat → Nat → Nat) (hr : Nat → Nat → Nat → Nat) (hm : Nat → Nat) (ss : Nat → Nat → Nat) (sr : Nat → Nat → Nat → Nat) (sn : Nat → Nat) (all : Nat → Nat) (kept : Nat → Nat) (hist : Nat → Nat) (slo : Nat → Nat) (sav : Nat → Nat) (beg : Nat → Nat) (prt : Nat → Nat) (frm : Nat → Nat) (sp : Nat) (tol : Nat → Nat) (rd : Nat) (hI : IV sv st r n tx len kp nx hs hr hm ss sr sn all hist slo sav) : Z K 104 1616 [wX K.g x bd tr q p h sb sv, wB K.g bd st r n, wB K.g tr ts tq tn, wP K.g q a0 a1 a2 a3 a4 a5 a6 a7 s0 s1 s2 s3 s4 s5 s6 s7 s8 s9, wPd K.g p fb tx len ex pl sh hu du, wB K.g fb fs fr fn, wH K.g h ho kp nx, wB K.g (ho 0) (hs 0) (hr 0) (hm 0), wB K.g (ho 1) (hs 1) (hr 1) (hm 1), wB K.g (ho 2) (hs 2) (hr 2) (hm 2), wB K.g (ho 3) (hs 3) (hr 3) (hm 3), wB K.g (ho 4) (hs 4) (hr 4) (hm 4), wB K.g (ho 5) (hs 5) (hr 5) (hm 5), wB K.g (sb 0) (ss 0) (sr 0) (sn 0), wB K.g (sb 1) (ss 1) (sr 1) (sn 1), wM K.g y all kept hist kp slo sav beg prt frm tx len sp tol rd] [(0, .ref b), (1, .ref (x 0)), (2, .ref (y 0)), (3, .int (nI i))] 510 [] := by
  obtain ⟨hX, hbl, hbA, hL, heSet, heOrd⟩ := hLH
  obtain ⟨hG, hB, hH, hSl, hT⟩ := hI
  obtain ⟨hn, hS, hJ, hR⟩ := id hG
  have hk := hH.1
  have hx := hH.2.1
  have hl := hT.1
  have ht := hT.2
  refine z_aload_n C 1 rfl rfl dL_law_510 511 rfl ?_
  refine z_aload_n C 0 rfl rfl dL_law_511 512 rfl ?_
  refine z_iload_n C 3 rfl rfl dL_law_512 513 rfl ?_
  refine z_iconst C (v := nI 1) rfl dL_law_513 514 rfl ?_
  refine z_iadd C dL_law_514 515 rfl ?_
  refine z_xld C hX hbl hbA (by omega) (by omega) dL_law_515 516 rfl ?_
  refine z_i2l C dL_law_516 517 rfl ?_
  refine z_bipush C (v := nI 32) rfl dL_law_517 519 rfl ?_
  refine z_lshl C dL_law_519 520 rfl ?_
  refine z_aload_n C 0 rfl rfl dL_law_520 521 rfl ?_
  refine z_iload_n C 3 rfl rfl dL_law_521 522 rfl ?_
  refine z_iconst C (v := nI 2) rfl dL_law_522 523 rfl ?_
  refine z_iadd C dL_law_523 524 rfl ?_
  refine z_xld C hX hbl hbA (by omega) (by omega) dL_law_524 525 rfl ?_
  refine z_i2l C dL_law_525 526 rfl ?_
  refine z_ldc2 C (v := lN 4294967295) (List.mem_of_getElem? (i := 6) rfl) dL_law_526 529 rfl ?_
  refine z_land C dL_law_529 530 rfl ?_
  refine z_lor C dL_law_530 531 rfl ?_
  obtain ⟨w, hw, ew⟩ := wb_of ((((xs (i + 1)).toInt64) <<< ((nI 32).toInt64 &&& 63)) ||| (((xs (i + 2)).toInt64) &&& (lN 4294967295)))
  have ha8 := chF_le 8 0 w
  refine z_topL ew ?_
  by_cases hq_b : chF 0 8 w = 0
  · skip
    refine z_callV C [.long (lN w)] [] (tX4_put_b K.l K.g x bd tr q p h sb sv w hw hq_b) gL_law_X4_put rfl rfl rfl hdX4_put ⟨Nat.le_of_ble_eq_true rfl, Nat.le_of_ble_eq_true rfl⟩ ⟨Nat.le_of_ble_eq_true rfl, Nat.le_of_ble_eq_true rfl⟩ 0 0 rfl rfl rfl [0] rfl rfl (zlc (N := 16) rfl rfl) [16, 1, 2, 3, 4, 5, 6, 7, 8, 9, 10, 11, 12, 13, 14, 15] rfl (by decide) (fun _ : Unit => [wX K.g x bd tr q p h sb sv, wB K.g bd st r n, wB K.g tr ts tq tn, wP K.g q a0 a1 a2 a3 a4 a5 a6 a7 s0 s1 s2 s3 s4 s5 s6 s7 s8 s9, wPd K.g p fb tx len ex pl sh hu du, wB K.g fb fs fr fn, wH K.g h ho kp nx, wB K.g (ho 0) (hs 0) (hr 0) (hm 0), wB K.g (ho 1) (hs 1) (hr 1) (hm 1), wB K.g (ho 2) (hs 2) (hr 2) (hm 2), wB K.g (ho 3) (hs 3) (hr 3) (hm 3), wB K.g (ho 4) (hs 4) (hr 4) (hm 4), wB K.g (ho 5) (hs 5) (hr 5) (hm 5), wB K.g (sb 0) (ss 0) (sr 0) (sn 0), wB K.g (sb 1) (ss 1) (sr 1) (sn 1), wM K.g y all kept hist kp slo sav beg prt frm tx len sp tol rd]) (fun _ => rfl) rfl rfl (Nat.le_of_ble_eq_true rfl) dL_law_531 534 rfl (fun u9 hu9 => ?_)
    show Z K 104 1616 [wX K.g x bd tr q p h sb sv, wB K.g bd st r n, wB K.g tr ts tq tn, wP K.g q a0 a1 a2 a3 a4 a5 a6 a7 s0 s1 s2 s3 s4 s5 s6 s7 s8 s9, wPd K.g p fb tx len ex pl sh hu du, wB K.g fb fs fr fn, wH K.g h ho kp nx, wB K.g (ho 0) (hs 0) (hr 0) (hm 0), wB K.g (ho 1) (hs 1) (hr 1) (hm 1), wB K.g (ho 2) (hs 2) (hr 2) (hm 2), wB K.g (ho 3) (hs 3) (hr 3) (hm 3), wB K.g (ho 4) (hs 4) (hr 4) (hm 4), wB K.g (ho 5) (hs 5) (hr 5) (hm 5), wB K.g (sb 0) (ss 0) (sr 0) (sn 0), wB K.g (sb 1) (ss 1) (sr 1) (sn 1), wM K.g y all kept hist kp slo sav beg prt frm tx len sp tol rd] [(0, .ref b), (1, .ref (x 0)), (2, .ref (y 0)), (3, .int (nI i))] 534 [.int (-2)]
    refine z_aload_n C 2 rfl rfl dL_law_534 535 rfl ?_
    refine z_aload_n C 0 rfl rfl dL_law_535 536 rfl ?_
    refine z_iload_n C 3 rfl rfl dL_law_536 537 rfl ?_
    refine z_iconst C (v := nI 1) rfl dL_law_537 538 rfl ?_
    refine z_iadd C dL_law_538 539 rfl ?_
    refine z_xld C hX hbl hbA (by omega) (by omega) dL_law_539 540 rfl ?_
    refine z_i2l C dL_law_540 541 rfl ?_
    refine z_bipush C (v := nI 32) rfl dL_law_541 543 rfl ?_
    refine z_lshl C dL_law_543 544 rfl ?_
    refine z_aload_n C 0 rfl rfl dL_law_544 545 rfl ?_
    refine z_iload_n C 3 rfl rfl dL_law_545 546 rfl ?_
    refine z_iconst C (v := nI 2) rfl dL_law_546 547 rfl ?_
    refine z_iadd C dL_law_547 548 rfl ?_
    refine z_xld C hX hbl hbA (by omega) (by omega) dL_law_548 549 rfl ?_
    refine z_i2l C dL_law_549 550 rfl ?_
    refine z_ldc2 C (v := lN 4294967295) (List.mem_of_getElem? (i := 6) rfl) dL_law_550 553 rfl ?_
    refine z_land C dL_law_553 554 rfl ?_
    refine z_lor C dL_law_554 555 rfl ?_
    refine z_topL ew ?_
    refine z_callV C [.long (lN w)] [.int (-2)] (tX5_put_b K.l K.g y all kept hist kp slo sav beg prt frm tx len sp tol rd w hw hq_b) gL_law_X5_put rfl rfl rfl hdX5_put ⟨Nat.le_of_ble_eq_true rfl, Nat.le_of_ble_eq_true rfl⟩ ⟨Nat.le_of_ble_eq_true rfl, Nat.le_of_ble_eq_true rfl⟩ 15 0 rfl rfl rfl [15] rfl rfl (zlc (N := 16) rfl rfl) [0, 1, 2, 3, 4, 5, 6, 7, 8, 9, 10, 11, 12, 13, 14, 16] rfl (by decide) (fun _ : Unit => [wX K.g x bd tr q p h sb sv, wB K.g bd st r n, wB K.g tr ts tq tn, wP K.g q a0 a1 a2 a3 a4 a5 a6 a7 s0 s1 s2 s3 s4 s5 s6 s7 s8 s9, wPd K.g p fb tx len ex pl sh hu du, wB K.g fb fs fr fn, wH K.g h ho kp nx, wB K.g (ho 0) (hs 0) (hr 0) (hm 0), wB K.g (ho 1) (hs 1) (hr 1) (hm 1), wB K.g (ho 2) (hs 2) (hr 2) (hm 2), wB K.g (ho 3) (hs 3) (hr 3) (hm 3), wB K.g (ho 4) (hs 4) (hr 4) (hm 4), wB K.g (ho 5) (hs 5) (hr 5) (hm 5), wB K.g (sb 0) (ss 0) (sr 0) (sn 0), wB K.g (sb 1) (ss 1) (sr 1) (sn 1), wM K.g y all kept hist kp slo sav beg prt frm tx len sp tol rd]) (fun _ => rfl) rfl rfl (Nat.le_of_ble_eq_true rfl) dL_law_555 558 rfl (fun u9 hu9 => ?_)
    show Z K 104 1616 [wX K.g x bd tr q p h sb sv, wB K.g bd st r n, wB K.g tr ts tq tn, wP K.g q a0 a1 a2 a3 a4 a5 a6 a7 s0 s1 s2 s3 s4 s5 s6 s7 s8 s9, wPd K.g p fb tx len ex pl sh hu du, wB K.g fb fs fr fn, wH K.g h ho kp nx, wB K.g (ho 0) (hs 0) (hr 0) (hm 0), wB K.g (ho 1) (hs 1) (hr 1) (hm 1), wB K.g (ho 2) (hs 2) (hr 2) (hm 2), wB K.g (ho 3) (hs 3) (hr 3) (hm 3), wB K.g (ho 4) (hs 4) (hr 4) (hm 4), wB K.g (ho 5) (hs 5) (hr 5) (hm 5), wB K.g (sb 0) (ss 0) (sr 0) (sn 0), wB K.g (sb 1) (ss 1) (sr 1) (sn 1), wM K.g y all kept hist kp slo sav beg prt frm tx len sp tol rd] [(0, .ref b), (1, .ref (x 0)), (2, .ref (y 0)), (3, .int (nI i))] 558 [.int (-2), .int (-2)]
    refine z_icmpI_eq C 648 dL_law_558 (by decide) 561 rfl (fun c9 => ?_) (fun c9 => absurd rfl c9)
    refine z_iinc C hnL 3 rfl (v := nI (i + 5)) (nI_add _ 5) [1, 2, 3, 0] [(0, .ref b), (1, .ref (x 0)), (2, .ref (y 0)), (3, .int (nI (i + 5)))] rfl (Nat.le_of_ble_eq_true rfl) dL_law_648 651 rfl ?_
    refine z_goto C 18 dL_law_651 (by decide) ?_
    exact kk sv st r n ts tq tn a0 a1 a2 a3 a4 a5 a6 a7 s0 s1 s2 s3 s4 s5 s6 s7 s8 s9 tx len ex pl sh hu du fs fr fn kp nx hs hr hm ss sr sn all kept hist slo sav beg prt frm sp tol rd ⟨hG, hB, hH, hSl, hT⟩
  by_cases hq_tm : 60 < len + chF 0 8 w
  · skip
    refine z_callV C [.long (lN w)] [] (tX4_put_tm K.l K.g x bd tr q p h sb sv fb tx len ex pl sh hu du w (chF 0 8 w) hw rfl (by first | omega | assumption) (by first | omega | assumption) (by first | omega | assumption) (by first | omega | assumption)) gL_law_X4_put rfl rfl rfl hdX4_put ⟨Nat.le_of_ble_eq_true rfl, Nat.le_of_ble_eq_true rfl⟩ ⟨Nat.le_of_ble_eq_true rfl, Nat.le_of_ble_eq_true rfl⟩ 0 0 rfl rfl rfl [0, 4] rfl rfl (zlc (N := 16) rfl rfl) [16, 1, 2, 3, 17, 5, 6, 7, 8, 9, 10, 11, 12, 13, 14, 15] rfl (by decide) (fun _ : Unit => [wX K.g x bd tr q p h sb sv, wB K.g bd st r n, wB K.g tr ts tq tn, wP K.g q a0 a1 a2 a3 a4 a5 a6 a7 s0 s1 s2 s3 s4 s5 s6 s7 s8 s9, wPd K.g p fb tx len ex pl sh hu du, wB K.g fb fs fr fn, wH K.g h ho kp nx, wB K.g (ho 0) (hs 0) (hr 0) (hm 0), wB K.g (ho 1) (hs 1) (hr 1) (hm 1), wB K.g (ho 2) (hs 2) (hr 2) (hm 2), wB K.g (ho 3) (hs 3) (hr 3) (hm 3), wB K.g (ho 4) (hs 4) (hr 4) (hm 4), wB K.g (ho 5) (hs 5) (hr 5) (hm 5), wB K.g (sb 0) (ss 0) (sr 0) (sn 0), wB K.g (sb 1) (ss 1) (sr 1) (sn 1), wM K.g y all kept hist kp slo sav beg prt frm tx len sp tol rd]) (fun _ => rfl) rfl rfl (Nat.le_of_ble_eq_true rfl) dL_law_531 534 rfl (fun u9 hu9 => ?_)
    show Z K 104 1616 [wX K.g x bd tr q p h sb sv, wB K.g bd st r n, wB K.g tr ts tq tn, wP K.g q a0 a1 a2 a3 a4 a5 a6 a7 s0 s1 s2 s3 s4 s5 s6 s7 s8 s9, wPd K.g p fb tx len ex pl sh hu du, wB K.g fb fs fr fn, wH K.g h ho kp nx, wB K.g (ho 0) (hs 0) (hr 0) (hm 0), wB K.g (ho 1) (hs 1) (hr 1) (hm 1), wB K.g (ho 2) (hs 2) (hr 2) (hm 2), wB K.g (ho 3) (hs 3) (hr 3) (hm 3), wB K.g (ho 4) (hs 4) (hr 4) (hm 4), wB K.g (ho 5) (hs 5) (hr 5) (hm 5), wB K.g (sb 0) (ss 0) (sr 0) (sn 0), wB K.g (sb 1) (ss 1) (sr 1) (sn 1), wM K.g y all kept hist kp slo sav beg prt frm tx len sp tol rd] [(0, .ref b), (1, .ref (x 0)), (2, .ref (y 0)), (3, .int (nI i))] 534 [.int (-4)]
    refine z_aload_n C 2 rfl rfl dL_law_534 535 rfl ?_
    refine z_aload_n C 0 rfl rfl dL_law_535 536 rfl ?_
    refine z_iload_n C 3 rfl rfl dL_law_536 537 rfl ?_
    refine z_iconst C (v := nI 1) rfl dL_law_537 538 rfl ?_
    refine z_iadd C dL_law_538 539 rfl ?_
    refine z_xld C hX hbl hbA (by omega) (by omega) dL_law_539 540 rfl ?_
    refine z_i2l C dL_law_540 541 rfl ?_
    refine z_bipush C (v := nI 32) rfl dL_law_541 543 rfl ?_
    refine z_lshl C dL_law_543 544 rfl ?_
    refine z_aload_n C 0 rfl rfl dL_law_544 545 rfl ?_
    refine z_iload_n C 3 rfl rfl dL_law_545 546 rfl ?_
    refine z_iconst C (v := nI 2) rfl dL_law_546 547 rfl ?_
    refine z_iadd C dL_law_547 548 rfl ?_
    refine z_xld C hX hbl hbA (by omega) (by omega) dL_law_548 549 rfl ?_
    refine z_i2l C dL_law_549 550 rfl ?_
    refine z_ldc2 C (v := lN 4294967295) (List.mem_of_getElem? (i := 6) rfl) dL_law_550 553 rfl ?_
    refine z_land C dL_law_553 554 rfl ?_
    refine z_lor C dL_law_554 555 rfl ?_
    refine z_topL ew ?_
    refine z_callV C [.long (lN w)] [.int (-4)] (tX5_put_tm K.l K.g y all kept hist kp slo sav beg prt frm tx len sp tol rd w (chF 0 8 w) hw rfl (by first | omega | assumption) (by first | omega | assumption) (by first | omega | assumption) (by first | omega | assumption)) gL_law_X5_put rfl rfl rfl hdX5_put ⟨Nat.le_of_ble_eq_true rfl, Nat.le_of_ble_eq_true rfl⟩ ⟨Nat.le_of_ble_eq_true rfl, Nat.le_of_ble_eq_true rfl⟩ 15 0 rfl rfl rfl [15] rfl rfl (zlc (N := 16) rfl rfl) [0, 1, 2, 3, 4, 5, 6, 7, 8, 9, 10, 11, 12, 13, 14, 16] rfl (by decide) (fun _ : Unit => [wX K.g x bd tr q p h sb sv, wB K.g bd st r n, wB K.g tr ts tq tn, wP K.g q a0 a1 a2 a3 a4 a5 a6 a7 s0 s1 s2 s3 s4 s5 s6 s7 s8 s9, wPd K.g p fb tx len ex pl sh hu du, wB K.g fb fs fr fn, wH K.g h ho kp nx, wB K.g (ho 0) (hs 0) (hr 0) (hm 0), wB K.g (ho 1) (hs 1) (hr 1) (hm 1), wB K.g (ho 2) (hs 2) (hr 2) (hm 2), wB K.g (ho 3) (hs 3) (hr 3) (hm 3), wB K.g (ho 4) (hs 4) (hr 4) (hm 4), wB K.g (ho 5) (hs 5) (hr 5) (hm 5), wB K.g (sb 0) (ss 0) (sr 0) (sn 0), wB K.g (sb 1) (ss 1) (sr 1) (sn 1), wM K.g y all kept hist kp slo sav beg prt frm tx len sp tol rd]) (fun _ => rfl) rfl rfl (Nat.le_of_ble_eq_true rfl) dL_law_555 558 rfl (fun u9 hu9 => ?_)
    show Z K 104 1616 [wX K.g x bd tr q p h sb sv, wB K.g bd st r n, wB K.g tr ts tq tn, wP K.g q a0 a1 a2 a3 a4 a5 a6 a7 s0 s1 s2 s3 s4 s5 s6 s7 s8 s9, wPd K.g p fb tx len ex pl sh hu du, wB K.g fb fs fr fn, wH K.g h ho kp nx, wB K.g (ho 0) (hs 0) (hr 0) (hm 0), wB K.g (ho 1) (hs 1) (hr 1) (hm 1), wB K.g (ho 2) (hs 2) (hr 2) (hm 2), wB K.g (ho 3) (hs 3) (hr 3) (hm 3), wB K.g (ho 4) (hs 4) (hr 4) (hm 4), wB K.g (ho 5) (hs 5) (hr 5) (hm 5), wB K.g (sb 0) (ss 0) (sr 0) (sn 0), wB K.g (sb 1) (ss 1) (sr 1) (sn 1), wM K.g y all kept hist kp slo sav beg prt frm tx len sp tol rd] [(0, .ref b), (1, .ref (x 0)), (2, .ref (y 0)), (3, .int (nI i))] 558 [.int (-4), .int (-4)]
    refine z_icmpI_eq C 648 dL_law_558 (by decide) 561 rfl (fun c9 => ?_) (fun c9 => absurd rfl c9)
    refine z_iinc C hnL 3 rfl (v := nI (i + 5)) (nI_add _ 5) [1, 2, 3, 0] [(0, .ref b), (1, .ref (x 0)), (2, .ref (y 0)), (3, .int (nI (i + 5)))] rfl (Nat.le_of_ble_eq_true rfl) dL_law_648 651 rfl ?_
    refine z_goto C 18 dL_law_651 (by decide) ?_
    exact kk sv st r n ts tq tn a0 a1 a2 a3 a4 a5 a6 a7 s0 s1 s2 s3 s4 s5 s6 s7 s8 s9 tx len ex pl sh hu du fs fr fn kp nx hs hr hm ss sr sn all kept hist slo sav beg prt frm sp tol rd ⟨hG, hB, hH, hSl, hT⟩
  refine z_callV C [.long (lN w)] [] (tX4_put_ok K.l K.g x bd tr q p h sb sv fb tx len ex pl sh hu du w (chF 0 8 w) hw rfl (by first | omega | assumption) (by first | omega | assumption) (by first | omega | assumption)) gL_law_X4_put rfl rfl rfl hdX4_put ⟨Nat.le_of_ble_eq_true rfl, Nat.le_of_ble_eq_true rfl⟩ ⟨Nat.le_of_ble_eq_true rfl, Nat.le_of_ble_eq_true rfl⟩ 0 0 rfl rfl rfl [0, 4] rfl rfl (zlc (N := 16) rfl rfl) [16, 1, 2, 3, 17, 5, 6, 7, 8, 9, 10, 11, 12, 13, 14, 15] rfl (by decide) (fun _ : Unit => [wX K.g x bd tr q p h sb sv, wB K.g bd st r n, wB K.g tr ts tq tn, wP K.g q a0 a1 a2 a3 a4 a5 a6 a7 s0 s1 s2 s3 s4 s5 s6 s7 s8 s9, wPd K.g p fb (ptx tx len w (chF 0 8 w) (chF 0 8 w)) (len + (chF 0 8 w)) ex pl sh hu du, wB K.g fb fs fr fn, wH K.g h ho kp nx, wB K.g (ho 0) (hs 0) (hr 0) (hm 0), wB K.g (ho 1) (hs 1) (hr 1) (hm 1), wB K.g (ho 2) (hs 2) (hr 2) (hm 2), wB K.g (ho 3) (hs 3) (hr 3) (hm 3), wB K.g (ho 4) (hs 4) (hr 4) (hm 4), wB K.g (ho 5) (hs 5) (hr 5) (hm 5), wB K.g (sb 0) (ss 0) (sr 0) (sn 0), wB K.g (sb 1) (ss 1) (sr 1) (sn 1), wM K.g y all kept hist kp slo sav beg prt frm tx len sp tol rd]) (fun _ => rfl) rfl rfl (Nat.le_of_ble_eq_true rfl) dL_law_531 534 rfl (fun u9 hu9 => ?_)
  show Z K 104 1616 [wX K.g x bd tr q p h sb sv, wB K.g bd st r n, wB K.g tr ts tq tn, wP K.g q a0 a1 a2 a3 a4 a5 a6 a7 s0 s1 s2 s3 s4 s5 s6 s7 s8 s9, wPd K.g p fb (ptx tx len w (chF 0 8 w) (chF 0 8 w)) (len + (chF 0 8 w)) ex pl sh hu du, wB K.g fb fs fr fn, wH K.g h ho kp nx, wB K.g (ho 0) (hs 0) (hr 0) (hm 0), wB K.g (ho 1) (hs 1) (hr 1) (hm 1), wB K.g (ho 2) (hs 2) (hr 2) (hm 2), wB K.g (ho 3) (hs 3) (hr 3) (hm 3), wB K.g (ho 4) (hs 4) (hr 4) (hm 4), wB K.g (ho 5) (hs 5) (hr 5) (hm 5), wB K.g (sb 0) (ss 0) (sr 0) (sn 0), wB K.g (sb 1) (ss 1) (sr 1) (sn 1), wM K.g y all kept hist kp slo sav beg prt frm tx len sp tol rd] [(0, .ref b), (1, .ref (x 0)), (2, .ref (y 0)), (3, .int (nI i))] 534 [.int (nI (len + (chF 0 8 w)))]
  refine z_aload_n C 2 rfl rfl dL_law_534 535 rfl ?_
  refine z_aload_n C 0 rfl rfl dL_law_535 536 rfl ?_
  refine z_iload_n C 3 rfl rfl dL_law_536 537 rfl ?_
  refine z_iconst C (v := nI 1) rfl dL_law_537 538 rfl ?_
  refine z_iadd C dL_law_538 539 rfl ?_
  refine z_xld C hX hbl hbA (by omega) (by omega) dL_law_539 540 rfl ?_
  refine z_i2l C dL_law_540 541 rfl ?_
  refine z_bipush C (v := nI 32) rfl dL_law_541 543 rfl ?_
  refine z_lshl C dL_law_543 544 rfl ?_
  refine z_aload_n C 0 rfl rfl dL_law_544 545 rfl ?_
  refine z_iload_n C 3 rfl rfl dL_law_545 546 rfl ?_
  refine z_iconst C (v := nI 2) rfl dL_law_546 547 rfl ?_
  refine z_iadd C dL_law_547 548 rfl ?_
  refine z_xld C hX hbl hbA (by omega) (by omega) dL_law_548 549 rfl ?_
  refine z_i2l C dL_law_549 550 rfl ?_
  refine z_ldc2 C (v := lN 4294967295) (List.mem_of_getElem? (i := 6) rfl) dL_law_550 553 rfl ?_
  refine z_land C dL_law_553 554 rfl ?_
  refine z_lor C dL_law_554 555 rfl ?_
  refine z_topL ew ?_
  refine z_callV C [.long (lN w)] [.int (nI (len + (chF 0 8 w)))] (tX5_put_ok K.l K.g y all kept hist kp slo sav beg prt frm tx len sp tol rd w (chF 0 8 w) hw rfl (by first | omega | assumption) (by first | omega | assumption) (by first | omega | assumption)) gL_law_X5_put rfl rfl rfl hdX5_put ⟨Nat.le_of_ble_eq_true rfl, Nat.le_of_ble_eq_true rfl⟩ ⟨Nat.le_of_ble_eq_true rfl, Nat.le_of_ble_eq_true rfl⟩ 15 0 rfl rfl rfl [15] rfl rfl (zlc (N := 16) rfl rfl) [0, 1, 2, 3, 4, 5, 6, 7, 8, 9, 10, 11, 12, 13, 14, 16] rfl (by decide) (fun _ : Unit => [wX K.g x bd tr q p h sb sv, wB K.g bd st r n, wB K.g tr ts tq tn, wP K.g q a0 a1 a2 a3 a4 a5 a6 a7 s0 s1 s2 s3 s4 s5 s6 s7 s8 s9, wPd K.g p fb (ptx tx len w (chF 0 8 w) (chF 0 8 w)) (len + (chF 0 8 w)) ex pl sh hu du, wB K.g fb fs fr fn, wH K.g h ho kp nx, wB K.g (ho 0) (hs 0) (hr 0) (hm 0), wB K.g (ho 1) (hs 1) (hr 1) (hm 1), wB K.g (ho 2) (hs 2) (hr 2) (hm 2), wB K.g (ho 3) (hs 3) (hr 3) (hm 3), wB K.g (ho 4) (hs 4) (hr 4) (hm 4), wB K.g (ho 5) (hs 5) (hr 5) (hm 5), wB K.g (sb 0) (ss 0) (sr 0) (sn 0), wB K.g (sb 1) (ss 1) (sr 1) (sn 1), wM K.g y all kept hist kp slo sav beg prt frm (ptx tx len w (chF 0 8 w) (chF 0 8 w)) (len + (chF 0 8 w)) sp tol rd]) (fun _ => rfl) rfl rfl (Nat.le_of_ble_eq_true rfl) dL_law_555 558 rfl (fun u9 hu9 => ?_)
  show Z K 104 1616 [wX K.g x bd tr q p h sb sv, wB K.g bd st r n, wB K.g tr ts tq tn, wP K.g q a0 a1 a2 a3 a4 a5 a6 a7 s0 s1 s2 s3 s4 s5 s6 s7 s8 s9, wPd K.g p fb (ptx tx len w (chF 0 8 w) (chF 0 8 w)) (len + (chF 0 8 w)) ex pl sh hu du, wB K.g fb fs fr fn, wH K.g h ho kp nx, wB K.g (ho 0) (hs 0) (hr 0) (hm 0), wB K.g (ho 1) (hs 1) (hr 1) (hm 1), wB K.g (ho 2) (hs 2) (hr 2) (hm 2), wB K.g (ho 3) (hs 3) (hr 3) (hm 3), wB K.g (ho 4) (hs 4) (hr 4) (hm 4), wB K.g (ho 5) (hs 5) (hr 5) (hm 5), wB K.g (sb 0) (ss 0) (sr 0) (sn 0), wB K.g (sb 1) (ss 1) (sr 1) (sn 1), wM K.g y all kept hist kp slo sav beg prt frm (ptx tx len w (chF 0 8 w) (chF 0 8 w)) (len + (chF 0 8 w)) sp tol rd] [(0, .ref b), (1, .ref (x 0)), (2, .ref (y 0)), (3, .int (nI i))] 558 [.int (nI (len + (chF 0 8 w))), .int (nI (len + (chF 0 8 w)))]
  refine z_icmpI_eq C 648 dL_law_558 (by decide) 561 rfl (fun c9 => ?_) (fun c9 => absurd rfl c9)
  refine z_iinc C hnL 3 rfl (v := nI (i + 5)) (nI_add _ 5) [1, 2, 3, 0] [(0, .ref b), (1, .ref (x 0)), (2, .ref (y 0)), (3, .int (nI (i + 5)))] rfl (Nat.le_of_ble_eq_true rfl) dL_law_648 651 rfl ?_
  refine z_goto C 18 dL_law_651 (by decide) ?_
  exact kk sv st r n ts tq tn a0 a1 a2 a3 a4 a5 a6 a7 s0 s1 s2 s3 s4 s5 s6 s7 s8 s9 (ptx tx len w (chF 0 8 w) (chF 0 8 w)) (len + (chF 0 8 w)) ex pl sh hu du fs fr fn kp nx hs hr hm ss sr sn all kept hist slo sav beg prt frm sp tol rd ⟨hG, hB, hH, hSl, IT_put hT rfl (by omega) (by omega)⟩

set_option maxHeartbeats 4000000 in
set_option maxRecDepth 100000 in
theorem lb_fault {K : zK} (C : Cx K room_1 RL cL_law wsL_law) (hnL : K.nL = 4) (b : Nat) (x bd tr q p fb h : Nat → Nat) (ho sb : Nat → Nat → Nat) (y : Nat → Nat) (L : Nat) (xs : Nat → Int32) (i : Nat) (hLH : LH K b L xs) (hiL : i + 5 ≤ L) (kk : LI K b x bd tr q p fb h ho sb y (i + 5)) (sv : Nat → Bool) (st : Nat → Nat) (r : Nat → Nat → Nat) (n : Nat) (ts : Nat → Nat) (tq : Nat → Nat → Nat) (tn : Nat) (a0 : Nat → Nat) (a1 : Nat → Nat) (a2 : Nat → Nat) (a3 : Nat → Nat) (a4 : Nat → Nat) (a5 : Nat → Nat) (a6 : Nat → Nat) (a7 : Nat → Nat) (s0 : Nat) (s1 : Nat) (s2 : Nat) (s3 : Nat) (s4 : Nat) (s5 : Nat) (s6 : Nat) (s7 : Nat) (s8 : Nat) (s9 : Nat) (tx : Nat → Nat) (len : Nat) (ex : Nat) (pl : Int32) (sh : Int32) (hu : Int32) (du : Int32) (fs : Nat → Nat) (fr : Nat → Nat → Nat) (fn : Nat) (kp : Nat) (nx : Nat) (hs : Nat → Nat → Nat) (hr : Nat → Nat → Nat → Nat) (hm : Nat → Nat) (ss : Nat → Nat → Nat) (sr : Nat → Nat → Nat → Nat) (sn : Nat → Nat) (all : Nat → Nat) (kept : Nat → Nat) (hist : Nat → Nat) (slo : Nat → Nat) (sav : Nat → Nat) (beg : Nat → Nat) (prt : Nat → Nat) (frm : Nat → Nat) (sp : Nat) (tol : Nat → Nat) (rd : Nat) (hI : IV sv st r n tx len kp nx hs hr hm ss sr sn all hist slo sav) : Z K 104 1616 [wX K.g x bd tr q p h sb sv, wB K.g bd st r n, wB K.g tr ts tq tn, wP K.g q a0 a1 a2 a3 a4 a5 a6 a7 s0 s1 s2 s3 s4 s5 s6 s7 s8 s9, wPd K.g p fb tx len ex pl sh hu du, wB K.g fb fs fr fn, wH K.g h ho kp nx, wB K.g (ho 0) (hs 0) (hr 0) (hm 0), wB K.g (ho 1) (hs 1) (hr 1) (hm 1), wB K.g (ho 2) (hs 2) (hr 2) (hm 2), wB K.g (ho 3) (hs 3) (hr 3) (hm 3), wB K.g (ho 4) (hs 4) (hr 4) (hm 4), wB K.g (ho 5) (hs 5) (hr 5) (hm 5), wB K.g (sb 0) (ss 0) (sr 0) (sn 0), wB K.g (sb 1) (ss 1) (sr 1) (sn 1), wM K.g y all kept hist kp slo sav beg prt frm tx len sp tol rd] [(0, .ref b), (1, .ref (x 0)), (2, .ref (y 0)), (3, .int (nI i))] 576 [] := by
  obtain ⟨hX, hbl, hbA, hL, heSet, heOrd⟩ := hLH
  obtain ⟨hG, hB, hH, hSl, hT⟩ := hI
  obtain ⟨hn, hS, hJ, hR⟩ := id hG
  have hk := hH.1
  have hx := hH.2.1
  have hl := hT.1
  have ht := hT.2
  refine z_aload_n C 1 rfl rfl dL_law_576 577 rfl ?_
  refine z_callV C [] [] (tX4_fault K.l K.g x bd tr q p h sb sv fb tx len ex pl sh hu du fs fr fn (by first | omega | assumption) (by first | omega | assumption)) gL_law_X4_fault rfl rfl rfl hdX4_fault ⟨Nat.le_of_ble_eq_true rfl, Nat.le_of_ble_eq_true rfl⟩ ⟨Nat.le_of_ble_eq_true rfl, Nat.le_of_ble_eq_true rfl⟩ 0 0 rfl rfl rfl [0, 4, 5] rfl rfl (zlc (N := 16) rfl rfl) [16, 1, 2, 3, 17, 18, 6, 7, 8, 9, 10, 11, 12, 13, 14, 15] rfl (by decide) (fun u : (Int32) × (Nat) × (Int32) × (Int32) × (Int32) × (Int32) × (Nat) × (Nat → Nat → Nat) => match u with | (v, ex2, P2, S2, H2, D2, n2, r2) => [wX K.g x bd tr q p h sb sv, wB K.g bd st r n, wB K.g tr ts tq tn, wP K.g q a0 a1 a2 a3 a4 a5 a6 a7 s0 s1 s2 s3 s4 s5 s6 s7 s8 s9, wPd K.g p fb tx len ex2 P2 S2 H2 D2, wB K.g fb fs r2 n2, wH K.g h ho kp nx, wB K.g (ho 0) (hs 0) (hr 0) (hm 0), wB K.g (ho 1) (hs 1) (hr 1) (hm 1), wB K.g (ho 2) (hs 2) (hr 2) (hm 2), wB K.g (ho 3) (hs 3) (hr 3) (hm 3), wB K.g (ho 4) (hs 4) (hr 4) (hm 4), wB K.g (ho 5) (hs 5) (hr 5) (hm 5), wB K.g (sb 0) (ss 0) (sr 0) (sn 0), wB K.g (sb 1) (ss 1) (sr 1) (sn 1), wM K.g y all kept hist kp slo sav beg prt frm tx len sp tol rd]) (fun _ => rfl) rfl rfl (Nat.le_of_ble_eq_true rfl) dL_law_577 580 rfl (fun u9 hu9 => ?_)
  obtain ⟨v4, ex2_1, P2_2, S2_3, H2_4, D2_5, n2_6, r2_7⟩ := u9
  have hp4 := hu9
  have hp4 : PAR tx fr len v4 n2_6 r2_7 := hp4
  show Z K 104 1616 [wX K.g x bd tr q p h sb sv, wB K.g bd st r n, wB K.g tr ts tq tn, wP K.g q a0 a1 a2 a3 a4 a5 a6 a7 s0 s1 s2 s3 s4 s5 s6 s7 s8 s9, wPd K.g p fb tx len ex2_1 P2_2 S2_3 H2_4 D2_5, wB K.g fb fs r2_7 n2_6, wH K.g h ho kp nx, wB K.g (ho 0) (hs 0) (hr 0) (hm 0), wB K.g (ho 1) (hs 1) (hr 1) (hm 1), wB K.g (ho 2) (hs 2) (hr 2) (hm 2), wB K.g (ho 3) (hs 3) (hr 3) (hm 3), wB K.g (ho 4) (hs 4) (hr 4) (hm 4), wB K.g (ho 5) (hs 5) (hr 5) (hm 5), wB K.g (sb 0) (ss 0) (sr 0) (sn 0), wB K.g (sb 1) (ss 1) (sr 1) (sn 1), wM K.g y all kept hist kp slo sav beg prt frm tx len sp tol rd] [(0, .ref b), (1, .ref (x 0)), (2, .ref (y 0)), (3, .int (nI i))] 580 [.int v4]
  refine z_aload_n C 2 rfl rfl dL_law_580 581 rfl ?_
  refine z_callV C [] [.int v4] (tX5_fault K.l K.g y all kept hist kp slo sav beg prt frm tx len sp tol rd fr (by first | omega | assumption) (by first | omega | assumption)) gL_law_X5_fault rfl rfl rfl hdX5_fault ⟨Nat.le_of_ble_eq_true rfl, Nat.le_of_ble_eq_true rfl⟩ ⟨Nat.le_of_ble_eq_true rfl, Nat.le_of_ble_eq_true rfl⟩ 15 0 rfl rfl rfl [15] rfl rfl (zlc (N := 16) rfl rfl) [0, 1, 2, 3, 4, 5, 6, 7, 8, 9, 10, 11, 12, 13, 14, 16] rfl (by decide) (fun u : (Int32) × (Nat) × (Nat → Nat) × (Nat) × (Nat) × (Nat → Nat → Nat) => match u with | (v, sp2, tol2, rd2, n2, r2) => [wX K.g x bd tr q p h sb sv, wB K.g bd st r n, wB K.g tr ts tq tn, wP K.g q a0 a1 a2 a3 a4 a5 a6 a7 s0 s1 s2 s3 s4 s5 s6 s7 s8 s9, wPd K.g p fb tx len ex2_1 P2_2 S2_3 H2_4 D2_5, wB K.g fb fs r2_7 n2_6, wH K.g h ho kp nx, wB K.g (ho 0) (hs 0) (hr 0) (hm 0), wB K.g (ho 1) (hs 1) (hr 1) (hm 1), wB K.g (ho 2) (hs 2) (hr 2) (hm 2), wB K.g (ho 3) (hs 3) (hr 3) (hm 3), wB K.g (ho 4) (hs 4) (hr 4) (hm 4), wB K.g (ho 5) (hs 5) (hr 5) (hm 5), wB K.g (sb 0) (ss 0) (sr 0) (sn 0), wB K.g (sb 1) (ss 1) (sr 1) (sn 1), wM K.g y all kept hist kp slo sav beg prt frm tx len sp2 tol2 rd2]) (fun _ => rfl) rfl rfl (Nat.le_of_ble_eq_true rfl) dL_law_581 584 rfl (fun u9 hu9 => ?_)
  obtain ⟨v5, sp2_8, tol2_9, rd2_10, n2_11, r2_12⟩ := u9
  obtain ⟨hp5, hm_13⟩ := hu9
  have hp5 : PAR tx fr len v5 n2_11 r2_12 := hp5
  have hm_13 : v5 = (-6) → rd2_10 = n2_11 ∧ ∀ j, j < n2_11 → ∀ k, k < 4 → tol2_9 (4 * j + k) = r2_12 k j := hm_13
  show Z K 104 1616 [wX K.g x bd tr q p h sb sv, wB K.g bd st r n, wB K.g tr ts tq tn, wP K.g q a0 a1 a2 a3 a4 a5 a6 a7 s0 s1 s2 s3 s4 s5 s6 s7 s8 s9, wPd K.g p fb tx len ex2_1 P2_2 S2_3 H2_4 D2_5, wB K.g fb fs r2_7 n2_6, wH K.g h ho kp nx, wB K.g (ho 0) (hs 0) (hr 0) (hm 0), wB K.g (ho 1) (hs 1) (hr 1) (hm 1), wB K.g (ho 2) (hs 2) (hr 2) (hm 2), wB K.g (ho 3) (hs 3) (hr 3) (hm 3), wB K.g (ho 4) (hs 4) (hr 4) (hm 4), wB K.g (ho 5) (hs 5) (hr 5) (hm 5), wB K.g (sb 0) (ss 0) (sr 0) (sn 0), wB K.g (sb 1) (ss 1) (sr 1) (sn 1), wM K.g y all kept hist kp slo sav beg prt frm tx len sp2_8 tol2_9 rd2_10] [(0, .ref b), (1, .ref (x 0)), (2, .ref (y 0)), (3, .int (nI i))] 584 [.int v5, .int v4]
  obtain rfl := (PAR_un hl hp4 hp5).1
  refine z_icmpI_eq C 648 dL_law_584 (by decide) 587 rfl (fun c9 => ?_) (fun c9 => absurd rfl c9)
  refine z_iinc C hnL 3 rfl (v := nI (i + 5)) (nI_add _ 5) [1, 2, 3, 0] [(0, .ref b), (1, .ref (x 0)), (2, .ref (y 0)), (3, .int (nI (i + 5)))] rfl (Nat.le_of_ble_eq_true rfl) dL_law_648 651 rfl ?_
  refine z_goto C 18 dL_law_651 (by decide) ?_
  exact kk sv st r n ts tq tn a0 a1 a2 a3 a4 a5 a6 a7 s0 s1 s2 s3 s4 s5 s6 s7 s8 s9 tx len ex2_1 P2_2 S2_3 H2_4 D2_5 fs r2_7 n2_6 kp nx hs hr hm ss sr sn all kept hist slo sav beg prt frm sp2_8 tol2_9 rd2_10 ⟨hG, hB, hH, hSl, hT⟩

set_option maxHeartbeats 4000000 in
set_option maxRecDepth 100000 in
theorem lb_read {K : zK} (C : Cx K room_1 RL cL_law wsL_law) (hnL : K.nL = 4) (b : Nat) (x bd tr q p fb h : Nat → Nat) (ho sb : Nat → Nat → Nat) (y : Nat → Nat) (L : Nat) (xs : Nat → Int32) (i : Nat) (hLH : LH K b L xs) (hiL : i + 5 ≤ L) (kk : LI K b x bd tr q p fb h ho sb y (i + 5)) (sv : Nat → Bool) (st : Nat → Nat) (r : Nat → Nat → Nat) (n : Nat) (ts : Nat → Nat) (tq : Nat → Nat → Nat) (tn : Nat) (a0 : Nat → Nat) (a1 : Nat → Nat) (a2 : Nat → Nat) (a3 : Nat → Nat) (a4 : Nat → Nat) (a5 : Nat → Nat) (a6 : Nat → Nat) (a7 : Nat → Nat) (s0 : Nat) (s1 : Nat) (s2 : Nat) (s3 : Nat) (s4 : Nat) (s5 : Nat) (s6 : Nat) (s7 : Nat) (s8 : Nat) (s9 : Nat) (tx : Nat → Nat) (len : Nat) (ex : Nat) (pl : Int32) (sh : Int32) (hu : Int32) (du : Int32) (fs : Nat → Nat) (fr : Nat → Nat → Nat) (fn : Nat) (kp : Nat) (nx : Nat) (hs : Nat → Nat → Nat) (hr : Nat → Nat → Nat → Nat) (hm : Nat → Nat) (ss : Nat → Nat → Nat) (sr : Nat → Nat → Nat → Nat) (sn : Nat → Nat) (all : Nat → Nat) (kept : Nat → Nat) (hist : Nat → Nat) (slo : Nat → Nat) (sav : Nat → Nat) (beg : Nat → Nat) (prt : Nat → Nat) (frm : Nat → Nat) (sp : Nat) (tol : Nat → Nat) (rd : Nat) (hI : IV sv st r n tx len kp nx hs hr hm ss sr sn all hist slo sav) : Z K 104 1616 [wX K.g x bd tr q p h sb sv, wB K.g bd st r n, wB K.g tr ts tq tn, wP K.g q a0 a1 a2 a3 a4 a5 a6 a7 s0 s1 s2 s3 s4 s5 s6 s7 s8 s9, wPd K.g p fb tx len ex pl sh hu du, wB K.g fb fs fr fn, wH K.g h ho kp nx, wB K.g (ho 0) (hs 0) (hr 0) (hm 0), wB K.g (ho 1) (hs 1) (hr 1) (hm 1), wB K.g (ho 2) (hs 2) (hr 2) (hm 2), wB K.g (ho 3) (hs 3) (hr 3) (hm 3), wB K.g (ho 4) (hs 4) (hr 4) (hm 4), wB K.g (ho 5) (hs 5) (hr 5) (hm 5), wB K.g (sb 0) (ss 0) (sr 0) (sn 0), wB K.g (sb 1) (ss 1) (sr 1) (sn 1), wM K.g y all kept hist kp slo sav beg prt frm tx len sp tol rd] [(0, .ref b), (1, .ref (x 0)), (2, .ref (y 0)), (3, .int (nI i))] 214 [] := by
  obtain ⟨hX, hbl, hbA, hL, heSet, heOrd⟩ := hLH
  obtain ⟨hG, hB, hH, hSl, hT⟩ := hI
  obtain ⟨hn, hS, hJ, hR⟩ := id hG
  have hk := hH.1
  have hx := hH.2.1
  have hl := hT.1
  have ht := hT.2
  refine z_aload_n C 1 rfl rfl dL_law_214 215 rfl ?_
  refine z_callV C [] [] (tX4_read K.l K.g x bd tr q p h sb sv st r n ho hs hr hm kp nx fb tx len ex pl sh hu du fs fr fn (by first | omega | assumption) (by first | omega | assumption) (by first | omega | assumption) (by first | omega | assumption) (by first | omega | assumption) (by first | omega | assumption)) gL_law_X4_read rfl rfl rfl hdX4_read ⟨Nat.le_of_ble_eq_true rfl, Nat.le_of_ble_eq_true rfl⟩ ⟨Nat.le_of_ble_eq_true rfl, Nat.le_of_ble_eq_true rfl⟩ 0 0 rfl rfl rfl [0, 1, 4, 5, 6, 7, 8, 9, 10, 11, 12] rfl rfl (zlc (N := 16) rfl rfl) [16, 17, 2, 3, 18, 19, 20, 21, 22, 23, 24, 25, 26, 13, 14, 15] rfl (by decide) (fun u : (Int32) × (Int32) × (Nat) × (Nat) × (Int32) × (Int32) × (Int32) × (Int32) × (Nat) × (Nat → Nat → Nat) × (Nat → Nat → Nat) × (Nat) × (Nat) × (Nat) × (Nat → Nat → Nat) × (Nat → Nat → Nat → Nat) × (Nat → Nat) => match u with | (v, w, len3, ex2, P2, S2, H2, D2, n2, r2, r3, n3, kp3, nx3, hs3, hr3, hm3) => [wX K.g x bd tr q p h sb sv, wB K.g bd st r3 n3, wB K.g tr ts tq tn, wP K.g q a0 a1 a2 a3 a4 a5 a6 a7 s0 s1 s2 s3 s4 s5 s6 s7 s8 s9, wPd K.g p fb tx len3 ex2 P2 S2 H2 D2, wB K.g fb fs r2 n2, wH K.g h ho kp3 nx3, wB K.g (ho 0) (hs3 0) (hr3 0) (hm3 0), wB K.g (ho 1) (hs3 1) (hr3 1) (hm3 1), wB K.g (ho 2) (hs3 2) (hr3 2) (hm3 2), wB K.g (ho 3) (hs3 3) (hr3 3) (hm3 3), wB K.g (ho 4) (hs3 4) (hr3 4) (hm3 4), wB K.g (ho 5) (hs3 5) (hr3 5) (hm3 5), wB K.g (sb 0) (ss 0) (sr 0) (sn 0), wB K.g (sb 1) (ss 1) (sr 1) (sn 1), wM K.g y all kept hist kp slo sav beg prt frm tx len sp tol rd]) (fun _ => rfl) rfl rfl (Nat.le_of_ble_eq_true rfl) dL_law_215 218 rfl (fun u9 hu9 => ?_)
  obtain ⟨v4, w4, len3, ex2_1, P2_2, S2_3, H2_4, D2_5, n4, r4, r3, n3, kp3, nx3, hs3, hr3, hm3⟩ := u9
  obtain ⟨hp4, hc4⟩ := hu9
  have hp4 : PAR tx fr len w4 n4 r4 := hp4
  have hc4 : (w4 ≠ (-6) ∧ v4 = (-3) ∧ len3 = len ∧ r3 = r ∧ n3 = n ∧ kp3 = kp ∧ nx3 = nx ∧ hs3 = hs ∧ hr3 = hr ∧ hm3 = hm) ∨ (w4 = (-6) ∧ st 5 < mND st r4 n4 ∧ v4 = (-5) ∧ len3 = len ∧ r3 = r ∧ n3 = n ∧ kp3 = kp ∧ nx3 = nx ∧ hs3 = hs ∧ hr3 = hr ∧ hm3 = hm) ∨ (w4 = (-6) ∧ mND st r4 n4 ≤ st 5 ∧ 12 < n + n4 ∧ v4 = (-4) ∧ len3 = len ∧ r3 = r ∧ n3 = n ∧ kp3 = kp ∧ nx3 = nx ∧ hs3 = hs ∧ hr3 = hr ∧ hm3 = hm) ∨ (w4 = (-6) ∧ mND st r4 n4 ≤ st 5 ∧ n + n4 ≤ 12 ∧ v4 = nI (n + n4) ∧ len3 = 0 ∧ r3 = apA r n r4 n4 ∧ n3 = n + n4 ∧ kp3 = min (kp + 1) 6 ∧ nx3 = (if nx = 5 then 0 else nx + 1) ∧ hs3 = un hs nx st ∧ hr3 = un hr nx r ∧ hm3 = un hm nx n) := hc4
  show Z K 104 1616 [wX K.g x bd tr q p h sb sv, wB K.g bd st r3 n3, wB K.g tr ts tq tn, wP K.g q a0 a1 a2 a3 a4 a5 a6 a7 s0 s1 s2 s3 s4 s5 s6 s7 s8 s9, wPd K.g p fb tx len3 ex2_1 P2_2 S2_3 H2_4 D2_5, wB K.g fb fs r4 n4, wH K.g h ho kp3 nx3, wB K.g (ho 0) (hs3 0) (hr3 0) (hm3 0), wB K.g (ho 1) (hs3 1) (hr3 1) (hm3 1), wB K.g (ho 2) (hs3 2) (hr3 2) (hm3 2), wB K.g (ho 3) (hs3 3) (hr3 3) (hm3 3), wB K.g (ho 4) (hs3 4) (hr3 4) (hm3 4), wB K.g (ho 5) (hs3 5) (hr3 5) (hm3 5), wB K.g (sb 0) (ss 0) (sr 0) (sn 0), wB K.g (sb 1) (ss 1) (sr 1) (sn 1), wM K.g y all kept hist kp slo sav beg prt frm tx len sp tol rd] [(0, .ref b), (1, .ref (x 0)), (2, .ref (y 0)), (3, .int (nI i))] 218 [.int v4]
  refine z_aload_n C 2 rfl rfl dL_law_218 219 rfl ?_
  refine z_callV C [] [.int v4] (tX5_read K.l K.g y all kept hist kp slo sav beg prt frm tx len sp tol rd st r n fr (by first | omega | assumption) (by first | omega | assumption) (by first | omega | assumption) (by first | omega | assumption) (by first | omega | assumption) (by first | omega | assumption)) gL_law_X5_read rfl rfl rfl hdX5_read ⟨Nat.le_of_ble_eq_true rfl, Nat.le_of_ble_eq_true rfl⟩ ⟨Nat.le_of_ble_eq_true rfl, Nat.le_of_ble_eq_true rfl⟩ 15 0 rfl rfl rfl [15] rfl rfl (zlc (N := 16) rfl rfl) [0, 1, 2, 3, 4, 5, 6, 7, 8, 9, 10, 11, 12, 13, 14, 16] rfl (by decide) (fun u : (Int32) × (Int32) × (Nat) × (Nat → Nat → Nat) × (Nat → Nat) × (Nat → Nat) × (Nat) × (Nat) × (Nat) × (Nat → Nat) × (Nat) => match u with | (v, w, n2, r2, all2, hist2, hl2, tl2, sp2, tol2, rd2) => [wX K.g x bd tr q p h sb sv, wB K.g bd st r3 n3, wB K.g tr ts tq tn, wP K.g q a0 a1 a2 a3 a4 a5 a6 a7 s0 s1 s2 s3 s4 s5 s6 s7 s8 s9, wPd K.g p fb tx len3 ex2_1 P2_2 S2_3 H2_4 D2_5, wB K.g fb fs r4 n4, wH K.g h ho kp3 nx3, wB K.g (ho 0) (hs3 0) (hr3 0) (hm3 0), wB K.g (ho 1) (hs3 1) (hr3 1) (hm3 1), wB K.g (ho 2) (hs3 2) (hr3 2) (hm3 2), wB K.g (ho 3) (hs3 3) (hr3 3) (hm3 3), wB K.g (ho 4) (hs3 4) (hr3 4) (hm3 4), wB K.g (ho 5) (hs3 5) (hr3 5) (hm3 5), wB K.g (sb 0) (ss 0) (sr 0) (sn 0), wB K.g (sb 1) (ss 1) (sr 1) (sn 1), wM K.g y all2 kept hist2 hl2 slo sav beg prt frm tx tl2 sp2 tol2 rd2]) (fun _ => rfl) rfl rfl (Nat.le_of_ble_eq_true rfl) dL_law_219 222 rfl (fun u9 hu9 => ?_)
  obtain ⟨v5, w5, n5, r5, al5, hi5, hl5, tl5, sp2_6, tol2_7, rd2_8⟩ := u9
  obtain ⟨hp5, hc5⟩ := hu9
  have hp5 : PAR tx fr len w5 n5 r5 := hp5
  have hc5 : (w5 ≠ (-6) ∧ v5 = (-3) ∧ al5 = all ∧ hi5 = hist ∧ hl5 = kp ∧ tl5 = len) ∨ (w5 = (-6) ∧ st 5 < mND st r5 n5 ∧ v5 = (-5) ∧ al5 = all ∧ hi5 = hist ∧ hl5 = kp ∧ tl5 = len) ∨ (w5 = (-6) ∧ mND st r5 n5 ≤ st 5 ∧ 12 < n + n5 ∧ v5 = (-4) ∧ al5 = all ∧ hi5 = hist ∧ hl5 = kp ∧ tl5 = len) ∨ (w5 = (-6) ∧ mND st r5 n5 ≤ st 5 ∧ n + n5 ≤ 12 ∧ v5 = nI (n + n5) ∧ tl5 = 0 ∧ Bd al5 st (apA r n r5 n5) (n + n5) ∧ HCh all hist kp hi5 hl5) := hc5
  show Z K 104 1616 [wX K.g x bd tr q p h sb sv, wB K.g bd st r3 n3, wB K.g tr ts tq tn, wP K.g q a0 a1 a2 a3 a4 a5 a6 a7 s0 s1 s2 s3 s4 s5 s6 s7 s8 s9, wPd K.g p fb tx len3 ex2_1 P2_2 S2_3 H2_4 D2_5, wB K.g fb fs r4 n4, wH K.g h ho kp3 nx3, wB K.g (ho 0) (hs3 0) (hr3 0) (hm3 0), wB K.g (ho 1) (hs3 1) (hr3 1) (hm3 1), wB K.g (ho 2) (hs3 2) (hr3 2) (hm3 2), wB K.g (ho 3) (hs3 3) (hr3 3) (hm3 3), wB K.g (ho 4) (hs3 4) (hr3 4) (hm3 4), wB K.g (ho 5) (hs3 5) (hr3 5) (hm3 5), wB K.g (sb 0) (ss 0) (sr 0) (sn 0), wB K.g (sb 1) (ss 1) (sr 1) (sn 1), wM K.g y al5 kept hi5 hl5 slo sav beg prt frm tx tl5 sp2_6 tol2_7 rd2_8] [(0, .ref b), (1, .ref (x 0)), (2, .ref (y 0)), (3, .int (nI i))] 222 [.int v5, .int v4]
  obtain ⟨e1, e2, e3, hG3, hB3, hH3, hT3⟩ := RD_iv hG hB hH hT hp4 hc4 hp5 hc5
  subst e1
  subst e2
  subst e3
  refine z_icmpI_eq C 648 dL_law_222 (by decide) 225 rfl (fun c9 => ?_) (fun c9 => absurd rfl c9)
  refine z_iinc C hnL 3 rfl (v := nI (i + 5)) (nI_add _ 5) [1, 2, 3, 0] [(0, .ref b), (1, .ref (x 0)), (2, .ref (y 0)), (3, .int (nI (i + 5)))] rfl (Nat.le_of_ble_eq_true rfl) dL_law_648 651 rfl ?_
  refine z_goto C 18 dL_law_651 (by decide) ?_
  exact kk sv st r3 n3 ts tq tn a0 a1 a2 a3 a4 a5 a6 a7 s0 s1 s2 s3 s4 s5 s6 s7 s8 s9 tx len3 ex2_1 P2_2 S2_3 H2_4 D2_5 fs r4 n4 kp3 nx3 hs3 hr3 hm3 ss sr sn al5 kept hi5 slo sav beg prt frm sp2_6 tol2_7 rd2_8 ⟨hG3, hB3, hH3, hSl, hT3⟩

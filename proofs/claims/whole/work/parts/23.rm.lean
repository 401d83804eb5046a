/-! RM: the reference: printing, sums, order, history. -/
theorem isP_lo {st : Nat → Nat} {r : Nat → Nat → Nat} {R : Nat} {p : Nat → Nat} {n m : Nat} (h : isP st r R p n) (hm : m ≤ n) : isP st r R p m := fun j hj => h j (by omega)
theorem sm_lef {f g : Nat → Nat} : ∀ n, (∀ i, i < n → f i ≤ g i) → sm f n ≤ sm g n
  | 0, _ => Nat.le_refl 0
  | n + 1, h => by
    have h1 := sm_lef n (fun i hi => h i (by omega))
    have h2 := h n (by omega)
    rw [sm_s, sm_s]
    omega
theorem fre_bd {p : Nat → Nat} {j : Nat} (h : ∀ i, i < j → p i ≤ 1200 * (i + 1)) : fre p j ≤ 1200 * j := by
  unfold fre
  split
  · omega
  · have := h (j - 1) (by omega)
    omega
/-- never more racks are taken than there are -/
theorem tkn_leR {st : Nat → Nat} {r : Nat → Nat → Nat} {R : Nat} {p : Nat → Nat} : ∀ {n : Nat}, isP st r R p n → ∀ m, tkn st r p n m ≤ R
  | 0, _, _ => Nat.zero_le _
  | n + 1, h, m => by
    rw [tkn_s]
    by_cases e : p n ≤ m ∧ m < p n + st 4
    · rw [if_pos e]
      have h1 := (h n (by omega)).2.1
      have h2 : tkn st r p n m ≤ tkn st r p n (p n) := by
        unfold tkn
        refine sm_lef n (fun i hi => ?_)
        by_cases q : p i ≤ m ∧ m < p i + st 4
        · have := isP_mono h (show i ≤ n by omega) (by omega)
          rw [if_pos q, if_pos (by omega)]
          exact Nat.le_refl _
        · rw [if_neg q]; exact Nat.zero_le _
      omega
    · rw [if_neg e]
      exact tkn_leR (isP_lo h (by omega)) m
theorem tkn_0 {st : Nat → Nat} {r : Nat → Nat → Nat} {p : Nat → Nat} {m : Nat} : ∀ n, (∀ i, i < n → p i + st 4 ≤ m) → tkn st r p n m = 0
  | 0, _ => rfl
  | n + 1, h => by
    have := h n (by omega)
    rw [tkn_s, tkn_0 n (fun i hi => h i (by omega)), if_neg (by omega)]
theorem tkn_dr {st : Nat → Nat} {r : Nat → Nat → Nat} {R : Nat} {p : Nat → Nat} {j m : Nat} (h : isP st r R p j) (hp : 0 < tkn st r p j m) : m < fre p j + st 4 := by
  refine Nat.lt_of_not_le (fun z => ?_)
  have := tkn_0 (st := st) (r := r) (p := p) (m := m) j (fun i hi => by
    have := isP_fre h hi (Nat.le_refl j)
    omega)
  omega
theorem isP_s {st : Nat → Nat} {r : Nat → Nat → Nat} {R : Nat} {p : Nat → Nat} {j v : Nat} (h : isP st r R p j) (h1 : erl st r p j ≤ v) (h2 : tkn st r p j v + ndj st r j ≤ R) (h3 : ∀ m, erl st r p j ≤ m → m < v → R < tkn st r p j m + ndj st r j) : isP st r R (un p j v) (j + 1) := by
  have hc : ∀ i, i < j → p i = un p j v i := fun i hi => (un_n (by omega)).symm
  intro i hi
  by_cases e : i = j
  · subst e
    rw [un_s, ← erl_cg hc, ← tkn_cg hc]
    exact ⟨h1, h2, fun m a b => by rw [← tkn_cg hc]; exact h3 m a b⟩
  · exact isP_cg h hc i (by omega)
theorem LS_e {st : Nat → Nat} {r : Nat → Nat → Nat} {R n : Nat} {p : Nat → Nat} (h : isP st r R p n) : sm (fun i => p i + st 4 - r 3 i) n = LSm st r R n := sm_cg n (fun i hi => by
  show p i + st 4 - r 3 i = PP st r R n i + st 4 - r 3 i
  rw [PP_e h i hi])
theorem tab_o {v : Int32} (h : rg v.toInt (Int.ofNat 0) (Int.ofNat 6) = false) : v.toInt < 0 ∨ 6 < v.toInt := by
  have : ¬ ((0 : Int) ≤ v.toInt ∧ v.toInt ≤ 6) := rg_n h
  omega
theorem Bd_put {all st : Nat → Nat} {r : Nat → Nat → Nat} {n a b c d : Nat} (h : Bd all st r n) : Bd (un (un (un (un (un all (8 + 4 * n + 0) a) (8 + 4 * n + 1) b) (8 + 4 * n + 2) c) (8 + 4 * n + 3) d) 7 (n + 1)) st (apR r n a b c d) (n + 1) := by
  refine ⟨fun i hi => ?_, un_s, fun j hj k hk => ?_⟩
  · rw [un_n (by omega), un_n (by omega), un_n (by omega), un_n (by omega), un_n (by omega)]
    exact h.1 i hi
  · rw [un_n (by omega)]
    by_cases e : j = n
    · subst e
      rcases (show k = 0 ∨ k = 1 ∨ k = 2 ∨ k = 3 by omega) with rfl | rfl | rfl | rfl
      · rw [un_n (by omega), un_n (by omega), un_n (by omega), un_s]; exact un_s.symm
      · rw [un_n (by omega), un_n (by omega), un_s]; exact un_s.symm
      · rw [un_n (by omega), un_s]; exact un_s.symm
      · rw [un_s]; exact un_s.symm
    · rw [un_n (by omega), un_n (by omega), un_n (by omega), un_n (by omega), h.2.2 j (by omega) k hk]
      exact (un_n e).symm
theorem Bd_cp {all all2 st : Nat → Nat} {r : Nat → Nat → Nat} {n : Nat} (h : Bd all st r n) (hn : n ≤ 12) (e : ∀ u, u < 56 → all2 u = all u) : Bd all2 st r n :=
  ⟨fun i hi => by rw [e i (by omega)]; exact h.1 i hi, by rw [e 7 (by omega)]; exact h.2.1, fun j hj k hk => by rw [e _ (by omega)]; exact h.2.2 j hj k hk⟩
/-! the order -/
def Lx (h : Nat → Nat) (a b : Nat) : Prop := h a < h b ∨ (h a = h b ∧ a < b)
def SO (h f : Nat → Nat) (j : Nat) : Prop := (∀ a, a < j → f a < j) ∧ ∀ a b, a < b → b < j → Lx h (f a) (f b)
def SI (h f : Nat → Nat) (j t : Nat) : Prop := t ≤ j ∧ f t = j ∧ (∀ a, a ≤ j → a ≠ t → f a < j) ∧ (∀ a b, a < b → b ≤ j → a ≠ t → b ≠ t → Lx h (f a) (f b)) ∧ ∀ b, t < b → b ≤ j → h j < h (f b)
def oS (r : Nat → Nat → Nat) (f : Nat → Nat) (j : Nat) : Nat → Nat → Nat := fun k i => if i < j then r k (f i) else r k i
theorem SI_in {h f : Nat → Nat} {j : Nat} (hO : SO h f j) : SI h (un f j j) j j := by
  refine ⟨Nat.le_refl j, un_s, fun a ha hne => ?_, fun a b hab hb h1 h2 => ?_, fun b h1 h2 => by omega⟩
  · rw [un_n hne]; exact hO.1 a (by omega)
  · rw [un_n h1, un_n h2]; exact hO.2 a b hab (by omega)
theorem oS_in {r : Nat → Nat → Nat} {f : Nat → Nat} {j k i : Nat} : oS r f j k i = oS r (un f j j) (j + 1) k i := by
  show (if i < j then r k (f i) else r k i) = if i < j + 1 then r k (un f j j i) else r k i
  by_cases e : i = j
  · subst e; rw [if_neg (by omega), if_pos (by omega), un_s]
  · rw [un_n e]
    by_cases q : i < j
    · rw [if_pos q, if_pos (by omega)]
    · rw [if_neg q, if_neg (by omega)]
theorem SI_st {h f : Nat → Nat} {j t : Nat} (hI : SI h f j t) (ht : 0 < t) (hc : h j < h (f (t - 1))) : SI h (un (un f t (f (t - 1))) (t - 1) (f t)) j (t - 1) := by
  obtain ⟨h1, h2, h3, h4, h5⟩ := hI
  have ev : ∀ a, a ≠ t - 1 → un (un f t (f (t - 1))) (t - 1) (f t) a = f (if a = t then t - 1 else a) := by
    intro a ha
    rw [un_n ha]
    by_cases e : a = t
    · subst e; rw [un_s, if_pos rfl]
    · rw [un_n e, if_neg e]
  refine ⟨by omega, by rw [un_s, h2], fun a ha hne => ?_, fun a b hab hb ha1 hb1 => ?_, fun b hb1 hb2 => ?_⟩
  · rw [ev a hne]
    by_cases e : a = t
    · rw [if_pos e]; exact h3 _ (by omega) (by omega)
    · rw [if_neg e]; exact h3 a ha e
  · rw [ev a ha1, ev b hb1]
    by_cases e : a = t
    · rw [if_pos e, if_neg (by omega)]; exact h4 _ _ (by omega) hb (by omega) (by omega)
    · rw [if_neg e]
      by_cases e2 : b = t
      · rw [if_pos e2]; exact h4 _ _ (by omega) (by omega) e (by omega)
      · rw [if_neg e2]; exact h4 a b hab hb e e2
  · rw [ev b (by omega)]
    by_cases e : b = t
    · rw [if_pos e]; exact hc
    · rw [if_neg e]; exact h5 b (by omega) hb2
theorem oS_st {r : Nat → Nat → Nat} {f : Nat → Nat} {j t k i : Nat} (ht : 0 < t) (htj : t ≤ j) : swp (oS r f (j + 1) k) t (t - 1) i = oS r (un (un f t (f (t - 1))) (t - 1) (f t)) (j + 1) k i := by
  rw [swp_at]
  show (if (if i = t - 1 then t else if i = t then t - 1 else i) < j + 1 then r k (f (if i = t - 1 then t else if i = t then t - 1 else i)) else r k (if i = t - 1 then t else if i = t then t - 1 else i)) = if i < j + 1 then r k (un (un f t (f (t - 1))) (t - 1) (f t) i) else r k i
  by_cases e1 : i = t - 1
  · subst e1; rw [if_pos rfl, if_pos (by omega), if_pos (by omega), un_s]
  · rw [un_n e1]
    by_cases e2 : i = t
    · subst e2; rw [if_neg e1, if_pos rfl, if_pos (by omega), if_pos (by omega), un_s]
    · rw [un_n e2, if_neg e1, if_neg e2]
theorem SI_lt {h f : Nat → Nat} {j t N : Nat} (hI : SI h f j t) (hj : j < N) (_ht : t ≤ j) : ∀ a, a < j + 1 → f a < N := by
  intro a ha
  by_cases e : a = t
  · rw [e, hI.2.1]; exact hj
  · have := hI.2.2.1 a (by omega) e; omega
theorem oS_le {r : Nat → Nat → Nat} {f : Nat → Nat} {j k x N : Nat} (hk : k < 4) (hJ : okJ r N) (hf : ∀ a, a < j → f a < N) (hx : x < N) : oS r f j k x ≤ 3000 := by
  show (if x < j then r k (f x) else r k x) ≤ 3000
  by_cases e : x < j
  · rw [if_pos e]; exact okJ_le hk hJ _ (hf x e)
  · rw [if_neg e]; exact okJ_le hk hJ x hx
theorem oS_pt {r : Nat → Nat → Nat} {f : Nat → Nat} {j t k : Nat} (h1 : t ≤ j) (h2 : f t = j) : oS r f (j + 1) k t = r k j := by
  show (if t < j + 1 then r k (f t) else r k t) = r k j
  rw [if_pos (by omega), h2]
theorem SI_end {h f : Nat → Nat} {j t : Nat} (hI : SI h f j t) (hc : t = 0 ∨ h (f (t - 1)) ≤ h j) : SO h f (j + 1) := by
  obtain ⟨h1, h2, h3, h4, h5⟩ := hI
  refine ⟨fun a ha => ?_, fun a b hab hb => ?_⟩
  · by_cases e : a = t
    · rw [e, h2]; omega
    · have := h3 a (by omega) e; omega
  · by_cases e : a = t
    · rw [e, h2]; exact Or.inl (h5 b (by omega) (by omega))
    · by_cases e2 : b = t
      · rw [e2, h2]
        have h6 := h3 a (by omega) e
        have h7 : h (f a) ≤ h (f (t - 1)) := by
          by_cases e3 : a = t - 1
          · rw [e3]; exact Nat.le_refl _
          · rcases h4 a (t - 1) (by omega) (by omega) e (by omega) with q | q <;> omega
        unfold Lx
        omega
      · exact h4 a b hab (by omega) e e2
theorem SO_plc {h f : Nat → Nat} {n : Nat} (hO : SO h f n) {i : Nat} (hi : i < n) : f i < n ∧ plc h n (f i) = i := by
  refine ⟨hO.1 i hi, ?_⟩
  have up : ∀ i, i < n → i ≤ plc h n (f i) := by
    intro i
    induction i with
    | zero => intro _; exact Nat.zero_le _
    | succ i ih =>
      intro hi
      have h1 := ih (by omega)
      have h2 := plc_mono (h := h) (n := n) (hO.1 i (by omega)) (hO.2 i (i + 1) (by omega) hi)
      omega
  have dn : ∀ d, d < n → plc h n (f (n - 1 - d)) ≤ n - 1 - d := by
    intro d
    induction d with
    | zero => intro hd; have := plc_lt (h := h) (hO.1 (n - 1 - 0) (by omega)); omega
    | succ d ih =>
      intro hd
      have h1 := ih (by omega)
      have h2 := plc_mono (h := h) (n := n) (hO.1 (n - 1 - (d + 1)) (by omega)) (hO.2 (n - 1 - (d + 1)) (n - 1 - d) (by omega) (by omega))
      omega
  have h1 := up i hi
  have h2 := dn (n - 1 - i) (by omega)
  rw [show n - 1 - (n - 1 - i) = i by omega] at h2
  omega
theorem SO_oR {r : Nat → Nat → Nat} {f : Nat → Nat} {q n k x : Nat} (hO : SO (r q) f n) (hx : x < n) : oS r f n k x = oR r q n k x := by
  obtain ⟨h1, h2⟩ := SO_plc hO hx
  show (if x < n then r k (f x) else r k x) = _
  rw [if_pos hx]
  have := oR_at (r := r) (f := q) (k := k) h1
  rw [h2] at this
  exact this.symm
theorem hdX5_isOther : yX5_isOther.cls = RX5 ∧ yX5_isOther.cls ≠ "java/lang/invoke/MethodHandle" ∧ yX5_isOther.cls ≠ "java/lang/invoke/VarHandle" ∧ (parseMethodDescriptor yX5_isOther.desc).map (fun d => d.parameters.length) = some 1 := by decide +kernel
theorem hdX5_keyOf : yX5_keyOf.cls ≠ "java/lang/invoke/MethodHandle" ∧ yX5_keyOf.cls ≠ "java/lang/invoke/VarHandle" ∧ (parseMethodDescriptor yX5_keyOf.desc).map (fun d => d.parameters.length) = some 1 := by decide +kernel
theorem hdX5_late : yX5_late.cls = RX5 ∧ yX5_late.cls ≠ "java/lang/invoke/MethodHandle" ∧ yX5_late.cls ≠ "java/lang/invoke/VarHandle" ∧ (parseMethodDescriptor yX5_late.desc).map (fun d => d.parameters.length) = some 1 := by decide +kernel
theorem hdX5_prints : yX5_prints.cls = RX5 ∧ yX5_prints.cls ≠ "java/lang/invoke/MethodHandle" ∧ yX5_prints.cls ≠ "java/lang/invoke/VarHandle" ∧ (parseMethodDescriptor yX5_prints.desc).map (fun d => d.parameters.length) = some 0 := by decide +kernel
theorem hdX5_readyFor : yX5_readyFor.cls = RX5 ∧ yX5_readyFor.cls ≠ "java/lang/invoke/MethodHandle" ∧ yX5_readyFor.cls ≠ "java/lang/invoke/VarHandle" ∧ (parseMethodDescriptor yX5_readyFor.desc).map (fun d => d.parameters.length) = some 1 := by decide +kernel
theorem hdX5_sumOf : yX5_sumOf.cls = RX5 ∧ yX5_sumOf.cls ≠ "java/lang/invoke/MethodHandle" ∧ yX5_sumOf.cls ≠ "java/lang/invoke/VarHandle" ∧ (parseMethodDescriptor yX5_sumOf.desc).map (fun d => d.parameters.length) = some 1 := by decide +kernel
theorem hdX5_taken : yX5_taken.cls = RX5 ∧ yX5_taken.cls ≠ "java/lang/invoke/MethodHandle" ∧ yX5_taken.cls ≠ "java/lang/invoke/VarHandle" ∧ (parseMethodDescriptor yX5_taken.desc).map (fun d => d.parameters.length) = some 2 := by decide +kernel
theorem hdX5_waits : yX5_waits.cls = RX5 ∧ yX5_waits.cls ≠ "java/lang/invoke/MethodHandle" ∧ yX5_waits.cls ≠ "java/lang/invoke/VarHandle" ∧ (parseMethodDescriptor yX5_waits.desc).map (fun d => d.parameters.length) = some 1 := by decide +kernel
theorem iX5_prints_X5 : ∀ w ∈ u_ws RX5 TX5 14, w ∈ wsX5_prints := fun w h => (List.mem_cons_of_mem _ (List.mem_append_right _ h))
set_option maxHeartbeats 4000000 in
set_option maxRecDepth 100000 in
theorem tX5_prints (l : Launch) (g : zG) (y all kept hist : Nat → Nat) (hl : Nat) (slo sav beg prt frm txt : Nat → Nat) (tl sp : Nat) (tol : Nat → Nat) (rd : Nat) (st : Nat → Nat) (r : Nat → Nat → Nat) (n : Nat) (hn : n ≤ 12) (hB : Bd all st r n) (hS : okS st) (hJ : okJ r n) (hR : okR st r n (st 5)) : Met l yX5_prints wsX5_prints ({ frames := 3, cells := 0, slots := 0, locals := 67 } : Room) (zPre g [.ref (y 0)] [wM g y all kept hist hl slo sav beg prt frm txt tl sp tol rd]) (zQ g (fun u : (Nat → Nat) × (Nat → Nat) => match u with | (beg2, prt2) => none ) (fun u : (Nat → Nat) × (Nat → Nat) => match u with | (beg2, prt2) => (isP st r (st 5) prt2 n) ∧ (∀ i, i < n → beg2 i + (rdy st r i + r 2 i * st 3) = prt2 i) ∧ (∀ i, i < n → prt2 i ≤ 14400)) (fun u : (Nat → Nat) × (Nat → Nat) => match u with | (beg2, prt2) => [wM g y all kept hist hl slo sav beg2 prt2 frm txt tl sp tol rd]) (zA [wM g y all kept hist hl slo sav beg prt frm txt tl sp tol rd])) 0 0 (zA [wM g y all kept hist hl slo sav beg prt frm txt tl sp tol rd]) := by
  refine z_entry (cc := cX5_prints) (maxL := 5) (ret := none) (own := RX5) (by decide) rfl rfl (Nat.le_of_ble_eq_true rfl) [(0, .ref (y 0))] rfl ?_
  intro K hKl hKg hnL C hRx
  subst hKl
  subst hKg
  have h4 := hS.2.2.2.2.2.1
  have h5 := hS.2.2.2.2.2.2.2.1
  refine z_iconst C (v := nI 0) rfl dX5_prints_0 1 rfl ?_
  refine z_istore_n C hnL [1, 0] [(0, .ref (y 0)), (1, .int (nI 0))] rfl rfl (Nat.le_of_ble_eq_true rfl) dX5_prints_1 2 rfl ?_
  refine z_iconst C (v := nI 0) rfl dX5_prints_2 3 rfl ?_
  refine z_istore_n C hnL [1, 2, 0] [(0, .ref (y 0)), (1, .int (nI 0)), (2, .int (nI 0))] rfl rfl (Nat.le_of_ble_eq_true rfl) dX5_prints_3 4 rfl ?_
  have loop4 : ∀ (mu : Nat) (j : Nat) (bg1 : Nat → Nat) (pr1 : Nat → Nat), mu = n - j → j ≤ n → isP st r (st 5) pr1 j → (∀ i, i < j → bg1 i + (rdy st r i + r 2 i * st 3) = pr1 i) → (∀ i, i < j → pr1 i ≤ 1200 * (i + 1)) → Z K 0 0 [wM K.g y all kept hist hl slo sav bg1 pr1 frm txt tl sp tol rd] [(0, .ref (y 0)), (1, .int (nI (fre pr1 j))), (2, .int (nI j))] 4 [] := by
    refine z_ind (fun mu ih4 => ?_)
    intro j bg1 pr1 hmu4 hj hI hE hbd
    refine z_iload_n C 2 rfl rfl dX5_prints_4 5 rfl ?_
    refine z_aload_n C 0 rfl rfl dX5_prints_5 6 rfl ?_
    refine z_get C zc5 iX5_prints_X5 0 0 rfl rfl 0 (Nat.le_of_ble_eq_true rfl) (List.mem_of_getElem? (i := 1) rfl) (v := .ref (y 1)) rfl dX5_prints_6 9 rfl ?_
    refine z_bipush C (v := nI 7) rfl dX5_prints_9 11 rfl ?_
    refine z_iald C (f := all) 0 1 rfl rfl (by omega) (by decide) dX5_prints_11 12 rfl ?_
    refine z_top (show nI (all 7) = nI n from by rw [hB.2.1]) ?_
    refine z_icmp_ge C (by omega) (by omega) 99 dX5_prints_12 (by decide) 15 rfl (fun c_1 => ?_) (fun c_1 => ?_)
    · skip
      obtain rfl : j = n := by omega
      exact z_vret C hRx dX5_prints_99 (bg1, pr1) rfl (⟨hI, hE, fun i hi => by have := hbd i hi; omega⟩) rfl
    · skip
      have hlt : j < n := by omega
      have hrl := run_le hS hJ hlt
      have hrd := rdy_le hS hJ hlt
      have hnj := hR j hlt
      have hnb := ndj_le hS hJ hlt
      have hfb := fre_bd hbd
      refine z_aload_n C 0 rfl rfl dX5_prints_15 16 rfl ?_
      refine z_iload_n C 2 rfl rfl dX5_prints_16 17 rfl ?_
      refine z_callV C [.int (nI j)] [] (tX5_readyFor K.l K.g y all kept hist hl slo sav bg1 pr1 frm txt tl sp tol rd st r n j (by first | omega | assumption) (by first | omega | assumption) (by first | omega | assumption) (by first | omega | assumption) hlt) gX5_prints_X5_readyFor rfl rfl rfl hdX5_readyFor ⟨Nat.le_of_ble_eq_true rfl, Nat.le_of_ble_eq_true rfl⟩ ⟨Nat.zero_le _, Nat.zero_le _⟩ 0 0 rfl rfl rfl [0] rfl rfl (zlc (N := 1) rfl rfl) [1] rfl (by decide) (fun _ : Unit => [wM K.g y all kept hist hl slo sav bg1 pr1 frm txt tl sp tol rd]) (fun _ => rfl) rfl rfl (Nat.le_of_ble_eq_true rfl) dX5_prints_17 20 rfl (fun u9 hu9 => ?_)
      show Z K 0 0 [wM K.g y all kept hist hl slo sav bg1 pr1 frm txt tl sp tol rd] [(0, .ref (y 0)), (1, .int (nI (fre pr1 j))), (2, .int (nI j))] 20 [.int (nI (rdy st r j))]
      refine z_aload_n C 0 rfl rfl dX5_prints_20 21 rfl ?_
      refine z_get C zc5 iX5_prints_X5 0 0 rfl rfl 0 (Nat.le_of_ble_eq_true rfl) (List.mem_of_getElem? (i := 1) rfl) (v := .ref (y 1)) rfl dX5_prints_21 24 rfl ?_
      refine z_iconst C (v := nI 3) rfl dX5_prints_24 25 rfl ?_
      refine z_iald C (f := all) 0 1 rfl rfl (by omega) (by decide) dX5_prints_25 26 rfl ?_
      refine z_top (show nI (all 3) = nI (st 3) from by rw [hB.1 3 (by decide)]) ?_
      refine z_aload_n C 0 rfl rfl dX5_prints_26 27 rfl ?_
      refine z_iload_n C 2 rfl rfl dX5_prints_27 28 rfl ?_
      refine z_iconst C (v := nI 2) rfl dX5_prints_28 29 rfl ?_
      refine z_callV C [.int (nI j), .int (nI 2)] [.int (nI (st 3)), .int (nI (rdy st r j))] (tX5_itsb K.l K.g y all kept hist hl slo sav bg1 pr1 frm txt tl sp tol rd st r n j 2 (by first | omega | assumption) (by first | omega | assumption) (by first | omega | assumption) (by first | omega | assumption)) gX5_prints_X5_its rfl rfl rfl hdX5_its ⟨Nat.le_of_ble_eq_true rfl, Nat.le_of_ble_eq_true rfl⟩ ⟨Nat.zero_le _, Nat.zero_le _⟩ 0 0 rfl rfl rfl [0] rfl rfl (zlc (N := 1) rfl rfl) [1] rfl (by decide) (fun _ : Unit => [wM K.g y all kept hist hl slo sav bg1 pr1 frm txt tl sp tol rd]) (fun _ => rfl) rfl rfl (Nat.le_of_ble_eq_true rfl) dX5_prints_29 32 rfl (fun u9 hu9 => ?_)
      show Z K 0 0 [wM K.g y all kept hist hl slo sav bg1 pr1 frm txt tl sp tol rd] [(0, .ref (y 0)), (1, .int (nI (fre pr1 j))), (2, .int (nI j))] 32 [.int (nI (r 2 j)), .int (nI (st 3)), .int (nI (rdy st r j))]
      refine z_imul C dX5_prints_32 33 rfl ?_
      refine z_iadd C dX5_prints_33 34 rfl ?_
      refine z_top (show nI ((rdy st r j) + ((st 3) * (r 2 j))) = nI (rdy st r j + r 2 j * st 3) from (by rw [Nat.mul_comm (st 3)])) ?_
      refine z_istore_n C hnL [1, 2, 3, 0] [(0, .ref (y 0)), (1, .int (nI (fre pr1 j))), (2, .int (nI j)), (3, .int (nI (rdy st r j + r 2 j * st 3)))] rfl rfl (Nat.le_of_ble_eq_true rfl) dX5_prints_34 35 rfl ?_
      refine z_iload_n C 1 rfl rfl dX5_prints_35 36 rfl ?_
      refine z_istore C hnL [1, 2, 3, 4, 0] [(0, .ref (y 0)), (1, .int (nI (fre pr1 j))), (2, .int (nI j)), (3, .int (nI (rdy st r j + r 2 j * st 3))), (4, .int (nI (fre pr1 j)))] rfl (Nat.le_of_ble_eq_true rfl) dX5_prints_36 38 rfl ?_
      have loop38 : ∀ (mu : Nat) (w : Nat), mu = fre pr1 j + st 4 - w → fre pr1 j ≤ w → w ≤ fre pr1 j + st 4 → (∀ m, erl st r pr1 j ≤ m → m < w + (rdy st r j + r 2 j * st 3) → st 5 < tkn st r pr1 j m + ndj st r j) → Z K 0 0 [wM K.g y all kept hist hl slo sav bg1 pr1 frm txt tl sp tol rd] [(0, .ref (y 0)), (1, .int (nI (fre pr1 j))), (2, .int (nI j)), (3, .int (nI (rdy st r j + r 2 j * st 3))), (4, .int (nI w))] 38 [] := by
        refine z_ind (fun mu ih38 => ?_)
        intro w hmu38 hw1 hw2 hs
        have htl := tkn_leR hI (w + (rdy st r j + r 2 j * st 3))
        refine z_aload_n C 0 rfl rfl dX5_prints_38 39 rfl ?_
        refine z_get C zc5 iX5_prints_X5 0 0 rfl rfl 0 (Nat.le_of_ble_eq_true rfl) (List.mem_of_getElem? (i := 1) rfl) (v := .ref (y 1)) rfl dX5_prints_39 42 rfl ?_
        refine z_iconst C (v := nI 5) rfl dX5_prints_42 43 rfl ?_
        refine z_iald C (f := all) 0 1 rfl rfl (by omega) (by decide) dX5_prints_43 44 rfl ?_
        refine z_top (show nI (all 5) = nI (st 5) from by rw [hB.1 5 (by decide)]) ?_
        refine z_aload_n C 0 rfl rfl dX5_prints_44 45 rfl ?_
        refine z_iload_n C 2 rfl rfl dX5_prints_45 46 rfl ?_
        refine z_iload C 4 rfl dX5_prints_46 48 rfl ?_
        refine z_iload_n C 3 rfl rfl dX5_prints_48 49 rfl ?_
        refine z_iadd C dX5_prints_49 50 rfl ?_
        refine z_callV C [.int (nI j), .int (nI (w + (rdy st r j + r 2 j * st 3)))] [.int (nI (st 5))] (tX5_taken K.l K.g y all kept hist hl slo sav bg1 pr1 frm txt tl sp tol rd st r n j (w + (rdy st r j + r 2 j * st 3)) (by first | omega | assumption) (by first | omega | assumption) (by first | omega | assumption) (by first | omega | assumption) (by first | omega | assumption) (by first | omega | assumption) (fun i hi => by have := hbd i hi; omega)) gX5_prints_X5_taken rfl rfl rfl hdX5_taken ⟨Nat.le_of_ble_eq_true rfl, Nat.le_of_ble_eq_true rfl⟩ ⟨Nat.zero_le _, Nat.zero_le _⟩ 0 0 rfl rfl rfl [0] rfl rfl (zlc (N := 1) rfl rfl) [1] rfl (by decide) (fun _ : Unit => [wM K.g y all kept hist hl slo sav bg1 pr1 frm txt tl sp tol rd]) (fun _ => rfl) rfl rfl (Nat.le_of_ble_eq_true rfl) dX5_prints_50 53 rfl (fun u9 hu9 => ?_)
        show Z K 0 0 [wM K.g y all kept hist hl slo sav bg1 pr1 frm txt tl sp tol rd] [(0, .ref (y 0)), (1, .int (nI (fre pr1 j))), (2, .int (nI j)), (3, .int (nI (rdy st r j + r 2 j * st 3))), (4, .int (nI w))] 53 [.int (nI (tkn st r pr1 j (w + (rdy st r j + r 2 j * st 3)))), .int (nI (st 5))]
        refine z_isub C (by omega) dX5_prints_53 54 rfl ?_
        refine z_aload_n C 0 rfl rfl dX5_prints_54 55 rfl ?_
        refine z_iload_n C 2 rfl rfl dX5_prints_55 56 rfl ?_
        refine z_callV C [.int (nI j)] [.int (nI ((st 5) - (tkn st r pr1 j (w + (rdy st r j + r 2 j * st 3)))))] (tX5_racksOf K.l K.g y all kept hist hl slo sav bg1 pr1 frm txt tl sp tol rd st r n j (by first | omega | assumption) (by first | omega | assumption) (by first | omega | assumption) (by first | omega | assumption) (by first | omega | assumption)) gX5_prints_X5_racksOf rfl rfl rfl hdX5_racksOf ⟨Nat.le_of_ble_eq_true rfl, Nat.le_of_ble_eq_true rfl⟩ ⟨Nat.zero_le _, Nat.zero_le _⟩ 0 0 rfl rfl rfl [0] rfl rfl (zlc (N := 1) rfl rfl) [1] rfl (by decide) (fun _ : Unit => [wM K.g y all kept hist hl slo sav bg1 pr1 frm txt tl sp tol rd]) (fun _ => rfl) rfl rfl (Nat.le_of_ble_eq_true rfl) dX5_prints_56 59 rfl (fun u9 hu9 => ?_)
        show Z K 0 0 [wM K.g y all kept hist hl slo sav bg1 pr1 frm txt tl sp tol rd] [(0, .ref (y 0)), (1, .int (nI (fre pr1 j))), (2, .int (nI j)), (3, .int (nI (rdy st r j + r 2 j * st 3))), (4, .int (nI w))] 59 [.int (nI (ndj st r j)), .int (nI ((st 5) - (tkn st r pr1 j (w + (rdy st r j + r 2 j * st 3)))))]
        refine z_icmp_ge C (by omega) (by omega) 68 dX5_prints_59 (by decide) 62 rfl (fun c_2 => ?_) (fun c_2 => ?_)
        · skip
          refine z_aload_n C 0 rfl rfl dX5_prints_68 69 rfl ?_
          refine z_get C zc5 iX5_prints_X5 0 0 rfl rfl 6 (Nat.le_of_ble_eq_true rfl) (List.mem_of_getElem? (i := 2) rfl) (v := .ref (y 6)) rfl dX5_prints_69 72 rfl ?_
          refine z_iload_n C 2 rfl rfl dX5_prints_72 73 rfl ?_
          refine z_iload C 4 rfl dX5_prints_73 75 rfl ?_
          refine z_iast C (f := bg1) 0 6 rfl rfl (by omega) (by decide) (wM K.g y all kept hist hl slo sav (un bg1 j w) pr1 frm txt tl sp tol rd) rfl [wM K.g y all kept hist hl slo sav (un bg1 j w) pr1 frm txt tl sp tol rd] rfl dX5_prints_75 76 rfl ?_
          refine z_aload_n C 0 rfl rfl dX5_prints_76 77 rfl ?_
          refine z_get C zc5 iX5_prints_X5 0 0 rfl rfl 7 (Nat.le_of_ble_eq_true rfl) (List.mem_of_getElem? (i := 3) rfl) (v := .ref (y 7)) rfl dX5_prints_77 80 rfl ?_
          refine z_iload_n C 2 rfl rfl dX5_prints_80 81 rfl ?_
          refine z_iload C 4 rfl dX5_prints_81 83 rfl ?_
          refine z_iload_n C 3 rfl rfl dX5_prints_83 84 rfl ?_
          refine z_iadd C dX5_prints_84 85 rfl ?_
          refine z_iast C (f := pr1) 0 7 rfl rfl (by omega) (by decide) (wM K.g y all kept hist hl slo sav (un bg1 j w) (un pr1 j (w + (rdy st r j + r 2 j * st 3))) frm txt tl sp tol rd) rfl [wM K.g y all kept hist hl slo sav (un bg1 j w) (un pr1 j (w + (rdy st r j + r 2 j * st 3))) frm txt tl sp tol rd] rfl dX5_prints_85 86 rfl ?_
          refine z_aload_n C 0 rfl rfl dX5_prints_86 87 rfl ?_
          refine z_get C zc5 iX5_prints_X5 0 0 rfl rfl 7 (Nat.le_of_ble_eq_true rfl) (List.mem_of_getElem? (i := 3) rfl) (v := .ref (y 7)) rfl dX5_prints_87 90 rfl ?_
          refine z_iload_n C 2 rfl rfl dX5_prints_90 91 rfl ?_
          refine z_iald C (f := (un pr1 j (w + (rdy st r j + r 2 j * st 3)))) 0 7 rfl rfl (by omega) (by decide) dX5_prints_91 92 rfl ?_
          refine z_top (congrArg nI un_s) ?_
          refine z_top (show nI (w + (rdy st r j + r 2 j * st 3)) = nI (fre (un pr1 j (w + (rdy st r j + r 2 j * st 3))) (j + 1)) from (by unfold fre; rw [if_neg (by omega)]; (first | rfl | (rw [show j + 1 - 1 = j from rfl, un_s])))) ?_
          refine z_istore_n C hnL [1, 0, 2, 3, 4] [(0, .ref (y 0)), (1, .int (nI (fre (un pr1 j (w + (rdy st r j + r 2 j * st 3))) (j + 1)))), (2, .int (nI j)), (3, .int (nI (rdy st r j + r 2 j * st 3))), (4, .int (nI w))] rfl rfl (Nat.le_of_ble_eq_true rfl) dX5_prints_92 93 rfl ?_
          refine z_iinc C hnL 2 rfl (v := (nI (j + 1))) (nI_1 _) [1, 2, 0, 3, 4] [(0, .ref (y 0)), (1, .int (nI (fre (un pr1 j (w + (rdy st r j + r 2 j * st 3))) (j + 1)))), (2, .int (nI (j + 1))), (3, .int (nI (rdy st r j + r 2 j * st 3))), (4, .int (nI w))] rfl (Nat.le_of_ble_eq_true rfl) dX5_prints_93 96 rfl ?_
          refine z_goto C 4 dX5_prints_96 (by decide) ?_
          refine z_lv [0, 1, 2] [(0, .ref (y 0)), (1, .int (nI (fre (un pr1 j (w + (rdy st r j + r 2 j * st 3))) (j + 1)))), (2, .int (nI (j + 1)))] rfl ?_
          exact ih4 _ (by omega) (j + 1) (un bg1 j w) (un pr1 j (w + (rdy st r j + r 2 j * st 3))) rfl (by omega) (isP_s hI (by unfold erl; omega) (by omega) (fun m h1 h2 => hs m h1 h2)) (fun i hi => by
      by_cases e : i = j
      · subst e; rw [un_s, un_s]
      · rw [un_n e, un_n e]; exact hE i (by omega)) (fun i hi => by
      by_cases e : i = j
      · subst e; rw [un_s]; omega
      · rw [un_n e]; exact hbd i (by omega))
        · skip
          have hwd : w + (rdy st r j + r 2 j * st 3) < fre pr1 j + st 4 := tkn_dr hI (by omega)
          refine z_iinc C hnL 4 rfl (v := (nI (w + 1))) (nI_1 _) [1, 2, 3, 4, 0] [(0, .ref (y 0)), (1, .int (nI (fre pr1 j))), (2, .int (nI j)), (3, .int (nI (rdy st r j + r 2 j * st 3))), (4, .int (nI (w + 1)))] rfl (Nat.le_of_ble_eq_true rfl) dX5_prints_62 65 rfl ?_
          refine z_goto C 38 dX5_prints_65 (by decide) ?_
          exact ih38 _ (by omega) (w + 1) rfl (by omega) (by omega) (fun m h1 h2 => by
      by_cases e : m < w + (rdy st r j + r 2 j * st 3)
      · exact hs m h1 e
      · obtain rfl : m = w + (rdy st r j + r 2 j * st 3) := by omega
        omega)
      exact loop38 _ (fre pr1 j) rfl (by omega) (by omega) (fun m h1 h2 => by unfold erl at h1; omega)
  exact loop4 _ 0 beg prt rfl (by omega) (fun i hi => by omega) (fun i hi => by omega) (fun i hi => by omega)

theorem iX5_sumOf_X5 : ∀ w ∈ u_ws RX5 TX5 14, w ∈ wsX5_sumOf := fun w h => (List.mem_cons_of_mem _ (List.mem_append_right _ h))
set_option maxHeartbeats 4000000 in
set_option maxRecDepth 100000 in
theorem tX5_sumOf_8 (l : Launch) (g : zG) (y all kept hist : Nat → Nat) (hl : Nat) (slo sav beg prt frm txt : Nat → Nat) (tl sp : Nat) (tol : Nat → Nat) (rd : Nat) (st : Nat → Nat) (r : Nat → Nat → Nat) (n : Nat) (hn : n ≤ 12) (hB : Bd all st r n) (hS : okS st) (hJ : okJ r n) (hp : ∀ i, i < n → prt i ≤ 14400) : Met l yX5_sumOf wsX5_sumOf ({ frames := 2, cells := 0, slots := 0, locals := 44 } : Room) (zPre g [.ref (y 0), .int (nI 8)] [wM g y all kept hist hl slo sav beg prt frm txt tl sp tol rd]) (zQ g (fun _ : Unit => some (.int (nI (sm (r 2) n))) ) (fun _ : Unit => True) (fun _ : Unit => [wM g y all kept hist hl slo sav beg prt frm txt tl sp tol rd]) (zA [wM g y all kept hist hl slo sav beg prt frm txt tl sp tol rd])) 0 0 (zA [wM g y all kept hist hl slo sav beg prt frm txt tl sp tol rd]) := by
  refine z_entry (cc := cX5_sumOf) (maxL := 4) (ret := (some .int)) (own := RX5) (by decide) rfl rfl (Nat.le_of_ble_eq_true rfl) [(0, .ref (y 0)), (1, .int (nI 8))] rfl ?_
  intro K hKl hKg hnL C hRx
  subst hKl
  subst hKg
  refine z_iconst C (v := nI 0) rfl dX5_sumOf_0 1 rfl ?_
  refine z_istore_n C hnL [1, 2, 0] [(0, .ref (y 0)), (1, .int (nI 8)), (2, .int (nI 0))] rfl rfl (Nat.le_of_ble_eq_true rfl) dX5_sumOf_1 2 rfl ?_
  refine z_iconst C (v := nI 0) rfl dX5_sumOf_2 3 rfl ?_
  refine z_istore_n C hnL [1, 2, 3, 0] [(0, .ref (y 0)), (1, .int (nI 8)), (2, .int (nI 0)), (3, .int (nI 0))] rfl rfl (Nat.le_of_ble_eq_true rfl) dX5_sumOf_3 4 rfl ?_
  have loop4 : ∀ (mu : Nat) (i : Nat) (x : Nat), mu = n - i → i ≤ n → x = sm (r 2) i → Z K 0 0 [wM K.g y all kept hist hl slo sav beg prt frm txt tl sp tol rd] [(0, .ref (y 0)), (1, .int (nI 8)), (2, .int (nI x)), (3, .int (nI i))] 4 [] := by
    refine z_ind (fun mu ih4 => ?_)
    intro i x hmu4 hi hx
    refine z_iload_n C 3 rfl rfl dX5_sumOf_4 5 rfl ?_
    refine z_aload_n C 0 rfl rfl dX5_sumOf_5 6 rfl ?_
    refine z_get C zc5 iX5_sumOf_X5 0 0 rfl rfl 0 (Nat.le_of_ble_eq_true rfl) (List.mem_of_getElem? (i := 1) rfl) (v := .ref (y 1)) rfl dX5_sumOf_6 9 rfl ?_
    refine z_bipush C (v := nI 7) rfl dX5_sumOf_9 11 rfl ?_
    refine z_iald C (f := all) 0 1 rfl rfl (by omega) (by decide) dX5_sumOf_11 12 rfl ?_
    refine z_top (show nI (all 7) = nI n from by rw [hB.2.1]) ?_
    refine z_icmp_ge C (by omega) (by omega) 108 dX5_sumOf_12 (by decide) 15 rfl (fun c_1 => ?_) (fun c_1 => ?_)
    · skip
      refine z_iload_n C 2 rfl rfl dX5_sumOf_108 109 rfl ?_
      obtain rfl : i = n := by omega
      exact z_iret C hRx dX5_sumOf_109 () (by rw [hx]) trivial rfl
    · skip
      have hlt : i < n := by omega
      have hpi := hp i hlt
      have hdb := (hJ i hlt).2.2.2.2
      have h4 := hS.2.2.2.2.2.1
      refine z_iload_n C 2 rfl rfl dX5_sumOf_15 16 rfl ?_
      refine z_iload_n C 1 rfl rfl dX5_sumOf_16 17 rfl ?_
      refine z_bipush C (v := nI 8) rfl dX5_sumOf_17 19 rfl ?_
      refine z_icmp_ne C (by omega) (by omega) 31 dX5_sumOf_19 (by decide) 22 rfl (fun c_2 => ?_) (fun c_2 => ?_)
      · exfalso; omega
      refine z_aload_n C 0 rfl rfl dX5_sumOf_22 23 rfl ?_
      refine z_iload_n C 3 rfl rfl dX5_sumOf_23 24 rfl ?_
      refine z_iconst C (v := nI 2) rfl dX5_sumOf_24 25 rfl ?_
      refine z_callV C [.int (nI i), .int (nI 2)] [.int (nI x)] (tX5_itsb K.l K.g y all kept hist hl slo sav beg prt frm txt tl sp tol rd st r n i 2 (by first | omega | assumption) (by first | omega | assumption) (by first | omega | assumption) (by first | omega | assumption)) gX5_sumOf_X5_its rfl rfl rfl hdX5_its ⟨Nat.le_of_ble_eq_true rfl, Nat.le_of_ble_eq_true rfl⟩ ⟨Nat.zero_le _, Nat.zero_le _⟩ 0 0 rfl rfl rfl [0] rfl rfl (zlc (N := 1) rfl rfl) [1] rfl (by decide) (fun _ : Unit => [wM K.g y all kept hist hl slo sav beg prt frm txt tl sp tol rd]) (fun _ => rfl) rfl rfl (Nat.le_of_ble_eq_true rfl) dX5_sumOf_25 28 rfl (fun u9 hu9 => ?_)
      show Z K 0 0 [wM K.g y all kept hist hl slo sav beg prt frm txt tl sp tol rd] [(0, .ref (y 0)), (1, .int (nI 8)), (2, .int (nI x)), (3, .int (nI i))] 28 [.int (nI (r 2 i)), .int (nI x)]
      refine z_goto C 100 dX5_sumOf_28 (by decide) ?_
      refine z_iadd C dX5_sumOf_100 101 rfl ?_
      refine z_istore_n C hnL [1, 2, 0, 3] [(0, .ref (y 0)), (1, .int (nI 8)), (2, .int (nI (x + (r 2 i)))), (3, .int (nI i))] rfl rfl (Nat.le_of_ble_eq_true rfl) dX5_sumOf_101 102 rfl ?_
      refine z_iinc C hnL 3 rfl (v := (nI (i + 1))) (nI_1 _) [1, 2, 3, 0] [(0, .ref (y 0)), (1, .int (nI 8)), (2, .int (nI (x + (r 2 i)))), (3, .int (nI (i + 1)))] rfl (Nat.le_of_ble_eq_true rfl) dX5_sumOf_102 105 rfl ?_
      refine z_goto C 4 dX5_sumOf_105 (by decide) ?_
      exact ih4 _ (by omega) (i + 1) (x + (r 2 i)) rfl (by omega) (by rw [hx]; rfl)
  exact loop4 _ 0 0 rfl (by omega) rfl

set_option maxHeartbeats 4000000 in
set_option maxRecDepth 100000 in
theorem tX5_sumOf_11 (l : Launch) (g : zG) (y all kept hist : Nat → Nat) (hl : Nat) (slo sav beg prt frm txt : Nat → Nat) (tl sp : Nat) (tol : Nat → Nat) (rd : Nat) (st : Nat → Nat) (r : Nat → Nat → Nat) (n : Nat) (hn : n ≤ 12) (hB : Bd all st r n) (hS : okS st) (hJ : okJ r n) (hp : ∀ i, i < n → prt i ≤ 14400) : Met l yX5_sumOf wsX5_sumOf ({ frames := 2, cells := 0, slots := 0, locals := 44 } : Room) (zPre g [.ref (y 0), .int (nI 11)] [wM g y all kept hist hl slo sav beg prt frm txt tl sp tol rd]) (zQ g (fun _ : Unit => some (.int (nI (ct (fun i => decide (0 < prt i + st 4 - r 3 i)) n))) ) (fun _ : Unit => True) (fun _ : Unit => [wM g y all kept hist hl slo sav beg prt frm txt tl sp tol rd]) (zA [wM g y all kept hist hl slo sav beg prt frm txt tl sp tol rd])) 0 0 (zA [wM g y all kept hist hl slo sav beg prt frm txt tl sp tol rd]) := by
  refine z_entry (cc := cX5_sumOf) (maxL := 4) (ret := (some .int)) (own := RX5) (by decide) rfl rfl (Nat.le_of_ble_eq_true rfl) [(0, .ref (y 0)), (1, .int (nI 11))] rfl ?_
  intro K hKl hKg hnL C hRx
  subst hKl
  subst hKg
  refine z_iconst C (v := nI 0) rfl dX5_sumOf_0 1 rfl ?_
  refine z_istore_n C hnL [1, 2, 0] [(0, .ref (y 0)), (1, .int (nI 11)), (2, .int (nI 0))] rfl rfl (Nat.le_of_ble_eq_true rfl) dX5_sumOf_1 2 rfl ?_
  refine z_iconst C (v := nI 0) rfl dX5_sumOf_2 3 rfl ?_
  refine z_istore_n C hnL [1, 2, 3, 0] [(0, .ref (y 0)), (1, .int (nI 11)), (2, .int (nI 0)), (3, .int (nI 0))] rfl rfl (Nat.le_of_ble_eq_true rfl) dX5_sumOf_3 4 rfl ?_
  have loop4 : ∀ (mu : Nat) (i : Nat) (x : Nat), mu = n - i → i ≤ n → x = ct (fun i => decide (0 < prt i + st 4 - r 3 i)) i → Z K 0 0 [wM K.g y all kept hist hl slo sav beg prt frm txt tl sp tol rd] [(0, .ref (y 0)), (1, .int (nI 11)), (2, .int (nI x)), (3, .int (nI i))] 4 [] := by
    refine z_ind (fun mu ih4 => ?_)
    intro i x hmu4 hi hx
    refine z_iload_n C 3 rfl rfl dX5_sumOf_4 5 rfl ?_
    refine z_aload_n C 0 rfl rfl dX5_sumOf_5 6 rfl ?_
    refine z_get C zc5 iX5_sumOf_X5 0 0 rfl rfl 0 (Nat.le_of_ble_eq_true rfl) (List.mem_of_getElem? (i := 1) rfl) (v := .ref (y 1)) rfl dX5_sumOf_6 9 rfl ?_
    refine z_bipush C (v := nI 7) rfl dX5_sumOf_9 11 rfl ?_
    refine z_iald C (f := all) 0 1 rfl rfl (by omega) (by decide) dX5_sumOf_11 12 rfl ?_
    refine z_top (show nI (all 7) = nI n from by rw [hB.2.1]) ?_
    refine z_icmp_ge C (by omega) (by omega) 108 dX5_sumOf_12 (by decide) 15 rfl (fun c_1 => ?_) (fun c_1 => ?_)
    · skip
      refine z_iload_n C 2 rfl rfl dX5_sumOf_108 109 rfl ?_
      obtain rfl : i = n := by omega
      exact z_iret C hRx dX5_sumOf_109 () (by rw [hx]) trivial rfl
    · skip
      have hlt : i < n := by omega
      have hpi := hp i hlt
      have hdb := (hJ i hlt).2.2.2.2
      have h4 := hS.2.2.2.2.2.1
      refine z_iload_n C 2 rfl rfl dX5_sumOf_15 16 rfl ?_
      refine z_iload_n C 1 rfl rfl dX5_sumOf_16 17 rfl ?_
      refine z_bipush C (v := nI 8) rfl dX5_sumOf_17 19 rfl ?_
      refine z_icmp_ne C (by omega) (by omega) 31 dX5_sumOf_19 (by decide) 22 rfl (fun c_2 => ?_) (fun c_2 => ?_)
      rotate_left
      · exfalso; omega
      refine z_iload_n C 1 rfl rfl dX5_sumOf_31 32 rfl ?_
      refine z_bipush C (v := nI 11) rfl dX5_sumOf_32 34 rfl ?_
      refine z_icmp_ne C (by omega) (by omega) 53 dX5_sumOf_34 (by decide) 37 rfl (fun c_3 => ?_) (fun c_3 => ?_)
      · exfalso; omega
      refine z_aload_n C 0 rfl rfl dX5_sumOf_37 38 rfl ?_
      refine z_iload_n C 3 rfl rfl dX5_sumOf_38 39 rfl ?_
      refine z_callV C [.int (nI i)] [.int (nI x)] (tX5_late K.l K.g y all kept hist hl slo sav beg prt frm txt tl sp tol rd st r n i (by first | omega | assumption) (by first | omega | assumption) (by first | omega | assumption) (by first | omega | assumption) (by first | omega | assumption) (fun i hi => by have := hp i (by omega); omega)) gX5_sumOf_X5_late rfl rfl rfl hdX5_late ⟨Nat.le_of_ble_eq_true rfl, Nat.le_of_ble_eq_true rfl⟩ ⟨Nat.zero_le _, Nat.zero_le _⟩ 0 0 rfl rfl rfl [0] rfl rfl (zlc (N := 1) rfl rfl) [1] rfl (by decide) (fun _ : Unit => [wM K.g y all kept hist hl slo sav beg prt frm txt tl sp tol rd]) (fun _ => rfl) rfl rfl (Nat.le_of_ble_eq_true rfl) dX5_sumOf_39 42 rfl (fun u9 hu9 => ?_)
      show Z K 0 0 [wM K.g y all kept hist hl slo sav beg prt frm txt tl sp tol rd] [(0, .ref (y 0)), (1, .int (nI 11)), (2, .int (nI x)), (3, .int (nI i))] 42 [.int (nI (prt i + st 4 - r 3 i)), .int (nI x)]
      refine z_if_le C (by omega) 49 dX5_sumOf_42 (by decide) 45 rfl (fun c_4 => ?_) (fun c_4 => ?_)
      · skip
        refine z_iconst C (v := nI 0) rfl dX5_sumOf_49 50 rfl ?_
        refine z_goto C 100 dX5_sumOf_50 (by decide) ?_
        refine z_iadd C dX5_sumOf_100 101 rfl ?_
        refine z_istore_n C hnL [1, 2, 0, 3] [(0, .ref (y 0)), (1, .int (nI 11)), (2, .int (nI (x + 0))), (3, .int (nI i))] rfl rfl (Nat.le_of_ble_eq_true rfl) dX5_sumOf_101 102 rfl ?_
        refine z_iinc C hnL 3 rfl (v := (nI (i + 1))) (nI_1 _) [1, 2, 3, 0] [(0, .ref (y 0)), (1, .int (nI 11)), (2, .int (nI (x + 0))), (3, .int (nI (i + 1)))] rfl (Nat.le_of_ble_eq_true rfl) dX5_sumOf_102 105 rfl ?_
        refine z_goto C 4 dX5_sumOf_105 (by decide) ?_
        exact ih4 _ (by omega) (i + 1) (x + 0) rfl (by omega) (by rw [hx]; exact (ct_f (decide_eq_false (by omega))).symm)
      · skip
        refine z_iconst C (v := nI 1) rfl dX5_sumOf_45 46 rfl ?_
        refine z_goto C 100 dX5_sumOf_46 (by decide) ?_
        refine z_iadd C dX5_sumOf_100 101 rfl ?_
        refine z_istore_n C hnL [1, 2, 0, 3] [(0, .ref (y 0)), (1, .int (nI 11)), (2, .int (nI (x + 1))), (3, .int (nI i))] rfl rfl (Nat.le_of_ble_eq_true rfl) dX5_sumOf_101 102 rfl ?_
        refine z_iinc C hnL 3 rfl (v := (nI (i + 1))) (nI_1 _) [1, 2, 3, 0] [(0, .ref (y 0)), (1, .int (nI 11)), (2, .int (nI (x + 1))), (3, .int (nI (i + 1)))] rfl (Nat.le_of_ble_eq_true rfl) dX5_sumOf_102 105 rfl ?_
        refine z_goto C 4 dX5_sumOf_105 (by decide) ?_
        exact ih4 _ (by omega) (i + 1) (x + 1) rfl (by omega) (by rw [hx]; exact (ct_s (decide_eq_true (by omega))).symm)
  exact loop4 _ 0 0 rfl (by omega) rfl

set_option maxHeartbeats 4000000 in
set_option maxRecDepth 100000 in
theorem tX5_sumOf_12 (l : Launch) (g : zG) (y all kept hist : Nat → Nat) (hl : Nat) (slo sav beg prt frm txt : Nat → Nat) (tl sp : Nat) (tol : Nat → Nat) (rd : Nat) (st : Nat → Nat) (r : Nat → Nat → Nat) (n : Nat) (hn : n ≤ 12) (hB : Bd all st r n) (hS : okS st) (hJ : okJ r n) (hp : ∀ i, i < n → prt i ≤ 14400) : Met l yX5_sumOf wsX5_sumOf ({ frames := 2, cells := 0, slots := 0, locals := 44 } : Room) (zPre g [.ref (y 0), .int (nI 12)] [wM g y all kept hist hl slo sav beg prt frm txt tl sp tol rd]) (zQ g (fun _ : Unit => some (.int (nI (sm (fun i => prt i + st 4 - r 3 i) n))) ) (fun _ : Unit => True) (fun _ : Unit => [wM g y all kept hist hl slo sav beg prt frm txt tl sp tol rd]) (zA [wM g y all kept hist hl slo sav beg prt frm txt tl sp tol rd])) 0 0 (zA [wM g y all kept hist hl slo sav beg prt frm txt tl sp tol rd]) := by
  refine z_entry (cc := cX5_sumOf) (maxL := 4) (ret := (some .int)) (own := RX5) (by decide) rfl rfl (Nat.le_of_ble_eq_true rfl) [(0, .ref (y 0)), (1, .int (nI 12))] rfl ?_
  intro K hKl hKg hnL C hRx
  subst hKl
  subst hKg
  refine z_iconst C (v := nI 0) rfl dX5_sumOf_0 1 rfl ?_
  refine z_istore_n C hnL [1, 2, 0] [(0, .ref (y 0)), (1, .int (nI 12)), (2, .int (nI 0))] rfl rfl (Nat.le_of_ble_eq_true rfl) dX5_sumOf_1 2 rfl ?_
  refine z_iconst C (v := nI 0) rfl dX5_sumOf_2 3 rfl ?_
  refine z_istore_n C hnL [1, 2, 3, 0] [(0, .ref (y 0)), (1, .int (nI 12)), (2, .int (nI 0)), (3, .int (nI 0))] rfl rfl (Nat.le_of_ble_eq_true rfl) dX5_sumOf_3 4 rfl ?_
  have loop4 : ∀ (mu : Nat) (i : Nat) (x : Nat), mu = n - i → i ≤ n → x = sm (fun i => prt i + st 4 - r 3 i) i → Z K 0 0 [wM K.g y all kept hist hl slo sav beg prt frm txt tl sp tol rd] [(0, .ref (y 0)), (1, .int (nI 12)), (2, .int (nI x)), (3, .int (nI i))] 4 [] := by
    refine z_ind (fun mu ih4 => ?_)
    intro i x hmu4 hi hx
    refine z_iload_n C 3 rfl rfl dX5_sumOf_4 5 rfl ?_
    refine z_aload_n C 0 rfl rfl dX5_sumOf_5 6 rfl ?_
    refine z_get C zc5 iX5_sumOf_X5 0 0 rfl rfl 0 (Nat.le_of_ble_eq_true rfl) (List.mem_of_getElem? (i := 1) rfl) (v := .ref (y 1)) rfl dX5_sumOf_6 9 rfl ?_
    refine z_bipush C (v := nI 7) rfl dX5_sumOf_9 11 rfl ?_
    refine z_iald C (f := all) 0 1 rfl rfl (by omega) (by decide) dX5_sumOf_11 12 rfl ?_
    refine z_top (show nI (all 7) = nI n from by rw [hB.2.1]) ?_
    refine z_icmp_ge C (by omega) (by omega) 108 dX5_sumOf_12 (by decide) 15 rfl (fun c_1 => ?_) (fun c_1 => ?_)
    · skip
      refine z_iload_n C 2 rfl rfl dX5_sumOf_108 109 rfl ?_
      obtain rfl : i = n := by omega
      exact z_iret C hRx dX5_sumOf_109 () (by rw [hx]) trivial rfl
    · skip
      have hlt : i < n := by omega
      have hpi := hp i hlt
      have hdb := (hJ i hlt).2.2.2.2
      have h4 := hS.2.2.2.2.2.1
      refine z_iload_n C 2 rfl rfl dX5_sumOf_15 16 rfl ?_
      refine z_iload_n C 1 rfl rfl dX5_sumOf_16 17 rfl ?_
      refine z_bipush C (v := nI 8) rfl dX5_sumOf_17 19 rfl ?_
      refine z_icmp_ne C (by omega) (by omega) 31 dX5_sumOf_19 (by decide) 22 rfl (fun c_2 => ?_) (fun c_2 => ?_)
      rotate_left
      · exfalso; omega
      refine z_iload_n C 1 rfl rfl dX5_sumOf_31 32 rfl ?_
      refine z_bipush C (v := nI 11) rfl dX5_sumOf_32 34 rfl ?_
      refine z_icmp_ne C (by omega) (by omega) 53 dX5_sumOf_34 (by decide) 37 rfl (fun c_3 => ?_) (fun c_3 => ?_)
      rotate_left
      · exfalso; omega
      refine z_iload_n C 1 rfl rfl dX5_sumOf_53 54 rfl ?_
      refine z_bipush C (v := nI 12) rfl dX5_sumOf_54 56 rfl ?_
      refine z_icmp_ne C (by omega) (by omega) 67 dX5_sumOf_56 (by decide) 59 rfl (fun c_4 => ?_) (fun c_4 => ?_)
      · exfalso; omega
      refine z_aload_n C 0 rfl rfl dX5_sumOf_59 60 rfl ?_
      refine z_iload_n C 3 rfl rfl dX5_sumOf_60 61 rfl ?_
      refine z_callV C [.int (nI i)] [.int (nI x)] (tX5_late K.l K.g y all kept hist hl slo sav beg prt frm txt tl sp tol rd st r n i (by first | omega | assumption) (by first | omega | assumption) (by first | omega | assumption) (by first | omega | assumption) (by first | omega | assumption) (fun i hi => by have := hp i (by omega); omega)) gX5_sumOf_X5_late rfl rfl rfl hdX5_late ⟨Nat.le_of_ble_eq_true rfl, Nat.le_of_ble_eq_true rfl⟩ ⟨Nat.zero_le _, Nat.zero_le _⟩ 0 0 rfl rfl rfl [0] rfl rfl (zlc (N := 1) rfl rfl) [1] rfl (by decide) (fun _ : Unit => [wM K.g y all kept hist hl slo sav beg prt frm txt tl sp tol rd]) (fun _ => rfl) rfl rfl (Nat.le_of_ble_eq_true rfl) dX5_sumOf_61 64 rfl (fun u9 hu9 => ?_)
      show Z K 0 0 [wM K.g y all kept hist hl slo sav beg prt frm txt tl sp tol rd] [(0, .ref (y 0)), (1, .int (nI 12)), (2, .int (nI x)), (3, .int (nI i))] 64 [.int (nI (prt i + st 4 - r 3 i)), .int (nI x)]
      refine z_goto C 100 dX5_sumOf_64 (by decide) ?_
      refine z_iadd C dX5_sumOf_100 101 rfl ?_
      refine z_istore_n C hnL [1, 2, 0, 3] [(0, .ref (y 0)), (1, .int (nI 12)), (2, .int (nI (x + (prt i + st 4 - r 3 i)))), (3, .int (nI i))] rfl rfl (Nat.le_of_ble_eq_true rfl) dX5_sumOf_101 102 rfl ?_
      refine z_iinc C hnL 3 rfl (v := (nI (i + 1))) (nI_1 _) [1, 2, 3, 0] [(0, .ref (y 0)), (1, .int (nI 12)), (2, .int (nI (x + (prt i + st 4 - r 3 i)))), (3, .int (nI (i + 1)))] rfl (Nat.le_of_ble_eq_true rfl) dX5_sumOf_102 105 rfl ?_
      refine z_goto C 4 dX5_sumOf_105 (by decide) ?_
      exact ih4 _ (by omega) (i + 1) (x + (prt i + st 4 - r 3 i)) rfl (by omega) (by rw [hx]; rfl)
  exact loop4 _ 0 0 rfl (by omega) rfl

set_option maxHeartbeats 4000000 in
set_option maxRecDepth 100000 in
theorem tX5_sumOf_14 (l : Launch) (g : zG) (y all kept hist : Nat → Nat) (hl : Nat) (slo sav beg prt frm txt : Nat → Nat) (tl sp : Nat) (tol : Nat → Nat) (rd : Nat) (st : Nat → Nat) (r : Nat → Nat → Nat) (n : Nat) (hn : n ≤ 12) (hB : Bd all st r n) (hS : okS st) (hJ : okJ r n) (hp : ∀ i, i < n → prt i ≤ 14400) : Met l yX5_sumOf wsX5_sumOf ({ frames := 2, cells := 0, slots := 0, locals := 44 } : Room) (zPre g [.ref (y 0), .int (nI 14)] [wM g y all kept hist hl slo sav beg prt frm txt tl sp tol rd]) (zQ g (fun _ : Unit => some (.int (nI (sm (wsh st r) n))) ) (fun _ : Unit => True) (fun _ : Unit => [wM g y all kept hist hl slo sav beg prt frm txt tl sp tol rd]) (zA [wM g y all kept hist hl slo sav beg prt frm txt tl sp tol rd])) 0 0 (zA [wM g y all kept hist hl slo sav beg prt frm txt tl sp tol rd]) := by
  refine z_entry (cc := cX5_sumOf) (maxL := 4) (ret := (some .int)) (own := RX5) (by decide) rfl rfl (Nat.le_of_ble_eq_true rfl) [(0, .ref (y 0)), (1, .int (nI 14))] rfl ?_
  intro K hKl hKg hnL C hRx
  subst hKl
  subst hKg
  refine z_iconst C (v := nI 0) rfl dX5_sumOf_0 1 rfl ?_
  refine z_istore_n C hnL [1, 2, 0] [(0, .ref (y 0)), (1, .int (nI 14)), (2, .int (nI 0))] rfl rfl (Nat.le_of_ble_eq_true rfl) dX5_sumOf_1 2 rfl ?_
  refine z_iconst C (v := nI 0) rfl dX5_sumOf_2 3 rfl ?_
  refine z_istore_n C hnL [1, 2, 3, 0] [(0, .ref (y 0)), (1, .int (nI 14)), (2, .int (nI 0)), (3, .int (nI 0))] rfl rfl (Nat.le_of_ble_eq_true rfl) dX5_sumOf_3 4 rfl ?_
  have loop4 : ∀ (mu : Nat) (i : Nat) (x : Nat), mu = n - i → i ≤ n → x = sm (wsh st r) i → Z K 0 0 [wM K.g y all kept hist hl slo sav beg prt frm txt tl sp tol rd] [(0, .ref (y 0)), (1, .int (nI 14)), (2, .int (nI x)), (3, .int (nI i))] 4 [] := by
    refine z_ind (fun mu ih4 => ?_)
    intro i x hmu4 hi hx
    refine z_iload_n C 3 rfl rfl dX5_sumOf_4 5 rfl ?_
    refine z_aload_n C 0 rfl rfl dX5_sumOf_5 6 rfl ?_
    refine z_get C zc5 iX5_sumOf_X5 0 0 rfl rfl 0 (Nat.le_of_ble_eq_true rfl) (List.mem_of_getElem? (i := 1) rfl) (v := .ref (y 1)) rfl dX5_sumOf_6 9 rfl ?_
    refine z_bipush C (v := nI 7) rfl dX5_sumOf_9 11 rfl ?_
    refine z_iald C (f := all) 0 1 rfl rfl (by omega) (by decide) dX5_sumOf_11 12 rfl ?_
    refine z_top (show nI (all 7) = nI n from by rw [hB.2.1]) ?_
    refine z_icmp_ge C (by omega) (by omega) 108 dX5_sumOf_12 (by decide) 15 rfl (fun c_1 => ?_) (fun c_1 => ?_)
    · skip
      refine z_iload_n C 2 rfl rfl dX5_sumOf_108 109 rfl ?_
      obtain rfl : i = n := by omega
      exact z_iret C hRx dX5_sumOf_109 () (by rw [hx]) trivial rfl
    · skip
      have hlt : i < n := by omega
      have hpi := hp i hlt
      have hdb := (hJ i hlt).2.2.2.2
      have h4 := hS.2.2.2.2.2.1
      refine z_iload_n C 2 rfl rfl dX5_sumOf_15 16 rfl ?_
      refine z_iload_n C 1 rfl rfl dX5_sumOf_16 17 rfl ?_
      refine z_bipush C (v := nI 8) rfl dX5_sumOf_17 19 rfl ?_
      refine z_icmp_ne C (by omega) (by omega) 31 dX5_sumOf_19 (by decide) 22 rfl (fun c_2 => ?_) (fun c_2 => ?_)
      rotate_left
      · exfalso; omega
      refine z_iload_n C 1 rfl rfl dX5_sumOf_31 32 rfl ?_
      refine z_bipush C (v := nI 11) rfl dX5_sumOf_32 34 rfl ?_
      refine z_icmp_ne C (by omega) (by omega) 53 dX5_sumOf_34 (by decide) 37 rfl (fun c_3 => ?_) (fun c_3 => ?_)
      rotate_left
      · exfalso; omega
      refine z_iload_n C 1 rfl rfl dX5_sumOf_53 54 rfl ?_
      refine z_bipush C (v := nI 12) rfl dX5_sumOf_54 56 rfl ?_
      refine z_icmp_ne C (by omega) (by omega) 67 dX5_sumOf_56 (by decide) 59 rfl (fun c_4 => ?_) (fun c_4 => ?_)
      rotate_left
      · exfalso; omega
      refine z_iload_n C 1 rfl rfl dX5_sumOf_67 68 rfl ?_
      refine z_bipush C (v := nI 14) rfl dX5_sumOf_68 70 rfl ?_
      refine z_icmp_ne C (by omega) (by omega) 81 dX5_sumOf_70 (by decide) 73 rfl (fun c_5 => ?_) (fun c_5 => ?_)
      · exfalso; omega
      refine z_aload_n C 0 rfl rfl dX5_sumOf_73 74 rfl ?_
      refine z_iload_n C 3 rfl rfl dX5_sumOf_74 75 rfl ?_
      refine z_callV C [.int (nI i)] [.int (nI x)] (tX5_washFor K.l K.g y all kept hist hl slo sav beg prt frm txt tl sp tol rd st r n i (by first | omega | assumption) (by first | omega | assumption) (by first | omega | assumption) (by first | omega | assumption) (by first | omega | assumption)) gX5_sumOf_X5_washFor rfl rfl rfl hdX5_washFor ⟨Nat.le_of_ble_eq_true rfl, Nat.le_of_ble_eq_true rfl⟩ ⟨Nat.zero_le _, Nat.zero_le _⟩ 0 0 rfl rfl rfl [0] rfl rfl (zlc (N := 1) rfl rfl) [1] rfl (by decide) (fun _ : Unit => [wM K.g y all kept hist hl slo sav beg prt frm txt tl sp tol rd]) (fun _ => rfl) rfl rfl (Nat.le_of_ble_eq_true rfl) dX5_sumOf_75 78 rfl (fun u9 hu9 => ?_)
      show Z K 0 0 [wM K.g y all kept hist hl slo sav beg prt frm txt tl sp tol rd] [(0, .ref (y 0)), (1, .int (nI 14)), (2, .int (nI x)), (3, .int (nI i))] 78 [.int (nI (wsh st r i)), .int (nI x)]
      refine z_goto C 100 dX5_sumOf_78 (by decide) ?_
      refine z_iadd C dX5_sumOf_100 101 rfl ?_
      refine z_istore_n C hnL [1, 2, 0, 3] [(0, .ref (y 0)), (1, .int (nI 14)), (2, .int (nI (x + (wsh st r i)))), (3, .int (nI i))] rfl rfl (Nat.le_of_ble_eq_true rfl) dX5_sumOf_101 102 rfl ?_
      refine z_iinc C hnL 3 rfl (v := (nI (i + 1))) (nI_1 _) [1, 2, 3, 0] [(0, .ref (y 0)), (1, .int (nI 14)), (2, .int (nI (x + (wsh st r i)))), (3, .int (nI (i + 1)))] rfl (Nat.le_of_ble_eq_true rfl) dX5_sumOf_102 105 rfl ?_
      refine z_goto C 4 dX5_sumOf_105 (by decide) ?_
      exact ih4 _ (by omega) (i + 1) (x + (wsh st r i)) rfl (by omega) (by rw [hx]; rfl)
  exact loop4 _ 0 0 rfl (by omega) rfl

set_option maxHeartbeats 4000000 in
set_option maxRecDepth 100000 in
theorem tX5_sumOf_15 (l : Launch) (g : zG) (y all kept hist : Nat → Nat) (hl : Nat) (slo sav beg prt frm txt : Nat → Nat) (tl sp : Nat) (tol : Nat → Nat) (rd : Nat) (st : Nat → Nat) (r : Nat → Nat → Nat) (n : Nat) (hn : n ≤ 12) (hB : Bd all st r n) (hS : okS st) (hJ : okJ r n) (hp : ∀ i, i < n → prt i ≤ 14400) : Met l yX5_sumOf wsX5_sumOf ({ frames := 2, cells := 0, slots := 0, locals := 44 } : Room) (zPre g [.ref (y 0), .int (nI 15)] [wM g y all kept hist hl slo sav beg prt frm txt tl sp tol rd]) (zQ g (fun _ : Unit => some (.int (nI (sm (plt r) n))) ) (fun _ : Unit => True) (fun _ : Unit => [wM g y all kept hist hl slo sav beg prt frm txt tl sp tol rd]) (zA [wM g y all kept hist hl slo sav beg prt frm txt tl sp tol rd])) 0 0 (zA [wM g y all kept hist hl slo sav beg prt frm txt tl sp tol rd]) := by
  refine z_entry (cc := cX5_sumOf) (maxL := 4) (ret := (some .int)) (own := RX5) (by decide) rfl rfl (Nat.le_of_ble_eq_true rfl) [(0, .ref (y 0)), (1, .int (nI 15))] rfl ?_
  intro K hKl hKg hnL C hRx
  subst hKl
  subst hKg
  refine z_iconst C (v := nI 0) rfl dX5_sumOf_0 1 rfl ?_
  refine z_istore_n C hnL [1, 2, 0] [(0, .ref (y 0)), (1, .int (nI 15)), (2, .int (nI 0))] rfl rfl (Nat.le_of_ble_eq_true rfl) dX5_sumOf_1 2 rfl ?_
  refine z_iconst C (v := nI 0) rfl dX5_sumOf_2 3 rfl ?_
  refine z_istore_n C hnL [1, 2, 3, 0] [(0, .ref (y 0)), (1, .int (nI 15)), (2, .int (nI 0)), (3, .int (nI 0))] rfl rfl (Nat.le_of_ble_eq_true rfl) dX5_sumOf_3 4 rfl ?_
  have loop4 : ∀ (mu : Nat) (i : Nat) (x : Nat), mu = n - i → i ≤ n → x = sm (plt r) i → Z K 0 0 [wM K.g y all kept hist hl slo sav beg prt frm txt tl sp tol rd] [(0, .ref (y 0)), (1, .int (nI 15)), (2, .int (nI x)), (3, .int (nI i))] 4 [] := by
    refine z_ind (fun mu ih4 => ?_)
    intro i x hmu4 hi hx
    refine z_iload_n C 3 rfl rfl dX5_sumOf_4 5 rfl ?_
    refine z_aload_n C 0 rfl rfl dX5_sumOf_5 6 rfl ?_
    refine z_get C zc5 iX5_sumOf_X5 0 0 rfl rfl 0 (Nat.le_of_ble_eq_true rfl) (List.mem_of_getElem? (i := 1) rfl) (v := .ref (y 1)) rfl dX5_sumOf_6 9 rfl ?_
    refine z_bipush C (v := nI 7) rfl dX5_sumOf_9 11 rfl ?_
    refine z_iald C (f := all) 0 1 rfl rfl (by omega) (by decide) dX5_sumOf_11 12 rfl ?_
    refine z_top (show nI (all 7) = nI n from by rw [hB.2.1]) ?_
    refine z_icmp_ge C (by omega) (by omega) 108 dX5_sumOf_12 (by decide) 15 rfl (fun c_1 => ?_) (fun c_1 => ?_)
    · skip
      refine z_iload_n C 2 rfl rfl dX5_sumOf_108 109 rfl ?_
      obtain rfl : i = n := by omega
      exact z_iret C hRx dX5_sumOf_109 () (by rw [hx]) trivial rfl
    · skip
      have hlt : i < n := by omega
      have hpi := hp i hlt
      have hdb := (hJ i hlt).2.2.2.2
      have h4 := hS.2.2.2.2.2.1
      refine z_iload_n C 2 rfl rfl dX5_sumOf_15 16 rfl ?_
      refine z_iload_n C 1 rfl rfl dX5_sumOf_16 17 rfl ?_
      refine z_bipush C (v := nI 8) rfl dX5_sumOf_17 19 rfl ?_
      refine z_icmp_ne C (by omega) (by omega) 31 dX5_sumOf_19 (by decide) 22 rfl (fun c_2 => ?_) (fun c_2 => ?_)
      rotate_left
      · exfalso; omega
      refine z_iload_n C 1 rfl rfl dX5_sumOf_31 32 rfl ?_
      refine z_bipush C (v := nI 11) rfl dX5_sumOf_32 34 rfl ?_
      refine z_icmp_ne C (by omega) (by omega) 53 dX5_sumOf_34 (by decide) 37 rfl (fun c_3 => ?_) (fun c_3 => ?_)
      rotate_left
      · exfalso; omega
      refine z_iload_n C 1 rfl rfl dX5_sumOf_53 54 rfl ?_
      refine z_bipush C (v := nI 12) rfl dX5_sumOf_54 56 rfl ?_
      refine z_icmp_ne C (by omega) (by omega) 67 dX5_sumOf_56 (by decide) 59 rfl (fun c_4 => ?_) (fun c_4 => ?_)
      rotate_left
      · exfalso; omega
      refine z_iload_n C 1 rfl rfl dX5_sumOf_67 68 rfl ?_
      refine z_bipush C (v := nI 14) rfl dX5_sumOf_68 70 rfl ?_
      refine z_icmp_ne C (by omega) (by omega) 81 dX5_sumOf_70 (by decide) 73 rfl (fun c_5 => ?_) (fun c_5 => ?_)
      rotate_left
      · exfalso; omega
      refine z_iload_n C 1 rfl rfl dX5_sumOf_81 82 rfl ?_
      refine z_bipush C (v := nI 15) rfl dX5_sumOf_82 84 rfl ?_
      refine z_icmp_ne C (by omega) (by omega) 95 dX5_sumOf_84 (by decide) 87 rfl (fun c_6 => ?_) (fun c_6 => ?_)
      · exfalso; omega
      refine z_aload_n C 0 rfl rfl dX5_sumOf_87 88 rfl ?_
      refine z_iload_n C 3 rfl rfl dX5_sumOf_88 89 rfl ?_
      refine z_callV C [.int (nI i)] [.int (nI x)] (tX5_isOther K.l K.g y all kept hist hl slo sav beg prt frm txt tl sp tol rd st r n i (by first | omega | assumption) (by first | omega | assumption) (by first | omega | assumption) (by first | omega | assumption) (by first | omega | assumption)) gX5_sumOf_X5_isOther rfl rfl rfl hdX5_isOther ⟨Nat.le_of_ble_eq_true rfl, Nat.le_of_ble_eq_true rfl⟩ ⟨Nat.zero_le _, Nat.zero_le _⟩ 0 0 rfl rfl rfl [0] rfl rfl (zlc (N := 1) rfl rfl) [1] rfl (by decide) (fun _ : Unit => [wM K.g y all kept hist hl slo sav beg prt frm txt tl sp tol rd]) (fun _ => rfl) rfl rfl (Nat.le_of_ble_eq_true rfl) dX5_sumOf_89 92 rfl (fun u9 hu9 => ?_)
      show Z K 0 0 [wM K.g y all kept hist hl slo sav beg prt frm txt tl sp tol rd] [(0, .ref (y 0)), (1, .int (nI 15)), (2, .int (nI x)), (3, .int (nI i))] 92 [.int (nI (plt r i)), .int (nI x)]
      refine z_goto C 100 dX5_sumOf_92 (by decide) ?_
      refine z_iadd C dX5_sumOf_100 101 rfl ?_
      refine z_istore_n C hnL [1, 2, 0, 3] [(0, .ref (y 0)), (1, .int (nI 15)), (2, .int (nI (x + (plt r i)))), (3, .int (nI i))] rfl rfl (Nat.le_of_ble_eq_true rfl) dX5_sumOf_101 102 rfl ?_
      refine z_iinc C hnL 3 rfl (v := (nI (i + 1))) (nI_1 _) [1, 2, 3, 0] [(0, .ref (y 0)), (1, .int (nI 15)), (2, .int (nI (x + (plt r i)))), (3, .int (nI (i + 1)))] rfl (Nat.le_of_ble_eq_true rfl) dX5_sumOf_102 105 rfl ?_
      refine z_goto C 4 dX5_sumOf_105 (by decide) ?_
      exact ih4 _ (by omega) (i + 1) (x + (plt r i)) rfl (by omega) (by rw [hx]; rfl)
  exact loop4 _ 0 0 rfl (by omega) rfl

set_option maxHeartbeats 4000000 in
set_option maxRecDepth 100000 in
theorem tX5_sumOf_16 (l : Launch) (g : zG) (y all kept hist : Nat → Nat) (hl : Nat) (slo sav beg prt frm txt : Nat → Nat) (tl sp : Nat) (tol : Nat → Nat) (rd : Nat) (st : Nat → Nat) (r : Nat → Nat → Nat) (n : Nat) (hn : n ≤ 12) (hB : Bd all st r n) (hS : okS st) (hJ : okJ r n) (hp : ∀ i, i < n → prt i ≤ 14400) (hf : ∀ i, i < n → fre prt i ≤ beg i) : Met l yX5_sumOf wsX5_sumOf ({ frames := 2, cells := 0, slots := 0, locals := 44 } : Room) (zPre g [.ref (y 0), .int (nI 16)] [wM g y all kept hist hl slo sav beg prt frm txt tl sp tol rd]) (zQ g (fun _ : Unit => some (.int (nI (sm (fun i => beg i - fre prt i) n))) ) (fun _ : Unit => True) (fun _ : Unit => [wM g y all kept hist hl slo sav beg prt frm txt tl sp tol rd]) (zA [wM g y all kept hist hl slo sav beg prt frm txt tl sp tol rd])) 0 0 (zA [wM g y all kept hist hl slo sav beg prt frm txt tl sp tol rd]) := by
  refine z_entry (cc := cX5_sumOf) (maxL := 4) (ret := (some .int)) (own := RX5) (by decide) rfl rfl (Nat.le_of_ble_eq_true rfl) [(0, .ref (y 0)), (1, .int (nI 16))] rfl ?_
  intro K hKl hKg hnL C hRx
  subst hKl
  subst hKg
  refine z_iconst C (v := nI 0) rfl dX5_sumOf_0 1 rfl ?_
  refine z_istore_n C hnL [1, 2, 0] [(0, .ref (y 0)), (1, .int (nI 16)), (2, .int (nI 0))] rfl rfl (Nat.le_of_ble_eq_true rfl) dX5_sumOf_1 2 rfl ?_
  refine z_iconst C (v := nI 0) rfl dX5_sumOf_2 3 rfl ?_
  refine z_istore_n C hnL [1, 2, 3, 0] [(0, .ref (y 0)), (1, .int (nI 16)), (2, .int (nI 0)), (3, .int (nI 0))] rfl rfl (Nat.le_of_ble_eq_true rfl) dX5_sumOf_3 4 rfl ?_
  have loop4 : ∀ (mu : Nat) (i : Nat) (x : Nat), mu = n - i → i ≤ n → x = sm (fun i => beg i - fre prt i) i → Z K 0 0 [wM K.g y all kept hist hl slo sav beg prt frm txt tl sp tol rd] [(0, .ref (y 0)), (1, .int (nI 16)), (2, .int (nI x)), (3, .int (nI i))] 4 [] := by
    refine z_ind (fun mu ih4 => ?_)
    intro i x hmu4 hi hx
    refine z_iload_n C 3 rfl rfl dX5_sumOf_4 5 rfl ?_
    refine z_aload_n C 0 rfl rfl dX5_sumOf_5 6 rfl ?_
    refine z_get C zc5 iX5_sumOf_X5 0 0 rfl rfl 0 (Nat.le_of_ble_eq_true rfl) (List.mem_of_getElem? (i := 1) rfl) (v := .ref (y 1)) rfl dX5_sumOf_6 9 rfl ?_
    refine z_bipush C (v := nI 7) rfl dX5_sumOf_9 11 rfl ?_
    refine z_iald C (f := all) 0 1 rfl rfl (by omega) (by decide) dX5_sumOf_11 12 rfl ?_
    refine z_top (show nI (all 7) = nI n from by rw [hB.2.1]) ?_
    refine z_icmp_ge C (by omega) (by omega) 108 dX5_sumOf_12 (by decide) 15 rfl (fun c_1 => ?_) (fun c_1 => ?_)
    · skip
      refine z_iload_n C 2 rfl rfl dX5_sumOf_108 109 rfl ?_
      obtain rfl : i = n := by omega
      exact z_iret C hRx dX5_sumOf_109 () (by rw [hx]) trivial rfl
    · skip
      have hlt : i < n := by omega
      have hpi := hp i hlt
      have hdb := (hJ i hlt).2.2.2.2
      have h4 := hS.2.2.2.2.2.1
      have hfi := hf i hlt
      refine z_iload_n C 2 rfl rfl dX5_sumOf_15 16 rfl ?_
      refine z_iload_n C 1 rfl rfl dX5_sumOf_16 17 rfl ?_
      refine z_bipush C (v := nI 8) rfl dX5_sumOf_17 19 rfl ?_
      refine z_icmp_ne C (by omega) (by omega) 31 dX5_sumOf_19 (by decide) 22 rfl (fun c_2 => ?_) (fun c_2 => ?_)
      rotate_left
      · exfalso; omega
      refine z_iload_n C 1 rfl rfl dX5_sumOf_31 32 rfl ?_
      refine z_bipush C (v := nI 11) rfl dX5_sumOf_32 34 rfl ?_
      refine z_icmp_ne C (by omega) (by omega) 53 dX5_sumOf_34 (by decide) 37 rfl (fun c_3 => ?_) (fun c_3 => ?_)
      rotate_left
      · exfalso; omega
      refine z_iload_n C 1 rfl rfl dX5_sumOf_53 54 rfl ?_
      refine z_bipush C (v := nI 12) rfl dX5_sumOf_54 56 rfl ?_
      refine z_icmp_ne C (by omega) (by omega) 67 dX5_sumOf_56 (by decide) 59 rfl (fun c_4 => ?_) (fun c_4 => ?_)
      rotate_left
      · exfalso; omega
      refine z_iload_n C 1 rfl rfl dX5_sumOf_67 68 rfl ?_
      refine z_bipush C (v := nI 14) rfl dX5_sumOf_68 70 rfl ?_
      refine z_icmp_ne C (by omega) (by omega) 81 dX5_sumOf_70 (by decide) 73 rfl (fun c_5 => ?_) (fun c_5 => ?_)
      rotate_left
      · exfalso; omega
      refine z_iload_n C 1 rfl rfl dX5_sumOf_81 82 rfl ?_
      refine z_bipush C (v := nI 15) rfl dX5_sumOf_82 84 rfl ?_
      refine z_icmp_ne C (by omega) (by omega) 95 dX5_sumOf_84 (by decide) 87 rfl (fun c_6 => ?_) (fun c_6 => ?_)
      rotate_left
      · exfalso; omega
      refine z_aload_n C 0 rfl rfl dX5_sumOf_95 96 rfl ?_
      refine z_iload_n C 3 rfl rfl dX5_sumOf_96 97 rfl ?_
      refine z_callV C [.int (nI i)] [.int (nI x)] (tX5_waits K.l K.g y all kept hist hl slo sav beg prt frm txt tl sp tol rd i (by first | omega | assumption) (by first | omega | assumption)) gX5_sumOf_X5_waits rfl rfl rfl hdX5_waits ⟨Nat.le_of_ble_eq_true rfl, Nat.le_of_ble_eq_true rfl⟩ ⟨Nat.zero_le _, Nat.zero_le _⟩ 0 0 rfl rfl rfl [0] rfl rfl (zlc (N := 1) rfl rfl) [1] rfl (by decide) (fun _ : Unit => [wM K.g y all kept hist hl slo sav beg prt frm txt tl sp tol rd]) (fun _ => rfl) rfl rfl (Nat.le_of_ble_eq_true rfl) dX5_sumOf_97 100 rfl (fun u9 hu9 => ?_)
      show Z K 0 0 [wM K.g y all kept hist hl slo sav beg prt frm txt tl sp tol rd] [(0, .ref (y 0)), (1, .int (nI 16)), (2, .int (nI x)), (3, .int (nI i))] 100 [.int (nI (beg i - fre prt i)), .int (nI x)]
      refine z_iadd C dX5_sumOf_100 101 rfl ?_
      refine z_istore_n C hnL [1, 2, 0, 3] [(0, .ref (y 0)), (1, .int (nI 16)), (2, .int (nI (x + (beg i - fre prt i)))), (3, .int (nI i))] rfl rfl (Nat.le_of_ble_eq_true rfl) dX5_sumOf_101 102 rfl ?_
      refine z_iinc C hnL 3 rfl (v := (nI (i + 1))) (nI_1 _) [1, 2, 3, 0] [(0, .ref (y 0)), (1, .int (nI 16)), (2, .int (nI (x + (beg i - fre prt i)))), (3, .int (nI (i + 1)))] rfl (Nat.le_of_ble_eq_true rfl) dX5_sumOf_102 105 rfl ?_
      refine z_goto C 4 dX5_sumOf_105 (by decide) ?_
      exact ih4 _ (by omega) (i + 1) (x + (beg i - fre prt i)) rfl (by omega) (by rw [hx]; rfl)
  exact loop4 _ 0 0 rfl (by omega) rfl

theorem iX5_greatestOf_X5 : ∀ w ∈ u_ws RX5 TX5 14, w ∈ wsX5_greatestOf := fun w h => (List.mem_cons_of_mem _ (List.mem_append_right _ h))
set_option maxHeartbeats 4000000 in
set_option maxRecDepth 100000 in
theorem tX5_greatestOf_9 (l : Launch) (g : zG) (y all kept hist : Nat → Nat) (hl : Nat) (slo sav beg prt frm txt : Nat → Nat) (tl sp : Nat) (tol : Nat → Nat) (rd : Nat) (st : Nat → Nat) (r : Nat → Nat → Nat) (n : Nat) (hn : n ≤ 12) (hB : Bd all st r n) (hS : okS st) (hJ : okJ r n) (hp : ∀ i, i < n → prt i ≤ 14400) : Met l yX5_greatestOf wsX5_greatestOf ({ frames := 3, cells := 0, slots := 0, locals := 67 } : Room) (zPre g [.ref (y 0), .int (nI 9)] [wM g y all kept hist hl slo sav beg prt frm txt tl sp tol rd]) (zQ g (fun _ : Unit => some (.int (nI (mx prt n))) ) (fun _ : Unit => True) (fun _ : Unit => [wM g y all kept hist hl slo sav beg prt frm txt tl sp tol rd]) (zA [wM g y all kept hist hl slo sav beg prt frm txt tl sp tol rd])) 0 0 (zA [wM g y all kept hist hl slo sav beg prt frm txt tl sp tol rd]) := by
  refine z_entry (cc := cX5_greatestOf) (maxL := 5) (ret := (some .int)) (own := RX5) (by decide) rfl rfl (Nat.le_of_ble_eq_true rfl) [(0, .ref (y 0)), (1, .int (nI 9))] rfl ?_
  intro K hKl hKg hnL C hRx
  subst hKl
  subst hKg
  refine z_iconst C (v := nI 0) rfl dX5_greatestOf_0 1 rfl ?_
  refine z_istore_n C hnL [1, 2, 0] [(0, .ref (y 0)), (1, .int (nI 9)), (2, .int (nI 0))] rfl rfl (Nat.le_of_ble_eq_true rfl) dX5_greatestOf_1 2 rfl ?_
  refine z_iconst C (v := nI 0) rfl dX5_greatestOf_2 3 rfl ?_
  refine z_istore_n C hnL [1, 2, 3, 0] [(0, .ref (y 0)), (1, .int (nI 9)), (2, .int (nI 0)), (3, .int (nI 0))] rfl rfl (Nat.le_of_ble_eq_true rfl) dX5_greatestOf_3 4 rfl ?_
  have loop4 : ∀ (mu : Nat) (i : Nat) (x : Nat), mu = n - i → i ≤ n → x = mx prt i → x ≤ 20000 → Z K 0 0 [wM K.g y all kept hist hl slo sav beg prt frm txt tl sp tol rd] [(0, .ref (y 0)), (1, .int (nI 9)), (2, .int (nI x)), (3, .int (nI i))] 4 [] := by
    refine z_ind (fun mu ih4 => ?_)
    intro i x hmu4 hi hx hxb
    refine z_iload_n C 3 rfl rfl dX5_greatestOf_4 5 rfl ?_
    refine z_aload_n C 0 rfl rfl dX5_greatestOf_5 6 rfl ?_
    refine z_get C zc5 iX5_greatestOf_X5 0 0 rfl rfl 0 (Nat.le_of_ble_eq_true rfl) (List.mem_of_getElem? (i := 1) rfl) (v := .ref (y 1)) rfl dX5_greatestOf_6 9 rfl ?_
    refine z_bipush C (v := nI 7) rfl dX5_greatestOf_9 11 rfl ?_
    refine z_iald C (f := all) 0 1 rfl rfl (by omega) (by decide) dX5_greatestOf_11 12 rfl ?_
    refine z_top (show nI (all 7) = nI n from by rw [hB.2.1]) ?_
    refine z_icmp_ge C (by omega) (by omega) 96 dX5_greatestOf_12 (by decide) 15 rfl (fun c_1 => ?_) (fun c_1 => ?_)
    · skip
      refine z_iload_n C 2 rfl rfl dX5_greatestOf_96 97 rfl ?_
      obtain rfl : i = n := by omega
      exact z_iret C hRx dX5_greatestOf_97 () (by rw [hx]) trivial rfl
    · skip
      have hlt : i < n := by omega
      have hpi := hp i hlt
      have hdb := (hJ i hlt).2.2.2.2
      have h4 := hS.2.2.2.2.2.1
      refine z_iload_n C 1 rfl rfl dX5_greatestOf_15 16 rfl ?_
      refine z_bipush C (v := nI 9) rfl dX5_greatestOf_16 18 rfl ?_
      refine z_icmp_ne C (by omega) (by omega) 30 dX5_greatestOf_18 (by decide) 21 rfl (fun c_2 => ?_) (fun c_2 => ?_)
      · exfalso; omega
      refine z_aload_n C 0 rfl rfl dX5_greatestOf_21 22 rfl ?_
      refine z_get C zc5 iX5_greatestOf_X5 0 0 rfl rfl 7 (Nat.le_of_ble_eq_true rfl) (List.mem_of_getElem? (i := 2) rfl) (v := .ref (y 7)) rfl dX5_greatestOf_22 25 rfl ?_
      refine z_iload_n C 3 rfl rfl dX5_greatestOf_25 26 rfl ?_
      refine z_iald C (f := prt) 0 7 rfl rfl (by omega) (by decide) dX5_greatestOf_26 27 rfl ?_
      refine z_goto C 75 dX5_greatestOf_27 (by decide) ?_
      refine z_istore C hnL [1, 2, 3, 4, 0] [(0, .ref (y 0)), (1, .int (nI 9)), (2, .int (nI x)), (3, .int (nI i)), (4, .int (nI (prt i)))] rfl (Nat.le_of_ble_eq_true rfl) dX5_greatestOf_75 77 rfl ?_
      refine z_iload C 4 rfl dX5_greatestOf_77 79 rfl ?_
      refine z_iload_n C 2 rfl rfl dX5_greatestOf_79 80 rfl ?_
      refine z_icmp_le C (by omega) (by omega) 88 dX5_greatestOf_80 (by decide) 83 rfl (fun c_3 => ?_) (fun c_3 => ?_)
      · skip
        refine z_iload_n C 2 rfl rfl dX5_greatestOf_88 89 rfl ?_
        refine z_istore_n C hnL [1, 2, 0, 3, 4] [(0, .ref (y 0)), (1, .int (nI 9)), (2, .int (nI x)), (3, .int (nI i)), (4, .int (nI (prt i)))] rfl rfl (Nat.le_of_ble_eq_true rfl) dX5_greatestOf_89 90 rfl ?_
        refine z_iinc C hnL 3 rfl (v := (nI (i + 1))) (nI_1 _) [1, 2, 3, 0, 4] [(0, .ref (y 0)), (1, .int (nI 9)), (2, .int (nI x)), (3, .int (nI (i + 1))), (4, .int (nI (prt i)))] rfl (Nat.le_of_ble_eq_true rfl) dX5_greatestOf_90 93 rfl ?_
        refine z_goto C 4 dX5_greatestOf_93 (by decide) ?_
        refine z_lv [0, 1, 2, 3] [(0, .ref (y 0)), (1, .int (nI 9)), (2, .int (nI x)), (3, .int (nI (i + 1)))] rfl ?_
        exact ih4 _ (by omega) (i + 1) x rfl (by omega) (by rw [mx_s, ← hx]; omega) (by omega)
      · skip
        refine z_iload C 4 rfl dX5_greatestOf_83 85 rfl ?_
        refine z_goto C 89 dX5_greatestOf_85 (by decide) ?_
        refine z_istore_n C hnL [1, 2, 0, 3, 4] [(0, .ref (y 0)), (1, .int (nI 9)), (2, .int (nI (prt i))), (3, .int (nI i)), (4, .int (nI (prt i)))] rfl rfl (Nat.le_of_ble_eq_true rfl) dX5_greatestOf_89 90 rfl ?_
        refine z_iinc C hnL 3 rfl (v := (nI (i + 1))) (nI_1 _) [1, 2, 3, 0, 4] [(0, .ref (y 0)), (1, .int (nI 9)), (2, .int (nI (prt i))), (3, .int (nI (i + 1))), (4, .int (nI (prt i)))] rfl (Nat.le_of_ble_eq_true rfl) dX5_greatestOf_90 93 rfl ?_
        refine z_goto C 4 dX5_greatestOf_93 (by decide) ?_
        refine z_lv [0, 1, 2, 3] [(0, .ref (y 0)), (1, .int (nI 9)), (2, .int (nI (prt i))), (3, .int (nI (i + 1)))] rfl ?_
        exact ih4 _ (by omega) (i + 1) (prt i) rfl (by omega) (by rw [mx_s, ← hx]; omega) (by omega)
  exact loop4 _ 0 0 rfl (by omega) rfl (by omega)

set_option maxHeartbeats 4000000 in
set_option maxRecDepth 100000 in
theorem tX5_greatestOf_10 (l : Launch) (g : zG) (y all kept hist : Nat → Nat) (hl : Nat) (slo sav beg prt frm txt : Nat → Nat) (tl sp : Nat) (tol : Nat → Nat) (rd : Nat) (st : Nat → Nat) (r : Nat → Nat → Nat) (n : Nat) (hn : n ≤ 12) (hB : Bd all st r n) (hS : okS st) (hJ : okJ r n) (hp : ∀ i, i < n → prt i ≤ 14400) : Met l yX5_greatestOf wsX5_greatestOf ({ frames := 3, cells := 0, slots := 0, locals := 67 } : Room) (zPre g [.ref (y 0), .int (nI 10)] [wM g y all kept hist hl slo sav beg prt frm txt tl sp tol rd]) (zQ g (fun _ : Unit => some (.int (nI (mx (fun i => prt i + st 4) n))) ) (fun _ : Unit => True) (fun _ : Unit => [wM g y all kept hist hl slo sav beg prt frm txt tl sp tol rd]) (zA [wM g y all kept hist hl slo sav beg prt frm txt tl sp tol rd])) 0 0 (zA [wM g y all kept hist hl slo sav beg prt frm txt tl sp tol rd]) := by
  refine z_entry (cc := cX5_greatestOf) (maxL := 5) (ret := (some .int)) (own := RX5) (by decide) rfl rfl (Nat.le_of_ble_eq_true rfl) [(0, .ref (y 0)), (1, .int (nI 10))] rfl ?_
  intro K hKl hKg hnL C hRx
  subst hKl
  subst hKg
  refine z_iconst C (v := nI 0) rfl dX5_greatestOf_0 1 rfl ?_
  refine z_istore_n C hnL [1, 2, 0] [(0, .ref (y 0)), (1, .int (nI 10)), (2, .int (nI 0))] rfl rfl (Nat.le_of_ble_eq_true rfl) dX5_greatestOf_1 2 rfl ?_
  refine z_iconst C (v := nI 0) rfl dX5_greatestOf_2 3 rfl ?_
  refine z_istore_n C hnL [1, 2, 3, 0] [(0, .ref (y 0)), (1, .int (nI 10)), (2, .int (nI 0)), (3, .int (nI 0))] rfl rfl (Nat.le_of_ble_eq_true rfl) dX5_greatestOf_3 4 rfl ?_
  have loop4 : ∀ (mu : Nat) (i : Nat) (x : Nat), mu = n - i → i ≤ n → x = mx (fun i => prt i + st 4) i → x ≤ 20000 → Z K 0 0 [wM K.g y all kept hist hl slo sav beg prt frm txt tl sp tol rd] [(0, .ref (y 0)), (1, .int (nI 10)), (2, .int (nI x)), (3, .int (nI i))] 4 [] := by
    refine z_ind (fun mu ih4 => ?_)
    intro i x hmu4 hi hx hxb
    refine z_iload_n C 3 rfl rfl dX5_greatestOf_4 5 rfl ?_
    refine z_aload_n C 0 rfl rfl dX5_greatestOf_5 6 rfl ?_
    refine z_get C zc5 iX5_greatestOf_X5 0 0 rfl rfl 0 (Nat.le_of_ble_eq_true rfl) (List.mem_of_getElem? (i := 1) rfl) (v := .ref (y 1)) rfl dX5_greatestOf_6 9 rfl ?_
    refine z_bipush C (v := nI 7) rfl dX5_greatestOf_9 11 rfl ?_
    refine z_iald C (f := all) 0 1 rfl rfl (by omega) (by decide) dX5_greatestOf_11 12 rfl ?_
    refine z_top (show nI (all 7) = nI n from by rw [hB.2.1]) ?_
    refine z_icmp_ge C (by omega) (by omega) 96 dX5_greatestOf_12 (by decide) 15 rfl (fun c_1 => ?_) (fun c_1 => ?_)
    · skip
      refine z_iload_n C 2 rfl rfl dX5_greatestOf_96 97 rfl ?_
      obtain rfl : i = n := by omega
      exact z_iret C hRx dX5_greatestOf_97 () (by rw [hx]) trivial rfl
    · skip
      have hlt : i < n := by omega
      have hpi := hp i hlt
      have hdb := (hJ i hlt).2.2.2.2
      have h4 := hS.2.2.2.2.2.1
      refine z_iload_n C 1 rfl rfl dX5_greatestOf_15 16 rfl ?_
      refine z_bipush C (v := nI 9) rfl dX5_greatestOf_16 18 rfl ?_
      refine z_icmp_ne C (by omega) (by omega) 30 dX5_greatestOf_18 (by decide) 21 rfl (fun c_2 => ?_) (fun c_2 => ?_)
      rotate_left
      · exfalso; omega
      refine z_iload_n C 1 rfl rfl dX5_greatestOf_30 31 rfl ?_
      refine z_bipush C (v := nI 10) rfl dX5_greatestOf_31 33 rfl ?_
      refine z_icmp_ne C (by omega) (by omega) 44 dX5_greatestOf_33 (by decide) 36 rfl (fun c_3 => ?_) (fun c_3 => ?_)
      · exfalso; omega
      refine z_aload_n C 0 rfl rfl dX5_greatestOf_36 37 rfl ?_
      refine z_iload_n C 3 rfl rfl dX5_greatestOf_37 38 rfl ?_
      refine z_callV C [.int (nI i)] [] (tX5_dry K.l K.g y all kept hist hl slo sav beg prt frm txt tl sp tol rd st r n i (by first | omega | assumption) (by first | omega | assumption) (by first | omega | assumption)) gX5_greatestOf_X5_dry rfl rfl rfl hdX5_dry ⟨Nat.le_of_ble_eq_true rfl, Nat.le_of_ble_eq_true rfl⟩ ⟨Nat.zero_le _, Nat.zero_le _⟩ 0 0 rfl rfl rfl [0] rfl rfl (zlc (N := 1) rfl rfl) [1] rfl (by decide) (fun _ : Unit => [wM K.g y all kept hist hl slo sav beg prt frm txt tl sp tol rd]) (fun _ => rfl) rfl rfl (Nat.le_of_ble_eq_true rfl) dX5_greatestOf_38 41 rfl (fun u9 hu9 => ?_)
      show Z K 0 0 [wM K.g y all kept hist hl slo sav beg prt frm txt tl sp tol rd] [(0, .ref (y 0)), (1, .int (nI 10)), (2, .int (nI x)), (3, .int (nI i))] 41 [.int (nI (prt i + st 4))]
      refine z_goto C 75 dX5_greatestOf_41 (by decide) ?_
      refine z_istore C hnL [1, 2, 3, 4, 0] [(0, .ref (y 0)), (1, .int (nI 10)), (2, .int (nI x)), (3, .int (nI i)), (4, .int (nI (prt i + st 4)))] rfl (Nat.le_of_ble_eq_true rfl) dX5_greatestOf_75 77 rfl ?_
      refine z_iload C 4 rfl dX5_greatestOf_77 79 rfl ?_
      refine z_iload_n C 2 rfl rfl dX5_greatestOf_79 80 rfl ?_
      refine z_icmp_le C (by omega) (by omega) 88 dX5_greatestOf_80 (by decide) 83 rfl (fun c_4 => ?_) (fun c_4 => ?_)
      · skip
        refine z_iload_n C 2 rfl rfl dX5_greatestOf_88 89 rfl ?_
        refine z_istore_n C hnL [1, 2, 0, 3, 4] [(0, .ref (y 0)), (1, .int (nI 10)), (2, .int (nI x)), (3, .int (nI i)), (4, .int (nI (prt i + st 4)))] rfl rfl (Nat.le_of_ble_eq_true rfl) dX5_greatestOf_89 90 rfl ?_
        refine z_iinc C hnL 3 rfl (v := (nI (i + 1))) (nI_1 _) [1, 2, 3, 0, 4] [(0, .ref (y 0)), (1, .int (nI 10)), (2, .int (nI x)), (3, .int (nI (i + 1))), (4, .int (nI (prt i + st 4)))] rfl (Nat.le_of_ble_eq_true rfl) dX5_greatestOf_90 93 rfl ?_
        refine z_goto C 4 dX5_greatestOf_93 (by decide) ?_
        refine z_lv [0, 1, 2, 3] [(0, .ref (y 0)), (1, .int (nI 10)), (2, .int (nI x)), (3, .int (nI (i + 1)))] rfl ?_
        exact ih4 _ (by omega) (i + 1) x rfl (by omega) (by rw [mx_s, ← hx]; omega) (by omega)
      · skip
        refine z_iload C 4 rfl dX5_greatestOf_83 85 rfl ?_
        refine z_goto C 89 dX5_greatestOf_85 (by decide) ?_
        refine z_istore_n C hnL [1, 2, 0, 3, 4] [(0, .ref (y 0)), (1, .int (nI 10)), (2, .int (nI (prt i + st 4))), (3, .int (nI i)), (4, .int (nI (prt i + st 4)))] rfl rfl (Nat.le_of_ble_eq_true rfl) dX5_greatestOf_89 90 rfl ?_
        refine z_iinc C hnL 3 rfl (v := (nI (i + 1))) (nI_1 _) [1, 2, 3, 0, 4] [(0, .ref (y 0)), (1, .int (nI 10)), (2, .int (nI (prt i + st 4))), (3, .int (nI (i + 1))), (4, .int (nI (prt i + st 4)))] rfl (Nat.le_of_ble_eq_true rfl) dX5_greatestOf_90 93 rfl ?_
        refine z_goto C 4 dX5_greatestOf_93 (by decide) ?_
        refine z_lv [0, 1, 2, 3] [(0, .ref (y 0)), (1, .int (nI 10)), (2, .int (nI (prt i + st 4))), (3, .int (nI (i + 1)))] rfl ?_
        exact ih4 _ (by omega) (i + 1) (prt i + st 4) rfl (by omega) (by rw [mx_s, ← hx]; omega) (by omega)
  exact loop4 _ 0 0 rfl (by omega) rfl (by omega)

set_option maxHeartbeats 4000000 in
set_option maxRecDepth 100000 in
theorem tX5_greatestOf_13 (l : Launch) (g : zG) (y all kept hist : Nat → Nat) (hl : Nat) (slo sav beg prt frm txt : Nat → Nat) (tl sp : Nat) (tol : Nat → Nat) (rd : Nat) (st : Nat → Nat) (r : Nat → Nat → Nat) (n : Nat) (hn : n ≤ 12) (hB : Bd all st r n) (hS : okS st) (hJ : okJ r n) (hp : ∀ i, i < n → prt i ≤ 14400) : Met l yX5_greatestOf wsX5_greatestOf ({ frames := 3, cells := 0, slots := 0, locals := 67 } : Room) (zPre g [.ref (y 0), .int (nI 13)] [wM g y all kept hist hl slo sav beg prt frm txt tl sp tol rd]) (zQ g (fun _ : Unit => some (.int (nI (mx (fun i => prt i + st 4 - r 3 i) n))) ) (fun _ : Unit => True) (fun _ : Unit => [wM g y all kept hist hl slo sav beg prt frm txt tl sp tol rd]) (zA [wM g y all kept hist hl slo sav beg prt frm txt tl sp tol rd])) 0 0 (zA [wM g y all kept hist hl slo sav beg prt frm txt tl sp tol rd]) := by
  refine z_entry (cc := cX5_greatestOf) (maxL := 5) (ret := (some .int)) (own := RX5) (by decide) rfl rfl (Nat.le_of_ble_eq_true rfl) [(0, .ref (y 0)), (1, .int (nI 13))] rfl ?_
  intro K hKl hKg hnL C hRx
  subst hKl
  subst hKg
  refine z_iconst C (v := nI 0) rfl dX5_greatestOf_0 1 rfl ?_
  refine z_istore_n C hnL [1, 2, 0] [(0, .ref (y 0)), (1, .int (nI 13)), (2, .int (nI 0))] rfl rfl (Nat.le_of_ble_eq_true rfl) dX5_greatestOf_1 2 rfl ?_
  refine z_iconst C (v := nI 0) rfl dX5_greatestOf_2 3 rfl ?_
  refine z_istore_n C hnL [1, 2, 3, 0] [(0, .ref (y 0)), (1, .int (nI 13)), (2, .int (nI 0)), (3, .int (nI 0))] rfl rfl (Nat.le_of_ble_eq_true rfl) dX5_greatestOf_3 4 rfl ?_
  have loop4 : ∀ (mu : Nat) (i : Nat) (x : Nat), mu = n - i → i ≤ n → x = mx (fun i => prt i + st 4 - r 3 i) i → x ≤ 20000 → Z K 0 0 [wM K.g y all kept hist hl slo sav beg prt frm txt tl sp tol rd] [(0, .ref (y 0)), (1, .int (nI 13)), (2, .int (nI x)), (3, .int (nI i))] 4 [] := by
    refine z_ind (fun mu ih4 => ?_)
    intro i x hmu4 hi hx hxb
    refine z_iload_n C 3 rfl rfl dX5_greatestOf_4 5 rfl ?_
    refine z_aload_n C 0 rfl rfl dX5_greatestOf_5 6 rfl ?_
    refine z_get C zc5 iX5_greatestOf_X5 0 0 rfl rfl 0 (Nat.le_of_ble_eq_true rfl) (List.mem_of_getElem? (i := 1) rfl) (v := .ref (y 1)) rfl dX5_greatestOf_6 9 rfl ?_
    refine z_bipush C (v := nI 7) rfl dX5_greatestOf_9 11 rfl ?_
    refine z_iald C (f := all) 0 1 rfl rfl (by omega) (by decide) dX5_greatestOf_11 12 rfl ?_
    refine z_top (show nI (all 7) = nI n from by rw [hB.2.1]) ?_
    refine z_icmp_ge C (by omega) (by omega) 96 dX5_greatestOf_12 (by decide) 15 rfl (fun c_1 => ?_) (fun c_1 => ?_)
    · skip
      refine z_iload_n C 2 rfl rfl dX5_greatestOf_96 97 rfl ?_
      obtain rfl : i = n := by omega
      exact z_iret C hRx dX5_greatestOf_97 () (by rw [hx]) trivial rfl
    · skip
      have hlt : i < n := by omega
      have hpi := hp i hlt
      have hdb := (hJ i hlt).2.2.2.2
      have h4 := hS.2.2.2.2.2.1
      refine z_iload_n C 1 rfl rfl dX5_greatestOf_15 16 rfl ?_
      refine z_bipush C (v := nI 9) rfl dX5_greatestOf_16 18 rfl ?_
      refine z_icmp_ne C (by omega) (by omega) 30 dX5_greatestOf_18 (by decide) 21 rfl (fun c_2 => ?_) (fun c_2 => ?_)
      rotate_left
      · exfalso; omega
      refine z_iload_n C 1 rfl rfl dX5_greatestOf_30 31 rfl ?_
      refine z_bipush C (v := nI 10) rfl dX5_greatestOf_31 33 rfl ?_
      refine z_icmp_ne C (by omega) (by omega) 44 dX5_greatestOf_33 (by decide) 36 rfl (fun c_3 => ?_) (fun c_3 => ?_)
      rotate_left
      · exfalso; omega
      refine z_iload_n C 1 rfl rfl dX5_greatestOf_44 45 rfl ?_
      refine z_bipush C (v := nI 13) rfl dX5_greatestOf_45 47 rfl ?_
      refine z_icmp_ne C (by omega) (by omega) 58 dX5_greatestOf_47 (by decide) 50 rfl (fun c_4 => ?_) (fun c_4 => ?_)
      · exfalso; omega
      refine z_aload_n C 0 rfl rfl dX5_greatestOf_50 51 rfl ?_
      refine z_iload_n C 3 rfl rfl dX5_greatestOf_51 52 rfl ?_
      refine z_callV C [.int (nI i)] [] (tX5_late K.l K.g y all kept hist hl slo sav beg prt frm txt tl sp tol rd st r n i (by first | omega | assumption) (by first | omega | assumption) (by first | omega | assumption) (by first | omega | assumption) (by first | omega | assumption) (fun i hi => by have := hp i (by omega); omega)) gX5_greatestOf_X5_late rfl rfl rfl hdX5_late ⟨Nat.le_of_ble_eq_true rfl, Nat.le_of_ble_eq_true rfl⟩ ⟨Nat.zero_le _, Nat.zero_le _⟩ 0 0 rfl rfl rfl [0] rfl rfl (zlc (N := 1) rfl rfl) [1] rfl (by decide) (fun _ : Unit => [wM K.g y all kept hist hl slo sav beg prt frm txt tl sp tol rd]) (fun _ => rfl) rfl rfl (Nat.le_of_ble_eq_true rfl) dX5_greatestOf_52 55 rfl (fun u9 hu9 => ?_)
      show Z K 0 0 [wM K.g y all kept hist hl slo sav beg prt frm txt tl sp tol rd] [(0, .ref (y 0)), (1, .int (nI 13)), (2, .int (nI x)), (3, .int (nI i))] 55 [.int (nI (prt i + st 4 - r 3 i))]
      refine z_goto C 75 dX5_greatestOf_55 (by decide) ?_
      refine z_istore C hnL [1, 2, 3, 4, 0] [(0, .ref (y 0)), (1, .int (nI 13)), (2, .int (nI x)), (3, .int (nI i)), (4, .int (nI (prt i + st 4 - r 3 i)))] rfl (Nat.le_of_ble_eq_true rfl) dX5_greatestOf_75 77 rfl ?_
      refine z_iload C 4 rfl dX5_greatestOf_77 79 rfl ?_
      refine z_iload_n C 2 rfl rfl dX5_greatestOf_79 80 rfl ?_
      refine z_icmp_le C (by omega) (by omega) 88 dX5_greatestOf_80 (by decide) 83 rfl (fun c_5 => ?_) (fun c_5 => ?_)
      · skip
        refine z_iload_n C 2 rfl rfl dX5_greatestOf_88 89 rfl ?_
        refine z_istore_n C hnL [1, 2, 0, 3, 4] [(0, .ref (y 0)), (1, .int (nI 13)), (2, .int (nI x)), (3, .int (nI i)), (4, .int (nI (prt i + st 4 - r 3 i)))] rfl rfl (Nat.le_of_ble_eq_true rfl) dX5_greatestOf_89 90 rfl ?_
        refine z_iinc C hnL 3 rfl (v := (nI (i + 1))) (nI_1 _) [1, 2, 3, 0, 4] [(0, .ref (y 0)), (1, .int (nI 13)), (2, .int (nI x)), (3, .int (nI (i + 1))), (4, .int (nI (prt i + st 4 - r 3 i)))] rfl (Nat.le_of_ble_eq_true rfl) dX5_greatestOf_90 93 rfl ?_
        refine z_goto C 4 dX5_greatestOf_93 (by decide) ?_
        refine z_lv [0, 1, 2, 3] [(0, .ref (y 0)), (1, .int (nI 13)), (2, .int (nI x)), (3, .int (nI (i + 1)))] rfl ?_
        exact ih4 _ (by omega) (i + 1) x rfl (by omega) (by rw [mx_s, ← hx]; omega) (by omega)
      · skip
        refine z_iload C 4 rfl dX5_greatestOf_83 85 rfl ?_
        refine z_goto C 89 dX5_greatestOf_85 (by decide) ?_
        refine z_istore_n C hnL [1, 2, 0, 3, 4] [(0, .ref (y 0)), (1, .int (nI 13)), (2, .int (nI (prt i + st 4 - r 3 i))), (3, .int (nI i)), (4, .int (nI (prt i + st 4 - r 3 i)))] rfl rfl (Nat.le_of_ble_eq_true rfl) dX5_greatestOf_89 90 rfl ?_
        refine z_iinc C hnL 3 rfl (v := (nI (i + 1))) (nI_1 _) [1, 2, 3, 0, 4] [(0, .ref (y 0)), (1, .int (nI 13)), (2, .int (nI (prt i + st 4 - r 3 i))), (3, .int (nI (i + 1))), (4, .int (nI (prt i + st 4 - r 3 i)))] rfl (Nat.le_of_ble_eq_true rfl) dX5_greatestOf_90 93 rfl ?_
        refine z_goto C 4 dX5_greatestOf_93 (by decide) ?_
        refine z_lv [0, 1, 2, 3] [(0, .ref (y 0)), (1, .int (nI 13)), (2, .int (nI (prt i + st 4 - r 3 i))), (3, .int (nI (i + 1)))] rfl ?_
        exact ih4 _ (by omega) (i + 1) (prt i + st 4 - r 3 i) rfl (by omega) (by rw [mx_s, ← hx]; omega) (by omega)
  exact loop4 _ 0 0 rfl (by omega) rfl (by omega)

set_option maxHeartbeats 4000000 in
set_option maxRecDepth 100000 in
theorem tX5_greatestOf_17 (l : Launch) (g : zG) (y all kept hist : Nat → Nat) (hl : Nat) (slo sav beg prt frm txt : Nat → Nat) (tl sp : Nat) (tol : Nat → Nat) (rd : Nat) (st : Nat → Nat) (r : Nat → Nat → Nat) (n : Nat) (hn : n ≤ 12) (hB : Bd all st r n) (hS : okS st) (hJ : okJ r n) (hp : ∀ i, i < n → prt i ≤ 14400) (hP : isP st r (st 5) prt n) : Met l yX5_greatestOf wsX5_greatestOf ({ frames := 3, cells := 0, slots := 0, locals := 67 } : Room) (zPre g [.ref (y 0), .int (nI 17)] [wM g y all kept hist hl slo sav beg prt frm txt tl sp tol rd]) (zQ g (fun _ : Unit => some (.int (nI (mx (fun i => tkn st r prt n (prt i)) n))) ) (fun _ : Unit => True) (fun _ : Unit => [wM g y all kept hist hl slo sav beg prt frm txt tl sp tol rd]) (zA [wM g y all kept hist hl slo sav beg prt frm txt tl sp tol rd])) 0 0 (zA [wM g y all kept hist hl slo sav beg prt frm txt tl sp tol rd]) := by
  refine z_entry (cc := cX5_greatestOf) (maxL := 5) (ret := (some .int)) (own := RX5) (by decide) rfl rfl (Nat.le_of_ble_eq_true rfl) [(0, .ref (y 0)), (1, .int (nI 17))] rfl ?_
  intro K hKl hKg hnL C hRx
  subst hKl
  subst hKg
  refine z_iconst C (v := nI 0) rfl dX5_greatestOf_0 1 rfl ?_
  refine z_istore_n C hnL [1, 2, 0] [(0, .ref (y 0)), (1, .int (nI 17)), (2, .int (nI 0))] rfl rfl (Nat.le_of_ble_eq_true rfl) dX5_greatestOf_1 2 rfl ?_
  refine z_iconst C (v := nI 0) rfl dX5_greatestOf_2 3 rfl ?_
  refine z_istore_n C hnL [1, 2, 3, 0] [(0, .ref (y 0)), (1, .int (nI 17)), (2, .int (nI 0)), (3, .int (nI 0))] rfl rfl (Nat.le_of_ble_eq_true rfl) dX5_greatestOf_3 4 rfl ?_
  have loop4 : ∀ (mu : Nat) (i : Nat) (x : Nat), mu = n - i → i ≤ n → x = mx (fun i => tkn st r prt n (prt i)) i → x ≤ 20000 → Z K 0 0 [wM K.g y all kept hist hl slo sav beg prt frm txt tl sp tol rd] [(0, .ref (y 0)), (1, .int (nI 17)), (2, .int (nI x)), (3, .int (nI i))] 4 [] := by
    refine z_ind (fun mu ih4 => ?_)
    intro i x hmu4 hi hx hxb
    refine z_iload_n C 3 rfl rfl dX5_greatestOf_4 5 rfl ?_
    refine z_aload_n C 0 rfl rfl dX5_greatestOf_5 6 rfl ?_
    refine z_get C zc5 iX5_greatestOf_X5 0 0 rfl rfl 0 (Nat.le_of_ble_eq_true rfl) (List.mem_of_getElem? (i := 1) rfl) (v := .ref (y 1)) rfl dX5_greatestOf_6 9 rfl ?_
    refine z_bipush C (v := nI 7) rfl dX5_greatestOf_9 11 rfl ?_
    refine z_iald C (f := all) 0 1 rfl rfl (by omega) (by decide) dX5_greatestOf_11 12 rfl ?_
    refine z_top (show nI (all 7) = nI n from by rw [hB.2.1]) ?_
    refine z_icmp_ge C (by omega) (by omega) 96 dX5_greatestOf_12 (by decide) 15 rfl (fun c_1 => ?_) (fun c_1 => ?_)
    · skip
      refine z_iload_n C 2 rfl rfl dX5_greatestOf_96 97 rfl ?_
      obtain rfl : i = n := by omega
      exact z_iret C hRx dX5_greatestOf_97 () (by rw [hx]) trivial rfl
    · skip
      have hlt : i < n := by omega
      have hpi := hp i hlt
      have hdb := (hJ i hlt).2.2.2.2
      have h4 := hS.2.2.2.2.2.1
      have htb := tkn_leR hP (prt i)
      have h5b := hS.2.2.2.2.2.2.2.1
      refine z_iload_n C 1 rfl rfl dX5_greatestOf_15 16 rfl ?_
      refine z_bipush C (v := nI 9) rfl dX5_greatestOf_16 18 rfl ?_
      refine z_icmp_ne C (by omega) (by omega) 30 dX5_greatestOf_18 (by decide) 21 rfl (fun c_2 => ?_) (fun c_2 => ?_)
      rotate_left
      · exfalso; omega
      refine z_iload_n C 1 rfl rfl dX5_greatestOf_30 31 rfl ?_
      refine z_bipush C (v := nI 10) rfl dX5_greatestOf_31 33 rfl ?_
      refine z_icmp_ne C (by omega) (by omega) 44 dX5_greatestOf_33 (by decide) 36 rfl (fun c_3 => ?_) (fun c_3 => ?_)
      rotate_left
      · exfalso; omega
      refine z_iload_n C 1 rfl rfl dX5_greatestOf_44 45 rfl ?_
      refine z_bipush C (v := nI 13) rfl dX5_greatestOf_45 47 rfl ?_
      refine z_icmp_ne C (by omega) (by omega) 58 dX5_greatestOf_47 (by decide) 50 rfl (fun c_4 => ?_) (fun c_4 => ?_)
      rotate_left
      · exfalso; omega
      refine z_aload_n C 0 rfl rfl dX5_greatestOf_58 59 rfl ?_
      refine z_aload_n C 0 rfl rfl dX5_greatestOf_59 60 rfl ?_
      refine z_get C zc5 iX5_greatestOf_X5 0 0 rfl rfl 0 (Nat.le_of_ble_eq_true rfl) (List.mem_of_getElem? (i := 1) rfl) (v := .ref (y 1)) rfl dX5_greatestOf_60 63 rfl ?_
      refine z_bipush C (v := nI 7) rfl dX5_greatestOf_63 65 rfl ?_
      refine z_iald C (f := all) 0 1 rfl rfl (by omega) (by decide) dX5_greatestOf_65 66 rfl ?_
      refine z_top (show nI (all 7) = nI n from by rw [hB.2.1]) ?_
      refine z_aload_n C 0 rfl rfl dX5_greatestOf_66 67 rfl ?_
      refine z_get C zc5 iX5_greatestOf_X5 0 0 rfl rfl 7 (Nat.le_of_ble_eq_true rfl) (List.mem_of_getElem? (i := 2) rfl) (v := .ref (y 7)) rfl dX5_greatestOf_67 70 rfl ?_
      refine z_iload_n C 3 rfl rfl dX5_greatestOf_70 71 rfl ?_
      refine z_iald C (f := prt) 0 7 rfl rfl (by omega) (by decide) dX5_greatestOf_71 72 rfl ?_
      refine z_callV C [.int (nI n), .int (nI (prt i))] [] (tX5_taken K.l K.g y all kept hist hl slo sav beg prt frm txt tl sp tol rd st r n n (prt i) (by first | omega | assumption) (by first | omega | assumption) (by first | omega | assumption) (by first | omega | assumption) (by first | omega | assumption) (by first | omega | assumption) (fun i hi => by have := hp i (by omega); omega)) gX5_greatestOf_X5_taken rfl rfl rfl hdX5_taken ⟨Nat.le_of_ble_eq_true rfl, Nat.le_of_ble_eq_true rfl⟩ ⟨Nat.zero_le _, Nat.zero_le _⟩ 0 0 rfl rfl rfl [0] rfl rfl (zlc (N := 1) rfl rfl) [1] rfl (by decide) (fun _ : Unit => [wM K.g y all kept hist hl slo sav beg prt frm txt tl sp tol rd]) (fun _ => rfl) rfl rfl (Nat.le_of_ble_eq_true rfl) dX5_greatestOf_72 75 rfl (fun u9 hu9 => ?_)
      show Z K 0 0 [wM K.g y all kept hist hl slo sav beg prt frm txt tl sp tol rd] [(0, .ref (y 0)), (1, .int (nI 17)), (2, .int (nI x)), (3, .int (nI i))] 75 [.int (nI (tkn st r prt n (prt i)))]
      refine z_istore C hnL [1, 2, 3, 4, 0] [(0, .ref (y 0)), (1, .int (nI 17)), (2, .int (nI x)), (3, .int (nI i)), (4, .int (nI (tkn st r prt n (prt i))))] rfl (Nat.le_of_ble_eq_true rfl) dX5_greatestOf_75 77 rfl ?_
      refine z_iload C 4 rfl dX5_greatestOf_77 79 rfl ?_
      refine z_iload_n C 2 rfl rfl dX5_greatestOf_79 80 rfl ?_
      refine z_icmp_le C (by omega) (by omega) 88 dX5_greatestOf_80 (by decide) 83 rfl (fun c_5 => ?_) (fun c_5 => ?_)
      · skip
        refine z_iload_n C 2 rfl rfl dX5_greatestOf_88 89 rfl ?_
        refine z_istore_n C hnL [1, 2, 0, 3, 4] [(0, .ref (y 0)), (1, .int (nI 17)), (2, .int (nI x)), (3, .int (nI i)), (4, .int (nI (tkn st r prt n (prt i))))] rfl rfl (Nat.le_of_ble_eq_true rfl) dX5_greatestOf_89 90 rfl ?_
        refine z_iinc C hnL 3 rfl (v := (nI (i + 1))) (nI_1 _) [1, 2, 3, 0, 4] [(0, .ref (y 0)), (1, .int (nI 17)), (2, .int (nI x)), (3, .int (nI (i + 1))), (4, .int (nI (tkn st r prt n (prt i))))] rfl (Nat.le_of_ble_eq_true rfl) dX5_greatestOf_90 93 rfl ?_
        refine z_goto C 4 dX5_greatestOf_93 (by decide) ?_
        refine z_lv [0, 1, 2, 3] [(0, .ref (y 0)), (1, .int (nI 17)), (2, .int (nI x)), (3, .int (nI (i + 1)))] rfl ?_
        exact ih4 _ (by omega) (i + 1) x rfl (by omega) (by rw [mx_s, ← hx]; omega) (by omega)
      · skip
        refine z_iload C 4 rfl dX5_greatestOf_83 85 rfl ?_
        refine z_goto C 89 dX5_greatestOf_85 (by decide) ?_
        refine z_istore_n C hnL [1, 2, 0, 3, 4] [(0, .ref (y 0)), (1, .int (nI 17)), (2, .int (nI (tkn st r prt n (prt i)))), (3, .int (nI i)), (4, .int (nI (tkn st r prt n (prt i))))] rfl rfl (Nat.le_of_ble_eq_true rfl) dX5_greatestOf_89 90 rfl ?_
        refine z_iinc C hnL 3 rfl (v := (nI (i + 1))) (nI_1 _) [1, 2, 3, 0, 4] [(0, .ref (y 0)), (1, .int (nI 17)), (2, .int (nI (tkn st r prt n (prt i)))), (3, .int (nI (i + 1))), (4, .int (nI (tkn st r prt n (prt i))))] rfl (Nat.le_of_ble_eq_true rfl) dX5_greatestOf_90 93 rfl ?_
        refine z_goto C 4 dX5_greatestOf_93 (by decide) ?_
        refine z_lv [0, 1, 2, 3] [(0, .ref (y 0)), (1, .int (nI 17)), (2, .int (nI (tkn st r prt n (prt i)))), (3, .int (nI (i + 1)))] rfl ?_
        exact ih4 _ (by omega) (i + 1) (tkn st r prt n (prt i)) rfl (by omega) (by rw [mx_s, ← hx]; omega) (by omega)
  exact loop4 _ 0 0 rfl (by omega) rfl (by omega)

set_option maxHeartbeats 4000000 in
set_option maxRecDepth 100000 in
theorem tX5_lateAll (l : Launch) (g : zG) (y all kept hist : Nat → Nat) (hl : Nat) (slo sav beg prt frm txt : Nat → Nat) (tl sp : Nat) (tol : Nat → Nat) (rd : Nat) (st : Nat → Nat) (r : Nat → Nat → Nat) (n : Nat) (hn : n ≤ 12) (hB : Bd all st r n) (hS : okS st) (hJ : okJ r n) (hR : okR st r n (st 5)) : Met l yX5_lateAll wsX5_lateAll ({ frames := 4, cells := 0, slots := 0, locals := 91 } : Room) (zPre g [.ref (y 0)] [wM g y all kept hist hl slo sav beg prt frm txt tl sp tol rd]) (zQ g (fun u : (Nat → Nat) × (Nat → Nat) => match u with | (beg2, prt2) => some (.int (nI (LSm st r (st 5) n))) ) (fun u : (Nat → Nat) × (Nat → Nat) => match u with | (beg2, prt2) => (LSm st r (st 5) n ≤ 1000000)) (fun u : (Nat → Nat) × (Nat → Nat) => match u with | (beg2, prt2) => [wM g y all kept hist hl slo sav beg2 prt2 frm txt tl sp tol rd]) (zA [wM g y all kept hist hl slo sav beg prt frm txt tl sp tol rd])) 0 0 (zA [wM g y all kept hist hl slo sav beg prt frm txt tl sp tol rd]) := by
  refine z_entry (cc := cX5_lateAll) (maxL := 1) (ret := (some .int)) (own := RX5) (by decide) rfl rfl (Nat.le_of_ble_eq_true rfl) [(0, .ref (y 0))] rfl ?_
  intro K hKl hKg hnL C hRx
  subst hKl
  subst hKg
  refine z_aload_n C 0 rfl rfl dX5_lateAll_0 1 rfl ?_
  refine z_callV C [] [] (tX5_prints K.l K.g y all kept hist hl slo sav beg prt frm txt tl sp tol rd st r n (by first | omega | assumption) (by first | omega | assumption) (by first | omega | assumption) (by first | omega | assumption) (by first | omega | assumption)) gX5_lateAll_X5_prints rfl rfl rfl hdX5_prints ⟨Nat.le_of_ble_eq_true rfl, Nat.le_of_ble_eq_true rfl⟩ ⟨Nat.zero_le _, Nat.zero_le _⟩ 0 0 rfl rfl rfl [0] rfl rfl (zlc (N := 1) rfl rfl) [1] rfl (by decide) (fun u : (Nat → Nat) × (Nat → Nat) => match u with | (beg2, prt2) => [wM K.g y all kept hist hl slo sav beg2 prt2 frm txt tl sp tol rd]) (fun _ => rfl) rfl rfl (Nat.le_of_ble_eq_true rfl) dX5_lateAll_1 4 rfl (fun u9 hu9 => ?_)
  obtain ⟨beg2, prt2⟩ := u9
  obtain ⟨hP, hE, hp⟩ := hu9
  have hP : isP st r (st 5) prt2 n := hP
  have hE : ∀ i, i < n → beg2 i + (rdy st r i + r 2 i * st 3) = prt2 i := hE
  have hp : ∀ i, i < n → prt2 i ≤ 14400 := hp
  show Z K 0 0 [wM K.g y all kept hist hl slo sav beg2 prt2 frm txt tl sp tol rd] [(0, .ref (y 0))] 4 []
  refine z_aload_n C 0 rfl rfl dX5_lateAll_4 5 rfl ?_
  refine z_bipush C (v := nI 12) rfl dX5_lateAll_5 7 rfl ?_
  refine z_callV C [.int (nI 12)] [] (tX5_sumOf_12 K.l K.g y all kept hist hl slo sav beg2 prt2 frm txt tl sp tol rd st r n (by first | omega | assumption) (by first | omega | assumption) (by first | omega | assumption) (by first | omega | assumption) (by first | omega | assumption)) gX5_lateAll_X5_sumOf rfl rfl rfl hdX5_sumOf ⟨Nat.le_of_ble_eq_true rfl, Nat.le_of_ble_eq_true rfl⟩ ⟨Nat.zero_le _, Nat.zero_le _⟩ 0 0 rfl rfl rfl [0] rfl rfl (zlc (N := 1) rfl rfl) [1] rfl (by decide) (fun _ : Unit => [wM K.g y all kept hist hl slo sav beg2 prt2 frm txt tl sp tol rd]) (fun _ => rfl) rfl rfl (Nat.le_of_ble_eq_true rfl) dX5_lateAll_7 10 rfl (fun u9 hu9 => ?_)
  show Z K 0 0 [wM K.g y all kept hist hl slo sav beg2 prt2 frm txt tl sp tol rd] [(0, .ref (y 0))] 10 [.int (nI (sm (fun i => prt2 i + st 4 - r 3 i) n))]
  exact z_iret C hRx dX5_lateAll_10 (beg2, prt2) (congrArg (fun z => some (Value.int (nI z))) (LS_e hP).symm) (by rw [← LS_e hP]; have := sm_le (f := fun i => prt2 i + st 4 - r 3 i) (B := 20000) n (fun i hi => by have := hp i hi; have := hS.2.2.2.2.2.1; show prt2 i + st 4 - r 3 i ≤ 20000; omega); omega) rfl

set_option maxHeartbeats 4000000 in
set_option maxRecDepth 100000 in
theorem tX5_isSetting_n (l : Launch) (g : zG) (v w : Int32) (hb : rg v.toInt (Int.ofNat 0) (Int.ofNat 6) = false) : Met l yX5_isSetting wsX5_isSetting ({ frames := 1, cells := 0, slots := 0, locals := 25 } : Room) (zPre g [.int v, .int w] []) (zQ g (fun _ : Unit => some (.int (bI false)) ) (fun _ : Unit => True) (fun _ : Unit => []) (zA [])) 0 0 (zA []) := by
  refine z_entry (cc := cX5_isSetting) (maxL := 2) (ret := (some .boolean)) (own := RX5) (by decide) rfl rfl (Nat.le_of_ble_eq_true rfl) [(0, .int v), (1, .int w)] rfl ?_
  intro K hKl hKg hnL C hRx
  subst hKl
  subst hKg
  refine z_iload_n C 0 rfl rfl dX5_isSetting_0 1 rfl ?_
  refine z_tabO C 106 dX5_isSetting_1 (tab_o hb) (by decide) ?_
  refine z_iconst C (v := nI 0) rfl dX5_isSetting_106 107 rfl ?_
  refine z_eq (st2 := [.int (bI false)]) ?_ rfl rfl rfl
  exact z_bret C hRx dX5_isSetting_107 () rfl trivial rfl

set_option maxHeartbeats 4000000 in
set_option maxRecDepth 100000 in
theorem tX5_isSetting (l : Launch) (g : zG) (k : Nat) (w : Int32) (hk : k ≤ 6) : Met l yX5_isSetting wsX5_isSetting ({ frames := 1, cells := 0, slots := 0, locals := 25 } : Room) (zPre g [.int (nI k), .int w] []) (zQ g (fun _ : Unit => some (.int (bI (rg w.toInt (Int.ofNat (leS k)) (Int.ofNat (moS k))))) ) (fun _ : Unit => True) (fun _ : Unit => []) (zA [])) 0 0 (zA []) := by
  refine z_entry (cc := cX5_isSetting) (maxL := 2) (ret := (some .boolean)) (own := RX5) (by decide) rfl rfl (Nat.le_of_ble_eq_true rfl) [(0, .int (nI k)), (1, .int w)] rfl ?_
  intro K hKl hKg hnL C hRx
  subst hKl
  subst hKg
  rcases (show k = 0 ∨ k = 1 ∨ k = 2 ∨ k = 3 ∨ k = 4 ∨ k = 5 ∨ k = 6 by omega) with rfl | rfl | rfl | rfl | rfl | rfl | rfl
  · skip
    refine z_iload_n C 0 rfl rfl dX5_isSetting_0 1 rfl ?_
    refine z_tab C (by decide) 44 dX5_isSetting_1 (by decide) (by decide) rfl (by decide) ?_
    refine z_iload_n C 1 rfl rfl dX5_isSetting_44 45 rfl ?_
    refine z_i2l C dX5_isSetting_45 46 rfl ?_
    refine z_lconst C (v := lN 0) rfl dX5_isSetting_46 47 rfl ?_
    refine z_ldc2 C (v := lN 60) (List.mem_of_getElem? (i := 1) rfl) dX5_isSetting_47 50 rfl ?_
    refine z_callP C [.long ((w).toInt64), .long (lN 0), .long (lN 60)] [] (tX5_inI K.l K.g w 0 60 (by first | omega | assumption) (by first | omega | assumption)) gX5_isSetting_X5_in rfl rfl rfl hdX5_in ⟨Nat.le_of_ble_eq_true rfl, Nat.le_of_ble_eq_true rfl⟩ ⟨Nat.zero_le _, Nat.zero_le _⟩ rfl rfl (Nat.le_of_ble_eq_true rfl) dX5_isSetting_50 53 rfl (fun u9 hu9 => ?_)
    show Z K 0 0 [] [(0, .int (nI 0)), (1, .int w)] 53 [.int (bI (rg w.toInt (Int.ofNat 0) (Int.ofNat 60)))]
    exact z_bret C hRx dX5_isSetting_53 () rfl trivial rfl
  · skip
    refine z_iload_n C 0 rfl rfl dX5_isSetting_0 1 rfl ?_
    refine z_tab C (by decide) 44 dX5_isSetting_1 (by decide) (by decide) rfl (by decide) ?_
    refine z_iload_n C 1 rfl rfl dX5_isSetting_44 45 rfl ?_
    refine z_i2l C dX5_isSetting_45 46 rfl ?_
    refine z_lconst C (v := lN 0) rfl dX5_isSetting_46 47 rfl ?_
    refine z_ldc2 C (v := lN 60) (List.mem_of_getElem? (i := 1) rfl) dX5_isSetting_47 50 rfl ?_
    refine z_callP C [.long ((w).toInt64), .long (lN 0), .long (lN 60)] [] (tX5_inI K.l K.g w 0 60 (by first | omega | assumption) (by first | omega | assumption)) gX5_isSetting_X5_in rfl rfl rfl hdX5_in ⟨Nat.le_of_ble_eq_true rfl, Nat.le_of_ble_eq_true rfl⟩ ⟨Nat.zero_le _, Nat.zero_le _⟩ rfl rfl (Nat.le_of_ble_eq_true rfl) dX5_isSetting_50 53 rfl (fun u9 hu9 => ?_)
    show Z K 0 0 [] [(0, .int (nI 1)), (1, .int w)] 53 [.int (bI (rg w.toInt (Int.ofNat 0) (Int.ofNat 60)))]
    exact z_bret C hRx dX5_isSetting_53 () rfl trivial rfl
  · skip
    refine z_iload_n C 0 rfl rfl dX5_isSetting_0 1 rfl ?_
    refine z_tab C (by decide) 54 dX5_isSetting_1 (by decide) (by decide) rfl (by decide) ?_
    refine z_iload_n C 1 rfl rfl dX5_isSetting_54 55 rfl ?_
    refine z_i2l C dX5_isSetting_55 56 rfl ?_
    refine z_lconst C (v := lN 0) rfl dX5_isSetting_56 57 rfl ?_
    refine z_ldc2 C (v := lN 9) (List.mem_of_getElem? (i := 2) rfl) dX5_isSetting_57 60 rfl ?_
    refine z_callP C [.long ((w).toInt64), .long (lN 0), .long (lN 9)] [] (tX5_inI K.l K.g w 0 9 (by first | omega | assumption) (by first | omega | assumption)) gX5_isSetting_X5_in rfl rfl rfl hdX5_in ⟨Nat.le_of_ble_eq_true rfl, Nat.le_of_ble_eq_true rfl⟩ ⟨Nat.zero_le _, Nat.zero_le _⟩ rfl rfl (Nat.le_of_ble_eq_true rfl) dX5_isSetting_60 63 rfl (fun u9 hu9 => ?_)
    show Z K 0 0 [] [(0, .int (nI 2)), (1, .int w)] 63 [.int (bI (rg w.toInt (Int.ofNat 0) (Int.ofNat 9)))]
    exact z_bret C hRx dX5_isSetting_63 () rfl trivial rfl
  · skip
    refine z_iload_n C 0 rfl rfl dX5_isSetting_0 1 rfl ?_
    refine z_tab C (by decide) 64 dX5_isSetting_1 (by decide) (by decide) rfl (by decide) ?_
    refine z_iload_n C 1 rfl rfl dX5_isSetting_64 65 rfl ?_
    refine z_i2l C dX5_isSetting_65 66 rfl ?_
    refine z_lconst C (v := lN 1) rfl dX5_isSetting_66 67 rfl ?_
    refine z_ldc2 C (v := lN 20) (List.mem_of_getElem? (i := 3) rfl) dX5_isSetting_67 70 rfl ?_
    refine z_callP C [.long ((w).toInt64), .long (lN 1), .long (lN 20)] [] (tX5_inI K.l K.g w 1 20 (by first | omega | assumption) (by first | omega | assumption)) gX5_isSetting_X5_in rfl rfl rfl hdX5_in ⟨Nat.le_of_ble_eq_true rfl, Nat.le_of_ble_eq_true rfl⟩ ⟨Nat.zero_le _, Nat.zero_le _⟩ rfl rfl (Nat.le_of_ble_eq_true rfl) dX5_isSetting_70 73 rfl (fun u9 hu9 => ?_)
    show Z K 0 0 [] [(0, .int (nI 3)), (1, .int w)] 73 [.int (bI (rg w.toInt (Int.ofNat 1) (Int.ofNat 20)))]
    exact z_bret C hRx dX5_isSetting_73 () rfl trivial rfl
  · skip
    refine z_iload_n C 0 rfl rfl dX5_isSetting_0 1 rfl ?_
    refine z_tab C (by decide) 74 dX5_isSetting_1 (by decide) (by decide) rfl (by decide) ?_
    refine z_iload_n C 1 rfl rfl dX5_isSetting_74 75 rfl ?_
    refine z_i2l C dX5_isSetting_75 76 rfl ?_
    refine z_lconst C (v := lN 0) rfl dX5_isSetting_76 77 rfl ?_
    refine z_ldc2 C (v := lN 500) (List.mem_of_getElem? (i := 4) rfl) dX5_isSetting_77 80 rfl ?_
    refine z_callP C [.long ((w).toInt64), .long (lN 0), .long (lN 500)] [] (tX5_inI K.l K.g w 0 500 (by first | omega | assumption) (by first | omega | assumption)) gX5_isSetting_X5_in rfl rfl rfl hdX5_in ⟨Nat.le_of_ble_eq_true rfl, Nat.le_of_ble_eq_true rfl⟩ ⟨Nat.zero_le _, Nat.zero_le _⟩ rfl rfl (Nat.le_of_ble_eq_true rfl) dX5_isSetting_80 83 rfl (fun u9 hu9 => ?_)
    show Z K 0 0 [] [(0, .int (nI 4)), (1, .int w)] 83 [.int (bI (rg w.toInt (Int.ofNat 0) (Int.ofNat 500)))]
    exact z_bret C hRx dX5_isSetting_83 () rfl trivial rfl
  · skip
    refine z_iload_n C 0 rfl rfl dX5_isSetting_0 1 rfl ?_
    refine z_tab C (by decide) 84 dX5_isSetting_1 (by decide) (by decide) rfl (by decide) ?_
    refine z_iload_n C 1 rfl rfl dX5_isSetting_84 85 rfl ?_
    refine z_i2l C dX5_isSetting_85 86 rfl ?_
    refine z_ldc2 C (v := lN 4) (List.mem_of_getElem? (i := 5) rfl) dX5_isSetting_86 89 rfl ?_
    refine z_ldc2 C (v := lN 20) (List.mem_of_getElem? (i := 3) rfl) dX5_isSetting_89 92 rfl ?_
    refine z_callP C [.long ((w).toInt64), .long (lN 4), .long (lN 20)] [] (tX5_inI K.l K.g w 4 20 (by first | omega | assumption) (by first | omega | assumption)) gX5_isSetting_X5_in rfl rfl rfl hdX5_in ⟨Nat.le_of_ble_eq_true rfl, Nat.le_of_ble_eq_true rfl⟩ ⟨Nat.zero_le _, Nat.zero_le _⟩ rfl rfl (Nat.le_of_ble_eq_true rfl) dX5_isSetting_92 95 rfl (fun u9 hu9 => ?_)
    show Z K 0 0 [] [(0, .int (nI 5)), (1, .int w)] 95 [.int (bI (rg w.toInt (Int.ofNat 4) (Int.ofNat 20)))]
    exact z_bret C hRx dX5_isSetting_95 () rfl trivial rfl
  · skip
    refine z_iload_n C 0 rfl rfl dX5_isSetting_0 1 rfl ?_
    refine z_tab C (by decide) 96 dX5_isSetting_1 (by decide) (by decide) rfl (by decide) ?_
    refine z_iload_n C 1 rfl rfl dX5_isSetting_96 97 rfl ?_
    refine z_i2l C dX5_isSetting_97 98 rfl ?_
    refine z_lconst C (v := lN 1) rfl dX5_isSetting_98 99 rfl ?_
    refine z_ldc2 C (v := lN 10) (List.mem_of_getElem? (i := 6) rfl) dX5_isSetting_99 102 rfl ?_
    refine z_callP C [.long ((w).toInt64), .long (lN 1), .long (lN 10)] [] (tX5_inI K.l K.g w 1 10 (by first | omega | assumption) (by first | omega | assumption)) gX5_isSetting_X5_in rfl rfl rfl hdX5_in ⟨Nat.le_of_ble_eq_true rfl, Nat.le_of_ble_eq_true rfl⟩ ⟨Nat.zero_le _, Nat.zero_le _⟩ rfl rfl (Nat.le_of_ble_eq_true rfl) dX5_isSetting_102 105 rfl (fun u9 hu9 => ?_)
    show Z K 0 0 [] [(0, .int (nI 6)), (1, .int w)] 105 [.int (bI (rg w.toInt (Int.ofNat 1) (Int.ofNat 10)))]
    exact z_bret C hRx dX5_isSetting_105 () rfl trivial rfl

set_option maxHeartbeats 4000000 in
set_option maxRecDepth 100000 in
theorem tX5_keyOf (l : Launch) (g : zG) (k : Nat) (hk : k ≤ 3) : Met l yX5_keyOf wsX5_keyOf ({ frames := 0, cells := 0, slots := 0, locals := 0 } : Room) (zPre g [.int (nI k)] []) (zQ g (fun _ : Unit => some (.int (nI (foR k))) ) (fun _ : Unit => True) (fun _ : Unit => []) (zA [])) 0 0 (zA []) := by
  refine z_entry (cc := cX5_keyOf) (maxL := 1) (ret := (some .int)) (own := RX5) (by decide) rfl rfl (Nat.le_of_ble_eq_true rfl) [(0, .int (nI k))] rfl ?_
  intro K hKl hKg hnL C hRx
  subst hKl
  subst hKg
  refine z_iload_n C 0 rfl rfl dX5_keyOf_0 1 rfl ?_
  refine z_if_ne C (by omega) 8 dX5_keyOf_1 (by decide) 4 rfl (fun c_1 => ?_) (fun c_1 => ?_)
  · skip
    refine z_iload_n C 0 rfl rfl dX5_keyOf_8 9 rfl ?_
    refine z_iconst C (v := nI 1) rfl dX5_keyOf_9 10 rfl ?_
    refine z_icmp_ne C (by omega) (by omega) 17 dX5_keyOf_10 (by decide) 13 rfl (fun c_2 => ?_) (fun c_2 => ?_)
    · skip
      refine z_iload_n C 0 rfl rfl dX5_keyOf_17 18 rfl ?_
      refine z_iconst C (v := nI 2) rfl dX5_keyOf_18 19 rfl ?_
      refine z_icmp_ne C (by omega) (by omega) 26 dX5_keyOf_19 (by decide) 22 rfl (fun c_3 => ?_) (fun c_3 => ?_)
      · skip
        refine z_iconst C (v := nI 2) rfl dX5_keyOf_26 27 rfl ?_
        exact z_iret C hRx dX5_keyOf_27 () (by rw [show foR k = 2 from by rw [show k = 3 by omega]; rfl]) trivial rfl
      · skip
        refine z_iconst C (v := nI 0) rfl dX5_keyOf_22 23 rfl ?_
        refine z_goto C 27 dX5_keyOf_23 (by decide) ?_
        exact z_iret C hRx dX5_keyOf_27 () (by rw [show foR k = 0 from by rw [show k = 2 by omega]; rfl]) trivial rfl
    · skip
      refine z_iconst C (v := nI 1) rfl dX5_keyOf_13 14 rfl ?_
      refine z_goto C 27 dX5_keyOf_14 (by decide) ?_
      exact z_iret C hRx dX5_keyOf_27 () (by rw [show foR k = 1 from by rw [show k = 1 by omega]; rfl]) trivial rfl
  · skip
    refine z_iconst C (v := nI 3) rfl dX5_keyOf_4 5 rfl ?_
    refine z_goto C 27 dX5_keyOf_5 (by decide) ?_
    exact z_iret C hRx dX5_keyOf_27 () (by rw [show foR k = 3 from by rw [show k = 0 by omega]; rfl]) trivial rfl

theorem iX5_puts_X5 : ∀ w ∈ u_ws RX5 TX5 14, w ∈ wsX5_puts := fun w h => (List.mem_cons_of_mem _ (List.mem_append_right _ h))
set_option maxHeartbeats 4000000 in
set_option maxRecDepth 100000 in
theorem tX5_puts (l : Launch) (g : zG) (y all kept hist : Nat → Nat) (hl : Nat) (slo sav beg prt frm txt : Nat → Nat) (tl sp : Nat) (tol : Nat → Nat) (rd : Nat) (st : Nat → Nat) (r : Nat → Nat → Nat) (n : Nat) (a b c d : Nat) (hn : n < 12) (hB : Bd all st r n) : Met l yX5_puts wsX5_puts ({ frames := 0, cells := 0, slots := 0, locals := 0 } : Room) (zPre g [.ref (y 0), .int (nI a), .int (nI b), .int (nI c), .int (nI d)] [wM g y all kept hist hl slo sav beg prt frm txt tl sp tol rd]) (zQ g (fun all2 : Nat → Nat => none ) (fun all2 : Nat → Nat => (Bd all2 st (apR r n a b c d) (n + 1))) (fun all2 : Nat → Nat => [wM g y all2 kept hist hl slo sav beg prt frm txt tl sp tol rd]) (zA [wM g y all kept hist hl slo sav beg prt frm txt tl sp tol rd])) 0 0 (zA [wM g y all kept hist hl slo sav beg prt frm txt tl sp tol rd]) := by
  refine z_entry (cc := cX5_puts) (maxL := 6) (ret := none) (own := RX5) (by decide) rfl rfl (Nat.le_of_ble_eq_true rfl) [(0, .ref (y 0)), (1, .int (nI a)), (2, .int (nI b)), (3, .int (nI c)), (4, .int (nI d))] rfl ?_
  intro K hKl hKg hnL C hRx
  subst hKl
  subst hKg
  refine z_bipush C (v := nI 8) rfl dX5_puts_0 2 rfl ?_
  refine z_iconst C (v := nI 4) rfl dX5_puts_2 3 rfl ?_
  refine z_aload_n C 0 rfl rfl dX5_puts_3 4 rfl ?_
  refine z_get C zc5 iX5_puts_X5 0 0 rfl rfl 0 (Nat.le_of_ble_eq_true rfl) (List.mem_of_getElem? (i := 1) rfl) (v := .ref (y 1)) rfl dX5_puts_4 7 rfl ?_
  refine z_bipush C (v := nI 7) rfl dX5_puts_7 9 rfl ?_
  refine z_iald C (f := all) 0 1 rfl rfl (by omega) (by decide) dX5_puts_9 10 rfl ?_
  refine z_top (show nI (all 7) = nI n from by rw [hB.2.1]) ?_
  refine z_imul C dX5_puts_10 11 rfl ?_
  refine z_iadd C dX5_puts_11 12 rfl ?_
  refine z_istore C hnL [1, 2, 3, 4, 5, 0] [(0, .ref (y 0)), (1, .int (nI a)), (2, .int (nI b)), (3, .int (nI c)), (4, .int (nI d)), (5, .int (nI (8 + (4 * n))))] rfl (Nat.le_of_ble_eq_true rfl) dX5_puts_12 14 rfl ?_
  refine z_aload_n C 0 rfl rfl dX5_puts_14 15 rfl ?_
  refine z_get C zc5 iX5_puts_X5 0 0 rfl rfl 0 (Nat.le_of_ble_eq_true rfl) (List.mem_of_getElem? (i := 1) rfl) (v := .ref (y 1)) rfl dX5_puts_15 18 rfl ?_
  refine z_iload C 5 rfl dX5_puts_18 20 rfl ?_
  refine z_iconst C (v := nI 0) rfl dX5_puts_20 21 rfl ?_
  refine z_iadd C dX5_puts_21 22 rfl ?_
  refine z_iload_n C 1 rfl rfl dX5_puts_22 23 rfl ?_
  refine z_iast C (f := all) 0 1 rfl rfl (by omega) (by decide) (wM K.g y (un all ((8 + (4 * n)) + 0) a) kept hist hl slo sav beg prt frm txt tl sp tol rd) rfl [wM K.g y (un all ((8 + (4 * n)) + 0) a) kept hist hl slo sav beg prt frm txt tl sp tol rd] rfl dX5_puts_23 24 rfl ?_
  refine z_aload_n C 0 rfl rfl dX5_puts_24 25 rfl ?_
  refine z_get C zc5 iX5_puts_X5 0 0 rfl rfl 0 (Nat.le_of_ble_eq_true rfl) (List.mem_of_getElem? (i := 1) rfl) (v := .ref (y 1)) rfl dX5_puts_25 28 rfl ?_
  refine z_iload C 5 rfl dX5_puts_28 30 rfl ?_
  refine z_iconst C (v := nI 1) rfl dX5_puts_30 31 rfl ?_
  refine z_iadd C dX5_puts_31 32 rfl ?_
  refine z_iload_n C 2 rfl rfl dX5_puts_32 33 rfl ?_
  refine z_iast C (f := (un all ((8 + (4 * n)) + 0) a)) 0 1 rfl rfl (by omega) (by decide) (wM K.g y (un (un all ((8 + (4 * n)) + 0) a) ((8 + (4 * n)) + 1) b) kept hist hl slo sav beg prt frm txt tl sp tol rd) rfl [wM K.g y (un (un all ((8 + (4 * n)) + 0) a) ((8 + (4 * n)) + 1) b) kept hist hl slo sav beg prt frm txt tl sp tol rd] rfl dX5_puts_33 34 rfl ?_
  refine z_aload_n C 0 rfl rfl dX5_puts_34 35 rfl ?_
  refine z_get C zc5 iX5_puts_X5 0 0 rfl rfl 0 (Nat.le_of_ble_eq_true rfl) (List.mem_of_getElem? (i := 1) rfl) (v := .ref (y 1)) rfl dX5_puts_35 38 rfl ?_
  refine z_iload C 5 rfl dX5_puts_38 40 rfl ?_
  refine z_iconst C (v := nI 2) rfl dX5_puts_40 41 rfl ?_
  refine z_iadd C dX5_puts_41 42 rfl ?_
  refine z_iload_n C 3 rfl rfl dX5_puts_42 43 rfl ?_
  refine z_iast C (f := (un (un all ((8 + (4 * n)) + 0) a) ((8 + (4 * n)) + 1) b)) 0 1 rfl rfl (by omega) (by decide) (wM K.g y (un (un (un all ((8 + (4 * n)) + 0) a) ((8 + (4 * n)) + 1) b) ((8 + (4 * n)) + 2) c) kept hist hl slo sav beg prt frm txt tl sp tol rd) rfl [wM K.g y (un (un (un all ((8 + (4 * n)) + 0) a) ((8 + (4 * n)) + 1) b) ((8 + (4 * n)) + 2) c) kept hist hl slo sav beg prt frm txt tl sp tol rd] rfl dX5_puts_43 44 rfl ?_
  refine z_aload_n C 0 rfl rfl dX5_puts_44 45 rfl ?_
  refine z_get C zc5 iX5_puts_X5 0 0 rfl rfl 0 (Nat.le_of_ble_eq_true rfl) (List.mem_of_getElem? (i := 1) rfl) (v := .ref (y 1)) rfl dX5_puts_45 48 rfl ?_
  refine z_iload C 5 rfl dX5_puts_48 50 rfl ?_
  refine z_iconst C (v := nI 3) rfl dX5_puts_50 51 rfl ?_
  refine z_iadd C dX5_puts_51 52 rfl ?_
  refine z_iload C 4 rfl dX5_puts_52 54 rfl ?_
  refine z_iast C (f := (un (un (un all ((8 + (4 * n)) + 0) a) ((8 + (4 * n)) + 1) b) ((8 + (4 * n)) + 2) c)) 0 1 rfl rfl (by omega) (by decide) (wM K.g y (un (un (un (un all ((8 + (4 * n)) + 0) a) ((8 + (4 * n)) + 1) b) ((8 + (4 * n)) + 2) c) ((8 + (4 * n)) + 3) d) kept hist hl slo sav beg prt frm txt tl sp tol rd) rfl [wM K.g y (un (un (un (un all ((8 + (4 * n)) + 0) a) ((8 + (4 * n)) + 1) b) ((8 + (4 * n)) + 2) c) ((8 + (4 * n)) + 3) d) kept hist hl slo sav beg prt frm txt tl sp tol rd] rfl dX5_puts_54 55 rfl ?_
  refine z_aload_n C 0 rfl rfl dX5_puts_55 56 rfl ?_
  refine z_get C zc5 iX5_puts_X5 0 0 rfl rfl 0 (Nat.le_of_ble_eq_true rfl) (List.mem_of_getElem? (i := 1) rfl) (v := .ref (y 1)) rfl dX5_puts_56 59 rfl ?_
  refine z_bipush C (v := nI 7) rfl dX5_puts_59 61 rfl ?_
  refine z_dup2 C rfl rfl dX5_puts_61 62 rfl ?_
  refine z_iald C (f := (un (un (un (un all ((8 + (4 * n)) + 0) a) ((8 + (4 * n)) + 1) b) ((8 + (4 * n)) + 2) c) ((8 + (4 * n)) + 3) d)) 0 1 rfl rfl (by omega) (by decide) dX5_puts_62 63 rfl ?_
  refine z_top (show nI ((un (un (un (un all ((8 + (4 * n)) + 0) a) ((8 + (4 * n)) + 1) b) ((8 + (4 * n)) + 2) c) ((8 + (4 * n)) + 3) d) 7) = nI n from (by rw [un_n (by omega), un_n (by omega), un_n (by omega), un_n (by omega), hB.2.1])) ?_
  refine z_iconst C (v := nI 1) rfl dX5_puts_63 64 rfl ?_
  refine z_iadd C dX5_puts_64 65 rfl ?_
  refine z_iast C (f := (un (un (un (un all ((8 + (4 * n)) + 0) a) ((8 + (4 * n)) + 1) b) ((8 + (4 * n)) + 2) c) ((8 + (4 * n)) + 3) d)) 0 1 rfl rfl (by omega) (by decide) (wM K.g y (un (un (un (un (un all ((8 + (4 * n)) + 0) a) ((8 + (4 * n)) + 1) b) ((8 + (4 * n)) + 2) c) ((8 + (4 * n)) + 3) d) 7 (n + 1)) kept hist hl slo sav beg prt frm txt tl sp tol rd) rfl [wM K.g y (un (un (un (un (un all ((8 + (4 * n)) + 0) a) ((8 + (4 * n)) + 1) b) ((8 + (4 * n)) + 2) c) ((8 + (4 * n)) + 3) d) 7 (n + 1)) kept hist hl slo sav beg prt frm txt tl sp tol rd] rfl dX5_puts_65 66 rfl ?_
  exact z_vret C hRx dX5_puts_66 (un (un (un (un (un all ((8 + (4 * n)) + 0) a) ((8 + (4 * n)) + 1) b) ((8 + (4 * n)) + 2) c) ((8 + (4 * n)) + 3) d) 7 (n + 1)) rfl (Bd_put hB) rfl

theorem iX5_changes_X5 : ∀ w ∈ u_ws RX5 TX5 14, w ∈ wsX5_changes := fun w h => (List.mem_cons_of_mem _ (List.mem_append_right _ h))
set_option maxHeartbeats 4000000 in
set_option maxRecDepth 100000 in
theorem tX5_changes (l : Launch) (g : zG) (y all kept hist : Nat → Nat) (hl : Nat) (slo sav beg prt frm txt : Nat → Nat) (tl sp : Nat) (tol : Nat → Nat) (rd : Nat) (hl6 : hl ≤ 6) : Met l yX5_changes wsX5_changes ({ frames := 0, cells := 0, slots := 0, locals := 0 } : Room) (zPre g [.ref (y 0)] [wM g y all kept hist hl slo sav beg prt frm txt tl sp tol rd]) (zQ g (fun u : (Nat → Nat) × (Nat) => match u with | (hist2, hl2) => none ) (fun u : (Nat → Nat) × (Nat) => match u with | (hist2, hl2) => (hl2 = min (hl + 1) 6) ∧ (∀ u, u < 56 → hist2 (56 * (hl2 - 1) + u) = all u) ∧ (∀ e u, e + 1 < hl2 → u < 56 → hist2 (56 * e + u) = hist (56 * (e + (hl + 1 - hl2)) + u))) (fun u : (Nat → Nat) × (Nat) => match u with | (hist2, hl2) => [wM g y all kept hist2 hl2 slo sav beg prt frm txt tl sp tol rd]) (zA [wM g y all kept hist hl slo sav beg prt frm txt tl sp tol rd])) 0 0 (zA [wM g y all kept hist hl slo sav beg prt frm txt tl sp tol rd]) := by
  refine z_entry (cc := cX5_changes) (maxL := 2) (ret := none) (own := RX5) (by decide) rfl rfl (Nat.le_of_ble_eq_true rfl) [(0, .ref (y 0))] rfl ?_
  intro K hKl hKg hnL C hRx
  subst hKl
  subst hKg
  refine z_aload_n C 0 rfl rfl dX5_changes_0 1 rfl ?_
  refine z_get C zc5 iX5_changes_X5 0 0 rfl rfl 3 (Nat.le_of_ble_eq_true rfl) (List.mem_of_getElem? (i := 1) rfl) (v := .int (nI hl)) rfl dX5_changes_1 4 rfl ?_
  refine z_bipush C (v := nI 6) rfl dX5_changes_4 6 rfl ?_
  refine z_icmp_ne C (by omega) (by omega) 49 dX5_changes_6 (by decide) 9 rfl (fun c_1 => ?_) (fun c_1 => ?_)
  · skip
    obtain ⟨h0, hiB, hq0, hqB⟩ : ∃ (h0 : Nat) (hiB : Nat → Nat), (h0 = hl ∧ hiB = hist) ∧ h0 ≤ 5 ∧ ∀ u, u + 56 * (hl - h0) < 336 → hiB u = hist (u + 56 * (hl - h0)) := ⟨hl, hist, ⟨rfl, rfl⟩, by omega, fun u hu => by rw [show u + 56 * (hl - hl) = u by omega]⟩
    obtain ⟨e01, e02⟩ := hq0
    obtain ⟨hq5, hqB⟩ := hqB
    have hd0 : hl + 1 - min (hl + 1) 6 = hl - h0 ∧ min (hl + 1) 6 = h0 + 1 := by omega
    refine z_eq (cs2 := [wM K.g y all kept hiB h0 slo sav beg prt frm txt tl sp tol rd]) ?_ (by rw [e01, e02]) rfl rfl
    refine z_iconst C (v := nI 0) rfl dX5_changes_49 50 rfl ?_
    refine z_istore_n C hnL [1, 0] [(0, .ref (y 0)), (1, .int (nI 0))] rfl rfl (Nat.le_of_ble_eq_true rfl) dX5_changes_50 51 rfl ?_
    have loop51 : ∀ (mu : Nat) (k : Nat) (hi2 : Nat → Nat), mu = 56 - k → k ≤ 56 → (∀ u, u < 336 → hi2 u = if 56 * h0 ≤ u ∧ u < 56 * h0 + k then all (u - 56 * h0) else hiB u) → Z K 0 0 [wM K.g y all kept hi2 h0 slo sav beg prt frm txt tl sp tol rd] [(0, .ref (y 0)), (1, .int (nI k))] 51 [] := by
      refine z_ind (fun mu ih51 => ?_)
      intro k hi2 hmu51 hk hs2
      refine z_iload_n C 1 rfl rfl dX5_changes_51 52 rfl ?_
      refine z_bipush C (v := nI 56) rfl dX5_changes_52 54 rfl ?_
      refine z_icmp_ge C (by omega) (by omega) 83 dX5_changes_54 (by decide) 57 rfl (fun c_2 => ?_) (fun c_2 => ?_)
      · skip
        refine z_aload_n C 0 rfl rfl dX5_changes_83 84 rfl ?_
        refine z_dup C rfl dX5_changes_84 85 rfl ?_
        refine z_get C zc5 iX5_changes_X5 0 0 rfl rfl 3 (Nat.le_of_ble_eq_true rfl) (List.mem_of_getElem? (i := 1) rfl) (v := .int (nI h0)) rfl dX5_changes_85 88 rfl ?_
        refine z_iconst C (v := nI 1) rfl dX5_changes_88 89 rfl ?_
        refine z_iadd C dX5_changes_89 90 rfl ?_
        refine z_put C zc5 iX5_changes_X5 0 0 rfl rfl 3 (Nat.le_of_ble_eq_true rfl) (List.mem_of_getElem? (i := 1) rfl) rfl rfl rfl (Nat.le_of_ble_eq_true rfl) (wM K.g y all kept hi2 (h0 + 1) slo sav beg prt frm txt tl sp tol rd) rfl [wM K.g y all kept hi2 (h0 + 1) slo sav beg prt frm txt tl sp tol rd] rfl dX5_changes_90 93 rfl ?_
        obtain rfl : k = 56 := by omega
        exact z_vret C hRx dX5_changes_93 (hi2, h0 + 1) rfl (⟨by omega, fun u hu => by
      rw [show h0 + 1 - 1 = h0 from rfl, hs2 _ (by omega), if_pos (by omega)]
      congr 1; omega, fun e u he hu => by
      rw [hs2 _ (by omega), if_neg (by omega), hqB _ (by omega), show hl + 1 - (h0 + 1) = hl - h0 by omega]
      congr 1; omega⟩) rfl
      · skip
        refine z_aload_n C 0 rfl rfl dX5_changes_57 58 rfl ?_
        refine z_get C zc5 iX5_changes_X5 0 0 rfl rfl 2 (Nat.le_of_ble_eq_true rfl) (List.mem_of_getElem? (i := 2) rfl) (v := .ref (y 3)) rfl dX5_changes_58 61 rfl ?_
        refine z_bipush C (v := nI 56) rfl dX5_changes_61 63 rfl ?_
        refine z_aload_n C 0 rfl rfl dX5_changes_63 64 rfl ?_
        refine z_get C zc5 iX5_changes_X5 0 0 rfl rfl 3 (Nat.le_of_ble_eq_true rfl) (List.mem_of_getElem? (i := 1) rfl) (v := .int (nI h0)) rfl dX5_changes_64 67 rfl ?_
        refine z_imul C dX5_changes_67 68 rfl ?_
        refine z_iload_n C 1 rfl rfl dX5_changes_68 69 rfl ?_
        refine z_iadd C dX5_changes_69 70 rfl ?_
        refine z_aload_n C 0 rfl rfl dX5_changes_70 71 rfl ?_
        refine z_get C zc5 iX5_changes_X5 0 0 rfl rfl 0 (Nat.le_of_ble_eq_true rfl) (List.mem_of_getElem? (i := 3) rfl) (v := .ref (y 1)) rfl dX5_changes_71 74 rfl ?_
        refine z_iload_n C 1 rfl rfl dX5_changes_74 75 rfl ?_
        refine z_iald C (f := all) 0 1 rfl rfl (by omega) (by decide) dX5_changes_75 76 rfl ?_
        refine z_iast C (f := hi2) 0 3 rfl rfl (by omega) (by decide) (wM K.g y all kept (un hi2 ((56 * h0) + k) (all k)) h0 slo sav beg prt frm txt tl sp tol rd) rfl [wM K.g y all kept (un hi2 ((56 * h0) + k) (all k)) h0 slo sav beg prt frm txt tl sp tol rd] rfl dX5_changes_76 77 rfl ?_
        refine z_iinc C hnL 1 rfl (v := (nI (k + 1))) (nI_1 _) [1, 0] [(0, .ref (y 0)), (1, .int (nI (k + 1)))] rfl (Nat.le_of_ble_eq_true rfl) dX5_changes_77 80 rfl ?_
        refine z_goto C 51 dX5_changes_80 (by decide) ?_
        exact ih51 _ (by omega) (k + 1) (un hi2 ((56 * h0) + k) (all k)) rfl (by omega) (fun u hu => by
      by_cases e : u = 56 * h0 + k
      · subst e; rw [un_s, if_pos (by omega)]; congr 1; omega
      · rw [un_n e, hs2 u hu]; by_cases q : 56 * h0 ≤ u ∧ u < 56 * h0 + k
        · rw [if_pos q, if_pos (by omega)]
        · rw [if_neg q, if_neg (by omega)])
    exact loop51 _ 0 hiB rfl (by omega) (fun u hu => by rw [if_neg (by omega)])
  · skip
    refine z_iconst C (v := nI 0) rfl dX5_changes_9 10 rfl ?_
    refine z_istore_n C hnL [1, 0] [(0, .ref (y 0)), (1, .int (nI 0))] rfl rfl (Nat.le_of_ble_eq_true rfl) dX5_changes_10 11 rfl ?_
    have loop11 : ∀ (mu : Nat) (k : Nat) (hi1 : Nat → Nat), mu = 280 - k → k ≤ 280 → (∀ u, u < 336 → hi1 u = if u < k then hist (u + 56) else hist u) → Z K 0 0 [wM K.g y all kept hi1 hl slo sav beg prt frm txt tl sp tol rd] [(0, .ref (y 0)), (1, .int (nI k))] 11 [] := by
      refine z_ind (fun mu ih11 => ?_)
      intro k hi1 hmu11 hk hs1
      refine z_iload_n C 1 rfl rfl dX5_changes_11 12 rfl ?_
      refine z_sipush C (v := nI 280) rfl dX5_changes_12 15 rfl ?_
      refine z_icmp_ge C (by omega) (by omega) 39 dX5_changes_15 (by decide) 18 rfl (fun c_3 => ?_) (fun c_3 => ?_)
      · skip
        refine z_aload_n C 0 rfl rfl dX5_changes_39 40 rfl ?_
        refine z_dup C rfl dX5_changes_40 41 rfl ?_
        refine z_get C zc5 iX5_changes_X5 0 0 rfl rfl 3 (Nat.le_of_ble_eq_true rfl) (List.mem_of_getElem? (i := 1) rfl) (v := .int (nI hl)) rfl dX5_changes_41 44 rfl ?_
        refine z_iconst C (v := nI 1) rfl dX5_changes_44 45 rfl ?_
        refine z_isub C (by omega) dX5_changes_45 46 rfl ?_
        refine z_put C zc5 iX5_changes_X5 0 0 rfl rfl 3 (Nat.le_of_ble_eq_true rfl) (List.mem_of_getElem? (i := 1) rfl) rfl rfl rfl (Nat.le_of_ble_eq_true rfl) (wM K.g y all kept hi1 (hl - 1) slo sav beg prt frm txt tl sp tol rd) rfl [wM K.g y all kept hi1 (hl - 1) slo sav beg prt frm txt tl sp tol rd] rfl dX5_changes_46 49 rfl ?_
        obtain ⟨h0, hiB, hq0, hqB⟩ : ∃ (h0 : Nat) (hiB : Nat → Nat), (h0 = hl - 1 ∧ hiB = hi1) ∧ h0 ≤ 5 ∧ ∀ u, u + 56 * (hl - h0) < 336 → hiB u = hist (u + 56 * (hl - h0)) := ⟨hl - 1, hi1, ⟨rfl, rfl⟩, by omega, fun u hu => by rw [hs1 u (by omega), if_pos (by omega)]; congr 1; omega⟩
        obtain ⟨e01, e02⟩ := hq0
        obtain ⟨hq5, hqB⟩ := hqB
        have hd0 : hl + 1 - min (hl + 1) 6 = hl - h0 ∧ min (hl + 1) 6 = h0 + 1 := by omega
        refine z_eq (cs2 := [wM K.g y all kept hiB h0 slo sav beg prt frm txt tl sp tol rd]) ?_ (by rw [e01, e02]) rfl rfl
        refine z_iconst C (v := nI 0) rfl dX5_changes_49 50 rfl ?_
        refine z_istore_n C hnL [1, 0] [(0, .ref (y 0)), (1, .int (nI 0))] rfl rfl (Nat.le_of_ble_eq_true rfl) dX5_changes_50 51 rfl ?_
        have loop51 : ∀ (mu : Nat) (k : Nat) (hi2 : Nat → Nat), mu = 56 - k → k ≤ 56 → (∀ u, u < 336 → hi2 u = if 56 * h0 ≤ u ∧ u < 56 * h0 + k then all (u - 56 * h0) else hiB u) → Z K 0 0 [wM K.g y all kept hi2 h0 slo sav beg prt frm txt tl sp tol rd] [(0, .ref (y 0)), (1, .int (nI k))] 51 [] := by
          refine z_ind (fun mu ih51 => ?_)
          intro k hi2 hmu51 hk hs2
          refine z_iload_n C 1 rfl rfl dX5_changes_51 52 rfl ?_
          refine z_bipush C (v := nI 56) rfl dX5_changes_52 54 rfl ?_
          refine z_icmp_ge C (by omega) (by omega) 83 dX5_changes_54 (by decide) 57 rfl (fun c_4 => ?_) (fun c_4 => ?_)
          · skip
            refine z_aload_n C 0 rfl rfl dX5_changes_83 84 rfl ?_
            refine z_dup C rfl dX5_changes_84 85 rfl ?_
            refine z_get C zc5 iX5_changes_X5 0 0 rfl rfl 3 (Nat.le_of_ble_eq_true rfl) (List.mem_of_getElem? (i := 1) rfl) (v := .int (nI h0)) rfl dX5_changes_85 88 rfl ?_
            refine z_iconst C (v := nI 1) rfl dX5_changes_88 89 rfl ?_
            refine z_iadd C dX5_changes_89 90 rfl ?_
            refine z_put C zc5 iX5_changes_X5 0 0 rfl rfl 3 (Nat.le_of_ble_eq_true rfl) (List.mem_of_getElem? (i := 1) rfl) rfl rfl rfl (Nat.le_of_ble_eq_true rfl) (wM K.g y all kept hi2 (h0 + 1) slo sav beg prt frm txt tl sp tol rd) rfl [wM K.g y all kept hi2 (h0 + 1) slo sav beg prt frm txt tl sp tol rd] rfl dX5_changes_90 93 rfl ?_
            obtain rfl : k = 56 := by omega
            exact z_vret C hRx dX5_changes_93 (hi2, h0 + 1) rfl (⟨by omega, fun u hu => by
      rw [show h0 + 1 - 1 = h0 from rfl, hs2 _ (by omega), if_pos (by omega)]
      congr 1; omega, fun e u he hu => by
      rw [hs2 _ (by omega), if_neg (by omega), hqB _ (by omega), show hl + 1 - (h0 + 1) = hl - h0 by omega]
      congr 1; omega⟩) rfl
          · skip
            refine z_aload_n C 0 rfl rfl dX5_changes_57 58 rfl ?_
            refine z_get C zc5 iX5_changes_X5 0 0 rfl rfl 2 (Nat.le_of_ble_eq_true rfl) (List.mem_of_getElem? (i := 2) rfl) (v := .ref (y 3)) rfl dX5_changes_58 61 rfl ?_
            refine z_bipush C (v := nI 56) rfl dX5_changes_61 63 rfl ?_
            refine z_aload_n C 0 rfl rfl dX5_changes_63 64 rfl ?_
            refine z_get C zc5 iX5_changes_X5 0 0 rfl rfl 3 (Nat.le_of_ble_eq_true rfl) (List.mem_of_getElem? (i := 1) rfl) (v := .int (nI h0)) rfl dX5_changes_64 67 rfl ?_
            refine z_imul C dX5_changes_67 68 rfl ?_
            refine z_iload_n C 1 rfl rfl dX5_changes_68 69 rfl ?_
            refine z_iadd C dX5_changes_69 70 rfl ?_
            refine z_aload_n C 0 rfl rfl dX5_changes_70 71 rfl ?_
            refine z_get C zc5 iX5_changes_X5 0 0 rfl rfl 0 (Nat.le_of_ble_eq_true rfl) (List.mem_of_getElem? (i := 3) rfl) (v := .ref (y 1)) rfl dX5_changes_71 74 rfl ?_
            refine z_iload_n C 1 rfl rfl dX5_changes_74 75 rfl ?_
            refine z_iald C (f := all) 0 1 rfl rfl (by omega) (by decide) dX5_changes_75 76 rfl ?_
            refine z_iast C (f := hi2) 0 3 rfl rfl (by omega) (by decide) (wM K.g y all kept (un hi2 ((56 * h0) + k) (all k)) h0 slo sav beg prt frm txt tl sp tol rd) rfl [wM K.g y all kept (un hi2 ((56 * h0) + k) (all k)) h0 slo sav beg prt frm txt tl sp tol rd] rfl dX5_changes_76 77 rfl ?_
            refine z_iinc C hnL 1 rfl (v := (nI (k + 1))) (nI_1 _) [1, 0] [(0, .ref (y 0)), (1, .int (nI (k + 1)))] rfl (Nat.le_of_ble_eq_true rfl) dX5_changes_77 80 rfl ?_
            refine z_goto C 51 dX5_changes_80 (by decide) ?_
            exact ih51 _ (by omega) (k + 1) (un hi2 ((56 * h0) + k) (all k)) rfl (by omega) (fun u hu => by
      by_cases e : u = 56 * h0 + k
      · subst e; rw [un_s, if_pos (by omega)]; congr 1; omega
      · rw [un_n e, hs2 u hu]; by_cases q : 56 * h0 ≤ u ∧ u < 56 * h0 + k
        · rw [if_pos q, if_pos (by omega)]
        · rw [if_neg q, if_neg (by omega)])
        exact loop51 _ 0 hiB rfl (by omega) (fun u hu => by rw [if_neg (by omega)])
      · skip
        refine z_aload_n C 0 rfl rfl dX5_changes_18 19 rfl ?_
        refine z_get C zc5 iX5_changes_X5 0 0 rfl rfl 2 (Nat.le_of_ble_eq_true rfl) (List.mem_of_getElem? (i := 2) rfl) (v := .ref (y 3)) rfl dX5_changes_19 22 rfl ?_
        refine z_iload_n C 1 rfl rfl dX5_changes_22 23 rfl ?_
        refine z_aload_n C 0 rfl rfl dX5_changes_23 24 rfl ?_
        refine z_get C zc5 iX5_changes_X5 0 0 rfl rfl 2 (Nat.le_of_ble_eq_true rfl) (List.mem_of_getElem? (i := 2) rfl) (v := .ref (y 3)) rfl dX5_changes_24 27 rfl ?_
        refine z_iload_n C 1 rfl rfl dX5_changes_27 28 rfl ?_
        refine z_bipush C (v := nI 56) rfl dX5_changes_28 30 rfl ?_
        refine z_iadd C dX5_changes_30 31 rfl ?_
        refine z_iald C (f := hi1) 0 3 rfl rfl (by omega) (by decide) dX5_changes_31 32 rfl ?_
        refine z_iast C (f := hi1) 0 3 rfl rfl (by omega) (by decide) (wM K.g y all kept (un hi1 k (hi1 (k + 56))) hl slo sav beg prt frm txt tl sp tol rd) rfl [wM K.g y all kept (un hi1 k (hi1 (k + 56))) hl slo sav beg prt frm txt tl sp tol rd] rfl dX5_changes_32 33 rfl ?_
        refine z_iinc C hnL 1 rfl (v := (nI (k + 1))) (nI_1 _) [1, 0] [(0, .ref (y 0)), (1, .int (nI (k + 1)))] rfl (Nat.le_of_ble_eq_true rfl) dX5_changes_33 36 rfl ?_
        refine z_goto C 11 dX5_changes_36 (by decide) ?_
        exact ih11 _ (by omega) (k + 1) (un hi1 k (hi1 (k + 56))) rfl (by omega) (fun u hu => by
      by_cases e : u = k
      · subst e; rw [un_s, if_pos (by omega), hs1 _ (by omega), if_neg (by omega)]
      · rw [un_n e, hs1 u hu]; by_cases q : u < k
        · rw [if_pos q, if_pos (by omega)]
        · rw [if_neg q, if_neg (by omega)])
    exact loop11 _ 0 hist rfl (by omega) (fun u hu => by rw [if_neg (by omega)])

theorem iX5_keeps_X5 : ∀ w ∈ u_ws RX5 TX5 14, w ∈ wsX5_keeps := fun w h => (List.mem_cons_of_mem _ (List.mem_append_right _ h))
set_option maxHeartbeats 4000000 in
set_option maxRecDepth 100000 in
theorem tX5_keeps (l : Launch) (g : zG) (y all kept hist : Nat → Nat) (hl : Nat) (slo sav beg prt frm txt : Nat → Nat) (tl sp : Nat) (tol : Nat → Nat) (rd : Nat) : Met l yX5_keeps wsX5_keeps ({ frames := 0, cells := 0, slots := 0, locals := 0 } : Room) (zPre g [.ref (y 0)] [wM g y all kept hist hl slo sav beg prt frm txt tl sp tol rd]) (zQ g (fun kept2 : Nat → Nat => none ) (fun kept2 : Nat → Nat => (∀ u, u < 56 → kept2 u = all u)) (fun kept2 : Nat → Nat => [wM g y all kept2 hist hl slo sav beg prt frm txt tl sp tol rd]) (zA [wM g y all kept hist hl slo sav beg prt frm txt tl sp tol rd])) 0 0 (zA [wM g y all kept hist hl slo sav beg prt frm txt tl sp tol rd]) := by
  refine z_entry (cc := cX5_keeps) (maxL := 2) (ret := none) (own := RX5) (by decide) rfl rfl (Nat.le_of_ble_eq_true rfl) [(0, .ref (y 0))] rfl ?_
  intro K hKl hKg hnL C hRx
  subst hKl
  subst hKg
  refine z_iconst C (v := nI 0) rfl dX5_keeps_0 1 rfl ?_
  refine z_istore_n C hnL [1, 0] [(0, .ref (y 0)), (1, .int (nI 0))] rfl rfl (Nat.le_of_ble_eq_true rfl) dX5_keeps_1 2 rfl ?_
  have loop2 : ∀ (mu : Nat) (k : Nat) (f : Nat → Nat), mu = 56 - k → k ≤ 56 → (∀ u, u < k → f u = all u) → Z K 0 0 [wM K.g y all f hist hl slo sav beg prt frm txt tl sp tol rd] [(0, .ref (y 0)), (1, .int (nI k))] 2 [] := by
    refine z_ind (fun mu ih2 => ?_)
    intro k f hmu2 hk hf
    refine z_iload_n C 1 rfl rfl dX5_keeps_2 3 rfl ?_
    refine z_bipush C (v := nI 56) rfl dX5_keeps_3 5 rfl ?_
    refine z_icmp_ge C (by omega) (by omega) 26 dX5_keeps_5 (by decide) 8 rfl (fun c_1 => ?_) (fun c_1 => ?_)
    · skip
      exact z_vret C hRx dX5_keeps_26 f rfl (fun u hu => hf u (by omega)) rfl
    · skip
      refine z_aload_n C 0 rfl rfl dX5_keeps_8 9 rfl ?_
      refine z_get C zc5 iX5_keeps_X5 0 0 rfl rfl 1 (Nat.le_of_ble_eq_true rfl) (List.mem_of_getElem? (i := 1) rfl) (v := .ref (y 2)) rfl dX5_keeps_9 12 rfl ?_
      refine z_iload_n C 1 rfl rfl dX5_keeps_12 13 rfl ?_
      refine z_aload_n C 0 rfl rfl dX5_keeps_13 14 rfl ?_
      refine z_get C zc5 iX5_keeps_X5 0 0 rfl rfl 0 (Nat.le_of_ble_eq_true rfl) (List.mem_of_getElem? (i := 2) rfl) (v := .ref (y 1)) rfl dX5_keeps_14 17 rfl ?_
      refine z_iload_n C 1 rfl rfl dX5_keeps_17 18 rfl ?_
      refine z_iald C (f := all) 0 1 rfl rfl (by omega) (by decide) dX5_keeps_18 19 rfl ?_
      refine z_iast C (f := f) 0 2 rfl rfl (by omega) (by decide) (wM K.g y all (un f k (all k)) hist hl slo sav beg prt frm txt tl sp tol rd) rfl [wM K.g y all (un f k (all k)) hist hl slo sav beg prt frm txt tl sp tol rd] rfl dX5_keeps_19 20 rfl ?_
      refine z_iinc C hnL 1 rfl (v := (nI (k + 1))) (nI_1 _) [1, 0] [(0, .ref (y 0)), (1, .int (nI (k + 1)))] rfl (Nat.le_of_ble_eq_true rfl) dX5_keeps_20 23 rfl ?_
      refine z_goto C 2 dX5_keeps_23 (by decide) ?_
      exact ih2 _ (by omega) (k + 1) (un f k (all k)) rfl (by omega) (fun u hu => by
      by_cases e : u = k
      · subst e; rw [un_s]
      · rw [un_n e]; exact hf u (by omega))
  exact loop2 _ 0 kept rfl (by omega) (fun u hu => by omega)

theorem iX5_comesBack_X5 : ∀ w ∈ u_ws RX5 TX5 14, w ∈ wsX5_comesBack := fun w h => (List.mem_cons_of_mem _ (List.mem_append_right _ h))
set_option maxHeartbeats 4000000 in
set_option maxRecDepth 100000 in
theorem tX5_comesBack (l : Launch) (g : zG) (y all kept hist : Nat → Nat) (hl : Nat) (slo sav beg prt frm txt : Nat → Nat) (tl sp : Nat) (tol : Nat → Nat) (rd : Nat) : Met l yX5_comesBack wsX5_comesBack ({ frames := 0, cells := 0, slots := 0, locals := 0 } : Room) (zPre g [.ref (y 0)] [wM g y all kept hist hl slo sav beg prt frm txt tl sp tol rd]) (zQ g (fun all2 : Nat → Nat => none ) (fun all2 : Nat → Nat => (∀ u, u < 56 → all2 u = kept u)) (fun all2 : Nat → Nat => [wM g y all2 kept hist hl slo sav beg prt frm txt tl sp tol rd]) (zA [wM g y all kept hist hl slo sav beg prt frm txt tl sp tol rd])) 0 0 (zA [wM g y all kept hist hl slo sav beg prt frm txt tl sp tol rd]) := by
  refine z_entry (cc := cX5_comesBack) (maxL := 2) (ret := none) (own := RX5) (by decide) rfl rfl (Nat.le_of_ble_eq_true rfl) [(0, .ref (y 0))] rfl ?_
  intro K hKl hKg hnL C hRx
  subst hKl
  subst hKg
  refine z_iconst C (v := nI 0) rfl dX5_comesBack_0 1 rfl ?_
  refine z_istore_n C hnL [1, 0] [(0, .ref (y 0)), (1, .int (nI 0))] rfl rfl (Nat.le_of_ble_eq_true rfl) dX5_comesBack_1 2 rfl ?_
  have loop2 : ∀ (mu : Nat) (k : Nat) (f : Nat → Nat), mu = 56 - k → k ≤ 56 → (∀ u, u < k → f u = kept u) → Z K 0 0 [wM K.g y f kept hist hl slo sav beg prt frm txt tl sp tol rd] [(0, .ref (y 0)), (1, .int (nI k))] 2 [] := by
    refine z_ind (fun mu ih2 => ?_)
    intro k f hmu2 hk hf
    refine z_iload_n C 1 rfl rfl dX5_comesBack_2 3 rfl ?_
    refine z_bipush C (v := nI 56) rfl dX5_comesBack_3 5 rfl ?_
    refine z_icmp_ge C (by omega) (by omega) 26 dX5_comesBack_5 (by decide) 8 rfl (fun c_1 => ?_) (fun c_1 => ?_)
    · skip
      exact z_vret C hRx dX5_comesBack_26 f rfl (fun u hu => hf u (by omega)) rfl
    · skip
      refine z_aload_n C 0 rfl rfl dX5_comesBack_8 9 rfl ?_
      refine z_get C zc5 iX5_comesBack_X5 0 0 rfl rfl 0 (Nat.le_of_ble_eq_true rfl) (List.mem_of_getElem? (i := 1) rfl) (v := .ref (y 1)) rfl dX5_comesBack_9 12 rfl ?_
      refine z_iload_n C 1 rfl rfl dX5_comesBack_12 13 rfl ?_
      refine z_aload_n C 0 rfl rfl dX5_comesBack_13 14 rfl ?_
      refine z_get C zc5 iX5_comesBack_X5 0 0 rfl rfl 1 (Nat.le_of_ble_eq_true rfl) (List.mem_of_getElem? (i := 2) rfl) (v := .ref (y 2)) rfl dX5_comesBack_14 17 rfl ?_
      refine z_iload_n C 1 rfl rfl dX5_comesBack_17 18 rfl ?_
      refine z_iald C (f := kept) 0 2 rfl rfl (by omega) (by decide) dX5_comesBack_18 19 rfl ?_
      refine z_iast C (f := f) 0 1 rfl rfl (by omega) (by decide) (wM K.g y (un f k (kept k)) kept hist hl slo sav beg prt frm txt tl sp tol rd) rfl [wM K.g y (un f k (kept k)) kept hist hl slo sav beg prt frm txt tl sp tol rd] rfl dX5_comesBack_19 20 rfl ?_
      refine z_iinc C hnL 1 rfl (v := (nI (k + 1))) (nI_1 _) [1, 0] [(0, .ref (y 0)), (1, .int (nI (k + 1)))] rfl (Nat.le_of_ble_eq_true rfl) dX5_comesBack_20 23 rfl ?_
      refine z_goto C 2 dX5_comesBack_23 (by decide) ?_
      exact ih2 _ (by omega) (k + 1) (un f k (kept k)) rfl (by omega) (fun u hu => by
      by_cases e : u = k
      · subst e; rw [un_s]
      · rw [un_n e]; exact hf u (by omega))
  exact loop2 _ 0 all rfl (by omega) (fun u hu => by omega)

theorem iX5_orders_X5 : ∀ w ∈ u_ws RX5 TX5 14, w ∈ wsX5_orders := fun w h => (List.mem_cons_of_mem _ (List.mem_append_right _ h))
set_option maxHeartbeats 4000000 in
set_option maxRecDepth 100000 in
theorem tX5_orders (l : Launch) (g : zG) (y all kept hist : Nat → Nat) (hl : Nat) (slo sav beg prt frm txt : Nat → Nat) (tl sp : Nat) (tol : Nat → Nat) (rd : Nat) (st : Nat → Nat) (r : Nat → Nat → Nat) (n : Nat) (m : Nat) (hn : n ≤ 12) (hB : Bd all st r n) (hJ : okJ r n) (hm : m ≤ 3) : Met l yX5_orders wsX5_orders ({ frames := 2, cells := 0, slots := 0, locals := 46 } : Room) (zPre g [.ref (y 0), .int (nI m)] [wM g y all kept hist hl slo sav beg prt frm txt tl sp tol rd]) (zQ g (fun u : (Nat → Nat) × (Nat → Nat) => match u with | (all2, frm2) => none ) (fun u : (Nat → Nat) × (Nat → Nat) => match u with | (all2, frm2) => (Bd all2 st (oR r (foR m) n) n) ∧ (∀ i, i < n → frm2 i < n ∧ plc (r (foR m)) n (frm2 i) = i)) (fun u : (Nat → Nat) × (Nat → Nat) => match u with | (all2, frm2) => [wM g y all2 kept hist hl slo sav beg prt frm2 txt tl sp tol rd]) (zA [wM g y all kept hist hl slo sav beg prt frm txt tl sp tol rd])) 0 0 (zA [wM g y all kept hist hl slo sav beg prt frm txt tl sp tol rd]) := by
  refine z_entry (cc := cX5_orders) (maxL := 5) (ret := none) (own := RX5) (by decide) rfl rfl (Nat.le_of_ble_eq_true rfl) [(0, .ref (y 0)), (1, .int (nI m))] rfl ?_
  intro K hKl hKg hnL C hRx
  subst hKl
  subst hKg
  have hfo := foR_lt hm
  refine z_iconst C (v := nI 0) rfl dX5_orders_0 1 rfl ?_
  refine z_istore_n C hnL [1, 2, 0] [(0, .ref (y 0)), (1, .int (nI m)), (2, .int (nI 0))] rfl rfl (Nat.le_of_ble_eq_true rfl) dX5_orders_1 2 rfl ?_
  have loop2 : ∀ (mu : Nat) (j : Nat) (al1 : Nat → Nat) (fr1 : Nat → Nat), mu = n - j → j ≤ n → Bd al1 st (oS r fr1 j) n → SO (r (foR m)) fr1 j → Z K 0 0 [wM K.g y al1 kept hist hl slo sav beg prt fr1 txt tl sp tol rd] [(0, .ref (y 0)), (1, .int (nI m)), (2, .int (nI j))] 2 [] := by
    refine z_ind (fun mu ih2 => ?_)
    intro j al1 fr1 hmu2 hj hB1 hO
    refine z_iload_n C 2 rfl rfl dX5_orders_2 3 rfl ?_
    refine z_aload_n C 0 rfl rfl dX5_orders_3 4 rfl ?_
    refine z_get C zc5 iX5_orders_X5 0 0 rfl rfl 0 (Nat.le_of_ble_eq_true rfl) (List.mem_of_getElem? (i := 1) rfl) (v := .ref (y 1)) rfl dX5_orders_4 7 rfl ?_
    refine z_bipush C (v := nI 7) rfl dX5_orders_7 9 rfl ?_
    refine z_iald C (f := al1) 0 1 rfl rfl (by omega) (by decide) dX5_orders_9 10 rfl ?_
    refine z_top (show nI (al1 7) = nI n from by rw [hB1.2.1]) ?_
    refine z_icmp_ge C (by omega) (by omega) 101 dX5_orders_10 (by decide) 13 rfl (fun c_1 => ?_) (fun c_1 => ?_)
    · skip
      obtain rfl : j = n := by omega
      exact z_vret C hRx dX5_orders_101 (al1, fr1) rfl (⟨Bd_cg hB1 (fun k _ x hx => SO_oR hO hx), fun i hi => SO_plc hO hi⟩) rfl
    · skip
      refine z_aload_n C 0 rfl rfl dX5_orders_13 14 rfl ?_
      refine z_get C zc5 iX5_orders_X5 0 0 rfl rfl 8 (Nat.le_of_ble_eq_true rfl) (List.mem_of_getElem? (i := 2) rfl) (v := .ref (y 8)) rfl dX5_orders_14 17 rfl ?_
      refine z_iload_n C 2 rfl rfl dX5_orders_17 18 rfl ?_
      refine z_iload_n C 2 rfl rfl dX5_orders_18 19 rfl ?_
      refine z_iast C (f := fr1) 0 8 rfl rfl (by omega) (by decide) (wM K.g y al1 kept hist hl slo sav beg prt (un fr1 j j) txt tl sp tol rd) rfl [wM K.g y al1 kept hist hl slo sav beg prt (un fr1 j j) txt tl sp tol rd] rfl dX5_orders_19 20 rfl ?_
      refine z_iload_n C 2 rfl rfl dX5_orders_20 21 rfl ?_
      refine z_istore_n C hnL [1, 2, 3, 0] [(0, .ref (y 0)), (1, .int (nI m)), (2, .int (nI j)), (3, .int (nI j))] rfl rfl (Nat.le_of_ble_eq_true rfl) dX5_orders_21 22 rfl ?_
      have loop22 : ∀ (mu : Nat) (t : Nat) (al4 : Nat → Nat) (fr4 : Nat → Nat), mu = t → Bd al4 st (oS r fr4 (j + 1)) n → SI (r (foR m)) fr4 j t → Z K 0 0 [wM K.g y al4 kept hist hl slo sav beg prt fr4 txt tl sp tol rd] [(0, .ref (y 0)), (1, .int (nI m)), (2, .int (nI j)), (3, .int (nI t))] 22 [] := by
        refine z_ind (fun mu ih22 => ?_)
        intro t al4 fr4 hmu22 hB4 hI
        have htj := hI.1
        refine z_iload_n C 3 rfl rfl dX5_orders_22 23 rfl ?_
        refine z_if_le C (by omega) 95 dX5_orders_23 (by decide) 26 rfl (fun c_2 => ?_) (fun c_2 => ?_)
        · skip
          refine z_iinc C hnL 2 rfl (v := (nI (j + 1))) (nI_1 _) [1, 2, 0, 3] [(0, .ref (y 0)), (1, .int (nI m)), (2, .int (nI (j + 1))), (3, .int (nI t))] rfl (Nat.le_of_ble_eq_true rfl) dX5_orders_95 98 rfl ?_
          refine z_goto C 2 dX5_orders_98 (by decide) ?_
          refine z_lv [0, 1, 2] [(0, .ref (y 0)), (1, .int (nI m)), (2, .int (nI (j + 1)))] rfl ?_
          exact ih2 _ (by omega) (j + 1) al4 fr4 rfl (by omega) hB4 (SI_end hI (by omega))
        · skip
          refine z_aload_n C 0 rfl rfl dX5_orders_26 27 rfl ?_
          refine z_iload_n C 3 rfl rfl dX5_orders_27 28 rfl ?_
          refine z_iconst C (v := nI 1) rfl dX5_orders_28 29 rfl ?_
          refine z_isub C (by omega) dX5_orders_29 30 rfl ?_
          refine z_iload_n C 1 rfl rfl dX5_orders_30 31 rfl ?_
          refine z_callP C [.int (nI m)] [.int (nI (t - 1)), .ref (y 0)] (tX5_keyOf K.l K.g m (by first | omega | assumption)) gX5_orders_X5_keyOf rfl rfl rfl hdX5_keyOf ⟨Nat.le_of_ble_eq_true rfl, Nat.le_of_ble_eq_true rfl⟩ ⟨Nat.zero_le _, Nat.zero_le _⟩ rfl rfl (Nat.le_of_ble_eq_true rfl) dX5_orders_31 34 rfl (fun u9 hu9 => ?_)
          show Z K 0 0 [wM K.g y al4 kept hist hl slo sav beg prt fr4 txt tl sp tol rd] [(0, .ref (y 0)), (1, .int (nI m)), (2, .int (nI j)), (3, .int (nI t))] 34 [.int (nI (foR m)), .int (nI (t - 1)), .ref (y 0)]
          refine z_callV C [.int (nI (t - 1)), .int (nI (foR m))] [] (tX5_itsb K.l K.g y al4 kept hist hl slo sav beg prt fr4 txt tl sp tol rd st (oS r fr4 (j + 1)) n (t - 1) (foR m) hn hB4 (by first | omega | assumption) (by first | omega | assumption)) gX5_orders_X5_its rfl rfl rfl hdX5_its ⟨Nat.le_of_ble_eq_true rfl, Nat.le_of_ble_eq_true rfl⟩ ⟨Nat.zero_le _, Nat.zero_le _⟩ 0 0 rfl rfl rfl [0] rfl rfl (zlc (N := 1) rfl rfl) [1] rfl (by decide) (fun _ : Unit => [wM K.g y al4 kept hist hl slo sav beg prt fr4 txt tl sp tol rd]) (fun _ => rfl) rfl rfl (Nat.le_of_ble_eq_true rfl) dX5_orders_34 37 rfl (fun u9 hu9 => ?_)
          show Z K 0 0 [wM K.g y al4 kept hist hl slo sav beg prt fr4 txt tl sp tol rd] [(0, .ref (y 0)), (1, .int (nI m)), (2, .int (nI j)), (3, .int (nI t))] 37 [.int (nI ((oS r fr4 (j + 1)) (foR m) (t - 1)))]
          have hb8 := oS_le (f := fr4) (j := j + 1) (x := t - 1) (N := n) hfo hJ (SI_lt hI (by omega) (by omega)) (by omega)
          refine z_aload_n C 0 rfl rfl dX5_orders_37 38 rfl ?_
          refine z_iload_n C 3 rfl rfl dX5_orders_38 39 rfl ?_
          refine z_iload_n C 1 rfl rfl dX5_orders_39 40 rfl ?_
          refine z_callP C [.int (nI m)] [.int (nI t), .ref (y 0), .int (nI ((oS r fr4 (j + 1)) (foR m) (t - 1)))] (tX5_keyOf K.l K.g m (by first | omega | assumption)) gX5_orders_X5_keyOf rfl rfl rfl hdX5_keyOf ⟨Nat.le_of_ble_eq_true rfl, Nat.le_of_ble_eq_true rfl⟩ ⟨Nat.zero_le _, Nat.zero_le _⟩ rfl rfl (Nat.le_of_ble_eq_true rfl) dX5_orders_40 43 rfl (fun u9 hu9 => ?_)
          show Z K 0 0 [wM K.g y al4 kept hist hl slo sav beg prt fr4 txt tl sp tol rd] [(0, .ref (y 0)), (1, .int (nI m)), (2, .int (nI j)), (3, .int (nI t))] 43 [.int (nI (foR m)), .int (nI t), .ref (y 0), .int (nI ((oS r fr4 (j + 1)) (foR m) (t - 1)))]
          refine z_callV C [.int (nI t), .int (nI (foR m))] [.int (nI ((oS r fr4 (j + 1)) (foR m) (t - 1)))] (tX5_itsb K.l K.g y al4 kept hist hl slo sav beg prt fr4 txt tl sp tol rd st (oS r fr4 (j + 1)) n t (foR m) hn hB4 (by first | omega | assumption) (by first | omega | assumption)) gX5_orders_X5_its rfl rfl rfl hdX5_its ⟨Nat.le_of_ble_eq_true rfl, Nat.le_of_ble_eq_true rfl⟩ ⟨Nat.zero_le _, Nat.zero_le _⟩ 0 0 rfl rfl rfl [0] rfl rfl (zlc (N := 1) rfl rfl) [1] rfl (by decide) (fun _ : Unit => [wM K.g y al4 kept hist hl slo sav beg prt fr4 txt tl sp tol rd]) (fun _ => rfl) rfl rfl (Nat.le_of_ble_eq_true rfl) dX5_orders_43 46 rfl (fun u9 hu9 => ?_)
          show Z K 0 0 [wM K.g y al4 kept hist hl slo sav beg prt fr4 txt tl sp tol rd] [(0, .ref (y 0)), (1, .int (nI m)), (2, .int (nI j)), (3, .int (nI t))] 46 [.int (nI ((oS r fr4 (j + 1)) (foR m) t)), .int (nI ((oS r fr4 (j + 1)) (foR m) (t - 1)))]
          have hb9 := oS_le (f := fr4) (j := j + 1) (x := t) (N := n) hfo hJ (SI_lt hI (by omega) (by omega)) (by omega)
          have ho8 : oS r fr4 (j + 1) (foR m) (t - 1) = r (foR m) (fr4 (t - 1)) := if_pos (by omega)
          have ho9 : oS r fr4 (j + 1) (foR m) t = r (foR m) j := oS_pt hI.1 hI.2.1
          refine z_icmp_le C (by omega) (by omega) 95 dX5_orders_46 (by decide) 49 rfl (fun c_3 => ?_) (fun c_3 => ?_)
          · skip
            refine z_iinc C hnL 2 rfl (v := (nI (j + 1))) (nI_1 _) [1, 2, 0, 3] [(0, .ref (y 0)), (1, .int (nI m)), (2, .int (nI (j + 1))), (3, .int (nI t))] rfl (Nat.le_of_ble_eq_true rfl) dX5_orders_95 98 rfl ?_
            refine z_goto C 2 dX5_orders_98 (by decide) ?_
            refine z_lv [0, 1, 2] [(0, .ref (y 0)), (1, .int (nI m)), (2, .int (nI (j + 1)))] rfl ?_
            exact ih2 _ (by omega) (j + 1) al4 fr4 rfl (by omega) hB4 (SI_end hI (by omega))
          · skip
            refine z_aload_n C 0 rfl rfl dX5_orders_49 50 rfl ?_
            refine z_iload_n C 3 rfl rfl dX5_orders_50 51 rfl ?_
            refine z_iload_n C 3 rfl rfl dX5_orders_51 52 rfl ?_
            refine z_iconst C (v := nI 1) rfl dX5_orders_52 53 rfl ?_
            refine z_isub C (by omega) dX5_orders_53 54 rfl ?_
            refine z_callV C [.int (nI t), .int (nI (t - 1))] [] (tX5_exchanges K.l K.g y al4 kept hist hl slo sav beg prt fr4 txt tl sp tol rd t (t - 1) (by first | omega | assumption) (by first | omega | assumption)) gX5_orders_X5_exchanges rfl rfl rfl hdX5_exchanges ⟨Nat.le_of_ble_eq_true rfl, Nat.le_of_ble_eq_true rfl⟩ ⟨Nat.zero_le _, Nat.zero_le _⟩ 0 0 rfl rfl rfl [0] rfl rfl (zlc (N := 1) rfl rfl) [1] rfl (by decide) (fun _ : Unit => [wM K.g y (xch al4 t (t - 1) 4) kept hist hl slo sav beg prt fr4 txt tl sp tol rd]) (fun _ => rfl) rfl rfl (Nat.le_of_ble_eq_true rfl) dX5_orders_54 57 rfl (fun u9 hu9 => ?_)
            show Z K 0 0 [wM K.g y (xch al4 t (t - 1) 4) kept hist hl slo sav beg prt fr4 txt tl sp tol rd] [(0, .ref (y 0)), (1, .int (nI m)), (2, .int (nI j)), (3, .int (nI t))] 57 []
            refine z_aload_n C 0 rfl rfl dX5_orders_57 58 rfl ?_
            refine z_get C zc5 iX5_orders_X5 0 0 rfl rfl 8 (Nat.le_of_ble_eq_true rfl) (List.mem_of_getElem? (i := 2) rfl) (v := .ref (y 8)) rfl dX5_orders_58 61 rfl ?_
            refine z_iload_n C 3 rfl rfl dX5_orders_61 62 rfl ?_
            refine z_iald C (f := fr4) 0 8 rfl rfl (by omega) (by decide) dX5_orders_62 63 rfl ?_
            refine z_istore C hnL [1, 2, 3, 4, 0] [(0, .ref (y 0)), (1, .int (nI m)), (2, .int (nI j)), (3, .int (nI t)), (4, .int (nI (fr4 t)))] rfl (Nat.le_of_ble_eq_true rfl) dX5_orders_63 65 rfl ?_
            refine z_aload_n C 0 rfl rfl dX5_orders_65 66 rfl ?_
            refine z_get C zc5 iX5_orders_X5 0 0 rfl rfl 8 (Nat.le_of_ble_eq_true rfl) (List.mem_of_getElem? (i := 2) rfl) (v := .ref (y 8)) rfl dX5_orders_66 69 rfl ?_
            refine z_iload_n C 3 rfl rfl dX5_orders_69 70 rfl ?_
            refine z_aload_n C 0 rfl rfl dX5_orders_70 71 rfl ?_
            refine z_get C zc5 iX5_orders_X5 0 0 rfl rfl 8 (Nat.le_of_ble_eq_true rfl) (List.mem_of_getElem? (i := 2) rfl) (v := .ref (y 8)) rfl dX5_orders_71 74 rfl ?_
            refine z_iload_n C 3 rfl rfl dX5_orders_74 75 rfl ?_
            refine z_iconst C (v := nI 1) rfl dX5_orders_75 76 rfl ?_
            refine z_isub C (by omega) dX5_orders_76 77 rfl ?_
            refine z_iald C (f := fr4) 0 8 rfl rfl (by omega) (by decide) dX5_orders_77 78 rfl ?_
            refine z_iast C (f := fr4) 0 8 rfl rfl (by omega) (by decide) (wM K.g y (xch al4 t (t - 1) 4) kept hist hl slo sav beg prt (un fr4 t (fr4 (t - 1))) txt tl sp tol rd) rfl [wM K.g y (xch al4 t (t - 1) 4) kept hist hl slo sav beg prt (un fr4 t (fr4 (t - 1))) txt tl sp tol rd] rfl dX5_orders_78 79 rfl ?_
            refine z_aload_n C 0 rfl rfl dX5_orders_79 80 rfl ?_
            refine z_get C zc5 iX5_orders_X5 0 0 rfl rfl 8 (Nat.le_of_ble_eq_true rfl) (List.mem_of_getElem? (i := 2) rfl) (v := .ref (y 8)) rfl dX5_orders_80 83 rfl ?_
            refine z_iload_n C 3 rfl rfl dX5_orders_83 84 rfl ?_
            refine z_iconst C (v := nI 1) rfl dX5_orders_84 85 rfl ?_
            refine z_isub C (by omega) dX5_orders_85 86 rfl ?_
            refine z_iload C 4 rfl dX5_orders_86 88 rfl ?_
            refine z_iast C (f := (un fr4 t (fr4 (t - 1)))) 0 8 rfl rfl (by omega) (by decide) (wM K.g y (xch al4 t (t - 1) 4) kept hist hl slo sav beg prt (un (un fr4 t (fr4 (t - 1))) (t - 1) (fr4 t)) txt tl sp tol rd) rfl [wM K.g y (xch al4 t (t - 1) 4) kept hist hl slo sav beg prt (un (un fr4 t (fr4 (t - 1))) (t - 1) (fr4 t)) txt tl sp tol rd] rfl dX5_orders_88 89 rfl ?_
            refine z_iinc C hnL 3 rfl (v := (nI (t - 1))) (z_dec (by omega)) [1, 2, 3, 0, 4] [(0, .ref (y 0)), (1, .int (nI m)), (2, .int (nI j)), (3, .int (nI (t - 1))), (4, .int (nI (fr4 t)))] rfl (Nat.le_of_ble_eq_true rfl) dX5_orders_89 92 rfl ?_
            refine z_goto C 22 dX5_orders_92 (by decide) ?_
            refine z_lv [0, 1, 2, 3] [(0, .ref (y 0)), (1, .int (nI m)), (2, .int (nI j)), (3, .int (nI (t - 1)))] rfl ?_
            exact ih22 _ (by omega) (t - 1) (xch al4 t (t - 1) 4) (un (un fr4 t (fr4 (t - 1))) (t - 1) (fr4 t)) rfl (Bd_cg (Bd_xch hB4 (by omega) (by omega) hn) (fun k _ x _ => oS_st (by omega) (by omega))) (SI_st hI (by omega) (by omega))
      exact loop22 _ j al1 (un fr1 j j) rfl (Bd_cg hB1 (fun k _ x _ => oS_in)) (SI_in hO)
  exact loop2 _ 0 all frm rfl (by omega) (Bd_cg hB (fun k _ x _ => (if_neg (by omega)).symm)) ⟨fun a ha => by omega, fun a b _ hb => by omega⟩

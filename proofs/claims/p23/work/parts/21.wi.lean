/-! WI: what if; reading; putting. -/
theorem wb_tb (n : Nat) : (lN n).toBitVec = BitVec.ofNat 64 n := rfl
theorem wb_inj {a b : Int64} (h : a.toBitVec = b.toBitVec) : a = b := Int64.toBitVec_inj.mp h
theorem wb_tn {n : Nat} (h : n < 2 ^ 64) : (lN n).toBitVec.toNat = n := by rw [wb_tb, BitVec.toNat_ofNat, Nat.mod_eq_of_lt h]
theorem wb_of (x : Int64) : ∃ n, n < 2 ^ 64 ∧ x = lN n := ⟨x.toBitVec.toNat, x.toBitVec.isLt, wb_inj (by rw [wb_tb]; simp)⟩
theorem wb_of32 (x : Int32) : ∃ n, n < 2 ^ 32 ∧ x = nI n := ⟨x.toBitVec.toNat, x.toBitVec.isLt, Int32.toBitVec_inj.mp (by show _ = BitVec.ofNat 32 _; simp)⟩
theorem wb_c : ∀ k, k < 64 → ((nI k).toInt64 &&& 63) = lN k := by decide +kernel
theorem wb_cu : ∀ k, k < 64 → ((nI k).toInt64.toUInt64 &&& Int64.toUInt64 63) = UInt64.ofNat k := by decide +kernel
theorem wb_sm : ∀ k, k < 64 → (BitVec.ofNat 64 k).smod 64 = BitVec.ofNat 64 k := by decide +kernel
theorem wb_pw {a b : Nat} (h : a ≤ b) : 2 ^ b = 2 ^ a * 2 ^ (b - a) := by rw [← Nat.pow_add]; congr 1; omega
theorem wb_lt2 {a b : Nat} (h : a < b) : 2 ^ a < 2 ^ b := Nat.pow_lt_pow_right (by decide) h
theorem wb_mod (n : Nat) : lN n = lN (n % 2 ^ 64) := wb_inj (by rw [wb_tb, wb_tb]; apply BitVec.eq_of_toNat_eq; rw [BitVec.toNat_ofNat, BitVec.toNat_ofNat, Nat.mod_mod])
theorem wb_shr {n k : Nat} (hn : n < 2 ^ 64) (hk : k < 64) : ((lN n).toUInt64 >>> ((nI k).toInt64.toUInt64 &&& Int64.toUInt64 63)).toInt64 = lN (n / 2 ^ k) := by
  rw [wb_cu k hk]
  apply wb_inj
  apply BitVec.eq_of_toNat_eq
  show ((lN n).toUInt64 >>> UInt64.ofNat k).toNat = (BitVec.ofNat 64 _).toNat
  have h1 : (UInt64.ofNat k).toNat = k := by
    show (BitVec.ofNat 64 k).toNat = k
    rw [BitVec.toNat_ofNat, Nat.mod_eq_of_lt (by omega)]
  have h2 : (lN n).toUInt64.toNat = n := wb_tn hn
  rw [UInt64.toNat_shiftRight, h1, h2, Nat.mod_eq_of_lt hk, Nat.shiftRight_eq_div_pow, BitVec.toNat_ofNat, Nat.mod_eq_of_lt (Nat.lt_of_le_of_lt (Nat.div_le_self _ _) hn)]
theorem wb_shl (n : Nat) {k : Nat} (hk : k < 64) : lN n <<< ((nI k).toInt64 &&& 63) = lN (n * 2 ^ k) := by
  rw [wb_c k hk]
  apply wb_inj
  rw [Int64.toBitVec_shiftLeft, wb_tb, wb_tb, wb_tb, wb_sm k hk]
  apply BitVec.eq_of_toNat_eq
  rw [BitVec.shiftLeft_eq', BitVec.toNat_shiftLeft, BitVec.toNat_ofNat, BitVec.toNat_ofNat, BitVec.toNat_ofNat, Nat.mod_eq_of_lt (show k < 2 ^ 64 by omega), Nat.shiftLeft_eq, Nat.mul_mod, Nat.mod_mod, ← Nat.mul_mod]
theorem wb_and {a b : Nat} (ha : a < 2 ^ 64) (hb : b < 2 ^ 64) : lN a &&& lN b = lN (a &&& b) := by
  apply wb_inj
  rw [Int64.toBitVec_and, wb_tb, wb_tb, wb_tb]
  apply BitVec.eq_of_toNat_eq
  rw [BitVec.toNat_and, BitVec.toNat_ofNat, BitVec.toNat_ofNat, BitVec.toNat_ofNat, Nat.mod_eq_of_lt ha, Nat.mod_eq_of_lt hb, Nat.mod_eq_of_lt (Nat.and_lt_two_pow _ hb)]
theorem wb_or {a b : Nat} (ha : a < 2 ^ 64) (hb : b < 2 ^ 64) : lN a ||| lN b = lN (a ||| b) := by
  apply wb_inj
  rw [Int64.toBitVec_or, wb_tb, wb_tb, wb_tb]
  apply BitVec.eq_of_toNat_eq
  rw [BitVec.toNat_or, BitVec.toNat_ofNat, BitVec.toNat_ofNat, BitVec.toNat_ofNat, Nat.mod_eq_of_lt ha, Nat.mod_eq_of_lt hb, Nat.mod_eq_of_lt (Nat.or_lt_two_pow ha hb)]
theorem wb_mask {n k : Nat} (hn : n < 2 ^ 64) (hk : k < 64) : lN n &&& lN (2 ^ k - 1) = lN (n % 2 ^ k) := by
  rw [wb_and hn (by have := wb_lt2 hk; omega), Nat.and_two_pow_sub_one_eq_mod]
theorem wb_a1 {n : Nat} (hn : n < 2 ^ 64) : lN n &&& 1 = lN (n % 2) := wb_mask (k := 1) hn (by decide)
theorem wb_bit {n k : Nat} (hn : n < 2 ^ 64) (hk : k < 64) : ((lN n).toUInt64 >>> ((nI k).toInt64.toUInt64 &&& Int64.toUInt64 63)).toInt64 &&& 1 = lN (n / 2 ^ k % 2) := by
  rw [wb_shr hn hk, wb_a1 (Nat.lt_of_le_of_lt (Nat.div_le_self _ _) hn)]
theorem beI_s {st : Nat → Nat} {r : Nat → Nat → Nat} {n i j : Nat} {s : Nat × Int32 × Int32} (h : i + 1 ≤ j) : beI st r n i s (j + 1 - (i + 1)) = beS st r n i j (beI st r n i s (j - (i + 1))) := by
  rw [show j + 1 - (i + 1) = (j - (i + 1)) + 1 by omega]
  show beS st r n i (i + 1 + (j - (i + 1))) (beI st r n i s (j - (i + 1))) = _
  rw [show i + 1 + (j - (i + 1)) = j by omega]
theorem bfO_s {st : Nat → Nat} {r : Nat → Nat → Nat} {n j : Nat} : bfO st r n (j + 1) = if (bfO st r n j).1 = (-6) ∨ LSm st (fun k => shf (r k) j 0) (st 5) n < (bfO st r n j).2 then (nI j, LSm st (fun k => shf (r k) j 0) (st 5) n) else bfO st r n j := rfl
theorem mx_ge {f : Nat → Nat} {j : Nat} : ∀ n, j < n → f j ≤ mx f n
  | 0, h => by omega
  | n + 1, h => by
    rw [mx_s]
    by_cases e : j = n
    · subst e; omega
    · have := mx_ge n (show j < n by omega) (f := f)
      omega
theorem mND_ge {st : Nat → Nat} {r : Nat → Nat → Nat} {n j : Nat} (hj : j < n) : ndj st r j ≤ mND st r n := mx_ge n hj
theorem lrF_n {st : Nat → Nat} {r : Nat → Nat → Nat} {n y : Nat} (hy : y < 21) (h : ¬ (mND st r n ≤ y ∧ sm (PW st r y n) n = 0)) : lrF st r n y (21 - y) = lrF st r n (y + 1) (21 - (y + 1)) := by
  rw [show 21 - y = (21 - (y + 1)) + 1 by omega]
  show (if mND st r n ≤ y ∧ sm (PW st r y n) n = 0 then nI y else lrF st r n (y + 1) (21 - (y + 1))) = _
  rw [if_neg h]
theorem lrF_y {st : Nat → Nat} {r : Nat → Nat → Nat} {n y : Nat} (hy : y < 21) (h1 : mND st r n ≤ y) (h2 : sm (PW st r y n) n = 0) : lrF st r n y (21 - y) = nI y := by
  rw [show 21 - y = (21 - (y + 1)) + 1 by omega]
  show (if mND st r n ≤ y ∧ sm (PW st r y n) n = 0 then nI y else lrF st r n (y + 1) (21 - (y + 1))) = _
  rw [if_pos ⟨h1, h2⟩]
theorem lrF_skip {st : Nat → Nat} {r : Nat → Nat → Nat} {n : Nat} (hm : mND st r n ≤ 20) : ∀ y, 4 ≤ y → y ≤ 21 → (y = 4 ∨ y ≤ mND st r n) → lrF st r n 4 17 = lrF st r n y (21 - y) := by
  intro y h4 h21
  obtain ⟨d, rfl⟩ : ∃ d, y = 4 + d := ⟨y - 4, by omega⟩
  clear h4
  induction d with
  | zero => intro _; rfl
  | succ d ih =>
    intro h
    rw [ih (by omega) (by omega)]
    exact lrF_n (by omega) (by omega)
/-- every job that was read is a job -/
theorem au_ok {tx : Nat → Nat} {r : Nat → Nat → Nat} : ∀ {i ex a s h d n : Nat} {r1 : Nat → Nat → Nat}, auR tx r i = (ex, a, s, h, d, n, r1) → auGd tx r i → ((2 ≤ ex → a ≤ 9) ∧ (4 ≤ ex → s ≤ 9) ∧ (6 ≤ ex → 1 ≤ h ∧ h ≤ 20 ∧ d ≤ 3000)) ∧ okJ r1 n
  | 0, ex, a, s, h, d, n, r1, hR, _ => by
    have : (0, 0, 0, 0, 0, 0, r) = (ex, a, s, h, d, n, r1) := hR
    cases this
    exact ⟨⟨fun h => by omega, fun h => by omega, fun h => by omega⟩, fun j hj => by omega⟩
  | i + 1, ex, a, s, h, d, n, r1, hR, hG => by
    have hgi := hG i (by omega)
    unfold auG at hgi
    have e1 : auN (auR tx r i) (tx i) = (ex, a, s, h, d, n, r1) := hR
    generalize hz : auR tx r i = z at hgi e1
    obtain ⟨e0, a0, s0, h0, d0, n0, r0⟩ := z
    obtain ⟨⟨i1, i2, i3⟩, i4⟩ := au_ok hz (fun j hj => hG j (by omega))
    have hap : ∀ {a s h d : Nat}, a ≤ 9 → s ≤ 9 → 1 ≤ h → h ≤ 20 → d ≤ 3000 → okJ (apR r0 n0 a s h d) (n0 + 1) := by
      intro a s h d q1 q2 q3 q4 q5 j hj
      by_cases e : j = n0
      · subst e
        show un (r0 0) j a j ≤ 9 ∧ un (r0 1) j s j ≤ 9 ∧ 1 ≤ un (r0 2) j h j ∧ un (r0 2) j h j ≤ 20 ∧ un (r0 3) j d j ≤ 3000
        rw [un_s, un_s, un_s, un_s]
        exact ⟨q1, q2, q3, q4, q5⟩
      · show un (r0 0) n0 a j ≤ 9 ∧ un (r0 1) n0 s j ≤ 9 ∧ 1 ≤ un (r0 2) n0 h j ∧ un (r0 2) n0 h j ≤ 20 ∧ un (r0 3) n0 d j ≤ 3000
        rw [un_n e, un_n e, un_n e, un_n e]
        exact i4 j (by omega)
    match e0, hgi, e1, i1, i2, i3 with
    | 0, hgi, e1, i1, i2, i3 => cases e1; exact ⟨⟨fun h => by omega, fun h => by omega, fun h => by omega⟩, i4⟩
    | 1, hgi, e1, i1, i2, i3 =>
      have hd := of_decide_eq_true (show decide (48 ≤ tx i ∧ tx i ≤ 57) = true from hgi)
      cases e1
      exact ⟨⟨fun h => by omega, fun h => by omega, fun h => by omega⟩, i4⟩
    | 2, hgi, e1, i1, i2, i3 => cases e1; exact ⟨⟨fun h => i1 (by omega), fun h => by omega, fun h => by omega⟩, i4⟩
    | 3, hgi, e1, i1, i2, i3 =>
      have hd := of_decide_eq_true (show decide (48 ≤ tx i ∧ tx i ≤ 57) = true from hgi)
      cases e1
      exact ⟨⟨fun h => i1 (by omega), fun h => by omega, fun h => by omega⟩, i4⟩
    | 4, hgi, e1, i1, i2, i3 => cases e1; exact ⟨⟨fun h => i1 (by omega), fun h => i2 (by omega), fun h => by omega⟩, i4⟩
    | 5, hgi, e1, i1, i2, i3 =>
      have hgi : (isD (tx i) && decide (tx i ≠ 48)) = true := hgi
      rw [Bool.and_eq_true] at hgi
      have hd := of_decide_eq_true (show decide (48 ≤ tx i ∧ tx i ≤ 57) = true from hgi.1)
      have hd2 := of_decide_eq_true hgi.2
      cases e1
      exact ⟨⟨fun h => i1 (by omega), fun h => i2 (by omega), fun h => by omega⟩, i4⟩
    | 6, hgi, e1, i1, i2, i3 =>
      have e1 : (if isD (tx i) = true then ((6, a0, s0, 10 * h0 + (tx i - 48), d0, n0, r0) : AS) else if tx i = 100 then (7, a0, s0, h0, d0, n0, r0) else (0, a0, s0, h0, d0, n0 + 1, apR r0 n0 a0 s0 h0 d0)) = (ex, a, s, h, d, n, r1) := e1
      have hgi : (if isD (tx i) = true then decide (10 * h0 + (tx i - 48) ≤ 20) else decide (tx i = 100 ∨ tx i = 59)) = true := hgi
      have q3 := i3 (by omega)
      have q1 := i1 (by omega)
      have q2 := i2 (by omega)
      by_cases hd : isD (tx i) = true
      · rw [if_pos hd] at e1 hgi
        have hg := of_decide_eq_true hgi
        cases e1
        exact ⟨⟨fun h => q1, fun h => q2, fun h => ⟨by omega, hg, q3.2.2⟩⟩, i4⟩
      · rw [if_neg hd] at e1
        split at e1
        · cases e1; exact ⟨⟨fun h => q1, fun h => q2, fun h => q3⟩, i4⟩
        · cases e1; exact ⟨⟨fun h => by omega, fun h => by omega, fun h => by omega⟩, hap q1 q2 q3.1 q3.2.1 q3.2.2⟩
    | 7, hgi, e1, i1, i2, i3 =>
      have hd := of_decide_eq_true (show decide (48 ≤ tx i ∧ tx i ≤ 57) = true from hgi)
      have q3 := i3 (by omega)
      have q1 := i1 (by omega)
      have q2 := i2 (by omega)
      cases e1
      exact ⟨⟨fun h => q1, fun h => q2, fun h => ⟨q3.1, q3.2.1, by omega⟩⟩, i4⟩
    | e + 8, hgi, e1, i1, i2, i3 =>
      have e1 : (if isD (tx i) = true then ((8, a0, s0, h0, 10 * d0 + (tx i - 48), n0, r0) : AS) else (0, a0, s0, h0, d0, n0 + 1, apR r0 n0 a0 s0 h0 d0)) = (ex, a, s, h, d, n, r1) := e1
      have hgi : (if isD (tx i) = true then decide (d0 ≠ 0 ∧ 10 * d0 + (tx i - 48) ≤ 3000) else decide (tx i = 59)) = true := hgi
      have q3 := i3 (by omega)
      have q1 := i1 (by omega)
      have q2 := i2 (by omega)
      by_cases hd : isD (tx i) = true
      · rw [if_pos hd] at e1 hgi
        have hg := of_decide_eq_true hgi
        cases e1
        exact ⟨⟨fun h => q1, fun h => q2, fun h => ⟨q3.1, q3.2.1, hg.2⟩⟩, i4⟩
      · rw [if_neg hd] at e1
        cases e1
        exact ⟨⟨fun h => by omega, fun h => by omega, fun h => by omega⟩, hap q1 q2 q3.1 q3.2.1 q3.2.2⟩
theorem PAR_ok {tx : Nat → Nat} {r : Nat → Nat → Nat} {len : Nat} {w : Int32} {n2 : Nat} {r2 : Nat → Nat → Nat} (h : PAR tx r len w n2 r2) (hl : len ≤ 60) (hw : w = (-6)) : n2 ≤ 8 ∧ okJ r2 n2 := by
  rcases h with ⟨i, hi, -, -, e⟩ | ⟨-, -, -, e⟩ | ⟨hG, -, h8, ex, a, s, h, d, n, r1, -, hR, e1, e2, b1, b2, b3, b4, b5⟩
  · exact absurd (e.symm.trans hw) (nI_n6 (by omega))
  · exact absurd (e.symm.trans hw) (nI_n6 (by omega))
  · refine ⟨h8, ?_⟩
    have ho := (au_ok hR hG).2
    rw [e1, e2]
    intro j hj
    by_cases e : j = n
    · subst e
      show un (r1 0) j a j ≤ 9 ∧ un (r1 1) j s j ≤ 9 ∧ 1 ≤ un (r1 2) j h j ∧ un (r1 2) j h j ≤ 20 ∧ un (r1 3) j d j ≤ 3000
      rw [un_s, un_s, un_s, un_s]
      exact ⟨b1, b2, b3, b4, b5⟩
    · show un (r1 0) n a j ≤ 9 ∧ un (r1 1) n s j ≤ 9 ∧ 1 ≤ un (r1 2) n h j ∧ un (r1 2) n h j ≤ 20 ∧ un (r1 3) n d j ≤ 3000
      rw [un_n e, un_n e, un_n e, un_n e]
      exact ho j (by omega)
/-- how many characters a number holds, 0 if it holds none or others -/
def chF (i : Nat) : Nat → Nat → Nat
  | 0, _ => i
  | f + 1, w => if w = 0 then i else if 33 ≤ w % 256 ∧ w % 256 ≤ 126 then chF (i + 1) f (w / 256) else 0
def chI (v : Nat) : Int32 := if v = 0 then (-2) else nI v
theorem chI_p {v : Nat} (h : 0 < v) : chI v = nI v := if_neg (by omega)
theorem nI_n2 {g : Nat} (h : g < 2 ^ 31) : nI g ≠ (-2) := fun e => nI_pos h (by rw [e]; decide)
theorem chF_e {i z : Nat} (hz : z = 0) (h2 : z < 256 ^ (8 - i)) : chF i (8 - i) z = i := by
  subst hz
  cases 8 - i with
  | zero => rfl
  | succ f => exact if_pos rfl
theorem chF_n {i z : Nat} (hi : i < 8) (hz : z ≠ 0) (h : 33 ≤ z % 256 ∧ z % 256 ≤ 126) : chF i (8 - i) z = chF (i + 1) (8 - (i + 1)) (z / 256) := by
  rw [show 8 - i = (8 - (i + 1)) + 1 by omega]
  show (if z = 0 then i else if 33 ≤ z % 256 ∧ z % 256 ≤ 126 then chF (i + 1) (8 - (i + 1)) (z / 256) else 0) = _
  rw [if_neg hz, if_pos h]
theorem chF_b {i z : Nat} (hi : i < 8) (hz : z ≠ 0) (h : ¬ (33 ≤ z % 256 ∧ z % 256 ≤ 126)) : chF i (8 - i) z = 0 := by
  rw [show 8 - i = (8 - (i + 1)) + 1 by omega]
  show (if z = 0 then i else if 33 ≤ z % 256 ∧ z % 256 ≤ 126 then chF (i + 1) (8 - (i + 1)) (z / 256) else 0) = _
  rw [if_neg hz, if_neg h]
theorem chF_lt {i z : Nat} (h : z < 256 ^ (8 - i)) (hi : i < 8) : z / 256 < 256 ^ (8 - (i + 1)) := by
  rw [show 8 - i = (8 - (i + 1)) + 1 by omega, Nat.pow_succ] at h
  exact Nat.div_lt_of_lt_mul (by rw [Nat.mul_comm]; exact h)
theorem lN_e0 {z : Nat} (hz : z < 2 ^ 64) (h : lg_cmp (lN z) (lN 0) = 0) : z = 0 := by
  have h1 := congrArg (fun y : Int64 => y.toBitVec.toNat) ((lg_cmp_eq _ _).mp h)
  have h2 : (lN z).toBitVec.toNat = (lN 0).toBitVec.toNat := h1
  rw [wb_tn hz, wb_tn (by decide)] at h2
  exact h2
theorem rgN_i {k lo hi : Nat} (hk : k < 2 ^ 31) (h : rg (nI k).toInt (Int.ofNat lo) (Int.ofNat hi) = true) : lo ≤ k ∧ k ≤ hi := by
  rw [nI_toInt hk] at h
  have := rg_i h
  exact ⟨Int.ofNat_le.mp this.1, Int.ofNat_le.mp this.2⟩
theorem rgN_n {k lo hi : Nat} (hk : k < 2 ^ 31) (h : rg (nI k).toInt (Int.ofNat lo) (Int.ofNat hi) = false) : ¬ (lo ≤ k ∧ k ≤ hi) := by
  intro z
  rw [rgN_t hk z.1 z.2] at h
  exact Bool.noConfusion h
theorem and255 (n : Nat) : nI n &&& nI 255 = nI (n % 256) := by
  rw [pk_and (nI n) 8 rfl]
  congr 1
  show (BitVec.ofNat 32 n).toNat % 256 = n % 256
  rw [BitVec.toNat_ofNat]
  omega
/-- d characters of the a that w holds, put behind len -/
def ptx (tx : Nat → Nat) (len w a : Nat) : Nat → Nat → Nat
  | 0 => tx
  | d + 1 => un (ptx tx len w a d) (len + d) (w / 2 ^ (8 * (a - d - 1)) % 256)
theorem z_topL {K : zK} {n k : Nat} {cs : List va_W} {lv : List (Nat × Value)} {pc : Nat} {st : List Value} {x y : Int64} (h : x = y) (kk : Z K n k cs lv pc (.long y :: st)) : Z K n k cs lv pc (.long x :: st) := by rw [h]; exact kk
theorem hdX0_appendAll : yX0_appendAll.cls = RX0 ∧ yX0_appendAll.cls ≠ "java/lang/invoke/MethodHandle" ∧ yX0_appendAll.cls ≠ "java/lang/invoke/VarHandle" ∧ (parseMethodDescriptor yX0_appendAll.desc).map (fun d => d.parameters.length) = some 1 := by decide +kernel
theorem hdX2_append : yX2_append.cls = RX2 ∧ yX2_append.cls ≠ "java/lang/invoke/MethodHandle" ∧ yX2_append.cls ≠ "java/lang/invoke/VarHandle" ∧ (parseMethodDescriptor yX2_append.desc).map (fun d => d.parameters.length) = some 1 := by decide +kernel
theorem hdX4_charactersIn : yX4_charactersIn.cls ≠ "java/lang/invoke/MethodHandle" ∧ yX4_charactersIn.cls ≠ "java/lang/invoke/VarHandle" ∧ (parseMethodDescriptor yX4_charactersIn.desc).map (fun d => d.parameters.length) = some 1 := by decide +kernel
theorem hdX4_lateSumIfExchanged : yX4_lateSumIfExchanged.cls = RX4 ∧ yX4_lateSumIfExchanged.cls ≠ "java/lang/invoke/MethodHandle" ∧ yX4_lateSumIfExchanged.cls ≠ "java/lang/invoke/VarHandle" ∧ (parseMethodDescriptor yX4_lateSumIfExchanged.desc).map (fun d => d.parameters.length) = some 2 := by decide +kernel
theorem hdX4_lateSumIfFirst : yX4_lateSumIfFirst.cls = RX4 ∧ yX4_lateSumIfFirst.cls ≠ "java/lang/invoke/MethodHandle" ∧ yX4_lateSumIfFirst.cls ≠ "java/lang/invoke/VarHandle" ∧ (parseMethodDescriptor yX4_lateSumIfFirst.desc).map (fun d => d.parameters.length) = some 1 := by decide +kernel
set_option maxHeartbeats 4000000 in
set_option maxRecDepth 100000 in
theorem tX4_bestExchange_bv (l : Launch) (g : zG) (x bd tr q p h : Nat → Nat) (sb : Nat → Nat → Nat) (sv : Nat → Bool) (w : Int32) (hb : rg w.toInt (Int.ofNat 0) (Int.ofNat 2) = false) : Met l yX4_bestExchange wsX4_bestExchange ({ frames := 6, cells := 0, slots := 0, locals := 138 } : Room) (zPre g [.ref (x 0), .int w] [wX g x bd tr q p h sb sv]) (zQ g (fun _ : Unit => some (.int (-2)) ) (fun _ : Unit => True) (fun _ : Unit => [wX g x bd tr q p h sb sv]) (zA [wX g x bd tr q p h sb sv])) 0 0 (zA [wX g x bd tr q p h sb sv]) := by
  refine z_entry (cc := cX4_bestExchange) (maxL := 8) (ret := (some .int)) (own := RX4) (by decide) rfl rfl (Nat.le_of_ble_eq_true rfl) [(0, .ref (x 0)), (1, .int w)] rfl ?_
  intro K hKl hKg hnL C hRx
  subst hKl
  subst hKg
  refine z_iload_n C 1 rfl rfl dX4_bestExchange_0 1 rfl ?_
  refine z_iconst C (v := nI 0) rfl dX4_bestExchange_1 2 rfl ?_
  refine z_iconst C (v := nI 2) rfl dX4_bestExchange_2 3 rfl ?_
  refine z_callP C [.int w, .int (nI 0), .int (nI 2)] [] (tX4_withinN K.l K.g w 0 2 (by first | omega | assumption) (by first | omega | assumption)) gX4_bestExchange_X4_within rfl rfl rfl hdX4_within ⟨Nat.le_of_ble_eq_true rfl, Nat.le_of_ble_eq_true rfl⟩ ⟨Nat.zero_le _, Nat.zero_le _⟩ rfl rfl (Nat.le_of_ble_eq_true rfl) dX4_bestExchange_3 6 rfl (fun u9 hu9 => ?_)
  show Z K 0 0 [wX K.g x bd tr q p h sb sv] [(0, .ref (x 0)), (1, .int w)] 6 [.int (bI (rg w.toInt (Int.ofNat 0) (Int.ofNat 2)))]
  refine z_ifb_ne C 12 dX4_bestExchange_6 (by decide) 9 rfl (fun c_1 => ?_) (fun c_1 => ?_)
  · exfalso; rw [hb] at c_1; exact Bool.noConfusion c_1
  refine z_bipush C (v := (-2)) rfl dX4_bestExchange_9 11 rfl ?_
  exact z_iret C hRx dX4_bestExchange_11 () rfl trivial rfl

theorem iX4_bestExchange_X0 : ∀ w ∈ u_ws RX0 TX0 3, w ∈ wsX4_bestExchange := fun w h => (List.mem_cons_of_mem _ (List.mem_append_left _ (List.mem_append_right _ h)))
theorem iX4_bestExchange_X4 : ∀ w ∈ u_ws RX4 TX4 7, w ∈ wsX4_bestExchange := fun w h => (List.mem_cons_of_mem _ (List.mem_append_left _ (List.mem_append_left _ (List.mem_append_right _ h))))
set_option maxHeartbeats 4000000 in
set_option maxRecDepth 100000 in
theorem tX4_bestExchange_ok (l : Launch) (g : zG) (x bd tr q p h : Nat → Nat) (sb : Nat → Nat → Nat) (sv : Nat → Bool) (a0 a1 a2 a3 a4 a5 a6 a7 : Nat → Nat) (s0 s1 s2 s3 s4 s5 s6 s7 s8 s9 : Nat) (st : Nat → Nat) (r : Nat → Nat → Nat) (n : Nat) (ts : Nat → Nat) (tq : Nat → Nat → Nat) (tn : Nat) (k : Nat) (hn : n ≤ 12) (hS : okS st) (hJ : okJ r n) (hR : okR st r n (st 5)) (hk : k ≤ 2) : Met l yX4_bestExchange wsX4_bestExchange ({ frames := 6, cells := 0, slots := 0, locals := 138 } : Room) (zPre g [.ref (x 0), .int (nI k)] [wX g x bd tr q p h sb sv, wP g q a0 a1 a2 a3 a4 a5 a6 a7 s0 s1 s2 s3 s4 s5 s6 s7 s8 s9, wB g bd st r n, wB g tr ts tq tn]) (zQ g (fun u : (Nat → Nat) × (Nat → Nat) × (Nat → Nat) × (Nat → Nat) × (Nat → Nat) × (Nat → Nat) × (Nat → Nat) × (Nat → Nat) × (Nat) × (Nat) × (Nat) × (Nat) × (Nat) × (Nat) × (Nat) × (Nat) × (Nat) × (Nat) => match u with | (c0, c1, c2, c3, c4, c5, c6, c7, d1, d2, d3, d4, d5, d6, d7, d8, d9, d0) => some (.int (BE st r n k)) ) (fun u : (Nat → Nat) × (Nat → Nat) × (Nat → Nat) × (Nat → Nat) × (Nat → Nat) × (Nat → Nat) × (Nat → Nat) × (Nat → Nat) × (Nat) × (Nat) × (Nat) × (Nat) × (Nat) × (Nat) × (Nat) × (Nat) × (Nat) × (Nat) => match u with | (c0, c1, c2, c3, c4, c5, c6, c7, d1, d2, d3, d4, d5, d6, d7, d8, d9, d0) => True) (fun u : (Nat → Nat) × (Nat → Nat) × (Nat → Nat) × (Nat → Nat) × (Nat → Nat) × (Nat → Nat) × (Nat → Nat) × (Nat → Nat) × (Nat) × (Nat) × (Nat) × (Nat) × (Nat) × (Nat) × (Nat) × (Nat) × (Nat) × (Nat) => match u with | (c0, c1, c2, c3, c4, c5, c6, c7, d1, d2, d3, d4, d5, d6, d7, d8, d9, d0) => [wX g x bd tr q p h sb sv, wP g q c0 c1 c2 c3 c4 c5 c6 c7 d0 d1 d2 d3 d4 d5 d6 d7 d8 d9, wB g bd st r n, wB g tr st r n]) (zA [wX g x bd tr q p h sb sv, wP g q a0 a1 a2 a3 a4 a5 a6 a7 s0 s1 s2 s3 s4 s5 s6 s7 s8 s9, wB g bd st r n, wB g tr ts tq tn])) 0 0 (zA [wX g x bd tr q p h sb sv, wP g q a0 a1 a2 a3 a4 a5 a6 a7 s0 s1 s2 s3 s4 s5 s6 s7 s8 s9, wB g bd st r n, wB g tr ts tq tn]) := by
  refine z_entry (cc := cX4_bestExchange) (maxL := 8) (ret := (some .int)) (own := RX4) (by decide) rfl rfl (Nat.le_of_ble_eq_true rfl) [(0, .ref (x 0)), (1, .int (nI k))] rfl ?_
  intro K hKl hKg hnL C hRx
  subst hKl
  subst hKg
  rcases (show k = 0 ∨ k = 1 ∨ k = 2 by omega) with rfl | rfl | rfl
  · skip
    refine z_iload_n C 1 rfl rfl dX4_bestExchange_0 1 rfl ?_
    refine z_iconst C (v := nI 0) rfl dX4_bestExchange_1 2 rfl ?_
    refine z_iconst C (v := nI 2) rfl dX4_bestExchange_2 3 rfl ?_
    refine z_callP C [.int (nI 0), .int (nI 0), .int (nI 2)] [] (tX4_withinN K.l K.g (nI 0) 0 2 (by first | omega | assumption) (by first | omega | assumption)) gX4_bestExchange_X4_within rfl rfl rfl hdX4_within ⟨Nat.le_of_ble_eq_true rfl, Nat.le_of_ble_eq_true rfl⟩ ⟨Nat.zero_le _, Nat.zero_le _⟩ rfl rfl (Nat.le_of_ble_eq_true rfl) dX4_bestExchange_3 6 rfl (fun u9 hu9 => ?_)
    show Z K 0 0 [wX K.g x bd tr q p h sb sv, wP K.g q a0 a1 a2 a3 a4 a5 a6 a7 s0 s1 s2 s3 s4 s5 s6 s7 s8 s9, wB K.g bd st r n, wB K.g tr ts tq tn] [(0, .ref (x 0)), (1, .int (nI 0))] 6 [.int (bI (rg (nI 0).toInt (Int.ofNat 0) (Int.ofNat 2)))]
    refine z_ifb_ne C 12 dX4_bestExchange_6 (by decide) 9 rfl (fun c_1 => ?_) (fun c_1 => ?_)
    rotate_left
    · exfalso; rw [rgN_t (by omega) (by omega) (by omega)] at c_1; exact Bool.noConfusion c_1
    refine z_aload_n C 0 rfl rfl dX4_bestExchange_12 13 rfl ?_
    refine z_get C zc4 iX4_bestExchange_X4 0 0 rfl rfl 1 (Nat.le_of_ble_eq_true rfl) (List.mem_of_getElem? (i := 1) rfl) (v := .ref (tr 0)) rfl dX4_bestExchange_13 16 rfl ?_
    refine z_aload_n C 0 rfl rfl dX4_bestExchange_16 17 rfl ?_
    refine z_get C zc4 iX4_bestExchange_X4 0 0 rfl rfl 0 (Nat.le_of_ble_eq_true rfl) (List.mem_of_getElem? (i := 2) rfl) (v := .ref (bd 0)) rfl dX4_bestExchange_17 20 rfl ?_
    refine z_callV C [.ref (bd 0)] [] (tX0_copyFrom K.l K.g tr ts tq tn bd st r n ) gX4_bestExchange_X0_copyFrom rfl rfl rfl hdX0_copyFrom ⟨Nat.le_of_ble_eq_true rfl, Nat.le_of_ble_eq_true rfl⟩ ⟨Nat.zero_le _, Nat.zero_le _⟩ 3 0 rfl rfl rfl [3, 2] rfl rfl (zlc (N := 4) rfl rfl) [0, 1, 5, 4] rfl (by decide) (fun _ : Unit => [wX K.g x bd tr q p h sb sv, wP K.g q a0 a1 a2 a3 a4 a5 a6 a7 s0 s1 s2 s3 s4 s5 s6 s7 s8 s9, wB K.g bd st r n, wB K.g tr st r n]) (fun _ => rfl) rfl rfl (Nat.le_of_ble_eq_true rfl) dX4_bestExchange_20 23 rfl (fun u9 hu9 => ?_)
    show Z K 0 0 [wX K.g x bd tr q p h sb sv, wP K.g q a0 a1 a2 a3 a4 a5 a6 a7 s0 s1 s2 s3 s4 s5 s6 s7 s8 s9, wB K.g bd st r n, wB K.g tr st r n] [(0, .ref (x 0)), (1, .int (nI 0))] 23 []
    refine z_aload_n C 0 rfl rfl dX4_bestExchange_23 24 rfl ?_
    refine z_aload_n C 0 rfl rfl dX4_bestExchange_24 25 rfl ?_
    refine z_get C zc4 iX4_bestExchange_X4 0 0 rfl rfl 1 (Nat.le_of_ble_eq_true rfl) (List.mem_of_getElem? (i := 1) rfl) (v := .ref (tr 0)) rfl dX4_bestExchange_25 28 rfl ?_
    refine z_callV C [.ref (tr 0)] [] (tX4_lateSumOf K.l K.g x bd tr q p h sb sv a0 a1 a2 a3 a4 a5 a6 a7 s0 s1 s2 s3 s4 s5 s6 s7 s8 s9 tr st r n (by first | omega | assumption) (by first | omega | assumption) (by first | omega | assumption) (by first | omega | assumption)) gX4_bestExchange_X4_lateSumOf rfl rfl rfl hdX4_lateSumOf ⟨Nat.le_of_ble_eq_true rfl, Nat.le_of_ble_eq_true rfl⟩ ⟨Nat.zero_le _, Nat.zero_le _⟩ 0 0 rfl rfl rfl [0, 1, 3] rfl rfl (zlc (N := 4) rfl rfl) [4, 5, 2, 6] rfl (by decide) (fun u : (Nat → Nat) × (Nat → Nat) × (Nat → Nat) × (Nat → Nat) × (Nat → Nat) × (Nat → Nat) × (Nat → Nat) × (Nat → Nat) × (Nat) × (Nat) × (Nat) × (Nat) × (Nat) × (Nat) × (Nat) × (Nat) × (Nat) => match u with | (c0, c1, c2, c3, c4, c5, c6, c7, d1, d2, d3, d4, d5, d6, d7, d8, d9) => [wX K.g x bd tr q p h sb sv, wP K.g q c0 c1 c2 c3 c4 c5 c6 c7 n d1 d2 d3 d4 d5 d6 d7 d8 d9, wB K.g bd st r n, wB K.g tr st r n]) (fun _ => rfl) rfl rfl (Nat.le_of_ble_eq_true rfl) dX4_bestExchange_28 31 rfl (fun u9 hu9 => ?_)
    obtain ⟨c0q, c1q, c2q, c3q, c4q, c5q, c6q, c7q, d1q, d2q, d3q, d4q, d5q, d6q, d7q, d8q, d9q⟩ := u9
    have hls0 := hu9
    have hls0 : LSm st r (st 5) n ≤ 1000000 := hls0
    show Z K 0 0 [wX K.g x bd tr q p h sb sv, wP K.g q c0q c1q c2q c3q c4q c5q c6q c7q n d1q d2q d3q d4q d5q d6q d7q d8q d9q, wB K.g bd st r n, wB K.g tr st r n] [(0, .ref (x 0)), (1, .int (nI 0))] 31 [.int (nI (LSm st r (st 5) n))]
    refine z_istore_n C hnL [1, 2, 0] [(0, .ref (x 0)), (1, .int (nI 0)), (2, .int (nI (LSm st r (st 5) n)))] rfl rfl (Nat.le_of_ble_eq_true rfl) dX4_bestExchange_31 32 rfl ?_
    refine z_bipush C (v := (-6)) rfl dX4_bestExchange_32 34 rfl ?_
    refine z_istore_n C hnL [1, 2, 3, 0] [(0, .ref (x 0)), (1, .int (nI 0)), (2, .int (nI (LSm st r (st 5) n))), (3, .int (-6))] rfl rfl (Nat.le_of_ble_eq_true rfl) dX4_bestExchange_34 35 rfl ?_
    refine z_bipush C (v := (-6)) rfl dX4_bestExchange_35 37 rfl ?_
    refine z_istore C hnL [1, 2, 3, 4, 0] [(0, .ref (x 0)), (1, .int (nI 0)), (2, .int (nI (LSm st r (st 5) n))), (3, .int (-6)), (4, .int (-6))] rfl (Nat.le_of_ble_eq_true rfl) dX4_bestExchange_37 39 rfl ?_
    refine z_iconst C (v := nI 0) rfl dX4_bestExchange_39 40 rfl ?_
    refine z_istore C hnL [1, 2, 3, 4, 5, 0] [(0, .ref (x 0)), (1, .int (nI 0)), (2, .int (nI (LSm st r (st 5) n))), (3, .int (-6)), (4, .int (-6)), (5, .int (nI 0))] rfl (Nat.le_of_ble_eq_true rfl) dX4_bestExchange_40 42 rfl ?_
    have loop42 : ∀ (mu : Nat) (i : Nat) (b : Nat) (o1 : Int32) (o2 : Int32) (c0 : Nat → Nat) (c1 : Nat → Nat) (c2 : Nat → Nat) (c3 : Nat → Nat) (c4 : Nat → Nat) (c5 : Nat → Nat) (c6 : Nat → Nat) (c7 : Nat → Nat) (d1 : Nat) (d2 : Nat) (d3 : Nat) (d4 : Nat) (d5 : Nat) (d6 : Nat) (d7 : Nat) (d8 : Nat) (d9 : Nat) (d0 : Nat), mu = n - i → i ≤ n → (b, o1, o2) = beO st r n i → b ≤ 1000000 → Z K 0 0 [wX K.g x bd tr q p h sb sv, wP K.g q c0 c1 c2 c3 c4 c5 c6 c7 d0 d1 d2 d3 d4 d5 d6 d7 d8 d9, wB K.g bd st r n, wB K.g tr st r n] [(0, .ref (x 0)), (1, .int (nI 0)), (2, .int (nI b)), (3, .int o1), (4, .int o2), (5, .int (nI i))] 42 [] := by
      refine z_ind (fun mu ih42 => ?_)
      intro i b o1 o2 c0 c1 c2 c3 c4 c5 c6 c7 d1 d2 d3 d4 d5 d6 d7 d8 d9 d0 hmu42 hi hs hbb
      refine z_iload C 5 rfl dX4_bestExchange_42 44 rfl ?_
      refine z_aload_n C 0 rfl rfl dX4_bestExchange_44 45 rfl ?_
      refine z_get C zc4 iX4_bestExchange_X4 0 0 rfl rfl 0 (Nat.le_of_ble_eq_true rfl) (List.mem_of_getElem? (i := 2) rfl) (v := .ref (bd 0)) rfl dX4_bestExchange_45 48 rfl ?_
      refine z_get C zc0 iX4_bestExchange_X0 2 0 rfl rfl 2 (Nat.le_of_ble_eq_true rfl) (List.mem_of_getElem? (i := 3) rfl) (v := .int (nI n)) rfl dX4_bestExchange_48 51 rfl ?_
      refine z_icmp_ge C (by omega) (by omega) 110 dX4_bestExchange_51 (by decide) 54 rfl (fun c_2 => ?_) (fun c_2 => ?_)
      · skip
        refine z_iload_n C 3 rfl rfl dX4_bestExchange_110 111 rfl ?_
        refine z_bipush C (v := (-6)) rfl dX4_bestExchange_111 113 rfl ?_
        refine z_icmpI_ne C 119 dX4_bestExchange_113 (by decide) 116 rfl (fun c_3 => ?_) (fun c_3 => ?_)
        · skip
          refine z_iload_n C 1 rfl rfl dX4_bestExchange_119 120 rfl ?_
          refine z_look C (off := 28) 148 dX4_bestExchange_120 (by decide) (by decide) (by decide) ?_
          refine z_iload_n C 3 rfl rfl dX4_bestExchange_148 149 rfl ?_
          obtain rfl : i = n := by omega
          exact z_iret C hRx dX4_bestExchange_149 (c0, c1, c2, c3, c4, c5, c6, c7, d1, d2, d3, d4, d5, d6, d7, d8, d9, d0) (by rw [show BE st r i 0 = o1 from by unfold BE; rw [← hs]; exact if_neg (by assumption)]) trivial rfl
        · skip
          refine z_bipush C (v := (-6)) rfl dX4_bestExchange_116 118 rfl ?_
          obtain rfl : i = n := by omega
          exact z_iret C hRx dX4_bestExchange_118 (c0, c1, c2, c3, c4, c5, c6, c7, d1, d2, d3, d4, d5, d6, d7, d8, d9, d0) (by rw [show BE st r i 0 = (-6) from by unfold BE; rw [← hs]; exact if_pos (by assumption)]) trivial rfl
      · skip
        refine z_iload C 5 rfl dX4_bestExchange_54 56 rfl ?_
        refine z_iconst C (v := nI 1) rfl dX4_bestExchange_56 57 rfl ?_
        refine z_iadd C dX4_bestExchange_57 58 rfl ?_
        refine z_istore C hnL [1, 2, 3, 4, 5, 6, 0] [(0, .ref (x 0)), (1, .int (nI 0)), (2, .int (nI b)), (3, .int o1), (4, .int o2), (5, .int (nI i)), (6, .int (nI (i + 1)))] rfl (Nat.le_of_ble_eq_true rfl) dX4_bestExchange_58 60 rfl ?_
        have loop60 : ∀ (mu : Nat) (j : Nat) (b : Nat) (o1 : Int32) (o2 : Int32) (c0 : Nat → Nat) (c1 : Nat → Nat) (c2 : Nat → Nat) (c3 : Nat → Nat) (c4 : Nat → Nat) (c5 : Nat → Nat) (c6 : Nat → Nat) (c7 : Nat → Nat) (d1 : Nat) (d2 : Nat) (d3 : Nat) (d4 : Nat) (d5 : Nat) (d6 : Nat) (d7 : Nat) (d8 : Nat) (d9 : Nat) (d0 : Nat), mu = n - j → j ≤ n → i + 1 ≤ j → (b, o1, o2) = beI st r n i (beO st r n i) (j - (i + 1)) → b ≤ 1000000 → Z K 0 0 [wX K.g x bd tr q p h sb sv, wP K.g q c0 c1 c2 c3 c4 c5 c6 c7 d0 d1 d2 d3 d4 d5 d6 d7 d8 d9, wB K.g bd st r n, wB K.g tr st r n] [(0, .ref (x 0)), (1, .int (nI 0)), (2, .int (nI b)), (3, .int o1), (4, .int o2), (5, .int (nI i)), (6, .int (nI j))] 60 [] := by
          refine z_ind (fun mu ih60 => ?_)
          intro j b o1 o2 c0 c1 c2 c3 c4 c5 c6 c7 d1 d2 d3 d4 d5 d6 d7 d8 d9 d0 hmu60 hj hj2 hs2 hbb2
          refine z_iload C 6 rfl dX4_bestExchange_60 62 rfl ?_
          refine z_aload_n C 0 rfl rfl dX4_bestExchange_62 63 rfl ?_
          refine z_get C zc4 iX4_bestExchange_X4 0 0 rfl rfl 0 (Nat.le_of_ble_eq_true rfl) (List.mem_of_getElem? (i := 2) rfl) (v := .ref (bd 0)) rfl dX4_bestExchange_63 66 rfl ?_
          refine z_get C zc0 iX4_bestExchange_X0 2 0 rfl rfl 2 (Nat.le_of_ble_eq_true rfl) (List.mem_of_getElem? (i := 3) rfl) (v := .int (nI n)) rfl dX4_bestExchange_66 69 rfl ?_
          refine z_icmp_ge C (by omega) (by omega) 104 dX4_bestExchange_69 (by decide) 72 rfl (fun c_4 => ?_) (fun c_4 => ?_)
          · skip
            refine z_iinc C hnL 5 rfl (v := (nI (i + 1))) (nI_1 _) [1, 2, 3, 4, 5, 0, 6] [(0, .ref (x 0)), (1, .int (nI 0)), (2, .int (nI b)), (3, .int o1), (4, .int o2), (5, .int (nI (i + 1))), (6, .int (nI j))] rfl (Nat.le_of_ble_eq_true rfl) dX4_bestExchange_104 107 rfl ?_
            refine z_goto C 42 dX4_bestExchange_107 (by decide) ?_
            refine z_lv [0, 1, 2, 3, 4, 5] [(0, .ref (x 0)), (1, .int (nI 0)), (2, .int (nI b)), (3, .int o1), (4, .int o2), (5, .int (nI (i + 1)))] rfl ?_
            exact ih42 _ (by omega) (i + 1) b o1 o2 c0 c1 c2 c3 c4 c5 c6 c7 d1 d2 d3 d4 d5 d6 d7 d8 d9 d0 rfl (by omega) (by rw [hs2, show j = n by omega]; rfl) (by omega)
          · skip
            refine z_aload_n C 0 rfl rfl dX4_bestExchange_72 73 rfl ?_
            refine z_iload C 5 rfl dX4_bestExchange_73 75 rfl ?_
            refine z_iload C 6 rfl dX4_bestExchange_75 77 rfl ?_
            refine z_callV C [.int (nI i), .int (nI j)] [] (tX4_lateSumIfExchanged K.l K.g x bd tr q p h sb sv c0 c1 c2 c3 c4 c5 c6 c7 d0 d1 d2 d3 d4 d5 d6 d7 d8 d9 st r n i j (by first | omega | assumption) (by first | omega | assumption) (by first | omega | assumption) (by first | omega | assumption) (by first | omega | assumption) (by first | omega | assumption)) gX4_bestExchange_X4_lateSumIfExchanged rfl rfl rfl hdX4_lateSumIfExchanged ⟨Nat.le_of_ble_eq_true rfl, Nat.le_of_ble_eq_true rfl⟩ ⟨Nat.zero_le _, Nat.zero_le _⟩ 0 0 rfl rfl rfl [0, 1, 3] rfl rfl (zlc (N := 4) rfl rfl) [4, 5, 2, 6] rfl (by decide) (fun u : (Nat → Nat) × (Nat → Nat) × (Nat → Nat) × (Nat → Nat) × (Nat → Nat) × (Nat → Nat) × (Nat → Nat) × (Nat → Nat) × (Nat) × (Nat) × (Nat) × (Nat) × (Nat) × (Nat) × (Nat) × (Nat) × (Nat) => match u with | (c0, c1, c2, c3, c4, c5, c6, c7, d1, d2, d3, d4, d5, d6, d7, d8, d9) => [wX K.g x bd tr q p h sb sv, wP K.g q c0 c1 c2 c3 c4 c5 c6 c7 n d1 d2 d3 d4 d5 d6 d7 d8 d9, wB K.g bd st r n, wB K.g tr st r n]) (fun _ => rfl) rfl rfl (Nat.le_of_ble_eq_true rfl) dX4_bestExchange_77 80 rfl (fun u9 hu9 => ?_)
            obtain ⟨c0_5, c1_6, c2_7, c3_8, c4_9, c5_10, c6_11, c7_12, d1_13, d2_14, d3_15, d4_16, d5_17, d6_18, d7_19, d8_20, d9_21⟩ := u9
            have hls := hu9
            have hls : LSm st (fun k => swp (r k) i j) (st 5) n ≤ 1000000 := hls
            show Z K 0 0 [wX K.g x bd tr q p h sb sv, wP K.g q c0_5 c1_6 c2_7 c3_8 c4_9 c5_10 c6_11 c7_12 n d1_13 d2_14 d3_15 d4_16 d5_17 d6_18 d7_19 d8_20 d9_21, wB K.g bd st r n, wB K.g tr st r n] [(0, .ref (x 0)), (1, .int (nI 0)), (2, .int (nI b)), (3, .int o1), (4, .int o2), (5, .int (nI i)), (6, .int (nI j))] 80 [.int (nI (LSm st (fun k => swp (r k) i j) (st 5) n))]
            refine z_nm (fun x_22 ex_22 => ?_)
            refine z_istore C hnL [1, 2, 3, 4, 5, 6, 7, 0] [(0, .ref (x 0)), (1, .int (nI 0)), (2, .int (nI b)), (3, .int o1), (4, .int o2), (5, .int (nI i)), (6, .int (nI j)), (7, .int (nI x_22))] rfl (Nat.le_of_ble_eq_true rfl) dX4_bestExchange_80 82 rfl ?_
            refine z_iload C 7 rfl dX4_bestExchange_82 84 rfl ?_
            refine z_iload_n C 2 rfl rfl dX4_bestExchange_84 85 rfl ?_
            refine z_icmp_ge C (by omega) (by omega) 98 dX4_bestExchange_85 (by decide) 88 rfl (fun c_23 => ?_) (fun c_23 => ?_)
            · skip
              refine z_iinc C hnL 6 rfl (v := (nI (j + 1))) (nI_1 _) [1, 2, 3, 4, 5, 6, 0, 7] [(0, .ref (x 0)), (1, .int (nI 0)), (2, .int (nI b)), (3, .int o1), (4, .int o2), (5, .int (nI i)), (6, .int (nI (j + 1))), (7, .int (nI x_22))] rfl (Nat.le_of_ble_eq_true rfl) dX4_bestExchange_98 101 rfl ?_
              refine z_goto C 60 dX4_bestExchange_101 (by decide) ?_
              refine z_lv [0, 1, 2, 3, 4, 5, 6] [(0, .ref (x 0)), (1, .int (nI 0)), (2, .int (nI b)), (3, .int o1), (4, .int o2), (5, .int (nI i)), (6, .int (nI (j + 1)))] rfl ?_
              exact ih60 _ (by omega) (j + 1) b o1 o2 c0_5 c1_6 c2_7 c3_8 c4_9 c5_10 c6_11 c7_12 d1_13 d2_14 d3_15 d4_16 d5_17 d6_18 d7_19 d8_20 d9_21 n rfl (by omega) (by omega) (by rw [beI_s (by omega), ← hs2]; unfold beS; rw [if_neg (by dsimp only; omega)]) (by omega)
            · skip
              refine z_iload C 7 rfl dX4_bestExchange_88 90 rfl ?_
              refine z_istore_n C hnL [1, 2, 0, 3, 4, 5, 6, 7] [(0, .ref (x 0)), (1, .int (nI 0)), (2, .int (nI x_22)), (3, .int o1), (4, .int o2), (5, .int (nI i)), (6, .int (nI j)), (7, .int (nI x_22))] rfl rfl (Nat.le_of_ble_eq_true rfl) dX4_bestExchange_90 91 rfl ?_
              refine z_iload C 5 rfl dX4_bestExchange_91 93 rfl ?_
              refine z_istore_n C hnL [1, 2, 3, 0, 4, 5, 6, 7] [(0, .ref (x 0)), (1, .int (nI 0)), (2, .int (nI x_22)), (3, .int (nI i)), (4, .int o2), (5, .int (nI i)), (6, .int (nI j)), (7, .int (nI x_22))] rfl rfl (Nat.le_of_ble_eq_true rfl) dX4_bestExchange_93 94 rfl ?_
              refine z_iload C 6 rfl dX4_bestExchange_94 96 rfl ?_
              refine z_istore C hnL [1, 2, 3, 4, 0, 5, 6, 7] [(0, .ref (x 0)), (1, .int (nI 0)), (2, .int (nI x_22)), (3, .int (nI i)), (4, .int (nI j)), (5, .int (nI i)), (6, .int (nI j)), (7, .int (nI x_22))] rfl (Nat.le_of_ble_eq_true rfl) dX4_bestExchange_96 98 rfl ?_
              refine z_iinc C hnL 6 rfl (v := (nI (j + 1))) (nI_1 _) [1, 2, 3, 4, 5, 6, 0, 7] [(0, .ref (x 0)), (1, .int (nI 0)), (2, .int (nI x_22)), (3, .int (nI i)), (4, .int (nI j)), (5, .int (nI i)), (6, .int (nI (j + 1))), (7, .int (nI x_22))] rfl (Nat.le_of_ble_eq_true rfl) dX4_bestExchange_98 101 rfl ?_
              refine z_goto C 60 dX4_bestExchange_101 (by decide) ?_
              refine z_lv [0, 1, 2, 3, 4, 5, 6] [(0, .ref (x 0)), (1, .int (nI 0)), (2, .int (nI x_22)), (3, .int (nI i)), (4, .int (nI j)), (5, .int (nI i)), (6, .int (nI (j + 1)))] rfl ?_
              exact ih60 _ (by omega) (j + 1) x_22 (nI i) (nI j) c0_5 c1_6 c2_7 c3_8 c4_9 c5_10 c6_11 c7_12 d1_13 d2_14 d3_15 d4_16 d5_17 d6_18 d7_19 d8_20 d9_21 n rfl (by omega) (by omega) (by rw [beI_s (by omega), ← hs2]; unfold beS; rw [if_pos (by dsimp only; omega), ex_22]) (by omega)
        exact loop60 _ (i + 1) b o1 o2 c0 c1 c2 c3 c4 c5 c6 c7 d1 d2 d3 d4 d5 d6 d7 d8 d9 d0 rfl (by omega) (Nat.le_refl _) (by rw [Nat.sub_self, hs]; rfl) (by omega)
    exact loop42 _ 0 (LSm st r (st 5) n) (-6) (-6) c0q c1q c2q c3q c4q c5q c6q c7q d1q d2q d3q d4q d5q d6q d7q d8q d9q n rfl (by omega) rfl (by omega)
  · skip
    refine z_iload_n C 1 rfl rfl dX4_bestExchange_0 1 rfl ?_
    refine z_iconst C (v := nI 0) rfl dX4_bestExchange_1 2 rfl ?_
    refine z_iconst C (v := nI 2) rfl dX4_bestExchange_2 3 rfl ?_
    refine z_callP C [.int (nI 1), .int (nI 0), .int (nI 2)] [] (tX4_withinN K.l K.g (nI 1) 0 2 (by first | omega | assumption) (by first | omega | assumption)) gX4_bestExchange_X4_within rfl rfl rfl hdX4_within ⟨Nat.le_of_ble_eq_true rfl, Nat.le_of_ble_eq_true rfl⟩ ⟨Nat.zero_le _, Nat.zero_le _⟩ rfl rfl (Nat.le_of_ble_eq_true rfl) dX4_bestExchange_3 6 rfl (fun u9 hu9 => ?_)
    show Z K 0 0 [wX K.g x bd tr q p h sb sv, wP K.g q a0 a1 a2 a3 a4 a5 a6 a7 s0 s1 s2 s3 s4 s5 s6 s7 s8 s9, wB K.g bd st r n, wB K.g tr ts tq tn] [(0, .ref (x 0)), (1, .int (nI 1))] 6 [.int (bI (rg (nI 1).toInt (Int.ofNat 0) (Int.ofNat 2)))]
    refine z_ifb_ne C 12 dX4_bestExchange_6 (by decide) 9 rfl (fun c_24 => ?_) (fun c_24 => ?_)
    rotate_left
    · exfalso; rw [rgN_t (by omega) (by omega) (by omega)] at c_24; exact Bool.noConfusion c_24
    refine z_aload_n C 0 rfl rfl dX4_bestExchange_12 13 rfl ?_
    refine z_get C zc4 iX4_bestExchange_X4 0 0 rfl rfl 1 (Nat.le_of_ble_eq_true rfl) (List.mem_of_getElem? (i := 1) rfl) (v := .ref (tr 0)) rfl dX4_bestExchange_13 16 rfl ?_
    refine z_aload_n C 0 rfl rfl dX4_bestExchange_16 17 rfl ?_
    refine z_get C zc4 iX4_bestExchange_X4 0 0 rfl rfl 0 (Nat.le_of_ble_eq_true rfl) (List.mem_of_getElem? (i := 2) rfl) (v := .ref (bd 0)) rfl dX4_bestExchange_17 20 rfl ?_
    refine z_callV C [.ref (bd 0)] [] (tX0_copyFrom K.l K.g tr ts tq tn bd st r n ) gX4_bestExchange_X0_copyFrom rfl rfl rfl hdX0_copyFrom ⟨Nat.le_of_ble_eq_true rfl, Nat.le_of_ble_eq_true rfl⟩ ⟨Nat.zero_le _, Nat.zero_le _⟩ 3 0 rfl rfl rfl [3, 2] rfl rfl (zlc (N := 4) rfl rfl) [0, 1, 5, 4] rfl (by decide) (fun _ : Unit => [wX K.g x bd tr q p h sb sv, wP K.g q a0 a1 a2 a3 a4 a5 a6 a7 s0 s1 s2 s3 s4 s5 s6 s7 s8 s9, wB K.g bd st r n, wB K.g tr st r n]) (fun _ => rfl) rfl rfl (Nat.le_of_ble_eq_true rfl) dX4_bestExchange_20 23 rfl (fun u9 hu9 => ?_)
    show Z K 0 0 [wX K.g x bd tr q p h sb sv, wP K.g q a0 a1 a2 a3 a4 a5 a6 a7 s0 s1 s2 s3 s4 s5 s6 s7 s8 s9, wB K.g bd st r n, wB K.g tr st r n] [(0, .ref (x 0)), (1, .int (nI 1))] 23 []
    refine z_aload_n C 0 rfl rfl dX4_bestExchange_23 24 rfl ?_
    refine z_aload_n C 0 rfl rfl dX4_bestExchange_24 25 rfl ?_
    refine z_get C zc4 iX4_bestExchange_X4 0 0 rfl rfl 1 (Nat.le_of_ble_eq_true rfl) (List.mem_of_getElem? (i := 1) rfl) (v := .ref (tr 0)) rfl dX4_bestExchange_25 28 rfl ?_
    refine z_callV C [.ref (tr 0)] [] (tX4_lateSumOf K.l K.g x bd tr q p h sb sv a0 a1 a2 a3 a4 a5 a6 a7 s0 s1 s2 s3 s4 s5 s6 s7 s8 s9 tr st r n (by first | omega | assumption) (by first | omega | assumption) (by first | omega | assumption) (by first | omega | assumption)) gX4_bestExchange_X4_lateSumOf rfl rfl rfl hdX4_lateSumOf ⟨Nat.le_of_ble_eq_true rfl, Nat.le_of_ble_eq_true rfl⟩ ⟨Nat.zero_le _, Nat.zero_le _⟩ 0 0 rfl rfl rfl [0, 1, 3] rfl rfl (zlc (N := 4) rfl rfl) [4, 5, 2, 6] rfl (by decide) (fun u : (Nat → Nat) × (Nat → Nat) × (Nat → Nat) × (Nat → Nat) × (Nat → Nat) × (Nat → Nat) × (Nat → Nat) × (Nat → Nat) × (Nat) × (Nat) × (Nat) × (Nat) × (Nat) × (Nat) × (Nat) × (Nat) × (Nat) => match u with | (c0, c1, c2, c3, c4, c5, c6, c7, d1, d2, d3, d4, d5, d6, d7, d8, d9) => [wX K.g x bd tr q p h sb sv, wP K.g q c0 c1 c2 c3 c4 c5 c6 c7 n d1 d2 d3 d4 d5 d6 d7 d8 d9, wB K.g bd st r n, wB K.g tr st r n]) (fun _ => rfl) rfl rfl (Nat.le_of_ble_eq_true rfl) dX4_bestExchange_28 31 rfl (fun u9 hu9 => ?_)
    obtain ⟨c0q, c1q, c2q, c3q, c4q, c5q, c6q, c7q, d1q, d2q, d3q, d4q, d5q, d6q, d7q, d8q, d9q⟩ := u9
    have hls0 := hu9
    have hls0 : LSm st r (st 5) n ≤ 1000000 := hls0
    show Z K 0 0 [wX K.g x bd tr q p h sb sv, wP K.g q c0q c1q c2q c3q c4q c5q c6q c7q n d1q d2q d3q d4q d5q d6q d7q d8q d9q, wB K.g bd st r n, wB K.g tr st r n] [(0, .ref (x 0)), (1, .int (nI 1))] 31 [.int (nI (LSm st r (st 5) n))]
    refine z_istore_n C hnL [1, 2, 0] [(0, .ref (x 0)), (1, .int (nI 1)), (2, .int (nI (LSm st r (st 5) n)))] rfl rfl (Nat.le_of_ble_eq_true rfl) dX4_bestExchange_31 32 rfl ?_
    refine z_bipush C (v := (-6)) rfl dX4_bestExchange_32 34 rfl ?_
    refine z_istore_n C hnL [1, 2, 3, 0] [(0, .ref (x 0)), (1, .int (nI 1)), (2, .int (nI (LSm st r (st 5) n))), (3, .int (-6))] rfl rfl (Nat.le_of_ble_eq_true rfl) dX4_bestExchange_34 35 rfl ?_
    refine z_bipush C (v := (-6)) rfl dX4_bestExchange_35 37 rfl ?_
    refine z_istore C hnL [1, 2, 3, 4, 0] [(0, .ref (x 0)), (1, .int (nI 1)), (2, .int (nI (LSm st r (st 5) n))), (3, .int (-6)), (4, .int (-6))] rfl (Nat.le_of_ble_eq_true rfl) dX4_bestExchange_37 39 rfl ?_
    refine z_iconst C (v := nI 0) rfl dX4_bestExchange_39 40 rfl ?_
    refine z_istore C hnL [1, 2, 3, 4, 5, 0] [(0, .ref (x 0)), (1, .int (nI 1)), (2, .int (nI (LSm st r (st 5) n))), (3, .int (-6)), (4, .int (-6)), (5, .int (nI 0))] rfl (Nat.le_of_ble_eq_true rfl) dX4_bestExchange_40 42 rfl ?_
    have loop42 : ∀ (mu : Nat) (i : Nat) (b : Nat) (o1 : Int32) (o2 : Int32) (c0 : Nat → Nat) (c1 : Nat → Nat) (c2 : Nat → Nat) (c3 : Nat → Nat) (c4 : Nat → Nat) (c5 : Nat → Nat) (c6 : Nat → Nat) (c7 : Nat → Nat) (d1 : Nat) (d2 : Nat) (d3 : Nat) (d4 : Nat) (d5 : Nat) (d6 : Nat) (d7 : Nat) (d8 : Nat) (d9 : Nat) (d0 : Nat), mu = n - i → i ≤ n → (b, o1, o2) = beO st r n i → b ≤ 1000000 → Z K 0 0 [wX K.g x bd tr q p h sb sv, wP K.g q c0 c1 c2 c3 c4 c5 c6 c7 d0 d1 d2 d3 d4 d5 d6 d7 d8 d9, wB K.g bd st r n, wB K.g tr st r n] [(0, .ref (x 0)), (1, .int (nI 1)), (2, .int (nI b)), (3, .int o1), (4, .int o2), (5, .int (nI i))] 42 [] := by
      refine z_ind (fun mu ih42 => ?_)
      intro i b o1 o2 c0 c1 c2 c3 c4 c5 c6 c7 d1 d2 d3 d4 d5 d6 d7 d8 d9 d0 hmu42 hi hs hbb
      refine z_iload C 5 rfl dX4_bestExchange_42 44 rfl ?_
      refine z_aload_n C 0 rfl rfl dX4_bestExchange_44 45 rfl ?_
      refine z_get C zc4 iX4_bestExchange_X4 0 0 rfl rfl 0 (Nat.le_of_ble_eq_true rfl) (List.mem_of_getElem? (i := 2) rfl) (v := .ref (bd 0)) rfl dX4_bestExchange_45 48 rfl ?_
      refine z_get C zc0 iX4_bestExchange_X0 2 0 rfl rfl 2 (Nat.le_of_ble_eq_true rfl) (List.mem_of_getElem? (i := 3) rfl) (v := .int (nI n)) rfl dX4_bestExchange_48 51 rfl ?_
      refine z_icmp_ge C (by omega) (by omega) 110 dX4_bestExchange_51 (by decide) 54 rfl (fun c_25 => ?_) (fun c_25 => ?_)
      · skip
        refine z_iload_n C 3 rfl rfl dX4_bestExchange_110 111 rfl ?_
        refine z_bipush C (v := (-6)) rfl dX4_bestExchange_111 113 rfl ?_
        refine z_icmpI_ne C 119 dX4_bestExchange_113 (by decide) 116 rfl (fun c_26 => ?_) (fun c_26 => ?_)
        · skip
          refine z_iload_n C 1 rfl rfl dX4_bestExchange_119 120 rfl ?_
          refine z_look C (off := 30) 150 dX4_bestExchange_120 (by decide) (by decide) (by decide) ?_
          refine z_iload C 4 rfl dX4_bestExchange_150 152 rfl ?_
          obtain rfl : i = n := by omega
          exact z_iret C hRx dX4_bestExchange_152 (c0, c1, c2, c3, c4, c5, c6, c7, d1, d2, d3, d4, d5, d6, d7, d8, d9, d0) (by rw [show BE st r i 1 = o2 from by unfold BE; rw [← hs]; exact if_neg (by assumption)]) trivial rfl
        · skip
          refine z_bipush C (v := (-6)) rfl dX4_bestExchange_116 118 rfl ?_
          obtain rfl : i = n := by omega
          exact z_iret C hRx dX4_bestExchange_118 (c0, c1, c2, c3, c4, c5, c6, c7, d1, d2, d3, d4, d5, d6, d7, d8, d9, d0) (by rw [show BE st r i 1 = (-6) from by unfold BE; rw [← hs]; exact if_pos (by assumption)]) trivial rfl
      · skip
        refine z_iload C 5 rfl dX4_bestExchange_54 56 rfl ?_
        refine z_iconst C (v := nI 1) rfl dX4_bestExchange_56 57 rfl ?_
        refine z_iadd C dX4_bestExchange_57 58 rfl ?_
        refine z_istore C hnL [1, 2, 3, 4, 5, 6, 0] [(0, .ref (x 0)), (1, .int (nI 1)), (2, .int (nI b)), (3, .int o1), (4, .int o2), (5, .int (nI i)), (6, .int (nI (i + 1)))] rfl (Nat.le_of_ble_eq_true rfl) dX4_bestExchange_58 60 rfl ?_
        have loop60 : ∀ (mu : Nat) (j : Nat) (b : Nat) (o1 : Int32) (o2 : Int32) (c0 : Nat → Nat) (c1 : Nat → Nat) (c2 : Nat → Nat) (c3 : Nat → Nat) (c4 : Nat → Nat) (c5 : Nat → Nat) (c6 : Nat → Nat) (c7 : Nat → Nat) (d1 : Nat) (d2 : Nat) (d3 : Nat) (d4 : Nat) (d5 : Nat) (d6 : Nat) (d7 : Nat) (d8 : Nat) (d9 : Nat) (d0 : Nat), mu = n - j → j ≤ n → i + 1 ≤ j → (b, o1, o2) = beI st r n i (beO st r n i) (j - (i + 1)) → b ≤ 1000000 → Z K 0 0 [wX K.g x bd tr q p h sb sv, wP K.g q c0 c1 c2 c3 c4 c5 c6 c7 d0 d1 d2 d3 d4 d5 d6 d7 d8 d9, wB K.g bd st r n, wB K.g tr st r n] [(0, .ref (x 0)), (1, .int (nI 1)), (2, .int (nI b)), (3, .int o1), (4, .int o2), (5, .int (nI i)), (6, .int (nI j))] 60 [] := by
          refine z_ind (fun mu ih60 => ?_)
          intro j b o1 o2 c0 c1 c2 c3 c4 c5 c6 c7 d1 d2 d3 d4 d5 d6 d7 d8 d9 d0 hmu60 hj hj2 hs2 hbb2
          refine z_iload C 6 rfl dX4_bestExchange_60 62 rfl ?_
          refine z_aload_n C 0 rfl rfl dX4_bestExchange_62 63 rfl ?_
          refine z_get C zc4 iX4_bestExchange_X4 0 0 rfl rfl 0 (Nat.le_of_ble_eq_true rfl) (List.mem_of_getElem? (i := 2) rfl) (v := .ref (bd 0)) rfl dX4_bestExchange_63 66 rfl ?_
          refine z_get C zc0 iX4_bestExchange_X0 2 0 rfl rfl 2 (Nat.le_of_ble_eq_true rfl) (List.mem_of_getElem? (i := 3) rfl) (v := .int (nI n)) rfl dX4_bestExchange_66 69 rfl ?_
          refine z_icmp_ge C (by omega) (by omega) 104 dX4_bestExchange_69 (by decide) 72 rfl (fun c_27 => ?_) (fun c_27 => ?_)
          · skip
            refine z_iinc C hnL 5 rfl (v := (nI (i + 1))) (nI_1 _) [1, 2, 3, 4, 5, 0, 6] [(0, .ref (x 0)), (1, .int (nI 1)), (2, .int (nI b)), (3, .int o1), (4, .int o2), (5, .int (nI (i + 1))), (6, .int (nI j))] rfl (Nat.le_of_ble_eq_true rfl) dX4_bestExchange_104 107 rfl ?_
            refine z_goto C 42 dX4_bestExchange_107 (by decide) ?_
            refine z_lv [0, 1, 2, 3, 4, 5] [(0, .ref (x 0)), (1, .int (nI 1)), (2, .int (nI b)), (3, .int o1), (4, .int o2), (5, .int (nI (i + 1)))] rfl ?_
            exact ih42 _ (by omega) (i + 1) b o1 o2 c0 c1 c2 c3 c4 c5 c6 c7 d1 d2 d3 d4 d5 d6 d7 d8 d9 d0 rfl (by omega) (by rw [hs2, show j = n by omega]; rfl) (by omega)
          · skip
            refine z_aload_n C 0 rfl rfl dX4_bestExchange_72 73 rfl ?_
            refine z_iload C 5 rfl dX4_bestExchange_73 75 rfl ?_
            refine z_iload C 6 rfl dX4_bestExchange_75 77 rfl ?_
            refine z_callV C [.int (nI i), .int (nI j)] [] (tX4_lateSumIfExchanged K.l K.g x bd tr q p h sb sv c0 c1 c2 c3 c4 c5 c6 c7 d0 d1 d2 d3 d4 d5 d6 d7 d8 d9 st r n i j (by first | omega | assumption) (by first | omega | assumption) (by first | omega | assumption) (by first | omega | assumption) (by first | omega | assumption) (by first | omega | assumption)) gX4_bestExchange_X4_lateSumIfExchanged rfl rfl rfl hdX4_lateSumIfExchanged ⟨Nat.le_of_ble_eq_true rfl, Nat.le_of_ble_eq_true rfl⟩ ⟨Nat.zero_le _, Nat.zero_le _⟩ 0 0 rfl rfl rfl [0, 1, 3] rfl rfl (zlc (N := 4) rfl rfl) [4, 5, 2, 6] rfl (by decide) (fun u : (Nat → Nat) × (Nat → Nat) × (Nat → Nat) × (Nat → Nat) × (Nat → Nat) × (Nat → Nat) × (Nat → Nat) × (Nat → Nat) × (Nat) × (Nat) × (Nat) × (Nat) × (Nat) × (Nat) × (Nat) × (Nat) × (Nat) => match u with | (c0, c1, c2, c3, c4, c5, c6, c7, d1, d2, d3, d4, d5, d6, d7, d8, d9) => [wX K.g x bd tr q p h sb sv, wP K.g q c0 c1 c2 c3 c4 c5 c6 c7 n d1 d2 d3 d4 d5 d6 d7 d8 d9, wB K.g bd st r n, wB K.g tr st r n]) (fun _ => rfl) rfl rfl (Nat.le_of_ble_eq_true rfl) dX4_bestExchange_77 80 rfl (fun u9 hu9 => ?_)
            obtain ⟨c0_28, c1_29, c2_30, c3_31, c4_32, c5_33, c6_34, c7_35, d1_36, d2_37, d3_38, d4_39, d5_40, d6_41, d7_42, d8_43, d9_44⟩ := u9
            have hls := hu9
            have hls : LSm st (fun k => swp (r k) i j) (st 5) n ≤ 1000000 := hls
            show Z K 0 0 [wX K.g x bd tr q p h sb sv, wP K.g q c0_28 c1_29 c2_30 c3_31 c4_32 c5_33 c6_34 c7_35 n d1_36 d2_37 d3_38 d4_39 d5_40 d6_41 d7_42 d8_43 d9_44, wB K.g bd st r n, wB K.g tr st r n] [(0, .ref (x 0)), (1, .int (nI 1)), (2, .int (nI b)), (3, .int o1), (4, .int o2), (5, .int (nI i)), (6, .int (nI j))] 80 [.int (nI (LSm st (fun k => swp (r k) i j) (st 5) n))]
            refine z_nm (fun x_45 ex_45 => ?_)
            refine z_istore C hnL [1, 2, 3, 4, 5, 6, 7, 0] [(0, .ref (x 0)), (1, .int (nI 1)), (2, .int (nI b)), (3, .int o1), (4, .int o2), (5, .int (nI i)), (6, .int (nI j)), (7, .int (nI x_45))] rfl (Nat.le_of_ble_eq_true rfl) dX4_bestExchange_80 82 rfl ?_
            refine z_iload C 7 rfl dX4_bestExchange_82 84 rfl ?_
            refine z_iload_n C 2 rfl rfl dX4_bestExchange_84 85 rfl ?_
            refine z_icmp_ge C (by omega) (by omega) 98 dX4_bestExchange_85 (by decide) 88 rfl (fun c_46 => ?_) (fun c_46 => ?_)
            · skip
              refine z_iinc C hnL 6 rfl (v := (nI (j + 1))) (nI_1 _) [1, 2, 3, 4, 5, 6, 0, 7] [(0, .ref (x 0)), (1, .int (nI 1)), (2, .int (nI b)), (3, .int o1), (4, .int o2), (5, .int (nI i)), (6, .int (nI (j + 1))), (7, .int (nI x_45))] rfl (Nat.le_of_ble_eq_true rfl) dX4_bestExchange_98 101 rfl ?_
              refine z_goto C 60 dX4_bestExchange_101 (by decide) ?_
              refine z_lv [0, 1, 2, 3, 4, 5, 6] [(0, .ref (x 0)), (1, .int (nI 1)), (2, .int (nI b)), (3, .int o1), (4, .int o2), (5, .int (nI i)), (6, .int (nI (j + 1)))] rfl ?_
              exact ih60 _ (by omega) (j + 1) b o1 o2 c0_28 c1_29 c2_30 c3_31 c4_32 c5_33 c6_34 c7_35 d1_36 d2_37 d3_38 d4_39 d5_40 d6_41 d7_42 d8_43 d9_44 n rfl (by omega) (by omega) (by rw [beI_s (by omega), ← hs2]; unfold beS; rw [if_neg (by dsimp only; omega)]) (by omega)
            · skip
              refine z_iload C 7 rfl dX4_bestExchange_88 90 rfl ?_
              refine z_istore_n C hnL [1, 2, 0, 3, 4, 5, 6, 7] [(0, .ref (x 0)), (1, .int (nI 1)), (2, .int (nI x_45)), (3, .int o1), (4, .int o2), (5, .int (nI i)), (6, .int (nI j)), (7, .int (nI x_45))] rfl rfl (Nat.le_of_ble_eq_true rfl) dX4_bestExchange_90 91 rfl ?_
              refine z_iload C 5 rfl dX4_bestExchange_91 93 rfl ?_
              refine z_istore_n C hnL [1, 2, 3, 0, 4, 5, 6, 7] [(0, .ref (x 0)), (1, .int (nI 1)), (2, .int (nI x_45)), (3, .int (nI i)), (4, .int o2), (5, .int (nI i)), (6, .int (nI j)), (7, .int (nI x_45))] rfl rfl (Nat.le_of_ble_eq_true rfl) dX4_bestExchange_93 94 rfl ?_
              refine z_iload C 6 rfl dX4_bestExchange_94 96 rfl ?_
              refine z_istore C hnL [1, 2, 3, 4, 0, 5, 6, 7] [(0, .ref (x 0)), (1, .int (nI 1)), (2, .int (nI x_45)), (3, .int (nI i)), (4, .int (nI j)), (5, .int (nI i)), (6, .int (nI j)), (7, .int (nI x_45))] rfl (Nat.le_of_ble_eq_true rfl) dX4_bestExchange_96 98 rfl ?_
              refine z_iinc C hnL 6 rfl (v := (nI (j + 1))) (nI_1 _) [1, 2, 3, 4, 5, 6, 0, 7] [(0, .ref (x 0)), (1, .int (nI 1)), (2, .int (nI x_45)), (3, .int (nI i)), (4, .int (nI j)), (5, .int (nI i)), (6, .int (nI (j + 1))), (7, .int (nI x_45))] rfl (Nat.le_of_ble_eq_true rfl) dX4_bestExchange_98 101 rfl ?_
              refine z_goto C 60 dX4_bestExchange_101 (by decide) ?_
              refine z_lv [0, 1, 2, 3, 4, 5, 6] [(0, .ref (x 0)), (1, .int (nI 1)), (2, .int (nI x_45)), (3, .int (nI i)), (4, .int (nI j)), (5, .int (nI i)), (6, .int (nI (j + 1)))] rfl ?_
              exact ih60 _ (by omega) (j + 1) x_45 (nI i) (nI j) c0_28 c1_29 c2_30 c3_31 c4_32 c5_33 c6_34 c7_35 d1_36 d2_37 d3_38 d4_39 d5_40 d6_41 d7_42 d8_43 d9_44 n rfl (by omega) (by omega) (by rw [beI_s (by omega), ← hs2]; unfold beS; rw [if_pos (by dsimp only; omega), ex_45]) (by omega)
        exact loop60 _ (i + 1) b o1 o2 c0 c1 c2 c3 c4 c5 c6 c7 d1 d2 d3 d4 d5 d6 d7 d8 d9 d0 rfl (by omega) (Nat.le_refl _) (by rw [Nat.sub_self, hs]; rfl) (by omega)
    exact loop42 _ 0 (LSm st r (st 5) n) (-6) (-6) c0q c1q c2q c3q c4q c5q c6q c7q d1q d2q d3q d4q d5q d6q d7q d8q d9q n rfl (by omega) rfl (by omega)
  · skip
    refine z_iload_n C 1 rfl rfl dX4_bestExchange_0 1 rfl ?_
    refine z_iconst C (v := nI 0) rfl dX4_bestExchange_1 2 rfl ?_
    refine z_iconst C (v := nI 2) rfl dX4_bestExchange_2 3 rfl ?_
    refine z_callP C [.int (nI 2), .int (nI 0), .int (nI 2)] [] (tX4_withinN K.l K.g (nI 2) 0 2 (by first | omega | assumption) (by first | omega | assumption)) gX4_bestExchange_X4_within rfl rfl rfl hdX4_within ⟨Nat.le_of_ble_eq_true rfl, Nat.le_of_ble_eq_true rfl⟩ ⟨Nat.zero_le _, Nat.zero_le _⟩ rfl rfl (Nat.le_of_ble_eq_true rfl) dX4_bestExchange_3 6 rfl (fun u9 hu9 => ?_)
    show Z K 0 0 [wX K.g x bd tr q p h sb sv, wP K.g q a0 a1 a2 a3 a4 a5 a6 a7 s0 s1 s2 s3 s4 s5 s6 s7 s8 s9, wB K.g bd st r n, wB K.g tr ts tq tn] [(0, .ref (x 0)), (1, .int (nI 2))] 6 [.int (bI (rg (nI 2).toInt (Int.ofNat 0) (Int.ofNat 2)))]
    refine z_ifb_ne C 12 dX4_bestExchange_6 (by decide) 9 rfl (fun c_47 => ?_) (fun c_47 => ?_)
    rotate_left
    · exfalso; rw [rgN_t (by omega) (by omega) (by omega)] at c_47; exact Bool.noConfusion c_47
    refine z_aload_n C 0 rfl rfl dX4_bestExchange_12 13 rfl ?_
    refine z_get C zc4 iX4_bestExchange_X4 0 0 rfl rfl 1 (Nat.le_of_ble_eq_true rfl) (List.mem_of_getElem? (i := 1) rfl) (v := .ref (tr 0)) rfl dX4_bestExchange_13 16 rfl ?_
    refine z_aload_n C 0 rfl rfl dX4_bestExchange_16 17 rfl ?_
    refine z_get C zc4 iX4_bestExchange_X4 0 0 rfl rfl 0 (Nat.le_of_ble_eq_true rfl) (List.mem_of_getElem? (i := 2) rfl) (v := .ref (bd 0)) rfl dX4_bestExchange_17 20 rfl ?_
    refine z_callV C [.ref (bd 0)] [] (tX0_copyFrom K.l K.g tr ts tq tn bd st r n ) gX4_bestExchange_X0_copyFrom rfl rfl rfl hdX0_copyFrom ⟨Nat.le_of_ble_eq_true rfl, Nat.le_of_ble_eq_true rfl⟩ ⟨Nat.zero_le _, Nat.zero_le _⟩ 3 0 rfl rfl rfl [3, 2] rfl rfl (zlc (N := 4) rfl rfl) [0, 1, 5, 4] rfl (by decide) (fun _ : Unit => [wX K.g x bd tr q p h sb sv, wP K.g q a0 a1 a2 a3 a4 a5 a6 a7 s0 s1 s2 s3 s4 s5 s6 s7 s8 s9, wB K.g bd st r n, wB K.g tr st r n]) (fun _ => rfl) rfl rfl (Nat.le_of_ble_eq_true rfl) dX4_bestExchange_20 23 rfl (fun u9 hu9 => ?_)
    show Z K 0 0 [wX K.g x bd tr q p h sb sv, wP K.g q a0 a1 a2 a3 a4 a5 a6 a7 s0 s1 s2 s3 s4 s5 s6 s7 s8 s9, wB K.g bd st r n, wB K.g tr st r n] [(0, .ref (x 0)), (1, .int (nI 2))] 23 []
    refine z_aload_n C 0 rfl rfl dX4_bestExchange_23 24 rfl ?_
    refine z_aload_n C 0 rfl rfl dX4_bestExchange_24 25 rfl ?_
    refine z_get C zc4 iX4_bestExchange_X4 0 0 rfl rfl 1 (Nat.le_of_ble_eq_true rfl) (List.mem_of_getElem? (i := 1) rfl) (v := .ref (tr 0)) rfl dX4_bestExchange_25 28 rfl ?_
    refine z_callV C [.ref (tr 0)] [] (tX4_lateSumOf K.l K.g x bd tr q p h sb sv a0 a1 a2 a3 a4 a5 a6 a7 s0 s1 s2 s3 s4 s5 s6 s7 s8 s9 tr st r n (by first | omega | assumption) (by first | omega | assumption) (by first | omega | assumption) (by first | omega | assumption)) gX4_bestExchange_X4_lateSumOf rfl rfl rfl hdX4_lateSumOf ⟨Nat.le_of_ble_eq_true rfl, Nat.le_of_ble_eq_true rfl⟩ ⟨Nat.zero_le _, Nat.zero_le _⟩ 0 0 rfl rfl rfl [0, 1, 3] rfl rfl (zlc (N := 4) rfl rfl) [4, 5, 2, 6] rfl (by decide) (fun u : (Nat → Nat) × (Nat → Nat) × (Nat → Nat) × (Nat → Nat) × (Nat → Nat) × (Nat → Nat) × (Nat → Nat) × (Nat → Nat) × (Nat) × (Nat) × (Nat) × (Nat) × (Nat) × (Nat) × (Nat) × (Nat) × (Nat) => match u with | (c0, c1, c2, c3, c4, c5, c6, c7, d1, d2, d3, d4, d5, d6, d7, d8, d9) => [wX K.g x bd tr q p h sb sv, wP K.g q c0 c1 c2 c3 c4 c5 c6 c7 n d1 d2 d3 d4 d5 d6 d7 d8 d9, wB K.g bd st r n, wB K.g tr st r n]) (fun _ => rfl) rfl rfl (Nat.le_of_ble_eq_true rfl) dX4_bestExchange_28 31 rfl (fun u9 hu9 => ?_)
    obtain ⟨c0q, c1q, c2q, c3q, c4q, c5q, c6q, c7q, d1q, d2q, d3q, d4q, d5q, d6q, d7q, d8q, d9q⟩ := u9
    have hls0 := hu9
    have hls0 : LSm st r (st 5) n ≤ 1000000 := hls0
    show Z K 0 0 [wX K.g x bd tr q p h sb sv, wP K.g q c0q c1q c2q c3q c4q c5q c6q c7q n d1q d2q d3q d4q d5q d6q d7q d8q d9q, wB K.g bd st r n, wB K.g tr st r n] [(0, .ref (x 0)), (1, .int (nI 2))] 31 [.int (nI (LSm st r (st 5) n))]
    refine z_istore_n C hnL [1, 2, 0] [(0, .ref (x 0)), (1, .int (nI 2)), (2, .int (nI (LSm st r (st 5) n)))] rfl rfl (Nat.le_of_ble_eq_true rfl) dX4_bestExchange_31 32 rfl ?_
    refine z_bipush C (v := (-6)) rfl dX4_bestExchange_32 34 rfl ?_
    refine z_istore_n C hnL [1, 2, 3, 0] [(0, .ref (x 0)), (1, .int (nI 2)), (2, .int (nI (LSm st r (st 5) n))), (3, .int (-6))] rfl rfl (Nat.le_of_ble_eq_true rfl) dX4_bestExchange_34 35 rfl ?_
    refine z_bipush C (v := (-6)) rfl dX4_bestExchange_35 37 rfl ?_
    refine z_istore C hnL [1, 2, 3, 4, 0] [(0, .ref (x 0)), (1, .int (nI 2)), (2, .int (nI (LSm st r (st 5) n))), (3, .int (-6)), (4, .int (-6))] rfl (Nat.le_of_ble_eq_true rfl) dX4_bestExchange_37 39 rfl ?_
    refine z_iconst C (v := nI 0) rfl dX4_bestExchange_39 40 rfl ?_
    refine z_istore C hnL [1, 2, 3, 4, 5, 0] [(0, .ref (x 0)), (1, .int (nI 2)), (2, .int (nI (LSm st r (st 5) n))), (3, .int (-6)), (4, .int (-6)), (5, .int (nI 0))] rfl (Nat.le_of_ble_eq_true rfl) dX4_bestExchange_40 42 rfl ?_
    have loop42 : ∀ (mu : Nat) (i : Nat) (b : Nat) (o1 : Int32) (o2 : Int32) (c0 : Nat → Nat) (c1 : Nat → Nat) (c2 : Nat → Nat) (c3 : Nat → Nat) (c4 : Nat → Nat) (c5 : Nat → Nat) (c6 : Nat → Nat) (c7 : Nat → Nat) (d1 : Nat) (d2 : Nat) (d3 : Nat) (d4 : Nat) (d5 : Nat) (d6 : Nat) (d7 : Nat) (d8 : Nat) (d9 : Nat) (d0 : Nat), mu = n - i → i ≤ n → (b, o1, o2) = beO st r n i → b ≤ 1000000 → Z K 0 0 [wX K.g x bd tr q p h sb sv, wP K.g q c0 c1 c2 c3 c4 c5 c6 c7 d0 d1 d2 d3 d4 d5 d6 d7 d8 d9, wB K.g bd st r n, wB K.g tr st r n] [(0, .ref (x 0)), (1, .int (nI 2)), (2, .int (nI b)), (3, .int o1), (4, .int o2), (5, .int (nI i))] 42 [] := by
      refine z_ind (fun mu ih42 => ?_)
      intro i b o1 o2 c0 c1 c2 c3 c4 c5 c6 c7 d1 d2 d3 d4 d5 d6 d7 d8 d9 d0 hmu42 hi hs hbb
      refine z_iload C 5 rfl dX4_bestExchange_42 44 rfl ?_
      refine z_aload_n C 0 rfl rfl dX4_bestExchange_44 45 rfl ?_
      refine z_get C zc4 iX4_bestExchange_X4 0 0 rfl rfl 0 (Nat.le_of_ble_eq_true rfl) (List.mem_of_getElem? (i := 2) rfl) (v := .ref (bd 0)) rfl dX4_bestExchange_45 48 rfl ?_
      refine z_get C zc0 iX4_bestExchange_X0 2 0 rfl rfl 2 (Nat.le_of_ble_eq_true rfl) (List.mem_of_getElem? (i := 3) rfl) (v := .int (nI n)) rfl dX4_bestExchange_48 51 rfl ?_
      refine z_icmp_ge C (by omega) (by omega) 110 dX4_bestExchange_51 (by decide) 54 rfl (fun c_48 => ?_) (fun c_48 => ?_)
      · skip
        refine z_iload_n C 3 rfl rfl dX4_bestExchange_110 111 rfl ?_
        refine z_bipush C (v := (-6)) rfl dX4_bestExchange_111 113 rfl ?_
        refine z_icmpI_ne C 119 dX4_bestExchange_113 (by decide) 116 rfl (fun c_49 => ?_) (fun c_49 => ?_)
        · skip
          refine z_iload_n C 1 rfl rfl dX4_bestExchange_119 120 rfl ?_
          refine z_look C (off := 33) 153 dX4_bestExchange_120 (by decide) (by decide) (by decide) ?_
          refine z_iload_n C 2 rfl rfl dX4_bestExchange_153 154 rfl ?_
          obtain rfl : i = n := by omega
          exact z_iret C hRx dX4_bestExchange_154 (c0, c1, c2, c3, c4, c5, c6, c7, d1, d2, d3, d4, d5, d6, d7, d8, d9, d0) (by rw [show BE st r i 2 = nI b from by unfold BE; rw [← hs]; exact if_neg (by assumption)]) trivial rfl
        · skip
          refine z_bipush C (v := (-6)) rfl dX4_bestExchange_116 118 rfl ?_
          obtain rfl : i = n := by omega
          exact z_iret C hRx dX4_bestExchange_118 (c0, c1, c2, c3, c4, c5, c6, c7, d1, d2, d3, d4, d5, d6, d7, d8, d9, d0) (by rw [show BE st r i 2 = (-6) from by unfold BE; rw [← hs]; exact if_pos (by assumption)]) trivial rfl
      · skip
        refine z_iload C 5 rfl dX4_bestExchange_54 56 rfl ?_
        refine z_iconst C (v := nI 1) rfl dX4_bestExchange_56 57 rfl ?_
        refine z_iadd C dX4_bestExchange_57 58 rfl ?_
        refine z_istore C hnL [1, 2, 3, 4, 5, 6, 0] [(0, .ref (x 0)), (1, .int (nI 2)), (2, .int (nI b)), (3, .int o1), (4, .int o2), (5, .int (nI i)), (6, .int (nI (i + 1)))] rfl (Nat.le_of_ble_eq_true rfl) dX4_bestExchange_58 60 rfl ?_
        have loop60 : ∀ (mu : Nat) (j : Nat) (b : Nat) (o1 : Int32) (o2 : Int32) (c0 : Nat → Nat) (c1 : Nat → Nat) (c2 : Nat → Nat) (c3 : Nat → Nat) (c4 : Nat → Nat) (c5 : Nat → Nat) (c6 : Nat → Nat) (c7 : Nat → Nat) (d1 : Nat) (d2 : Nat) (d3 : Nat) (d4 : Nat) (d5 : Nat) (d6 : Nat) (d7 : Nat) (d8 : Nat) (d9 : Nat) (d0 : Nat), mu = n - j → j ≤ n → i + 1 ≤ j → (b, o1, o2) = beI st r n i (beO st r n i) (j - (i + 1)) → b ≤ 1000000 → Z K 0 0 [wX K.g x bd tr q p h sb sv, wP K.g q c0 c1 c2 c3 c4 c5 c6 c7 d0 d1 d2 d3 d4 d5 d6 d7 d8 d9, wB K.g bd st r n, wB K.g tr st r n] [(0, .ref (x 0)), (1, .int (nI 2)), (2, .int (nI b)), (3, .int o1), (4, .int o2), (5, .int (nI i)), (6, .int (nI j))] 60 [] := by
          refine z_ind (fun mu ih60 => ?_)
          intro j b o1 o2 c0 c1 c2 c3 c4 c5 c6 c7 d1 d2 d3 d4 d5 d6 d7 d8 d9 d0 hmu60 hj hj2 hs2 hbb2
          refine z_iload C 6 rfl dX4_bestExchange_60 62 rfl ?_
          refine z_aload_n C 0 rfl rfl dX4_bestExchange_62 63 rfl ?_
          refine z_get C zc4 iX4_bestExchange_X4 0 0 rfl rfl 0 (Nat.le_of_ble_eq_true rfl) (List.mem_of_getElem? (i := 2) rfl) (v := .ref (bd 0)) rfl dX4_bestExchange_63 66 rfl ?_
          refine z_get C zc0 iX4_bestExchange_X0 2 0 rfl rfl 2 (Nat.le_of_ble_eq_true rfl) (List.mem_of_getElem? (i := 3) rfl) (v := .int (nI n)) rfl dX4_bestExchange_66 69 rfl ?_
          refine z_icmp_ge C (by omega) (by omega) 104 dX4_bestExchange_69 (by decide) 72 rfl (fun c_50 => ?_) (fun c_50 => ?_)
          · skip
            refine z_iinc C hnL 5 rfl (v := (nI (i + 1))) (nI_1 _) [1, 2, 3, 4, 5, 0, 6] [(0, .ref (x 0)), (1, .int (nI 2)), (2, .int (nI b)), (3, .int o1), (4, .int o2), (5, .int (nI (i + 1))), (6, .int (nI j))] rfl (Nat.le_of_ble_eq_true rfl) dX4_bestExchange_104 107 rfl ?_
            refine z_goto C 42 dX4_bestExchange_107 (by decide) ?_
            refine z_lv [0, 1, 2, 3, 4, 5] [(0, .ref (x 0)), (1, .int (nI 2)), (2, .int (nI b)), (3, .int o1), (4, .int o2), (5, .int (nI (i + 1)))] rfl ?_
            exact ih42 _ (by omega) (i + 1) b o1 o2 c0 c1 c2 c3 c4 c5 c6 c7 d1 d2 d3 d4 d5 d6 d7 d8 d9 d0 rfl (by omega) (by rw [hs2, show j = n by omega]; rfl) (by omega)
          · skip
            refine z_aload_n C 0 rfl rfl dX4_bestExchange_72 73 rfl ?_
            refine z_iload C 5 rfl dX4_bestExchange_73 75 rfl ?_
            refine z_iload C 6 rfl dX4_bestExchange_75 77 rfl ?_
            refine z_callV C [.int (nI i), .int (nI j)] [] (tX4_lateSumIfExchanged K.l K.g x bd tr q p h sb sv c0 c1 c2 c3 c4 c5 c6 c7 d0 d1 d2 d3 d4 d5 d6 d7 d8 d9 st r n i j (by first | omega | assumption) (by first | omega | assumption) (by first | omega | assumption) (by first | omega | assumption) (by first | omega | assumption) (by first | omega | assumption)) gX4_bestExchange_X4_lateSumIfExchanged rfl rfl rfl hdX4_lateSumIfExchanged ⟨Nat.le_of_ble_eq_true rfl, Nat.le_of_ble_eq_true rfl⟩ ⟨Nat.zero_le _, Nat.zero_le _⟩ 0 0 rfl rfl rfl [0, 1, 3] rfl rfl (zlc (N := 4) rfl rfl) [4, 5, 2, 6] rfl (by decide) (fun u : (Nat → Nat) × (Nat → Nat) × (Nat → Nat) × (Nat → Nat) × (Nat → Nat) × (Nat → Nat) × (Nat → Nat) × (Nat → Nat) × (Nat) × (Nat) × (Nat) × (Nat) × (Nat) × (Nat) × (Nat) × (Nat) × (Nat) => match u with | (c0, c1, c2, c3, c4, c5, c6, c7, d1, d2, d3, d4, d5, d6, d7, d8, d9) => [wX K.g x bd tr q p h sb sv, wP K.g q c0 c1 c2 c3 c4 c5 c6 c7 n d1 d2 d3 d4 d5 d6 d7 d8 d9, wB K.g bd st r n, wB K.g tr st r n]) (fun _ => rfl) rfl rfl (Nat.le_of_ble_eq_true rfl) dX4_bestExchange_77 80 rfl (fun u9 hu9 => ?_)
            obtain ⟨c0_51, c1_52, c2_53, c3_54, c4_55, c5_56, c6_57, c7_58, d1_59, d2_60, d3_61, d4_62, d5_63, d6_64, d7_65, d8_66, d9_67⟩ := u9
            have hls := hu9
            have hls : LSm st (fun k => swp (r k) i j) (st 5) n ≤ 1000000 := hls
            show Z K 0 0 [wX K.g x bd tr q p h sb sv, wP K.g q c0_51 c1_52 c2_53 c3_54 c4_55 c5_56 c6_57 c7_58 n d1_59 d2_60 d3_61 d4_62 d5_63 d6_64 d7_65 d8_66 d9_67, wB K.g bd st r n, wB K.g tr st r n] [(0, .ref (x 0)), (1, .int (nI 2)), (2, .int (nI b)), (3, .int o1), (4, .int o2), (5, .int (nI i)), (6, .int (nI j))] 80 [.int (nI (LSm st (fun k => swp (r k) i j) (st 5) n))]
            refine z_nm (fun x_68 ex_68 => ?_)
            refine z_istore C hnL [1, 2, 3, 4, 5, 6, 7, 0] [(0, .ref (x 0)), (1, .int (nI 2)), (2, .int (nI b)), (3, .int o1), (4, .int o2), (5, .int (nI i)), (6, .int (nI j)), (7, .int (nI x_68))] rfl (Nat.le_of_ble_eq_true rfl) dX4_bestExchange_80 82 rfl ?_
            refine z_iload C 7 rfl dX4_bestExchange_82 84 rfl ?_
            refine z_iload_n C 2 rfl rfl dX4_bestExchange_84 85 rfl ?_
            refine z_icmp_ge C (by omega) (by omega) 98 dX4_bestExchange_85 (by decide) 88 rfl (fun c_69 => ?_) (fun c_69 => ?_)
            · skip
              refine z_iinc C hnL 6 rfl (v := (nI (j + 1))) (nI_1 _) [1, 2, 3, 4, 5, 6, 0, 7] [(0, .ref (x 0)), (1, .int (nI 2)), (2, .int (nI b)), (3, .int o1), (4, .int o2), (5, .int (nI i)), (6, .int (nI (j + 1))), (7, .int (nI x_68))] rfl (Nat.le_of_ble_eq_true rfl) dX4_bestExchange_98 101 rfl ?_
              refine z_goto C 60 dX4_bestExchange_101 (by decide) ?_
              refine z_lv [0, 1, 2, 3, 4, 5, 6] [(0, .ref (x 0)), (1, .int (nI 2)), (2, .int (nI b)), (3, .int o1), (4, .int o2), (5, .int (nI i)), (6, .int (nI (j + 1)))] rfl ?_
              exact ih60 _ (by omega) (j + 1) b o1 o2 c0_51 c1_52 c2_53 c3_54 c4_55 c5_56 c6_57 c7_58 d1_59 d2_60 d3_61 d4_62 d5_63 d6_64 d7_65 d8_66 d9_67 n rfl (by omega) (by omega) (by rw [beI_s (by omega), ← hs2]; unfold beS; rw [if_neg (by dsimp only; omega)]) (by omega)
            · skip
              refine z_iload C 7 rfl dX4_bestExchange_88 90 rfl ?_
              refine z_istore_n C hnL [1, 2, 0, 3, 4, 5, 6, 7] [(0, .ref (x 0)), (1, .int (nI 2)), (2, .int (nI x_68)), (3, .int o1), (4, .int o2), (5, .int (nI i)), (6, .int (nI j)), (7, .int (nI x_68))] rfl rfl (Nat.le_of_ble_eq_true rfl) dX4_bestExchange_90 91 rfl ?_
              refine z_iload C 5 rfl dX4_bestExchange_91 93 rfl ?_
              refine z_istore_n C hnL [1, 2, 3, 0, 4, 5, 6, 7] [(0, .ref (x 0)), (1, .int (nI 2)), (2, .int (nI x_68)), (3, .int (nI i)), (4, .int o2), (5, .int (nI i)), (6, .int (nI j)), (7, .int (nI x_68))] rfl rfl (Nat.le_of_ble_eq_true rfl) dX4_bestExchange_93 94 rfl ?_
              refine z_iload C 6 rfl dX4_bestExchange_94 96 rfl ?_
              refine z_istore C hnL [1, 2, 3, 4, 0, 5, 6, 7] [(0, .ref (x 0)), (1, .int (nI 2)), (2, .int (nI x_68)), (3, .int (nI i)), (4, .int (nI j)), (5, .int (nI i)), (6, .int (nI j)), (7, .int (nI x_68))] rfl (Nat.le_of_ble_eq_true rfl) dX4_bestExchange_96 98 rfl ?_
              refine z_iinc C hnL 6 rfl (v := (nI (j + 1))) (nI_1 _) [1, 2, 3, 4, 5, 6, 0, 7] [(0, .ref (x 0)), (1, .int (nI 2)), (2, .int (nI x_68)), (3, .int (nI i)), (4, .int (nI j)), (5, .int (nI i)), (6, .int (nI (j + 1))), (7, .int (nI x_68))] rfl (Nat.le_of_ble_eq_true rfl) dX4_bestExchange_98 101 rfl ?_
              refine z_goto C 60 dX4_bestExchange_101 (by decide) ?_
              refine z_lv [0, 1, 2, 3, 4, 5, 6] [(0, .ref (x 0)), (1, .int (nI 2)), (2, .int (nI x_68)), (3, .int (nI i)), (4, .int (nI j)), (5, .int (nI i)), (6, .int (nI (j + 1)))] rfl ?_
              exact ih60 _ (by omega) (j + 1) x_68 (nI i) (nI j) c0_51 c1_52 c2_53 c3_54 c4_55 c5_56 c6_57 c7_58 d1_59 d2_60 d3_61 d4_62 d5_63 d6_64 d7_65 d8_66 d9_67 n rfl (by omega) (by omega) (by rw [beI_s (by omega), ← hs2]; unfold beS; rw [if_pos (by dsimp only; omega), ex_68]) (by omega)
        exact loop60 _ (i + 1) b o1 o2 c0 c1 c2 c3 c4 c5 c6 c7 d1 d2 d3 d4 d5 d6 d7 d8 d9 d0 rfl (by omega) (Nat.le_refl _) (by rw [Nat.sub_self, hs]; rfl) (by omega)
    exact loop42 _ 0 (LSm st r (st 5) n) (-6) (-6) c0q c1q c2q c3q c4q c5q c6q c7q d1q d2q d3q d4q d5q d6q d7q d8q d9q n rfl (by omega) rfl (by omega)

theorem iX4_bestFirst_X0 : ∀ w ∈ u_ws RX0 TX0 3, w ∈ wsX4_bestFirst := fun w h => (List.mem_cons_of_mem _ (List.mem_append_left _ (List.mem_append_right _ h)))
theorem iX4_bestFirst_X4 : ∀ w ∈ u_ws RX4 TX4 7, w ∈ wsX4_bestFirst := fun w h => (List.mem_cons_of_mem _ (List.mem_append_left _ (List.mem_append_left _ (List.mem_append_right _ h))))
set_option maxHeartbeats 4000000 in
set_option maxRecDepth 100000 in
theorem tX4_bestFirst (l : Launch) (g : zG) (x bd tr q p h : Nat → Nat) (sb : Nat → Nat → Nat) (sv : Nat → Bool) (a0 a1 a2 a3 a4 a5 a6 a7 : Nat → Nat) (s0 s1 s2 s3 s4 s5 s6 s7 s8 s9 : Nat) (st : Nat → Nat) (r : Nat → Nat → Nat) (n : Nat) (ts : Nat → Nat) (tq : Nat → Nat → Nat) (tn : Nat) (hn : n ≤ 12) (hS : okS st) (hJ : okJ r n) (hR : okR st r n (st 5)) : Met l yX4_bestFirst wsX4_bestFirst ({ frames := 6, cells := 0, slots := 0, locals := 137 } : Room) (zPre g [.ref (x 0)] [wX g x bd tr q p h sb sv, wP g q a0 a1 a2 a3 a4 a5 a6 a7 s0 s1 s2 s3 s4 s5 s6 s7 s8 s9, wB g bd st r n, wB g tr ts tq tn]) (zQ g (fun u : (Nat → Nat) × (Nat → Nat) × (Nat → Nat) × (Nat → Nat) × (Nat → Nat) × (Nat → Nat) × (Nat → Nat) × (Nat → Nat) × (Nat) × (Nat) × (Nat) × (Nat) × (Nat) × (Nat) × (Nat) × (Nat) × (Nat) × (Nat) => match u with | (c0, c1, c2, c3, c4, c5, c6, c7, d1, d2, d3, d4, d5, d6, d7, d8, d9, d0) => some (.int ((bfO st r n n).1)) ) (fun u : (Nat → Nat) × (Nat → Nat) × (Nat → Nat) × (Nat → Nat) × (Nat → Nat) × (Nat → Nat) × (Nat → Nat) × (Nat → Nat) × (Nat) × (Nat) × (Nat) × (Nat) × (Nat) × (Nat) × (Nat) × (Nat) × (Nat) × (Nat) => match u with | (c0, c1, c2, c3, c4, c5, c6, c7, d1, d2, d3, d4, d5, d6, d7, d8, d9, d0) => True) (fun u : (Nat → Nat) × (Nat → Nat) × (Nat → Nat) × (Nat → Nat) × (Nat → Nat) × (Nat → Nat) × (Nat → Nat) × (Nat → Nat) × (Nat) × (Nat) × (Nat) × (Nat) × (Nat) × (Nat) × (Nat) × (Nat) × (Nat) × (Nat) => match u with | (c0, c1, c2, c3, c4, c5, c6, c7, d1, d2, d3, d4, d5, d6, d7, d8, d9, d0) => [wX g x bd tr q p h sb sv, wP g q c0 c1 c2 c3 c4 c5 c6 c7 d0 d1 d2 d3 d4 d5 d6 d7 d8 d9, wB g bd st r n, wB g tr st r n]) (zA [wX g x bd tr q p h sb sv, wP g q a0 a1 a2 a3 a4 a5 a6 a7 s0 s1 s2 s3 s4 s5 s6 s7 s8 s9, wB g bd st r n, wB g tr ts tq tn])) 0 0 (zA [wX g x bd tr q p h sb sv, wP g q a0 a1 a2 a3 a4 a5 a6 a7 s0 s1 s2 s3 s4 s5 s6 s7 s8 s9, wB g bd st r n, wB g tr ts tq tn]) := by
  refine z_entry (cc := cX4_bestFirst) (maxL := 5) (ret := (some .int)) (own := RX4) (by decide) rfl rfl (Nat.le_of_ble_eq_true rfl) [(0, .ref (x 0))] rfl ?_
  intro K hKl hKg hnL C hRx
  subst hKl
  subst hKg
  refine z_aload_n C 0 rfl rfl dX4_bestFirst_0 1 rfl ?_
  refine z_get C zc4 iX4_bestFirst_X4 0 0 rfl rfl 1 (Nat.le_of_ble_eq_true rfl) (List.mem_of_getElem? (i := 1) rfl) (v := .ref (tr 0)) rfl dX4_bestFirst_1 4 rfl ?_
  refine z_aload_n C 0 rfl rfl dX4_bestFirst_4 5 rfl ?_
  refine z_get C zc4 iX4_bestFirst_X4 0 0 rfl rfl 0 (Nat.le_of_ble_eq_true rfl) (List.mem_of_getElem? (i := 2) rfl) (v := .ref (bd 0)) rfl dX4_bestFirst_5 8 rfl ?_
  refine z_callV C [.ref (bd 0)] [] (tX0_copyFrom K.l K.g tr ts tq tn bd st r n ) gX4_bestFirst_X0_copyFrom rfl rfl rfl hdX0_copyFrom ⟨Nat.le_of_ble_eq_true rfl, Nat.le_of_ble_eq_true rfl⟩ ⟨Nat.zero_le _, Nat.zero_le _⟩ 3 0 rfl rfl rfl [3, 2] rfl rfl (zlc (N := 4) rfl rfl) [0, 1, 5, 4] rfl (by decide) (fun _ : Unit => [wX K.g x bd tr q p h sb sv, wP K.g q a0 a1 a2 a3 a4 a5 a6 a7 s0 s1 s2 s3 s4 s5 s6 s7 s8 s9, wB K.g bd st r n, wB K.g tr st r n]) (fun _ => rfl) rfl rfl (Nat.le_of_ble_eq_true rfl) dX4_bestFirst_8 11 rfl (fun u9 hu9 => ?_)
  show Z K 0 0 [wX K.g x bd tr q p h sb sv, wP K.g q a0 a1 a2 a3 a4 a5 a6 a7 s0 s1 s2 s3 s4 s5 s6 s7 s8 s9, wB K.g bd st r n, wB K.g tr st r n] [(0, .ref (x 0))] 11 []
  refine z_bipush C (v := (-6)) rfl dX4_bestFirst_11 13 rfl ?_
  refine z_istore_n C hnL [1, 0] [(0, .ref (x 0)), (1, .int (-6))] rfl rfl (Nat.le_of_ble_eq_true rfl) dX4_bestFirst_13 14 rfl ?_
  refine z_iconst C (v := nI 0) rfl dX4_bestFirst_14 15 rfl ?_
  refine z_istore_n C hnL [1, 2, 0] [(0, .ref (x 0)), (1, .int (-6)), (2, .int (nI 0))] rfl rfl (Nat.le_of_ble_eq_true rfl) dX4_bestFirst_15 16 rfl ?_
  refine z_iconst C (v := nI 0) rfl dX4_bestFirst_16 17 rfl ?_
  refine z_istore_n C hnL [1, 2, 3, 0] [(0, .ref (x 0)), (1, .int (-6)), (2, .int (nI 0)), (3, .int (nI 0))] rfl rfl (Nat.le_of_ble_eq_true rfl) dX4_bestFirst_17 18 rfl ?_
  have loop18 : ∀ (mu : Nat) (j : Nat) (o : Int32) (b : Nat) (c0 : Nat → Nat) (c1 : Nat → Nat) (c2 : Nat → Nat) (c3 : Nat → Nat) (c4 : Nat → Nat) (c5 : Nat → Nat) (c6 : Nat → Nat) (c7 : Nat → Nat) (d1 : Nat) (d2 : Nat) (d3 : Nat) (d4 : Nat) (d5 : Nat) (d6 : Nat) (d7 : Nat) (d8 : Nat) (d9 : Nat) (d0 : Nat), mu = n - j → j ≤ n → (o, b) = bfO st r n j → b ≤ 1000000 → Z K 0 0 [wX K.g x bd tr q p h sb sv, wP K.g q c0 c1 c2 c3 c4 c5 c6 c7 d0 d1 d2 d3 d4 d5 d6 d7 d8 d9, wB K.g bd st r n, wB K.g tr st r n] [(0, .ref (x 0)), (1, .int o), (2, .int (nI b)), (3, .int (nI j))] 18 [] := by
    refine z_ind (fun mu ih18 => ?_)
    intro j o b c0 c1 c2 c3 c4 c5 c6 c7 d1 d2 d3 d4 d5 d6 d7 d8 d9 d0 hmu18 hj hs hbb
    refine z_iload_n C 3 rfl rfl dX4_bestFirst_18 19 rfl ?_
    refine z_aload_n C 0 rfl rfl dX4_bestFirst_19 20 rfl ?_
    refine z_get C zc4 iX4_bestFirst_X4 0 0 rfl rfl 0 (Nat.le_of_ble_eq_true rfl) (List.mem_of_getElem? (i := 2) rfl) (v := .ref (bd 0)) rfl dX4_bestFirst_20 23 rfl ?_
    refine z_get C zc0 iX4_bestFirst_X0 2 0 rfl rfl 2 (Nat.le_of_ble_eq_true rfl) (List.mem_of_getElem? (i := 3) rfl) (v := .int (nI n)) rfl dX4_bestFirst_23 26 rfl ?_
    refine z_icmp_ge C (by omega) (by omega) 59 dX4_bestFirst_26 (by decide) 29 rfl (fun c_1 => ?_) (fun c_1 => ?_)
    · skip
      refine z_iload_n C 1 rfl rfl dX4_bestFirst_59 60 rfl ?_
      obtain rfl : j = n := by omega
      exact z_iret C hRx dX4_bestFirst_60 (c0, c1, c2, c3, c4, c5, c6, c7, d1, d2, d3, d4, d5, d6, d7, d8, d9, d0) (by rw [← hs]) trivial rfl
    · skip
      refine z_aload_n C 0 rfl rfl dX4_bestFirst_29 30 rfl ?_
      refine z_iload_n C 3 rfl rfl dX4_bestFirst_30 31 rfl ?_
      refine z_callV C [.int (nI j)] [] (tX4_lateSumIfFirst K.l K.g x bd tr q p h sb sv c0 c1 c2 c3 c4 c5 c6 c7 d0 d1 d2 d3 d4 d5 d6 d7 d8 d9 st r n j (by first | omega | assumption) (by first | omega | assumption) (by first | omega | assumption) (by first | omega | assumption) (by first | omega | assumption)) gX4_bestFirst_X4_lateSumIfFirst rfl rfl rfl hdX4_lateSumIfFirst ⟨Nat.le_of_ble_eq_true rfl, Nat.le_of_ble_eq_true rfl⟩ ⟨Nat.zero_le _, Nat.zero_le _⟩ 0 0 rfl rfl rfl [0, 1, 3] rfl rfl (zlc (N := 4) rfl rfl) [4, 5, 2, 6] rfl (by decide) (fun u : (Nat → Nat) × (Nat → Nat) × (Nat → Nat) × (Nat → Nat) × (Nat → Nat) × (Nat → Nat) × (Nat → Nat) × (Nat → Nat) × (Nat) × (Nat) × (Nat) × (Nat) × (Nat) × (Nat) × (Nat) × (Nat) × (Nat) => match u with | (c0, c1, c2, c3, c4, c5, c6, c7, d1, d2, d3, d4, d5, d6, d7, d8, d9) => [wX K.g x bd tr q p h sb sv, wP K.g q c0 c1 c2 c3 c4 c5 c6 c7 n d1 d2 d3 d4 d5 d6 d7 d8 d9, wB K.g bd st r n, wB K.g tr st r n]) (fun _ => rfl) rfl rfl (Nat.le_of_ble_eq_true rfl) dX4_bestFirst_31 34 rfl (fun u9 hu9 => ?_)
      obtain ⟨c0_2, c1_3, c2_4, c3_5, c4_6, c5_7, c6_8, c7_9, d1_10, d2_11, d3_12, d4_13, d5_14, d6_15, d7_16, d8_17, d9_18⟩ := u9
      have hls := hu9
      have hls : LSm st (fun k => shf (r k) j 0) (st 5) n ≤ 1000000 := hls
      show Z K 0 0 [wX K.g x bd tr q p h sb sv, wP K.g q c0_2 c1_3 c2_4 c3_5 c4_6 c5_7 c6_8 c7_9 n d1_10 d2_11 d3_12 d4_13 d5_14 d6_15 d7_16 d8_17 d9_18, wB K.g bd st r n, wB K.g tr st r n] [(0, .ref (x 0)), (1, .int o), (2, .int (nI b)), (3, .int (nI j))] 34 [.int (nI (LSm st (fun k => shf (r k) j 0) (st 5) n))]
      refine z_nm (fun x_19 ex_19 => ?_)
      refine z_istore C hnL [1, 2, 3, 4, 0] [(0, .ref (x 0)), (1, .int o), (2, .int (nI b)), (3, .int (nI j)), (4, .int (nI x_19))] rfl (Nat.le_of_ble_eq_true rfl) dX4_bestFirst_34 36 rfl ?_
      refine z_iload_n C 1 rfl rfl dX4_bestFirst_36 37 rfl ?_
      refine z_bipush C (v := (-6)) rfl dX4_bestFirst_37 39 rfl ?_
      refine z_icmpI_eq C 48 dX4_bestFirst_39 (by decide) 42 rfl (fun c_20 => ?_) (fun c_20 => ?_)
      · skip
        refine z_iload_n C 3 rfl rfl dX4_bestFirst_48 49 rfl ?_
        refine z_istore_n C hnL [1, 0, 2, 3, 4] [(0, .ref (x 0)), (1, .int (nI j)), (2, .int (nI b)), (3, .int (nI j)), (4, .int (nI x_19))] rfl rfl (Nat.le_of_ble_eq_true rfl) dX4_bestFirst_49 50 rfl ?_
        refine z_iload C 4 rfl dX4_bestFirst_50 52 rfl ?_
        refine z_istore_n C hnL [1, 2, 0, 3, 4] [(0, .ref (x 0)), (1, .int (nI j)), (2, .int (nI x_19)), (3, .int (nI j)), (4, .int (nI x_19))] rfl rfl (Nat.le_of_ble_eq_true rfl) dX4_bestFirst_52 53 rfl ?_
        refine z_iinc C hnL 3 rfl (v := (nI (j + 1))) (nI_1 _) [1, 2, 3, 0, 4] [(0, .ref (x 0)), (1, .int (nI j)), (2, .int (nI x_19)), (3, .int (nI (j + 1))), (4, .int (nI x_19))] rfl (Nat.le_of_ble_eq_true rfl) dX4_bestFirst_53 56 rfl ?_
        refine z_goto C 18 dX4_bestFirst_56 (by decide) ?_
        refine z_lv [0, 1, 2, 3] [(0, .ref (x 0)), (1, .int (nI j)), (2, .int (nI x_19)), (3, .int (nI (j + 1)))] rfl ?_
        exact ih18 _ (by omega) (j + 1) (nI j) x_19 c0_2 c1_3 c2_4 c3_5 c4_6 c5_7 c6_8 c7_9 d1_10 d2_11 d3_12 d4_13 d5_14 d6_15 d7_16 d8_17 d9_18 n rfl (by omega) (by rw [bfO_s, ← hs, if_pos (by dsimp only; first | exact Or.inl (by assumption) | exact Or.inr (by omega)), ex_19]) (by omega)
      · skip
        refine z_iload C 4 rfl dX4_bestFirst_42 44 rfl ?_
        refine z_iload_n C 2 rfl rfl dX4_bestFirst_44 45 rfl ?_
        refine z_icmp_ge C (by omega) (by omega) 53 dX4_bestFirst_45 (by decide) 48 rfl (fun c_21 => ?_) (fun c_21 => ?_)
        · skip
          refine z_iinc C hnL 3 rfl (v := (nI (j + 1))) (nI_1 _) [1, 2, 3, 0, 4] [(0, .ref (x 0)), (1, .int o), (2, .int (nI b)), (3, .int (nI (j + 1))), (4, .int (nI x_19))] rfl (Nat.le_of_ble_eq_true rfl) dX4_bestFirst_53 56 rfl ?_
          refine z_goto C 18 dX4_bestFirst_56 (by decide) ?_
          refine z_lv [0, 1, 2, 3] [(0, .ref (x 0)), (1, .int o), (2, .int (nI b)), (3, .int (nI (j + 1)))] rfl ?_
          exact ih18 _ (by omega) (j + 1) o b c0_2 c1_3 c2_4 c3_5 c4_6 c5_7 c6_8 c7_9 d1_10 d2_11 d3_12 d4_13 d5_14 d6_15 d7_16 d8_17 d9_18 n rfl (by omega) (by rw [bfO_s, ← hs, if_neg (by dsimp only; intro h9; rcases h9 with h9 | h9 <;> first | contradiction | omega)]) (by omega)
        · skip
          refine z_iload_n C 3 rfl rfl dX4_bestFirst_48 49 rfl ?_
          refine z_istore_n C hnL [1, 0, 2, 3, 4] [(0, .ref (x 0)), (1, .int (nI j)), (2, .int (nI b)), (3, .int (nI j)), (4, .int (nI x_19))] rfl rfl (Nat.le_of_ble_eq_true rfl) dX4_bestFirst_49 50 rfl ?_
          refine z_iload C 4 rfl dX4_bestFirst_50 52 rfl ?_
          refine z_istore_n C hnL [1, 2, 0, 3, 4] [(0, .ref (x 0)), (1, .int (nI j)), (2, .int (nI x_19)), (3, .int (nI j)), (4, .int (nI x_19))] rfl rfl (Nat.le_of_ble_eq_true rfl) dX4_bestFirst_52 53 rfl ?_
          refine z_iinc C hnL 3 rfl (v := (nI (j + 1))) (nI_1 _) [1, 2, 3, 0, 4] [(0, .ref (x 0)), (1, .int (nI j)), (2, .int (nI x_19)), (3, .int (nI (j + 1))), (4, .int (nI x_19))] rfl (Nat.le_of_ble_eq_true rfl) dX4_bestFirst_53 56 rfl ?_
          refine z_goto C 18 dX4_bestFirst_56 (by decide) ?_
          refine z_lv [0, 1, 2, 3] [(0, .ref (x 0)), (1, .int (nI j)), (2, .int (nI x_19)), (3, .int (nI (j + 1)))] rfl ?_
          exact ih18 _ (by omega) (j + 1) (nI j) x_19 c0_2 c1_3 c2_4 c3_5 c4_6 c5_7 c6_8 c7_9 d1_10 d2_11 d3_12 d4_13 d5_14 d6_15 d7_16 d8_17 d9_18 n rfl (by omega) (by rw [bfO_s, ← hs, if_pos (by dsimp only; first | exact Or.inl (by assumption) | exact Or.inr (by omega)), ex_19]) (by omega)
  exact loop18 _ 0 (-6) 0 a0 a1 a2 a3 a4 a5 a6 a7 s1 s2 s3 s4 s5 s6 s7 s8 s9 s0 rfl (by omega) rfl (by omega)

theorem iX4_leastRacks_X0 : ∀ w ∈ u_ws RX0 TX0 3, w ∈ wsX4_leastRacks := fun w h => (List.mem_cons_of_mem _ (List.mem_append_left _ (List.mem_append_right _ h)))
theorem iX4_leastRacks_X3 : ∀ w ∈ u_ws RX3 TX3 18, w ∈ wsX4_leastRacks := fun w h => (List.mem_cons_of_mem _ (List.mem_append_right _ h))
theorem iX4_leastRacks_X4 : ∀ w ∈ u_ws RX4 TX4 7, w ∈ wsX4_leastRacks := fun w h => (List.mem_cons_of_mem _ (List.mem_append_left _ (List.mem_append_left _ (List.mem_append_right _ h))))
set_option maxHeartbeats 4000000 in
set_option maxRecDepth 100000 in
theorem tX4_leastRacks (l : Launch) (g : zG) (x bd tr q p h : Nat → Nat) (sb : Nat → Nat → Nat) (sv : Nat → Bool) (a0 a1 a2 a3 a4 a5 a6 a7 : Nat → Nat) (s0 s1 s2 s3 s4 s5 s6 s7 s8 s9 : Nat) (st : Nat → Nat) (r : Nat → Nat → Nat) (n : Nat) (hn : n ≤ 12) (hS : okS st) (hJ : okJ r n) : Met l yX4_leastRacks wsX4_leastRacks ({ frames := 4, cells := 0, slots := 0, locals := 94 } : Room) (zPreE g eSet [.ref (x 0)] [wX g x bd tr q p h sb sv, wP g q a0 a1 a2 a3 a4 a5 a6 a7 s0 s1 s2 s3 s4 s5 s6 s7 s8 s9, wB g bd st r n]) (zQ g (fun u : (Nat → Nat) × (Nat → Nat) × (Nat → Nat) × (Nat → Nat) × (Nat → Nat) × (Nat → Nat) × (Nat → Nat) × (Nat → Nat) × (Nat) × (Nat) × (Nat) × (Nat) × (Nat) × (Nat) × (Nat) × (Nat) × (Nat) × (Nat) => match u with | (c0, c1, c2, c3, c4, c5, c6, c7, d1, d2, d3, d4, d5, d6, d7, d8, d9, d0) => some (.int (lrF st r n 4 17)) ) (fun u : (Nat → Nat) × (Nat → Nat) × (Nat → Nat) × (Nat → Nat) × (Nat → Nat) × (Nat → Nat) × (Nat → Nat) × (Nat → Nat) × (Nat) × (Nat) × (Nat) × (Nat) × (Nat) × (Nat) × (Nat) × (Nat) × (Nat) × (Nat) => match u with | (c0, c1, c2, c3, c4, c5, c6, c7, d1, d2, d3, d4, d5, d6, d7, d8, d9, d0) => True) (fun u : (Nat → Nat) × (Nat → Nat) × (Nat → Nat) × (Nat → Nat) × (Nat → Nat) × (Nat → Nat) × (Nat → Nat) × (Nat → Nat) × (Nat) × (Nat) × (Nat) × (Nat) × (Nat) × (Nat) × (Nat) × (Nat) × (Nat) × (Nat) => match u with | (c0, c1, c2, c3, c4, c5, c6, c7, d1, d2, d3, d4, d5, d6, d7, d8, d9, d0) => [wX g x bd tr q p h sb sv, wP g q c0 c1 c2 c3 c4 c5 c6 c7 d0 d1 d2 d3 d4 d5 d6 d7 d8 d9, wB g bd st r n]) (zA [wX g x bd tr q p h sb sv, wP g q a0 a1 a2 a3 a4 a5 a6 a7 s0 s1 s2 s3 s4 s5 s6 s7 s8 s9, wB g bd st r n])) 0 0 (zA [wX g x bd tr q p h sb sv, wP g q a0 a1 a2 a3 a4 a5 a6 a7 s0 s1 s2 s3 s4 s5 s6 s7 s8 s9, wB g bd st r n]) := by
  refine z_entryE (cc := cX4_leastRacks) (maxL := 4) (ret := (some .int)) (own := RX4) (by decide) rfl rfl (Nat.le_of_ble_eq_true rfl) [(0, .ref (x 0))] rfl ?_
  intro K hKl hKg hnL C hRx hE
  subst hKl
  subst hKg
  obtain ⟨sa1, sa2, hs1, hs2⟩ := hE
  have hmb := mND_le hS hJ
  refine z_aload_n C 0 rfl rfl dX4_leastRacks_0 1 rfl ?_
  refine z_get C zc4 iX4_leastRacks_X4 0 0 rfl rfl 0 (Nat.le_of_ble_eq_true rfl) (List.mem_of_getElem? (i := 1) rfl) (v := .ref (bd 0)) rfl dX4_leastRacks_1 4 rfl ?_
  refine z_aload_n C 0 rfl rfl dX4_leastRacks_4 5 rfl ?_
  refine z_get C zc4 iX4_leastRacks_X4 0 0 rfl rfl 0 (Nat.le_of_ble_eq_true rfl) (List.mem_of_getElem? (i := 1) rfl) (v := .ref (bd 0)) rfl dX4_leastRacks_5 8 rfl ?_
  refine z_get C zc0 iX4_leastRacks_X0 2 0 rfl rfl 0 (Nat.le_of_ble_eq_true rfl) (List.mem_of_getElem? (i := 2) rfl) (v := .ref (bd 1)) rfl dX4_leastRacks_8 11 rfl ?_
  refine z_bipush C (v := nI 6) rfl dX4_leastRacks_11 13 rfl ?_
  refine z_iald C (f := st) 2 1 rfl rfl (by omega) (by decide) dX4_leastRacks_13 14 rfl ?_
  refine z_callV C [.int (nI (st 6))] [] (tX0_mostRacksNeeded K.l K.g bd st r n (st 6) hS.2.2.2.2.2.2.2.2.1 hS.2.2.2.2.2.2.2.2.2 hn (fun y hy => (hJ y hy).2.2.2.1)) gX4_leastRacks_X0_mostRacksNeeded rfl rfl rfl hdX0_mostRacksNeeded ⟨Nat.le_of_ble_eq_true rfl, Nat.le_of_ble_eq_true rfl⟩ ⟨Nat.zero_le _, Nat.zero_le _⟩ 2 0 rfl rfl rfl [2] rfl rfl (zlc (N := 3) rfl rfl) [0, 1, 3] rfl (by decide) (fun _ : Unit => [wX K.g x bd tr q p h sb sv, wP K.g q a0 a1 a2 a3 a4 a5 a6 a7 s0 s1 s2 s3 s4 s5 s6 s7 s8 s9, wB K.g bd st r n]) (fun _ => rfl) rfl rfl (Nat.le_of_ble_eq_true rfl) dX4_leastRacks_14 17 rfl (fun u9 hu9 => ?_)
  show Z K 0 0 [wX K.g x bd tr q p h sb sv, wP K.g q a0 a1 a2 a3 a4 a5 a6 a7 s0 s1 s2 s3 s4 s5 s6 s7 s8 s9, wB K.g bd st r n] [(0, .ref (x 0))] 17 [.int (nI (mx (fun y => nd (st 6) (r 2 y)) n))]
  refine z_top (show nI (mx (fun y => nd (st 6) (r 2 y)) n) = nI (mND st r n) from rfl) ?_
  refine z_istore_n C hnL [1, 0] [(0, .ref (x 0)), (1, .int (nI (mND st r n)))] rfl rfl (Nat.le_of_ble_eq_true rfl) dX4_leastRacks_17 18 rfl ?_
  refine z_iload_n C 1 rfl rfl dX4_leastRacks_18 19 rfl ?_
  refine z_gets C hs1.1 (List.mem_of_getElem? (i := 3) rfl) dX4_leastRacks_19 22 rfl ?_
  refine z_iconst C (v := nI 5) rfl dX4_leastRacks_22 23 rfl ?_
  refine z_sld C (f := leS) hs1.2.1 hs1.2.2.1 hs1.2.2.2 (by omega) (by decide) dX4_leastRacks_23 24 rfl ?_
  refine z_top (show nI (leS 5) = nI 4 from rfl) ?_
  refine z_max C (List.mem_of_getElem? (i := 4) rfl) (List.mem_of_getElem? (i := 5) rfl) (List.mem_of_getElem? (i := 6) rfl) (List.mem_of_getElem? (i := 7) rfl) ⟨Nat.le_of_ble_eq_true rfl, Nat.le_of_ble_eq_true rfl⟩ ⟨Nat.zero_le _, Nat.zero_le _⟩ (by omega) (by omega) dX4_leastRacks_24 27 rfl ?_
  refine z_istore_n C hnL [1, 2, 0] [(0, .ref (x 0)), (1, .int (nI (mND st r n))), (2, .int (nI (max (mND st r n) 4)))] rfl rfl (Nat.le_of_ble_eq_true rfl) dX4_leastRacks_27 28 rfl ?_
  refine z_iload_n C 2 rfl rfl dX4_leastRacks_28 29 rfl ?_
  refine z_istore_n C hnL [1, 2, 3, 0] [(0, .ref (x 0)), (1, .int (nI (mND st r n))), (2, .int (nI (max (mND st r n) 4))), (3, .int (nI (max (mND st r n) 4)))] rfl rfl (Nat.le_of_ble_eq_true rfl) dX4_leastRacks_29 30 rfl ?_
  have loop30 : ∀ (mu : Nat) (y : Nat) (c0 : Nat → Nat) (c1 : Nat → Nat) (c2 : Nat → Nat) (c3 : Nat → Nat) (c4 : Nat → Nat) (c5 : Nat → Nat) (c6 : Nat → Nat) (c7 : Nat → Nat) (d1 : Nat) (d2 : Nat) (d3 : Nat) (d4 : Nat) (d5 : Nat) (d6 : Nat) (d7 : Nat) (d8 : Nat) (d9 : Nat) (d0 : Nat), mu = 21 - y → max (mND st r n) 4 ≤ y → y ≤ 21 → lrF st r n 4 17 = lrF st r n y (21 - y) → Z K 0 0 [wX K.g x bd tr q p h sb sv, wP K.g q c0 c1 c2 c3 c4 c5 c6 c7 d0 d1 d2 d3 d4 d5 d6 d7 d8 d9, wB K.g bd st r n] [(0, .ref (x 0)), (1, .int (nI (mND st r n))), (2, .int (nI (max (mND st r n) 4))), (3, .int (nI y))] 30 [] := by
    refine z_ind (fun mu ih30 => ?_)
    intro y c0 c1 c2 c3 c4 c5 c6 c7 d1 d2 d3 d4 d5 d6 d7 d8 d9 d0 hmu30 hy hy2 hs
    refine z_iload_n C 3 rfl rfl dX4_leastRacks_30 31 rfl ?_
    refine z_gets C hs2.1 (List.mem_of_getElem? (i := 8) rfl) dX4_leastRacks_31 34 rfl ?_
    refine z_iconst C (v := nI 5) rfl dX4_leastRacks_34 35 rfl ?_
    refine z_sld C (f := moS) hs2.2.1 hs2.2.2.1 hs2.2.2.2 (by omega) (by decide) dX4_leastRacks_35 36 rfl ?_
    refine z_top (show nI (moS 5) = nI 20 from rfl) ?_
    refine z_icmp_gt C (by omega) (by omega) 69 dX4_leastRacks_36 (by decide) 39 rfl (fun c_1 => ?_) (fun c_1 => ?_)
    · skip
      refine z_bipush C (v := (-6)) rfl dX4_leastRacks_69 71 rfl ?_
      exact z_iret C hRx dX4_leastRacks_71 (c0, c1, c2, c3, c4, c5, c6, c7, d1, d2, d3, d4, d5, d6, d7, d8, d9, d0) (by rw [hs, show 21 - y = 0 by omega]; rfl) trivial rfl
    · skip
      refine z_aload_n C 0 rfl rfl dX4_leastRacks_39 40 rfl ?_
      refine z_get C zc4 iX4_leastRacks_X4 0 0 rfl rfl 2 (Nat.le_of_ble_eq_true rfl) (List.mem_of_getElem? (i := 9) rfl) (v := .ref (q 0)) rfl dX4_leastRacks_40 43 rfl ?_
      refine z_aload_n C 0 rfl rfl dX4_leastRacks_43 44 rfl ?_
      refine z_get C zc4 iX4_leastRacks_X4 0 0 rfl rfl 0 (Nat.le_of_ble_eq_true rfl) (List.mem_of_getElem? (i := 1) rfl) (v := .ref (bd 0)) rfl dX4_leastRacks_44 47 rfl ?_
      refine z_iload_n C 3 rfl rfl dX4_leastRacks_47 48 rfl ?_
      refine z_callV C [.ref (bd 0), .int (nI y)] [] (tX3_print K.l K.g q c0 c1 c2 c3 c4 c5 c6 c7 d0 d1 d2 d3 d4 d5 d6 d7 d8 d9 bd st r n y hS hJ hn (fun j hj => Nat.le_trans (mND_ge hj) (by omega)) (by omega)) gX4_leastRacks_X3_print rfl rfl rfl hdX3_print ⟨Nat.le_of_ble_eq_true rfl, Nat.le_of_ble_eq_true rfl⟩ ⟨Nat.zero_le _, Nat.zero_le _⟩ 1 0 rfl rfl rfl [1, 2] rfl rfl (zlc (N := 3) rfl rfl) [0, 3, 4] rfl (by decide) (fun u : (Nat → Nat) × (Nat → Nat) × (Nat → Nat) × (Nat → Nat) × (Nat → Nat) × (Nat → Nat) × (Nat → Nat) × (Nat → Nat) × (Nat) × (Nat) × (Nat) × (Nat) × (Nat) × (Nat) × (Nat) × (Nat) × (Nat) => match u with | (c0, c1, c2, c3, c4, c5, c6, c7, d1, d2, d3, d4, d5, d6, d7, d8, d9) => [wX K.g x bd tr q p h sb sv, wP K.g q c0 c1 c2 c3 c4 c5 c6 c7 n d1 d2 d3 d4 d5 d6 d7 d8 d9, wB K.g bd st r n]) (fun _ => rfl) rfl rfl (Nat.le_of_ble_eq_true rfl) dX4_leastRacks_48 51 rfl (fun u9 hu9 => ?_)
      obtain ⟨c0q, c1q, c2q, c3q, c4q, c5q, c6q, c7q, d1q, d2q, d3q, d4q, d5q, d6q, d7q, d8q, d9q⟩ := u9
      have hp := hu9
      have hp : PI st r y n c0q c1q c2q c3q c4q c5q c6q c7q d1q d2q d3q d4q d5q d6q d7q d8q d9q := hp
      show Z K 0 0 [wX K.g x bd tr q p h sb sv, wP K.g q c0q c1q c2q c3q c4q c5q c6q c7q n d1q d2q d3q d4q d5q d6q d7q d8q d9q, wB K.g bd st r n] [(0, .ref (x 0)), (1, .int (nI (mND st r n))), (2, .int (nI (max (mND st r n) 4))), (3, .int (nI y))] 51 []
      have hq := PI_all hp
      have h6b := PI_s6 hS hJ hn hp
      refine z_aload_n C 0 rfl rfl dX4_leastRacks_51 52 rfl ?_
      refine z_get C zc4 iX4_leastRacks_X4 0 0 rfl rfl 2 (Nat.le_of_ble_eq_true rfl) (List.mem_of_getElem? (i := 9) rfl) (v := .ref (q 0)) rfl dX4_leastRacks_52 55 rfl ?_
      refine z_get C zc3 iX4_leastRacks_X3 1 0 rfl rfl 14 (Nat.le_of_ble_eq_true rfl) (List.mem_of_getElem? (i := 10) rfl) (v := .int (nI d6q)) rfl dX4_leastRacks_55 58 rfl ?_
      refine z_if_ne C (by omega) 63 dX4_leastRacks_58 (by decide) 61 rfl (fun c_2 => ?_) (fun c_2 => ?_)
      · skip
        refine z_iinc C hnL 3 rfl (v := (nI (y + 1))) (nI_1 _) [1, 2, 3, 0] [(0, .ref (x 0)), (1, .int (nI (mND st r n))), (2, .int (nI (max (mND st r n) 4))), (3, .int (nI (y + 1)))] rfl (Nat.le_of_ble_eq_true rfl) dX4_leastRacks_63 66 rfl ?_
        refine z_goto C 30 dX4_leastRacks_66 (by decide) ?_
        exact ih30 _ (by omega) (y + 1) c0q c1q c2q c3q c4q c5q c6q c7q d1q d2q d3q d4q d5q d6q d7q d8q d9q n rfl (by omega) (by omega) (by rw [hs]; exact lrF_n (by omega) (fun z => by have h6 := hq.2.2.2.2.2.2.2.1; omega))
      · skip
        refine z_iload_n C 3 rfl rfl dX4_leastRacks_61 62 rfl ?_
        exact z_iret C hRx dX4_leastRacks_62 (c0q, c1q, c2q, c3q, c4q, c5q, c6q, c7q, d1q, d2q, d3q, d4q, d5q, d6q, d7q, d8q, d9q, n) (by rw [hs, lrF_y (by omega) (by omega) (by have h6 := hq.2.2.2.2.2.2.2.1; omega)]) trivial rfl
  exact loop30 _ (max (mND st r n) 4) a0 a1 a2 a3 a4 a5 a6 a7 s1 s2 s3 s4 s5 s6 s7 s8 s9 s0 rfl (Nat.le_refl _) (by omega) (lrF_skip hmb _ (by omega) (by omega) (by omega))

theorem iX4_read_X0 : ∀ w ∈ u_ws RX0 TX0 3, w ∈ wsX4_read := fun w h => (List.mem_cons_of_mem _ (List.mem_append_left _ (List.mem_append_right _ h)))
theorem iX4_read_X2 : ∀ w ∈ u_ws RX2 TX2 8, w ∈ wsX4_read := fun w h => (List.mem_cons_of_mem _ (List.mem_append_left _ (List.mem_append_left _ (List.mem_append_right _ h))))
theorem iX4_read_X4 : ∀ w ∈ u_ws RX4 TX4 7, w ∈ wsX4_read := fun w h => (List.mem_cons_of_mem _ (List.mem_append_left _ (List.mem_append_left _ (List.mem_append_left _ (List.mem_append_right _ h)))))
set_option maxHeartbeats 4000000 in
set_option maxRecDepth 100000 in
theorem tX4_read (l : Launch) (g : zG) (x bd tr q p h : Nat → Nat) (sb : Nat → Nat → Nat) (sv : Nat → Bool) (st : Nat → Nat) (r : Nat → Nat → Nat) (n : Nat) (ho hs : Nat → Nat → Nat) (hr : Nat → Nat → Nat → Nat) (hm : Nat → Nat) (kp nx : Nat) (fb tx : Nat → Nat) (len ex : Nat) (pl sh hu du : Int32) (fs : Nat → Nat) (fr : Nat → Nat → Nat) (fn : Nat) (hn : n ≤ 12) (hS : okS st) (hk : kp ≤ 6) (hx : nx < 6) (hl : len ≤ 60) (ht : ∀ i, i < len → tx i ≤ 126) : Met l yX4_read wsX4_read ({ frames := 6, cells := 0, slots := 0, locals := 131 } : Room) (zPre g [.ref (x 0)] [wX g x bd tr q p h sb sv, wB g bd st r n, wPd g p fb tx len ex pl sh hu du, wB g fb fs fr fn, wH g h ho kp nx, wB g (ho 0) (hs 0) (hr 0) (hm 0), wB g (ho 1) (hs 1) (hr 1) (hm 1), wB g (ho 2) (hs 2) (hr 2) (hm 2), wB g (ho 3) (hs 3) (hr 3) (hm 3), wB g (ho 4) (hs 4) (hr 4) (hm 4), wB g (ho 5) (hs 5) (hr 5) (hm 5)]) (zQ g (fun u : (Int32) × (Int32) × (Nat) × (Nat) × (Int32) × (Int32) × (Int32) × (Int32) × (Nat) × (Nat → Nat → Nat) × (Nat → Nat → Nat) × (Nat) × (Nat) × (Nat) × (Nat → Nat → Nat) × (Nat → Nat → Nat → Nat) × (Nat → Nat) => match u with | (v, w, len3, ex2, P2, S2, H2, D2, n2, r2, r3, n3, kp3, nx3, hs3, hr3, hm3) => some (.int v) ) (fun u : (Int32) × (Int32) × (Nat) × (Nat) × (Int32) × (Int32) × (Int32) × (Int32) × (Nat) × (Nat → Nat → Nat) × (Nat → Nat → Nat) × (Nat) × (Nat) × (Nat) × (Nat → Nat → Nat) × (Nat → Nat → Nat → Nat) × (Nat → Nat) => match u with | (v, w, len3, ex2, P2, S2, H2, D2, n2, r2, r3, n3, kp3, nx3, hs3, hr3, hm3) => (PAR tx fr len w n2 r2) ∧ ((w ≠ (-6) ∧ v = (-3) ∧ len3 = len ∧ r3 = r ∧ n3 = n ∧ kp3 = kp ∧ nx3 = nx ∧ hs3 = hs ∧ hr3 = hr ∧ hm3 = hm) ∨ (w = (-6) ∧ st 5 < mND st r2 n2 ∧ v = (-5) ∧ len3 = len ∧ r3 = r ∧ n3 = n ∧ kp3 = kp ∧ nx3 = nx ∧ hs3 = hs ∧ hr3 = hr ∧ hm3 = hm) ∨ (w = (-6) ∧ mND st r2 n2 ≤ st 5 ∧ 12 < n + n2 ∧ v = (-4) ∧ len3 = len ∧ r3 = r ∧ n3 = n ∧ kp3 = kp ∧ nx3 = nx ∧ hs3 = hs ∧ hr3 = hr ∧ hm3 = hm) ∨ (w = (-6) ∧ mND st r2 n2 ≤ st 5 ∧ n + n2 ≤ 12 ∧ v = nI (n + n2) ∧ len3 = 0 ∧ r3 = apA r n r2 n2 ∧ n3 = n + n2 ∧ kp3 = min (kp + 1) 6 ∧ nx3 = (if nx = 5 then 0 else nx + 1) ∧ hs3 = un hs nx st ∧ hr3 = un hr nx r ∧ hm3 = un hm nx n))) (fun u : (Int32) × (Int32) × (Nat) × (Nat) × (Int32) × (Int32) × (Int32) × (Int32) × (Nat) × (Nat → Nat → Nat) × (Nat → Nat → Nat) × (Nat) × (Nat) × (Nat) × (Nat → Nat → Nat) × (Nat → Nat → Nat → Nat) × (Nat → Nat) => match u with | (v, w, len3, ex2, P2, S2, H2, D2, n2, r2, r3, n3, kp3, nx3, hs3, hr3, hm3) => [wX g x bd tr q p h sb sv, wB g bd st r3 n3, wPd g p fb tx len3 ex2 P2 S2 H2 D2, wB g fb fs r2 n2, wH g h ho kp3 nx3, wB g (ho 0) (hs3 0) (hr3 0) (hm3 0), wB g (ho 1) (hs3 1) (hr3 1) (hm3 1), wB g (ho 2) (hs3 2) (hr3 2) (hm3 2), wB g (ho 3) (hs3 3) (hr3 3) (hm3 3), wB g (ho 4) (hs3 4) (hr3 4) (hm3 4), wB g (ho 5) (hs3 5) (hr3 5) (hm3 5)]) (zA [wX g x bd tr q p h sb sv, wB g bd st r n, wPd g p fb tx len ex pl sh hu du, wB g fb fs fr fn, wH g h ho kp nx, wB g (ho 0) (hs 0) (hr 0) (hm 0), wB g (ho 1) (hs 1) (hr 1) (hm 1), wB g (ho 2) (hs 2) (hr 2) (hm 2), wB g (ho 3) (hs 3) (hr 3) (hm 3), wB g (ho 4) (hs 4) (hr 4) (hm 4), wB g (ho 5) (hs 5) (hr 5) (hm 5)])) 0 0 (zA [wX g x bd tr q p h sb sv, wB g bd st r n, wPd g p fb tx len ex pl sh hu du, wB g fb fs fr fn, wH g h ho kp nx, wB g (ho 0) (hs 0) (hr 0) (hm 0), wB g (ho 1) (hs 1) (hr 1) (hm 1), wB g (ho 2) (hs 2) (hr 2) (hm 2), wB g (ho 3) (hs 3) (hr 3) (hm 3), wB g (ho 4) (hs 4) (hr 4) (hm 4), wB g (ho 5) (hs 5) (hr 5) (hm 5)]) := by
  refine z_entry (cc := cX4_read) (maxL := 1) (ret := (some .int)) (own := RX4) (by decide) rfl rfl (Nat.le_of_ble_eq_true rfl) [(0, .ref (x 0))] rfl ?_
  intro K hKl hKg hnL C hRx
  subst hKl
  subst hKg
  refine z_aload_n C 0 rfl rfl dX4_read_0 1 rfl ?_
  refine z_get C zc4 iX4_read_X4 0 0 rfl rfl 3 (Nat.le_of_ble_eq_true rfl) (List.mem_of_getElem? (i := 1) rfl) (v := .ref (p 0)) rfl dX4_read_1 4 rfl ?_
  refine z_callV C [] [] (tX2_parse K.l K.g p fb tx len ex pl sh hu du fs fr fn (by first | omega | assumption) (by first | omega | assumption)) gX4_read_X2_parse rfl rfl rfl hdX2_parse ⟨Nat.le_of_ble_eq_true rfl, Nat.le_of_ble_eq_true rfl⟩ ⟨Nat.zero_le _, Nat.zero_le _⟩ 2 0 rfl rfl rfl [2, 3] rfl rfl (zlc (N := 11) rfl rfl) [0, 1, 11, 12, 4, 5, 6, 7, 8, 9, 10] rfl (by decide) (fun u : (Int32) × (Nat) × (Int32) × (Int32) × (Int32) × (Int32) × (Nat) × (Nat → Nat → Nat) => match u with | (v, ex2, P2, S2, H2, D2, n2, r2) => [wX K.g x bd tr q p h sb sv, wB K.g bd st r n, wPd K.g p fb tx len ex2 P2 S2 H2 D2, wB K.g fb fs r2 n2, wH K.g h ho kp nx, wB K.g (ho 0) (hs 0) (hr 0) (hm 0), wB K.g (ho 1) (hs 1) (hr 1) (hm 1), wB K.g (ho 2) (hs 2) (hr 2) (hm 2), wB K.g (ho 3) (hs 3) (hr 3) (hm 3), wB K.g (ho 4) (hs 4) (hr 4) (hm 4), wB K.g (ho 5) (hs 5) (hr 5) (hm 5)]) (fun _ => rfl) rfl rfl (Nat.le_of_ble_eq_true rfl) dX4_read_4 7 rfl (fun u9 hu9 => ?_)
  obtain ⟨w, ex2, P2, S2, H2, D2, n2, r2⟩ := u9
  have hp := hu9
  have hp : PAR tx fr len w n2 r2 := hp
  show Z K 0 0 [wX K.g x bd tr q p h sb sv, wB K.g bd st r n, wPd K.g p fb tx len ex2 P2 S2 H2 D2, wB K.g fb fs r2 n2, wH K.g h ho kp nx, wB K.g (ho 0) (hs 0) (hr 0) (hm 0), wB K.g (ho 1) (hs 1) (hr 1) (hm 1), wB K.g (ho 2) (hs 2) (hr 2) (hm 2), wB K.g (ho 3) (hs 3) (hr 3) (hm 3), wB K.g (ho 4) (hs 4) (hr 4) (hm 4), wB K.g (ho 5) (hs 5) (hr 5) (hm 5)] [(0, .ref (x 0))] 7 [.int w]
  refine z_bipush C (v := (-6)) rfl dX4_read_7 9 rfl ?_
  refine z_icmpI_eq C 15 dX4_read_9 (by decide) 12 rfl (fun c_1 => ?_) (fun c_1 => ?_)
  · skip
    have hok := PAR_ok hp hl c_1
    have hmb := mND_le hS hok.2
    have h5b := hS.2.2.2.2.2.2.2.1
    have hn28 := hok.1
    refine z_aload_n C 0 rfl rfl dX4_read_15 16 rfl ?_
    refine z_get C zc4 iX4_read_X4 0 0 rfl rfl 3 (Nat.le_of_ble_eq_true rfl) (List.mem_of_getElem? (i := 1) rfl) (v := .ref (p 0)) rfl dX4_read_16 19 rfl ?_
    refine z_get C zc2 iX4_read_X2 2 0 rfl rfl 0 (Nat.le_of_ble_eq_true rfl) (List.mem_of_getElem? (i := 2) rfl) (v := .ref (fb 0)) rfl dX4_read_19 22 rfl ?_
    refine z_aload_n C 0 rfl rfl dX4_read_22 23 rfl ?_
    refine z_get C zc4 iX4_read_X4 0 0 rfl rfl 0 (Nat.le_of_ble_eq_true rfl) (List.mem_of_getElem? (i := 3) rfl) (v := .ref (bd 0)) rfl dX4_read_23 26 rfl ?_
    refine z_get C zc0 iX4_read_X0 1 0 rfl rfl 0 (Nat.le_of_ble_eq_true rfl) (List.mem_of_getElem? (i := 4) rfl) (v := .ref (bd 1)) rfl dX4_read_26 29 rfl ?_
    refine z_bipush C (v := nI 6) rfl dX4_read_29 31 rfl ?_
    refine z_iald C (f := st) 1 1 rfl rfl (by omega) (by decide) dX4_read_31 32 rfl ?_
    refine z_callV C [.int (nI (st 6))] [] (tX0_mostRacksNeeded K.l K.g fb fs r2 n2 (st 6) hS.2.2.2.2.2.2.2.2.1 hS.2.2.2.2.2.2.2.2.2 (by omega) (fun y hy => (hok.2 y hy).2.2.2.1)) gX4_read_X0_mostRacksNeeded rfl rfl rfl hdX0_mostRacksNeeded ⟨Nat.le_of_ble_eq_true rfl, Nat.le_of_ble_eq_true rfl⟩ ⟨Nat.zero_le _, Nat.zero_le _⟩ 3 0 rfl rfl rfl [3] rfl rfl (zlc (N := 11) rfl rfl) [0, 1, 2, 11, 4, 5, 6, 7, 8, 9, 10] rfl (by decide) (fun _ : Unit => [wX K.g x bd tr q p h sb sv, wB K.g bd st r n, wPd K.g p fb tx len ex2 P2 S2 H2 D2, wB K.g fb fs r2 n2, wH K.g h ho kp nx, wB K.g (ho 0) (hs 0) (hr 0) (hm 0), wB K.g (ho 1) (hs 1) (hr 1) (hm 1), wB K.g (ho 2) (hs 2) (hr 2) (hm 2), wB K.g (ho 3) (hs 3) (hr 3) (hm 3), wB K.g (ho 4) (hs 4) (hr 4) (hm 4), wB K.g (ho 5) (hs 5) (hr 5) (hm 5)]) (fun _ => rfl) rfl rfl (Nat.le_of_ble_eq_true rfl) dX4_read_32 35 rfl (fun u9 hu9 => ?_)
    show Z K 0 0 [wX K.g x bd tr q p h sb sv, wB K.g bd st r n, wPd K.g p fb tx len ex2 P2 S2 H2 D2, wB K.g fb fs r2 n2, wH K.g h ho kp nx, wB K.g (ho 0) (hs 0) (hr 0) (hm 0), wB K.g (ho 1) (hs 1) (hr 1) (hm 1), wB K.g (ho 2) (hs 2) (hr 2) (hm 2), wB K.g (ho 3) (hs 3) (hr 3) (hm 3), wB K.g (ho 4) (hs 4) (hr 4) (hm 4), wB K.g (ho 5) (hs 5) (hr 5) (hm 5)] [(0, .ref (x 0))] 35 [.int (nI (mx (fun y => nd (st 6) (r2 2 y)) n2))]
    refine z_top (show nI (mx (fun y => nd (st 6) (r2 2 y)) n2) = nI (mND st r2 n2) from rfl) ?_
    refine z_aload_n C 0 rfl rfl dX4_read_35 36 rfl ?_
    refine z_get C zc4 iX4_read_X4 0 0 rfl rfl 0 (Nat.le_of_ble_eq_true rfl) (List.mem_of_getElem? (i := 3) rfl) (v := .ref (bd 0)) rfl dX4_read_36 39 rfl ?_
    refine z_get C zc0 iX4_read_X0 1 0 rfl rfl 0 (Nat.le_of_ble_eq_true rfl) (List.mem_of_getElem? (i := 4) rfl) (v := .ref (bd 1)) rfl dX4_read_39 42 rfl ?_
    refine z_iconst C (v := nI 5) rfl dX4_read_42 43 rfl ?_
    refine z_iald C (f := st) 1 1 rfl rfl (by omega) (by decide) dX4_read_43 44 rfl ?_
    refine z_icmp_le C (by omega) (by omega) 50 dX4_read_44 (by decide) 47 rfl (fun c_2 => ?_) (fun c_2 => ?_)
    · skip
      refine z_aload_n C 0 rfl rfl dX4_read_50 51 rfl ?_
      refine z_get C zc4 iX4_read_X4 0 0 rfl rfl 0 (Nat.le_of_ble_eq_true rfl) (List.mem_of_getElem? (i := 3) rfl) (v := .ref (bd 0)) rfl dX4_read_51 54 rfl ?_
      refine z_get C zc0 iX4_read_X0 1 0 rfl rfl 2 (Nat.le_of_ble_eq_true rfl) (List.mem_of_getElem? (i := 5) rfl) (v := .int (nI n)) rfl dX4_read_54 57 rfl ?_
      refine z_aload_n C 0 rfl rfl dX4_read_57 58 rfl ?_
      refine z_get C zc4 iX4_read_X4 0 0 rfl rfl 3 (Nat.le_of_ble_eq_true rfl) (List.mem_of_getElem? (i := 1) rfl) (v := .ref (p 0)) rfl dX4_read_58 61 rfl ?_
      refine z_get C zc2 iX4_read_X2 2 0 rfl rfl 0 (Nat.le_of_ble_eq_true rfl) (List.mem_of_getElem? (i := 2) rfl) (v := .ref (fb 0)) rfl dX4_read_61 64 rfl ?_
      refine z_get C zc0 iX4_read_X0 3 0 rfl rfl 2 (Nat.le_of_ble_eq_true rfl) (List.mem_of_getElem? (i := 5) rfl) (v := .int (nI n2)) rfl dX4_read_64 67 rfl ?_
      refine z_iadd C dX4_read_67 68 rfl ?_
      refine z_bipush C (v := nI 12) rfl dX4_read_68 70 rfl ?_
      refine z_icmp_le C (by omega) (by omega) 76 dX4_read_70 (by decide) 73 rfl (fun c_3 => ?_) (fun c_3 => ?_)
      · skip
        refine z_aload_n C 0 rfl rfl dX4_read_76 77 rfl ?_
        refine z_get C zc4 iX4_read_X4 0 0 rfl rfl 4 (Nat.le_of_ble_eq_true rfl) (List.mem_of_getElem? (i := 6) rfl) (v := .ref (h 0)) rfl dX4_read_77 80 rfl ?_
        refine z_aload_n C 0 rfl rfl dX4_read_80 81 rfl ?_
        refine z_get C zc4 iX4_read_X4 0 0 rfl rfl 0 (Nat.le_of_ble_eq_true rfl) (List.mem_of_getElem? (i := 3) rfl) (v := .ref (bd 0)) rfl dX4_read_81 84 rfl ?_
        refine z_callV C [.ref (bd 0)] [] (tX1_remember K.l K.g h ho hs hr hm kp nx bd st r n (by first | omega | assumption) (by first | omega | assumption)) gX4_read_X1_remember rfl rfl rfl hdX1_remember ⟨Nat.le_of_ble_eq_true rfl, Nat.le_of_ble_eq_true rfl⟩ ⟨Nat.zero_le _, Nat.zero_le _⟩ 4 0 rfl rfl rfl [4, 5, 6, 7, 8, 9, 10, 1] rfl rfl (zlc (N := 11) rfl rfl) [0, 18, 2, 3, 11, 12, 13, 14, 15, 16, 17] rfl (by decide) (fun _ : Unit => [wX K.g x bd tr q p h sb sv, wB K.g bd st r n, wPd K.g p fb tx len ex2 P2 S2 H2 D2, wB K.g fb fs r2 n2, wH K.g h ho (min (kp + 1) 6) (if nx = 5 then 0 else nx + 1), wB K.g (ho 0) ((un hs nx st) 0) ((un hr nx r) 0) ((un hm nx n) 0), wB K.g (ho 1) ((un hs nx st) 1) ((un hr nx r) 1) ((un hm nx n) 1), wB K.g (ho 2) ((un hs nx st) 2) ((un hr nx r) 2) ((un hm nx n) 2), wB K.g (ho 3) ((un hs nx st) 3) ((un hr nx r) 3) ((un hm nx n) 3), wB K.g (ho 4) ((un hs nx st) 4) ((un hr nx r) 4) ((un hm nx n) 4), wB K.g (ho 5) ((un hs nx st) 5) ((un hr nx r) 5) ((un hm nx n) 5)]) (fun _ => rfl) rfl rfl (Nat.le_of_ble_eq_true rfl) dX4_read_84 87 rfl (fun u9 hu9 => ?_)
        show Z K 0 0 [wX K.g x bd tr q p h sb sv, wB K.g bd st r n, wPd K.g p fb tx len ex2 P2 S2 H2 D2, wB K.g fb fs r2 n2, wH K.g h ho (min (kp + 1) 6) (if nx = 5 then 0 else nx + 1), wB K.g (ho 0) ((un hs nx st) 0) ((un hr nx r) 0) ((un hm nx n) 0), wB K.g (ho 1) ((un hs nx st) 1) ((un hr nx r) 1) ((un hm nx n) 1), wB K.g (ho 2) ((un hs nx st) 2) ((un hr nx r) 2) ((un hm nx n) 2), wB K.g (ho 3) ((un hs nx st) 3) ((un hr nx r) 3) ((un hm nx n) 3), wB K.g (ho 4) ((un hs nx st) 4) ((un hr nx r) 4) ((un hm nx n) 4), wB K.g (ho 5) ((un hs nx st) 5) ((un hr nx r) 5) ((un hm nx n) 5)] [(0, .ref (x 0))] 87 []
        refine z_aload_n C 0 rfl rfl dX4_read_87 88 rfl ?_
        refine z_get C zc4 iX4_read_X4 0 0 rfl rfl 0 (Nat.le_of_ble_eq_true rfl) (List.mem_of_getElem? (i := 3) rfl) (v := .ref (bd 0)) rfl dX4_read_88 91 rfl ?_
        refine z_aload_n C 0 rfl rfl dX4_read_91 92 rfl ?_
        refine z_get C zc4 iX4_read_X4 0 0 rfl rfl 3 (Nat.le_of_ble_eq_true rfl) (List.mem_of_getElem? (i := 1) rfl) (v := .ref (p 0)) rfl dX4_read_92 95 rfl ?_
        refine z_get C zc2 iX4_read_X2 2 0 rfl rfl 0 (Nat.le_of_ble_eq_true rfl) (List.mem_of_getElem? (i := 2) rfl) (v := .ref (fb 0)) rfl dX4_read_95 98 rfl ?_
        refine z_callV C [.ref (fb 0)] [] (tX0_appendAll K.l K.g bd st r n fb fs r2 n2 (by omega)) gX4_read_X0_appendAll rfl rfl rfl hdX0_appendAll ⟨Nat.le_of_ble_eq_true rfl, Nat.le_of_ble_eq_true rfl⟩ ⟨Nat.zero_le _, Nat.zero_le _⟩ 1 0 rfl rfl rfl [1, 3] rfl rfl (zlc (N := 11) rfl rfl) [0, 11, 2, 12, 4, 5, 6, 7, 8, 9, 10] rfl (by decide) (fun _ : Unit => [wX K.g x bd tr q p h sb sv, wB K.g bd st (apA r n r2 n2) (n + n2), wPd K.g p fb tx len ex2 P2 S2 H2 D2, wB K.g fb fs r2 n2, wH K.g h ho (min (kp + 1) 6) (if nx = 5 then 0 else nx + 1), wB K.g (ho 0) ((un hs nx st) 0) ((un hr nx r) 0) ((un hm nx n) 0), wB K.g (ho 1) ((un hs nx st) 1) ((un hr nx r) 1) ((un hm nx n) 1), wB K.g (ho 2) ((un hs nx st) 2) ((un hr nx r) 2) ((un hm nx n) 2), wB K.g (ho 3) ((un hs nx st) 3) ((un hr nx r) 3) ((un hm nx n) 3), wB K.g (ho 4) ((un hs nx st) 4) ((un hr nx r) 4) ((un hm nx n) 4), wB K.g (ho 5) ((un hs nx st) 5) ((un hr nx r) 5) ((un hm nx n) 5)]) (fun _ => rfl) rfl rfl (Nat.le_of_ble_eq_true rfl) dX4_read_98 101 rfl (fun u9 hu9 => ?_)
        show Z K 0 0 [wX K.g x bd tr q p h sb sv, wB K.g bd st (apA r n r2 n2) (n + n2), wPd K.g p fb tx len ex2 P2 S2 H2 D2, wB K.g fb fs r2 n2, wH K.g h ho (min (kp + 1) 6) (if nx = 5 then 0 else nx + 1), wB K.g (ho 0) ((un hs nx st) 0) ((un hr nx r) 0) ((un hm nx n) 0), wB K.g (ho 1) ((un hs nx st) 1) ((un hr nx r) 1) ((un hm nx n) 1), wB K.g (ho 2) ((un hs nx st) 2) ((un hr nx r) 2) ((un hm nx n) 2), wB K.g (ho 3) ((un hs nx st) 3) ((un hr nx r) 3) ((un hm nx n) 3), wB K.g (ho 4) ((un hs nx st) 4) ((un hr nx r) 4) ((un hm nx n) 4), wB K.g (ho 5) ((un hs nx st) 5) ((un hr nx r) 5) ((un hm nx n) 5)] [(0, .ref (x 0))] 101 []
        refine z_aload_n C 0 rfl rfl dX4_read_101 102 rfl ?_
        refine z_get C zc4 iX4_read_X4 0 0 rfl rfl 3 (Nat.le_of_ble_eq_true rfl) (List.mem_of_getElem? (i := 1) rfl) (v := .ref (p 0)) rfl dX4_read_102 105 rfl ?_
        refine z_iconst C (v := nI 0) rfl dX4_read_105 106 rfl ?_
        refine z_put C zc2 iX4_read_X2 2 0 rfl rfl 1 (Nat.le_of_ble_eq_true rfl) (List.mem_of_getElem? (i := 7) rfl) rfl rfl rfl (Nat.le_of_ble_eq_true rfl) (wPd K.g p fb tx 0 ex2 P2 S2 H2 D2) rfl [wX K.g x bd tr q p h sb sv, wB K.g bd st (apA r n r2 n2) (n + n2), wPd K.g p fb tx 0 ex2 P2 S2 H2 D2, wB K.g fb fs r2 n2, wH K.g h ho (min (kp + 1) 6) (if nx = 5 then 0 else nx + 1), wB K.g (ho 0) ((un hs nx st) 0) ((un hr nx r) 0) ((un hm nx n) 0), wB K.g (ho 1) ((un hs nx st) 1) ((un hr nx r) 1) ((un hm nx n) 1), wB K.g (ho 2) ((un hs nx st) 2) ((un hr nx r) 2) ((un hm nx n) 2), wB K.g (ho 3) ((un hs nx st) 3) ((un hr nx r) 3) ((un hm nx n) 3), wB K.g (ho 4) ((un hs nx st) 4) ((un hr nx r) 4) ((un hm nx n) 4), wB K.g (ho 5) ((un hs nx st) 5) ((un hr nx r) 5) ((un hm nx n) 5)] rfl dX4_read_106 109 rfl ?_
        refine z_aload_n C 0 rfl rfl dX4_read_109 110 rfl ?_
        refine z_get C zc4 iX4_read_X4 0 0 rfl rfl 0 (Nat.le_of_ble_eq_true rfl) (List.mem_of_getElem? (i := 3) rfl) (v := .ref (bd 0)) rfl dX4_read_110 113 rfl ?_
        refine z_get C zc0 iX4_read_X0 1 0 rfl rfl 2 (Nat.le_of_ble_eq_true rfl) (List.mem_of_getElem? (i := 5) rfl) (v := .int (nI (n + n2))) rfl dX4_read_113 116 rfl ?_
        exact z_iret C hRx dX4_read_116 (nI (n + n2), w, 0, ex2, P2, S2, H2, D2, n2, r2, apA r n r2 n2, n + n2, min (kp + 1) 6, if nx = 5 then 0 else nx + 1, un hs nx st, un hr nx r, un hm nx n) rfl (⟨hp, Or.inr (Or.inr (Or.inr ⟨by assumption, by omega, by omega, rfl, rfl, rfl, rfl, rfl, rfl, rfl, rfl, rfl⟩))⟩) rfl
      · skip
        refine z_bipush C (v := (-4)) rfl dX4_read_73 75 rfl ?_
        exact z_iret C hRx dX4_read_75 ((-4), w, len, ex2, P2, S2, H2, D2, n2, r2, r, n, kp, nx, hs, hr, hm) rfl (⟨hp, Or.inr (Or.inr (Or.inl ⟨by assumption, by omega, by omega, rfl, rfl, rfl, rfl, rfl, rfl, rfl, rfl, rfl⟩))⟩) rfl
    · skip
      refine z_bipush C (v := (-5)) rfl dX4_read_47 49 rfl ?_
      exact z_iret C hRx dX4_read_49 ((-5), w, len, ex2, P2, S2, H2, D2, n2, r2, r, n, kp, nx, hs, hr, hm) rfl (⟨hp, Or.inr (Or.inl ⟨by assumption, by omega, rfl, rfl, rfl, rfl, rfl, rfl, rfl, rfl, rfl⟩)⟩) rfl
  · skip
    refine z_bipush C (v := (-3)) rfl dX4_read_12 14 rfl ?_
    exact z_iret C hRx dX4_read_14 ((-3), w, len, ex2, P2, S2, H2, D2, n2, r2, r, n, kp, nx, hs, hr, hm) rfl (⟨hp, Or.inl ⟨by assumption, rfl, rfl, rfl, rfl, rfl, rfl, rfl, rfl, rfl⟩⟩) rfl

set_option maxHeartbeats 4000000 in
set_option maxRecDepth 100000 in
theorem tX4_charactersIn (l : Launch) (g : zG) (w : Nat) (hw : w < 2 ^ 64) : Met l yX4_charactersIn wsX4_charactersIn ({ frames := 1, cells := 0, slots := 0, locals := 22 } : Room) (zPre g [.long (lN w)] []) (zQ g (fun _ : Unit => some (.int (chI (chF 0 8 w))) ) (fun _ : Unit => True) (fun _ : Unit => []) (zA [])) 0 0 (zA []) := by
  refine z_entry (cc := cX4_charactersIn) (maxL := 5) (ret := (some .int)) (own := RX4) (by decide) rfl rfl (Nat.le_of_ble_eq_true rfl) [(0, .long (lN w))] rfl ?_
  intro K hKl hKg hnL C hRx
  subst hKl
  subst hKg
  refine z_lload_n C 0 rfl rfl dX4_charactersIn_0 1 rfl ?_
  refine z_lstore_n C hnL [1, 0] [(0, .long (lN w)), (2, .long (lN w))] rfl rfl (Nat.le_of_ble_eq_true rfl) dX4_charactersIn_1 2 rfl ?_
  refine z_iconst C (v := nI 0) rfl dX4_charactersIn_2 3 rfl ?_
  refine z_istore C hnL [1, 2, 0] [(0, .long (lN w)), (2, .long (lN w)), (4, .int (nI 0))] rfl (Nat.le_of_ble_eq_true rfl) dX4_charactersIn_3 5 rfl ?_
  have loop5 : ∀ (mu : Nat) (i : Nat) (z : Nat), mu = 8 - i → i ≤ 8 → z < 2 ^ 64 → z < 256 ^ (8 - i) → chF 0 8 w = chF i (8 - i) z → Z K 0 0 [] [(0, .long (lN w)), (2, .long (lN z)), (4, .int (nI i))] 5 [] := by
    refine z_ind (fun mu ih5 => ?_)
    intro i z hmu5 hi hz hz2 hs
    refine z_iload C 2 rfl dX4_charactersIn_5 7 rfl ?_
    refine z_bipush C (v := nI 8) rfl dX4_charactersIn_7 9 rfl ?_
    refine z_icmp_ge C (by omega) (by omega) 48 dX4_charactersIn_9 (by decide) 12 rfl (fun c_1 => ?_) (fun c_1 => ?_)
    · skip
      have hz0 : z = 0 := by rw [show 8 - i = 0 by omega] at hz2; omega
      refine z_iload C 2 rfl dX4_charactersIn_48 50 rfl ?_
      refine z_if_ne C (by omega) 58 dX4_charactersIn_50 (by decide) 53 rfl (fun c_2 => ?_) (fun c_2 => ?_)
      · skip
        refine z_iload C 2 rfl dX4_charactersIn_58 60 rfl ?_
        exact z_iret C hRx dX4_charactersIn_60 () (by rw [hs, chF_e (by omega) hz2]; exact congrArg (fun y => some (Value.int y)) (chI_p (by omega))) trivial rfl
      · skip
        refine z_bipush C (v := (-2)) rfl dX4_charactersIn_53 55 rfl ?_
        refine z_goto C 60 dX4_charactersIn_55 (by decide) ?_
        exact z_iret C hRx dX4_charactersIn_60 () (by rw [hs, chF_e (by omega) hz2, show i = 0 by omega]; rfl) trivial rfl
    · skip
      refine z_lload_n C 1 rfl rfl dX4_charactersIn_12 13 rfl ?_
      refine z_lconst C (v := lN 0) rfl dX4_charactersIn_13 14 rfl ?_
      refine z_lcmp C dX4_charactersIn_14 15 rfl ?_
      refine z_ifI_eq C 48 dX4_charactersIn_15 (by decide) 18 rfl (fun c_3 => ?_) (fun c_3 => ?_)
      · skip
        have hz0 : z = 0 := lN_e0 hz (by exact c_3)
        refine z_iload C 2 rfl dX4_charactersIn_48 50 rfl ?_
        refine z_if_ne C (by omega) 58 dX4_charactersIn_50 (by decide) 53 rfl (fun c_4 => ?_) (fun c_4 => ?_)
        · skip
          refine z_iload C 2 rfl dX4_charactersIn_58 60 rfl ?_
          exact z_iret C hRx dX4_charactersIn_60 () (by rw [hs, chF_e (by omega) hz2]; exact congrArg (fun y => some (Value.int y)) (chI_p (by omega))) trivial rfl
        · skip
          refine z_bipush C (v := (-2)) rfl dX4_charactersIn_53 55 rfl ?_
          refine z_goto C 60 dX4_charactersIn_55 (by decide) ?_
          exact z_iret C hRx dX4_charactersIn_60 () (by rw [hs, chF_e (by omega) hz2, show i = 0 by omega]; rfl) trivial rfl
      · skip
        have hz0 : z ≠ 0 := fun e => c_3 (by rw [e]; exact (lg_cmp_eq _ _).mpr rfl)
        refine z_lload_n C 1 rfl rfl dX4_charactersIn_18 19 rfl ?_
        refine z_ldc2 C (v := lN 255) (List.mem_of_getElem? (i := 1) rfl) dX4_charactersIn_19 22 rfl ?_
        refine z_land C dX4_charactersIn_22 23 rfl ?_
        refine z_topL (show (lN z) &&& (lN 255) = lN (z % 256) from (wb_mask (k := 8) hz (by decide))) ?_
        refine z_l2i C dX4_charactersIn_23 24 rfl ?_
        refine z_top (show (lN (z % 256)).toInt32 = nI (z % 256) from (lN_i _)) ?_
        refine z_bipush C (v := nI 33) rfl dX4_charactersIn_24 26 rfl ?_
        refine z_bipush C (v := nI 126) rfl dX4_charactersIn_26 28 rfl ?_
        refine z_callP C [.int (nI (z % 256)), .int (nI 33), .int (nI 126)] [] (tX4_withinN K.l K.g (nI (z % 256)) 33 126 (by first | omega | assumption) (by first | omega | assumption)) gX4_charactersIn_X4_within rfl rfl rfl hdX4_within ⟨Nat.le_of_ble_eq_true rfl, Nat.le_of_ble_eq_true rfl⟩ ⟨Nat.zero_le _, Nat.zero_le _⟩ rfl rfl (Nat.le_of_ble_eq_true rfl) dX4_charactersIn_28 31 rfl (fun u9 hu9 => ?_)
        show Z K 0 0 [] [(0, .long (lN w)), (2, .long (lN z)), (4, .int (nI i))] 31 [.int (bI (rg (nI (z % 256)).toInt (Int.ofNat 33) (Int.ofNat 126)))]
        refine z_ifb_ne C 37 dX4_charactersIn_31 (by decide) 34 rfl (fun c_5 => ?_) (fun c_5 => ?_)
        · skip
          have hvb : 33 ≤ z % 256 ∧ z % 256 ≤ 126 := rgN_i (by omega) c_5
          refine z_lload_n C 1 rfl rfl dX4_charactersIn_37 38 rfl ?_
          refine z_bipush C (v := nI 8) rfl dX4_charactersIn_38 40 rfl ?_
          refine z_lushr C dX4_charactersIn_40 41 rfl ?_
          refine z_topL (show ((lN z).toUInt64 >>> ((nI 8).toInt64.toUInt64 &&& Int64.toUInt64 63)).toInt64 = lN (z / 256) from (wb_shr (k := 8) hz (by decide))) ?_
          refine z_lstore_n C hnL [1, 0, 2] [(0, .long (lN w)), (2, .long (lN (z / 256))), (4, .int (nI i))] rfl rfl (Nat.le_of_ble_eq_true rfl) dX4_charactersIn_41 42 rfl ?_
          refine z_iinc C hnL 2 rfl (v := (nI (i + 1))) (nI_1 _) [1, 2, 0] [(0, .long (lN w)), (2, .long (lN (z / 256))), (4, .int (nI (i + 1)))] rfl (Nat.le_of_ble_eq_true rfl) dX4_charactersIn_42 45 rfl ?_
          refine z_goto C 5 dX4_charactersIn_45 (by decide) ?_
          exact ih5 _ (by omega) (i + 1) (z / 256) rfl (by omega) (by omega) (chF_lt hz2 (by omega)) (by rw [hs]; exact chF_n (by omega) (by assumption) (by assumption))
        · skip
          have hvb : ¬ (33 ≤ z % 256 ∧ z % 256 ≤ 126) := rgN_n (by omega) c_5
          refine z_bipush C (v := (-2)) rfl dX4_charactersIn_34 36 rfl ?_
          exact z_iret C hRx dX4_charactersIn_36 () (by rw [hs, chF_b (by omega) (by assumption) (by assumption)]; rfl) trivial rfl
  exact loop5 _ 0 w rfl (by omega) hw (by exact hw) rfl

set_option maxHeartbeats 4000000 in
set_option maxRecDepth 100000 in
theorem tX4_put_b (l : Launch) (g : zG) (x bd tr q p h : Nat → Nat) (sb : Nat → Nat → Nat) (sv : Nat → Bool) (w : Nat) (hw : w < 2 ^ 64) (hb : chF 0 8 w = 0) : Met l yX4_put wsX4_put ({ frames := 2, cells := 0, slots := 0, locals := 46 } : Room) (zPre g [.ref (x 0), .long (lN w)] [wX g x bd tr q p h sb sv]) (zQ g (fun _ : Unit => some (.int (-2)) ) (fun _ : Unit => True) (fun _ : Unit => [wX g x bd tr q p h sb sv]) (zA [wX g x bd tr q p h sb sv])) 0 0 (zA [wX g x bd tr q p h sb sv]) := by
  refine z_entry (cc := cX4_put) (maxL := 5) (ret := (some .int)) (own := RX4) (by decide) rfl rfl (Nat.le_of_ble_eq_true rfl) [(0, .ref (x 0)), (1, .long (lN w))] rfl ?_
  intro K hKl hKg hnL C hRx
  subst hKl
  subst hKg
  refine z_lload_n C 1 rfl rfl dX4_put_0 1 rfl ?_
  refine z_callP C [.long (lN w)] [] (tX4_charactersIn K.l K.g w (by first | omega | assumption)) gX4_put_X4_charactersIn rfl rfl rfl hdX4_charactersIn ⟨Nat.le_of_ble_eq_true rfl, Nat.le_of_ble_eq_true rfl⟩ ⟨Nat.zero_le _, Nat.zero_le _⟩ rfl rfl (Nat.le_of_ble_eq_true rfl) dX4_put_1 4 rfl (fun u9 hu9 => ?_)
  show Z K 0 0 [wX K.g x bd tr q p h sb sv] [(0, .ref (x 0)), (1, .long (lN w))] 4 [.int (chI (chF 0 8 w))]
  refine z_istore_n C hnL [1, 2, 0] [(0, .ref (x 0)), (1, .long (lN w)), (3, .int (chI (chF 0 8 w)))] rfl rfl (Nat.le_of_ble_eq_true rfl) dX4_put_4 5 rfl ?_
  refine z_iload_n C 2 rfl rfl dX4_put_5 6 rfl ?_
  refine z_bipush C (v := (-2)) rfl dX4_put_6 8 rfl ?_
  refine z_icmpI_ne C 14 dX4_put_8 (by decide) 11 rfl (fun c_1 => ?_) (fun c_1 => ?_)
  · exfalso; exact c_1 (by rw [hb]; rfl)
  refine z_bipush C (v := (-2)) rfl dX4_put_11 13 rfl ?_
  exact z_iret C hRx dX4_put_13 () rfl trivial rfl

theorem iX4_put_X2 : ∀ w ∈ u_ws RX2 TX2 8, w ∈ wsX4_put := fun w h => (List.mem_cons_of_mem _ (List.mem_append_right _ h))
theorem iX4_put_X4 : ∀ w ∈ u_ws RX4 TX4 7, w ∈ wsX4_put := fun w h => (List.mem_cons_of_mem _ (List.mem_append_left _ (List.mem_append_right _ h)))
set_option maxHeartbeats 4000000 in
set_option maxRecDepth 100000 in
theorem tX4_put_tm (l : Launch) (g : zG) (x bd tr q p h : Nat → Nat) (sb : Nat → Nat → Nat) (sv : Nat → Bool) (fb tx : Nat → Nat) (len ex : Nat) (pl sh hu du : Int32) (w a : Nat) (hw : w < 2 ^ 64) (hb : chF 0 8 w = a) (ha : 0 < a) (ha8 : a ≤ 8) (hl : len ≤ 60) (hf : 60 < len + a) : Met l yX4_put wsX4_put ({ frames := 2, cells := 0, slots := 0, locals := 46 } : Room) (zPre g [.ref (x 0), .long (lN w)] [wX g x bd tr q p h sb sv, wPd g p fb tx len ex pl sh hu du]) (zQ g (fun _ : Unit => some (.int (-4)) ) (fun _ : Unit => True) (fun _ : Unit => [wX g x bd tr q p h sb sv, wPd g p fb tx len ex pl sh hu du]) (zA [wX g x bd tr q p h sb sv, wPd g p fb tx len ex pl sh hu du])) 0 0 (zA [wX g x bd tr q p h sb sv, wPd g p fb tx len ex pl sh hu du]) := by
  refine z_entry (cc := cX4_put) (maxL := 5) (ret := (some .int)) (own := RX4) (by decide) rfl rfl (Nat.le_of_ble_eq_true rfl) [(0, .ref (x 0)), (1, .long (lN w))] rfl ?_
  intro K hKl hKg hnL C hRx
  subst hKl
  subst hKg
  refine z_lload_n C 1 rfl rfl dX4_put_0 1 rfl ?_
  refine z_callP C [.long (lN w)] [] (tX4_charactersIn K.l K.g w (by first | omega | assumption)) gX4_put_X4_charactersIn rfl rfl rfl hdX4_charactersIn ⟨Nat.le_of_ble_eq_true rfl, Nat.le_of_ble_eq_true rfl⟩ ⟨Nat.zero_le _, Nat.zero_le _⟩ rfl rfl (Nat.le_of_ble_eq_true rfl) dX4_put_1 4 rfl (fun u9 hu9 => ?_)
  show Z K 0 0 [wX K.g x bd tr q p h sb sv, wPd K.g p fb tx len ex pl sh hu du] [(0, .ref (x 0)), (1, .long (lN w))] 4 [.int (chI (chF 0 8 w))]
  refine z_top (show chI (chF 0 8 w) = nI a from by rw [hb]; exact chI_p ha) ?_
  refine z_istore_n C hnL [1, 2, 0] [(0, .ref (x 0)), (1, .long (lN w)), (3, .int (nI a))] rfl rfl (Nat.le_of_ble_eq_true rfl) dX4_put_4 5 rfl ?_
  refine z_iload_n C 2 rfl rfl dX4_put_5 6 rfl ?_
  refine z_bipush C (v := (-2)) rfl dX4_put_6 8 rfl ?_
  refine z_icmpI_ne C 14 dX4_put_8 (by decide) 11 rfl (fun c_1 => ?_) (fun c_1 => ?_)
  rotate_left
  · exfalso; exact nI_n2 (by omega) c_1
  refine z_aload_n C 0 rfl rfl dX4_put_14 15 rfl ?_
  refine z_get C zc4 iX4_put_X4 0 0 rfl rfl 3 (Nat.le_of_ble_eq_true rfl) (List.mem_of_getElem? (i := 1) rfl) (v := .ref (p 0)) rfl dX4_put_15 18 rfl ?_
  refine z_get C zc2 iX4_put_X2 1 0 rfl rfl 1 (Nat.le_of_ble_eq_true rfl) (List.mem_of_getElem? (i := 2) rfl) (v := .int (nI len)) rfl dX4_put_18 21 rfl ?_
  refine z_iload_n C 2 rfl rfl dX4_put_21 22 rfl ?_
  refine z_iadd C dX4_put_22 23 rfl ?_
  refine z_bipush C (v := nI 60) rfl dX4_put_23 25 rfl ?_
  refine z_icmp_le C (by omega) (by omega) 31 dX4_put_25 (by decide) 28 rfl (fun c_2 => ?_) (fun c_2 => ?_)
  · exfalso; omega
  refine z_bipush C (v := (-4)) rfl dX4_put_28 30 rfl ?_
  exact z_iret C hRx dX4_put_30 () rfl trivial rfl

set_option maxHeartbeats 4000000 in
set_option maxRecDepth 100000 in
theorem tX4_put_ok (l : Launch) (g : zG) (x bd tr q p h : Nat → Nat) (sb : Nat → Nat → Nat) (sv : Nat → Bool) (fb tx : Nat → Nat) (len ex : Nat) (pl sh hu du : Int32) (w a : Nat) (hw : w < 2 ^ 64) (hb : chF 0 8 w = a) (ha : 0 < a) (ha8 : a ≤ 8) (hf : len + a ≤ 60) : Met l yX4_put wsX4_put ({ frames := 2, cells := 0, slots := 0, locals := 46 } : Room) (zPre g [.ref (x 0), .long (lN w)] [wX g x bd tr q p h sb sv, wPd g p fb tx len ex pl sh hu du]) (zQ g (fun _ : Unit => some (.int (nI (len + a))) ) (fun _ : Unit => True) (fun _ : Unit => [wX g x bd tr q p h sb sv, wPd g p fb (ptx tx len w a a) (len + a) ex pl sh hu du]) (zA [wX g x bd tr q p h sb sv, wPd g p fb tx len ex pl sh hu du])) 0 0 (zA [wX g x bd tr q p h sb sv, wPd g p fb tx len ex pl sh hu du]) := by
  refine z_entry (cc := cX4_put) (maxL := 5) (ret := (some .int)) (own := RX4) (by decide) rfl rfl (Nat.le_of_ble_eq_true rfl) [(0, .ref (x 0)), (1, .long (lN w))] rfl ?_
  intro K hKl hKg hnL C hRx
  subst hKl
  subst hKg
  refine z_lload_n C 1 rfl rfl dX4_put_0 1 rfl ?_
  refine z_callP C [.long (lN w)] [] (tX4_charactersIn K.l K.g w (by first | omega | assumption)) gX4_put_X4_charactersIn rfl rfl rfl hdX4_charactersIn ⟨Nat.le_of_ble_eq_true rfl, Nat.le_of_ble_eq_true rfl⟩ ⟨Nat.zero_le _, Nat.zero_le _⟩ rfl rfl (Nat.le_of_ble_eq_true rfl) dX4_put_1 4 rfl (fun u9 hu9 => ?_)
  show Z K 0 0 [wX K.g x bd tr q p h sb sv, wPd K.g p fb tx len ex pl sh hu du] [(0, .ref (x 0)), (1, .long (lN w))] 4 [.int (chI (chF 0 8 w))]
  refine z_top (show chI (chF 0 8 w) = nI a from by rw [hb]; exact chI_p ha) ?_
  refine z_istore_n C hnL [1, 2, 0] [(0, .ref (x 0)), (1, .long (lN w)), (3, .int (nI a))] rfl rfl (Nat.le_of_ble_eq_true rfl) dX4_put_4 5 rfl ?_
  refine z_iload_n C 2 rfl rfl dX4_put_5 6 rfl ?_
  refine z_bipush C (v := (-2)) rfl dX4_put_6 8 rfl ?_
  refine z_icmpI_ne C 14 dX4_put_8 (by decide) 11 rfl (fun c_1 => ?_) (fun c_1 => ?_)
  rotate_left
  · exfalso; exact nI_n2 (by omega) c_1
  refine z_aload_n C 0 rfl rfl dX4_put_14 15 rfl ?_
  refine z_get C zc4 iX4_put_X4 0 0 rfl rfl 3 (Nat.le_of_ble_eq_true rfl) (List.mem_of_getElem? (i := 1) rfl) (v := .ref (p 0)) rfl dX4_put_15 18 rfl ?_
  refine z_get C zc2 iX4_put_X2 1 0 rfl rfl 1 (Nat.le_of_ble_eq_true rfl) (List.mem_of_getElem? (i := 2) rfl) (v := .int (nI len)) rfl dX4_put_18 21 rfl ?_
  refine z_iload_n C 2 rfl rfl dX4_put_21 22 rfl ?_
  refine z_iadd C dX4_put_22 23 rfl ?_
  refine z_bipush C (v := nI 60) rfl dX4_put_23 25 rfl ?_
  refine z_icmp_le C (by omega) (by omega) 31 dX4_put_25 (by decide) 28 rfl (fun c_2 => ?_) (fun c_2 => ?_)
  rotate_left
  · exfalso; omega
  refine z_iload_n C 2 rfl rfl dX4_put_31 32 rfl ?_
  refine z_iconst C (v := nI 1) rfl dX4_put_32 33 rfl ?_
  refine z_isub C (by omega) dX4_put_33 34 rfl ?_
  refine z_istore C hnL [1, 2, 3, 0] [(0, .ref (x 0)), (1, .long (lN w)), (3, .int (nI a)), (4, .int (nI (a - 1)))] rfl (Nat.le_of_ble_eq_true rfl) dX4_put_34 36 rfl ?_
  have loop36 : ∀ (mu : Nat) (d : Nat), mu = a - d → d ≤ a → Z K 0 0 [wX K.g x bd tr q p h sb sv, wPd K.g p fb (ptx tx len w a d) (len + d) ex pl sh hu du] [(0, .ref (x 0)), (1, .long (lN w)), (3, .int (nI a)), (4, .int (nI (a - d) + (-1)))] 36 [] := by
    refine z_ind (fun mu ih36 => ?_)
    intro d hmu36 hd
    by_cases hd2 : d < a
    · skip
      refine z_eq (lv2 := [(0, .ref (x 0)), (1, .long (lN w)), (3, .int (nI a)), (4, .int (nI (a - d - 1)))]) ?_ rfl (by rw [show nI (a - d) + (-1) = nI (a - d - 1) from by rw [show a - d = (a - d - 1) + 1 by omega]; exact pk_m1 _]) rfl
      refine z_iload C 3 rfl dX4_put_36 38 rfl ?_
      refine z_if_lt C (by omega) 66 dX4_put_38 (by decide) 41 rfl (fun c_3 => ?_) (fun c_3 => ?_)
      · exfalso; omega
      refine z_aload_n C 0 rfl rfl dX4_put_41 42 rfl ?_
      refine z_get C zc4 iX4_put_X4 0 0 rfl rfl 3 (Nat.le_of_ble_eq_true rfl) (List.mem_of_getElem? (i := 1) rfl) (v := .ref (p 0)) rfl dX4_put_42 45 rfl ?_
      refine z_lload_n C 1 rfl rfl dX4_put_45 46 rfl ?_
      refine z_bipush C (v := nI 8) rfl dX4_put_46 48 rfl ?_
      refine z_iload C 3 rfl dX4_put_48 50 rfl ?_
      refine z_imul C dX4_put_50 51 rfl ?_
      refine z_lushr C dX4_put_51 52 rfl ?_
      refine z_topL (show ((lN w).toUInt64 >>> ((nI (8 * (a - d - 1))).toInt64.toUInt64 &&& Int64.toUInt64 63)).toInt64 = lN (w / 2 ^ (8 * (a - d - 1))) from (wb_shr hw (by omega))) ?_
      refine z_l2i C dX4_put_52 53 rfl ?_
      refine z_top (show (lN (w / 2 ^ (8 * (a - d - 1)))).toInt32 = nI (w / 2 ^ (8 * (a - d - 1))) from (lN_i _)) ?_
      refine z_sipush C (v := nI 255) rfl dX4_put_53 56 rfl ?_
      refine z_iandI C dX4_put_56 57 rfl ?_
      refine z_top (show (nI (w / 2 ^ (8 * (a - d - 1)))) &&& (nI 255) = nI (w / 2 ^ (8 * (a - d - 1)) % 256) from (and255 _)) ?_
      refine z_callV C [.int (nI (w / 2 ^ (8 * (a - d - 1)) % 256))] [] (tX2_append K.l K.g p fb (ptx tx len w a d) (len + d) ex pl sh hu du (w / 2 ^ (8 * (a - d - 1)) % 256) (by first | omega | assumption)) gX4_put_X2_append rfl rfl rfl hdX2_append ⟨Nat.le_of_ble_eq_true rfl, Nat.le_of_ble_eq_true rfl⟩ ⟨Nat.zero_le _, Nat.zero_le _⟩ 1 0 rfl rfl rfl [1] rfl rfl (zlc (N := 2) rfl rfl) [0, 2] rfl (by decide) (fun _ : Unit => [wX K.g x bd tr q p h sb sv, wPd K.g p fb (un (ptx tx len w a d) (len + d) (w / 2 ^ (8 * (a - d - 1)) % 256)) ((len + d) + 1) ex pl sh hu du]) (fun _ => rfl) rfl rfl (Nat.le_of_ble_eq_true rfl) dX4_put_57 60 rfl (fun u9 hu9 => ?_)
      show Z K 0 0 [wX K.g x bd tr q p h sb sv, wPd K.g p fb (un (ptx tx len w a d) (len + d) (w / 2 ^ (8 * (a - d - 1)) % 256)) ((len + d) + 1) ex pl sh hu du] [(0, .ref (x 0)), (1, .long (lN w)), (3, .int (nI a)), (4, .int (nI (a - d - 1)))] 60 []
      refine z_iinc C hnL 3 rfl (v := nI (a - (d + 1)) + (-1)) (by rw [show a - (d + 1) = a - d - 1 by omega]; rfl) [1, 2, 3, 0] [(0, .ref (x 0)), (1, .long (lN w)), (3, .int (nI a)), (4, .int (nI (a - (d + 1)) + (-1)))] rfl (Nat.le_of_ble_eq_true rfl) dX4_put_60 63 rfl ?_
      refine z_goto C 36 dX4_put_63 (by decide) ?_
      exact ih36 _ (by omega) (d + 1) rfl (by omega)
    · skip
      refine z_iload C 3 rfl dX4_put_36 38 rfl ?_
      refine z_ifI_lt C 66 dX4_put_38 (by decide) 41 rfl (fun c_4 => ?_) (fun c_4 => ?_)
      rotate_left
      · exfalso; rw [show a - d = 0 by omega] at c_4; exact c_4 (by decide)
      refine z_aload_n C 0 rfl rfl dX4_put_66 67 rfl ?_
      refine z_get C zc4 iX4_put_X4 0 0 rfl rfl 3 (Nat.le_of_ble_eq_true rfl) (List.mem_of_getElem? (i := 1) rfl) (v := .ref (p 0)) rfl dX4_put_67 70 rfl ?_
      refine z_get C zc2 iX4_put_X2 1 0 rfl rfl 1 (Nat.le_of_ble_eq_true rfl) (List.mem_of_getElem? (i := 2) rfl) (v := .int (nI (len + d))) rfl dX4_put_70 73 rfl ?_
      obtain rfl : d = a := by omega
      exact z_iret C hRx dX4_put_73 () rfl trivial rfl
  refine z_eq (lv2 := [(0, .ref (x 0)), (1, .long (lN w)), (3, .int (nI a)), (4, .int (nI (a - 0) + (-1)))]) ?_ rfl (by rw [show nI (a - 0) + (-1) = nI (a - 1) from by rw [show a - 0 = (a - 1) + 1 by omega]; exact pk_m1 _]) rfl
  exact loop36 _ 0 rfl (by omega)

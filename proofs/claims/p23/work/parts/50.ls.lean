/-! LS: the states at the law's start. -/
def iniS : oS := (fiS, (fun _ _ => 0), 0, (fun _ => false), (fun _ => fiS), (fun _ _ _ => 0), (fun _ => 0), 0, 0, (fun _ => fiS), (fun _ _ _ => 0), (fun _ => 0), (fun _ => 0), 0)
def iniJ : oJ := (fiS, (fun _ _ => 0), 0, (fun _ => 0), (fun _ => 0), (fun _ => 0), (fun _ => 0), (fun _ => 0), (fun _ => 0), (fun _ => 0), (fun _ => 0), 0, 0, 0, 0, 0, 0, 0, 0, 0, 0, 0, nI 0, nI 0, nI 0, nI 0, fiS, (fun _ _ => 0), 0)
/-- a setting is changed -/
def sW (S : oS) (k v : Nat) : oS := uPush S (un (sSt S) k v) (sR S) (sN S)
/-- an object without jobs -/
def E0 (S : oS) : Prop := INV S ∧ sN S = 0
theorem E0_ini : E0 iniS := ⟨⟨GB_ini, Nat.zero_le _, by decide, fun e he => absurd he (Nat.not_lt_zero e), fun k _ h => absurd (show (false : Bool) = true from h) (by decide), IT_0⟩, rfl⟩
theorem E0_GB {st : Nat → Nat} {r : Nat → Nat → Nat} {n : Nat} (h : okS st) (hn : n = 0) : GB st r n := by
  subst hn
  exact ⟨by omega, h, fun j hj => by omega, fun j hj => by omega⟩
theorem E0_sW {S : oS} {k v : Nat} (h : E0 S) (hk : k ≤ 6) (h1 : leS k ≤ v) (h2 : v ≤ moS k) : E0 (sW S k v) := ⟨INV_push h.1 (E0_GB (okS_un h.1.1.2.1 hk h1 h2) h.2), h.2⟩
theorem E0_mND {st : Nat → Nat} {r : Nat → Nat → Nat} {n R : Nat} (hn : n = 0) : mND st r n ≤ R := by
  subst hn
  exact Nat.zero_le R
theorem E0_save {S : oS} (h : E0 S) (k : Nat) : E0 (uSave S k) := ⟨INV_save h.1 k, h.2⟩
theorem REL_start {S T : oS} (hD : DB (sSt S) (sR S) (sN S) (sSt T) (sR T) (sN T)) (h1 : sKp T = sKp S) (h2 : sNx T = sNx S) : REL (uSave (uSave S 0) 1) (uSave (uSave T 0) 1) 0 := by
  refine ⟨hD, h1, h2, fun e a b => ?_, fun k hk => ?_⟩
  · have a : sKp S ≤ e + 0 := a
    have b : e < sKp S := b
    omega
  · rcases (show k = 0 ∨ k = 1 by omega) with rfl | rfl
    · exact ⟨rfl, rfl, hD⟩
    · exact ⟨rfl, rfl, hD⟩
def oS5 : oS := sW (sW (sW (sW (sW iniS 0 10) 0 10) 0 10) 0 10) 0 10
def pS5 : oS := sW (sW (sW (sW (sW iniS 0 20) 1 30) 2 4) 3 8) 4 120
theorem dS_ini : dS (sSt oS5) (sSt pS5) := by
  refine ⟨fun k hk => ?_, by decide, by decide⟩
  rcases (show k = 0 ∨ k = 1 ∨ k = 2 ∨ k = 3 ∨ k = 4 by omega) with rfl | rfl | rfl | rfl | rfl <;> decide
theorem sW_n {S : oS} {k v : Nat} : sN (sW S k v) = sN S := rfl
theorem sW_kp {S : oS} {k v : Nat} : sKp (sW S k v) = min (sKp S + 1) 6 := rfl
theorem sW_nx {S : oS} {k v : Nat} : sNx (sW S k v) = if sNx S = 5 then 0 else sNx S + 1 := rfl
theorem sW_0 {S : oS} {v : Nat} : sSt (sW S 0 v) 0 = v := by
  show un (sSt S) 0 v 0 = v
  exact un_s
theorem oS5_n : sN oS5 = 0 := by
  unfold oS5
  rw [sW_n, sW_n, sW_n, sW_n, sW_n]
  rfl
theorem pS5_n : sN pS5 = 0 := by
  unfold pS5
  rw [sW_n, sW_n, sW_n, sW_n, sW_n]
  rfl
theorem oS5_kp : sKp oS5 = 5 := by
  unfold oS5
  rw [sW_kp, sW_kp, sW_kp, sW_kp, sW_kp]
  rfl
theorem pS5_kp : sKp pS5 = 5 := by
  unfold pS5
  rw [sW_kp, sW_kp, sW_kp, sW_kp, sW_kp]
  rfl
theorem oS5_nx : sNx oS5 = 5 := by
  unfold oS5
  rw [sW_nx, sW_nx, sW_nx, sW_nx, sW_nx]
  rfl
theorem pS5_nx : sNx pS5 = 5 := by
  unfold pS5
  rw [sW_nx, sW_nx, sW_nx, sW_nx, sW_nx]
  rfl
theorem REL_ini : REL (uSave (uSave oS5 0) 1) (uSave (uSave pS5 0) 1) 0 := by
  refine REL_start ⟨by rw [oS5_n, pS5_n], dS_ini, fun j hj => ?_⟩ (by rw [oS5_kp, pS5_kp]) (by rw [oS5_nx, pS5_nx])
  rw [oS5_n] at hj
  exact absurd hj (Nat.not_lt_zero j)
theorem oS5_10 : sSt (uSave (uSave oS5 0) 1) 0 = 10 := by
  show sSt (sW (sW (sW (sW (sW iniS 0 10) 0 10) 0 10) 0 10) 0 10) 0 = 10
  exact sW_0
theorem sW_s {S : oS} {k v j : Nat} (h : j ≠ k) : sSt (sW S k v) j = sSt S j := un_n h
theorem pS5_20 : sSt (uSave (uSave pS5 0) 1) 0 = 20 := by
  show sSt (sW (sW (sW (sW (sW iniS 0 20) 1 30) 2 4) 3 8) 4 120) 0 = 20
  rw [sW_s (by decide), sW_s (by decide), sW_s (by decide), sW_s (by decide)]
  exact sW_0
theorem REL_sW {S T : oS} {i : Nat} (hI : INV S) (h : REL S T i) : REL (sW S 0 10) (sW T 0 20) (i + 1) := REL_push hI h ⟨h.1.1, dS_un1 (v := 10) h.1.2.1 (by decide), h.1.2.2⟩
theorem tO_setW (l : Launch) (g : zG) (x : Nat → Nat) (a : oA) (S : oS) (J : oJ) (k v : Nat) (h0 : E0 S) (hk6 : k ≤ 6) (hv1 : leS k ≤ v) (hv2 : v ≤ moS k) : Met l yX4_set wsX4_set ({ frames := 3, cells := 0, slots := 0, locals := 103 } : Room) (zPreE g eSet [.ref (x 0), .int (nI k), .int (nI v)] [wO g x a S J]) (zQ g (fun J2 : oJ => some (.int (nI (sSt S k))) ) (fun J2 : oJ => True) (fun J2 : oJ => [wO g x a (sW S k v) J2]) (zA [wO g x a S J])) 0 0 (zA [wO g x a S J]) := tO_set_ok l g x a S J k v h0.1 hk6 hv1 hv2 (E0_mND h0.2)

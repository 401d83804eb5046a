/-! HI: the history. -/
/-- the place before, in the ring -/
def bkx (nx : Nat) : Nat := if nx = 0 then 5 else nx - 1

theorem iX1_remember_X1 : ∀ w ∈ u_ws RX1 TX1 3, w ∈ wsX1_remember := fun w h => (List.mem_cons_of_mem _ (List.mem_append_left _ (List.mem_append_right _ h)))
set_option maxHeartbeats 4000000 in
set_option maxRecDepth 100000 in
theorem tX1_remember (l : Launch) (g : zG) (h : Nat → Nat) (hb hs : Nat → Nat → Nat) (hr : Nat → Nat → Nat → Nat) (hn : Nat → Nat) (kp nx : Nat) (b st : Nat → Nat) (r : Nat → Nat → Nat) (n : Nat) (hk : kp ≤ 6) (hx : nx < 6) : Met l yX1_remember wsX1_remember ({ frames := 2, cells := 0, slots := 0, locals := 82 } : Room) (zPre g [.ref (h 0), .ref (b 0)] [wH g h hb kp nx, wB g (hb 0) (hs 0) (hr 0) (hn 0), wB g (hb 1) (hs 1) (hr 1) (hn 1), wB g (hb 2) (hs 2) (hr 2) (hn 2), wB g (hb 3) (hs 3) (hr 3) (hn 3), wB g (hb 4) (hs 4) (hr 4) (hn 4), wB g (hb 5) (hs 5) (hr 5) (hn 5), wB g b st r n]) (zQ g (fun _ : Unit => none ) (fun _ : Unit => True) (fun _ : Unit => [wH g h hb (min (kp + 1) 6) (if nx = 5 then 0 else nx + 1), wB g (hb 0) ((un hs nx st) 0) ((un hr nx r) 0) ((un hn nx n) 0), wB g (hb 1) ((un hs nx st) 1) ((un hr nx r) 1) ((un hn nx n) 1), wB g (hb 2) ((un hs nx st) 2) ((un hr nx r) 2) ((un hn nx n) 2), wB g (hb 3) ((un hs nx st) 3) ((un hr nx r) 3) ((un hn nx n) 3), wB g (hb 4) ((un hs nx st) 4) ((un hr nx r) 4) ((un hn nx n) 4), wB g (hb 5) ((un hs nx st) 5) ((un hr nx r) 5) ((un hn nx n) 5), wB g b st r n]) (zA [wH g h hb kp nx, wB g (hb 0) (hs 0) (hr 0) (hn 0), wB g (hb 1) (hs 1) (hr 1) (hn 1), wB g (hb 2) (hs 2) (hr 2) (hn 2), wB g (hb 3) (hs 3) (hr 3) (hn 3), wB g (hb 4) (hs 4) (hr 4) (hn 4), wB g (hb 5) (hs 5) (hr 5) (hn 5), wB g b st r n])) 0 0 (zA [wH g h hb kp nx, wB g (hb 0) (hs 0) (hr 0) (hn 0), wB g (hb 1) (hs 1) (hr 1) (hn 1), wB g (hb 2) (hs 2) (hr 2) (hn 2), wB g (hb 3) (hs 3) (hr 3) (hn 3), wB g (hb 4) (hs 4) (hr 4) (hn 4), wB g (hb 5) (hs 5) (hr 5) (hn 5), wB g b st r n]) := by
  refine z_entry (cc := cX1_remember) (maxL := 2) (ret := none) (own := RX1) (by decide) rfl rfl (Nat.le_of_ble_eq_true rfl) [(0, .ref (h 0)), (1, .ref (b 0))] rfl ?_
  intro K hKl hKg hnL C hRx
  subst hKl
  subst hKg
  rcases (show nx = 0 ∨ nx = 1 ∨ nx = 2 ∨ nx = 3 ∨ nx = 4 ∨ nx = 5 by omega) with rfl | rfl | rfl | rfl | rfl | rfl
  · skip
    refine z_aload_n C 0 rfl rfl dX1_remember_0 1 rfl ?_
    refine z_get C zc1 iX1_remember_X1 0 0 rfl rfl 1 (Nat.le_of_ble_eq_true rfl) (List.mem_of_getElem? (i := 1) rfl) (v := .ref (h 1)) rfl dX1_remember_1 4 rfl ?_
    refine z_aload_n C 0 rfl rfl dX1_remember_4 5 rfl ?_
    refine z_get C zc1 iX1_remember_X1 0 0 rfl rfl 2 (Nat.le_of_ble_eq_true rfl) (List.mem_of_getElem? (i := 2) rfl) (v := .int (nI 0)) rfl dX1_remember_5 8 rfl ?_
    refine z_aald C (y := ((hb 0) 0)) 0 1 2 rfl rfl rfl rfl (by omega) (by decide) rfl dX1_remember_8 9 rfl ?_
    refine z_aload_n C 1 rfl rfl dX1_remember_9 10 rfl ?_
    refine z_callV C [.ref (b 0)] [] (tX0_copyFrom K.l K.g (hb 0) (hs 0) (hr 0) (hn 0) b st r n ) gX1_remember_X0_copyFrom rfl rfl rfl hdX0_copyFrom ⟨Nat.le_of_ble_eq_true rfl, Nat.le_of_ble_eq_true rfl⟩ ⟨Nat.zero_le _, Nat.zero_le _⟩ 1 0 rfl rfl rfl [1, 7] rfl rfl (zlc (N := 8) rfl rfl) [0, 8, 2, 3, 4, 5, 6, 9] rfl (by decide) (fun _ : Unit => [wH K.g h hb kp 0, wB K.g (hb 0) st r n, wB K.g (hb 1) (hs 1) (hr 1) (hn 1), wB K.g (hb 2) (hs 2) (hr 2) (hn 2), wB K.g (hb 3) (hs 3) (hr 3) (hn 3), wB K.g (hb 4) (hs 4) (hr 4) (hn 4), wB K.g (hb 5) (hs 5) (hr 5) (hn 5), wB K.g b st r n]) (fun _ => rfl) rfl rfl (Nat.le_of_ble_eq_true rfl) dX1_remember_10 13 rfl (fun u9 hu9 => ?_)
    show Z K 0 0 [wH K.g h hb kp 0, wB K.g (hb 0) st r n, wB K.g (hb 1) (hs 1) (hr 1) (hn 1), wB K.g (hb 2) (hs 2) (hr 2) (hn 2), wB K.g (hb 3) (hs 3) (hr 3) (hn 3), wB K.g (hb 4) (hs 4) (hr 4) (hn 4), wB K.g (hb 5) (hs 5) (hr 5) (hn 5), wB K.g b st r n] [(0, .ref (h 0)), (1, .ref (b 0))] 13 []
    refine z_aload_n C 0 rfl rfl dX1_remember_13 14 rfl ?_
    refine z_aload_n C 0 rfl rfl dX1_remember_14 15 rfl ?_
    refine z_get C zc1 iX1_remember_X1 0 0 rfl rfl 2 (Nat.le_of_ble_eq_true rfl) (List.mem_of_getElem? (i := 2) rfl) (v := .int (nI 0)) rfl dX1_remember_15 18 rfl ?_
    refine z_iconst C (v := nI 5) rfl dX1_remember_18 19 rfl ?_
    refine z_icmp_ne C (by omega) (by omega) 26 dX1_remember_19 (by decide) 22 rfl (fun c_1 => ?_) (fun c_1 => ?_)
    rotate_left
    · exfalso; omega
    refine z_aload_n C 0 rfl rfl dX1_remember_26 27 rfl ?_
    refine z_get C zc1 iX1_remember_X1 0 0 rfl rfl 2 (Nat.le_of_ble_eq_true rfl) (List.mem_of_getElem? (i := 2) rfl) (v := .int (nI 0)) rfl dX1_remember_27 30 rfl ?_
    refine z_iconst C (v := nI 1) rfl dX1_remember_30 31 rfl ?_
    refine z_iadd C dX1_remember_31 32 rfl ?_
    refine z_put C zc1 iX1_remember_X1 0 0 rfl rfl 2 (Nat.le_of_ble_eq_true rfl) (List.mem_of_getElem? (i := 2) rfl) rfl rfl rfl (Nat.le_of_ble_eq_true rfl) (wH K.g h hb kp 1) rfl [wH K.g h hb kp 1, wB K.g (hb 0) st r n, wB K.g (hb 1) (hs 1) (hr 1) (hn 1), wB K.g (hb 2) (hs 2) (hr 2) (hn 2), wB K.g (hb 3) (hs 3) (hr 3) (hn 3), wB K.g (hb 4) (hs 4) (hr 4) (hn 4), wB K.g (hb 5) (hs 5) (hr 5) (hn 5), wB K.g b st r n] rfl dX1_remember_32 35 rfl ?_
    refine z_aload_n C 0 rfl rfl dX1_remember_35 36 rfl ?_
    refine z_aload_n C 0 rfl rfl dX1_remember_36 37 rfl ?_
    refine z_get C zc1 iX1_remember_X1 0 0 rfl rfl 0 (Nat.le_of_ble_eq_true rfl) (List.mem_of_getElem? (i := 3) rfl) (v := .int (nI kp)) rfl dX1_remember_37 40 rfl ?_
    refine z_iconst C (v := nI 1) rfl dX1_remember_40 41 rfl ?_
    refine z_iadd C dX1_remember_41 42 rfl ?_
    refine z_bipush C (v := nI 6) rfl dX1_remember_42 44 rfl ?_
    refine z_min C (List.mem_of_getElem? (i := 4) rfl) (List.mem_of_getElem? (i := 5) rfl) (List.mem_of_getElem? (i := 6) rfl) (List.mem_of_getElem? (i := 7) rfl) ⟨Nat.le_of_ble_eq_true rfl, Nat.le_of_ble_eq_true rfl⟩ ⟨Nat.zero_le _, Nat.zero_le _⟩ (by omega) (by omega) dX1_remember_44 47 rfl ?_
    refine z_put C zc1 iX1_remember_X1 0 0 rfl rfl 0 (Nat.le_of_ble_eq_true rfl) (List.mem_of_getElem? (i := 3) rfl) rfl rfl rfl (Nat.le_of_ble_eq_true rfl) (wH K.g h hb (min (kp + 1) 6) 1) rfl [wH K.g h hb (min (kp + 1) 6) 1, wB K.g (hb 0) st r n, wB K.g (hb 1) (hs 1) (hr 1) (hn 1), wB K.g (hb 2) (hs 2) (hr 2) (hn 2), wB K.g (hb 3) (hs 3) (hr 3) (hn 3), wB K.g (hb 4) (hs 4) (hr 4) (hn 4), wB K.g (hb 5) (hs 5) (hr 5) (hn 5), wB K.g b st r n] rfl dX1_remember_47 50 rfl ?_
    exact z_vret C hRx dX1_remember_50 () rfl trivial rfl
  · skip
    refine z_aload_n C 0 rfl rfl dX1_remember_0 1 rfl ?_
    refine z_get C zc1 iX1_remember_X1 0 0 rfl rfl 1 (Nat.le_of_ble_eq_true rfl) (List.mem_of_getElem? (i := 1) rfl) (v := .ref (h 1)) rfl dX1_remember_1 4 rfl ?_
    refine z_aload_n C 0 rfl rfl dX1_remember_4 5 rfl ?_
    refine z_get C zc1 iX1_remember_X1 0 0 rfl rfl 2 (Nat.le_of_ble_eq_true rfl) (List.mem_of_getElem? (i := 2) rfl) (v := .int (nI 1)) rfl dX1_remember_5 8 rfl ?_
    refine z_aald C (y := ((hb 1) 0)) 0 1 2 rfl rfl rfl rfl (by omega) (by decide) rfl dX1_remember_8 9 rfl ?_
    refine z_aload_n C 1 rfl rfl dX1_remember_9 10 rfl ?_
    refine z_callV C [.ref (b 0)] [] (tX0_copyFrom K.l K.g (hb 1) (hs 1) (hr 1) (hn 1) b st r n ) gX1_remember_X0_copyFrom rfl rfl rfl hdX0_copyFrom ⟨Nat.le_of_ble_eq_true rfl, Nat.le_of_ble_eq_true rfl⟩ ⟨Nat.zero_le _, Nat.zero_le _⟩ 2 0 rfl rfl rfl [2, 7] rfl rfl (zlc (N := 8) rfl rfl) [0, 1, 8, 3, 4, 5, 6, 9] rfl (by decide) (fun _ : Unit => [wH K.g h hb kp 1, wB K.g (hb 0) (hs 0) (hr 0) (hn 0), wB K.g (hb 1) st r n, wB K.g (hb 2) (hs 2) (hr 2) (hn 2), wB K.g (hb 3) (hs 3) (hr 3) (hn 3), wB K.g (hb 4) (hs 4) (hr 4) (hn 4), wB K.g (hb 5) (hs 5) (hr 5) (hn 5), wB K.g b st r n]) (fun _ => rfl) rfl rfl (Nat.le_of_ble_eq_true rfl) dX1_remember_10 13 rfl (fun u9 hu9 => ?_)
    show Z K 0 0 [wH K.g h hb kp 1, wB K.g (hb 0) (hs 0) (hr 0) (hn 0), wB K.g (hb 1) st r n, wB K.g (hb 2) (hs 2) (hr 2) (hn 2), wB K.g (hb 3) (hs 3) (hr 3) (hn 3), wB K.g (hb 4) (hs 4) (hr 4) (hn 4), wB K.g (hb 5) (hs 5) (hr 5) (hn 5), wB K.g b st r n] [(0, .ref (h 0)), (1, .ref (b 0))] 13 []
    refine z_aload_n C 0 rfl rfl dX1_remember_13 14 rfl ?_
    refine z_aload_n C 0 rfl rfl dX1_remember_14 15 rfl ?_
    refine z_get C zc1 iX1_remember_X1 0 0 rfl rfl 2 (Nat.le_of_ble_eq_true rfl) (List.mem_of_getElem? (i := 2) rfl) (v := .int (nI 1)) rfl dX1_remember_15 18 rfl ?_
    refine z_iconst C (v := nI 5) rfl dX1_remember_18 19 rfl ?_
    refine z_icmp_ne C (by omega) (by omega) 26 dX1_remember_19 (by decide) 22 rfl (fun c_2 => ?_) (fun c_2 => ?_)
    rotate_left
    · exfalso; omega
    refine z_aload_n C 0 rfl rfl dX1_remember_26 27 rfl ?_
    refine z_get C zc1 iX1_remember_X1 0 0 rfl rfl 2 (Nat.le_of_ble_eq_true rfl) (List.mem_of_getElem? (i := 2) rfl) (v := .int (nI 1)) rfl dX1_remember_27 30 rfl ?_
    refine z_iconst C (v := nI 1) rfl dX1_remember_30 31 rfl ?_
    refine z_iadd C dX1_remember_31 32 rfl ?_
    refine z_put C zc1 iX1_remember_X1 0 0 rfl rfl 2 (Nat.le_of_ble_eq_true rfl) (List.mem_of_getElem? (i := 2) rfl) rfl rfl rfl (Nat.le_of_ble_eq_true rfl) (wH K.g h hb kp 2) rfl [wH K.g h hb kp 2, wB K.g (hb 0) (hs 0) (hr 0) (hn 0), wB K.g (hb 1) st r n, wB K.g (hb 2) (hs 2) (hr 2) (hn 2), wB K.g (hb 3) (hs 3) (hr 3) (hn 3), wB K.g (hb 4) (hs 4) (hr 4) (hn 4), wB K.g (hb 5) (hs 5) (hr 5) (hn 5), wB K.g b st r n] rfl dX1_remember_32 35 rfl ?_
    refine z_aload_n C 0 rfl rfl dX1_remember_35 36 rfl ?_
    refine z_aload_n C 0 rfl rfl dX1_remember_36 37 rfl ?_
    refine z_get C zc1 iX1_remember_X1 0 0 rfl rfl 0 (Nat.le_of_ble_eq_true rfl) (List.mem_of_getElem? (i := 3) rfl) (v := .int (nI kp)) rfl dX1_remember_37 40 rfl ?_
    refine z_iconst C (v := nI 1) rfl dX1_remember_40 41 rfl ?_
    refine z_iadd C dX1_remember_41 42 rfl ?_
    refine z_bipush C (v := nI 6) rfl dX1_remember_42 44 rfl ?_
    refine z_min C (List.mem_of_getElem? (i := 4) rfl) (List.mem_of_getElem? (i := 5) rfl) (List.mem_of_getElem? (i := 6) rfl) (List.mem_of_getElem? (i := 7) rfl) ⟨Nat.le_of_ble_eq_true rfl, Nat.le_of_ble_eq_true rfl⟩ ⟨Nat.zero_le _, Nat.zero_le _⟩ (by omega) (by omega) dX1_remember_44 47 rfl ?_
    refine z_put C zc1 iX1_remember_X1 0 0 rfl rfl 0 (Nat.le_of_ble_eq_true rfl) (List.mem_of_getElem? (i := 3) rfl) rfl rfl rfl (Nat.le_of_ble_eq_true rfl) (wH K.g h hb (min (kp + 1) 6) 2) rfl [wH K.g h hb (min (kp + 1) 6) 2, wB K.g (hb 0) (hs 0) (hr 0) (hn 0), wB K.g (hb 1) st r n, wB K.g (hb 2) (hs 2) (hr 2) (hn 2), wB K.g (hb 3) (hs 3) (hr 3) (hn 3), wB K.g (hb 4) (hs 4) (hr 4) (hn 4), wB K.g (hb 5) (hs 5) (hr 5) (hn 5), wB K.g b st r n] rfl dX1_remember_47 50 rfl ?_
    exact z_vret C hRx dX1_remember_50 () rfl trivial rfl
  · skip
    refine z_aload_n C 0 rfl rfl dX1_remember_0 1 rfl ?_
    refine z_get C zc1 iX1_remember_X1 0 0 rfl rfl 1 (Nat.le_of_ble_eq_true rfl) (List.mem_of_getElem? (i := 1) rfl) (v := .ref (h 1)) rfl dX1_remember_1 4 rfl ?_
    refine z_aload_n C 0 rfl rfl dX1_remember_4 5 rfl ?_
    refine z_get C zc1 iX1_remember_X1 0 0 rfl rfl 2 (Nat.le_of_ble_eq_true rfl) (List.mem_of_getElem? (i := 2) rfl) (v := .int (nI 2)) rfl dX1_remember_5 8 rfl ?_
    refine z_aald C (y := ((hb 2) 0)) 0 1 2 rfl rfl rfl rfl (by omega) (by decide) rfl dX1_remember_8 9 rfl ?_
    refine z_aload_n C 1 rfl rfl dX1_remember_9 10 rfl ?_
    refine z_callV C [.ref (b 0)] [] (tX0_copyFrom K.l K.g (hb 2) (hs 2) (hr 2) (hn 2) b st r n ) gX1_remember_X0_copyFrom rfl rfl rfl hdX0_copyFrom ⟨Nat.le_of_ble_eq_true rfl, Nat.le_of_ble_eq_true rfl⟩ ⟨Nat.zero_le _, Nat.zero_le _⟩ 3 0 rfl rfl rfl [3, 7] rfl rfl (zlc (N := 8) rfl rfl) [0, 1, 2, 8, 4, 5, 6, 9] rfl (by decide) (fun _ : Unit => [wH K.g h hb kp 2, wB K.g (hb 0) (hs 0) (hr 0) (hn 0), wB K.g (hb 1) (hs 1) (hr 1) (hn 1), wB K.g (hb 2) st r n, wB K.g (hb 3) (hs 3) (hr 3) (hn 3), wB K.g (hb 4) (hs 4) (hr 4) (hn 4), wB K.g (hb 5) (hs 5) (hr 5) (hn 5), wB K.g b st r n]) (fun _ => rfl) rfl rfl (Nat.le_of_ble_eq_true rfl) dX1_remember_10 13 rfl (fun u9 hu9 => ?_)
    show Z K 0 0 [wH K.g h hb kp 2, wB K.g (hb 0) (hs 0) (hr 0) (hn 0), wB K.g (hb 1) (hs 1) (hr 1) (hn 1), wB K.g (hb 2) st r n, wB K.g (hb 3) (hs 3) (hr 3) (hn 3), wB K.g (hb 4) (hs 4) (hr 4) (hn 4), wB K.g (hb 5) (hs 5) (hr 5) (hn 5), wB K.g b st r n] [(0, .ref (h 0)), (1, .ref (b 0))] 13 []
    refine z_aload_n C 0 rfl rfl dX1_remember_13 14 rfl ?_
    refine z_aload_n C 0 rfl rfl dX1_remember_14 15 rfl ?_
    refine z_get C zc1 iX1_remember_X1 0 0 rfl rfl 2 (Nat.le_of_ble_eq_true rfl) (List.mem_of_getElem? (i := 2) rfl) (v := .int (nI 2)) rfl dX1_remember_15 18 rfl ?_
    refine z_iconst C (v := nI 5) rfl dX1_remember_18 19 rfl ?_
    refine z_icmp_ne C (by omega) (by omega) 26 dX1_remember_19 (by decide) 22 rfl (fun c_3 => ?_) (fun c_3 => ?_)
    rotate_left
    · exfalso; omega
    refine z_aload_n C 0 rfl rfl dX1_remember_26 27 rfl ?_
    refine z_get C zc1 iX1_remember_X1 0 0 rfl rfl 2 (Nat.le_of_ble_eq_true rfl) (List.mem_of_getElem? (i := 2) rfl) (v := .int (nI 2)) rfl dX1_remember_27 30 rfl ?_
    refine z_iconst C (v := nI 1) rfl dX1_remember_30 31 rfl ?_
    refine z_iadd C dX1_remember_31 32 rfl ?_
    refine z_put C zc1 iX1_remember_X1 0 0 rfl rfl 2 (Nat.le_of_ble_eq_true rfl) (List.mem_of_getElem? (i := 2) rfl) rfl rfl rfl (Nat.le_of_ble_eq_true rfl) (wH K.g h hb kp 3) rfl [wH K.g h hb kp 3, wB K.g (hb 0) (hs 0) (hr 0) (hn 0), wB K.g (hb 1) (hs 1) (hr 1) (hn 1), wB K.g (hb 2) st r n, wB K.g (hb 3) (hs 3) (hr 3) (hn 3), wB K.g (hb 4) (hs 4) (hr 4) (hn 4), wB K.g (hb 5) (hs 5) (hr 5) (hn 5), wB K.g b st r n] rfl dX1_remember_32 35 rfl ?_
    refine z_aload_n C 0 rfl rfl dX1_remember_35 36 rfl ?_
    refine z_aload_n C 0 rfl rfl dX1_remember_36 37 rfl ?_
    refine z_get C zc1 iX1_remember_X1 0 0 rfl rfl 0 (Nat.le_of_ble_eq_true rfl) (List.mem_of_getElem? (i := 3) rfl) (v := .int (nI kp)) rfl dX1_remember_37 40 rfl ?_
    refine z_iconst C (v := nI 1) rfl dX1_remember_40 41 rfl ?_
    refine z_iadd C dX1_remember_41 42 rfl ?_
    refine z_bipush C (v := nI 6) rfl dX1_remember_42 44 rfl ?_
    refine z_min C (List.mem_of_getElem? (i := 4) rfl) (List.mem_of_getElem? (i := 5) rfl) (List.mem_of_getElem? (i := 6) rfl) (List.mem_of_getElem? (i := 7) rfl) ⟨Nat.le_of_ble_eq_true rfl, Nat.le_of_ble_eq_true rfl⟩ ⟨Nat.zero_le _, Nat.zero_le _⟩ (by omega) (by omega) dX1_remember_44 47 rfl ?_
    refine z_put C zc1 iX1_remember_X1 0 0 rfl rfl 0 (Nat.le_of_ble_eq_true rfl) (List.mem_of_getElem? (i := 3) rfl) rfl rfl rfl (Nat.le_of_ble_eq_true rfl) (wH K.g h hb (min (kp + 1) 6) 3) rfl [wH K.g h hb (min (kp + 1) 6) 3, wB K.g (hb 0) (hs 0) (hr 0) (hn 0), wB K.g (hb 1) (hs 1) (hr 1) (hn 1), wB K.g (hb 2) st r n, wB K.g (hb 3) (hs 3) (hr 3) (hn 3), wB K.g (hb 4) (hs 4) (hr 4) (hn 4), wB K.g (hb 5) (hs 5) (hr 5) (hn 5), wB K.g b st r n] rfl dX1_remember_47 50 rfl ?_
    exact z_vret C hRx dX1_remember_50 () rfl trivial rfl
  · skip
    refine z_aload_n C 0 rfl rfl dX1_remember_0 1 rfl ?_
    refine z_get C zc1 iX1_remember_X1 0 0 rfl rfl 1 (Nat.le_of_ble_eq_true rfl) (List.mem_of_getElem? (i := 1) rfl) (v := .ref (h 1)) rfl dX1_remember_1 4 rfl ?_
    refine z_aload_n C 0 rfl rfl dX1_remember_4 5 rfl ?_
    refine z_get C zc1 iX1_remember_X1 0 0 rfl rfl 2 (Nat.le_of_ble_eq_true rfl) (List.mem_of_getElem? (i := 2) rfl) (v := .int (nI 3)) rfl dX1_remember_5 8 rfl ?_
    refine z_aald C (y := ((hb 3) 0)) 0 1 2 rfl rfl rfl rfl (by omega) (by decide) rfl dX1_remember_8 9 rfl ?_
    refine z_aload_n C 1 rfl rfl dX1_remember_9 10 rfl ?_
    refine z_callV C [.ref (b 0)] [] (tX0_copyFrom K.l K.g (hb 3) (hs 3) (hr 3) (hn 3) b st r n ) gX1_remember_X0_copyFrom rfl rfl rfl hdX0_copyFrom ⟨Nat.le_of_ble_eq_true rfl, Nat.le_of_ble_eq_true rfl⟩ ⟨Nat.zero_le _, Nat.zero_le _⟩ 4 0 rfl rfl rfl [4, 7] rfl rfl (zlc (N := 8) rfl rfl) [0, 1, 2, 3, 8, 5, 6, 9] rfl (by decide) (fun _ : Unit => [wH K.g h hb kp 3, wB K.g (hb 0) (hs 0) (hr 0) (hn 0), wB K.g (hb 1) (hs 1) (hr 1) (hn 1), wB K.g (hb 2) (hs 2) (hr 2) (hn 2), wB K.g (hb 3) st r n, wB K.g (hb 4) (hs 4) (hr 4) (hn 4), wB K.g (hb 5) (hs 5) (hr 5) (hn 5), wB K.g b st r n]) (fun _ => rfl) rfl rfl (Nat.le_of_ble_eq_true rfl) dX1_remember_10 13 rfl (fun u9 hu9 => ?_)
    show Z K 0 0 [wH K.g h hb kp 3, wB K.g (hb 0) (hs 0) (hr 0) (hn 0), wB K.g (hb 1) (hs 1) (hr 1) (hn 1), wB K.g (hb 2) (hs 2) (hr 2) (hn 2), wB K.g (hb 3) st r n, wB K.g (hb 4) (hs 4) (hr 4) (hn 4), wB K.g (hb 5) (hs 5) (hr 5) (hn 5), wB K.g b st r n] [(0, .ref (h 0)), (1, .ref (b 0))] 13 []
    refine z_aload_n C 0 rfl rfl dX1_remember_13 14 rfl ?_
    refine z_aload_n C 0 rfl rfl dX1_remember_14 15 rfl ?_
    refine z_get C zc1 iX1_remember_X1 0 0 rfl rfl 2 (Nat.le_of_ble_eq_true rfl) (List.mem_of_getElem? (i := 2) rfl) (v := .int (nI 3)) rfl dX1_remember_15 18 rfl ?_
    refine z_iconst C (v := nI 5) rfl dX1_remember_18 19 rfl ?_
    refine z_icmp_ne C (by omega) (by omega) 26 dX1_remember_19 (by decide) 22 rfl (fun c_4 => ?_) (fun c_4 => ?_)
    rotate_left
    · exfalso; omega
    refine z_aload_n C 0 rfl rfl dX1_remember_26 27 rfl ?_
    refine z_get C zc1 iX1_remember_X1 0 0 rfl rfl 2 (Nat.le_of_ble_eq_true rfl) (List.mem_of_getElem? (i := 2) rfl) (v := .int (nI 3)) rfl dX1_remember_27 30 rfl ?_
    refine z_iconst C (v := nI 1) rfl dX1_remember_30 31 rfl ?_
    refine z_iadd C dX1_remember_31 32 rfl ?_
    refine z_put C zc1 iX1_remember_X1 0 0 rfl rfl 2 (Nat.le_of_ble_eq_true rfl) (List.mem_of_getElem? (i := 2) rfl) rfl rfl rfl (Nat.le_of_ble_eq_true rfl) (wH K.g h hb kp 4) rfl [wH K.g h hb kp 4, wB K.g (hb 0) (hs 0) (hr 0) (hn 0), wB K.g (hb 1) (hs 1) (hr 1) (hn 1), wB K.g (hb 2) (hs 2) (hr 2) (hn 2), wB K.g (hb 3) st r n, wB K.g (hb 4) (hs 4) (hr 4) (hn 4), wB K.g (hb 5) (hs 5) (hr 5) (hn 5), wB K.g b st r n] rfl dX1_remember_32 35 rfl ?_
    refine z_aload_n C 0 rfl rfl dX1_remember_35 36 rfl ?_
    refine z_aload_n C 0 rfl rfl dX1_remember_36 37 rfl ?_
    refine z_get C zc1 iX1_remember_X1 0 0 rfl rfl 0 (Nat.le_of_ble_eq_true rfl) (List.mem_of_getElem? (i := 3) rfl) (v := .int (nI kp)) rfl dX1_remember_37 40 rfl ?_
    refine z_iconst C (v := nI 1) rfl dX1_remember_40 41 rfl ?_
    refine z_iadd C dX1_remember_41 42 rfl ?_
    refine z_bipush C (v := nI 6) rfl dX1_remember_42 44 rfl ?_
    refine z_min C (List.mem_of_getElem? (i := 4) rfl) (List.mem_of_getElem? (i := 5) rfl) (List.mem_of_getElem? (i := 6) rfl) (List.mem_of_getElem? (i := 7) rfl) ⟨Nat.le_of_ble_eq_true rfl, Nat.le_of_ble_eq_true rfl⟩ ⟨Nat.zero_le _, Nat.zero_le _⟩ (by omega) (by omega) dX1_remember_44 47 rfl ?_
    refine z_put C zc1 iX1_remember_X1 0 0 rfl rfl 0 (Nat.le_of_ble_eq_true rfl) (List.mem_of_getElem? (i := 3) rfl) rfl rfl rfl (Nat.le_of_ble_eq_true rfl) (wH K.g h hb (min (kp + 1) 6) 4) rfl [wH K.g h hb (min (kp + 1) 6) 4, wB K.g (hb 0) (hs 0) (hr 0) (hn 0), wB K.g (hb 1) (hs 1) (hr 1) (hn 1), wB K.g (hb 2) (hs 2) (hr 2) (hn 2), wB K.g (hb 3) st r n, wB K.g (hb 4) (hs 4) (hr 4) (hn 4), wB K.g (hb 5) (hs 5) (hr 5) (hn 5), wB K.g b st r n] rfl dX1_remember_47 50 rfl ?_
    exact z_vret C hRx dX1_remember_50 () rfl trivial rfl
  · skip
    refine z_aload_n C 0 rfl rfl dX1_remember_0 1 rfl ?_
    refine z_get C zc1 iX1_remember_X1 0 0 rfl rfl 1 (Nat.le_of_ble_eq_true rfl) (List.mem_of_getElem? (i := 1) rfl) (v := .ref (h 1)) rfl dX1_remember_1 4 rfl ?_
    refine z_aload_n C 0 rfl rfl dX1_remember_4 5 rfl ?_
    refine z_get C zc1 iX1_remember_X1 0 0 rfl rfl 2 (Nat.le_of_ble_eq_true rfl) (List.mem_of_getElem? (i := 2) rfl) (v := .int (nI 4)) rfl dX1_remember_5 8 rfl ?_
    refine z_aald C (y := ((hb 4) 0)) 0 1 2 rfl rfl rfl rfl (by omega) (by decide) rfl dX1_remember_8 9 rfl ?_
    refine z_aload_n C 1 rfl rfl dX1_remember_9 10 rfl ?_
    refine z_callV C [.ref (b 0)] [] (tX0_copyFrom K.l K.g (hb 4) (hs 4) (hr 4) (hn 4) b st r n ) gX1_remember_X0_copyFrom rfl rfl rfl hdX0_copyFrom ⟨Nat.le_of_ble_eq_true rfl, Nat.le_of_ble_eq_true rfl⟩ ⟨Nat.zero_le _, Nat.zero_le _⟩ 5 0 rfl rfl rfl [5, 7] rfl rfl (zlc (N := 8) rfl rfl) [0, 1, 2, 3, 4, 8, 6, 9] rfl (by decide) (fun _ : Unit => [wH K.g h hb kp 4, wB K.g (hb 0) (hs 0) (hr 0) (hn 0), wB K.g (hb 1) (hs 1) (hr 1) (hn 1), wB K.g (hb 2) (hs 2) (hr 2) (hn 2), wB K.g (hb 3) (hs 3) (hr 3) (hn 3), wB K.g (hb 4) st r n, wB K.g (hb 5) (hs 5) (hr 5) (hn 5), wB K.g b st r n]) (fun _ => rfl) rfl rfl (Nat.le_of_ble_eq_true rfl) dX1_remember_10 13 rfl (fun u9 hu9 => ?_)
    show Z K 0 0 [wH K.g h hb kp 4, wB K.g (hb 0) (hs 0) (hr 0) (hn 0), wB K.g (hb 1) (hs 1) (hr 1) (hn 1), wB K.g (hb 2) (hs 2) (hr 2) (hn 2), wB K.g (hb 3) (hs 3) (hr 3) (hn 3), wB K.g (hb 4) st r n, wB K.g (hb 5) (hs 5) (hr 5) (hn 5), wB K.g b st r n] [(0, .ref (h 0)), (1, .ref (b 0))] 13 []
    refine z_aload_n C 0 rfl rfl dX1_remember_13 14 rfl ?_
    refine z_aload_n C 0 rfl rfl dX1_remember_14 15 rfl ?_
    refine z_get C zc1 iX1_remember_X1 0 0 rfl rfl 2 (Nat.le_of_ble_eq_true rfl) (List.mem_of_getElem? (i := 2) rfl) (v := .int (nI 4)) rfl dX1_remember_15 18 rfl ?_
    refine z_iconst C (v := nI 5) rfl dX1_remember_18 19 rfl ?_
    refine z_icmp_ne C (by omega) (by omega) 26 dX1_remember_19 (by decide) 22 rfl (fun c_5 => ?_) (fun c_5 => ?_)
    rotate_left
    · exfalso; omega
    refine z_aload_n C 0 rfl rfl dX1_remember_26 27 rfl ?_
    refine z_get C zc1 iX1_remember_X1 0 0 rfl rfl 2 (Nat.le_of_ble_eq_true rfl) (List.mem_of_getElem? (i := 2) rfl) (v := .int (nI 4)) rfl dX1_remember_27 30 rfl ?_
    refine z_iconst C (v := nI 1) rfl dX1_remember_30 31 rfl ?_
    refine z_iadd C dX1_remember_31 32 rfl ?_
    refine z_put C zc1 iX1_remember_X1 0 0 rfl rfl 2 (Nat.le_of_ble_eq_true rfl) (List.mem_of_getElem? (i := 2) rfl) rfl rfl rfl (Nat.le_of_ble_eq_true rfl) (wH K.g h hb kp 5) rfl [wH K.g h hb kp 5, wB K.g (hb 0) (hs 0) (hr 0) (hn 0), wB K.g (hb 1) (hs 1) (hr 1) (hn 1), wB K.g (hb 2) (hs 2) (hr 2) (hn 2), wB K.g (hb 3) (hs 3) (hr 3) (hn 3), wB K.g (hb 4) st r n, wB K.g (hb 5) (hs 5) (hr 5) (hn 5), wB K.g b st r n] rfl dX1_remember_32 35 rfl ?_
    refine z_aload_n C 0 rfl rfl dX1_remember_35 36 rfl ?_
    refine z_aload_n C 0 rfl rfl dX1_remember_36 37 rfl ?_
    refine z_get C zc1 iX1_remember_X1 0 0 rfl rfl 0 (Nat.le_of_ble_eq_true rfl) (List.mem_of_getElem? (i := 3) rfl) (v := .int (nI kp)) rfl dX1_remember_37 40 rfl ?_
    refine z_iconst C (v := nI 1) rfl dX1_remember_40 41 rfl ?_
    refine z_iadd C dX1_remember_41 42 rfl ?_
    refine z_bipush C (v := nI 6) rfl dX1_remember_42 44 rfl ?_
    refine z_min C (List.mem_of_getElem? (i := 4) rfl) (List.mem_of_getElem? (i := 5) rfl) (List.mem_of_getElem? (i := 6) rfl) (List.mem_of_getElem? (i := 7) rfl) ⟨Nat.le_of_ble_eq_true rfl, Nat.le_of_ble_eq_true rfl⟩ ⟨Nat.zero_le _, Nat.zero_le _⟩ (by omega) (by omega) dX1_remember_44 47 rfl ?_
    refine z_put C zc1 iX1_remember_X1 0 0 rfl rfl 0 (Nat.le_of_ble_eq_true rfl) (List.mem_of_getElem? (i := 3) rfl) rfl rfl rfl (Nat.le_of_ble_eq_true rfl) (wH K.g h hb (min (kp + 1) 6) 5) rfl [wH K.g h hb (min (kp + 1) 6) 5, wB K.g (hb 0) (hs 0) (hr 0) (hn 0), wB K.g (hb 1) (hs 1) (hr 1) (hn 1), wB K.g (hb 2) (hs 2) (hr 2) (hn 2), wB K.g (hb 3) (hs 3) (hr 3) (hn 3), wB K.g (hb 4) st r n, wB K.g (hb 5) (hs 5) (hr 5) (hn 5), wB K.g b st r n] rfl dX1_remember_47 50 rfl ?_
    exact z_vret C hRx dX1_remember_50 () rfl trivial rfl
  · skip
    refine z_aload_n C 0 rfl rfl dX1_remember_0 1 rfl ?_
    refine z_get C zc1 iX1_remember_X1 0 0 rfl rfl 1 (Nat.le_of_ble_eq_true rfl) (List.mem_of_getElem? (i := 1) rfl) (v := .ref (h 1)) rfl dX1_remember_1 4 rfl ?_
    refine z_aload_n C 0 rfl rfl dX1_remember_4 5 rfl ?_
    refine z_get C zc1 iX1_remember_X1 0 0 rfl rfl 2 (Nat.le_of_ble_eq_true rfl) (List.mem_of_getElem? (i := 2) rfl) (v := .int (nI 5)) rfl dX1_remember_5 8 rfl ?_
    refine z_aald C (y := ((hb 5) 0)) 0 1 2 rfl rfl rfl rfl (by omega) (by decide) rfl dX1_remember_8 9 rfl ?_
    refine z_aload_n C 1 rfl rfl dX1_remember_9 10 rfl ?_
    refine z_callV C [.ref (b 0)] [] (tX0_copyFrom K.l K.g (hb 5) (hs 5) (hr 5) (hn 5) b st r n ) gX1_remember_X0_copyFrom rfl rfl rfl hdX0_copyFrom ⟨Nat.le_of_ble_eq_true rfl, Nat.le_of_ble_eq_true rfl⟩ ⟨Nat.zero_le _, Nat.zero_le _⟩ 6 0 rfl rfl rfl [6, 7] rfl rfl (zlc (N := 8) rfl rfl) [0, 1, 2, 3, 4, 5, 8, 9] rfl (by decide) (fun _ : Unit => [wH K.g h hb kp 5, wB K.g (hb 0) (hs 0) (hr 0) (hn 0), wB K.g (hb 1) (hs 1) (hr 1) (hn 1), wB K.g (hb 2) (hs 2) (hr 2) (hn 2), wB K.g (hb 3) (hs 3) (hr 3) (hn 3), wB K.g (hb 4) (hs 4) (hr 4) (hn 4), wB K.g (hb 5) st r n, wB K.g b st r n]) (fun _ => rfl) rfl rfl (Nat.le_of_ble_eq_true rfl) dX1_remember_10 13 rfl (fun u9 hu9 => ?_)
    show Z K 0 0 [wH K.g h hb kp 5, wB K.g (hb 0) (hs 0) (hr 0) (hn 0), wB K.g (hb 1) (hs 1) (hr 1) (hn 1), wB K.g (hb 2) (hs 2) (hr 2) (hn 2), wB K.g (hb 3) (hs 3) (hr 3) (hn 3), wB K.g (hb 4) (hs 4) (hr 4) (hn 4), wB K.g (hb 5) st r n, wB K.g b st r n] [(0, .ref (h 0)), (1, .ref (b 0))] 13 []
    refine z_aload_n C 0 rfl rfl dX1_remember_13 14 rfl ?_
    refine z_aload_n C 0 rfl rfl dX1_remember_14 15 rfl ?_
    refine z_get C zc1 iX1_remember_X1 0 0 rfl rfl 2 (Nat.le_of_ble_eq_true rfl) (List.mem_of_getElem? (i := 2) rfl) (v := .int (nI 5)) rfl dX1_remember_15 18 rfl ?_
    refine z_iconst C (v := nI 5) rfl dX1_remember_18 19 rfl ?_
    refine z_icmp_ne C (by omega) (by omega) 26 dX1_remember_19 (by decide) 22 rfl (fun c_6 => ?_) (fun c_6 => ?_)
    · exfalso; omega
    refine z_iconst C (v := nI 0) rfl dX1_remember_22 23 rfl ?_
    refine z_goto C 32 dX1_remember_23 (by decide) ?_
    refine z_put C zc1 iX1_remember_X1 0 0 rfl rfl 2 (Nat.le_of_ble_eq_true rfl) (List.mem_of_getElem? (i := 2) rfl) rfl rfl rfl (Nat.le_of_ble_eq_true rfl) (wH K.g h hb kp 0) rfl [wH K.g h hb kp 0, wB K.g (hb 0) (hs 0) (hr 0) (hn 0), wB K.g (hb 1) (hs 1) (hr 1) (hn 1), wB K.g (hb 2) (hs 2) (hr 2) (hn 2), wB K.g (hb 3) (hs 3) (hr 3) (hn 3), wB K.g (hb 4) (hs 4) (hr 4) (hn 4), wB K.g (hb 5) st r n, wB K.g b st r n] rfl dX1_remember_32 35 rfl ?_
    refine z_aload_n C 0 rfl rfl dX1_remember_35 36 rfl ?_
    refine z_aload_n C 0 rfl rfl dX1_remember_36 37 rfl ?_
    refine z_get C zc1 iX1_remember_X1 0 0 rfl rfl 0 (Nat.le_of_ble_eq_true rfl) (List.mem_of_getElem? (i := 3) rfl) (v := .int (nI kp)) rfl dX1_remember_37 40 rfl ?_
    refine z_iconst C (v := nI 1) rfl dX1_remember_40 41 rfl ?_
    refine z_iadd C dX1_remember_41 42 rfl ?_
    refine z_bipush C (v := nI 6) rfl dX1_remember_42 44 rfl ?_
    refine z_min C (List.mem_of_getElem? (i := 4) rfl) (List.mem_of_getElem? (i := 5) rfl) (List.mem_of_getElem? (i := 6) rfl) (List.mem_of_getElem? (i := 7) rfl) ⟨Nat.le_of_ble_eq_true rfl, Nat.le_of_ble_eq_true rfl⟩ ⟨Nat.zero_le _, Nat.zero_le _⟩ (by omega) (by omega) dX1_remember_44 47 rfl ?_
    refine z_put C zc1 iX1_remember_X1 0 0 rfl rfl 0 (Nat.le_of_ble_eq_true rfl) (List.mem_of_getElem? (i := 3) rfl) rfl rfl rfl (Nat.le_of_ble_eq_true rfl) (wH K.g h hb (min (kp + 1) 6) 0) rfl [wH K.g h hb (min (kp + 1) 6) 0, wB K.g (hb 0) (hs 0) (hr 0) (hn 0), wB K.g (hb 1) (hs 1) (hr 1) (hn 1), wB K.g (hb 2) (hs 2) (hr 2) (hn 2), wB K.g (hb 3) (hs 3) (hr 3) (hn 3), wB K.g (hb 4) (hs 4) (hr 4) (hn 4), wB K.g (hb 5) st r n, wB K.g b st r n] rfl dX1_remember_47 50 rfl ?_
    exact z_vret C hRx dX1_remember_50 () rfl trivial rfl

theorem iX1_takeBack_X1 : ∀ w ∈ u_ws RX1 TX1 3, w ∈ wsX1_takeBack := fun w h => (List.mem_cons_of_mem _ (List.mem_append_left _ (List.mem_append_right _ h)))
set_option maxHeartbeats 4000000 in
set_option maxRecDepth 100000 in
theorem tX1_takeBack (l : Launch) (g : zG) (h : Nat → Nat) (hb hs : Nat → Nat → Nat) (hr : Nat → Nat → Nat → Nat) (hn : Nat → Nat) (kp nx : Nat) (b st : Nat → Nat) (r : Nat → Nat → Nat) (n : Nat) (hk : kp ≤ 6) (hx : nx < 6) (hk0 : 0 < kp) : Met l yX1_takeBack wsX1_takeBack ({ frames := 2, cells := 0, slots := 0, locals := 82 } : Room) (zPre g [.ref (h 0), .ref (b 0)] [wH g h hb kp nx, wB g (hb 0) (hs 0) (hr 0) (hn 0), wB g (hb 1) (hs 1) (hr 1) (hn 1), wB g (hb 2) (hs 2) (hr 2) (hn 2), wB g (hb 3) (hs 3) (hr 3) (hn 3), wB g (hb 4) (hs 4) (hr 4) (hn 4), wB g (hb 5) (hs 5) (hr 5) (hn 5), wB g b st r n]) (zQ g (fun _ : Unit => none ) (fun _ : Unit => True) (fun _ : Unit => [wH g h hb (kp - 1) (bkx nx), wB g (hb 0) (hs 0) (hr 0) (hn 0), wB g (hb 1) (hs 1) (hr 1) (hn 1), wB g (hb 2) (hs 2) (hr 2) (hn 2), wB g (hb 3) (hs 3) (hr 3) (hn 3), wB g (hb 4) (hs 4) (hr 4) (hn 4), wB g (hb 5) (hs 5) (hr 5) (hn 5), wB g b (hs (bkx nx)) (hr (bkx nx)) (hn (bkx nx))]) (zA [wH g h hb kp nx, wB g (hb 0) (hs 0) (hr 0) (hn 0), wB g (hb 1) (hs 1) (hr 1) (hn 1), wB g (hb 2) (hs 2) (hr 2) (hn 2), wB g (hb 3) (hs 3) (hr 3) (hn 3), wB g (hb 4) (hs 4) (hr 4) (hn 4), wB g (hb 5) (hs 5) (hr 5) (hn 5), wB g b st r n])) 0 0 (zA [wH g h hb kp nx, wB g (hb 0) (hs 0) (hr 0) (hn 0), wB g (hb 1) (hs 1) (hr 1) (hn 1), wB g (hb 2) (hs 2) (hr 2) (hn 2), wB g (hb 3) (hs 3) (hr 3) (hn 3), wB g (hb 4) (hs 4) (hr 4) (hn 4), wB g (hb 5) (hs 5) (hr 5) (hn 5), wB g b st r n]) := by
  refine z_entry (cc := cX1_takeBack) (maxL := 2) (ret := none) (own := RX1) (by decide) rfl rfl (Nat.le_of_ble_eq_true rfl) [(0, .ref (h 0)), (1, .ref (b 0))] rfl ?_
  intro K hKl hKg hnL C hRx
  subst hKl
  subst hKg
  rcases (show nx = 0 ∨ nx = 1 ∨ nx = 2 ∨ nx = 3 ∨ nx = 4 ∨ nx = 5 by omega) with rfl | rfl | rfl | rfl | rfl | rfl
  · skip
    refine z_aload_n C 0 rfl rfl dX1_takeBack_0 1 rfl ?_
    refine z_aload_n C 0 rfl rfl dX1_takeBack_1 2 rfl ?_
    refine z_get C zc1 iX1_takeBack_X1 0 0 rfl rfl 2 (Nat.le_of_ble_eq_true rfl) (List.mem_of_getElem? (i := 1) rfl) (v := .int (nI 0)) rfl dX1_takeBack_2 5 rfl ?_
    refine z_if_ne C (by omega) 12 dX1_takeBack_5 (by decide) 8 rfl (fun c_1 => ?_) (fun c_1 => ?_)
    · exfalso; omega
    refine z_iconst C (v := nI 5) rfl dX1_takeBack_8 9 rfl ?_
    refine z_goto C 18 dX1_takeBack_9 (by decide) ?_
    refine z_put C zc1 iX1_takeBack_X1 0 0 rfl rfl 2 (Nat.le_of_ble_eq_true rfl) (List.mem_of_getElem? (i := 1) rfl) rfl rfl rfl (Nat.le_of_ble_eq_true rfl) (wH K.g h hb kp 5) rfl [wH K.g h hb kp 5, wB K.g (hb 0) (hs 0) (hr 0) (hn 0), wB K.g (hb 1) (hs 1) (hr 1) (hn 1), wB K.g (hb 2) (hs 2) (hr 2) (hn 2), wB K.g (hb 3) (hs 3) (hr 3) (hn 3), wB K.g (hb 4) (hs 4) (hr 4) (hn 4), wB K.g (hb 5) (hs 5) (hr 5) (hn 5), wB K.g b st r n] rfl dX1_takeBack_18 21 rfl ?_
    refine z_aload_n C 0 rfl rfl dX1_takeBack_21 22 rfl ?_
    refine z_dup C rfl dX1_takeBack_22 23 rfl ?_
    refine z_get C zc1 iX1_takeBack_X1 0 0 rfl rfl 0 (Nat.le_of_ble_eq_true rfl) (List.mem_of_getElem? (i := 2) rfl) (v := .int (nI kp)) rfl dX1_takeBack_23 26 rfl ?_
    refine z_iconst C (v := nI 1) rfl dX1_takeBack_26 27 rfl ?_
    refine z_isub C (by omega) dX1_takeBack_27 28 rfl ?_
    refine z_put C zc1 iX1_takeBack_X1 0 0 rfl rfl 0 (Nat.le_of_ble_eq_true rfl) (List.mem_of_getElem? (i := 2) rfl) rfl rfl rfl (Nat.le_of_ble_eq_true rfl) (wH K.g h hb (kp - 1) 5) rfl [wH K.g h hb (kp - 1) 5, wB K.g (hb 0) (hs 0) (hr 0) (hn 0), wB K.g (hb 1) (hs 1) (hr 1) (hn 1), wB K.g (hb 2) (hs 2) (hr 2) (hn 2), wB K.g (hb 3) (hs 3) (hr 3) (hn 3), wB K.g (hb 4) (hs 4) (hr 4) (hn 4), wB K.g (hb 5) (hs 5) (hr 5) (hn 5), wB K.g b st r n] rfl dX1_takeBack_28 31 rfl ?_
    refine z_aload_n C 1 rfl rfl dX1_takeBack_31 32 rfl ?_
    refine z_aload_n C 0 rfl rfl dX1_takeBack_32 33 rfl ?_
    refine z_get C zc1 iX1_takeBack_X1 0 0 rfl rfl 1 (Nat.le_of_ble_eq_true rfl) (List.mem_of_getElem? (i := 3) rfl) (v := .ref (h 1)) rfl dX1_takeBack_33 36 rfl ?_
    refine z_aload_n C 0 rfl rfl dX1_takeBack_36 37 rfl ?_
    refine z_get C zc1 iX1_takeBack_X1 0 0 rfl rfl 2 (Nat.le_of_ble_eq_true rfl) (List.mem_of_getElem? (i := 1) rfl) (v := .int (nI 5)) rfl dX1_takeBack_37 40 rfl ?_
    refine z_aald C (y := ((hb 5) 0)) 0 1 2 rfl rfl rfl rfl (by omega) (by decide) rfl dX1_takeBack_40 41 rfl ?_
    refine z_callV C [.ref ((hb 5) 0)] [] (tX0_copyFrom K.l K.g b st r n (hb 5) (hs 5) (hr 5) (hn 5) ) gX1_takeBack_X0_copyFrom rfl rfl rfl hdX0_copyFrom ⟨Nat.le_of_ble_eq_true rfl, Nat.le_of_ble_eq_true rfl⟩ ⟨Nat.zero_le _, Nat.zero_le _⟩ 7 0 rfl rfl rfl [7, 6] rfl rfl (zlc (N := 8) rfl rfl) [0, 1, 2, 3, 4, 5, 9, 8] rfl (by decide) (fun _ : Unit => [wH K.g h hb (kp - 1) 5, wB K.g (hb 0) (hs 0) (hr 0) (hn 0), wB K.g (hb 1) (hs 1) (hr 1) (hn 1), wB K.g (hb 2) (hs 2) (hr 2) (hn 2), wB K.g (hb 3) (hs 3) (hr 3) (hn 3), wB K.g (hb 4) (hs 4) (hr 4) (hn 4), wB K.g (hb 5) (hs 5) (hr 5) (hn 5), wB K.g b (hs 5) (hr 5) (hn 5)]) (fun _ => rfl) rfl rfl (Nat.le_of_ble_eq_true rfl) dX1_takeBack_41 44 rfl (fun u9 hu9 => ?_)
    show Z K 0 0 [wH K.g h hb (kp - 1) 5, wB K.g (hb 0) (hs 0) (hr 0) (hn 0), wB K.g (hb 1) (hs 1) (hr 1) (hn 1), wB K.g (hb 2) (hs 2) (hr 2) (hn 2), wB K.g (hb 3) (hs 3) (hr 3) (hn 3), wB K.g (hb 4) (hs 4) (hr 4) (hn 4), wB K.g (hb 5) (hs 5) (hr 5) (hn 5), wB K.g b (hs 5) (hr 5) (hn 5)] [(0, .ref (h 0)), (1, .ref (b 0))] 44 []
    exact z_vret C hRx dX1_takeBack_44 () rfl trivial rfl
  · skip
    refine z_aload_n C 0 rfl rfl dX1_takeBack_0 1 rfl ?_
    refine z_aload_n C 0 rfl rfl dX1_takeBack_1 2 rfl ?_
    refine z_get C zc1 iX1_takeBack_X1 0 0 rfl rfl 2 (Nat.le_of_ble_eq_true rfl) (List.mem_of_getElem? (i := 1) rfl) (v := .int (nI 1)) rfl dX1_takeBack_2 5 rfl ?_
    refine z_if_ne C (by omega) 12 dX1_takeBack_5 (by decide) 8 rfl (fun c_2 => ?_) (fun c_2 => ?_)
    rotate_left
    · exfalso; omega
    refine z_aload_n C 0 rfl rfl dX1_takeBack_12 13 rfl ?_
    refine z_get C zc1 iX1_takeBack_X1 0 0 rfl rfl 2 (Nat.le_of_ble_eq_true rfl) (List.mem_of_getElem? (i := 1) rfl) (v := .int (nI 1)) rfl dX1_takeBack_13 16 rfl ?_
    refine z_iconst C (v := nI 1) rfl dX1_takeBack_16 17 rfl ?_
    refine z_isub C (by omega) dX1_takeBack_17 18 rfl ?_
    refine z_put C zc1 iX1_takeBack_X1 0 0 rfl rfl 2 (Nat.le_of_ble_eq_true rfl) (List.mem_of_getElem? (i := 1) rfl) rfl rfl rfl (Nat.le_of_ble_eq_true rfl) (wH K.g h hb kp 0) rfl [wH K.g h hb kp 0, wB K.g (hb 0) (hs 0) (hr 0) (hn 0), wB K.g (hb 1) (hs 1) (hr 1) (hn 1), wB K.g (hb 2) (hs 2) (hr 2) (hn 2), wB K.g (hb 3) (hs 3) (hr 3) (hn 3), wB K.g (hb 4) (hs 4) (hr 4) (hn 4), wB K.g (hb 5) (hs 5) (hr 5) (hn 5), wB K.g b st r n] rfl dX1_takeBack_18 21 rfl ?_
    refine z_aload_n C 0 rfl rfl dX1_takeBack_21 22 rfl ?_
    refine z_dup C rfl dX1_takeBack_22 23 rfl ?_
    refine z_get C zc1 iX1_takeBack_X1 0 0 rfl rfl 0 (Nat.le_of_ble_eq_true rfl) (List.mem_of_getElem? (i := 2) rfl) (v := .int (nI kp)) rfl dX1_takeBack_23 26 rfl ?_
    refine z_iconst C (v := nI 1) rfl dX1_takeBack_26 27 rfl ?_
    refine z_isub C (by omega) dX1_takeBack_27 28 rfl ?_
    refine z_put C zc1 iX1_takeBack_X1 0 0 rfl rfl 0 (Nat.le_of_ble_eq_true rfl) (List.mem_of_getElem? (i := 2) rfl) rfl rfl rfl (Nat.le_of_ble_eq_true rfl) (wH K.g h hb (kp - 1) 0) rfl [wH K.g h hb (kp - 1) 0, wB K.g (hb 0) (hs 0) (hr 0) (hn 0), wB K.g (hb 1) (hs 1) (hr 1) (hn 1), wB K.g (hb 2) (hs 2) (hr 2) (hn 2), wB K.g (hb 3) (hs 3) (hr 3) (hn 3), wB K.g (hb 4) (hs 4) (hr 4) (hn 4), wB K.g (hb 5) (hs 5) (hr 5) (hn 5), wB K.g b st r n] rfl dX1_takeBack_28 31 rfl ?_
    refine z_aload_n C 1 rfl rfl dX1_takeBack_31 32 rfl ?_
    refine z_aload_n C 0 rfl rfl dX1_takeBack_32 33 rfl ?_
    refine z_get C zc1 iX1_takeBack_X1 0 0 rfl rfl 1 (Nat.le_of_ble_eq_true rfl) (List.mem_of_getElem? (i := 3) rfl) (v := .ref (h 1)) rfl dX1_takeBack_33 36 rfl ?_
    refine z_aload_n C 0 rfl rfl dX1_takeBack_36 37 rfl ?_
    refine z_get C zc1 iX1_takeBack_X1 0 0 rfl rfl 2 (Nat.le_of_ble_eq_true rfl) (List.mem_of_getElem? (i := 1) rfl) (v := .int (nI 0)) rfl dX1_takeBack_37 40 rfl ?_
    refine z_aald C (y := ((hb 0) 0)) 0 1 2 rfl rfl rfl rfl (by omega) (by decide) rfl dX1_takeBack_40 41 rfl ?_
    refine z_callV C [.ref ((hb 0) 0)] [] (tX0_copyFrom K.l K.g b st r n (hb 0) (hs 0) (hr 0) (hn 0) ) gX1_takeBack_X0_copyFrom rfl rfl rfl hdX0_copyFrom ⟨Nat.le_of_ble_eq_true rfl, Nat.le_of_ble_eq_true rfl⟩ ⟨Nat.zero_le _, Nat.zero_le _⟩ 7 0 rfl rfl rfl [7, 1] rfl rfl (zlc (N := 8) rfl rfl) [0, 9, 2, 3, 4, 5, 6, 8] rfl (by decide) (fun _ : Unit => [wH K.g h hb (kp - 1) 0, wB K.g (hb 0) (hs 0) (hr 0) (hn 0), wB K.g (hb 1) (hs 1) (hr 1) (hn 1), wB K.g (hb 2) (hs 2) (hr 2) (hn 2), wB K.g (hb 3) (hs 3) (hr 3) (hn 3), wB K.g (hb 4) (hs 4) (hr 4) (hn 4), wB K.g (hb 5) (hs 5) (hr 5) (hn 5), wB K.g b (hs 0) (hr 0) (hn 0)]) (fun _ => rfl) rfl rfl (Nat.le_of_ble_eq_true rfl) dX1_takeBack_41 44 rfl (fun u9 hu9 => ?_)
    show Z K 0 0 [wH K.g h hb (kp - 1) 0, wB K.g (hb 0) (hs 0) (hr 0) (hn 0), wB K.g (hb 1) (hs 1) (hr 1) (hn 1), wB K.g (hb 2) (hs 2) (hr 2) (hn 2), wB K.g (hb 3) (hs 3) (hr 3) (hn 3), wB K.g (hb 4) (hs 4) (hr 4) (hn 4), wB K.g (hb 5) (hs 5) (hr 5) (hn 5), wB K.g b (hs 0) (hr 0) (hn 0)] [(0, .ref (h 0)), (1, .ref (b 0))] 44 []
    exact z_vret C hRx dX1_takeBack_44 () rfl trivial rfl
  · skip
    refine z_aload_n C 0 rfl rfl dX1_takeBack_0 1 rfl ?_
    refine z_aload_n C 0 rfl rfl dX1_takeBack_1 2 rfl ?_
    refine z_get C zc1 iX1_takeBack_X1 0 0 rfl rfl 2 (Nat.le_of_ble_eq_true rfl) (List.mem_of_getElem? (i := 1) rfl) (v := .int (nI 2)) rfl dX1_takeBack_2 5 rfl ?_
    refine z_if_ne C (by omega) 12 dX1_takeBack_5 (by decide) 8 rfl (fun c_3 => ?_) (fun c_3 => ?_)
    rotate_left
    · exfalso; omega
    refine z_aload_n C 0 rfl rfl dX1_takeBack_12 13 rfl ?_
    refine z_get C zc1 iX1_takeBack_X1 0 0 rfl rfl 2 (Nat.le_of_ble_eq_true rfl) (List.mem_of_getElem? (i := 1) rfl) (v := .int (nI 2)) rfl dX1_takeBack_13 16 rfl ?_
    refine z_iconst C (v := nI 1) rfl dX1_takeBack_16 17 rfl ?_
    refine z_isub C (by omega) dX1_takeBack_17 18 rfl ?_
    refine z_put C zc1 iX1_takeBack_X1 0 0 rfl rfl 2 (Nat.le_of_ble_eq_true rfl) (List.mem_of_getElem? (i := 1) rfl) rfl rfl rfl (Nat.le_of_ble_eq_true rfl) (wH K.g h hb kp 1) rfl [wH K.g h hb kp 1, wB K.g (hb 0) (hs 0) (hr 0) (hn 0), wB K.g (hb 1) (hs 1) (hr 1) (hn 1), wB K.g (hb 2) (hs 2) (hr 2) (hn 2), wB K.g (hb 3) (hs 3) (hr 3) (hn 3), wB K.g (hb 4) (hs 4) (hr 4) (hn 4), wB K.g (hb 5) (hs 5) (hr 5) (hn 5), wB K.g b st r n] rfl dX1_takeBack_18 21 rfl ?_
    refine z_aload_n C 0 rfl rfl dX1_takeBack_21 22 rfl ?_
    refine z_dup C rfl dX1_takeBack_22 23 rfl ?_
    refine z_get C zc1 iX1_takeBack_X1 0 0 rfl rfl 0 (Nat.le_of_ble_eq_true rfl) (List.mem_of_getElem? (i := 2) rfl) (v := .int (nI kp)) rfl dX1_takeBack_23 26 rfl ?_
    refine z_iconst C (v := nI 1) rfl dX1_takeBack_26 27 rfl ?_
    refine z_isub C (by omega) dX1_takeBack_27 28 rfl ?_
    refine z_put C zc1 iX1_takeBack_X1 0 0 rfl rfl 0 (Nat.le_of_ble_eq_true rfl) (List.mem_of_getElem? (i := 2) rfl) rfl rfl rfl (Nat.le_of_ble_eq_true rfl) (wH K.g h hb (kp - 1) 1) rfl [wH K.g h hb (kp - 1) 1, wB K.g (hb 0) (hs 0) (hr 0) (hn 0), wB K.g (hb 1) (hs 1) (hr 1) (hn 1), wB K.g (hb 2) (hs 2) (hr 2) (hn 2), wB K.g (hb 3) (hs 3) (hr 3) (hn 3), wB K.g (hb 4) (hs 4) (hr 4) (hn 4), wB K.g (hb 5) (hs 5) (hr 5) (hn 5), wB K.g b st r n] rfl dX1_takeBack_28 31 rfl ?_
    refine z_aload_n C 1 rfl rfl dX1_takeBack_31 32 rfl ?_
    refine z_aload_n C 0 rfl rfl dX1_takeBack_32 33 rfl ?_
    refine z_get C zc1 iX1_takeBack_X1 0 0 rfl rfl 1 (Nat.le_of_ble_eq_true rfl) (List.mem_of_getElem? (i := 3) rfl) (v := .ref (h 1)) rfl dX1_takeBack_33 36 rfl ?_
    refine z_aload_n C 0 rfl rfl dX1_takeBack_36 37 rfl ?_
    refine z_get C zc1 iX1_takeBack_X1 0 0 rfl rfl 2 (Nat.le_of_ble_eq_true rfl) (List.mem_of_getElem? (i := 1) rfl) (v := .int (nI 1)) rfl dX1_takeBack_37 40 rfl ?_
    refine z_aald C (y := ((hb 1) 0)) 0 1 2 rfl rfl rfl rfl (by omega) (by decide) rfl dX1_takeBack_40 41 rfl ?_
    refine z_callV C [.ref ((hb 1) 0)] [] (tX0_copyFrom K.l K.g b st r n (hb 1) (hs 1) (hr 1) (hn 1) ) gX1_takeBack_X0_copyFrom rfl rfl rfl hdX0_copyFrom ⟨Nat.le_of_ble_eq_true rfl, Nat.le_of_ble_eq_true rfl⟩ ⟨Nat.zero_le _, Nat.zero_le _⟩ 7 0 rfl rfl rfl [7, 2] rfl rfl (zlc (N := 8) rfl rfl) [0, 1, 9, 3, 4, 5, 6, 8] rfl (by decide) (fun _ : Unit => [wH K.g h hb (kp - 1) 1, wB K.g (hb 0) (hs 0) (hr 0) (hn 0), wB K.g (hb 1) (hs 1) (hr 1) (hn 1), wB K.g (hb 2) (hs 2) (hr 2) (hn 2), wB K.g (hb 3) (hs 3) (hr 3) (hn 3), wB K.g (hb 4) (hs 4) (hr 4) (hn 4), wB K.g (hb 5) (hs 5) (hr 5) (hn 5), wB K.g b (hs 1) (hr 1) (hn 1)]) (fun _ => rfl) rfl rfl (Nat.le_of_ble_eq_true rfl) dX1_takeBack_41 44 rfl (fun u9 hu9 => ?_)
    show Z K 0 0 [wH K.g h hb (kp - 1) 1, wB K.g (hb 0) (hs 0) (hr 0) (hn 0), wB K.g (hb 1) (hs 1) (hr 1) (hn 1), wB K.g (hb 2) (hs 2) (hr 2) (hn 2), wB K.g (hb 3) (hs 3) (hr 3) (hn 3), wB K.g (hb 4) (hs 4) (hr 4) (hn 4), wB K.g (hb 5) (hs 5) (hr 5) (hn 5), wB K.g b (hs 1) (hr 1) (hn 1)] [(0, .ref (h 0)), (1, .ref (b 0))] 44 []
    exact z_vret C hRx dX1_takeBack_44 () rfl trivial rfl
  · skip
    refine z_aload_n C 0 rfl rfl dX1_takeBack_0 1 rfl ?_
    refine z_aload_n C 0 rfl rfl dX1_takeBack_1 2 rfl ?_
    refine z_get C zc1 iX1_takeBack_X1 0 0 rfl rfl 2 (Nat.le_of_ble_eq_true rfl) (List.mem_of_getElem? (i := 1) rfl) (v := .int (nI 3)) rfl dX1_takeBack_2 5 rfl ?_
    refine z_if_ne C (by omega) 12 dX1_takeBack_5 (by decide) 8 rfl (fun c_4 => ?_) (fun c_4 => ?_)
    rotate_left
    · exfalso; omega
    refine z_aload_n C 0 rfl rfl dX1_takeBack_12 13 rfl ?_
    refine z_get C zc1 iX1_takeBack_X1 0 0 rfl rfl 2 (Nat.le_of_ble_eq_true rfl) (List.mem_of_getElem? (i := 1) rfl) (v := .int (nI 3)) rfl dX1_takeBack_13 16 rfl ?_
    refine z_iconst C (v := nI 1) rfl dX1_takeBack_16 17 rfl ?_
    refine z_isub C (by omega) dX1_takeBack_17 18 rfl ?_
    refine z_put C zc1 iX1_takeBack_X1 0 0 rfl rfl 2 (Nat.le_of_ble_eq_true rfl) (List.mem_of_getElem? (i := 1) rfl) rfl rfl rfl (Nat.le_of_ble_eq_true rfl) (wH K.g h hb kp 2) rfl [wH K.g h hb kp 2, wB K.g (hb 0) (hs 0) (hr 0) (hn 0), wB K.g (hb 1) (hs 1) (hr 1) (hn 1), wB K.g (hb 2) (hs 2) (hr 2) (hn 2), wB K.g (hb 3) (hs 3) (hr 3) (hn 3), wB K.g (hb 4) (hs 4) (hr 4) (hn 4), wB K.g (hb 5) (hs 5) (hr 5) (hn 5), wB K.g b st r n] rfl dX1_takeBack_18 21 rfl ?_
    refine z_aload_n C 0 rfl rfl dX1_takeBack_21 22 rfl ?_
    refine z_dup C rfl dX1_takeBack_22 23 rfl ?_
    refine z_get C zc1 iX1_takeBack_X1 0 0 rfl rfl 0 (Nat.le_of_ble_eq_true rfl) (List.mem_of_getElem? (i := 2) rfl) (v := .int (nI kp)) rfl dX1_takeBack_23 26 rfl ?_
    refine z_iconst C (v := nI 1) rfl dX1_takeBack_26 27 rfl ?_
    refine z_isub C (by omega) dX1_takeBack_27 28 rfl ?_
    refine z_put C zc1 iX1_takeBack_X1 0 0 rfl rfl 0 (Nat.le_of_ble_eq_true rfl) (List.mem_of_getElem? (i := 2) rfl) rfl rfl rfl (Nat.le_of_ble_eq_true rfl) (wH K.g h hb (kp - 1) 2) rfl [wH K.g h hb (kp - 1) 2, wB K.g (hb 0) (hs 0) (hr 0) (hn 0), wB K.g (hb 1) (hs 1) (hr 1) (hn 1), wB K.g (hb 2) (hs 2) (hr 2) (hn 2), wB K.g (hb 3) (hs 3) (hr 3) (hn 3), wB K.g (hb 4) (hs 4) (hr 4) (hn 4), wB K.g (hb 5) (hs 5) (hr 5) (hn 5), wB K.g b st r n] rfl dX1_takeBack_28 31 rfl ?_
    refine z_aload_n C 1 rfl rfl dX1_takeBack_31 32 rfl ?_
    refine z_aload_n C 0 rfl rfl dX1_takeBack_32 33 rfl ?_
    refine z_get C zc1 iX1_takeBack_X1 0 0 rfl rfl 1 (Nat.le_of_ble_eq_true rfl) (List.mem_of_getElem? (i := 3) rfl) (v := .ref (h 1)) rfl dX1_takeBack_33 36 rfl ?_
    refine z_aload_n C 0 rfl rfl dX1_takeBack_36 37 rfl ?_
    refine z_get C zc1 iX1_takeBack_X1 0 0 rfl rfl 2 (Nat.le_of_ble_eq_true rfl) (List.mem_of_getElem? (i := 1) rfl) (v := .int (nI 2)) rfl dX1_takeBack_37 40 rfl ?_
    refine z_aald C (y := ((hb 2) 0)) 0 1 2 rfl rfl rfl rfl (by omega) (by decide) rfl dX1_takeBack_40 41 rfl ?_
    refine z_callV C [.ref ((hb 2) 0)] [] (tX0_copyFrom K.l K.g b st r n (hb 2) (hs 2) (hr 2) (hn 2) ) gX1_takeBack_X0_copyFrom rfl rfl rfl hdX0_copyFrom ⟨Nat.le_of_ble_eq_true rfl, Nat.le_of_ble_eq_true rfl⟩ ⟨Nat.zero_le _, Nat.zero_le _⟩ 7 0 rfl rfl rfl [7, 3] rfl rfl (zlc (N := 8) rfl rfl) [0, 1, 2, 9, 4, 5, 6, 8] rfl (by decide) (fun _ : Unit => [wH K.g h hb (kp - 1) 2, wB K.g (hb 0) (hs 0) (hr 0) (hn 0), wB K.g (hb 1) (hs 1) (hr 1) (hn 1), wB K.g (hb 2) (hs 2) (hr 2) (hn 2), wB K.g (hb 3) (hs 3) (hr 3) (hn 3), wB K.g (hb 4) (hs 4) (hr 4) (hn 4), wB K.g (hb 5) (hs 5) (hr 5) (hn 5), wB K.g b (hs 2) (hr 2) (hn 2)]) (fun _ => rfl) rfl rfl (Nat.le_of_ble_eq_true rfl) dX1_takeBack_41 44 rfl (fun u9 hu9 => ?_)
    show Z K 0 0 [wH K.g h hb (kp - 1) 2, wB K.g (hb 0) (hs 0) (hr 0) (hn 0), wB K.g (hb 1) (hs 1) (hr 1) (hn 1), wB K.g (hb 2) (hs 2) (hr 2) (hn 2), wB K.g (hb 3) (hs 3) (hr 3) (hn 3), wB K.g (hb 4) (hs 4) (hr 4) (hn 4), wB K.g (hb 5) (hs 5) (hr 5) (hn 5), wB K.g b (hs 2) (hr 2) (hn 2)] [(0, .ref (h 0)), (1, .ref (b 0))] 44 []
    exact z_vret C hRx dX1_takeBack_44 () rfl trivial rfl
  · skip
    refine z_aload_n C 0 rfl rfl dX1_takeBack_0 1 rfl ?_
    refine z_aload_n C 0 rfl rfl dX1_takeBack_1 2 rfl ?_
    refine z_get C zc1 iX1_takeBack_X1 0 0 rfl rfl 2 (Nat.le_of_ble_eq_true rfl) (List.mem_of_getElem? (i := 1) rfl) (v := .int (nI 4)) rfl dX1_takeBack_2 5 rfl ?_
    refine z_if_ne C (by omega) 12 dX1_takeBack_5 (by decide) 8 rfl (fun c_5 => ?_) (fun c_5 => ?_)
    rotate_left
    · exfalso; omega
    refine z_aload_n C 0 rfl rfl dX1_takeBack_12 13 rfl ?_
    refine z_get C zc1 iX1_takeBack_X1 0 0 rfl rfl 2 (Nat.le_of_ble_eq_true rfl) (List.mem_of_getElem? (i := 1) rfl) (v := .int (nI 4)) rfl dX1_takeBack_13 16 rfl ?_
    refine z_iconst C (v := nI 1) rfl dX1_takeBack_16 17 rfl ?_
    refine z_isub C (by omega) dX1_takeBack_17 18 rfl ?_
    refine z_put C zc1 iX1_takeBack_X1 0 0 rfl rfl 2 (Nat.le_of_ble_eq_true rfl) (List.mem_of_getElem? (i := 1) rfl) rfl rfl rfl (Nat.le_of_ble_eq_true rfl) (wH K.g h hb kp 3) rfl [wH K.g h hb kp 3, wB K.g (hb 0) (hs 0) (hr 0) (hn 0), wB K.g (hb 1) (hs 1) (hr 1) (hn 1), wB K.g (hb 2) (hs 2) (hr 2) (hn 2), wB K.g (hb 3) (hs 3) (hr 3) (hn 3), wB K.g (hb 4) (hs 4) (hr 4) (hn 4), wB K.g (hb 5) (hs 5) (hr 5) (hn 5), wB K.g b st r n] rfl dX1_takeBack_18 21 rfl ?_
    refine z_aload_n C 0 rfl rfl dX1_takeBack_21 22 rfl ?_
    refine z_dup C rfl dX1_takeBack_22 23 rfl ?_
    refine z_get C zc1 iX1_takeBack_X1 0 0 rfl rfl 0 (Nat.le_of_ble_eq_true rfl) (List.mem_of_getElem? (i := 2) rfl) (v := .int (nI kp)) rfl dX1_takeBack_23 26 rfl ?_
    refine z_iconst C (v := nI 1) rfl dX1_takeBack_26 27 rfl ?_
    refine z_isub C (by omega) dX1_takeBack_27 28 rfl ?_
    refine z_put C zc1 iX1_takeBack_X1 0 0 rfl rfl 0 (Nat.le_of_ble_eq_true rfl) (List.mem_of_getElem? (i := 2) rfl) rfl rfl rfl (Nat.le_of_ble_eq_true rfl) (wH K.g h hb (kp - 1) 3) rfl [wH K.g h hb (kp - 1) 3, wB K.g (hb 0) (hs 0) (hr 0) (hn 0), wB K.g (hb 1) (hs 1) (hr 1) (hn 1), wB K.g (hb 2) (hs 2) (hr 2) (hn 2), wB K.g (hb 3) (hs 3) (hr 3) (hn 3), wB K.g (hb 4) (hs 4) (hr 4) (hn 4), wB K.g (hb 5) (hs 5) (hr 5) (hn 5), wB K.g b st r n] rfl dX1_takeBack_28 31 rfl ?_
    refine z_aload_n C 1 rfl rfl dX1_takeBack_31 32 rfl ?_
    refine z_aload_n C 0 rfl rfl dX1_takeBack_32 33 rfl ?_
    refine z_get C zc1 iX1_takeBack_X1 0 0 rfl rfl 1 (Nat.le_of_ble_eq_true rfl) (List.mem_of_getElem? (i := 3) rfl) (v := .ref (h 1)) rfl dX1_takeBack_33 36 rfl ?_
    refine z_aload_n C 0 rfl rfl dX1_takeBack_36 37 rfl ?_
    refine z_get C zc1 iX1_takeBack_X1 0 0 rfl rfl 2 (Nat.le_of_ble_eq_true rfl) (List.mem_of_getElem? (i := 1) rfl) (v := .int (nI 3)) rfl dX1_takeBack_37 40 rfl ?_
    refine z_aald C (y := ((hb 3) 0)) 0 1 2 rfl rfl rfl rfl (by omega) (by decide) rfl dX1_takeBack_40 41 rfl ?_
    refine z_callV C [.ref ((hb 3) 0)] [] (tX0_copyFrom K.l K.g b st r n (hb 3) (hs 3) (hr 3) (hn 3) ) gX1_takeBack_X0_copyFrom rfl rfl rfl hdX0_copyFrom ⟨Nat.le_of_ble_eq_true rfl, Nat.le_of_ble_eq_true rfl⟩ ⟨Nat.zero_le _, Nat.zero_le _⟩ 7 0 rfl rfl rfl [7, 4] rfl rfl (zlc (N := 8) rfl rfl) [0, 1, 2, 3, 9, 5, 6, 8] rfl (by decide) (fun _ : Unit => [wH K.g h hb (kp - 1) 3, wB K.g (hb 0) (hs 0) (hr 0) (hn 0), wB K.g (hb 1) (hs 1) (hr 1) (hn 1), wB K.g (hb 2) (hs 2) (hr 2) (hn 2), wB K.g (hb 3) (hs 3) (hr 3) (hn 3), wB K.g (hb 4) (hs 4) (hr 4) (hn 4), wB K.g (hb 5) (hs 5) (hr 5) (hn 5), wB K.g b (hs 3) (hr 3) (hn 3)]) (fun _ => rfl) rfl rfl (Nat.le_of_ble_eq_true rfl) dX1_takeBack_41 44 rfl (fun u9 hu9 => ?_)
    show Z K 0 0 [wH K.g h hb (kp - 1) 3, wB K.g (hb 0) (hs 0) (hr 0) (hn 0), wB K.g (hb 1) (hs 1) (hr 1) (hn 1), wB K.g (hb 2) (hs 2) (hr 2) (hn 2), wB K.g (hb 3) (hs 3) (hr 3) (hn 3), wB K.g (hb 4) (hs 4) (hr 4) (hn 4), wB K.g (hb 5) (hs 5) (hr 5) (hn 5), wB K.g b (hs 3) (hr 3) (hn 3)] [(0, .ref (h 0)), (1, .ref (b 0))] 44 []
    exact z_vret C hRx dX1_takeBack_44 () rfl trivial rfl
  · skip
    refine z_aload_n C 0 rfl rfl dX1_takeBack_0 1 rfl ?_
    refine z_aload_n C 0 rfl rfl dX1_takeBack_1 2 rfl ?_
    refine z_get C zc1 iX1_takeBack_X1 0 0 rfl rfl 2 (Nat.le_of_ble_eq_true rfl) (List.mem_of_getElem? (i := 1) rfl) (v := .int (nI 5)) rfl dX1_takeBack_2 5 rfl ?_
    refine z_if_ne C (by omega) 12 dX1_takeBack_5 (by decide) 8 rfl (fun c_6 => ?_) (fun c_6 => ?_)
    rotate_left
    · exfalso; omega
    refine z_aload_n C 0 rfl rfl dX1_takeBack_12 13 rfl ?_
    refine z_get C zc1 iX1_takeBack_X1 0 0 rfl rfl 2 (Nat.le_of_ble_eq_true rfl) (List.mem_of_getElem? (i := 1) rfl) (v := .int (nI 5)) rfl dX1_takeBack_13 16 rfl ?_
    refine z_iconst C (v := nI 1) rfl dX1_takeBack_16 17 rfl ?_
    refine z_isub C (by omega) dX1_takeBack_17 18 rfl ?_
    refine z_put C zc1 iX1_takeBack_X1 0 0 rfl rfl 2 (Nat.le_of_ble_eq_true rfl) (List.mem_of_getElem? (i := 1) rfl) rfl rfl rfl (Nat.le_of_ble_eq_true rfl) (wH K.g h hb kp 4) rfl [wH K.g h hb kp 4, wB K.g (hb 0) (hs 0) (hr 0) (hn 0), wB K.g (hb 1) (hs 1) (hr 1) (hn 1), wB K.g (hb 2) (hs 2) (hr 2) (hn 2), wB K.g (hb 3) (hs 3) (hr 3) (hn 3), wB K.g (hb 4) (hs 4) (hr 4) (hn 4), wB K.g (hb 5) (hs 5) (hr 5) (hn 5), wB K.g b st r n] rfl dX1_takeBack_18 21 rfl ?_
    refine z_aload_n C 0 rfl rfl dX1_takeBack_21 22 rfl ?_
    refine z_dup C rfl dX1_takeBack_22 23 rfl ?_
    refine z_get C zc1 iX1_takeBack_X1 0 0 rfl rfl 0 (Nat.le_of_ble_eq_true rfl) (List.mem_of_getElem? (i := 2) rfl) (v := .int (nI kp)) rfl dX1_takeBack_23 26 rfl ?_
    refine z_iconst C (v := nI 1) rfl dX1_takeBack_26 27 rfl ?_
    refine z_isub C (by omega) dX1_takeBack_27 28 rfl ?_
    refine z_put C zc1 iX1_takeBack_X1 0 0 rfl rfl 0 (Nat.le_of_ble_eq_true rfl) (List.mem_of_getElem? (i := 2) rfl) rfl rfl rfl (Nat.le_of_ble_eq_true rfl) (wH K.g h hb (kp - 1) 4) rfl [wH K.g h hb (kp - 1) 4, wB K.g (hb 0) (hs 0) (hr 0) (hn 0), wB K.g (hb 1) (hs 1) (hr 1) (hn 1), wB K.g (hb 2) (hs 2) (hr 2) (hn 2), wB K.g (hb 3) (hs 3) (hr 3) (hn 3), wB K.g (hb 4) (hs 4) (hr 4) (hn 4), wB K.g (hb 5) (hs 5) (hr 5) (hn 5), wB K.g b st r n] rfl dX1_takeBack_28 31 rfl ?_
    refine z_aload_n C 1 rfl rfl dX1_takeBack_31 32 rfl ?_
    refine z_aload_n C 0 rfl rfl dX1_takeBack_32 33 rfl ?_
    refine z_get C zc1 iX1_takeBack_X1 0 0 rfl rfl 1 (Nat.le_of_ble_eq_true rfl) (List.mem_of_getElem? (i := 3) rfl) (v := .ref (h 1)) rfl dX1_takeBack_33 36 rfl ?_
    refine z_aload_n C 0 rfl rfl dX1_takeBack_36 37 rfl ?_
    refine z_get C zc1 iX1_takeBack_X1 0 0 rfl rfl 2 (Nat.le_of_ble_eq_true rfl) (List.mem_of_getElem? (i := 1) rfl) (v := .int (nI 4)) rfl dX1_takeBack_37 40 rfl ?_
    refine z_aald C (y := ((hb 4) 0)) 0 1 2 rfl rfl rfl rfl (by omega) (by decide) rfl dX1_takeBack_40 41 rfl ?_
    refine z_callV C [.ref ((hb 4) 0)] [] (tX0_copyFrom K.l K.g b st r n (hb 4) (hs 4) (hr 4) (hn 4) ) gX1_takeBack_X0_copyFrom rfl rfl rfl hdX0_copyFrom ⟨Nat.le_of_ble_eq_true rfl, Nat.le_of_ble_eq_true rfl⟩ ⟨Nat.zero_le _, Nat.zero_le _⟩ 7 0 rfl rfl rfl [7, 5] rfl rfl (zlc (N := 8) rfl rfl) [0, 1, 2, 3, 4, 9, 6, 8] rfl (by decide) (fun _ : Unit => [wH K.g h hb (kp - 1) 4, wB K.g (hb 0) (hs 0) (hr 0) (hn 0), wB K.g (hb 1) (hs 1) (hr 1) (hn 1), wB K.g (hb 2) (hs 2) (hr 2) (hn 2), wB K.g (hb 3) (hs 3) (hr 3) (hn 3), wB K.g (hb 4) (hs 4) (hr 4) (hn 4), wB K.g (hb 5) (hs 5) (hr 5) (hn 5), wB K.g b (hs 4) (hr 4) (hn 4)]) (fun _ => rfl) rfl rfl (Nat.le_of_ble_eq_true rfl) dX1_takeBack_41 44 rfl (fun u9 hu9 => ?_)
    show Z K 0 0 [wH K.g h hb (kp - 1) 4, wB K.g (hb 0) (hs 0) (hr 0) (hn 0), wB K.g (hb 1) (hs 1) (hr 1) (hn 1), wB K.g (hb 2) (hs 2) (hr 2) (hn 2), wB K.g (hb 3) (hs 3) (hr 3) (hn 3), wB K.g (hb 4) (hs 4) (hr 4) (hn 4), wB K.g (hb 5) (hs 5) (hr 5) (hn 5), wB K.g b (hs 4) (hr 4) (hn 4)] [(0, .ref (h 0)), (1, .ref (b 0))] 44 []
    exact z_vret C hRx dX1_takeBack_44 () rfl trivial rfl

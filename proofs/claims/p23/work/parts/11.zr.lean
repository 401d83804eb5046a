/-! ZR: rows over Z, an instruction a row; numbers that are never negative as nI of a Nat. -/
section ZR
variable {K : zK} {R0 : Room} {own : String} {cc : ByteArray} {Ts : List Cond} {n k : Nat} {cs : List va_W} {lv : List (Nat × Value)} {pc : Nat} {st : List Value}
theorem Cx.x (C : Cx K R0 own cc Ts) : K.p.tables.exec = Jvm.exec := C.1.1
theorem Cx.b (C : Cx K R0 own cc Ts) : K.c.code = cc := C.1.2.1
theorem Cx.ml (C : Cx K R0 own cc Ts) : K.c.maxLocals = K.nL := C.1.2.2.1
theorem Cx.ow (C : Cx K R0 own cc Ts) : K.s.vm.findClass own = some K.m.cls := C.1.2.2.2.1
theorem Cx.ts (C : Cx K R0 own cc Ts) : ∀ w ∈ Ts, w.before K.args K.s = true := C.1.2.2.2.2
theorem Cx.kp (C : Cx K R0 own cc Ts) : zKp K.g K.s := C.2.1
theorem Cx.ka (C : Cx K R0 own cc Ts) : va_K K.g.1 vwCl (zT K.g) K.s := C.2.1.1
theorem Cx.r (C : Cx K R0 own cc Ts) : K.R = R0 := C.2.2
theorem z_iconst (C : Cx K R0 own cc Ts) {z : Int} {v : Int32} (hv : Int32.ofInt z = v) (hd : decode cc pc = .ok (.iconst z, 1)) (q : Nat) (hq : pc + 1 = q) (kk : Z K n k cs lv q (.int v :: st)) : Z K n k cs lv pc (st) := by
  subst hq
  exact fun H locs ls hP hD hS hl => lv_iconst C.x C.b hd hv (kk H locs ls hP hD hS hl)
theorem z_bipush (C : Cx K R0 own cc Ts) {z : Int} {v : Int32} (hv : (Int8.ofInt z).toInt32 = v) (hd : decode cc pc = .ok (.bipush z, 2)) (q : Nat) (hq : pc + 2 = q) (kk : Z K n k cs lv q (.int v :: st)) : Z K n k cs lv pc (st) := by
  subst hq
  exact fun H locs ls hP hD hS hl => lv_bipush C.x C.b hd hv (kk H locs ls hP hD hS hl)
theorem z_sipush (C : Cx K R0 own cc Ts) {z : Int} {v : Int32} (hv : (Int16.ofInt z).toInt32 = v) (hd : decode cc pc = .ok (.sipush z, 3)) (q : Nat) (hq : pc + 3 = q) (kk : Z K n k cs lv q (.int v :: st)) : Z K n k cs lv pc (st) := by
  subst hq
  exact fun H locs ls hP hD hS hl => lv_sipush C.x C.b hd hv (kk H locs ls hP hD hS hl)
theorem z_lconst (C : Cx K R0 own cc Ts) {z : Fin 2} {v : Int64} (hv : Int64.ofNat (z : Nat) = v) (hd : decode cc pc = .ok (.lconst z, 1)) (q : Nat) (hq : pc + 1 = q) (kk : Z K n k cs lv q (.long v :: st)) : Z K n k cs lv pc (st) := by
  subst hq
  exact fun H locs ls hP hD hS hl => lv_lconst C.x C.b hd hv (kk H locs ls hP hD hS hl)
theorem z_ldc (C : Cx K R0 own cc Ts) {index : Nat} {v : Int32} (hw : Cond.constant own index v ∈ Ts) (hd : decode cc pc = .ok (.ldc index, 2)) (q : Nat) (hq : pc + 2 = q) (kk : Z K n k cs lv q (.int v :: st)) : Z K n k cs lv pc (st) := by
  subst hq
  exact fun H locs ls hP hD hS hl => lv_ldc C.x C.b C.ow (C.ts _ hw) hd (kk H locs ls hP hD hS hl)
theorem z_ldc2 (C : Cx K R0 own cc Ts) {index : Nat} {v : Int64} (hw : Cond.constantLong own index v ∈ Ts) (hd : decode cc pc = .ok (.ldc2_w index, 3)) (q : Nat) (hq : pc + 3 = q) (kk : Z K n k cs lv q (.long v :: st)) : Z K n k cs lv pc (st) := by
  subst hq
  exact fun H locs ls hP hD hS hl => lv_ldc2 C.x C.b C.ow (C.ts _ hw) hd (kk H locs ls hP hD hS hl)
theorem z_iload_n (C : Cx K R0 own cc Ts) {z : Fin 4} {i : Nat} {x : Int32} (j : Nat) (hl0 : lv[j]? = some (i, .int x)) (hi : (z : Nat) = i) (hd : decode cc pc = .ok (.iload_n z, 1)) (q : Nat) (hq : pc + 1 = q) (kk : Z K n k cs lv q (.int x :: st)) : Z K n k cs lv pc (st) := by
  subst hq
  exact fun H locs ls hP hD hS hl => lv_iload_n C.x C.b hd hi (lv_at hl j hl0) (kk H locs ls hP hD hS hl)
theorem z_iload (C : Cx K R0 own cc Ts) {i : Nat} {x : Int32} (j : Nat) (hl0 : lv[j]? = some (i, .int x)) (hd : decode cc pc = .ok (.iload i, 2)) (q : Nat) (hq : pc + 2 = q) (kk : Z K n k cs lv q (.int x :: st)) : Z K n k cs lv pc (st) := by
  subst hq
  exact fun H locs ls hP hD hS hl => lv_iload C.x C.b hd (lv_at hl j hl0) (kk H locs ls hP hD hS hl)
theorem z_aload_n (C : Cx K R0 own cc Ts) {z : Fin 4} {i : Nat} {x : Nat} (j : Nat) (hl0 : lv[j]? = some (i, .ref x)) (hi : (z : Nat) = i) (hd : decode cc pc = .ok (.aload_n z, 1)) (q : Nat) (hq : pc + 1 = q) (kk : Z K n k cs lv q (.ref x :: st)) : Z K n k cs lv pc (st) := by
  subst hq
  exact fun H locs ls hP hD hS hl => lv_aload_n C.x C.b hd hi (lv_at hl j hl0) (kk H locs ls hP hD hS hl)
theorem z_aload (C : Cx K R0 own cc Ts) {i : Nat} {x : Nat} (j : Nat) (hl0 : lv[j]? = some (i, .ref x)) (hd : decode cc pc = .ok (.aload i, 2)) (q : Nat) (hq : pc + 2 = q) (kk : Z K n k cs lv q (.ref x :: st)) : Z K n k cs lv pc (st) := by
  subst hq
  exact fun H locs ls hP hD hS hl => lv_aload C.x C.b hd (lv_at hl j hl0) (kk H locs ls hP hD hS hl)
theorem z_lload_n (C : Cx K R0 own cc Ts) {z : Fin 4} {i : Nat} {x : Int64} (j : Nat) (hl0 : lv[j]? = some (i, .long x)) (hi : (z : Nat) = i) (hd : decode cc pc = .ok (.lload_n z, 1)) (q : Nat) (hq : pc + 1 = q) (kk : Z K n k cs lv q (.long x :: st)) : Z K n k cs lv pc (st) := by
  subst hq
  exact fun H locs ls hP hD hS hl => lv_lload_n C.x C.b hd hi (lv_at hl j hl0) (kk H locs ls hP hD hS hl)
theorem z_lload (C : Cx K R0 own cc Ts) {i : Nat} {x : Int64} (j : Nat) (hl0 : lv[j]? = some (i, .long x)) (hd : decode cc pc = .ok (.lload i, 2)) (q : Nat) (hq : pc + 2 = q) (kk : Z K n k cs lv q (.long x :: st)) : Z K n k cs lv pc (st) := by
  subst hq
  exact fun H locs ls hP hD hS hl => lv_lload C.x C.b hd (lv_at hl j hl0) (kk H locs ls hP hD hS hl)
theorem z_istore_n (C : Cx K R0 own cc Ts) {z : Fin 4} {i N : Nat} {x : Int32} (hN : K.nL = N) (ks : List Nat) (lv2 : List (Nat × Value)) (hl2 : lv_pick ((i, Value.int x) :: lv.filter (fun q => !(q.1 == i) && !(q.1 + 1 == i && q.2.category == 2))) ks = lv2) (hi : (z : Nat) = i) (hn : i < N) (hd : decode cc pc = .ok (.istore_n z, 1)) (q : Nat) (hq : pc + 1 = q) (kk : Z K n k cs lv2 q st) : Z K n k cs lv pc (.int x :: st) := by
  subst hq
  subst hN
  exact fun H locs ls hP hD hS hl => lv_istore_n C.x C.b hd hi hl hn rfl (fun ls2 hl3 => kk H locs ls2 hP hD hS (lv_sub hl3 ks hl2))
theorem z_istore (C : Cx K R0 own cc Ts) {i N : Nat} {x : Int32} (hN : K.nL = N) (ks : List Nat) (lv2 : List (Nat × Value)) (hl2 : lv_pick ((i, Value.int x) :: lv.filter (fun q => !(q.1 == i) && !(q.1 + 1 == i && q.2.category == 2))) ks = lv2) (hn : i < N) (hd : decode cc pc = .ok (.istore i, 2)) (q : Nat) (hq : pc + 2 = q) (kk : Z K n k cs lv2 q st) : Z K n k cs lv pc (.int x :: st) := by
  subst hq
  subst hN
  exact fun H locs ls hP hD hS hl => lv_istore C.x C.b hd hl hn rfl (fun ls2 hl3 => kk H locs ls2 hP hD hS (lv_sub hl3 ks hl2))
theorem z_astore_n (C : Cx K R0 own cc Ts) {z : Fin 4} {i N : Nat} {x : Nat} (hN : K.nL = N) (ks : List Nat) (lv2 : List (Nat × Value)) (hl2 : lv_pick ((i, Value.ref x) :: lv.filter (fun q => !(q.1 == i) && !(q.1 + 1 == i && q.2.category == 2))) ks = lv2) (hi : (z : Nat) = i) (hn : i < N) (hd : decode cc pc = .ok (.astore_n z, 1)) (q : Nat) (hq : pc + 1 = q) (kk : Z K n k cs lv2 q st) : Z K n k cs lv pc (.ref x :: st) := by
  subst hq
  subst hN
  exact fun H locs ls hP hD hS hl => lv_astore_n C.x C.b hd hi hl hn rfl (fun ls2 hl3 => kk H locs ls2 hP hD hS (lv_sub hl3 ks hl2))
theorem z_astore (C : Cx K R0 own cc Ts) {i N : Nat} {x : Nat} (hN : K.nL = N) (ks : List Nat) (lv2 : List (Nat × Value)) (hl2 : lv_pick ((i, Value.ref x) :: lv.filter (fun q => !(q.1 == i) && !(q.1 + 1 == i && q.2.category == 2))) ks = lv2) (hn : i < N) (hd : decode cc pc = .ok (.astore i, 2)) (q : Nat) (hq : pc + 2 = q) (kk : Z K n k cs lv2 q st) : Z K n k cs lv pc (.ref x :: st) := by
  subst hq
  subst hN
  exact fun H locs ls hP hD hS hl => lv_astore C.x C.b hd hl hn rfl (fun ls2 hl3 => kk H locs ls2 hP hD hS (lv_sub hl3 ks hl2))
theorem z_lstore_n (C : Cx K R0 own cc Ts) {z : Fin 4} {i N : Nat} {x : Int64} (hN : K.nL = N) (ks : List Nat) (lv2 : List (Nat × Value)) (hl2 : lv_pick ((i, Value.long x) :: lv.filter (fun q => !(q.1 == i) && (!(q.1 == i + 1) && !(q.1 + 1 == i && q.2.category == 2)))) ks = lv2) (hi : (z : Nat) = i) (hn : i + 1 < N) (hd : decode cc pc = .ok (.lstore_n z, 1)) (q : Nat) (hq : pc + 1 = q) (kk : Z K n k cs lv2 q st) : Z K n k cs lv pc (.long x :: st) := by
  subst hq
  subst hN
  exact fun H locs ls hP hD hS hl => lv_lstore_n C.x C.b hd hi hl hn rfl (fun ls2 hl3 => kk H locs ls2 hP hD hS (lv_sub hl3 ks hl2))
theorem z_lstore (C : Cx K R0 own cc Ts) {i N : Nat} {x : Int64} (hN : K.nL = N) (ks : List Nat) (lv2 : List (Nat × Value)) (hl2 : lv_pick ((i, Value.long x) :: lv.filter (fun q => !(q.1 == i) && (!(q.1 == i + 1) && !(q.1 + 1 == i && q.2.category == 2)))) ks = lv2) (hn : i + 1 < N) (hd : decode cc pc = .ok (.lstore i, 2)) (q : Nat) (hq : pc + 2 = q) (kk : Z K n k cs lv2 q st) : Z K n k cs lv pc (.long x :: st) := by
  subst hq
  subst hN
  exact fun H locs ls hP hD hS hl => lv_lstore C.x C.b hd hl hn rfl (fun ls2 hl3 => kk H locs ls2 hP hD hS (lv_sub hl3 ks hl2))
theorem z_iinc (C : Cx K R0 own cc Ts) {i N : Nat} {d : Int} {x v : Int32} (hN : K.nL = N) (j : Nat) (hj : lv[j]? = some (i, .int x)) (hv : x + Int32.ofInt d = v) (ks : List Nat) (lv2 : List (Nat × Value)) (hl2 : lv_pick ((i, Value.int v) :: lv.filter (fun q => !(q.1 == i) && !(q.1 + 1 == i && q.2.category == 2))) ks = lv2) (hn : i < N) (hd : decode cc pc = .ok (.iinc i d, 3)) (q : Nat) (hq : pc + 3 = q) (kk : Z K n k cs lv2 q st) : Z K n k cs lv pc st := by
  subst hq
  subst hN
  exact fun H locs ls hP hD hS hl => lv_iinc C.x C.b hd hl hj hv hn rfl (fun ls2 hl3 => kk H locs ls2 hP hD hS (lv_sub hl3 ks hl2))
/-- fewer locals, or in another order -/
theorem z_lv (ks : List Nat) (lv2 : List (Nat × Value)) (h : lv_pick lv ks = lv2) (kk : Z K n k cs lv2 pc st) : Z K n k cs lv pc st := fun H locs ls hP hD hS hl => kk H locs ls hP hD hS (lv_sub hl ks h)
theorem z_eq {cs2 : List va_W} {lv2 : List (Nat × Value)} {st2 : List Value} (kk : Z K n k cs2 lv2 pc st2) (h1 : cs = cs2) (h2 : lv = lv2) (h3 : st = st2) : Z K n k cs lv pc st := by subst h1; subst h2; subst h3; exact kk
theorem z_iadd (C : Cx K R0 own cc Ts) {a b : Nat} (hd : decode cc pc = .ok (.iadd, 1)) (q : Nat) (hq : pc + 1 = q) (kk : Z K n k cs lv q (.int (nI (a + b)) :: st)) : Z K n k cs lv pc (.int (nI b) :: .int (nI a) :: st) := by
  subst hq
  exact fun H locs ls hP hD hS hl => lv_iadd C.x C.b hd (by rw [nI_add]; exact kk H locs ls hP hD hS hl)
theorem z_imul (C : Cx K R0 own cc Ts) {a b : Nat} (hd : decode cc pc = .ok (.imul, 1)) (q : Nat) (hq : pc + 1 = q) (kk : Z K n k cs lv q (.int (nI (a * b)) :: st)) : Z K n k cs lv pc (.int (nI b) :: .int (nI a) :: st) := by
  subst hq
  exact fun H locs ls hP hD hS hl => lv_imul C.x C.b hd (by rw [pk_mul]; exact kk H locs ls hP hD hS hl)
theorem z_isub (C : Cx K R0 own cc Ts) {a b : Nat} (hab : b ≤ a) (hd : decode cc pc = .ok (.isub, 1)) (q : Nat) (hq : pc + 1 = q) (kk : Z K n k cs lv q (.int (nI (a - b)) :: st)) : Z K n k cs lv pc (.int (nI b) :: .int (nI a) :: st) := by
  subst hq
  exact fun H locs ls hP hD hS hl => lv_isub C.x C.b hd (by rw [pk_sub hab]; exact kk H locs ls hP hD hS hl)
theorem z_idiv (C : Cx K R0 own cc Ts) {a b : Nat} (ha : a < 2 ^ 31) (h0 : 0 < b) (hb : b < 2 ^ 31) (hd : decode cc pc = .ok (.idiv, 1)) (q : Nat) (hq : pc + 1 = q) (kk : Z K n k cs lv q (.int (nI (a / b)) :: st)) : Z K n k cs lv pc (.int (nI b) :: .int (nI a) :: st) := by
  subst hq
  exact fun H locs ls hP hD hS hl => lv_idiv C.x C.b hd (nI_ne0 h0 hb) (by rw [pk_div ha h0 hb]; exact kk H locs ls hP hD hS hl)
theorem z_iaddI (C : Cx K R0 own cc Ts) {x y : Int32} (hd : decode cc pc = .ok (.iadd, 1)) (q : Nat) (hq : pc + 1 = q) (kk : Z K n k cs lv q (.int (x + y) :: st)) : Z K n k cs lv pc (.int y :: .int x :: st) := by
  subst hq
  exact fun H locs ls hP hD hS hl => lv_iadd C.x C.b hd (kk H locs ls hP hD hS hl)
theorem z_isubI (C : Cx K R0 own cc Ts) {x y : Int32} (hd : decode cc pc = .ok (.isub, 1)) (q : Nat) (hq : pc + 1 = q) (kk : Z K n k cs lv q (.int (x - y) :: st)) : Z K n k cs lv pc (.int y :: .int x :: st) := by
  subst hq
  exact fun H locs ls hP hD hS hl => lv_isub C.x C.b hd (kk H locs ls hP hD hS hl)
theorem z_imulI (C : Cx K R0 own cc Ts) {x y : Int32} (hd : decode cc pc = .ok (.imul, 1)) (q : Nat) (hq : pc + 1 = q) (kk : Z K n k cs lv q (.int (x * y) :: st)) : Z K n k cs lv pc (.int y :: .int x :: st) := by
  subst hq
  exact fun H locs ls hP hD hS hl => lv_imul C.x C.b hd (kk H locs ls hP hD hS hl)
theorem z_iandI (C : Cx K R0 own cc Ts) {x y : Int32} (hd : decode cc pc = .ok (.iand, 1)) (q : Nat) (hq : pc + 1 = q) (kk : Z K n k cs lv q (.int (x &&& y) :: st)) : Z K n k cs lv pc (.int y :: .int x :: st) := by
  subst hq
  exact fun H locs ls hP hD hS hl => lv_iand C.x C.b hd (kk H locs ls hP hD hS hl)
theorem z_lsub (C : Cx K R0 own cc Ts) {x y : Int64} (hd : decode cc pc = .ok (.lsub, 1)) (q : Nat) (hq : pc + 1 = q) (kk : Z K n k cs lv q (.long (x - y) :: st)) : Z K n k cs lv pc (.long y :: .long x :: st) := by
  subst hq
  exact fun H locs ls hP hD hS hl => lv_lsub C.x C.b hd (kk H locs ls hP hD hS hl)
theorem z_land (C : Cx K R0 own cc Ts) {x y : Int64} (hd : decode cc pc = .ok (.land, 1)) (q : Nat) (hq : pc + 1 = q) (kk : Z K n k cs lv q (.long (x &&& y) :: st)) : Z K n k cs lv pc (.long y :: .long x :: st) := by
  subst hq
  exact fun H locs ls hP hD hS hl => lv_land C.x C.b hd (kk H locs ls hP hD hS hl)
theorem z_lor (C : Cx K R0 own cc Ts) {x y : Int64} (hd : decode cc pc = .ok (.lor, 1)) (q : Nat) (hq : pc + 1 = q) (kk : Z K n k cs lv q (.long (x ||| y) :: st)) : Z K n k cs lv pc (.long y :: .long x :: st) := by
  subst hq
  exact fun H locs ls hP hD hS hl => lv_lor C.x C.b hd (kk H locs ls hP hD hS hl)
theorem z_i2l (C : Cx K R0 own cc Ts) {x : Int32} (hd : decode cc pc = .ok (.i2l, 1)) (q : Nat) (hq : pc + 1 = q) (kk : Z K n k cs lv q (.long x.toInt64 :: st)) : Z K n k cs lv pc (.int x :: st) := by
  subst hq
  exact fun H locs ls hP hD hS hl => lv_i2l C.x C.b hd rfl (kk H locs ls hP hD hS hl)
theorem z_l2i (C : Cx K R0 own cc Ts) {x : Int64} (hd : decode cc pc = .ok (.l2i, 1)) (q : Nat) (hq : pc + 1 = q) (kk : Z K n k cs lv q (.int x.toInt32 :: st)) : Z K n k cs lv pc (.long x :: st) := by
  subst hq
  exact fun H locs ls hP hD hS hl => lv_l2i C.x C.b hd rfl (kk H locs ls hP hD hS hl)
theorem z_lushr (C : Cx K R0 own cc Ts) {x : Int64} {y : Int32} (hd : decode cc pc = .ok (.lushr, 1)) (q : Nat) (hq : pc + 1 = q) (kk : Z K n k cs lv q (.long (x.toUInt64 >>> (y.toInt64.toUInt64 &&& Int64.toUInt64 63)).toInt64 :: st)) : Z K n k cs lv pc (.int y :: .long x :: st) := by
  subst hq
  exact fun H locs ls hP hD hS hl => lv_lushr C.x C.b hd rfl (kk H locs ls hP hD hS hl)
theorem z_lshl (C : Cx K R0 own cc Ts) {x : Int64} {y : Int32} (hd : decode cc pc = .ok (.lshl, 1)) (q : Nat) (hq : pc + 1 = q) (kk : Z K n k cs lv q (.long (x <<< (y.toInt64 &&& 63)) :: st)) : Z K n k cs lv pc (.int y :: .long x :: st) := by
  subst hq
  exact fun H locs ls hP hD hS hl => lv_lshl C.x C.b hd rfl (kk H locs ls hP hD hS hl)
theorem z_lcmp (C : Cx K R0 own cc Ts) {x y : Int64} (hd : decode cc pc = .ok (.lcmp, 1)) (q : Nat) (hq : pc + 1 = q) (kk : Z K n k cs lv q (.int (lg_cmp x y) :: st)) : Z K n k cs lv pc (.long y :: .long x :: st) := by
  subst hq
  exact fun H locs ls hP hD hS hl => W.lcmp C.x C.b hd (kk H locs ls hP hD hS hl)
theorem z_dup (C : Cx K R0 own cc Ts) {v : Value} (hv : v.category = 1) (hd : decode cc pc = .ok (.dup, 1)) (q : Nat) (hq : pc + 1 = q) (kk : Z K n k cs lv q (v :: v :: st)) : Z K n k cs lv pc (v :: st) := by
  subst hq
  exact fun H locs ls hP hD hS hl => lv_dup C.x C.b hd hv (kk H locs ls hP hD hS hl)
theorem z_dup2 (C : Cx K R0 own cc Ts) {v u : Value} (hv : v.category = 1) (hu : u.category = 1) (hd : decode cc pc = .ok (.dup2, 1)) (q : Nat) (hq : pc + 1 = q) (kk : Z K n k cs lv q (v :: u :: v :: u :: st)) : Z K n k cs lv pc (v :: u :: st) := by
  subst hq
  exact fun H locs ls hP hD hS hl => lv_dup2_11 C.x C.b hd hv hu (kk H locs ls hP hD hS hl)
theorem z_pop (C : Cx K R0 own cc Ts) {v : Value} (hv : v.category = 1) (hd : decode cc pc = .ok (.pop, 1)) (q : Nat) (hq : pc + 1 = q) (kk : Z K n k cs lv q (st)) : Z K n k cs lv pc (v :: st) := by
  subst hq
  exact fun H locs ls hP hD hS hl => lv_pop C.x C.b hd hv (kk H locs ls hP hD hS hl)
theorem z_goto (C : Cx K R0 own cc Ts) {off : Int} (t : Nat) (hd : decode cc pc = .ok (.goto off, 3)) (ht : (pc : Int) + off = (t : Int)) (kk : Z K n k cs lv t st) : Z K n k cs lv pc st := fun H locs ls hP hD hS hl => lv_goto C.x C.b hd ht (kk H locs ls hP hD hS hl)
theorem z_icmpI_eq (C : Cx K R0 own cc Ts) {x y : Int32} {off : Int} (t : Nat) (hd : decode cc pc = .ok (.if_icmp .eq off, 3)) (ht : (pc : Int) + off = (t : Int)) (q : Nat) (hq : pc + 3 = q) (kt : x = y → Z K n k cs lv t st) (kf : ¬ x = y → Z K n k cs lv q st) : Z K n k cs lv pc (.int y :: .int x :: st) := by
  subst hq
  exact fun H locs ls hP hD hS hl => lv_icmp_eq C.x C.b hd ht (fun h => kt h H locs ls hP hD hS hl) (fun h => kf h H locs ls hP hD hS hl)
theorem z_ifI_eq (C : Cx K R0 own cc Ts) {x : Int32} {off : Int} (t : Nat) (hd : decode cc pc = .ok (.ifCond .eq off, 3)) (ht : (pc : Int) + off = (t : Int)) (q : Nat) (hq : pc + 3 = q) (kt : x = 0 → Z K n k cs lv t st) (kf : ¬ x = 0 → Z K n k cs lv q st) : Z K n k cs lv pc (.int x :: st) := by
  subst hq
  exact fun H locs ls hP hD hS hl => lv_if_eq C.x C.b hd ht (fun h => kt h H locs ls hP hD hS hl) (fun h => kf h H locs ls hP hD hS hl)
theorem z_icmpI_ne (C : Cx K R0 own cc Ts) {x y : Int32} {off : Int} (t : Nat) (hd : decode cc pc = .ok (.if_icmp .ne off, 3)) (ht : (pc : Int) + off = (t : Int)) (q : Nat) (hq : pc + 3 = q) (kt : ¬ x = y → Z K n k cs lv t st) (kf : x = y → Z K n k cs lv q st) : Z K n k cs lv pc (.int y :: .int x :: st) := by
  subst hq
  exact fun H locs ls hP hD hS hl => lv_icmp_ne C.x C.b hd ht (fun h => kt h H locs ls hP hD hS hl) (fun h => kf h H locs ls hP hD hS hl)
theorem z_ifI_ne (C : Cx K R0 own cc Ts) {x : Int32} {off : Int} (t : Nat) (hd : decode cc pc = .ok (.ifCond .ne off, 3)) (ht : (pc : Int) + off = (t : Int)) (q : Nat) (hq : pc + 3 = q) (kt : ¬ x = 0 → Z K n k cs lv t st) (kf : x = 0 → Z K n k cs lv q st) : Z K n k cs lv pc (.int x :: st) := by
  subst hq
  exact fun H locs ls hP hD hS hl => lv_if_ne C.x C.b hd ht (fun h => kt h H locs ls hP hD hS hl) (fun h => kf h H locs ls hP hD hS hl)
theorem z_icmpI_lt (C : Cx K R0 own cc Ts) {x y : Int32} {off : Int} (t : Nat) (hd : decode cc pc = .ok (.if_icmp .lt off, 3)) (ht : (pc : Int) + off = (t : Int)) (q : Nat) (hq : pc + 3 = q) (kt : x < y → Z K n k cs lv t st) (kf : ¬ x < y → Z K n k cs lv q st) : Z K n k cs lv pc (.int y :: .int x :: st) := by
  subst hq
  exact fun H locs ls hP hD hS hl => lv_icmp_lt C.x C.b hd ht (fun h => kt h H locs ls hP hD hS hl) (fun h => kf h H locs ls hP hD hS hl)
theorem z_ifI_lt (C : Cx K R0 own cc Ts) {x : Int32} {off : Int} (t : Nat) (hd : decode cc pc = .ok (.ifCond .lt off, 3)) (ht : (pc : Int) + off = (t : Int)) (q : Nat) (hq : pc + 3 = q) (kt : x < 0 → Z K n k cs lv t st) (kf : ¬ x < 0 → Z K n k cs lv q st) : Z K n k cs lv pc (.int x :: st) := by
  subst hq
  exact fun H locs ls hP hD hS hl => lv_if_lt C.x C.b hd ht (fun h => kt h H locs ls hP hD hS hl) (fun h => kf h H locs ls hP hD hS hl)
theorem z_icmpI_ge (C : Cx K R0 own cc Ts) {x y : Int32} {off : Int} (t : Nat) (hd : decode cc pc = .ok (.if_icmp .ge off, 3)) (ht : (pc : Int) + off = (t : Int)) (q : Nat) (hq : pc + 3 = q) (kt : y ≤ x → Z K n k cs lv t st) (kf : ¬ y ≤ x → Z K n k cs lv q st) : Z K n k cs lv pc (.int y :: .int x :: st) := by
  subst hq
  exact fun H locs ls hP hD hS hl => lv_icmp_ge C.x C.b hd ht (fun h => kt h H locs ls hP hD hS hl) (fun h => kf h H locs ls hP hD hS hl)
theorem z_ifI_ge (C : Cx K R0 own cc Ts) {x : Int32} {off : Int} (t : Nat) (hd : decode cc pc = .ok (.ifCond .ge off, 3)) (ht : (pc : Int) + off = (t : Int)) (q : Nat) (hq : pc + 3 = q) (kt : 0 ≤ x → Z K n k cs lv t st) (kf : ¬ 0 ≤ x → Z K n k cs lv q st) : Z K n k cs lv pc (.int x :: st) := by
  subst hq
  exact fun H locs ls hP hD hS hl => lv_if_ge C.x C.b hd ht (fun h => kt h H locs ls hP hD hS hl) (fun h => kf h H locs ls hP hD hS hl)
theorem z_icmpI_gt (C : Cx K R0 own cc Ts) {x y : Int32} {off : Int} (t : Nat) (hd : decode cc pc = .ok (.if_icmp .gt off, 3)) (ht : (pc : Int) + off = (t : Int)) (q : Nat) (hq : pc + 3 = q) (kt : y < x → Z K n k cs lv t st) (kf : ¬ y < x → Z K n k cs lv q st) : Z K n k cs lv pc (.int y :: .int x :: st) := by
  subst hq
  exact fun H locs ls hP hD hS hl => lv_icmp_gt C.x C.b hd ht (fun h => kt h H locs ls hP hD hS hl) (fun h => kf h H locs ls hP hD hS hl)
theorem z_ifI_gt (C : Cx K R0 own cc Ts) {x : Int32} {off : Int} (t : Nat) (hd : decode cc pc = .ok (.ifCond .gt off, 3)) (ht : (pc : Int) + off = (t : Int)) (q : Nat) (hq : pc + 3 = q) (kt : 0 < x → Z K n k cs lv t st) (kf : ¬ 0 < x → Z K n k cs lv q st) : Z K n k cs lv pc (.int x :: st) := by
  subst hq
  exact fun H locs ls hP hD hS hl => lv_if_gt C.x C.b hd ht (fun h => kt h H locs ls hP hD hS hl) (fun h => kf h H locs ls hP hD hS hl)
theorem z_icmpI_le (C : Cx K R0 own cc Ts) {x y : Int32} {off : Int} (t : Nat) (hd : decode cc pc = .ok (.if_icmp .le off, 3)) (ht : (pc : Int) + off = (t : Int)) (q : Nat) (hq : pc + 3 = q) (kt : x ≤ y → Z K n k cs lv t st) (kf : ¬ x ≤ y → Z K n k cs lv q st) : Z K n k cs lv pc (.int y :: .int x :: st) := by
  subst hq
  exact fun H locs ls hP hD hS hl => lv_icmp_le C.x C.b hd ht (fun h => kt h H locs ls hP hD hS hl) (fun h => kf h H locs ls hP hD hS hl)
theorem z_ifI_le (C : Cx K R0 own cc Ts) {x : Int32} {off : Int} (t : Nat) (hd : decode cc pc = .ok (.ifCond .le off, 3)) (ht : (pc : Int) + off = (t : Int)) (q : Nat) (hq : pc + 3 = q) (kt : x ≤ 0 → Z K n k cs lv t st) (kf : ¬ x ≤ 0 → Z K n k cs lv q st) : Z K n k cs lv pc (.int x :: st) := by
  subst hq
  exact fun H locs ls hP hD hS hl => lv_if_le C.x C.b hd ht (fun h => kt h H locs ls hP hD hS hl) (fun h => kf h H locs ls hP hD hS hl)
theorem z_icmp_eq (C : Cx K R0 own cc Ts) {a b : Nat} {off : Int} (ha : a < 2 ^ 31) (hb : b < 2 ^ 31) (t : Nat) (hd : decode cc pc = .ok (.if_icmp .eq off, 3)) (ht : (pc : Int) + off = (t : Int)) (q : Nat) (hq : pc + 3 = q) (kt : a = b → Z K n k cs lv t st) (kf : a ≠ b → Z K n k cs lv q st) : Z K n k cs lv pc (.int (nI b) :: .int (nI a) :: st) :=
  z_icmpI_eq C t hd ht q hq (fun h => kt ((nI_eq ha hb).mp h)) (fun h => kf (fun e => h ((nI_eq ha hb).mpr e)))
theorem z_if_eq (C : Cx K R0 own cc Ts) {a : Nat} {off : Int} (ha : a < 2 ^ 31) (t : Nat) (hd : decode cc pc = .ok (.ifCond .eq off, 3)) (ht : (pc : Int) + off = (t : Int)) (q : Nat) (hq : pc + 3 = q) (kt : a = 0 → Z K n k cs lv t st) (kf : a ≠ 0 → Z K n k cs lv q st) : Z K n k cs lv pc (.int (nI a) :: st) := by
  have hb : 0 < 2 ^ 31 := by decide
  have hz : (0 : Int32) = nI 0 := nI_0.symm
  refine z_ifI_eq C t hd ht q hq (fun h => kt ?_) (fun h => kf ?_)
  · rw [hz] at h; exact (nI_eq ha hb).mp h
  · rw [hz] at h; exact fun e => h ((nI_eq ha hb).mpr e)
theorem z_icmp_ne (C : Cx K R0 own cc Ts) {a b : Nat} {off : Int} (ha : a < 2 ^ 31) (hb : b < 2 ^ 31) (t : Nat) (hd : decode cc pc = .ok (.if_icmp .ne off, 3)) (ht : (pc : Int) + off = (t : Int)) (q : Nat) (hq : pc + 3 = q) (kt : a ≠ b → Z K n k cs lv t st) (kf : a = b → Z K n k cs lv q st) : Z K n k cs lv pc (.int (nI b) :: .int (nI a) :: st) :=
  z_icmpI_ne C t hd ht q hq (fun h => kt (fun e => h (by rw [e]))) (fun h => kf ((nI_eq ha hb).mp h))
theorem z_if_ne (C : Cx K R0 own cc Ts) {a : Nat} {off : Int} (ha : a < 2 ^ 31) (t : Nat) (hd : decode cc pc = .ok (.ifCond .ne off, 3)) (ht : (pc : Int) + off = (t : Int)) (q : Nat) (hq : pc + 3 = q) (kt : a ≠ 0 → Z K n k cs lv t st) (kf : a = 0 → Z K n k cs lv q st) : Z K n k cs lv pc (.int (nI a) :: st) := by
  have hb : 0 < 2 ^ 31 := by decide
  have hz : (0 : Int32) = nI 0 := nI_0.symm
  refine z_ifI_ne C t hd ht q hq (fun h => kt ?_) (fun h => kf ?_)
  · rw [hz] at h; exact fun e => h (by rw [e])
  · rw [hz] at h; exact (nI_eq ha hb).mp h
theorem z_icmp_lt (C : Cx K R0 own cc Ts) {a b : Nat} {off : Int} (ha : a < 2 ^ 31) (hb : b < 2 ^ 31) (t : Nat) (hd : decode cc pc = .ok (.if_icmp .lt off, 3)) (ht : (pc : Int) + off = (t : Int)) (q : Nat) (hq : pc + 3 = q) (kt : a < b → Z K n k cs lv t st) (kf : b ≤ a → Z K n k cs lv q st) : Z K n k cs lv pc (.int (nI b) :: .int (nI a) :: st) :=
  z_icmpI_lt C t hd ht q hq (fun h => kt ((nI_ltI ha hb).mp h)) (fun h => kf (Nat.le_of_not_lt (fun e => h ((nI_ltI ha hb).mpr e))))
theorem z_if_lt (C : Cx K R0 own cc Ts) {a : Nat} {off : Int} (ha : a < 2 ^ 31) (t : Nat) (hd : decode cc pc = .ok (.ifCond .lt off, 3)) (ht : (pc : Int) + off = (t : Int)) (q : Nat) (hq : pc + 3 = q) (kt : a < 0 → Z K n k cs lv t st) (kf : 0 ≤ a → Z K n k cs lv q st) : Z K n k cs lv pc (.int (nI a) :: st) := by
  have hb : 0 < 2 ^ 31 := by decide
  have hz : (0 : Int32) = nI 0 := nI_0.symm
  refine z_ifI_lt C t hd ht q hq (fun h => kt ?_) (fun h => kf ?_)
  · rw [hz] at h; exact (nI_ltI ha hb).mp h
  · rw [hz] at h; exact Nat.le_of_not_lt (fun e => h ((nI_ltI ha hb).mpr e))
theorem z_icmp_ge (C : Cx K R0 own cc Ts) {a b : Nat} {off : Int} (ha : a < 2 ^ 31) (hb : b < 2 ^ 31) (t : Nat) (hd : decode cc pc = .ok (.if_icmp .ge off, 3)) (ht : (pc : Int) + off = (t : Int)) (q : Nat) (hq : pc + 3 = q) (kt : b ≤ a → Z K n k cs lv t st) (kf : a < b → Z K n k cs lv q st) : Z K n k cs lv pc (.int (nI b) :: .int (nI a) :: st) :=
  z_icmpI_ge C t hd ht q hq (fun h => kt ((nI_leI hb ha).mp h)) (fun h => kf (Nat.lt_of_not_le (fun e => h ((nI_leI hb ha).mpr e))))
theorem z_if_ge (C : Cx K R0 own cc Ts) {a : Nat} {off : Int} (ha : a < 2 ^ 31) (t : Nat) (hd : decode cc pc = .ok (.ifCond .ge off, 3)) (ht : (pc : Int) + off = (t : Int)) (q : Nat) (hq : pc + 3 = q) (kt : 0 ≤ a → Z K n k cs lv t st) (kf : a < 0 → Z K n k cs lv q st) : Z K n k cs lv pc (.int (nI a) :: st) := by
  have hb : 0 < 2 ^ 31 := by decide
  have hz : (0 : Int32) = nI 0 := nI_0.symm
  refine z_ifI_ge C t hd ht q hq (fun h => kt ?_) (fun h => kf ?_)
  · rw [hz] at h; exact (nI_leI hb ha).mp h
  · rw [hz] at h; exact Nat.lt_of_not_le (fun e => h ((nI_leI hb ha).mpr e))
theorem z_icmp_gt (C : Cx K R0 own cc Ts) {a b : Nat} {off : Int} (ha : a < 2 ^ 31) (hb : b < 2 ^ 31) (t : Nat) (hd : decode cc pc = .ok (.if_icmp .gt off, 3)) (ht : (pc : Int) + off = (t : Int)) (q : Nat) (hq : pc + 3 = q) (kt : b < a → Z K n k cs lv t st) (kf : a ≤ b → Z K n k cs lv q st) : Z K n k cs lv pc (.int (nI b) :: .int (nI a) :: st) :=
  z_icmpI_gt C t hd ht q hq (fun h => kt ((nI_ltI hb ha).mp h)) (fun h => kf (Nat.le_of_not_lt (fun e => h ((nI_ltI hb ha).mpr e))))
theorem z_if_gt (C : Cx K R0 own cc Ts) {a : Nat} {off : Int} (ha : a < 2 ^ 31) (t : Nat) (hd : decode cc pc = .ok (.ifCond .gt off, 3)) (ht : (pc : Int) + off = (t : Int)) (q : Nat) (hq : pc + 3 = q) (kt : 0 < a → Z K n k cs lv t st) (kf : a ≤ 0 → Z K n k cs lv q st) : Z K n k cs lv pc (.int (nI a) :: st) := by
  have hb : 0 < 2 ^ 31 := by decide
  have hz : (0 : Int32) = nI 0 := nI_0.symm
  refine z_ifI_gt C t hd ht q hq (fun h => kt ?_) (fun h => kf ?_)
  · rw [hz] at h; exact (nI_ltI hb ha).mp h
  · rw [hz] at h; exact Nat.le_of_not_lt (fun e => h ((nI_ltI hb ha).mpr e))
theorem z_icmp_le (C : Cx K R0 own cc Ts) {a b : Nat} {off : Int} (ha : a < 2 ^ 31) (hb : b < 2 ^ 31) (t : Nat) (hd : decode cc pc = .ok (.if_icmp .le off, 3)) (ht : (pc : Int) + off = (t : Int)) (q : Nat) (hq : pc + 3 = q) (kt : a ≤ b → Z K n k cs lv t st) (kf : b < a → Z K n k cs lv q st) : Z K n k cs lv pc (.int (nI b) :: .int (nI a) :: st) :=
  z_icmpI_le C t hd ht q hq (fun h => kt ((nI_leI ha hb).mp h)) (fun h => kf (Nat.lt_of_not_le (fun e => h ((nI_leI ha hb).mpr e))))
theorem z_if_le (C : Cx K R0 own cc Ts) {a : Nat} {off : Int} (ha : a < 2 ^ 31) (t : Nat) (hd : decode cc pc = .ok (.ifCond .le off, 3)) (ht : (pc : Int) + off = (t : Int)) (q : Nat) (hq : pc + 3 = q) (kt : a ≤ 0 → Z K n k cs lv t st) (kf : 0 < a → Z K n k cs lv q st) : Z K n k cs lv pc (.int (nI a) :: st) := by
  have hb : 0 < 2 ^ 31 := by decide
  have hz : (0 : Int32) = nI 0 := nI_0.symm
  refine z_ifI_le C t hd ht q hq (fun h => kt ?_) (fun h => kf ?_)
  · rw [hz] at h; exact (nI_leI ha hb).mp h
  · rw [hz] at h; exact Nat.lt_of_not_le (fun e => h ((nI_leI ha hb).mpr e))
theorem z_dec {a : Nat} (h : 0 < a) : nI a + Int32.ofInt (-1) = nI (a - 1) := by
  obtain ⟨b, rfl⟩ : ∃ b, a = b + 1 := ⟨a - 1, by omega⟩
  exact (pk_m1 b).trans (by rw [Nat.add_sub_cancel])
theorem z_ind {P : Nat → Prop} (h : ∀ m, (∀ m', m' < m → P m') → P m) (m : Nat) : P m := Nat.strongRecOn m h
def bI (b : Bool) : Int32 := match b with
  | true => 1
  | false => 0
theorem z_ifb_eq (C : Cx K R0 own cc Ts) {b : Bool} {off : Int} (t : Nat) (hd : decode cc pc = .ok (.ifCond .eq off, 3)) (ht : (pc : Int) + off = (t : Int)) (q : Nat) (hq : pc + 3 = q) (kt : b = false → Z K n k cs lv t st) (kf : b = true → Z K n k cs lv q st) : Z K n k cs lv pc (.int (bI b) :: st) := by
  refine z_ifI_eq C t hd ht q hq (fun h => kt ?_) (fun h => kf ?_)
  · cases b
    · rfl
    · exact absurd h (by decide)
  · cases b
    · exact absurd rfl h
    · rfl
theorem z_ifb_ne (C : Cx K R0 own cc Ts) {b : Bool} {off : Int} (t : Nat) (hd : decode cc pc = .ok (.ifCond .ne off, 3)) (ht : (pc : Int) + off = (t : Int)) (q : Nat) (hq : pc + 3 = q) (kt : b = true → Z K n k cs lv t st) (kf : b = false → Z K n k cs lv q st) : Z K n k cs lv pc (.int (bI b) :: st) := by
  refine z_ifI_ne C t hd ht q hq (fun h => kt ?_) (fun h => kf ?_)
  · cases b
    · exact absurd rfl h
    · rfl
  · cases b
    · rfl
    · exact absurd h (by decide)
theorem z_nm {x : Nat} (kk : ∀ y : Nat, y = x → Z K n k cs lv pc (.int (nI y) :: st)) : Z K n k cs lv pc (.int (nI x) :: st) := kk x rfl
theorem z_nmI {x : Int32} (kk : ∀ y : Int32, y = x → Z K n k cs lv pc (.int y :: st)) : Z K n k cs lv pc (.int x :: st) := kk x rfl
theorem z_nmL {x : Int64} (kk : ∀ y : Int64, y = x → Z K n k cs lv pc (.long y :: st)) : Z K n k cs lv pc (.long x :: st) := kk x rfl
/-- the value on top, told otherwise -/
theorem z_top {x y : Int32} (h : x = y) (kk : Z K n k cs lv pc (.int y :: st)) : Z K n k cs lv pc (.int x :: st) := by rw [h]; exact kk
theorem z_tab (C : Cx K R0 own cc Ts) {dflt lo hi : Int} {offs : Array Int} {len : Nat} {a : Nat} {off : Int} (ha : a < 2 ^ 31) (t : Nat) (hd : decode cc pc = .ok (.tableswitch dflt lo hi offs, len)) (h1 : ¬ (a : Int) < lo) (h2 : ¬ hi < (a : Int)) (ho : offs[((a : Int) - lo).toNat]? = some off) (ht : (pc : Int) + off = (t : Int)) (kk : Z K n k cs lv t st) : Z K n k cs lv pc (.int (nI a) :: st) :=
  fun H locs ls hP hD hS hl => lv_tableIn C.x C.b hd (by rw [nI_toInt ha]; exact h1) (by rw [nI_toInt ha]; exact h2) (by rw [nI_toInt ha]; exact ho) ht (kk H locs ls hP hD hS hl)
theorem z_tabO (C : Cx K R0 own cc Ts) {dflt lo hi : Int} {offs : Array Int} {len : Nat} {x : Int32} (t : Nat) (hd : decode cc pc = .ok (.tableswitch dflt lo hi offs, len)) (h : x.toInt < lo ∨ hi < x.toInt) (ht : (pc : Int) + dflt = (t : Int)) (kk : Z K n k cs lv t st) : Z K n k cs lv pc (.int x :: st) :=
  fun H locs ls hP hD hS hl => lv_tableOut C.x C.b hd h ht (kk H locs ls hP hD hS hl)
theorem z_look (C : Cx K R0 own cc Ts) {dflt : Int} {ps : Array (Int × Int)} {len : Nat} {x : Int32} {off : Int} (t : Nat) (hd : decode cc pc = .ok (.lookupswitch dflt ps, len)) (hp : (ps.toList.zip (ps.toList.drop 1)).all (fun (a, next) => a.1 < next.1) = true) (ho : Op.lookupswitch.offset ps.toList dflt x.toInt = off) (ht : (pc : Int) + off = (t : Int)) (kk : Z K n k cs lv t st) : Z K n k cs lv pc (.int x :: st) :=
  fun H locs ls hP hD hS hl => lv_lookup C.x C.b hd hp ho ht (kk H locs ls hP hD hS hl)
def zCl (ci : Nat) (Cn : String) (T : u_T) (N : Nat) (ty : Nat → FieldType) : Prop := vwCl[ci]? = some (Cn, T, N) ∧ (∀ k, k < N → parseFieldDescriptor (T k).2.2.1 = some (ty k)) ∧ ∀ a, a < N → ∀ b, b < N → a ≠ b → (T a).2.1 ≠ (T b).2.1
theorem zc0 : zCl 0 RX0 TX0 3 tyX0 := ⟨rfl, tyX0_ok, nmX0⟩
theorem zc1 : zCl 1 RX1 TX1 3 tyX1 := ⟨rfl, tyX1_ok, nmX1⟩
theorem zc2 : zCl 2 RX2 TX2 8 tyX2 := ⟨rfl, tyX2_ok, nmX2⟩
theorem zc3 : zCl 3 RX3 TX3 18 tyX3 := ⟨rfl, tyX3_ok, nmX3⟩
theorem zc4 : zCl 4 RX4 TX4 7 tyX4 := ⟨rfl, tyX4_ok, nmX4⟩
theorem z_get (C : Cx K R0 own cc Ts) {Cn : String} {T : u_T} {N ci index : Nat} {ty : Nat → FieldType} (hc : zCl ci Cn T N ty) (hin : ∀ w ∈ u_ws Cn T N, w ∈ Ts) (i j : Nat) {c : va_W} {a : Nat} {fs : List Value} (hi : cs[i]? = some c) (he : c[j]? = some (a, .inr (ci, fs))) (f : Nat) (hf : f < N) (hw : Cond.fieldLink own index (T f).1 (T f).2.1 (T f).2.2.1 ∈ Ts) {v : Value} (hv : fs[f]? = some v) (hd : decode cc pc = .ok (.getfield index, 3)) (q : Nat) (hq : pc + 3 = q) (kk : Z K n k cs lv q (v :: st)) : Z K n k cs lv pc (.ref a :: st) := by
  subst hq
  exact fun H locs ls hP hD hS hl => va_get C.x C.b C.ts hin C.ow C.ka hP _ (zfl_get hi he) hc.1 f hf (C.ts _ hw) (fun _ h9 => h9) hv hd (kk H locs ls hP hD hS hl)
theorem z_put (C : Cx K R0 own cc Ts) {Cn : String} {T : u_T} {N ci index : Nat} {ty : Nat → FieldType} (hc : zCl ci Cn T N ty) (hin : ∀ w ∈ u_ws Cn T N, w ∈ Ts) (i j : Nat) {c : va_W} {a : Nat} {fs : List Value} (hi : cs[i]? = some c) (he : c[j]? = some (a, .inr (ci, fs))) (f : Nat) (hf : f < N) (hw : Cond.fieldLink own index (T f).1 (T f).2.1 (T f).2.2.1 ∈ Ts) (hfin : (T f).2.2.2 = false) {v : Value} (hn : narrow (ty f) v = v) (hfit : fits (ty f) v = true) (hl0 : f < fs.length) (c2 : va_W) (hc2 : c.set j (a, .inr (ci, fs.set f v)) = c2) (cs2 : List va_W) (hcs : cs.set i c2 = cs2) (hd : decode cc pc = .ok (.putfield index, 3)) (q : Nat) (hq : pc + 3 = q) (kk : Z K n k cs2 lv q st) : Z K n k cs lv pc (v :: .ref a :: st) := by
  subst hq
  subst hc2
  subst hcs
  exact fun H locs ls hP hD hS hl => va_put C.x C.b C.ts hin ty hc.2.1 hc.2.2 C.ow C.ka hP hD hS _ (zfl_get hi he) hc.1 f hf (C.ts _ hw) (fun _ h9 => h9) hfin (hc.2.1 f hf) hn hfit hl0 hd (fun H1 locs1 hP1 hD1 hS1 => kk H1 locs1 ls (by rw [zfl_set _ hi (zlen he)]; exact hP1) (by rw [zfl_set _ hi (zlen he)]; exact hD1) hS1 hl)
theorem z_iald (C : Cx K R0 own cc Ts) (i j : Nat) {c : va_W} {a N x : Nat} {f : Nat → Nat} (hi : cs[i]? = some c) (he : c[j]? = some (a, .inl (K.g.2 0, N, .inl (fun y => nI (f y))))) (hx : x < N) (hN : N < 2 ^ 31) (hd : decode cc pc = .ok (.iaload, 1)) (q : Nat) (hq : pc + 1 = q) (kk : Z K n k cs lv q (.int (nI (f x)) :: st)) : Z K n k cs lv pc (.int (nI x) :: .ref a :: st) := by
  subst hq
  intro H locs ls hP hD hS hl
  have h := kk H locs ls hP hD hS hl
  rw [show f x = f (nI x).toNatClampNeg by rw [nI_clamp (Nat.lt_trans hx hN)]] at h
  exact va_iald C.x C.b C.ka hP _ 0 (zfl_get hi he) rfl (vp_in_nI hx hN) hd h
theorem z_zald (C : Cx K R0 own cc Ts) (i j : Nat) {c : va_W} {a N x : Nat} {f : Nat → Bool} (hi : cs[i]? = some c) (he : c[j]? = some (a, .inl (K.g.2 3, N, .inl (fun y => bI (f y))))) (hx : x < N) (hN : N < 2 ^ 31) (hd : decode cc pc = .ok (.baload, 1)) (q : Nat) (hq : pc + 1 = q) (kk : Z K n k cs lv q (.int (bI (f x)) :: st)) : Z K n k cs lv pc (.int (nI x) :: .ref a :: st) := by
  subst hq
  intro H locs ls hP hD hS hl
  have h := kk H locs ls hP hD hS hl
  rw [show f x = f (nI x).toNatClampNeg by rw [nI_clamp (Nat.lt_trans hx hN)]] at h
  exact va_zald C.x C.b C.ka hP _ 3 (zfl_get hi he) rfl (vp_in_nI hx hN) hd h
/-- f, but v at k -/
def un {α : Type} (f : Nat → α) (k : Nat) (v : α) : Nat → α := fun j => if j = k then v else f j
theorem un_s {α : Type} {f : Nat → α} {k : Nat} {v : α} : un f k v k = v := if_pos rfl
theorem un_n {α : Type} {f : Nat → α} {k j : Nat} {v : α} (h : j ≠ k) : un f k v j = f j := if_neg h
theorem un_upd {f : Nat → Nat} {k v : Nat} : upd (fun y => nI (f y)) k (nI v) = fun y => nI (un f k v y) := by
  funext y
  show (if y = k then nI v else nI (f y)) = nI (if y = k then v else f y)
  by_cases h : y = k
  · rw [if_pos h, if_pos h]
  · rw [if_neg h, if_neg h]
theorem un_updb {f : Nat → Bool} {k : Nat} {v : Bool} : upd (fun y => bI (f y)) k (bI v) = fun y => bI (un f k v y) := by
  funext y
  show (if y = k then bI v else bI (f y)) = bI (if y = k then v else f y)
  by_cases h : y = k
  · rw [if_pos h, if_pos h]
  · rw [if_neg h, if_neg h]
theorem z_iast (C : Cx K R0 own cc Ts) (i j : Nat) {c : va_W} {a N x v : Nat} {f : Nat → Nat} (hi : cs[i]? = some c) (he : c[j]? = some (a, .inl (K.g.2 0, N, .inl (fun y => nI (f y))))) (hx : x < N) (hN : N < 2 ^ 31) (c2 : va_W) (hc2 : c.set j (a, .inl (K.g.2 0, N, .inl (fun y => nI (un f x v y)))) = c2) (cs2 : List va_W) (hcs : cs.set i c2 = cs2) (hd : decode cc pc = .ok (.iastore, 1)) (q : Nat) (hq : pc + 1 = q) (kk : Z K n k cs2 lv q st) : Z K n k cs lv pc (.int (nI v) :: .int (nI x) :: .ref a :: st) := by
  subst hq
  subst hc2
  subst hcs
  intro H locs ls hP hD hS hl
  refine va_iast C.x C.b C.ka hP hD hS _ 0 (zfl_get hi he) rfl (vp_in_nI hx hN) hd (fun H1 locs1 hP1 hD1 hS1 => kk H1 locs1 ls ?_ ?_ hS1 hl)
  · rw [zfl_set _ hi (zlen he)]
    rw [nI_clamp (Nat.lt_trans hx hN), un_upd] at hP1
    exact hP1
  · rw [zfl_set _ hi (zlen he)]
    rw [nI_clamp (Nat.lt_trans hx hN), un_upd] at hD1
    exact hD1
theorem z_zast (C : Cx K R0 own cc Ts) (i j : Nat) {c : va_W} {a N x : Nat} {v : Bool} {f : Nat → Bool} (hi : cs[i]? = some c) (he : c[j]? = some (a, .inl (K.g.2 3, N, .inl (fun y => bI (f y))))) (hx : x < N) (hN : N < 2 ^ 31) (c2 : va_W) (hc2 : c.set j (a, .inl (K.g.2 3, N, .inl (fun y => bI (un f x v y)))) = c2) (cs2 : List va_W) (hcs : cs.set i c2 = cs2) (hd : decode cc pc = .ok (.bastore, 1)) (q : Nat) (hq : pc + 1 = q) (kk : Z K n k cs2 lv q st) : Z K n k cs lv pc (.int (bI v) :: .int (nI x) :: .ref a :: st) := by
  subst hq
  subst hc2
  subst hcs
  intro H locs ls hP hD hS hl
  have hv : vp_nar .boolean (bI v) = bI v := by cases v <;> rfl
  refine va_zast C.x C.b C.ka hP hD hS _ 3 (zfl_get hi he) rfl (vp_in_nI hx hN) hd (fun H1 locs1 hP1 hD1 hS1 => kk H1 locs1 ls ?_ ?_ hS1 hl)
  · rw [zfl_set _ hi (zlen he)]
    rw [nI_clamp (Nat.lt_trans hx hN), hv, un_updb] at hP1
    exact hP1
  · rw [zfl_set _ hi (zlen he)]
    rw [nI_clamp (Nat.lt_trans hx hN), hv, un_updb] at hD1
    exact hD1
/-- an array's content, told otherwise -/
theorem z_arr (i j : Nat) {c : va_W} {a N : Nat} {cA : ClassId} {f g : Nat → Int32} (hi : cs[i]? = some c) (he : c[j]? = some (a, .inl (cA, N, .inl f))) (hfg : ∀ y, y < N → f y = g y) (c2 : va_W) (hc2 : c.set j (a, .inl (cA, N, .inl g)) = c2) (cs2 : List va_W) (hcs : cs.set i c2 = cs2) (kk : Z K n k cs2 lv pc st) : Z K n k cs lv pc st := by
  subst hc2
  subst hcs
  intro H locs ls hP hD hS hl
  have hcell : vp_cell cA (N, .inl f) = vp_cell cA (N, .inl g) := by
    show arrV cA N (fun j => .int (f j)) = arrV cA N (fun j => .int (g j))
    unfold arrV
    congr 1
    apply Array.ext
    · simp
    · intro y h1 h2
      simp at h1
      simp [hfg y h1]
  have hat : ∀ {H : Heap}, va_at K.g.1 vwCl (a, .inl (cA, N, .inl f)) H → va_at K.g.1 vwCl (a, .inl (cA, N, .inl g)) H := fun h => by
    show _ = some (vp_cell cA (N, .inl g))
    rw [← hcell]
    exact h
  refine kk H locs ls ?_ ?_ hS hl
  · rw [zfl_set _ hi (zlen he)]
    exact hP.set hD (zfl_get hi he) (hat (hP _ _ (zfl_get hi he))) (fun q _ => rfl)
  · rw [zfl_set _ hi (zlen he)]
    exact hD.set (zfl_get hi he)
theorem z_aald (C : Cx K R0 own cc Ts) (i j t0 : Nat) {c : va_W} {a N x y : Nat} {cA : ClassId} {ty : FieldType} {f : Nat → Option Nat} (hi : cs[i]? = some c) (he : c[j]? = some (a, .inl (cA, N, .inr (.inr (.inr (.inr f)))))) (ht : (zT K.g)[t0]? = some (cA, ty)) (hr : ty.isReference = true) (hx : x < N) (hN : N < 2 ^ 31) (hy : f x = some y) (hd : decode cc pc = .ok (.aaload, 1)) (q : Nat) (hq : pc + 1 = q) (kk : Z K n k cs lv q (.ref y :: st)) : Z K n k cs lv pc (.int (nI x) :: .ref a :: st) := by
  subst hq
  intro H locs ls hP hD hS hl
  have hlt : (nI x).toNatClampNeg < N := by rw [nI_clamp (Nat.lt_trans hx hN)]; exact hx
  refine W.aald (v := .ref y) (ty := ty) C.x C.b (hP _ _ (zfl_get hi he)) ((C.ka.2 t0 _ ht).1 N (fun j => va_rf (f j))) hr (fun q => by cases q) (by show ¬ (nI x < 0 ∨ (arrV _ _ _).slots.size ≤ _); rw [arrV_size]; exact vp_in_nI hx hN) (by show (arrV _ _ _).slots[_]? = _; rw [arrV_read _ _ hlt, nI_clamp (Nat.lt_trans hx hN), hy]; rfl) rfl rfl hd (kk H locs ls hP hD hS hl)
theorem z_alen (C : Cx K R0 own cc Ts) (i j t0 : Nat) {c : va_W} {a : Nat} {cA : ClassId} {x : vp_A} {ty : FieldType} (hi : cs[i]? = some c) (he : c[j]? = some (a, .inl (cA, x))) (ht : (zT K.g)[t0]? = some (cA, ty)) {v : Nat} (hv : x.1 = v) (hd : decode cc pc = .ok (.arraylength, 1)) (q : Nat) (hq : pc + 1 = q) (kk : Z K n k cs lv q (.int (nI v) :: st)) : Z K n k cs lv pc (.ref a :: st) := by
  subst hq
  subst hv
  exact fun H locs ls hP hD hS hl => va_alen C.x C.b C.ka hP _ t0 (zfl_get hi he) ht rfl hd (kk H locs ls hP hD hS hl)
theorem zmax {x y : Nat} (hx : x < 2 ^ 31) (hy : y < 2 ^ 31) : (if nI x < nI y then nI y else nI x) = nI (max x y) := by
  by_cases h : x < y
  · rw [if_pos ((nI_ltI hx hy).mpr h), Nat.max_eq_right (Nat.le_of_lt h)]
  · rw [if_neg (fun e => h ((nI_ltI hx hy).mp e)), Nat.max_eq_left (Nat.le_of_not_lt h)]
theorem zmin {x y : Nat} (hx : x < 2 ^ 31) (hy : y < 2 ^ 31) : (if nI y < nI x then nI y else nI x) = nI (min x y) := by
  by_cases h : y < x
  · rw [if_pos ((nI_ltI hy hx).mpr h), Nat.min_eq_right (Nat.le_of_lt h)]
  · rw [if_neg (fun e => h ((nI_ltI hy hx).mp e)), Nat.min_eq_left (Nat.le_of_not_lt h)]
end ZR

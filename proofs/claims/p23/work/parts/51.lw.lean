/-! LW: the law. -/
theorem hdL_areAlike : yL_areAlike.cls ≠ "java/lang/invoke/MethodHandle" ∧ yL_areAlike.cls ≠ "java/lang/invoke/VarHandle" ∧ (parseMethodDescriptor yL_areAlike.desc).map (fun d => d.parameters.length) = some 2 := by decide +kernel
theorem hdL_cell : yL_cell.cls ≠ "java/lang/invoke/MethodHandle" ∧ yL_cell.cls ≠ "java/lang/invoke/VarHandle" ∧ (parseMethodDescriptor yL_cell.desc).map (fun d => d.parameters.length) = some 2 := by decide +kernel
theorem hdL_isStep : yL_isStep.cls ≠ "java/lang/invoke/MethodHandle" ∧ yL_isStep.cls ≠ "java/lang/invoke/VarHandle" ∧ (parseMethodDescriptor yL_isStep.desc).map (fun d => d.parameters.length) = some 4 := by decide +kernel
theorem hdL_isWell : yL_isWell.cls ≠ "java/lang/invoke/MethodHandle" ∧ yL_isWell.cls ≠ "java/lang/invoke/VarHandle" ∧ (parseMethodDescriptor yL_isWell.desc).map (fun d => d.parameters.length) = some 1 := by decide +kernel
set_option maxHeartbeats 4000000 in
set_option maxRecDepth 100000 in
theorem lw_run {K : zK} (C : Cx K room_1 RL cL_law wsL_law) (hnL : K.nL = 5) (x : Nat → Nat) (a : oA) (y : Nat → Nat) (b : oA) (s0 L : Nat) (xs : Nat → Int32) (hScr : eScr s0 L xs K.A K.s) (hL : L ≤ 260) (heAll : eAll K.A K.s) (hEnd : ∀ (H : Heap) (locs : List Loc) (ls : Array Slot), va_S K.A K.s.heap H locs → W K.p K.l K.e K.R K.s K.m K.args K.below K.meth K.c H locs 186 1768 K.Q (F0 K.m 313 ls [.int (nI 1)])) (S : oS) (J : oJ) (T : oS) (Jp : oJ) (hI : INV S) (hIT : INV T) (hRel : REL S T 6) : Z K 186 1768 [wO K.g x a S J, wO K.g y b T Jp] [(0, .ref s0), (1, .ref (x 0)), (2, .ref (y 0)), (3, .int (nI 1))] 225 [] := by
  have heSet := heAll.1
  refine z_iconst C (v := nI 0) rfl dL_law_225 226 rfl ?_
  refine z_istore C hnL [1, 2, 3, 4, 0] [(0, .ref s0), (1, .ref (x 0)), (2, .ref (y 0)), (3, .int (nI 1)), (4, .int (nI 0))] rfl (Nat.le_of_ble_eq_true rfl) dL_law_226 228 rfl ?_
  have loop228 : ∀ (mu : Nat) (k : Nat) (S : oS) (J : oJ) (T : oS) (Jp : oJ), mu = 48 - k → k ≤ 48 → INV S → INV T → REL S T 6 → Z K 186 1768 [wO K.g x a S J, wO K.g y b T Jp] [(0, .ref s0), (1, .ref (x 0)), (2, .ref (y 0)), (3, .int (nI 1)), (4, .int (nI k))] 228 [] := by
    refine z_ind (fun mu ih228 => ?_)
    intro k S J T Jp hmu228 hk hI hIT hRel
    refine z_iload C 4 rfl dL_law_228 230 rfl ?_
    refine z_bipush C (v := nI 48) rfl dL_law_230 232 rfl ?_
    refine z_icmp_ge C (by omega) (by omega) 289 dL_law_232 (by decide) 235 rfl (fun c_1 => ?_) (fun c_1 => ?_)
    · skip
      refine z_iload_n C 3 rfl rfl dL_law_289 290 rfl ?_
      refine z_if_eq C (by omega) 312 dL_law_290 (by decide) 293 rfl (fun c_2 => ?_) (fun c_2 => ?_)
      · exfalso; omega
      refine z_aload_n C 1 rfl rfl dL_law_293 294 rfl ?_
      refine z_callSE (E := eAll) (fun _ _ _ e e2 h => eAll.same e e2 h) (fun _ _ _ hS9 hW9 hAB => eAll.later heAll hS9 hW9 hAB) C [.ref (x 0)] [] (tL_isWell K.l K.g x a S J hI) gL_law_L_isWell rfl rfl rfl hdL_isWell ⟨Nat.le_of_ble_eq_true rfl, Nat.le_of_ble_eq_true rfl⟩ ⟨Nat.le_of_ble_eq_true rfl, Nat.le_of_ble_eq_true rfl⟩ [0] rfl rfl (zlc (N := 2) rfl rfl) [2, 1] rfl (by decide) (fun J2 : oJ => [wO K.g x a S J2, wO K.g y b T Jp]) (fun _ => rfl) rfl rfl (Nat.le_of_ble_eq_true rfl) dL_law_294 297 rfl (fun u9 hu9 => ?_)
      obtain ⟨J2_3, rfl⟩ : ∃ z, z = u9 := ⟨_, rfl⟩
      show Z K 186 1768 [wO K.g x a S J2_3, wO K.g y b T Jp] [(0, .ref s0), (1, .ref (x 0)), (2, .ref (y 0)), (3, .int (nI 1)), (4, .int (nI k))] 297 [.int (bI true)]
      refine z_ifb_eq C 312 dL_law_297 (by decide) 300 rfl (fun c_4 => ?_) (fun c_4 => ?_)
      · exfalso; exact absurd c_4 (by decide)
      refine z_aload_n C 1 rfl rfl dL_law_300 301 rfl ?_
      refine z_aload_n C 2 rfl rfl dL_law_301 302 rfl ?_
      refine z_callSE (E := eAll) (fun _ _ _ e e2 h => eAll.same e e2 h) (fun _ _ _ hS9 hW9 hAB => eAll.later heAll hS9 hW9 hAB) C [.ref (x 0), .ref (y 0)] [] (tL_areAlike K.l K.g x a S J2_3 y b T Jp hI hIT hRel) gL_law_L_areAlike rfl rfl rfl hdL_areAlike ⟨Nat.le_of_ble_eq_true rfl, Nat.le_of_ble_eq_true rfl⟩ ⟨Nat.le_of_ble_eq_true rfl, Nat.le_of_ble_eq_true rfl⟩ [0, 1] rfl rfl (zlc (N := 2) rfl rfl) [2, 3] rfl (by decide) (fun u : (oJ) × (oJ) => match u with | (J2, J3) => [wO K.g x a S J2, wO K.g y b T J3]) (fun _ => rfl) rfl rfl (Nat.le_of_ble_eq_true rfl) dL_law_302 305 rfl (fun u9 hu9 => ?_)
      obtain ⟨J2_5, J3_6⟩ := u9
      show Z K 186 1768 [wO K.g x a S J2_5, wO K.g y b T J3_6] [(0, .ref s0), (1, .ref (x 0)), (2, .ref (y 0)), (3, .int (nI 1)), (4, .int (nI k))] 305 [.int (bI true)]
      refine z_ifb_eq C 312 dL_law_305 (by decide) 308 rfl (fun c_7 => ?_) (fun c_7 => ?_)
      · exfalso; exact absurd c_7 (by decide)
      refine z_iconst C (v := nI 1) rfl dL_law_308 309 rfl ?_
      refine z_goto C 313 dL_law_309 (by decide) ?_
      exact fun H locs ls _ _ hS9 _ => hEnd H locs ls hS9
    · skip
      refine z_iload_n C 3 rfl rfl dL_law_235 236 rfl ?_
      refine z_if_eq C (by omega) 289 dL_law_236 (by decide) 239 rfl (fun c_8 => ?_) (fun c_8 => ?_)
      · exfalso; omega
      refine z_aload_n C 1 rfl rfl dL_law_239 240 rfl ?_
      refine z_aload_n C 2 rfl rfl dL_law_240 241 rfl ?_
      refine z_aload_n C 0 rfl rfl dL_law_241 242 rfl ?_
      refine z_iload C 4 rfl dL_law_242 244 rfl ?_
      refine z_callSE (E := (eScr s0 L xs)) (fun _ _ _ e e2 h => eScr.same e e2 h) (fun _ _ _ hS9 hW9 hAB => eScr.later hScr hS9 hW9 hAB) C [.ref s0, .int (nI k)] [.ref (y 0), .ref (x 0)] (tL_cell K.l K.g s0 L xs k (by omega) (by omega)) gL_law_L_cell rfl rfl rfl hdL_cell ⟨Nat.le_of_ble_eq_true rfl, Nat.le_of_ble_eq_true rfl⟩ ⟨Nat.le_of_ble_eq_true rfl, Nat.le_of_ble_eq_true rfl⟩ [] rfl rfl (zlc (N := 2) rfl rfl) [0, 1] rfl (by decide) (fun z : Int32 => [wO K.g x a S J, wO K.g y b T Jp]) (fun _ => rfl) rfl rfl (Nat.le_of_ble_eq_true rfl) dL_law_244 247 rfl (fun u9 hu9 => ?_)
      obtain ⟨z_9, rfl⟩ : ∃ z, z = u9 := ⟨_, rfl⟩
      show Z K 186 1768 [wO K.g x a S J, wO K.g y b T Jp] [(0, .ref s0), (1, .ref (x 0)), (2, .ref (y 0)), (3, .int (nI 1)), (4, .int (nI k))] 247 [.int z_9, .ref (y 0), .ref (x 0)]
      refine z_aload_n C 0 rfl rfl dL_law_247 248 rfl ?_
      refine z_iload C 4 rfl dL_law_248 250 rfl ?_
      refine z_iconst C (v := nI 1) rfl dL_law_250 251 rfl ?_
      refine z_iadd C dL_law_251 252 rfl ?_
      refine z_callSE (E := (eScr s0 L xs)) (fun _ _ _ e e2 h => eScr.same e e2 h) (fun _ _ _ hS9 hW9 hAB => eScr.later hScr hS9 hW9 hAB) C [.ref s0, .int (nI (k + 1))] [.int z_9, .ref (y 0), .ref (x 0)] (tL_cell K.l K.g s0 L xs (k + 1) (by omega) (by omega)) gL_law_L_cell rfl rfl rfl hdL_cell ⟨Nat.le_of_ble_eq_true rfl, Nat.le_of_ble_eq_true rfl⟩ ⟨Nat.le_of_ble_eq_true rfl, Nat.le_of_ble_eq_true rfl⟩ [] rfl rfl (zlc (N := 2) rfl rfl) [0, 1] rfl (by decide) (fun z : Int32 => [wO K.g x a S J, wO K.g y b T Jp]) (fun _ => rfl) rfl rfl (Nat.le_of_ble_eq_true rfl) dL_law_252 255 rfl (fun u9 hu9 => ?_)
      obtain ⟨z_10, rfl⟩ : ∃ z, z = u9 := ⟨_, rfl⟩
      show Z K 186 1768 [wO K.g x a S J, wO K.g y b T Jp] [(0, .ref s0), (1, .ref (x 0)), (2, .ref (y 0)), (3, .int (nI 1)), (4, .int (nI k))] 255 [.int z_10, .int z_9, .ref (y 0), .ref (x 0)]
      refine z_iconst C (v := nI 2) rfl dL_law_255 256 rfl ?_
      refine z_ishr C dL_law_256 257 rfl ?_
      refine z_callSE (E := eAll) (fun _ _ _ e e2 h => eAll.same e e2 h) (fun _ _ _ hS9 hW9 hAB => eAll.later heAll hS9 hW9 hAB) C [.ref (x 0), .ref (y 0), .int z_9, .int (z_10 >>> (nI 2 &&& 31))] [] (tL_isStep K.l K.g x a S J y b T Jp z_9 (z_10 >>> (nI 2 &&& 31)) hI hIT hRel) gL_law_L_isStep rfl rfl rfl hdL_isStep ⟨Nat.le_of_ble_eq_true rfl, Nat.le_of_ble_eq_true rfl⟩ ⟨Nat.le_of_ble_eq_true rfl, Nat.le_of_ble_eq_true rfl⟩ [0, 1] rfl rfl (zlc (N := 2) rfl rfl) [2, 3] rfl (by decide) (fun u : (oS) × (oJ) × (oS) × (oJ) => match u with | (S2, J2, T2, J3) => [wO K.g x a S2 J2, wO K.g y b T2 J3]) (fun _ => rfl) rfl rfl (Nat.le_of_ble_eq_true rfl) dL_law_257 260 rfl (fun u9 hu9 => ?_)
      obtain ⟨S2, J2, T2, J3⟩ := u9
      obtain ⟨hI2, hIT2, hRel2⟩ := hu9
      have hI2 : INV S2 := hI2
      have hIT2 : INV T2 := hIT2
      have hRel2 : REL S2 T2 6 := hRel2
      show Z K 186 1768 [wO K.g x a S2 J2, wO K.g y b T2 J3] [(0, .ref s0), (1, .ref (x 0)), (2, .ref (y 0)), (3, .int (nI 1)), (4, .int (nI k))] 260 [.int (bI true)]
      refine z_ifb_eq C 281 dL_law_260 (by decide) 263 rfl (fun c_11 => ?_) (fun c_11 => ?_)
      · exfalso; exact absurd c_11 (by decide)
      refine z_iload C 4 rfl dL_law_263 265 rfl ?_
      refine z_iconst C (v := nI 4) rfl dL_law_265 266 rfl ?_
      refine z_irem C (by omega) (by omega) (by omega) dL_law_266 267 rfl ?_
      have jnw : ∀ (J9 : oJ), Z K 186 1768 [wO K.g x a S2 J9, wO K.g y b T2 J3] [(0, .ref s0), (1, .ref (x 0)), (2, .ref (y 0)), (3, .int (nI 1)), (4, .int (nI k))] 277 [] := by
        intro J9
        refine z_iconst C (v := nI 1) rfl dL_law_277 278 rfl ?_
        refine z_goto C 282 dL_law_278 (by decide) ?_
        refine z_istore_n C hnL [1, 2, 3, 0, 4] [(0, .ref s0), (1, .ref (x 0)), (2, .ref (y 0)), (3, .int (nI 1)), (4, .int (nI k))] rfl rfl (Nat.le_of_ble_eq_true rfl) dL_law_282 283 rfl ?_
        refine z_iinc C hnL 4 rfl (v := (nI (k + 1))) (nI_1 _) [1, 2, 3, 4, 0] [(0, .ref s0), (1, .ref (x 0)), (2, .ref (y 0)), (3, .int (nI 1)), (4, .int (nI (k + 1)))] rfl (Nat.le_of_ble_eq_true rfl) dL_law_283 286 rfl ?_
        refine z_goto C 228 dL_law_286 (by decide) ?_
        exact ih228 _ (by omega) (k + 1) S2 J9 T2 J3 rfl (by omega) hI2 hIT2 hRel2
      refine z_if_gt C (by omega) 277 dL_law_267 (by decide) 270 rfl (fun c_12 => ?_) (fun c_12 => ?_)
      · skip
        exact jnw J2
      · skip
        refine z_aload_n C 1 rfl rfl dL_law_270 271 rfl ?_
        refine z_callSE (E := eAll) (fun _ _ _ e e2 h => eAll.same e e2 h) (fun _ _ _ hS9 hW9 hAB => eAll.later heAll hS9 hW9 hAB) C [.ref (x 0)] [] (tL_isWell K.l K.g x a S2 J2 hI2) gL_law_L_isWell rfl rfl rfl hdL_isWell ⟨Nat.le_of_ble_eq_true rfl, Nat.le_of_ble_eq_true rfl⟩ ⟨Nat.le_of_ble_eq_true rfl, Nat.le_of_ble_eq_true rfl⟩ [0] rfl rfl (zlc (N := 2) rfl rfl) [2, 1] rfl (by decide) (fun J2 : oJ => [wO K.g x a S2 J2, wO K.g y b T2 J3]) (fun _ => rfl) rfl rfl (Nat.le_of_ble_eq_true rfl) dL_law_271 274 rfl (fun u9 hu9 => ?_)
        obtain ⟨J2_13, rfl⟩ : ∃ z, z = u9 := ⟨_, rfl⟩
        show Z K 186 1768 [wO K.g x a S2 J2_13, wO K.g y b T2 J3] [(0, .ref s0), (1, .ref (x 0)), (2, .ref (y 0)), (3, .int (nI 1)), (4, .int (nI k))] 274 [.int (bI true)]
        refine z_ifb_eq C 281 dL_law_274 (by decide) 277 rfl (fun c_14 => ?_) (fun c_14 => ?_)
        · exfalso; exact absurd c_14 (by decide)
        exact jnw J2_13
  exact loop228 _ 0 S J T Jp rfl (by omega) hI hIT hRel

set_option maxHeartbeats 4000000 in
set_option maxRecDepth 100000 in
theorem lw_six {K : zK} (C : Cx K room_1 RL cL_law wsL_law) (hnL : K.nL = 5) (x : Nat → Nat) (a : oA) (y : Nat → Nat) (b : oA) (s0 L : Nat) (xs : Nat → Int32) (hScr : eScr s0 L xs K.A K.s) (hL : L ≤ 260) (heAll : eAll K.A K.s) (hEnd : ∀ (H : Heap) (locs : List Loc) (ls : Array Slot), va_S K.A K.s.heap H locs → W K.p K.l K.e K.R K.s K.m K.args K.below K.meth K.c H locs 186 1768 K.Q (F0 K.m 313 ls [.int (nI 1)])) (S : oS) (J : oJ) (T : oS) (Jp : oJ) (h0 : E0 S) (h1 : E0 T) (hRel : REL S T 0) (h10 : sSt S 0 = 10) (h20 : sSt T 0 = 20) : Z K 186 1768 [wO K.g x a S J, wO K.g y b T Jp] [(0, .ref s0), (1, .ref (x 0)), (2, .ref (y 0)), (3, .int (nI 1))] 175 [] := by
  have heSet := heAll.1
  refine z_iconst C (v := nI 0) rfl dL_law_175 176 rfl ?_
  refine z_istore C hnL [1, 2, 3, 4, 0] [(0, .ref s0), (1, .ref (x 0)), (2, .ref (y 0)), (3, .int (nI 1)), (4, .int (nI 0))] rfl (Nat.le_of_ble_eq_true rfl) dL_law_176 178 rfl ?_
  have loop178 : ∀ (mu : Nat) (k : Nat) (S : oS) (J : oJ) (T : oS) (Jp : oJ), mu = 6 - k → k ≤ 6 → E0 S → E0 T → REL S T k → sSt S 0 = 10 → sSt T 0 = 20 → Z K 186 1768 [wO K.g x a S J, wO K.g y b T Jp] [(0, .ref s0), (1, .ref (x 0)), (2, .ref (y 0)), (3, .int (nI 1)), (4, .int (nI k))] 178 [] := by
    refine z_ind (fun mu ih178 => ?_)
    intro k S J T Jp hmu178 hk h0 h1 hRel h10 h20
    refine z_iload C 4 rfl dL_law_178 180 rfl ?_
    refine z_bipush C (v := nI 6) rfl dL_law_180 182 rfl ?_
    refine z_icmp_ge C (by omega) (by omega) 225 dL_law_182 (by decide) 185 rfl (fun c_1 => ?_) (fun c_1 => ?_)
    · skip
      obtain rfl : k = 6 := by omega
      refine z_lv [0, 1, 2, 3] [(0, .ref s0), (1, .ref (x 0)), (2, .ref (y 0)), (3, .int (nI 1))] rfl ?_
      exact lw_run C hnL x a y b s0 L xs hScr hL heAll hEnd S J T Jp h0.1 h1.1 hRel
    · skip
      refine z_iload_n C 3 rfl rfl dL_law_185 186 rfl ?_
      refine z_if_eq C (by omega) 217 dL_law_186 (by decide) 189 rfl (fun c_2 => ?_) (fun c_2 => ?_)
      · exfalso; omega
      refine z_aload_n C 1 rfl rfl dL_law_189 190 rfl ?_
      refine z_iconst C (v := nI 0) rfl dL_law_190 191 rfl ?_
      refine z_bipush C (v := nI 10) rfl dL_law_191 193 rfl ?_
      refine z_callVE (E := eSet) (fun _ _ _ e e2 h => eSet.same e e2 h) (fun _ _ _ hS9 hW9 hAB => eSet.later heSet hS9 hW9 hAB) C [.int (nI 0), .int (nI 10)] [] (tO_setW K.l K.g x a S J 0 10 h0 (by decide) (by decide) (by decide)) gL_law_X4_set rfl rfl rfl hdX4_set ⟨Nat.le_of_ble_eq_true rfl, Nat.le_of_ble_eq_true rfl⟩ ⟨Nat.le_of_ble_eq_true rfl, Nat.le_of_ble_eq_true rfl⟩ 0 0 rfl rfl rfl [0] rfl rfl (zlc (N := 2) rfl rfl) [2, 1] rfl (by decide) (fun J2 : oJ => [wO K.g x a (sW S 0 10) J2, wO K.g y b T Jp]) (fun _ => rfl) rfl rfl (Nat.le_of_ble_eq_true rfl) dL_law_193 196 rfl (fun u9 hu9 => ?_)
      obtain ⟨J2_3, rfl⟩ : ∃ z, z = u9 := ⟨_, rfl⟩
      show Z K 186 1768 [wO K.g x a (sW S 0 10) J2_3, wO K.g y b T Jp] [(0, .ref s0), (1, .ref (x 0)), (2, .ref (y 0)), (3, .int (nI 1)), (4, .int (nI k))] 196 [.int (nI (sSt S 0))]
      refine z_top (show (nI (sSt S 0) : Int32) = nI 10 from (congrArg nI h10)) ?_
      refine z_bipush C (v := nI 10) rfl dL_law_196 198 rfl ?_
      refine z_icmp_ne C (by omega) (by omega) 217 dL_law_198 (by decide) 201 rfl (fun c_4 => ?_) (fun c_4 => ?_)
      · exfalso; omega
      refine z_aload_n C 2 rfl rfl dL_law_201 202 rfl ?_
      refine z_iconst C (v := nI 0) rfl dL_law_202 203 rfl ?_
      refine z_bipush C (v := nI 20) rfl dL_law_203 205 rfl ?_
      refine z_callVE (E := eSet) (fun _ _ _ e e2 h => eSet.same e e2 h) (fun _ _ _ hS9 hW9 hAB => eSet.later heSet hS9 hW9 hAB) C [.int (nI 0), .int (nI 20)] [] (tO_setW K.l K.g y b T Jp 0 20 h1 (by decide) (by decide) (by decide)) gL_law_X4_set rfl rfl rfl hdX4_set ⟨Nat.le_of_ble_eq_true rfl, Nat.le_of_ble_eq_true rfl⟩ ⟨Nat.le_of_ble_eq_true rfl, Nat.le_of_ble_eq_true rfl⟩ 1 0 rfl rfl rfl [1] rfl rfl (zlc (N := 2) rfl rfl) [0, 2] rfl (by decide) (fun J2 : oJ => [wO K.g x a (sW S 0 10) J2_3, wO K.g y b (sW T 0 20) J2]) (fun _ => rfl) rfl rfl (Nat.le_of_ble_eq_true rfl) dL_law_205 208 rfl (fun u9 hu9 => ?_)
      obtain ⟨J2_5, rfl⟩ : ∃ z, z = u9 := ⟨_, rfl⟩
      show Z K 186 1768 [wO K.g x a (sW S 0 10) J2_3, wO K.g y b (sW T 0 20) J2_5] [(0, .ref s0), (1, .ref (x 0)), (2, .ref (y 0)), (3, .int (nI 1)), (4, .int (nI k))] 208 [.int (nI (sSt T 0))]
      refine z_top (show (nI (sSt T 0) : Int32) = nI 20 from (congrArg nI h20)) ?_
      refine z_bipush C (v := nI 20) rfl dL_law_208 210 rfl ?_
      refine z_icmp_ne C (by omega) (by omega) 217 dL_law_210 (by decide) 213 rfl (fun c_6 => ?_) (fun c_6 => ?_)
      · exfalso; omega
      refine z_iconst C (v := nI 1) rfl dL_law_213 214 rfl ?_
      refine z_goto C 218 dL_law_214 (by decide) ?_
      refine z_istore_n C hnL [1, 2, 3, 0, 4] [(0, .ref s0), (1, .ref (x 0)), (2, .ref (y 0)), (3, .int (nI 1)), (4, .int (nI k))] rfl rfl (Nat.le_of_ble_eq_true rfl) dL_law_218 219 rfl ?_
      refine z_iinc C hnL 4 rfl (v := (nI (k + 1))) (nI_1 _) [1, 2, 3, 4, 0] [(0, .ref s0), (1, .ref (x 0)), (2, .ref (y 0)), (3, .int (nI 1)), (4, .int (nI (k + 1)))] rfl (Nat.le_of_ble_eq_true rfl) dL_law_219 222 rfl ?_
      refine z_goto C 178 dL_law_222 (by decide) ?_
      exact ih178 _ (by omega) (k + 1) (sW S 0 10) J2_3 (sW T 0 20) J2_5 rfl (by omega) (E0_sW h0 (by decide) (by decide) (by decide)) (E0_sW h1 (by decide) (by decide) (by decide)) (REL_sW h0.1 hRel) sW_0 sW_0
  exact loop178 _ 0 S J T Jp rfl (by omega) h0 h1 hRel h10 h20

set_option maxHeartbeats 4000000 in
set_option maxRecDepth 100000 in
theorem lw_first {K : zK} (C : Cx K room_1 RL cL_law wsL_law) (hnL : K.nL = 5) (x : Nat → Nat) (a : oA) (y : Nat → Nat) (b : oA) (s0 L : Nat) (xs : Nat → Int32) (hScr : eScr s0 L xs K.A K.s) (hL : L ≤ 260) (heAll : eAll K.A K.s) (hEnd : ∀ (H : Heap) (locs : List Loc) (ls : Array Slot), va_S K.A K.s.heap H locs → W K.p K.l K.e K.R K.s K.m K.args K.below K.meth K.c H locs 186 1768 K.Q (F0 K.m 313 ls [.int (nI 1)]))   : Z K 186 1768 [wO K.g x a iniS iniJ, wO K.g y b iniS iniJ] [(0, .ref s0), (1, .ref (x 0)), (2, .ref (y 0))] 16 [] := by
  have heSet := heAll.1
  refine z_aload_n C 2 rfl rfl dL_law_16 17 rfl ?_
  refine z_iconst C (v := nI 0) rfl dL_law_17 18 rfl ?_
  refine z_bipush C (v := nI 20) rfl dL_law_18 20 rfl ?_
  refine z_callVE (E := eSet) (fun _ _ _ e e2 h => eSet.same e e2 h) (fun _ _ _ hS9 hW9 hAB => eSet.later heSet hS9 hW9 hAB) C [.int (nI 0), .int (nI 20)] [] (tO_setW K.l K.g y b iniS iniJ 0 20 E0_ini (by decide) (by decide) (by decide)) gL_law_X4_set rfl rfl rfl hdX4_set ⟨Nat.le_of_ble_eq_true rfl, Nat.le_of_ble_eq_true rfl⟩ ⟨Nat.le_of_ble_eq_true rfl, Nat.le_of_ble_eq_true rfl⟩ 1 0 rfl rfl rfl [1] rfl rfl (zlc (N := 2) rfl rfl) [0, 2] rfl (by decide) (fun J2 : oJ => [wO K.g x a iniS iniJ, wO K.g y b (sW iniS 0 20) J2]) (fun _ => rfl) rfl rfl (Nat.le_of_ble_eq_true rfl) dL_law_20 23 rfl (fun u9 hu9 => ?_)
  obtain ⟨J2_2, rfl⟩ : ∃ z, z = u9 := ⟨_, rfl⟩
  show Z K 186 1768 [wO K.g x a iniS iniJ, wO K.g y b (sW iniS 0 20) J2_2] [(0, .ref s0), (1, .ref (x 0)), (2, .ref (y 0))] 23 [.int (nI (sSt iniS 0))]
  refine z_top (show (nI (sSt iniS 0) : Int32) = nI 10 from (congrArg nI (show sSt iniS 0 = 10 from by decide))) ?_
  have hE0_1 := E0_sW (k := 0) (v := 20) E0_ini (by decide) (by decide) (by decide)
  refine z_bipush C (v := nI 10) rfl dL_law_23 25 rfl ?_
  refine z_icmp_ne C (by omega) (by omega) 77 dL_law_25 (by decide) 28 rfl (fun c_3 => ?_) (fun c_3 => ?_)
  · exfalso; omega
  refine z_aload_n C 2 rfl rfl dL_law_28 29 rfl ?_
  refine z_iconst C (v := nI 1) rfl dL_law_29 30 rfl ?_
  refine z_bipush C (v := nI 30) rfl dL_law_30 32 rfl ?_
  refine z_callVE (E := eSet) (fun _ _ _ e e2 h => eSet.same e e2 h) (fun _ _ _ hS9 hW9 hAB => eSet.later heSet hS9 hW9 hAB) C [.int (nI 1), .int (nI 30)] [] (tO_setW K.l K.g y b (sW iniS 0 20) J2_2 1 30 hE0_1 (by decide) (by decide) (by decide)) gL_law_X4_set rfl rfl rfl hdX4_set ⟨Nat.le_of_ble_eq_true rfl, Nat.le_of_ble_eq_true rfl⟩ ⟨Nat.le_of_ble_eq_true rfl, Nat.le_of_ble_eq_true rfl⟩ 1 0 rfl rfl rfl [1] rfl rfl (zlc (N := 2) rfl rfl) [0, 2] rfl (by decide) (fun J2 : oJ => [wO K.g x a iniS iniJ, wO K.g y b (sW (sW iniS 0 20) 1 30) J2]) (fun _ => rfl) rfl rfl (Nat.le_of_ble_eq_true rfl) dL_law_32 35 rfl (fun u9 hu9 => ?_)
  obtain ⟨J2_5, rfl⟩ : ∃ z, z = u9 := ⟨_, rfl⟩
  show Z K 186 1768 [wO K.g x a iniS iniJ, wO K.g y b (sW (sW iniS 0 20) 1 30) J2_5] [(0, .ref s0), (1, .ref (x 0)), (2, .ref (y 0))] 35 [.int (nI (sSt (sW iniS 0 20) 1))]
  refine z_top (show (nI (sSt (sW iniS 0 20) 1) : Int32) = nI 15 from (congrArg nI (show sSt (sW iniS 0 20) 1 = 15 from by decide))) ?_
  have hE0_4 := E0_sW (k := 1) (v := 30) hE0_1 (by decide) (by decide) (by decide)
  refine z_bipush C (v := nI 15) rfl dL_law_35 37 rfl ?_
  refine z_icmp_ne C (by omega) (by omega) 77 dL_law_37 (by decide) 40 rfl (fun c_6 => ?_) (fun c_6 => ?_)
  · exfalso; omega
  refine z_aload_n C 2 rfl rfl dL_law_40 41 rfl ?_
  refine z_iconst C (v := nI 2) rfl dL_law_41 42 rfl ?_
  refine z_iconst C (v := nI 4) rfl dL_law_42 43 rfl ?_
  refine z_callVE (E := eSet) (fun _ _ _ e e2 h => eSet.same e e2 h) (fun _ _ _ hS9 hW9 hAB => eSet.later heSet hS9 hW9 hAB) C [.int (nI 2), .int (nI 4)] [] (tO_setW K.l K.g y b (sW (sW iniS 0 20) 1 30) J2_5 2 4 hE0_4 (by decide) (by decide) (by decide)) gL_law_X4_set rfl rfl rfl hdX4_set ⟨Nat.le_of_ble_eq_true rfl, Nat.le_of_ble_eq_true rfl⟩ ⟨Nat.le_of_ble_eq_true rfl, Nat.le_of_ble_eq_true rfl⟩ 1 0 rfl rfl rfl [1] rfl rfl (zlc (N := 2) rfl rfl) [0, 2] rfl (by decide) (fun J2 : oJ => [wO K.g x a iniS iniJ, wO K.g y b (sW (sW (sW iniS 0 20) 1 30) 2 4) J2]) (fun _ => rfl) rfl rfl (Nat.le_of_ble_eq_true rfl) dL_law_43 46 rfl (fun u9 hu9 => ?_)
  obtain ⟨J2_8, rfl⟩ : ∃ z, z = u9 := ⟨_, rfl⟩
  show Z K 186 1768 [wO K.g x a iniS iniJ, wO K.g y b (sW (sW (sW iniS 0 20) 1 30) 2 4) J2_8] [(0, .ref s0), (1, .ref (x 0)), (2, .ref (y 0))] 46 [.int (nI (sSt (sW (sW iniS 0 20) 1 30) 2))]
  refine z_top (show (nI (sSt (sW (sW iniS 0 20) 1 30) 2) : Int32) = nI 2 from (congrArg nI (show sSt (sW (sW iniS 0 20) 1 30) 2 = 2 from by decide))) ?_
  have hE0_7 := E0_sW (k := 2) (v := 4) hE0_4 (by decide) (by decide) (by decide)
  refine z_iconst C (v := nI 2) rfl dL_law_46 47 rfl ?_
  refine z_icmp_ne C (by omega) (by omega) 77 dL_law_47 (by decide) 50 rfl (fun c_9 => ?_) (fun c_9 => ?_)
  · exfalso; omega
  refine z_aload_n C 2 rfl rfl dL_law_50 51 rfl ?_
  refine z_iconst C (v := nI 3) rfl dL_law_51 52 rfl ?_
  refine z_bipush C (v := nI 8) rfl dL_law_52 54 rfl ?_
  refine z_callVE (E := eSet) (fun _ _ _ e e2 h => eSet.same e e2 h) (fun _ _ _ hS9 hW9 hAB => eSet.later heSet hS9 hW9 hAB) C [.int (nI 3), .int (nI 8)] [] (tO_setW K.l K.g y b (sW (sW (sW iniS 0 20) 1 30) 2 4) J2_8 3 8 hE0_7 (by decide) (by decide) (by decide)) gL_law_X4_set rfl rfl rfl hdX4_set ⟨Nat.le_of_ble_eq_true rfl, Nat.le_of_ble_eq_true rfl⟩ ⟨Nat.le_of_ble_eq_true rfl, Nat.le_of_ble_eq_true rfl⟩ 1 0 rfl rfl rfl [1] rfl rfl (zlc (N := 2) rfl rfl) [0, 2] rfl (by decide) (fun J2 : oJ => [wO K.g x a iniS iniJ, wO K.g y b (sW (sW (sW (sW iniS 0 20) 1 30) 2 4) 3 8) J2]) (fun _ => rfl) rfl rfl (Nat.le_of_ble_eq_true rfl) dL_law_54 57 rfl (fun u9 hu9 => ?_)
  obtain ⟨J2_11, rfl⟩ : ∃ z, z = u9 := ⟨_, rfl⟩
  show Z K 186 1768 [wO K.g x a iniS iniJ, wO K.g y b (sW (sW (sW (sW iniS 0 20) 1 30) 2 4) 3 8) J2_11] [(0, .ref s0), (1, .ref (x 0)), (2, .ref (y 0))] 57 [.int (nI (sSt (sW (sW (sW iniS 0 20) 1 30) 2 4) 3))]
  refine z_top (show (nI (sSt (sW (sW (sW iniS 0 20) 1 30) 2 4) 3) : Int32) = nI 4 from (congrArg nI (show sSt (sW (sW (sW iniS 0 20) 1 30) 2 4) 3 = 4 from by decide))) ?_
  have hE0_10 := E0_sW (k := 3) (v := 8) hE0_7 (by decide) (by decide) (by decide)
  refine z_iconst C (v := nI 4) rfl dL_law_57 58 rfl ?_
  refine z_icmp_ne C (by omega) (by omega) 77 dL_law_58 (by decide) 61 rfl (fun c_12 => ?_) (fun c_12 => ?_)
  · exfalso; omega
  refine z_aload_n C 2 rfl rfl dL_law_61 62 rfl ?_
  refine z_iconst C (v := nI 4) rfl dL_law_62 63 rfl ?_
  refine z_bipush C (v := nI 120) rfl dL_law_63 65 rfl ?_
  refine z_callVE (E := eSet) (fun _ _ _ e e2 h => eSet.same e e2 h) (fun _ _ _ hS9 hW9 hAB => eSet.later heSet hS9 hW9 hAB) C [.int (nI 4), .int (nI 120)] [] (tO_setW K.l K.g y b (sW (sW (sW (sW iniS 0 20) 1 30) 2 4) 3 8) J2_11 4 120 hE0_10 (by decide) (by decide) (by decide)) gL_law_X4_set rfl rfl rfl hdX4_set ⟨Nat.le_of_ble_eq_true rfl, Nat.le_of_ble_eq_true rfl⟩ ⟨Nat.le_of_ble_eq_true rfl, Nat.le_of_ble_eq_true rfl⟩ 1 0 rfl rfl rfl [1] rfl rfl (zlc (N := 2) rfl rfl) [0, 2] rfl (by decide) (fun J2 : oJ => [wO K.g x a iniS iniJ, wO K.g y b (sW (sW (sW (sW (sW iniS 0 20) 1 30) 2 4) 3 8) 4 120) J2]) (fun _ => rfl) rfl rfl (Nat.le_of_ble_eq_true rfl) dL_law_65 68 rfl (fun u9 hu9 => ?_)
  obtain ⟨J2_14, rfl⟩ : ∃ z, z = u9 := ⟨_, rfl⟩
  show Z K 186 1768 [wO K.g x a iniS iniJ, wO K.g y b (sW (sW (sW (sW (sW iniS 0 20) 1 30) 2 4) 3 8) 4 120) J2_14] [(0, .ref s0), (1, .ref (x 0)), (2, .ref (y 0))] 68 [.int (nI (sSt (sW (sW (sW (sW iniS 0 20) 1 30) 2 4) 3 8) 4))]
  refine z_top (show (nI (sSt (sW (sW (sW (sW iniS 0 20) 1 30) 2 4) 3 8) 4) : Int32) = nI 60 from (congrArg nI (show sSt (sW (sW (sW (sW iniS 0 20) 1 30) 2 4) 3 8) 4 = 60 from by decide))) ?_
  have hE0_13 := E0_sW (k := 4) (v := 120) hE0_10 (by decide) (by decide) (by decide)
  refine z_bipush C (v := nI 60) rfl dL_law_68 70 rfl ?_
  refine z_icmp_ne C (by omega) (by omega) 77 dL_law_70 (by decide) 73 rfl (fun c_15 => ?_) (fun c_15 => ?_)
  · exfalso; omega
  refine z_iconst C (v := nI 1) rfl dL_law_73 74 rfl ?_
  refine z_goto C 78 dL_law_74 (by decide) ?_
  refine z_istore_n C hnL [1, 2, 3, 0] [(0, .ref s0), (1, .ref (x 0)), (2, .ref (y 0)), (3, .int (nI 1))] rfl rfl (Nat.le_of_ble_eq_true rfl) dL_law_78 79 rfl ?_
  refine z_iload_n C 3 rfl rfl dL_law_79 80 rfl ?_
  refine z_if_eq C (by omega) 173 dL_law_80 (by decide) 83 rfl (fun c_16 => ?_) (fun c_16 => ?_)
  · exfalso; omega
  refine z_aload_n C 1 rfl rfl dL_law_83 84 rfl ?_
  refine z_iconst C (v := nI 0) rfl dL_law_84 85 rfl ?_
  refine z_bipush C (v := nI 10) rfl dL_law_85 87 rfl ?_
  refine z_callVE (E := eSet) (fun _ _ _ e e2 h => eSet.same e e2 h) (fun _ _ _ hS9 hW9 hAB => eSet.later heSet hS9 hW9 hAB) C [.int (nI 0), .int (nI 10)] [] (tO_setW K.l K.g x a iniS iniJ 0 10 E0_ini (by decide) (by decide) (by decide)) gL_law_X4_set rfl rfl rfl hdX4_set ⟨Nat.le_of_ble_eq_true rfl, Nat.le_of_ble_eq_true rfl⟩ ⟨Nat.le_of_ble_eq_true rfl, Nat.le_of_ble_eq_true rfl⟩ 0 0 rfl rfl rfl [0] rfl rfl (zlc (N := 2) rfl rfl) [2, 1] rfl (by decide) (fun J2 : oJ => [wO K.g x a (sW iniS 0 10) J2, wO K.g y b (sW (sW (sW (sW (sW iniS 0 20) 1 30) 2 4) 3 8) 4 120) J2_14]) (fun _ => rfl) rfl rfl (Nat.le_of_ble_eq_true rfl) dL_law_87 90 rfl (fun u9 hu9 => ?_)
  obtain ⟨J2_18, rfl⟩ : ∃ z, z = u9 := ⟨_, rfl⟩
  show Z K 186 1768 [wO K.g x a (sW iniS 0 10) J2_18, wO K.g y b (sW (sW (sW (sW (sW iniS 0 20) 1 30) 2 4) 3 8) 4 120) J2_14] [(0, .ref s0), (1, .ref (x 0)), (2, .ref (y 0)), (3, .int (nI 1))] 90 [.int (nI (sSt iniS 0))]
  refine z_top (show (nI (sSt iniS 0) : Int32) = nI 10 from (congrArg nI (show sSt iniS 0 = 10 from by decide))) ?_
  have hE0_17 := E0_sW (k := 0) (v := 10) E0_ini (by decide) (by decide) (by decide)
  refine z_bipush C (v := nI 10) rfl dL_law_90 92 rfl ?_
  refine z_icmp_ne C (by omega) (by omega) 173 dL_law_92 (by decide) 95 rfl (fun c_19 => ?_) (fun c_19 => ?_)
  · exfalso; omega
  refine z_aload_n C 1 rfl rfl dL_law_95 96 rfl ?_
  refine z_iconst C (v := nI 0) rfl dL_law_96 97 rfl ?_
  refine z_bipush C (v := nI 10) rfl dL_law_97 99 rfl ?_
  refine z_callVE (E := eSet) (fun _ _ _ e e2 h => eSet.same e e2 h) (fun _ _ _ hS9 hW9 hAB => eSet.later heSet hS9 hW9 hAB) C [.int (nI 0), .int (nI 10)] [] (tO_setW K.l K.g x a (sW iniS 0 10) J2_18 0 10 hE0_17 (by decide) (by decide) (by decide)) gL_law_X4_set rfl rfl rfl hdX4_set ⟨Nat.le_of_ble_eq_true rfl, Nat.le_of_ble_eq_true rfl⟩ ⟨Nat.le_of_ble_eq_true rfl, Nat.le_of_ble_eq_true rfl⟩ 0 0 rfl rfl rfl [0] rfl rfl (zlc (N := 2) rfl rfl) [2, 1] rfl (by decide) (fun J2 : oJ => [wO K.g x a (sW (sW iniS 0 10) 0 10) J2, wO K.g y b (sW (sW (sW (sW (sW iniS 0 20) 1 30) 2 4) 3 8) 4 120) J2_14]) (fun _ => rfl) rfl rfl (Nat.le_of_ble_eq_true rfl) dL_law_99 102 rfl (fun u9 hu9 => ?_)
  obtain ⟨J2_21, rfl⟩ : ∃ z, z = u9 := ⟨_, rfl⟩
  show Z K 186 1768 [wO K.g x a (sW (sW iniS 0 10) 0 10) J2_21, wO K.g y b (sW (sW (sW (sW (sW iniS 0 20) 1 30) 2 4) 3 8) 4 120) J2_14] [(0, .ref s0), (1, .ref (x 0)), (2, .ref (y 0)), (3, .int (nI 1))] 102 [.int (nI (sSt (sW iniS 0 10) 0))]
  refine z_top (show (nI (sSt (sW iniS 0 10) 0) : Int32) = nI 10 from (congrArg nI (show sSt (sW iniS 0 10) 0 = 10 from by decide))) ?_
  have hE0_20 := E0_sW (k := 0) (v := 10) hE0_17 (by decide) (by decide) (by decide)
  refine z_bipush C (v := nI 10) rfl dL_law_102 104 rfl ?_
  refine z_icmp_ne C (by omega) (by omega) 173 dL_law_104 (by decide) 107 rfl (fun c_22 => ?_) (fun c_22 => ?_)
  · exfalso; omega
  refine z_aload_n C 1 rfl rfl dL_law_107 108 rfl ?_
  refine z_iconst C (v := nI 0) rfl dL_law_108 109 rfl ?_
  refine z_bipush C (v := nI 10) rfl dL_law_109 111 rfl ?_
  refine z_callVE (E := eSet) (fun _ _ _ e e2 h => eSet.same e e2 h) (fun _ _ _ hS9 hW9 hAB => eSet.later heSet hS9 hW9 hAB) C [.int (nI 0), .int (nI 10)] [] (tO_setW K.l K.g x a (sW (sW iniS 0 10) 0 10) J2_21 0 10 hE0_20 (by decide) (by decide) (by decide)) gL_law_X4_set rfl rfl rfl hdX4_set ⟨Nat.le_of_ble_eq_true rfl, Nat.le_of_ble_eq_true rfl⟩ ⟨Nat.le_of_ble_eq_true rfl, Nat.le_of_ble_eq_true rfl⟩ 0 0 rfl rfl rfl [0] rfl rfl (zlc (N := 2) rfl rfl) [2, 1] rfl (by decide) (fun J2 : oJ => [wO K.g x a (sW (sW (sW iniS 0 10) 0 10) 0 10) J2, wO K.g y b (sW (sW (sW (sW (sW iniS 0 20) 1 30) 2 4) 3 8) 4 120) J2_14]) (fun _ => rfl) rfl rfl (Nat.le_of_ble_eq_true rfl) dL_law_111 114 rfl (fun u9 hu9 => ?_)
  obtain ⟨J2_24, rfl⟩ : ∃ z, z = u9 := ⟨_, rfl⟩
  show Z K 186 1768 [wO K.g x a (sW (sW (sW iniS 0 10) 0 10) 0 10) J2_24, wO K.g y b (sW (sW (sW (sW (sW iniS 0 20) 1 30) 2 4) 3 8) 4 120) J2_14] [(0, .ref s0), (1, .ref (x 0)), (2, .ref (y 0)), (3, .int (nI 1))] 114 [.int (nI (sSt (sW (sW iniS 0 10) 0 10) 0))]
  refine z_top (show (nI (sSt (sW (sW iniS 0 10) 0 10) 0) : Int32) = nI 10 from (congrArg nI (show sSt (sW (sW iniS 0 10) 0 10) 0 = 10 from by decide))) ?_
  have hE0_23 := E0_sW (k := 0) (v := 10) hE0_20 (by decide) (by decide) (by decide)
  refine z_bipush C (v := nI 10) rfl dL_law_114 116 rfl ?_
  refine z_icmp_ne C (by omega) (by omega) 173 dL_law_116 (by decide) 119 rfl (fun c_25 => ?_) (fun c_25 => ?_)
  · exfalso; omega
  refine z_aload_n C 1 rfl rfl dL_law_119 120 rfl ?_
  refine z_iconst C (v := nI 0) rfl dL_law_120 121 rfl ?_
  refine z_bipush C (v := nI 10) rfl dL_law_121 123 rfl ?_
  refine z_callVE (E := eSet) (fun _ _ _ e e2 h => eSet.same e e2 h) (fun _ _ _ hS9 hW9 hAB => eSet.later heSet hS9 hW9 hAB) C [.int (nI 0), .int (nI 10)] [] (tO_setW K.l K.g x a (sW (sW (sW iniS 0 10) 0 10) 0 10) J2_24 0 10 hE0_23 (by decide) (by decide) (by decide)) gL_law_X4_set rfl rfl rfl hdX4_set ⟨Nat.le_of_ble_eq_true rfl, Nat.le_of_ble_eq_true rfl⟩ ⟨Nat.le_of_ble_eq_true rfl, Nat.le_of_ble_eq_true rfl⟩ 0 0 rfl rfl rfl [0] rfl rfl (zlc (N := 2) rfl rfl) [2, 1] rfl (by decide) (fun J2 : oJ => [wO K.g x a (sW (sW (sW (sW iniS 0 10) 0 10) 0 10) 0 10) J2, wO K.g y b (sW (sW (sW (sW (sW iniS 0 20) 1 30) 2 4) 3 8) 4 120) J2_14]) (fun _ => rfl) rfl rfl (Nat.le_of_ble_eq_true rfl) dL_law_123 126 rfl (fun u9 hu9 => ?_)
  obtain ⟨J2_27, rfl⟩ : ∃ z, z = u9 := ⟨_, rfl⟩
  show Z K 186 1768 [wO K.g x a (sW (sW (sW (sW iniS 0 10) 0 10) 0 10) 0 10) J2_27, wO K.g y b (sW (sW (sW (sW (sW iniS 0 20) 1 30) 2 4) 3 8) 4 120) J2_14] [(0, .ref s0), (1, .ref (x 0)), (2, .ref (y 0)), (3, .int (nI 1))] 126 [.int (nI (sSt (sW (sW (sW iniS 0 10) 0 10) 0 10) 0))]
  refine z_top (show (nI (sSt (sW (sW (sW iniS 0 10) 0 10) 0 10) 0) : Int32) = nI 10 from (congrArg nI (show sSt (sW (sW (sW iniS 0 10) 0 10) 0 10) 0 = 10 from by decide))) ?_
  have hE0_26 := E0_sW (k := 0) (v := 10) hE0_23 (by decide) (by decide) (by decide)
  refine z_bipush C (v := nI 10) rfl dL_law_126 128 rfl ?_
  refine z_icmp_ne C (by omega) (by omega) 173 dL_law_128 (by decide) 131 rfl (fun c_28 => ?_) (fun c_28 => ?_)
  · exfalso; omega
  refine z_aload_n C 1 rfl rfl dL_law_131 132 rfl ?_
  refine z_iconst C (v := nI 0) rfl dL_law_132 133 rfl ?_
  refine z_bipush C (v := nI 10) rfl dL_law_133 135 rfl ?_
  refine z_callVE (E := eSet) (fun _ _ _ e e2 h => eSet.same e e2 h) (fun _ _ _ hS9 hW9 hAB => eSet.later heSet hS9 hW9 hAB) C [.int (nI 0), .int (nI 10)] [] (tO_setW K.l K.g x a (sW (sW (sW (sW iniS 0 10) 0 10) 0 10) 0 10) J2_27 0 10 hE0_26 (by decide) (by decide) (by decide)) gL_law_X4_set rfl rfl rfl hdX4_set ⟨Nat.le_of_ble_eq_true rfl, Nat.le_of_ble_eq_true rfl⟩ ⟨Nat.le_of_ble_eq_true rfl, Nat.le_of_ble_eq_true rfl⟩ 0 0 rfl rfl rfl [0] rfl rfl (zlc (N := 2) rfl rfl) [2, 1] rfl (by decide) (fun J2 : oJ => [wO K.g x a (sW (sW (sW (sW (sW iniS 0 10) 0 10) 0 10) 0 10) 0 10) J2, wO K.g y b (sW (sW (sW (sW (sW iniS 0 20) 1 30) 2 4) 3 8) 4 120) J2_14]) (fun _ => rfl) rfl rfl (Nat.le_of_ble_eq_true rfl) dL_law_135 138 rfl (fun u9 hu9 => ?_)
  obtain ⟨J2_30, rfl⟩ : ∃ z, z = u9 := ⟨_, rfl⟩
  show Z K 186 1768 [wO K.g x a (sW (sW (sW (sW (sW iniS 0 10) 0 10) 0 10) 0 10) 0 10) J2_30, wO K.g y b (sW (sW (sW (sW (sW iniS 0 20) 1 30) 2 4) 3 8) 4 120) J2_14] [(0, .ref s0), (1, .ref (x 0)), (2, .ref (y 0)), (3, .int (nI 1))] 138 [.int (nI (sSt (sW (sW (sW (sW iniS 0 10) 0 10) 0 10) 0 10) 0))]
  refine z_top (show (nI (sSt (sW (sW (sW (sW iniS 0 10) 0 10) 0 10) 0 10) 0) : Int32) = nI 10 from (congrArg nI (show sSt (sW (sW (sW (sW iniS 0 10) 0 10) 0 10) 0 10) 0 = 10 from by decide))) ?_
  have hE0_29 := E0_sW (k := 0) (v := 10) hE0_26 (by decide) (by decide) (by decide)
  refine z_bipush C (v := nI 10) rfl dL_law_138 140 rfl ?_
  refine z_icmp_ne C (by omega) (by omega) 173 dL_law_140 (by decide) 143 rfl (fun c_31 => ?_) (fun c_31 => ?_)
  · exfalso; omega
  refine z_aload_n C 1 rfl rfl dL_law_143 144 rfl ?_
  refine z_iconst C (v := nI 0) rfl dL_law_144 145 rfl ?_
  refine z_callV C [.int (nI 0)] [] (tO_save K.l K.g x a (sW (sW (sW (sW (sW iniS 0 10) 0 10) 0 10) 0 10) 0 10) J2_30 0 hE0_29.1 (by decide)) gL_law_X4_save rfl rfl rfl hdX4_save ⟨Nat.le_of_ble_eq_true rfl, Nat.le_of_ble_eq_true rfl⟩ ⟨Nat.le_of_ble_eq_true rfl, Nat.le_of_ble_eq_true rfl⟩ 0 0 rfl rfl rfl [0] rfl rfl (zlc (N := 2) rfl rfl) [2, 1] rfl (by decide) (fun J2 : oJ => [wO K.g x a (uSave (sW (sW (sW (sW (sW iniS 0 10) 0 10) 0 10) 0 10) 0 10) 0) J2, wO K.g y b (sW (sW (sW (sW (sW iniS 0 20) 1 30) 2 4) 3 8) 4 120) J2_14]) (fun _ => rfl) rfl rfl (Nat.le_of_ble_eq_true rfl) dL_law_145 148 rfl (fun u9 hu9 => ?_)
  obtain ⟨J2_33, rfl⟩ : ∃ z, z = u9 := ⟨_, rfl⟩
  show Z K 186 1768 [wO K.g x a (uSave (sW (sW (sW (sW (sW iniS 0 10) 0 10) 0 10) 0 10) 0 10) 0) J2_33, wO K.g y b (sW (sW (sW (sW (sW iniS 0 20) 1 30) 2 4) 3 8) 4 120) J2_14] [(0, .ref s0), (1, .ref (x 0)), (2, .ref (y 0)), (3, .int (nI 1))] 148 [.int (nI (sN (sW (sW (sW (sW (sW iniS 0 10) 0 10) 0 10) 0 10) 0 10)))]
  refine z_top (show (nI (sN (sW (sW (sW (sW (sW iniS 0 10) 0 10) 0 10) 0 10) 0 10)) : Int32) = nI 0 from (congrArg nI hE0_29.2)) ?_
  have hE0_32 := E0_save hE0_29 0
  refine z_aload_n C 2 rfl rfl dL_law_148 149 rfl ?_
  refine z_iconst C (v := nI 0) rfl dL_law_149 150 rfl ?_
  refine z_callV C [.int (nI 0)] [.int (nI 0)] (tO_save K.l K.g y b (sW (sW (sW (sW (sW iniS 0 20) 1 30) 2 4) 3 8) 4 120) J2_14 0 hE0_13.1 (by decide)) gL_law_X4_save rfl rfl rfl hdX4_save ⟨Nat.le_of_ble_eq_true rfl, Nat.le_of_ble_eq_true rfl⟩ ⟨Nat.le_of_ble_eq_true rfl, Nat.le_of_ble_eq_true rfl⟩ 1 0 rfl rfl rfl [1] rfl rfl (zlc (N := 2) rfl rfl) [0, 2] rfl (by decide) (fun J2 : oJ => [wO K.g x a (uSave (sW (sW (sW (sW (sW iniS 0 10) 0 10) 0 10) 0 10) 0 10) 0) J2_33, wO K.g y b (uSave (sW (sW (sW (sW (sW iniS 0 20) 1 30) 2 4) 3 8) 4 120) 0) J2]) (fun _ => rfl) rfl rfl (Nat.le_of_ble_eq_true rfl) dL_law_150 153 rfl (fun u9 hu9 => ?_)
  obtain ⟨J2_35, rfl⟩ : ∃ z, z = u9 := ⟨_, rfl⟩
  show Z K 186 1768 [wO K.g x a (uSave (sW (sW (sW (sW (sW iniS 0 10) 0 10) 0 10) 0 10) 0 10) 0) J2_33, wO K.g y b (uSave (sW (sW (sW (sW (sW iniS 0 20) 1 30) 2 4) 3 8) 4 120) 0) J2_35] [(0, .ref s0), (1, .ref (x 0)), (2, .ref (y 0)), (3, .int (nI 1))] 153 [.int (nI (sN (sW (sW (sW (sW (sW iniS 0 20) 1 30) 2 4) 3 8) 4 120))), .int (nI 0)]
  refine z_top (show (nI (sN (sW (sW (sW (sW (sW iniS 0 20) 1 30) 2 4) 3 8) 4 120)) : Int32) = nI 0 from (congrArg nI hE0_13.2)) ?_
  have hE0_34 := E0_save hE0_13 0
  refine z_icmp_ne C (by omega) (by omega) 173 dL_law_153 (by decide) 156 rfl (fun c_36 => ?_) (fun c_36 => ?_)
  · exfalso; omega
  refine z_aload_n C 1 rfl rfl dL_law_156 157 rfl ?_
  refine z_iconst C (v := nI 1) rfl dL_law_157 158 rfl ?_
  refine z_callV C [.int (nI 1)] [] (tO_save K.l K.g x a (uSave (sW (sW (sW (sW (sW iniS 0 10) 0 10) 0 10) 0 10) 0 10) 0) J2_33 1 hE0_32.1 (by decide)) gL_law_X4_save rfl rfl rfl hdX4_save ⟨Nat.le_of_ble_eq_true rfl, Nat.le_of_ble_eq_true rfl⟩ ⟨Nat.le_of_ble_eq_true rfl, Nat.le_of_ble_eq_true rfl⟩ 0 0 rfl rfl rfl [0] rfl rfl (zlc (N := 2) rfl rfl) [2, 1] rfl (by decide) (fun J2 : oJ => [wO K.g x a (uSave (uSave (sW (sW (sW (sW (sW iniS 0 10) 0 10) 0 10) 0 10) 0 10) 0) 1) J2, wO K.g y b (uSave (sW (sW (sW (sW (sW iniS 0 20) 1 30) 2 4) 3 8) 4 120) 0) J2_35]) (fun _ => rfl) rfl rfl (Nat.le_of_ble_eq_true rfl) dL_law_158 161 rfl (fun u9 hu9 => ?_)
  obtain ⟨J2_38, rfl⟩ : ∃ z, z = u9 := ⟨_, rfl⟩
  show Z K 186 1768 [wO K.g x a (uSave (uSave (sW (sW (sW (sW (sW iniS 0 10) 0 10) 0 10) 0 10) 0 10) 0) 1) J2_38, wO K.g y b (uSave (sW (sW (sW (sW (sW iniS 0 20) 1 30) 2 4) 3 8) 4 120) 0) J2_35] [(0, .ref s0), (1, .ref (x 0)), (2, .ref (y 0)), (3, .int (nI 1))] 161 [.int (nI (sN (uSave (sW (sW (sW (sW (sW iniS 0 10) 0 10) 0 10) 0 10) 0 10) 0)))]
  refine z_top (show (nI (sN (uSave (sW (sW (sW (sW (sW iniS 0 10) 0 10) 0 10) 0 10) 0 10) 0)) : Int32) = nI 0 from (congrArg nI hE0_32.2)) ?_
  have hE0_37 := E0_save hE0_32 1
  refine z_aload_n C 2 rfl rfl dL_law_161 162 rfl ?_
  refine z_iconst C (v := nI 1) rfl dL_law_162 163 rfl ?_
  refine z_callV C [.int (nI 1)] [.int (nI 0)] (tO_save K.l K.g y b (uSave (sW (sW (sW (sW (sW iniS 0 20) 1 30) 2 4) 3 8) 4 120) 0) J2_35 1 hE0_34.1 (by decide)) gL_law_X4_save rfl rfl rfl hdX4_save ⟨Nat.le_of_ble_eq_true rfl, Nat.le_of_ble_eq_true rfl⟩ ⟨Nat.le_of_ble_eq_true rfl, Nat.le_of_ble_eq_true rfl⟩ 1 0 rfl rfl rfl [1] rfl rfl (zlc (N := 2) rfl rfl) [0, 2] rfl (by decide) (fun J2 : oJ => [wO K.g x a (uSave (uSave (sW (sW (sW (sW (sW iniS 0 10) 0 10) 0 10) 0 10) 0 10) 0) 1) J2_38, wO K.g y b (uSave (uSave (sW (sW (sW (sW (sW iniS 0 20) 1 30) 2 4) 3 8) 4 120) 0) 1) J2]) (fun _ => rfl) rfl rfl (Nat.le_of_ble_eq_true rfl) dL_law_163 166 rfl (fun u9 hu9 => ?_)
  obtain ⟨J2_40, rfl⟩ : ∃ z, z = u9 := ⟨_, rfl⟩
  show Z K 186 1768 [wO K.g x a (uSave (uSave (sW (sW (sW (sW (sW iniS 0 10) 0 10) 0 10) 0 10) 0 10) 0) 1) J2_38, wO K.g y b (uSave (uSave (sW (sW (sW (sW (sW iniS 0 20) 1 30) 2 4) 3 8) 4 120) 0) 1) J2_40] [(0, .ref s0), (1, .ref (x 0)), (2, .ref (y 0)), (3, .int (nI 1))] 166 [.int (nI (sN (uSave (sW (sW (sW (sW (sW iniS 0 20) 1 30) 2 4) 3 8) 4 120) 0))), .int (nI 0)]
  refine z_top (show (nI (sN (uSave (sW (sW (sW (sW (sW iniS 0 20) 1 30) 2 4) 3 8) 4 120) 0)) : Int32) = nI 0 from (congrArg nI hE0_34.2)) ?_
  have hE0_39 := E0_save hE0_34 1
  refine z_icmp_ne C (by omega) (by omega) 173 dL_law_166 (by decide) 169 rfl (fun c_41 => ?_) (fun c_41 => ?_)
  · exfalso; omega
  refine z_iconst C (v := nI 1) rfl dL_law_169 170 rfl ?_
  refine z_goto C 174 dL_law_170 (by decide) ?_
  refine z_istore_n C hnL [1, 2, 3, 0] [(0, .ref s0), (1, .ref (x 0)), (2, .ref (y 0)), (3, .int (nI 1))] rfl rfl (Nat.le_of_ble_eq_true rfl) dL_law_174 175 rfl ?_
  exact lw_six C hnL x a y b s0 L xs hScr hL heAll hEnd (uSave (uSave (sW (sW (sW (sW (sW iniS 0 10) 0 10) 0 10) 0 10) 0 10) 0) 1) J2_38 (uSave (uSave (sW (sW (sW (sW (sW iniS 0 20) 1 30) 2 4) 3 8) 4 120) 0) 1) J2_40 hE0_37 hE0_39 REL_ini oS5_10 pS5_20

theorem hdX4_init : yX4_init.cls ≠ "java/lang/invoke/MethodHandle" ∧ yX4_init.cls ≠ "java/lang/invoke/VarHandle" ∧ (parseMethodDescriptor yX4_init.desc).map (fun d => d.parameters.length) = some 0 := by decide +kernel
set_option maxHeartbeats 4000000 in
set_option maxRecDepth 100000 in
theorem law_start {K : zK} (C : Cx K room_1 RL cL_law wsL_law) (hnL : K.nL = 5) (hA : ∀ q, K.s.heap.size ≤ q → K.A q) (hE : eIni K.A K.s) (s0 L : Nat) (xs : Nat → Int32) (hScr : eScr s0 L xs K.A K.s) (hL : L ≤ 260) (heAll : eAll K.A K.s) (hEnd : ∀ (H : Heap) (locs : List Loc) (ls : Array Slot), va_S K.A K.s.heap H locs → W K.p K.l K.e K.R K.s K.m K.args K.below K.meth K.c H locs 186 1768 K.Q (F0 K.m 313 ls [.int (nI 1)])) : Z K 0 0 [] [(0, .ref s0)] 0 [] := by
  refine z_new (cs := []) C zc4 inlX4 (List.mem_of_getElem? (i := 0) rfl) (List.mem_of_getElem? (i := 1) rfl) (List.mem_of_getElem? (i := 2) rfl) hA [.null, .null, .null, .null, .null, .null, .null] (fun j hj => by rcases (show j = 0 ∨ j = 1 ∨ j = 2 ∨ j = 3 ∨ j = 4 ∨ j = 5 ∨ j = 6 by omega) with rfl | rfl | rfl | rfl | rfl | rfl | rfl <;> rfl) ⟨Nat.le_of_ble_eq_true rfl, Nat.le_of_ble_eq_true rfl⟩ dL_law_0 3 rfl (fun a4 => ?_)
  refine z_dup C rfl dL_law_3 4 rfl ?_
  refine z_callI (cs := []) C hA hE [.ref a4] (tX4_init K.l K.g a4) gL_law_X4_init rfl rfl rfl (List.mem_of_getElem? (i := 2) rfl) (List.mem_of_getElem? (i := 3) rfl) (List.mem_of_getElem? (i := 4) rfl) rfl hdX4_init ⟨Nat.le_of_ble_eq_true rfl, Nat.le_of_ble_eq_true rfl⟩ ⟨Nat.le_of_ble_eq_true rfl, Nat.le_of_ble_eq_true rfl⟩ rfl (Nat.le_of_ble_eq_true rfl) dL_law_4 7 rfl (fun u hu => ?_)
  obtain ⟨x, bd, tr, q, p, fb, h, ho, sb⟩ := u
  have hu : x 0 = a4 := hu
  subst hu
  refine z_flat (cs2 := [wO K.g x (bd, tr, q, p, fb, h, ho, sb) iniS iniJ]) (List.append_nil _).symm ?_
  refine z_astore_n C hnL [1, 0] [(0, .ref s0), (1, .ref (x 0))] rfl rfl (Nat.le_of_ble_eq_true rfl) dL_law_7 8 rfl ?_
  generalize ((bd, tr, q, p, fb, h, ho, sb) : oA) = oa
  refine z_new C zc4 inlX4 (List.mem_of_getElem? (i := 0) rfl) (List.mem_of_getElem? (i := 1) rfl) (List.mem_of_getElem? (i := 2) rfl) hA [.null, .null, .null, .null, .null, .null, .null] (fun j hj => by rcases (show j = 0 ∨ j = 1 ∨ j = 2 ∨ j = 3 ∨ j = 4 ∨ j = 5 ∨ j = 6 by omega) with rfl | rfl | rfl | rfl | rfl | rfl | rfl <;> rfl) ⟨Nat.le_of_ble_eq_true rfl, Nat.le_of_ble_eq_true rfl⟩ dL_law_8 11 rfl (fun a5 => ?_)
  refine z_dup C rfl dL_law_11 12 rfl ?_
  refine z_callI C hA hE [.ref a5] (tX4_init K.l K.g a5) gL_law_X4_init rfl rfl rfl (List.mem_of_getElem? (i := 2) rfl) (List.mem_of_getElem? (i := 3) rfl) (List.mem_of_getElem? (i := 4) rfl) rfl hdX4_init ⟨Nat.le_of_ble_eq_true rfl, Nat.le_of_ble_eq_true rfl⟩ ⟨Nat.le_of_ble_eq_true rfl, Nat.le_of_ble_eq_true rfl⟩ rfl (Nat.le_of_ble_eq_true rfl) dL_law_12 15 rfl (fun u hu => ?_)
  obtain ⟨y, bd, tr, q, p, fb, h, ho, sb⟩ := u
  have hu : y 0 = a5 := hu
  subst hu
  refine z_flat (cs2 := [wO K.g x oa iniS iniJ, wO K.g y (bd, tr, q, p, fb, h, ho, sb) iniS iniJ]) (congrArg (fun z => wO K.g x oa iniS iniJ ++ z) (List.append_nil (wO K.g y (bd, tr, q, p, fb, h, ho, sb) iniS iniJ)).symm) ?_
  refine z_astore_n C hnL [1, 2, 0] [(0, .ref s0), (1, .ref (x 0)), (2, .ref (y 0))] rfl rfl (Nat.le_of_ble_eq_true rfl) dL_law_15 16 rfl ?_
  refine z_widen 186 1768 (by decide) (by decide) ?_
  exact lw_first C hnL x oa y (bd, tr, q, p, fb, h, ho, sb) s0 L xs hScr hL heAll hEnd

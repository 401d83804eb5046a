/-! ST: the start: the classes and the arrays' classes. -/
theorem st_AO2 {args : Array Value} {s : State} (h : (Cond.arrayOver (.array .int)).before args s = true) : ∃ (comp c : ClassId) (k : Class), s.vm.classes[c]? = some k ∧ k.kind = .array comp (.array .int) ∧ s.vm.findClass ("[" ++ (FieldType.array .int).toString) = some c := by
  unfold Cond.before at h
  simp only [Cond.holds, Cond.value, beq_iff_eq] at h
  cases hc : s.vm.findClass (FieldType.array .int).toString with
  | none => simp [hc] at h
  | some comp =>
    simp only [hc, Option.bind_some, Option.bind_eq_some_iff, Option.map_eq_some_iff] at h
    obtain ⟨c, -, k, hk, hb⟩ := h
    cases hkind : k.kind with
    | array component ty =>
      rw [hkind] at hb
      simp at hb
      exact ⟨component, c, k, hk, by rw [hkind, hb.1], hb.2⟩
    | _ => rw [hkind] at hb; simp at hb
theorem st_K {s : State} {args : Array Value} (hts : ∀ w ∈ lw_tbl, w.before args s = true) : ∃ g : zG, zKp g s := by
  obtain ⟨c0, i0, h0⟩ := u_known (T := TX0) hts intX0 (hts (.instantiable RX0 3) (by decide +kernel))
  obtain ⟨c1, i1, h1⟩ := u_known (T := TX1) hts intX1 (hts (.instantiable RX1 3) (by decide +kernel))
  obtain ⟨c2, i2, h2⟩ := u_known (T := TX2) hts intX2 (hts (.instantiable RX2 8) (by decide +kernel))
  obtain ⟨c3, i3, h3⟩ := u_known (T := TX3) hts intX3 (hts (.instantiable RX3 18) (by decide +kernel))
  obtain ⟨c4, i4, h4⟩ := u_known (T := TX4) hts intX4 (hts (.instantiable RX4 7) (by decide +kernel))
  obtain ⟨a0, k0, p0, f0, g0, e0⟩ := Cond.arrayClass_spec (hts (.arrayClass .int) (by decide +kernel))
  obtain ⟨a3, k3, p3, f3, g3, e3⟩ := Cond.arrayClass_spec (hts (.arrayClass .boolean) (by decide +kernel))
  obtain ⟨p1, a1, k1, g1, e1, f1⟩ := st_AO2 (hts (.arrayOver (.array .int)) (by decide +kernel))
  obtain ⟨p2, a2, k2, q2, -, g2, e2, f2⟩ := Cond.arrayOver_spec (hts (.arrayOver (.object "PrintRacks$Board")) (by decide +kernel))
  refine ⟨((fun c => match c with | 0 => c0 | 1 => c1 | 2 => c2 | 3 => c3 | _ => c4, fun c => match c with | 0 => i0 | 1 => i1 | 2 => i2 | 3 => i3 | _ => i4), fun t => match t with | 0 => a0 | 1 => a1 | 2 => a2 | _ => a3), ⟨fun c q hq => ?_, fun t q hq => ?_⟩, ?_⟩
  · have hc : c < 5 := (List.getElem?_eq_some_iff.mp hq).1
    rcases (show c = 0 ∨ c = 1 ∨ c = 2 ∨ c = 3 ∨ c = 4 by omega) with rfl | rfl | rfl | rfl | rfl <;> cases hq
    · exact h0
    · exact h1
    · exact h2
    · exact h3
    · exact h4
  · have hc : t < 4 := (List.getElem?_eq_some_iff.mp hq).1
    rcases (show t = 0 ∨ t = 1 ∨ t = 2 ∨ t = 3 by omega) with rfl | rfl | rfl | rfl <;> cases hq
    · exact ⟨fun N z => ⟨(fun k h => by cases h), k0, g0, p0, e0⟩, f0⟩
    · exact ⟨fun N z => ⟨(fun k h => by cases h), k1, g1, p1, e1⟩, f1⟩
    · exact ⟨fun N z => ⟨(fun k h => by cases h), k2, g2, p2, e2⟩, k2, p2, g2, e2, q2, f2⟩
    · exact ⟨fun N z => ⟨(fun k h => by cases h), k3, g3, p3, e3⟩, f3⟩
  · exact ⟨va_any rfl (hts _ (by decide +kernel)), va_any rfl (hts _ (by decide +kernel)), va_any rfl (hts _ (by decide +kernel)), va_any rfl (hts _ (by decide +kernel)), va_any rfl (hts _ (by decide +kernel)), va_any rfl (hts _ (by decide +kernel))⟩
/-! SS: the static arrays at the start. -/
theorem st_len {t : Term} {args : Array Value} {s : State} {N : Nat} (hN : N < 2 ^ 31) (h : (Term.length t).eval args s none [] s = some (.int (nI N))) : ∃ a cell, t.eval args s none [] s = some (.ref a) ∧ s.arrayAt? a = some cell ∧ cell.slots.size = N := by
  obtain ⟨a, cell, ht, harr, hv⟩ := Term.length_spec h
  have hsz : cell.slots.size < 2 ^ 31 := by
    simp only [Term.eval, ht, harr, Option.bind_eq_bind, Option.bind_some] at h
    by_cases hlt : cell.slots.size < 2147483648
    · exact hlt
    · simp [hlt] at h
  refine ⟨a, cell, ht, harr, ?_⟩
  have e : nI N = nI cell.slots.size := by
    have := Value.int.inj hv
    exact this
  have e2 := congrArg (fun y : Int32 => y.toNatClampNeg) e
  have e3 : (nI N).toNatClampNeg = (nI cell.slots.size).toNatClampNeg := e2
  rw [nI_clamp hN, nI_clamp hsz] at e3
  exact e3.symm
theorem st_sta {args : Array Value} {s : State} {nm : String} {N : Nat} {f : Nat → Nat} {A : Nat → Prop} (hA : ∀ a : Nat, a < s.heap.size → ¬ A a) (hl : (Cond.laysStatic RX4 nm "[I").before args s = true) (hini : (Cond.initialized RX4).before args s = true) (hof : (Cond.arrayOf (.static RX4 nm "[I") .int).before args s = true) (hN : N < 2 ^ 31)
    (hlen : (Cond.eq (.length (.static RX4 nm "[I")) (.int (nI N))).before args s = true) (hel : ∀ j, j < N → (Cond.eq (.elem (.static RX4 nm "[I") (.int (nI j))) (.int (nI (f j)))).before args s = true) : ∃ sa, zStA A s nm N f sa := by
  obtain ⟨sa, cell, ht, harr, hsz⟩ := st_len hN (Cond.eq_int (n := nI N) hlen rfl)
  obtain ⟨hcell, hkn, -, -⟩ := State.arrayAt?_spec harr
  have hlt : sa < s.heap.size := (Array.getElem?_eq_some_iff.mp hcell).1
  refine ⟨sa, va_Zref hl hini ht hA, ⟨cell, hcell, (Cond.arrayOf_spec hof ht hcell).1, hkn, hsz, fun j hj => ?_⟩, hlt, hA sa hlt⟩
  obtain ⟨a, i, cell2, ht2, hi, harr2, -, hv⟩ := Term.elem_spec (Cond.eq_int (n := nI (f j)) (hel j hj) rfl)
  cases ht.symm.trans ht2
  cases harr.symm.trans harr2
  have hi : some (Value.int (nI j)) = some (Value.int i) := hi
  cases hi
  rw [nI_clamp (Nat.lt_trans hj hN)] at hv
  exact hv
/-! SE: what the constructors and the calls want of the start. -/
theorem st_E {args : Array Value} {s : State} {A : Nat → Prop} (hA : ∀ a : Nat, a < s.heap.size → ¬ A a) (hts : ∀ w ∈ lw_tbl, w.before args s = true) (hgv : (Jvm.Cond.and given_1 narrow_1).before args s = true) : eIni A s ∧ eSet A s ∧ eOrd A s := by
  have hs := flat_of_before _ hgv
  have h1 : ∃ sa, zStA A s "FIRST_SETTING" 7 fiS sa := st_sta hA (hts _ (by decide +kernel)) (hts _ (by decide +kernel)) (hs _ (by decide +kernel)) (by decide) (hs _ (by decide +kernel)) (fun j hj => by
    rcases (show j = 0 ∨ j = 1 ∨ j = 2 ∨ j = 3 ∨ j = 4 ∨ j = 5 ∨ j = 6 by omega) with rfl | rfl | rfl | rfl | rfl | rfl | rfl <;> exact hs _ (by decide +kernel))
  have h2 : ∃ sa, zStA A s "LEAST_SETTING" 7 leS sa := st_sta hA (hts _ (by decide +kernel)) (hts _ (by decide +kernel)) (hs _ (by decide +kernel)) (by decide) (hs _ (by decide +kernel)) (fun j hj => by
    rcases (show j = 0 ∨ j = 1 ∨ j = 2 ∨ j = 3 ∨ j = 4 ∨ j = 5 ∨ j = 6 by omega) with rfl | rfl | rfl | rfl | rfl | rfl | rfl <;> exact hs _ (by decide +kernel))
  have h3 : ∃ sa, zStA A s "MOST_SETTING" 7 moS sa := st_sta hA (hts _ (by decide +kernel)) (hts _ (by decide +kernel)) (hs _ (by decide +kernel)) (by decide) (hs _ (by decide +kernel)) (fun j hj => by
    rcases (show j = 0 ∨ j = 1 ∨ j = 2 ∨ j = 3 ∨ j = 4 ∨ j = 5 ∨ j = 6 by omega) with rfl | rfl | rfl | rfl | rfl | rfl | rfl <;> exact hs _ (by decide +kernel))
  have h4 : ∃ sa, zStA A s "FIELD_OF_RULE" 4 foR sa := st_sta hA (hts _ (by decide +kernel)) (hts _ (by decide +kernel)) (hs _ (by decide +kernel)) (by decide) (hs _ (by decide +kernel)) (fun j hj => by
    rcases (show j = 0 ∨ j = 1 ∨ j = 2 ∨ j = 3 by omega) with rfl | rfl | rfl | rfl <;> exact hs _ (by decide +kernel))
  obtain ⟨s2, h2⟩ := h2
  obtain ⟨s3, h3⟩ := h3
  exact ⟨⟨va_AO.of (hts (.arrayOver (.object "PrintRacks$Board")) (by decide +kernel)), (show (Cond.arrayOver (.array .int)).before args s = true from hts _ (by decide +kernel)), h1⟩, ⟨s2, s3, h2, h3⟩, h4⟩

/-! ST: the start: the classes and the arrays' classes. -/
theorem st_AO2 {args : Array Value} {s : State} (h : (Cond.arrayOver (.array .int)).before args s = true) : ∃ (comp c : ClassId) (k : Class), s.vm.classes[c]? = some k ∧ k.kind = .array comp (.array .int) ∧ s.vm.findClass ("[" ++ (FieldType.array .int).toString) = some c := by
  unfold Cond.before at h
  simp only [Cond.holds, Cond.value, beq_iff_eq] at h
  cases hc : s.vm.findClass (FieldType.array .int).toString with
  | none => simp [hc] at h
  | some comp =>
    simp only [hc, Option.bind_some, Option.bind_eq_some_iff, Option.map_eq_some_iff] at h
    obtain ⟨c, -, k, hk, hb⟩ := h
    cases hkind : k.kind with
    | array component ty =>
      rw [hkind] at hb
      simp at hb
      exact ⟨component, c, k, hk, by rw [hkind, hb.1], hb.2⟩
    | _ => rw [hkind] at hb; simp at hb
theorem st_K {s : State} {args : Array Value} (hts : ∀ w ∈ lw_tbl, w.before args s = true) : ∃ g : zG, zKp g s := by
  obtain ⟨c0, i0, h0⟩ := u_known (T := TX0) hts inlX0 (hts (.instantiable RX0 3) (by decide +kernel))
  obtain ⟨c1, i1, h1⟩ := u_known (T := TX1) hts inlX1 (hts (.instantiable RX1 3) (by decide +kernel))
  obtain ⟨c2, i2, h2⟩ := u_known (T := TX2) hts inlX2 (hts (.instantiable RX2 8) (by decide +kernel))
  obtain ⟨c3, i3, h3⟩ := u_known (T := TX3) hts inlX3 (hts (.instantiable RX3 18) (by decide +kernel))
  obtain ⟨c4, i4, h4⟩ := u_known (T := TX4) hts inlX4 (hts (.instantiable RX4 7) (by decide +kernel))
  obtain ⟨c5, i5, h5⟩ := u_known (T := TX5) hts inlX5 (hts (.instantiable RX5 14) (by decide +kernel))
  obtain ⟨a0, k0, p0, f0, g0, e0⟩ := Cond.arrayClass_spec (hts (.arrayClass .int) (by decide +kernel))
  obtain ⟨a3, k3, p3, f3, g3, e3⟩ := Cond.arrayClass_spec (hts (.arrayClass .boolean) (by decide +kernel))
  obtain ⟨p1, a1, k1, g1, e1, f1⟩ := st_AO2 (hts (.arrayOver (.array .int)) (by decide +kernel))
  obtain ⟨p2, a2, k2, q2, -, g2, e2, f2⟩ := Cond.arrayOver_spec (hts (.arrayOver (.object "PrintRacks$Board")) (by decide +kernel))
  refine ⟨((fun c => match c with | 0 => c0 | 1 => c1 | 2 => c2 | 3 => c3 | 4 => c4 | _ => c5, fun c => match c with | 0 => i0 | 1 => i1 | 2 => i2 | 3 => i3 | 4 => i4 | _ => i5), fun t => match t with | 0 => a0 | 1 => a1 | 2 => a2 | _ => a3), ⟨fun c q hq => ?_, fun t q hq => ?_⟩, ?_⟩
  · have hc : c < 6 := (List.getElem?_eq_some_iff.mp hq).1
    rcases (show c = 0 ∨ c = 1 ∨ c = 2 ∨ c = 3 ∨ c = 4 ∨ c = 5 by omega) with rfl | rfl | rfl | rfl | rfl | rfl <;> cases hq
    · exact h0
    · exact h1
    · exact h2
    · exact h3
    · exact h4
    · exact h5
  · have hc : t < 4 := (List.getElem?_eq_some_iff.mp hq).1
    rcases (show t = 0 ∨ t = 1 ∨ t = 2 ∨ t = 3 by omega) with rfl | rfl | rfl | rfl <;> cases hq
    · exact ⟨fun N z => ⟨(fun k h => by cases h), k0, g0, p0, e0⟩, f0⟩
    · exact ⟨fun N z => ⟨(fun k h => by cases h), k1, g1, p1, e1⟩, f1⟩
    · exact ⟨fun N z => ⟨(fun k h => by cases h), k2, g2, p2, e2⟩, k2, p2, g2, e2, q2, f2⟩
    · exact ⟨fun N z => ⟨(fun k h => by cases h), k3, g3, p3, e3⟩, f3⟩
  · exact ⟨va_any rfl (hts _ (by decide +kernel)), va_any rfl (hts _ (by decide +kernel)), va_any rfl (hts _ (by decide +kernel)), va_any rfl (hts _ (by decide +kernel)), va_any rfl (hts _ (by decide +kernel)), va_any rfl (hts _ (by decide +kernel))⟩

/-! SS: the static arrays at the start. -/
theorem st_len {t : Term} {args : Array Value} {s : State} {N : Nat} (hN : N < 2 ^ 31) (h : (Term.length t).eval args s none [] s = some (.int (nI N))) : ∃ a cell, t.eval args s none [] s = some (.ref a) ∧ s.arrayAt? a = some cell ∧ cell.slots.size = N := by
  obtain ⟨a, cell, ht, harr, hv⟩ := Term.length_spec h
  have hsz : cell.slots.size < 2 ^ 31 := by
    simp only [Term.eval, ht, harr, Option.bind_eq_bind, Option.bind_some] at h
    by_cases hlt : cell.slots.size < 2147483648
    · exact hlt
    · simp [hlt] at h
  refine ⟨a, cell, ht, harr, ?_⟩
  have e : nI N = nI cell.slots.size := by
    have := Value.int.inj hv
    exact this
  have e2 := congrArg (fun y : Int32 => y.toNatClampNeg) e
  have e3 : (nI N).toNatClampNeg = (nI cell.slots.size).toNatClampNeg := e2
  rw [nI_clamp hN, nI_clamp hsz] at e3
  exact e3.symm
theorem st_sta {args : Array Value} {s : State} {nm : String} {N : Nat} {f : Nat → Nat} {A : Nat → Prop} (hA : ∀ a : Nat, a < s.heap.size → ¬ A a) (hl : (Cond.laysStatic RX4 nm "[I").before args s = true) (hini : (Cond.initialized RX4).before args s = true) (hof : (Cond.arrayOf (.static RX4 nm "[I") .int).before args s = true) (hN : N < 2 ^ 31)
    (hlen : (Cond.eq (.length (.static RX4 nm "[I")) (.int (nI N))).before args s = true) (hel : ∀ j, j < N → (Cond.eq (.elem (.static RX4 nm "[I") (.int (nI j))) (.int (nI (f j)))).before args s = true) : ∃ sa, zStA A s nm N f sa := by
  obtain ⟨sa, cell, ht, harr, hsz⟩ := st_len hN (Cond.eq_int (n := nI N) hlen rfl)
  obtain ⟨hcell, hkn, -, -⟩ := State.arrayAt?_spec harr
  have hlt : sa < s.heap.size := (Array.getElem?_eq_some_iff.mp hcell).1
  refine ⟨sa, va_Zref hl hini ht hA, ⟨cell, hcell, (Cond.arrayOf_spec hof ht hcell).1, hkn, hsz, fun j hj => ?_⟩, hlt, hA sa hlt⟩
  obtain ⟨a, i, cell2, ht2, hi, harr2, -, hv⟩ := Term.elem_spec (Cond.eq_int (n := nI (f j)) (hel j hj) rfl)
  cases ht.symm.trans ht2
  cases harr.symm.trans harr2
  have hi : some (Value.int (nI j)) = some (Value.int i) := hi
  cases hi
  rw [nI_clamp (Nat.lt_trans hj hN)] at hv
  exact hv

/-! SE: what the constructors and the calls want of the start. -/
theorem st_E {args : Array Value} {s : State} {A : Nat → Prop} (hA : ∀ a : Nat, a < s.heap.size → ¬ A a) (hts : ∀ w ∈ lw_tbl, w.before args s = true) (hgv : (Jvm.Cond.and given_1 narrow_1).before args s = true) : eIni A s ∧ eSet A s ∧ eOrd A s := by
  have hs := flat_of_before _ hgv
  have h1 : ∃ sa, zStA A s "FIRST_SETTING" 7 fiS sa := st_sta hA (hts _ (by decide +kernel)) (hts _ (by decide +kernel)) (hs _ (by decide +kernel)) (by decide) (hs _ (by decide +kernel)) (fun j hj => by
    rcases (show j = 0 ∨ j = 1 ∨ j = 2 ∨ j = 3 ∨ j = 4 ∨ j = 5 ∨ j = 6 by omega) with rfl | rfl | rfl | rfl | rfl | rfl | rfl <;> exact hs _ (by decide +kernel))
  have h2 : ∃ sa, zStA A s "LEAST_SETTING" 7 leS sa := st_sta hA (hts _ (by decide +kernel)) (hts _ (by decide +kernel)) (hs _ (by decide +kernel)) (by decide) (hs _ (by decide +kernel)) (fun j hj => by
    rcases (show j = 0 ∨ j = 1 ∨ j = 2 ∨ j = 3 ∨ j = 4 ∨ j = 5 ∨ j = 6 by omega) with rfl | rfl | rfl | rfl | rfl | rfl | rfl <;> exact hs _ (by decide +kernel))
  have h3 : ∃ sa, zStA A s "MOST_SETTING" 7 moS sa := st_sta hA (hts _ (by decide +kernel)) (hts _ (by decide +kernel)) (hs _ (by decide +kernel)) (by decide) (hs _ (by decide +kernel)) (fun j hj => by
    rcases (show j = 0 ∨ j = 1 ∨ j = 2 ∨ j = 3 ∨ j = 4 ∨ j = 5 ∨ j = 6 by omega) with rfl | rfl | rfl | rfl | rfl | rfl | rfl <;> exact hs _ (by decide +kernel))
  have h4 : ∃ sa, zStA A s "FIELD_OF_RULE" 4 foR sa := st_sta hA (hts _ (by decide +kernel)) (hts _ (by decide +kernel)) (hs _ (by decide +kernel)) (by decide) (hs _ (by decide +kernel)) (fun j hj => by
    rcases (show j = 0 ∨ j = 1 ∨ j = 2 ∨ j = 3 by omega) with rfl | rfl | rfl | rfl <;> exact hs _ (by decide +kernel))
  obtain ⟨s2, h2⟩ := h2
  obtain ⟨s3, h3⟩ := h3
  exact ⟨⟨va_AO.of (hts (.arrayOver (.object "PrintRacks$Board")) (by decide +kernel)), (show (Cond.arrayOver (.array .int)).before args s = true from hts _ (by decide +kernel)), h1⟩, ⟨s2, s3, h2, h3⟩, h4⟩

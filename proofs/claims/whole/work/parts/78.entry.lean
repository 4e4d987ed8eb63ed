/-! ===== the law's entry: the words that stand, rows of objects ===== -/
theorem ext_tbl : ∀ w ∈ extW, w ∈ lw_tbl := by decide +kernel
theorem over_tys {s : State} {args : Array Value} {C : String} (h : (Cond.arrayOver (.object C)).before args s = true) : ∃ cA : ClassId, ArrOfT s cA (.object C) ∧ va_RA s cA (.object C) := by
  obtain ⟨comp, cA, kA, hcomp, -, hkA, hkindA, hnm⟩ := Cond.arrayOver_spec h
  exact ⟨cA, fun N z => ⟨(fun k h => by cases h), kA, hkA, comp, hkindA⟩, kA, comp, hkA, hkindA, hcomp, hnm⟩

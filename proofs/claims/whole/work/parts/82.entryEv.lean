/-! ===== the law's entry: all that stands ===== -/
theorem ent_Evi {s : State} {args : Array Value} (hts : ∀ w ∈ lw_tbl, w.before args s = true) (h : (Jvm.Cond.and given_1 narrow_1).before args s = true) : ∃ Z : Zt, Evi Z s.heap.size s := by
  obtain ⟨Z, hK, h2, h0⟩ := ent_K hts
  obtain ⟨z1, z2⟩ := ent_zq hts h
  exact ⟨Z, ⟨hK, ent_ext hts, ent_str hts hK, z1, z2, ent_nc h⟩, h2, h0⟩

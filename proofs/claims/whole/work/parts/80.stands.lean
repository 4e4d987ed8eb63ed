/-! ===== the law's entry: what stands ===== -/
theorem ent_ext {s : State} {args : Array Value} (hts : ∀ w ∈ lw_tbl, w.before args s = true) : ∀ w ∈ extW, va_Nw w s := fun w q => va_Nw.of (st_on (extW_st w q)) (hts w (ext_tbl w q))
theorem ent_nc {s : State} {args : Array Value} (h : (Jvm.Cond.and given_1 narrow_1).before args s = true) : ∀ q ∈ ncW, va_Nc q.1 q.2 s := by
  have hs := flat_of_before _ h
  have hm : ∀ q ∈ ncW, Cond.not (.castable q.1 q.2) ∈ flatC (Jvm.Cond.and given_1 narrow_1) := by decide +kernel
  exact fun q hq => va_Nc.of (hs _ (hm q hq))

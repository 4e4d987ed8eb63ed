/-! ===== the law's entry: the words that stand, rows of objects ===== -/
theorem ext_tbl : ∀ w ∈ extW, w ∈ lw_tbl := by decide +kernel
theorem over_tys {s : State} {args : Array Value} {C : String} (h : (Cond.arrayOver (.object C)).before args s = true) : ∃ cA : ClassId, ArrOfT s cA (.object C) ∧ va_RA s cA (.object C) := by
  obtain ⟨comp, cA, kA, hcomp, -, hkA, hkindA, hnm⟩ := Cond.arrayOver_spec h
  exact ⟨cA, fun N z => ⟨(fun k h => by cases h), kA, hkA, comp, hkindA⟩, kA, comp, hkA, hkindA, hcomp, hnm⟩
/-! ===== the law's entry: the classes are known ===== -/
theorem int_tys {s : State} {args : Array Value} (h : (Cond.arrayClass .int).before args s = true) : ∃ cA : ClassId, ArrOfT s cA .int ∧ va_RA s cA .int := by
  obtain ⟨cA, kA, comp, h1, h2, h3⟩ := Cond.arrayClass_spec h
  exact ⟨cA, fun N z => ⟨(fun k h => by cases h), kA, h2, comp, h3⟩, h1⟩
theorem bool_tys {s : State} {args : Array Value} (h : (Cond.arrayClass .boolean).before args s = true) : ∃ cA : ClassId, ArrOfT s cA .boolean ∧ va_RA s cA .boolean := by
  obtain ⟨cA, kA, comp, h1, h2, h3⟩ := Cond.arrayClass_spec h
  exact ⟨cA, fun N z => ⟨(fun k h => by cases h), kA, h2, comp, h3⟩, h1⟩
theorem long_tys {s : State} {args : Array Value} (h : (Cond.arrayClass .long).before args s = true) : ∃ cA : ClassId, ArrOfT s cA .long ∧ va_RA s cA .long := by
  obtain ⟨cA, kA, comp, h1, h2, h3⟩ := Cond.arrayClass_spec h
  exact ⟨cA, fun N z => ⟨(fun k h => by cases h), kA, h2, comp, h3⟩, h1⟩
theorem ovr_tbl : (Cond.arrayOver (.object RX0)) ∈ lw_tbl ∧ (Cond.arrayOver (.object RX2)) ∈ lw_tbl := by decide +kernel
theorem ent_K {s : State} {args : Array Value} (hts : ∀ w ∈ lw_tbl, w.before args s = true) : ∃ Z : Zt, va_K Z.1 vwCl (tysZ Z) s ∧ va_AO RX2 s ∧ va_AO RX0 s := by
  have ht : ∀ w ∈ wsA, w.before args s = true := fun w hw => hts w (wsA_tbl hw)
  obtain ⟨c0, i0, k0⟩ := u_known (C := RX0) (T := TX0) (N := 5) (n := 5) ht inaX0 (ht _ q117)
  obtain ⟨c1, i1, k1⟩ := u_known (C := RX1) (T := TX1) (N := 3) (n := 3) ht inaX1 (ht _ q110)
  obtain ⟨c2, i2, k2⟩ := u_known (C := RX2) (T := TX2) (N := 6) (n := 6) ht inaX2 (ht _ q70)
  obtain ⟨c3, i3, k3⟩ := u_known (C := RX3) (T := TX3) (N := 2) (n := 2) ht inaX3 (ht _ q63)
  obtain ⟨c4, i4, k4⟩ := u_known (C := RX4) (T := TX4) (N := 4) (n := 4) ht inaX4 (ht _ q55)
  obtain ⟨a0, x0⟩ := int_tys (ht _ q100)
  obtain ⟨a3, x3⟩ := over_tys (hts _ ovr_tbl.1)
  obtain ⟨a4, x4⟩ := over_tys (hts _ ovr_tbl.2)
  refine ⟨((fun k => if k = 0 then c0 else if k = 1 then c1 else if k = 2 then c2 else if k = 3 then c3 else c4, fun k => if k = 0 then i0 else if k = 1 then i1 else if k = 2 then i2 else if k = 3 then i3 else i4), fun k => if k = 0 then a0 else if k = 1 then a0 else if k = 2 then a0 else if k = 3 then a3 else a4), ⟨?_, ?_⟩, va_AO.of (hts _ ovr_tbl.2), va_AO.of (hts _ ovr_tbl.1)⟩
  · intro k q hq
    match k, hq with
    | 0, hq => cases hq; exact k0
    | 1, hq => cases hq; exact k1
    | 2, hq => cases hq; exact k2
    | 3, hq => cases hq; exact k3
    | 4, hq => cases hq; exact k4
    | k + 5, hq => simp [vwCl] at hq
  · intro k q hq
    match k, hq with
    | 0, hq => cases hq; exact x0
    | 1, hq => cases hq; exact x0
    | 2, hq => cases hq; exact x0
    | 3, hq => cases hq; exact x3
    | 4, hq => cases hq; exact x4
    | k + 5, hq => simp [tysZ] at hq
/-! ===== the law's entry: what stands ===== -/
theorem ent_ext {s : State} {args : Array Value} (hts : ∀ w ∈ lw_tbl, w.before args s = true) : ∀ w ∈ extW, va_Nw w s := fun w q => va_Nw.of (st_on (extW_st w q)) (hts w (ext_tbl w q))
theorem ent_nc {s : State} {args : Array Value} (h : (Jvm.Cond.and given_1 narrow_1).before args s = true) : ∀ q ∈ ncW, va_Nc q.1 q.2 s := by
  have hs := flat_of_before _ h
  have hm : ∀ q ∈ ncW, Cond.not (.castable q.1 q.2) ∈ flatC (Jvm.Cond.and given_1 narrow_1) := by decide +kernel
  exact fun q hq => va_Nc.of (hs _ (hm q hq))
theorem ent_zq {s : State} {args : Array Value} (hts : ∀ w ∈ lw_tbl, w.before args s = true) (h : (Jvm.Cond.and given_1 narrow_1).before args s = true) : vx_Zq Bundle.tN "UNASSIGNED_STACK" Bundle.steD (A0 s.heap.size) s s.heap ∧ vx_Zq Bundle.tN "SUPPRESSED_SENTINEL" Bundle.listD (A0 s.heap.size) s s.heap := by
  have hs := flat_of_before _ h
  have hA : ∀ a : Nat, a < s.heap.size → ¬ A0 s.heap.size a := fun a ha => by unfold A0; omega
  exact ⟨vx_Zqof (hts _ (by decide +kernel)) (hts _ (by decide +kernel)) (hs _ (by decide +kernel)) hA, vx_Zqof (hts _ (by decide +kernel)) (hts _ (by decide +kernel)) (hs _ (by decide +kernel)) hA⟩
/-! ===== the law's entry: the texts ===== -/
theorem ent_str {s : State} {args : Array Value} {Z : Zt} (hts : ∀ w ∈ lw_tbl, w.before args s = true) (hK : va_K Z.1 vwCl (tysZ Z) s) : ∀ q ∈ strW, ∃ sa, vk_R RX4 q.1 q.2 sa s := by
  have hm : ∀ q ∈ strW, Cond.stringRef RX4 q.1 q.2 ∈ lw_tbl := by decide +kernel
  intro q hq
  have h := hts _ (hm q hq)
  obtain ⟨k, cf, i, a, -, -, -, -, -, hev⟩ := Cond.stringRef_spec (hK.1 4 _ rfl).2.1 h
  exact ⟨a, vk_R.of h hev⟩
/-! ===== the law's entry: all that stands ===== -/
theorem ent_Evi {s : State} {args : Array Value} (hts : ∀ w ∈ lw_tbl, w.before args s = true) (h : (Jvm.Cond.and given_1 narrow_1).before args s = true) : ∃ Z : Zt, Evi Z s.heap.size s := by
  obtain ⟨Z, hK, h2, h0⟩ := ent_K hts
  obtain ⟨z1, z2⟩ := ent_zq hts h
  exact ⟨Z, ⟨hK, ent_ext hts, ent_str hts hK, z1, z2, ent_nc h⟩, h2, h0⟩

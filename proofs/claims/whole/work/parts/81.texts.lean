/-! ===== the law's entry: the texts ===== -/
theorem ent_str {s : State} {args : Array Value} {Z : Zt} (hts : ∀ w ∈ lw_tbl, w.before args s = true) (hK : va_K Z.1 vwCl (tysZ Z) s) : ∀ q ∈ strW, ∃ sa, vk_R RX4 q.1 q.2 sa s := by
  have hm : ∀ q ∈ strW, Cond.stringRef RX4 q.1 q.2 ∈ lw_tbl := by decide +kernel
  intro q hq
  have h := hts _ (hm q hq)
  obtain ⟨k, cf, i, a, -, -, -, -, -, hev⟩ := Cond.stringRef_spec (hK.1 4 _ rfl).2.1 h
  exact ⟨a, vk_R.of h hev⟩

/-! ===== delete, failureAt ===== -/
theorem mem_slots {M : Mem} {L : List Nat} {τ : Tr} {B : Nat} (h : MT M L τ B) {f : Nat → Bool} (hf : ∀ j, j < 60 → f j = true → us M j = true) {p : Nat} : p ∈ ((List.range' 0 60).filter f).map (pM M) ↔ ∃ s ∈ L, f s = true ∧ pM M s = p := by
  rw [List.mem_map]
  constructor
  · rintro ⟨s, hs, e⟩
    rw [List.mem_filter, List.mem_range'] at hs
    obtain ⟨⟨i, hi, e2⟩, h2⟩ := hs
    have hs60 : s < 60 := by omega
    exact ⟨s, (MT_in h).mpr ⟨hs60, hf s hs60 h2⟩, h2, e⟩
  · rintro ⟨s, hs, h2, e⟩
    refine ⟨s, ?_, e⟩
    rw [List.mem_filter, List.mem_range']
    exact ⟨⟨s, ((MT_in h).mp hs).1, by omega⟩, h2⟩
theorem nodup_slots {M : Mem} {L : List Nat} {τ : Tr} {B : Nat} (h : MT M L τ B) {f : Nat → Bool} (hf : ∀ j, j < 60 → f j = true → us M j = true) : (((List.range' 0 60).filter f).map (pM M)).Nodup := by
  have hp : ((List.range' 0 60).filter f).Perm (L.filter f) := by
    rw [List.perm_ext_iff_of_nodup (List.Pairwise.filter _ (List.nodup_range' (step := 1))) (List.Pairwise.filter _ (MT_ndL h))]
    intro x
    rw [List.mem_filter, List.mem_filter, List.mem_range', MT_in h]
    constructor
    · rintro ⟨⟨i, hi, e⟩, h2⟩; exact ⟨⟨by omega, hf x (by omega) h2⟩, h2⟩
    · rintro ⟨⟨h1, _⟩, h2⟩; exact ⟨⟨x, h1, by omega⟩, h2⟩
  rw [(hp.map (pM M)).nodup_iff]
  exact List.Nodup.sublist ((List.filter_sublist).map (pM M)) (MT_nd h)

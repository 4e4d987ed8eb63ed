def mvI (t x P : Int32) : Int32 := (t * P) + (x - x / P * P)
theorem mvI_eq {f t x : Nat} (hf : 0 < f) (hx : x ≤ 9999) (h : inT f x = true) : mvI (nI t) (nI x) (nI (pwr f x)) = nI (mvp f t x) ∧ ¬ nI (pwr f x) = 0 := by
  have hp : 0 < pwr f x ∧ pwr f x ≤ 1000 := by
    rcases pwr_cases hf hx h with ⟨_, e⟩ | ⟨_, e⟩ | ⟨_, e⟩ | ⟨_, e⟩ <;> omega
  have h2 := pk_rem (a := x) (d := pwr f x) (by omega) hp.1 (by omega)
  refine ⟨?_, by rw [ze (by omega)]; omega⟩
  unfold mvI mvp
  rw [h2, nI_mul, nI_add]

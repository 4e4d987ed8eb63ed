/-! restore -/
def pvV (c x v tks : Int32) : Bool := okC c && (vpb x && (decide (0 ≤ v) && decide (0 ≤ tks)))
def oRs (k : Lk) (τ : Tr) (c : Int32) (p v : Nat) (tks : Int32) : Int32 := if (p ∈ ta τ ∧ td τ p = 1) ∧ v < tn τ p then (if alw k c p tks = true then 0 else 4) else 1
theorem oRs_1 {k : Lk} {τ : Tr} {c : Int32} {p v : Nat} {tks : Int32} (h : ¬ ((p ∈ ta τ ∧ td τ p = 1) ∧ v < tn τ p)) : oRs k τ c p v tks = 1 := if_neg h
theorem oRs_4 {k : Lk} {τ : Tr} {c : Int32} {p v : Nat} {tks : Int32} (h : (p ∈ ta τ ∧ td τ p = 1) ∧ v < tn τ p) (h2 : alw k c p tks = false) : oRs k τ c p v tks = 4 := by unfold oRs; rw [if_pos h, h2, if_neg (by decide)]
theorem oRs_0 {k : Lk} {τ : Tr} {c : Int32} {p v : Nat} {tks : Int32} (h : (p ∈ ta τ ∧ td τ p = 1) ∧ v < tn τ p) (h2 : alw k c p tks = true) : oRs k τ c p v tks = 0 := by unfold oRs; rw [if_pos h, h2, if_pos rfl]

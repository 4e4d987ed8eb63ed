/-! ===== failureAt ===== -/
def lo (f g : Nat) : Bool := decide (g < f)
def fhit (G : List Nat) (x : Int32) (f : Nat) : Prop := nI (G.countP (lo f)) = x
theorem cnt_sorted {A B : List Nat} {f : Nat} (h : (A ++ f :: B).Pairwise (fun a c => a < c)) : (A ++ f :: B).countP (lo f) = A.length := by
  rw [List.pairwise_append, List.pairwise_cons] at h
  rw [List.countP_append, List.countP_cons]
  have e1 : A.countP (lo f) = A.length := List.countP_eq_length.mpr (fun x hx => by
    have := h.2.2 x hx f (by simp)
    unfold lo; simp [this])
  have e2 : B.countP (lo f) = 0 := List.countP_eq_zero.mpr (fun x hx => by
    have := h.2.1.1 x hx
    unfold lo; simp; omega)
  rw [e1, e2]
  unfold lo; simp

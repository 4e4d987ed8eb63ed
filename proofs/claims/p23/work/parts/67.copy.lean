/-! ===== copy ===== -/
def gC (τ : Tr) (f t : Nat) : Fn := (fun y => if inT t y = true then td τ (mvp t f y) else td τ y, fun y => if inT t y = true then tc τ (mvp t f y) else tc τ y, fun y => if inT t y = true then 0 else tn τ y, tv τ)
def gMv (τ : Tr) (f t : Nat) : Fn := (fun y => if inT t y = true then td τ (mvp t f y) else td τ y, fun y => if inT t y = true then tc τ (mvp t f y) else tc τ y, fun y => if inT t y = true then tn τ (mvp t f y) else tn τ y, fun y => if inT t y = true then tv τ (mvp t f y) else tv τ y)
theorem gC_off {τ : Tr} {f t p : Nat} {a : List Nat} (h : inT t p = false) : td (a, gC τ f t) p = td τ p ∧ tc (a, gC τ f t) p = tc τ p ∧ tn (a, gC τ f t) p = tn τ p ∧ tv (a, gC τ f t) p = tv τ p := by
  have h' : ¬ inT t p = true := by rw [h]; decide
  exact ⟨if_neg h', if_neg h', if_neg h', rfl⟩
theorem gMv_off {τ : Tr} {f t p : Nat} {a : List Nat} (h : inT t p = false) : td (a, gMv τ f t) p = td τ p ∧ tc (a, gMv τ f t) p = tc τ p ∧ tn (a, gMv τ f t) p = tn τ p ∧ tv (a, gMv τ f t) p = tv τ p := by
  have h' : ¬ inT t p = true := by rw [h]; decide
  exact ⟨if_neg h', if_neg h', if_neg h', if_neg h'⟩
theorem gC_on {τ : Tr} {f t x : Nat} {a : List Nat} (hf : 0 < f) (ht : 0 < t) (hx : x ≤ 9999) (h1 : inT f x = true) (h2 : inT t x = false) (h9 : mvp f t x ≤ 9999) : td (a, gC τ f t) (mvp f t x) = td (a, gC τ f t) x ∧ tc (a, gC τ f t) (mvp f t x) = tc (a, gC τ f t) x ∧ tn (a, gC τ f t) (mvp f t x) = 0 := by
  obtain ⟨o1, o2, -, -⟩ := gC_off (τ := τ) (f := f) (a := a) h2
  have hin := mvp_in hf ht hx h1 h9
  have hb := mvp_back hf ht hx h1 h9
  rw [o1, o2]
  refine ⟨?_, ?_, if_pos hin⟩
  · show (if inT t (mvp f t x) = true then td τ (mvp t f (mvp f t x)) else td τ (mvp f t x)) = _
    rw [if_pos hin, hb]
  · show (if inT t (mvp f t x) = true then tc τ (mvp t f (mvp f t x)) else tc τ (mvp f t x)) = _
    rw [if_pos hin, hb]
theorem gMv_on {τ : Tr} {f t x : Nat} (hf : 0 < f) (ht : 0 < t) (hx : x ≤ 9999) (h1 : inT f x = true) (h2 : inT t x = false) (h9 : mvp f t x ≤ 9999) : (gMv τ f t).1 (mvp f t x) = (gMv τ f t).1 x ∧ (gMv τ f t).2.1 (mvp f t x) = (gMv τ f t).2.1 x ∧ (gMv τ f t).2.2.1 (mvp f t x) = (gMv τ f t).2.2.1 x ∧ (gMv τ f t).2.2.2 (mvp f t x) = (gMv τ f t).2.2.2 x := by
  have hin := mvp_in hf ht hx h1 h9
  have hb := mvp_back hf ht hx h1 h9
  have h' : ¬ inT t x = true := by rw [h2]; decide
  refine ⟨?_, ?_, ?_, ?_⟩
  · show (if inT t (mvp f t x) = true then td τ (mvp t f (mvp f t x)) else td τ (mvp f t x)) = (if inT t x = true then td τ (mvp t f x) else td τ x)
    rw [if_pos hin, hb, if_neg h']
  · show (if inT t (mvp f t x) = true then tc τ (mvp t f (mvp f t x)) else tc τ (mvp f t x)) = (if inT t x = true then tc τ (mvp t f x) else tc τ x)
    rw [if_pos hin, hb, if_neg h']
  · show (if inT t (mvp f t x) = true then tn τ (mvp t f (mvp f t x)) else tn τ (mvp f t x)) = (if inT t x = true then tn τ (mvp t f x) else tn τ x)
    rw [if_pos hin, hb, if_neg h']
  · show (if inT t (mvp f t x) = true then tv τ (mvp t f (mvp f t x)) else tv τ (mvp f t x)) = (if inT t x = true then tv τ (mvp t f x) else tv τ x)
    rw [if_pos hin, hb, if_neg h']
theorem len_split (g : Nat → Bool) : ∀ (l : List Nat), (l.filter (fun x => !g x)).length + l.countP g = l.length
  | [] => rfl
  | x :: l => by
    have := len_split g l
    rw [List.countP_cons]
    cases q : g x
    · rw [List.filter_cons_of_pos (by simp [q])]; simp; omega
    · rw [List.filter_cons_of_neg (by simp [q])]; simp; omega
theorem cnt_rest {l : List Nat} {f t : Nat} (h : ∀ x ∈ l, inT f x = true → inT t x = false) : (l.filter (fun p => !inT t p)).countP (inT f) = l.countP (inT f) := by
  rw [List.countP_filter]
  apply List.countP_congr
  intro x hx
  cases q : inT f x
  · simp
  · rw [h x hx q]; simp
theorem pvT_of {c x y tks : Int32} (h : pvT c x y tks = true) : okR c x tks = true ∧ ∃ f t : Nat, 0 < f ∧ f ≤ 9999 ∧ 0 < t ∧ t ≤ 9999 ∧ x = nI f ∧ y = nI t ∧ inT f t = false ∧ inT t f = false := by
  unfold pvT at h
  simp only [Bool.and_eq_true, Bool.not_eq_true'] at h
  obtain ⟨h1, h2, h3, h4⟩ := h
  obtain ⟨-, -, -, -, f, f0, f9, rfl⟩ := okR_of h1
  obtain ⟨t, t0, t9, rfl⟩ := okN_of h2
  rw [cl' (by omega), cl' (by omega)] at h3 h4
  exact ⟨h1, f, t, f0, f9, t0, t9, rfl, rfl, h3, h4⟩
theorem fit_of {τ : Tr} {f t : Nat} (h : fitT τ f t = true) {x : Nat} (hx : x ∈ ta τ) (hi : inT f x = true) : mvp f t x ≤ 9999 := by
  unfold fitT at h
  rw [List.all_eq_true] at h
  have := h x hx
  rw [hi] at this
  simpa using this
theorem oTr_0 {k : Lk} {τ : Tr} {c : Int32} {f t : Nat} {ow : Bool} {tks : Int32} (h : oTr k τ c f t ow tks = 0) : f ∈ ta τ ∧ fitT τ f t = true := by
  unfold oTr at h
  by_cases q1 : f ∈ ta τ
  · rw [if_pos q1] at h
    by_cases q2 : tk τ (t / 10) = 2
    · rw [if_pos q2] at h
      cases q3 : fitT τ f t
      · rw [q3, if_neg (by decide)] at h; exact absurd h (by decide)
      · exact ⟨q1, rfl⟩
    · rw [if_neg q2] at h; exact absurd h (by decide)
  · rw [if_neg q1] at h; exact absurd h (by decide)

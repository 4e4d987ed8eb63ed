/-! ===== what the reference answers to copy and move ===== -/
theorem all_fi {M : Mem} {L : List Nat} {τ : Tr} {B : Nat} (h : MT M L τ B) (f t : Nat) : (List.range' 0 60).all (fiF f t M) = fitT τ f t := by
  have e1 : (List.range' 0 60).all (fiF f t M) = (List.range' 0 60).all (fun j => !(us M j) || (!inT f (pM M j) || decide (mvp f t (pM M j) ≤ 9999))) := by
    congr 1
    funext j
    unfold fiF mkF
    cases us M j <;> cases inT f (pM M j) <;> simp
  rw [e1, MT_all h (fun j => !inT f (pM M j) || decide (mvp f t (pM M j) ≤ 9999)), ← all_map (pM M) (fun x => !inT f x || decide (mvp f t x ≤ 9999)), perm_all (eqv_perm h.2.2.1)]
  rfl
theorem cnt_mk {M : Mem} {L : List Nat} {τ : Tr} {B : Nat} (h : MT M L τ B) (f : Nat) : (List.range' 0 60).countP (mkF f M) = (ta τ).countP (inT f) := by
  have e := MT_cnt h (fun j => inT f (pM M j))
  rw [← (eqv_perm h.2.2.1).countP_eq, List.countP_map]
  exact e
def oCp (k : Lk) (τ : Tr) (c : Int32) (f t : Nat) (ow : Bool) (tks : Int32) : Int32 := if oTr k τ c f t ow tks = 0 then (if (ta τ).length - (ta τ).countP (inT t) + (ta τ).countP (inT f) ≤ 60 then 0 else 5) else oTr k τ c f t ow tks
def oMv (k : Lk) (τ : Tr) (c : Int32) (f t : Nat) (ow : Bool) (tks : Int32) : Int32 := if oTr k τ c f t ow tks = 0 then (if (alw k c (f / 10) tks && alT k τ c f tks) = true then 0 else 4) else oTr k τ c f t ow tks
def preT (τ : Tr) (f t : Nat) : Bool := decide (f ∈ ta τ) && decide (tk τ (t / 10) = 2)
theorem oTr_e (k : Lk) (τ : Tr) (c : Int32) (f t : Nat) (ow : Bool) (tks : Int32) : oTr k τ c f t ow tks = if (preT τ f t && fitT τ f t) = true then (if ow = false ∧ t ∈ ta τ then 2 else if (al2 k c t tks && alT k τ c t tks) = true then 0 else 4) else 1 := by
  unfold oTr preT
  by_cases q1 : f ∈ ta τ
  · by_cases q2 : tk τ (t / 10) = 2
    · cases q3 : fitT τ f t <;> simp [q1, q2]
    · simp [q2]
  · simp [q1]
theorem okN_nn {x : Int32} (h : okN x = true) : ∃ p : Nat, 0 < p ∧ p ≤ 9999 ∧ x = nI p := okN_of h
/-! lists of what is moved -/
theorem eqv_sel {a c : List Nat} (h : eqv a c) {g : Nat → Bool} (hg : ∀ x y, g x = true → g y = true → x / 10 = y / 10) : a.filter g = c.filter g := by
  by_cases hx : ∃ x, g x = true
  · obtain ⟨x0, hx0⟩ := hx
    have e : ∀ l : List Nat, l.filter g = (l.filter (par (x0 / 10))).filter g := fun l => by
      rw [List.filter_filter]
      congr 1
      funext y
      cases q : g y
      · rfl
      · have := hg y x0 q hx0
        simp [par, this]
    rw [e a, e c, h]
  · have e : ∀ l : List Nat, l.filter g = [] := fun l => by
      rw [List.filter_eq_nil_iff]
      intro y _ hy
      exact hx ⟨y, hy⟩
    rw [e a, e c]
theorem eqv_mv {a c : List Nat} (h : eqv a c) {f t : Nat} (hf : 0 < f) (ht : 0 < t) (h9 : ∀ p ∈ a, p ≤ 9999) : eqv ((a.filter (inT f)).map (mvp f t)) ((c.filter (inT f)).map (mvp f t)) := fun q => by
  have h9c : ∀ p ∈ c, p ≤ 9999 := fun p hp => h9 p ((eqv_mem h p).mpr hp)
  have e : ∀ l : List Nat, (∀ p ∈ l, p ≤ 9999) → ((l.filter (inT f)).map (mvp f t)).filter (par q) = (l.filter (fun x => inT f x && (par q (mvp f t x) && decide (x ≤ 9999)))).map (mvp f t) := fun l hl => by
    rw [← map_filter (mvp f t) (par q), List.filter_filter]
    congr 1
    apply List.filter_congr
    intro x hx
    simp [hl x hx]
    cases inT f x <;> cases par q (mvp f t x) <;> rfl
  rw [e a h9, e c h9c]
  congr 1
  refine eqv_sel h (fun x y hx hy => ?_)
  simp only [Bool.and_eq_true, decide_eq_true_eq] at hx hy
  refine mvp_par hf ht hx.2.2 hy.2.2 hx.1 hy.1 ?_
  have h1 : mvp f t x / 10 = q := by simpa [par] using hx.2.1
  have h2 : mvp f t y / 10 = q := by simpa [par] using hy.2.1
  omega

/-! ===== refresh, pass ===== -/
theorem inR_of {x : Int32} {a c : Nat} (ha : a < 2147483648) (hc : c < 2147483648) (h : inR x (nI a) (nI c) = true) : ∃ t : Nat, a ≤ t ∧ t ≤ c ∧ x = nI t := by
  unfold inR at h
  simp only [Bool.and_eq_true, decide_eq_true_eq] at h
  have h0 : (0 : Int32) ≤ x := Int32.le_trans (nI_pos' (by omega)) h.1
  obtain ⟨t, ht, rfl⟩ := nI_ofNN h0
  rw [le' ha ht, le' ht hc] at h
  exact ⟨t, h.1, h.2, rfl⟩
theorem mu_id (M : Mem) (t i : Nat) {v : Int32} (h : v = M t i) : mu M t i v = M := by
  subst h
  funext t' i'
  by_cases h1 : t' = t
  · subst h1
    rw [mu_fn]
    by_cases h2 : i' = i
    · subst h2; simp
    · simp [h2]
  · rw [mu_ne M i _ h1]
/-! pass -/
def cntU (f : Nat → Bool) : Nat → Nat → Nat
  | 0, _ => 0
  | r + 1, t => (if f t then 1 else 0) + cntU f r (t + 1)
theorem cntU_s (f : Nat → Bool) (r t : Nat) : cntU f (r + 1) t = (if f t then 1 else 0) + cntU f r (t + 1) := rfl
def ends (k : Lk) (T j : Nat) : Bool := act k j && decide (ken k j ≤ T)
theorem ends_e (k : Lk) (T j : Nat) : ends k T j = (act k j && decide (ken k j ≤ T)) := rfl
theorem advC_12 {M : Mem} {k : Lk} (h : LC M k) {T : Nat} (hT : T ≤ 1001000) : ∀ (r n t a : Nat), t + r = kn k → r < n → f_X1_advance_12 n M (nI T) (nI a) (nI t) = some (nI (a + cntU (ends k T) r t), mu M 11 0 (nI T)) := by
  have hn : M 10 0 = nI (kn k) ∧ kn k ≤ 30 := ⟨h.1, h.2.1⟩
  intro r
  induction r with
  | zero =>
    intro n t a ht hr
    obtain ⟨n, rfl⟩ : ∃ j, n = j + 1 := ⟨n - 1, by omega⟩
    show f_X1_advance_12B (f_X1_advance_12 n) M (nI T) (nI a) (nI t) = _
    unfold f_X1_advance_12B
    rw [hn.1]
    simp only [le' (show kn k < 2147483648 by omega) (show t < 2147483648 by omega)]
    rw [if_pos (by omega)]
    rfl
  | succ r ih =>
    intro n t a ht hr
    obtain ⟨n, rfl⟩ : ∃ j, n = j + 1 := ⟨n - 1, by omega⟩
    have e1 := ih n (t + 1) a (by omega) (by omega)
    have e2 := ih n (t + 1) (a + 1) (by omega) (by omega)
    obtain ⟨-, -, -, -, -, e, g3, g4, g5, g6⟩ := h.2.2.2.2 t (by omega)
    show f_X1_advance_12B (f_X1_advance_12 n) M (nI T) (nI a) (nI t) = _
    unfold f_X1_advance_12B f_X1_advance_46
    rw [hn.1]
    simp only [le' (show kn k < 2147483648 by omega) (show t < 2147483648 by omega)]
    rw [if_neg (by omega), findC h (show t < kn k by omega), bd2_s, nI_1, nI_1, cntU_s, ends_e]
    by_cases q : act k t = true
    · have q' : kt k < ken k t := by simpa [act] using q
      rw [if_pos q, oe_1, if_neg (by omega), g3, e1, e2, g6 (g5.mpr q')]
      have := g6 (g5.mpr q')
      simp only [lt' (show T < 2147483648 by omega) (show ken k t < 2147483648 by omega)]
      by_cases q2 : T < ken k t
      · rw [if_pos q2]; simp [q, show ¬ ken k t ≤ T by omega]
      · rw [if_neg q2]; simp [q, show ken k t ≤ T by omega, Nat.add_assoc]
    · rw [if_neg q, oe_0, e1]; simp [q]
def kpass (k : Lk) (d : Nat) : Lk := (kn k, kt k + d, kcl k, kpa k, ksh k, kdp k, ken k)
theorem LG_pass {n t : Int32} {cl pa sh dp en : Nat → Int32} {k : Lk} (h : LG n t cl pa sh dp en k) {d : Nat} (hd : kt k + d ≤ 1000000) : LG n (nI (kt k + d)) cl pa sh dp en (kpass k d) := by
  obtain ⟨z1, z2, z3, z4, z5⟩ := h
  refine ⟨z1, z2, rfl, hd, fun j hj => ?_⟩
  obtain ⟨w1, w2, w3, w4, w5, e, w6, w7, w8, w9⟩ := z5 j hj
  refine ⟨w1, w2, w3, w4, w5, e, w6, w7, ?_, ?_⟩
  · show kt k + d < e ↔ kt k + d < ken k j
    constructor
    · intro q; rw [← w9 (by omega)]; exact q
    · intro q; rw [w9 (w8.mpr (by omega))]; exact q
  · show kt k + d < e → e = ken k j
    intro q; exact w9 (by omega)
theorem mu_v (M : Mem) (t i : Nat) (v : Int32) : mu M t i v t i = v := mu_self M t i v

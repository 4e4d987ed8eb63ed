/-! ===== arguments ===== -/
abbrev xA : String := "java/lang/IllegalArgumentException"
abbrev xB : String := "java/lang/IndexOutOfBoundsException"
abbrev xS : String := "java/lang/IllegalStateException"
def inR (x a c : Int32) : Bool := decide (a ≤ x) && decide (x ≤ c)
def okC (c : Int32) : Bool := inR c 0 3
def okN (x : Int32) : Bool := !decide (x = 0) && vpb x
def un (c : Bool) (M : Mem) : Option ((String ⊕ Unit) × Mem) := some (if c then .inr () else .inl xA, M)
theorem un_t (M : Mem) : un true M = some (.inr (), M) := rfl
theorem un_f (M : Mem) : un false M = some (.inl xA, M) := rfl
theorem reqRangeC (M : Mem) (x a c : Int32) : f_X4_requireRange M x a c = un (inR x a c) M := by
  unfold f_X4_requireRange f_X4_requireRange_0 inR un
  by_cases h1 : x < a
  · have : ¬ a ≤ x := Int32.not_le.mpr h1
    simp [h1, this]
  · have g1 : a ≤ x := Int32.not_lt.mp h1
    by_cases h2 : x ≤ c <;> simp [h1, g1, h2]
theorem reqClientC (M : Mem) (x : Int32) : f_X4_requireClient M x = un (okC x) M := by
  unfold f_X4_requireClient f_X4_requireClient_0 okC
  rw [reqRangeC]
  cases inR x 0 3 <;> rfl
theorem reqPathC (M : Mem) (x : Int32) : f_X4_requirePath M x = un (vpb x) M := by
  unfold f_X4_requirePath f_X4_requirePath_0
  rw [isPathC, bd2_s]
  cases vpb x <;> rfl
theorem reqNameC (M : Mem) (x : Int32) : f_X4_requirePathBelowTop M x = un (okN x) M := by
  unfold f_X4_requirePathBelowTop f_X4_requirePathBelowTop_0 okN
  rw [reqPathC]
  cases h : vpb x
  · rw [un_f, bdx_l, Bool.and_false, un_f]
  · rw [un_t, bdx_s]
    by_cases h0 : x = 0 <;> simp [h0, un]
theorem reqNNC (M : Mem) (x : Int32) : f_X4_requireNotNegative M x = un (decide (0 ≤ x)) M := by
  unfold f_X4_requireNotNegative f_X4_requireNotNegative_0 un
  by_cases h : (0 : Int32) ≤ x <;> simp [h]
def okR (c x tk : Int32) : Bool := okC c && (okN x && decide (0 ≤ tk))
def thr (c : Bool) : Int32 := if c then 0 else 1
theorem nneg {x : Int32} : decide (0 ≤ x) = !decide (x < 0) := by
  by_cases h : x < 0
  · have : ¬ (0 : Int32) ≤ x := Int32.not_le.mpr h
    simp [h, this]
  · have : (0 : Int32) ≤ x := Int32.not_lt.mp h
    simp [h, this]
theorem okN_of {x : Int32} (h : okN x = true) : ∃ p : Nat, 0 < p ∧ p ≤ 9999 ∧ x = nI p := by
  unfold okN at h
  simp only [Bool.and_eq_true, Bool.not_eq_true', decide_eq_false_iff_not] at h
  obtain ⟨p, h1, rfl⟩ := vpb_of h.2
  refine ⟨p, ?_, h1, rfl⟩
  rcases Nat.eq_zero_or_pos p with z | z
  · subst z; exact absurd rfl h.1
  · exact z
theorem refreshC {M : Mem} {k : Lk} (h : LC M k) (c tks : Int32) {j : Nat} (hj : j < kn k) (ha : act k j = true) : f_X4_refresh M c (nI j) tks = if okC c && inR tks 0 1000 then (if kcl k j = c then some (.inr (nI (ken k j) - nI (kt k)), mu M 16 j (nI (kt k) + tks)) else some (.inl xS, M)) else some (.inl xA, M) := by
  have hn : kn k ≤ 30 := h.2.1
  unfold f_X4_refresh f_X4_refresh_0
  rw [findC h hj, bd2_s, if_pos ha, oe_1, if_neg (by omega), reqClientC]
  simp only [reqRangeC]
  obtain ⟨g0, -, -, -, -, e, g3, g4, g5, g6⟩ := h.2.2.2.2 j hj
  have ha : kt k < ken k j := by simpa [act] using ha
  cases okC c
  · rfl
  · cases hh : inR tks 0 1000
    · rfl
    · rw [un_t, bdx_s, un_t, bdx_s, g0, g3, h.2.2.1, g6 (g5.mpr ha)]
      simp
theorem refreshC_out {M : Mem} {k : Lk} (h : LC M k) (c tks x : Int32) (hx : ∀ j, j < kn k → x = nI j → act k j = false) : f_X4_refresh M c x tks = some (.inl xB, M) := by
  unfold f_X4_refresh f_X4_refresh_0
  by_cases q : ∃ j, j < kn k ∧ x = nI j
  · obtain ⟨j, hj, rfl⟩ := q
    rw [findC h hj, bd2_s, hx j hj rfl, if_neg (by decide), oe_0]
  · rw [findC_out h (fun j hj z => q ⟨j, hj, z⟩), bd2_s, oe_0]

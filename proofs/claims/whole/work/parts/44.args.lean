/-! ===== arguments ===== -/
abbrev xA : String := "java/lang/IllegalArgumentException"
abbrev xB : String := "java/lang/IndexOutOfBoundsException"
abbrev xS : String := "java/lang/IllegalStateException"
def inR (x a c : Int32) : Bool := decide (a ≤ x) && decide (x ≤ c)
def okC (c : Int32) : Bool := inR c 0 3
def okN (x : Int32) : Bool := !decide (x = 0) && vpb x
def un (c : Bool) (M : Mem) : Option ((String ⊕ Unit) × Mem) := some (if c then .inr () else .inl xA, M)
theorem un_t (M : Mem) : un true M = some (.inr (), M) := rfl
theorem un_f (M : Mem) : un false M = some (.inl xA, M) := rfl
theorem reqRangeC (M : Mem) (x a c : Int32) : f_X4_requireRange M x a c = un (inR x a c) M := by
  unfold f_X4_requireRange f_X4_requireRange_0 inR un
  by_cases h1 : x < a
  · have : ¬ a ≤ x := Int32.not_le.mpr h1
    simp [h1, this]
  · have g1 : a ≤ x := Int32.not_lt.mp h1
    by_cases h2 : x ≤ c <;> simp [h1, g1, h2]
theorem reqClientC (M : Mem) (x : Int32) : f_X4_requireClient M x = un (okC x) M := by
  unfold f_X4_requireClient f_X4_requireClient_0 okC
  rw [reqRangeC]
  cases inR x 0 3 <;> rfl
theorem reqPathC (M : Mem) (x : Int32) : f_X4_requirePath M x = un (vpb x) M := by
  unfold f_X4_requirePath f_X4_requirePath_0
  rw [isPathC, bd2_s]
  cases vpb x <;> rfl
theorem reqNameC (M : Mem) (x : Int32) : f_X4_requirePathBelowTop M x = un (okN x) M := by
  unfold f_X4_requirePathBelowTop f_X4_requirePathBelowTop_0 okN
  rw [reqPathC]
  cases h : vpb x
  · rw [un_f, bdx_l, Bool.and_false, un_f]
  · rw [un_t, bdx_s]
    by_cases h0 : x = 0 <;> simp [h0, un]
theorem reqNNC (M : Mem) (x : Int32) : f_X4_requireNotNegative M x = un (decide (0 ≤ x)) M := by
  unfold f_X4_requireNotNegative f_X4_requireNotNegative_0 un
  by_cases h : (0 : Int32) ≤ x <;> simp [h]
theorem isClientM (M : Mem) (x : Int32) : f_X5_isClient M x = some (b2i (okC x), M) := by
  unfold f_X5_isClient f_X5_isClient_0 okC inR
  rw [isInM, bd2_s, if_pos (b2i_and _)]
theorem isNameM (M : Mem) (x : Int32) : f_X5_isName M x = some (b2i (okN x), M) := by
  unfold f_X5_isName f_X5_isName_0 okN
  rw [isPathM, bd2_s]
  by_cases h0 : x = 0
  · simp [h0, b2i]
  · cases vpb x <;> simp [h0, b2i]
theorem isRangeM (M : Mem) (x a c : Int32) : f_X5_isIn M x a c = some (b2i (inR x a c), M) := isInM M x a c
def okR (c x tk : Int32) : Bool := okC c && (okN x && decide (0 ≤ tk))
def thr (c : Bool) : Int32 := if c then 0 else 1
theorem nneg {x : Int32} : decide (0 ≤ x) = !decide (x < 0) := by
  by_cases h : x < 0
  · have : ¬ (0 : Int32) ≤ x := Int32.not_le.mpr h
    simp [h, this]
  · have : (0 : Int32) ≤ x := Int32.not_lt.mp h
    simp [h, this]
theorem isRightM (M : Mem) (c x tk : Int32) : f_X5_isRight M c x tk = some (b2i (okR c x tk), mu M 39 0 (thr (okR c x tk))) := by
  unfold f_X5_isRight f_X5_isRight_0 f_X5_isRight_23 f_X5_isRight_24 okR
  rw [isClientM, bd2_s, isNameM, bd2_s, nneg]
  simp only [mu_self, b2i_0]
  by_cases h3 : tk < 0 <;> cases okC c <;> cases okN x <;> simp [h3, b2i, thr]
theorem asksM (M : Mem) (x : Int32) : f_X5_asks M x = some (b2i (vpb x), mu M 39 0 (thr (vpb x))) := by
  unfold f_X5_asks f_X5_asks_0 f_X5_asks_13
  rw [isPathM, bd2_s]
  simp only [mu_self, b2i_0]
  cases vpb x <;> simp [b2i, thr]
theorem okN_of {x : Int32} (h : okN x = true) : ∃ p : Nat, 0 < p ∧ p ≤ 9999 ∧ x = nI p := by
  unfold okN at h
  simp only [Bool.and_eq_true, Bool.not_eq_true', decide_eq_false_iff_not] at h
  obtain ⟨p, h1, rfl⟩ := vpb_of h.2
  refine ⟨p, ?_, h1, rfl⟩
  rcases Nat.eq_zero_or_pos p with z | z
  · subst z; exact absurd rfl h.1
  · exact z
/-! ===== refresh, pass, covering, mayChange ===== -/
/-- what a step of the law owes: the class's wrapper, the reference, and what is compared -/
def agree (M M2 : Mem) (a : Mem → Option (Int32 × Mem)) (r : Mem → Option (Int32 × Mem)) : Prop :=
  ∃ (q : Int32) (M1 : Mem) (v : Int32), a M = some (q, M1) ∧ r M1 = some (v, M2) ∧ M2 39 0 = q ∧ (q = 0 → M2 40 0 = v)
theorem refreshC {M : Mem} {k : Lk} (h : LC M k) (c tks : Int32) {j : Nat} (hj : j < kn k) (ha : act k j = true) : f_X4_refresh M c (nI j) tks = if okC c && inR tks 0 1000 then (if kcl k j = c then some (.inr (nI (ken k j) - nI (kt k)), mu M 16 j (nI (kt k) + tks)) else some (.inl xS, M)) else some (.inl xA, M) := by
  have hn : kn k ≤ 30 := h.2.1
  unfold f_X4_refresh f_X4_refresh_0
  rw [findC h hj, bd2_s, if_pos ha, oe_1, if_neg (by omega), reqClientC]
  simp only [reqRangeC]
  obtain ⟨g0, -, -, -, -, e, g3, g4, g5, g6⟩ := h.2.2.2.2 j hj
  have ha : kt k < ken k j := by simpa [act] using ha
  cases okC c
  · rfl
  · cases hh : inR tks 0 1000
    · rfl
    · rw [un_t, bdx_s, un_t, bdx_s, g0, g3, h.2.2.1, g6 (g5.mpr ha)]
      simp
theorem refreshM {M : Mem} {k : Lk} (h : LM M k) (c tks : Int32) {j : Nat} (hj : j < kn k) (ha : act k j = true) : f_X5_refresh M c (nI j) tks = if okC c && inR tks 0 1000 then (if kcl k j = c then some (nI (ken k j) - nI (kt k), mu (mu M 39 0 0) 34 j (nI (kt k) + tks)) else some (0, mu M 39 0 3)) else some (0, mu M 39 0 2) := by
  have hn : kn k ≤ 30 := h.2.1
  obtain ⟨g0, -, -, -, -, e, g3, g4, g5, g6⟩ := h.2.2.2.2 j hj
  have ha' : kt k < ken k j := by simpa [act] using ha
  unfold f_X5_refresh f_X5_refresh_0 f_X5_refresh_49 f_X5_refresh_68
  have e1 : inR (nI j) 0 (M 29 0 - 1) = true := by
    unfold inR
    rw [h.1, show (1 : Int32) = nI 1 from rfl, pk_sub (show 1 ≤ kn k by omega), show (0 : Int32) = nI 0 from rfl]
    simp only [le' (show 0 < 2147483648 by decide) (show j < 2147483648 by omega), le' (show j < 2147483648 by omega) (show kn k - 1 < 2147483648 by omega)]
    simp; omega
  rw [isRangeM, bd2_s, e1, isOnM h hj, bd2_s, ha, isClientM, bd2_s, isRangeM, bd2_s]
  simp only [gi (show j < 30 by omega) (show 30 < 2147483648 by decide)]
  simp only [mu_self, b2i_0, cl' (show j < 2147483648 by omega), g0, mu_ne M 0 _ (show (34 : Nat) ≠ 39 by decide), mu_ne M 0 _ (show (28 : Nat) ≠ 39 by decide), g3, h.2.2.1, g6 (g5.mpr ha')]
  cases okC c
  · rfl
  · cases hh : inR tks 0 1000
    · rfl
    · by_cases q : kcl k j = c
      · simp [q]
      · simp [q]
theorem refreshC_out {M : Mem} {k : Lk} (h : LC M k) (c tks x : Int32) (hx : ∀ j, j < kn k → x = nI j → act k j = false) : f_X4_refresh M c x tks = some (.inl xB, M) := by
  unfold f_X4_refresh f_X4_refresh_0
  by_cases q : ∃ j, j < kn k ∧ x = nI j
  · obtain ⟨j, hj, rfl⟩ := q
    rw [findC h hj, bd2_s, hx j hj rfl, if_neg (by decide), oe_0]
  · rw [findC_out h (fun j hj z => q ⟨j, hj, z⟩), bd2_s, oe_0]
theorem refreshM_out {M : Mem} {k : Lk} (h : LM M k) (c tks x : Int32) (hx : ∀ j, j < kn k → x = nI j → act k j = false) : f_X5_refresh M c x tks = some (0, mu M 39 0 1) := by
  have hn : kn k ≤ 30 := h.2.1
  unfold f_X5_refresh f_X5_refresh_0 f_X5_refresh_68
  rw [isRangeM, bd2_s]
  by_cases q : ∃ j, j < kn k ∧ x = nI j
  · obtain ⟨j, hj, rfl⟩ := q
    rw [isOnM h hj, bd2_s, hx j hj rfl]
    cases inR (nI j) 0 (M 29 0 - 1) <;> simp [mu_self, b2i]
  · have e1 : inR x 0 (M 29 0 - 1) = false := by
      unfold inR
      rw [h.1]
      by_cases h0 : (0 : Int32) ≤ x
      · obtain ⟨j, hj, rfl⟩ := nI_ofNN h0
        have hj2 : kn k ≤ j := by
          rcases Nat.lt_or_ge j (kn k) with z | z
          · exact absurd ⟨j, z, rfl⟩ q
          · exact z
        rcases Nat.eq_zero_or_pos (kn k) with z | z
        · rw [z]
          have : ¬ nI j ≤ nI 0 - 1 := fun w => by
            have w2 : (0 : Int32) ≤ nI 0 - 1 := Int32.le_trans h0 w
            exact absurd w2 (by decide)
          simp [this]
        · rw [show (1 : Int32) = nI 1 from rfl, pk_sub (show 1 ≤ kn k by omega)]
          simp only [le' hj (show kn k - 1 < 2147483648 by omega)]
          have : ¬ j ≤ kn k - 1 := by omega
          simp [this]
      · simp [h0]
    rw [e1]
    simp [mu_self, b2i]

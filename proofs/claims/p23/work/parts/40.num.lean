/-! ===== the pure side: numbers, binds, paths ===== -/
theorem bd1_s {β : Type} (M : Mem) (k : Mem → Option β) : bd1 (some M) k = k M := rfl
theorem bd2_s {α β : Type} (a : α) (M : Mem) (k : α → Mem → Option β) : bd2 (some (a, M)) k = k a M := rfl
theorem bdx_s {α β : Type} (a : α) (M : Mem) (k : α → Mem → Option ((String ⊕ β) × Mem)) : bdx (some (.inr a, M)) k = k a M := rfl
theorem bdx_l {α β : Type} (E : String) (M : Mem) (k : α → Mem → Option ((String ⊕ β) × Mem)) : bdx (some (.inl E, M)) k = some (.inl E, M) := rfl
theorem oe_0 {β : Type} (a : Option β) (f : Nat → Option β) : oe none a f = a := rfl
theorem oe_1 {β : Type} (k : Nat) (a : Option β) (f : Nat → Option β) : oe (some k) a f = f k := rfl
/-- a truth as an int -/
def b2i (c : Bool) : Int32 := if c then 1 else 0
theorem b2i_t : b2i true = 1 := rfl
theorem b2i_f : b2i false = 0 := rfl
theorem b2i_0 (c : Bool) : (b2i c = 0) = (c = false) := by cases c <;> simp [b2i]
theorem b2i_and (c : Bool) : b2i c &&& 1 = b2i c := by cases c <;> decide
theorem gi {α : Type} {j N : Nat} (hj : j < N) (hN : N < 2147483648) (a x : α) : (if nI j < 0 ∨ N ≤ (nI j).toNatClampNeg then a else x) = x := if_neg (nI_in hj (by omega))
theorem cl' {n : Nat} (h : n < 2147483648) : (nI n).toNatClampNeg = n := nI_clamp (by omega)
theorem le' {a b : Nat} (ha : a < 2147483648) (hb : b < 2147483648) : (nI a ≤ nI b) = (a ≤ b) := propext (nI_leI (by omega) (by omega))
theorem g60 {α : Type} {j : Nat} (h : j < 60) (a x : α) : (if (60 : Int32) ≤ nI j then a else x) = x := if_neg (by rw [show (60 : Int32) = nI 60 from rfl, le' (by decide) (by omega)]; omega)
theorem lt' {a b : Nat} (ha : a < 2147483648) (hb : b < 2147483648) : (nI a < nI b) = (a < b) := propext (nI_ltI (by omega) (by omega))
theorem l60 {α : Type} {j : Nat} (h : j < 60) (a x : α) : (if nI j < (60 : Int32) then a else x) = a := if_pos (by rw [show (60 : Int32) = nI 60 from rfl, lt' (by omega) (by decide)]; exact h)
theorem eq' {a b : Nat} (ha : a < 2147483648) (hb : b < 2147483648) : (nI a = nI b) = (a = b) := propext (nI_eq (by omega) (by omega))
theorem div10 {a : Nat} (ha : a < 2147483648) : nI a / 10 = nI (a / 10) := by
  have h := pk_div (a := a) (d := 10) (by omega) (by decide) (by decide)
  rw [show nI 10 = (10 : Int32) from rfl] at h
  exact h
theorem rem10 {a : Nat} (ha : a < 2147483648) : nI a - nI a / 10 * 10 = nI (a % 10) := by
  have h := pk_rem (a := a) (d := 10) (by omega) (by decide) (by decide)
  rw [show nI 10 = (10 : Int32) from rfl] at h
  exact h
theorem ze {a : Nat} (ha : a < 2147483648) : (nI a = 0) = (a = 0) := eq' (b := 0) ha (by decide)
theorem neg' {a : Nat} (ha : a < 2147483648) : (nI a < 0) = False := eq_false (nI_pos (by omega))
theorem pos' {a : Nat} (ha : a < 2147483648) : ((0 : Int32) ≤ nI a) = True := eq_true (nI_pos' (by omega))
theorem le0 {a : Nat} (ha : a < 2147483648) : (nI a ≤ 0) = (a = 0) := by
  have h := le' (b := 0) ha (by decide)
  rw [show nI 0 = (0 : Int32) from rfl] at h
  rw [h, Nat.le_zero]
/-- which numbers are paths; which path is above which -/
def vpN : Nat → Nat → Bool
  | 0, _ => true
  | k + 1, m => decide (m = 0) || (!decide (m % 10 = 0) && vpN k (m / 10))
def abvN : Nat → Nat → Nat → Bool
  | 0, _, _ => false
  | k + 1, u, m => !decide (m = 0) && (decide (m / 10 = u) || abvN k u (m / 10))
def abv (u p : Nat) : Bool := abvN 4 u p
def inT (u p : Nat) : Bool := decide (p = u) || abv u p
def vpb (x : Int32) : Bool := decide (0 ≤ x) && decide (x ≤ 9999) && vpN 4 x.toNatClampNeg
theorem nI_ofNN {x : Int32} (h : 0 ≤ x) : ∃ j : Nat, j < 2147483648 ∧ x = nI j := by
  obtain ⟨j, h1, h2⟩ := nI_of (x := x) (Int32.not_lt.mpr h)
  exact ⟨j, by omega, h2⟩
theorem vpb_of {x : Int32} (h : vpb x = true) : ∃ j : Nat, j ≤ 9999 ∧ x = nI j := by
  unfold vpb at h
  simp only [Bool.and_eq_true, decide_eq_true_eq] at h
  obtain ⟨j, h1, h2⟩ := nI_ofNN h.1.1
  subst h2
  have h3 := h.1.2
  rw [show (9999 : Int32) = nI 9999 from rfl, le' h1 (by decide)] at h3
  exact ⟨j, h3, rfl⟩
theorem vpN_0 (k : Nat) : vpN k 0 = true := by cases k <;> rfl
/-- the class's isPath -/
theorem isPathC_17 (M : Mem) : ∀ (n s m : Nat), s ≤ 4 → 4 - s < n → m < 2147483648 → f_X4_isPath_17 n M (nI m) (nI s) = some (b2i (vpN (4 - s) m), M) := by
  intro n
  induction n with
  | zero => intro s m _ h _; omega
  | succ n ih =>
    intro s m hs hn hm
    show f_X4_isPath_17B (f_X4_isPath_17 n) M (nI m) (nI s) = _
    unfold f_X4_isPath_17B
    by_cases h4 : s = 4
    · subst h4
      rw [if_pos (by decide)]
      rfl
    · rw [if_neg (by rw [show (4 : Int32) = nI 4 from rfl, le' (by decide) (by omega)]; omega), rem10 hm, div10 hm, nI_1]
      simp only [le0 hm, ze (show m % 10 < 2147483648 by omega)]
      obtain ⟨k, hk⟩ : ∃ k, 4 - s = k + 1 := ⟨3 - s, by omega⟩
      rw [hk]
      by_cases h0 : m = 0
      · rw [if_pos h0]; subst h0; rfl
      · rw [if_neg h0]
        by_cases hr : m % 10 = 0
        · rw [if_pos hr]; simp [vpN, h0, hr, b2i]
        · rw [if_neg hr, ih (s + 1) (m / 10) (by omega) (by omega) (by omega), show 4 - (s + 1) = k by omega]
          simp [vpN, h0, hr]
theorem isPathC (M : Mem) (x : Int32) : f_X4_isPath M x = some (b2i (vpb x), M) := by
  unfold f_X4_isPath f_X4_isPath_0 vpb
  by_cases h0 : x < 0
  · rw [if_pos h0]
    have : ¬ (0 : Int32) ≤ x := Int32.not_le.mpr h0
    simp [this, b2i]
  · rw [if_neg h0]
    have h1 : (0 : Int32) ≤ x := Int32.not_lt.mp h0
    by_cases h2 : x ≤ 9999
    · rw [if_pos h2]
      obtain ⟨j, hj, rfl⟩ := nI_ofNN h1
      have := isPathC_17 M 64 0 j (by omega) (by omega) hj
      rw [show nI 0 = (0 : Int32) from rfl] at this
      rw [this, cl' hj]
      simp [h1, h2]
    · rw [if_neg h2]
      simp [h2, b2i]
/-- above -/
theorem isAboveC_4 (M : Mem) (u : Nat) (hu : u < 2147483648) : ∀ (n s m : Nat), s ≤ 4 → 4 - s < n → m < 2147483648 → f_X4_isAbove_4 n M (nI u) (nI m) (nI s) = some (b2i (abvN (4 - s) u m), M) := by
  intro n
  induction n with
  | zero => intro s m _ h _; omega
  | succ n ih =>
    intro s m hs hn hm
    show f_X4_isAbove_4B (f_X4_isAbove_4 n) M (nI u) (nI m) (nI s) = _
    unfold f_X4_isAbove_4B
    by_cases h4 : s = 4
    · subst h4
      rw [if_pos (by decide)]
      rfl
    · rw [if_neg (by rw [show (4 : Int32) = nI 4 from rfl, le' (by decide) (by omega)]; omega), div10 hm, nI_1]
      simp only [le0 hm, eq' (show m / 10 < 2147483648 by omega) hu]
      obtain ⟨k, hk⟩ : ∃ k, 4 - s = k + 1 := ⟨3 - s, by omega⟩
      rw [hk]
      by_cases h0 : m = 0
      · rw [if_pos h0]; subst h0; rfl
      · rw [if_neg h0]
        by_cases hr : m / 10 = u
        · rw [if_pos hr]; simp [abvN, h0, hr, b2i]
        · rw [if_neg hr, ih (s + 1) (m / 10) (by omega) (by omega) (by omega), show 4 - (s + 1) = k by omega]
          simp [abvN, h0, hr]
theorem isAboveC (M : Mem) {u p : Nat} (hu : u < 2147483648) (hp : p < 2147483648) : f_X4_isAbove M (nI u) (nI p) = some (b2i (abv u p), M) := by
  unfold f_X4_isAbove f_X4_isAbove_0
  exact isAboveC_4 M u hu 64 0 p (by omega) (by omega) hp
theorem isInC (M : Mem) {u p : Nat} (hu : u < 2147483648) (hp : p < 2147483648) : f_X4_isIn M (nI u) (nI p) = some (b2i (inT u p), M) := by
  unfold f_X4_isIn f_X4_isIn_0
  simp only [isAboveC M hu hp, bd2_s, eq' hp hu, b2i_0]
  unfold inT
  by_cases h : p = u
  · simp [h, b2i]
  · by_cases h2 : abv u p = false <;> simp [h, h2, b2i]

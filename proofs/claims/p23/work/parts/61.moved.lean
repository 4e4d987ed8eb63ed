/-! ===== where a path goes ===== -/
theorem inT_iff {u p : Nat} (hu : 0 < u) (hp : p ≤ 9999) : inT u p = true ↔ (p = u ∨ p / 10 = u ∨ p / 100 = u ∨ p / 1000 = u) := by
  unfold inT abv
  simp only [abvN, Bool.or_eq_true, Bool.and_eq_true, decide_eq_true_eq, Bool.not_eq_true', decide_eq_false_iff_not, Bool.and_false, Bool.or_false]
  omega
def pwr (f x : Nat) : Nat := if x = f then 1 else if x / 10 = f then 10 else if x / 100 = f then 100 else 1000
def mvp (f t x : Nat) : Nat := t * pwr f x + x % pwr f x
theorem pwr_cases {f x : Nat} (hf : 0 < f) (hx : x ≤ 9999) (h : inT f x = true) : (x = f ∧ pwr f x = 1) ∨ (x / 10 = f ∧ pwr f x = 10) ∨ (x / 100 = f ∧ pwr f x = 100) ∨ (x / 1000 = f ∧ pwr f x = 1000) := by
  rw [inT_iff hf hx] at h
  unfold pwr
  rcases h with h | h | h | h
  · left; exact ⟨h, if_pos h⟩
  · right; left; exact ⟨h, by rw [if_neg (by omega), if_pos h]⟩
  · right; right; left; exact ⟨h, by rw [if_neg (by omega), if_neg (by omega), if_pos h]⟩
  · right; right; right; exact ⟨h, by rw [if_neg (by omega), if_neg (by omega), if_neg (by omega)]⟩
theorem mvp_cases {f x : Nat} (t : Nat) (hf : 0 < f) (hx : x ≤ 9999) (h : inT f x = true) : (x = f ∧ mvp f t x = t) ∨ (x / 10 = f ∧ mvp f t x = t * 10 + x % 10) ∨ (x / 100 = f ∧ mvp f t x = t * 100 + x % 100) ∨ (x / 1000 = f ∧ mvp f t x = t * 1000 + x % 1000) := by
  unfold mvp
  rcases pwr_cases hf hx h with ⟨a, e⟩ | ⟨a, e⟩ | ⟨a, e⟩ | ⟨a, e⟩ <;> rw [e]
  · left; exact ⟨a, by omega⟩
  · right; left; exact ⟨a, rfl⟩
  · right; right; left; exact ⟨a, rfl⟩
  · right; right; right; exact ⟨a, rfl⟩
theorem mvp_inj {f t x y : Nat} (hf : 0 < f) (ht : 0 < t) (hx : x ≤ 9999) (hy : y ≤ 9999) (h1 : inT f x = true) (h2 : inT f y = true) (e : mvp f t x = mvp f t y) : x = y := by
  rcases mvp_cases t hf hx h1 with ⟨a, e1⟩ | ⟨a, e1⟩ | ⟨a, e1⟩ | ⟨a, e1⟩ <;> rcases mvp_cases t hf hy h2 with ⟨c, e2⟩ | ⟨c, e2⟩ | ⟨c, e2⟩ | ⟨c, e2⟩ <;> omega
theorem mvp_par {f t x y : Nat} (hf : 0 < f) (ht : 0 < t) (hx : x ≤ 9999) (hy : y ≤ 9999) (h1 : inT f x = true) (h2 : inT f y = true) (e : mvp f t x / 10 = mvp f t y / 10) : x / 10 = y / 10 := by
  rcases mvp_cases t hf hx h1 with ⟨a, e1⟩ | ⟨a, e1⟩ | ⟨a, e1⟩ | ⟨a, e1⟩ <;> rcases mvp_cases t hf hy h2 with ⟨c, e2⟩ | ⟨c, e2⟩ | ⟨c, e2⟩ | ⟨c, e2⟩ <;> omega
theorem mvp_in {f t x : Nat} (hf : 0 < f) (ht : 0 < t) (hx : x ≤ 9999) (h : inT f x = true) (h9 : mvp f t x ≤ 9999) : inT t (mvp f t x) = true := by
  rw [inT_iff ht h9]
  rcases mvp_cases t hf hx h with ⟨a, e⟩ | ⟨a, e⟩ | ⟨a, e⟩ | ⟨a, e⟩ <;> omega
theorem mvp_pos {f t x : Nat} (hf : 0 < f) (ht : 0 < t) (hx : x ≤ 9999) (h : inT f x = true) : 0 < mvp f t x := by
  rcases mvp_cases t hf hx h with ⟨a, e⟩ | ⟨a, e⟩ | ⟨a, e⟩ | ⟨a, e⟩ <;> omega
theorem mvp_lt {f t x : Nat} (hf : 0 < f) (ht : t ≤ 9999) (hx : x ≤ 9999) (h : inT f x = true) : mvp f t x < 10000000 := by
  rcases mvp_cases t hf hx h with ⟨a, e⟩ | ⟨a, e⟩ | ⟨a, e⟩ | ⟨a, e⟩ <;> omega
theorem mvp_back {f t x : Nat} (hf : 0 < f) (ht : 0 < t) (hx : x ≤ 9999) (h : inT f x = true) (h9 : mvp f t x ≤ 9999) : mvp t f (mvp f t x) = x := by
  have h2 := mvp_in hf ht hx h h9
  rcases mvp_cases t hf hx h with ⟨a, e⟩ | ⟨a, e⟩ | ⟨a, e⟩ | ⟨a, e⟩ <;> rcases mvp_cases f ht h9 h2 with ⟨c, e2⟩ | ⟨c, e2⟩ | ⟨c, e2⟩ | ⟨c, e2⟩ <;> omega
theorem mvp_f (f t : Nat) : mvp f t f = t := by unfold mvp pwr; rw [if_pos rfl]; omega
theorem inT_disj {f t x : Nat} (hf : 0 < f) (ht : 0 < t) (hx : x ≤ 9999) (hf9 : f ≤ 9999) (ht9 : t ≤ 9999) (h1 : inT f t = false) (h2 : inT t f = false) (h3 : inT f x = true) : inT t x = false := by
  cases h4 : inT t x
  · rfl
  · exfalso
    have g1 : ¬ (inT f t = true) := by rw [h1]; decide
    have g2 : ¬ (inT t f = true) := by rw [h2]; decide
    rw [inT_iff hf ht9] at g1
    rw [inT_iff ht hf9] at g2
    rw [inT_iff hf hx] at h3
    rw [inT_iff ht hx] at h4
    omega
theorem inT_up {t x : Nat} (ht : 0 < t) (hx : x ≤ 9999) (h : inT t (x / 10) = true) : inT t x = true := by
  rw [inT_iff ht (by omega)] at h
  rw [inT_iff ht hx]
  omega
/-- the parent of what is moved -/
theorem mvp_top {f t x q : Nat} (hf : 0 < f) (ht : 0 < t) (hx : x ≤ 9999) (h : inT f x = true) (hq : inT t q = false) (hq9 : q ≤ 9999) (e : mvp f t x / 10 = q) : x = f ∧ q = t / 10 := by
  have g : ¬ (inT t q = true) := by rw [hq]; decide
  rw [inT_iff ht hq9] at g
  rcases mvp_cases t hf hx h with ⟨a, e1⟩ | ⟨a, e1⟩ | ⟨a, e1⟩ | ⟨a, e1⟩ <;> omega
theorem inT_par {t : Nat} (ht : 0 < t) (ht9 : t ≤ 9999) : inT t (t / 10) = false := by
  cases h : inT t (t / 10)
  · rfl
  · rw [inT_iff ht (by omega)] at h
    omega
/-! digits and powers -/
def dg (x : Nat) : Nat := if x ≤ 999 then (if x ≤ 99 then (if x ≤ 9 then (if x = 0 then 0 else 1) else 2) else 3) else 4
theorem dg_le (x : Nat) : dg x ≤ 4 := by
  unfold dg
  split
  · split
    · split
      · split <;> omega
      · omega
    · omega
  · omega
theorem dg_cases (x : Nat) : (x = 0 ∧ dg x = 0) ∨ (1 ≤ x ∧ x ≤ 9 ∧ dg x = 1) ∨ (10 ≤ x ∧ x ≤ 99 ∧ dg x = 2) ∨ (100 ≤ x ∧ x ≤ 999 ∧ dg x = 3) ∨ (1000 ≤ x ∧ dg x = 4) := by
  unfold dg
  by_cases h1 : x ≤ 999
  · by_cases h2 : x ≤ 99
    · by_cases h3 : x ≤ 9
      · by_cases h4 : x = 0
        · left; simp [h4]
        · right; left; simp [h1, h2, h3, h4]; omega
      · right; right; left; simp [h1, h2, h3]; omega
    · right; right; right; left; simp [h1, h2]; omega
  · right; right; right; right; simp [h1]; omega
/-- too long -/
theorem fit_iff {f t x : Nat} (hf : 0 < f) (ht : 0 < t) (ht9 : t ≤ 9999) (hx : x ≤ 9999) (h : inT f x = true) : (5 ≤ dg t + dg x - dg f) ↔ ¬ mvp f t x ≤ 9999 := by
  rcases mvp_cases t hf hx h with ⟨a, e⟩ | ⟨a, e⟩ | ⟨a, e⟩ | ⟨a, e⟩ <;> rcases dg_cases x with z | z | z | z | z <;> rcases dg_cases f with w | w | w | w | w <;> rcases dg_cases t with v | v | v | v | v <;> omega
/-! the class's -/
theorem movedC_8 (M : Mem) (X : Int32) {f t : Nat} (hf : f < 2147483648) : ∀ (n r P s : Nat), r < 2147483648 → s < 100 → f_X4_moved_8 (n + 1) M X (nI f) (nI t) (nI r) (nI P) (nI s) = if 4 ≤ s ∨ r ≤ f then some (X + (nI t - nI f) * nI P, M) else f_X4_moved_8 n M X (nI f) (nI t) (nI (r / 10)) (nI (P * 10)) (nI (s + 1)) := by
  intro n r P s hr hs
  show f_X4_moved_8B (f_X4_moved_8 n) M X (nI f) (nI t) (nI r) (nI P) (nI s) = _
  unfold f_X4_moved_8B f_X4_moved_37
  rw [div10 hr, show (10 : Int32) = nI 10 from rfl, nI_mul, nI_1, show (4 : Int32) = nI 4 from rfl]
  simp only [le' (show 4 < 2147483648 by decide) (show s < 2147483648 by omega), le' hr hf]
  by_cases h1 : 4 ≤ s
  · rw [if_pos h1, if_pos (Or.inl h1)]
  · by_cases h2 : r ≤ f
    · rw [if_neg h1, if_pos h2, if_pos (Or.inr h2)]
    · rw [if_neg h1, if_neg h2, if_neg (by omega)]
theorem mv_ring (a b c P : Nat) {x : Nat} (h : x = b * P + c) : nI x + (nI a - nI b) * nI P = nI (a * P + c) := by
  rw [h, ← nI_add, ← nI_add, ← nI_mul, ← nI_mul, Int32.sub_mul, Int32.sub_eq_add_neg]
  rw [Int32.add_comm (nI b * nI P) (nI c), Int32.add_assoc, ← Int32.add_assoc (nI b * nI P), Int32.add_comm (nI b * nI P) (nI a * nI P), Int32.add_assoc, Int32.add_right_neg, Int32.add_zero, Int32.add_comm]
theorem movedC (M : Mem) {f t x : Nat} (hf : 0 < f) (hx : x ≤ 9999) (h : inT f x = true) : f_X4_moved M (nI x) (nI f) (nI t) = some (nI (mvp f t x), M) := by
  have hf9 : f ≤ 9999 := by rw [inT_iff hf hx] at h; omega
  unfold f_X4_moved f_X4_moved_0
  rw [show (1 : Int32) = nI 1 from rfl, show (0 : Int32) = nI 0 from rfl]
  rcases mvp_cases t hf hx h with ⟨a, e⟩ | ⟨a, e⟩ | ⟨a, e⟩ | ⟨a, e⟩ <;> rw [e]
  · rw [movedC_8 M _ (by omega) 63 x 1 0 (by omega) (by omega), if_pos (by omega)]
    rw [mv_ring t f 0 1 (by omega)]; simp
  · rw [movedC_8 M _ (by omega) 63 x 1 0 (by omega) (by omega), if_neg (by omega), movedC_8 M _ (by omega) 62 (x / 10) (1 * 10) (0 + 1) (by omega) (by omega), if_pos (by omega)]
    rw [mv_ring t f (x % 10) (1 * 10) (by omega)]
  · rw [movedC_8 M _ (by omega) 63 x 1 0 (by omega) (by omega), if_neg (by omega), movedC_8 M _ (by omega) 62 (x / 10) (1 * 10) (0 + 1) (by omega) (by omega), if_neg (by omega), movedC_8 M _ (by omega) 61 (x / 10 / 10) (1 * 10 * 10) (0 + 1 + 1) (by omega) (by omega), if_pos (by omega)]
    rw [mv_ring t f (x % 100) (1 * 10 * 10) (by omega)]
  · rw [movedC_8 M _ (by omega) 63 x 1 0 (by omega) (by omega), if_neg (by omega), movedC_8 M _ (by omega) 62 (x / 10) (1 * 10) (0 + 1) (by omega) (by omega), if_neg (by omega), movedC_8 M _ (by omega) 61 (x / 10 / 10) (1 * 10 * 10) (0 + 1 + 1) (by omega) (by omega), if_neg (by omega), movedC_8 M _ (by omega) 60 (x / 10 / 10 / 10) (1 * 10 * 10 * 10) (0 + 1 + 1 + 1) (by omega) (by omega), if_pos (by omega)]
    rw [mv_ring t f (x % 1000) (1 * 10 * 10 * 10) (by omega)]

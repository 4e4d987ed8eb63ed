/-! ===== locks: how many there have been, the time, client, path, shared, deep, end of each ===== -/
abbrev Lk : Type := Nat × Nat × (Nat → Int32) × (Nat → Nat) × (Nat → Int32) × (Nat → Int32) × (Nat → Nat)
abbrev kn (k : Lk) : Nat := k.1
abbrev kt (k : Lk) : Nat := k.2.1
abbrev kcl (k : Lk) : Nat → Int32 := k.2.2.1
abbrev kpa (k : Lk) : Nat → Nat := k.2.2.2.1
abbrev ksh (k : Lk) : Nat → Int32 := k.2.2.2.2.1
abbrev kdp (k : Lk) : Nat → Int32 := k.2.2.2.2.2.1
abbrev ken (k : Lk) : Nat → Nat := k.2.2.2.2.2.2
/-- a half of the memory holds these locks; the end of one that is gone is free -/
def LG (n t : Int32) (cl pa sh dp en : Nat → Int32) (k : Lk) : Prop :=
  n = nI (kn k) ∧ kn k ≤ 30 ∧ t = nI (kt k) ∧ kt k ≤ 1000000 ∧ ∀ j, j < kn k → cl j = kcl k j ∧ pa j = nI (kpa k j) ∧ kpa k j ≤ 9999 ∧ sh j = ksh k j ∧ dp j = kdp k j ∧ ∃ e, en j = nI e ∧ e ≤ 1001000 ∧ (kt k < e ↔ kt k < ken k j) ∧ (kt k < e → e = ken k j)
def LC (M : Mem) (k : Lk) : Prop := LG (M 10 0) (M 11 0) (M 12) (M 13) (M 14) (M 15) (M 16) k
def LM (M : Mem) (k : Lk) : Prop := LG (M 29 0) (M 28 0) (M 30) (M 31) (M 32) (M 33) (M 34) k
def act (k : Lk) (j : Nat) : Bool := decide (kt k < ken k j)
def cov (k : Lk) (p j : Nat) : Bool := act k j && (decide (p = kpa k j) || (!decide (kdp k j = 0) && abv (kpa k j) p))
def anyU (f : Nat → Bool) : Nat → Nat → Bool
  | 0, _ => false
  | r + 1, t => f t || anyU f r (t + 1)
theorem anyU_s (f : Nat → Bool) (r t : Nat) : anyU f (r + 1) t = (f t || anyU f r (t + 1)) := rfl
def bitU (f : Nat → Bool) : Nat → Nat → Int32 → Int32
  | 0, _, a => a
  | r + 1, t, a => bitU f r (t + 1) (if f t then a ||| ((1 : Int32) <<< (nI t &&& 31)) else a)
def ovl (k : Lk) (p : Nat) : Int32 := bitU (cov k p) (kn k) 0 0
def mine (k : Lk) (c g : Int32) (j : Nat) : Bool := !decide (g &&& ((1 : Int32) <<< (nI j &&& 31)) = 0) && decide (kcl k j = c)
theorem mine_e (k : Lk) (c g : Int32) (j : Nat) : mine k c g j = (!decide (g &&& ((1 : Int32) <<< (nI j &&& 31)) = 0) && decide (kcl k j = c)) := rfl
/-- a client may change a path with tokens -/
def alw (k : Lk) (c : Int32) (p : Nat) (tk : Int32) : Bool := decide (ovl k p = 0) || anyU (mine k c (ovl k p &&& tk)) (kn k) 0
theorem findC {M : Mem} {k : Lk} (h : LC M k) {j : Nat} (hj : j < kn k) : f_X1_find M (nI j) = some (if act k j then some j else none, M) := by
  obtain ⟨h1, h2, h3, h4, h5⟩ := h
  obtain ⟨-, -, -, -, -, e, g1, g2, g3, g4⟩ := h5 j hj
  unfold f_X1_find f_X1_find_0 act
  simp only [gi (show j < 30 by omega) (show 30 < 2147483648 by decide)]
  simp only [neg' (show j < 2147483648 by omega), h1, le' (show kn k < 2147483648 by omega) (show j < 2147483648 by omega), if_false, show ¬ kn k ≤ j by omega]
  rw [if_pos (by rw [show (30 : Int32) = nI 30 from rfl, lt' (by omega) (by decide)]; omega), cl' (by omega), g1, h3]
  simp only [le' (show e < 2147483648 by omega) (show kt k < 2147483648 by omega), decide_eq_true_eq]
  by_cases q : kt k < e
  · rw [if_neg (by omega), if_pos (g3.mp q)]
  · rw [if_pos (by omega), if_neg (fun z => q (g3.mpr z))]
theorem findC_out {M : Mem} {k : Lk} (h : LC M k) {x : Int32} (hx : ∀ j, j < kn k → x ≠ nI j) : f_X1_find M x = some (none, M) := by
  obtain ⟨h1, h2, h3, h4, h5⟩ := h
  unfold f_X1_find f_X1_find_0
  by_cases q : x < 0
  · rw [if_pos q]
  · rw [if_neg q]
    obtain ⟨j, hj, rfl⟩ := nI_ofNN (Int32.not_lt.mp q)
    rw [h1]
    simp only [le' (show kn k < 2147483648 by omega) hj]
    rw [if_pos (by
      rcases Nat.lt_or_ge j (kn k) with z | z
      · exact absurd rfl (hx j z)
      · exact z)]
theorem coversC {M : Mem} {k : Lk} (h : LC M k) {j p : Nat} (hj : j < kn k) (hp : p ≤ 9999) (ha : act k j = true) : f_X0_covers M j (nI p) = some (b2i (cov k p j), M) := by
  obtain ⟨h1, h2, h3, h4, h5⟩ := h
  obtain ⟨-, g1, g2, -, g3, -⟩ := h5 j hj
  unfold f_X0_covers f_X0_covers_0 cov
  rw [g1, g3]
  simp only [eq' (show p < 2147483648 by omega) (show kpa k j < 2147483648 by omega), isAboveC M (show kpa k j < 2147483648 by omega) (show p < 2147483648 by omega), bd2_s, b2i_0, ha, Bool.true_and]
  by_cases q : p = kpa k j
  · simp [q, b2i]
  · by_cases q2 : kdp k j = 0
    · simp [q, q2, b2i]
    · by_cases q3 : abv (kpa k j) p = false <;> simp [q, q2, q3, b2i]
theorem tokensOverC_4 {M : Mem} {k : Lk} (h : LC M k) {p : Nat} (hp : p ≤ 9999) : ∀ (r n t : Nat) (a : Int32), t + r = kn k → r < n → f_X1_tokensOver_4 n M (nI p) a (nI t) = some (bitU (cov k p) r t a, M) := by
  have hn : M 10 0 = nI (kn k) ∧ kn k ≤ 30 := ⟨h.1, h.2.1⟩
  intro r
  induction r with
  | zero =>
    intro n t a ht hr
    obtain ⟨n, rfl⟩ : ∃ j, n = j + 1 := ⟨n - 1, by omega⟩
    show f_X1_tokensOver_4B (f_X1_tokensOver_4 n) M (nI p) a (nI t) = _
    unfold f_X1_tokensOver_4B
    rw [hn.1]
    simp only [le' (show kn k < 2147483648 by omega) (show t < 2147483648 by omega)]
    rw [if_pos (by omega)]
    rfl
  | succ r ih =>
    intro n t a ht hr
    obtain ⟨n, rfl⟩ : ∃ j, n = j + 1 := ⟨n - 1, by omega⟩
    show f_X1_tokensOver_4B (f_X1_tokensOver_4 n) M (nI p) a (nI t) = _
    unfold f_X1_tokensOver_4B f_X1_tokensOver_39
    rw [hn.1]
    simp only [le' (show kn k < 2147483648 by omega) (show t < 2147483648 by omega)]
    rw [if_neg (by omega), findC h (show t < kn k by omega), bd2_s, nI_1]
    by_cases q : act k t = true
    · rw [if_pos q, oe_1, if_neg (by omega), coversC h (show t < kn k by omega) hp q, bd2_s]
      simp only [b2i_0]
      unfold bitU
      by_cases q2 : cov k p t = true
      · rw [if_neg (by rw [q2]; decide), if_pos q2]
        exact ih n (t + 1) _ (by omega) (by omega)
      · rw [if_pos (by simpa using q2), if_neg q2]
        exact ih n (t + 1) _ (by omega) (by omega)
    · rw [if_neg q, oe_0]
      unfold bitU
      rw [if_neg (show ¬ cov k p t = true by unfold cov; simp [q])]
      exact ih n (t + 1) _ (by omega) (by omega)
theorem tokensOverC {M : Mem} {k : Lk} (h : LC M k) {p : Nat} (hp : p ≤ 9999) : f_X1_tokensOver M (nI p) = some (ovl k p, M) := by
  unfold f_X1_tokensOver f_X1_tokensOver_0
  have := h.2.1
  exact tokensOverC_4 h hp (kn k) 64 0 0 (by omega) (by omega)
theorem bit_ne : ∀ s, s < 31 → ∀ t, t < 31 → s ≠ t → ((1 : Int32) <<< (nI s &&& 31)) &&& ((1 : Int32) <<< (nI t &&& 31)) = 0 := by decide +kernel
theorem and_orR (a x y : Int32) : (a ||| x) &&& y = (a &&& y) ||| (x &&& y) := by
  apply Int32.toBitVec_inj.mp
  ext i
  simp [Bool.and_or_distrib_right]
theorem or_0R (a : Int32) : a ||| 0 = a := by
  apply Int32.toBitVec_inj.mp
  simp
theorem and_asR (a x y : Int32) : (a &&& x) &&& y = (a &&& y) &&& x := by
  apply Int32.toBitVec_inj.mp
  ext i
  simp [Bool.and_assoc, Bool.and_comm, Bool.and_left_comm]
theorem zandR (x : Int32) : (0 : Int32) &&& x = 0 := by
  apply Int32.toBitVec_inj.mp
  simp
theorem bitU_off {f : Nat → Bool} {t : Nat} (ht : t < 31) (hf : f t = false) : ∀ (r s : Nat) (a : Int32), s + r ≤ 31 → bitU f r s a &&& ((1 : Int32) <<< (nI t &&& 31)) = a &&& ((1 : Int32) <<< (nI t &&& 31)) := by
  intro r
  induction r with
  | zero => intro s a _; rfl
  | succ r ih =>
    intro s a hs
    unfold bitU
    rw [ih (s + 1) _ (by omega)]
    by_cases q : f s = true
    · have hst : s ≠ t := fun z => by rw [z, hf] at q; exact absurd q (by decide)
      rw [if_pos q, and_orR, bit_ne s (by omega) t ht hst, or_0R]
    · rw [if_neg q]
/-- a token of a lock that is gone is in no set -/
theorem ovl_off {k : Lk} (h : kn k ≤ 30) {p t : Nat} {tk : Int32} (ht : t < kn k) (ha : act k t = false) : (ovl k p &&& tk) &&& ((1 : Int32) <<< (nI t &&& 31)) = 0 := by
  rw [and_asR]
  unfold ovl
  rw [bitU_off (by omega) (show cov k p t = false by unfold cov; rw [ha]; rfl) (kn k) 0 0 (by omega), zandR, zandR]
theorem allowsC_23 {M : Mem} {k : Lk} (h : LC M k) (c g : Int32) (hg : ∀ t, t < kn k → act k t = false → g &&& ((1 : Int32) <<< (nI t &&& 31)) = 0) : ∀ (r n t : Nat), t + r = kn k → r < n → f_X1_allows_23 n M c g (nI t) = some (b2i (anyU (mine k c g) r t), M) := by
  have hn : M 10 0 = nI (kn k) ∧ kn k ≤ 30 := ⟨h.1, h.2.1⟩
  intro r
  induction r with
  | zero =>
    intro n t ht hr
    obtain ⟨n, rfl⟩ : ∃ j, n = j + 1 := ⟨n - 1, by omega⟩
    show f_X1_allows_23B (f_X1_allows_23 n) M c g (nI t) = _
    unfold f_X1_allows_23B
    rw [hn.1]
    simp only [le' (show kn k < 2147483648 by omega) (show t < 2147483648 by omega)]
    rw [if_pos (by omega)]
    rfl
  | succ r ih =>
    intro n t ht hr
    obtain ⟨n, rfl⟩ : ∃ j, n = j + 1 := ⟨n - 1, by omega⟩
    show f_X1_allows_23B (f_X1_allows_23 n) M c g (nI t) = _
    unfold f_X1_allows_23B f_X1_allows_66
    rw [hn.1]
    simp only [le' (show kn k < 2147483648 by omega) (show t < 2147483648 by omega)]
    rw [if_neg (by omega), findC h (show t < kn k by omega), bd2_s, nI_1, ih n (t + 1) (by omega) (by omega)]
    rw [anyU_s, mine_e]
    by_cases qa : act k t = true
    · rw [if_pos qa, oe_1, if_neg (by omega), (h.2.2.2.2 t (by omega)).1]
      by_cases q : g &&& ((1 : Int32) <<< (nI t &&& 31)) = 0
      · simp [q]
      · by_cases q2 : kcl k t = c <;> simp [q, q2, b2i]
    · rw [if_neg qa, oe_0, hg t (by omega) (by simpa using qa)]
      simp
theorem allowsC {M : Mem} {k : Lk} (h : LC M k) (c : Int32) {p : Nat} (hp : p ≤ 9999) (tk : Int32) : f_X1_allows M c (nI p) tk = some (b2i (alw k c p tk), M) := by
  unfold f_X1_allows f_X1_allows_0 alw
  rw [tokensOverC h hp, bd2_s]
  have := h.2.1
  have h2 := allowsC_23 h c (ovl k p &&& tk) (fun t ht ha => ovl_off this ht ha) (kn k) 64 0 (by omega) (by omega)
  rw [show nI 0 = (0 : Int32) from rfl] at h2
  by_cases q : ovl k p = 0
  · simp [q, b2i]
  · rw [if_neg q, h2]; simp [q]
theorem or0 (a : Int32) : a ||| 0 = a := by
  apply Int32.toBitVec_inj.mp
  simp
theorem b2i_or (a c : Bool) : b2i a ||| b2i c = b2i (a || c) := by cases a <;> cases c <;> decide
theorem b2i_an (a c : Bool) : b2i a &&& b2i c = b2i (a && c) := by cases a <;> cases c <;> decide

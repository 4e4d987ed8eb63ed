/-! ===== what copy and move ask: the class ===== -/
theorem treeSizeC_4 {M : Mem} {sp : List Nat} {τ : Tr} {u : Nat} (hu : u ≤ 9999) : ∀ (L2 L1 : List Nat) (n a : Nat), TC M (L1 ++ L2) sp τ → L2.length < n → f_X3_treeSize_4 n M (nI u) (nI a) (nI L1.length) = some (nI (a + L2.countP (fun r => inT u (pC M r))), M) := by
  intro L2
  induction L2 with
  | nil =>
    intro L1 n a h hn
    obtain ⟨n, rfl⟩ : ∃ j, n = j + 1 := ⟨n - 1, by omega⟩
    show f_X3_treeSize_4B (f_X3_treeSize_4 n) M (nI u) (nI a) (nI L1.length) = _
    unfold f_X3_treeSize_4B
    rw [h.1.1, List.append_nil]
    have := IC_len h.1
    rw [List.append_nil] at this
    simp only [le' (show L1.length < 2147483648 by omega) (show L1.length < 2147483648 by omega)]
    rw [if_pos (Nat.le_refl _)]
    rfl
  | cons r L2 ih =>
    intro L1 n a h hn
    obtain ⟨n, rfl⟩ : ∃ j, n = j + 1 := ⟨n - 1, by simp at hn; omega⟩
    obtain ⟨h1, h2, h3, h4, h5, h6, h7, h8, h9⟩ := TC_at h
    have e1 := ih (L1 ++ [r]) n a (by simpa using h) (by simp at hn; omega)
    have e2 := ih (L1 ++ [r]) n (a + 1) (by simpa using h) (by simp at hn; omega)
    show f_X3_treeSize_4B (f_X3_treeSize_4 n) M (nI u) (nI a) (nI L1.length) = _
    unfold f_X3_treeSize_4B f_X3_treeSize_40
    rw [h7]
    simp only [le' (show (L1 ++ r :: L2).length < 2147483648 by omega) (show L1.length < 2147483648 by omega)]
    rw [if_neg (by omega), g60 h3, gi h3 (by decide), cl' (by omega), h1, if_neg (by omega), h4, isInC M (by omega) (by omega), bd2_s, step1 L1 r, nI_1, e1, e2, List.countP_cons]
    simp only [b2i_0]
    cases inT u (pC M r) <;> simp [Nat.add_comm, Nat.add_left_comm, Nat.add_assoc]
theorem treeSizeC {M : Mem} {L sp : List Nat} {τ : Tr} (h : TC M L sp τ) {u : Nat} (hu : u ≤ 9999) : f_X3_treeSize M (nI u) = some (nI ((ta τ).countP (inT u)), M) := by
  unfold f_X3_treeSize f_X3_treeSize_0
  have := IC_len h.1
  have e := treeSizeC_4 hu L [] 64 0 h (by omega)
  rw [Nat.zero_add] at e
  rw [← (eqv_perm h.2.2.1).countP_eq, List.countP_map]
  exact e
theorem allowsTreeC_3 {M : Mem} {sp : List Nat} {τ : Tr} {k : Lk} {c tk : Int32} {u : Nat} (hu : u ≤ 9999) (hk : LC M k) : ∀ (L2 L1 : List Nat) (n : Nat), TC M (L1 ++ L2) sp τ → L2.length < n → f_X4_allowsTree_3 n M c (nI u) tk (nI L1.length) = some (b2i (L2.all (fun r => !inT u (pC M r) || alw k c (pC M r) tk)), M) := by
  intro L2
  induction L2 with
  | nil =>
    intro L1 n h hn
    obtain ⟨n, rfl⟩ : ∃ j, n = j + 1 := ⟨n - 1, by omega⟩
    show f_X4_allowsTree_3B (f_X4_allowsTree_3 n) M c (nI u) tk (nI L1.length) = _
    unfold f_X4_allowsTree_3B
    rw [h.1.1, List.append_nil]
    have := IC_len h.1
    rw [List.append_nil] at this
    simp only [le' (show L1.length < 2147483648 by omega) (show L1.length < 2147483648 by omega)]
    rw [if_pos (Nat.le_refl _)]
    rfl
  | cons r L2 ih =>
    intro L1 n h hn
    obtain ⟨n, rfl⟩ : ∃ j, n = j + 1 := ⟨n - 1, by simp at hn; omega⟩
    obtain ⟨h1, h2, h3, h4, h5, h6, h7, h8, h9⟩ := TC_at h
    have e1 := ih (L1 ++ [r]) n (by simpa using h) (by simp at hn; omega)
    show f_X4_allowsTree_3B (f_X4_allowsTree_3 n) M c (nI u) tk (nI L1.length) = _
    unfold f_X4_allowsTree_3B f_X4_allowsTree_51
    rw [h7]
    simp only [le' (show (L1 ++ r :: L2).length < 2147483648 by omega) (show L1.length < 2147483648 by omega)]
    rw [if_neg (by omega), pathAtC h, bd2_s, isInC M (by omega) (by omega), bd2_s, allowsC hk c h6 tk, bd2_s, step1 L1 r, e1, List.all_cons]
    simp only [b2i_0]
    cases inT u (pC M r) <;> cases alw k c (pC M r) tk <;> simp [b2i]
theorem allowsTreeC {M : Mem} {L sp : List Nat} {τ : Tr} {k : Lk} (h : TC M L sp τ) (hk : LC M k) {c tk : Int32} {u : Nat} (hu : u ≤ 9999) : f_X4_allowsTree M c (nI u) tk = some (b2i (alT k τ c u tk), M) := by
  unfold f_X4_allowsTree f_X4_allowsTree_0 alT
  have := IC_len h.1
  have e := allowsTreeC_3 (c := c) (tk := tk) hu hk L [] 64 h (by omega)
  rw [← all_map (pC M) (fun p => !inT u p || alw k c p tk), perm_all (eqv_perm h.2.2.1)] at e
  exact e
def fitT (τ : Tr) (f t : Nat) : Bool := (ta τ).all (fun x => !inT f x || decide (mvp f t x ≤ 9999))
theorem fitsC_2 {M : Mem} {sp : List Nat} {τ : Tr} {f t : Nat} (hf : 0 < f) (hf9 : f ≤ 9999) (ht9 : t ≤ 9999) : ∀ (L2 L1 : List Nat) (n : Nat), TC M (L1 ++ L2) sp τ → L2.length < n → f_X3_fits_2 n M (nI f) (nI t) (nI L1.length) = some (b2i (L2.all (fun r => !inT f (pC M r) || decide (mvp f t (pC M r) ≤ 9999))), M) := by
  intro L2
  induction L2 with
  | nil =>
    intro L1 n h hn
    obtain ⟨n, rfl⟩ : ∃ j, n = j + 1 := ⟨n - 1, by omega⟩
    show f_X3_fits_2B (f_X3_fits_2 n) M (nI f) (nI t) (nI L1.length) = _
    unfold f_X3_fits_2B
    rw [h.1.1, List.append_nil]
    have := IC_len h.1
    rw [List.append_nil] at this
    simp only [le' (show L1.length < 2147483648 by omega) (show L1.length < 2147483648 by omega)]
    rw [if_pos (Nat.le_refl _)]
    rfl
  | cons r L2 ih =>
    intro L1 n h hn
    obtain ⟨n, rfl⟩ : ∃ j, n = j + 1 := ⟨n - 1, by simp at hn; omega⟩
    obtain ⟨h1, h2, h3, h4, h5, h6, h7, h8, h9⟩ := TC_at h
    have e1 := ih (L1 ++ [r]) n (by simpa using h) (by simp at hn; omega)
    show f_X3_fits_2B (f_X3_fits_2 n) M (nI f) (nI t) (nI L1.length) = _
    unfold f_X3_fits_2B f_X3_fits_57
    rw [h7]
    simp only [le' (show (L1 ++ r :: L2).length < 2147483648 by omega) (show L1.length < 2147483648 by omega), g60 h3, gi h3 (show 60 < 2147483648 by decide)]
    rw [if_neg (by omega), cl' (by omega), h1, if_neg (by omega), h4, isInC M (by omega) (by omega), bd2_s, step1 L1 r, e1, List.all_cons, h1, if_neg (show ¬ 60 ≤ r by omega), h4]
    simp only [b2i_0]
    cases q : inT f (pC M r)
    · simp
    · have hlt := mvp_lt (t := t) hf ht9 h6 q
      rw [movedC M hf h6 q, bd2_s, show (9999 : Int32) = nI 9999 from rfl]
      simp only [le' (show mvp f t (pC M r) < 2147483648 by omega) (show 9999 < 2147483648 by decide)]
      by_cases z : mvp f t (pC M r) ≤ 9999
      · rw [if_neg (by decide), if_pos z, e1, show decide (mvp f t (pC M r) ≤ 9999) = true by simpa using z]; rfl
      · rw [if_neg (show ¬ true = false by decide), if_neg z, show decide (mvp f t (pC M r) ≤ 9999) = false by simpa using z]; rfl
theorem fitsC {M : Mem} {L sp : List Nat} {τ : Tr} (h : TC M L sp τ) {f t : Nat} (hf : 0 < f) (hf9 : f ≤ 9999) (ht9 : t ≤ 9999) : f_X3_fits M (nI f) (nI t) = some (b2i (fitT τ f t), M) := by
  unfold f_X3_fits f_X3_fits_0 fitT
  have := IC_len h.1
  have e := fitsC_2 hf hf9 ht9 L [] 64 h (by omega)
  rw [← all_map (pC M) (fun x => !inT f x || decide (mvp f t x ≤ 9999)), perm_all (eqv_perm h.2.2.1)] at e
  exact e
def pvT (c f t tk : Int32) : Bool := okR c f tk && (okN t && (!inT f.toNatClampNeg t.toNatClampNeg && !inT t.toNatClampNeg f.toNatClampNeg))
theorem reqTransC (M : Mem) (c f t tk : Int32) : f_X4_requireTransfer M c f t tk = un (pvT c f t tk) M := by
  unfold f_X4_requireTransfer f_X4_requireTransfer_0 pvT okR
  rw [reqClientC]
  simp only [reqNameC, reqNNC]
  cases h1 : okC c
  · rfl
  · cases h2 : okN f
    · rfl
    · cases h3 : okN t
      · simp [un_t, un_f, bdx_s, bdx_l]
      · cases h4 : decide ((0 : Int32) ≤ tk)
        · rfl
        · obtain ⟨p, p0, p9, rfl⟩ := okN_of h2
          obtain ⟨q, q0, q9, rfl⟩ := okN_of h3
          simp only [un_t, bdx_s, cl' (show p < 2147483648 by omega), cl' (show q < 2147483648 by omega), isInC M (show p < 2147483648 by omega) (show q < 2147483648 by omega), isInC M (show q < 2147483648 by omega) (show p < 2147483648 by omega), bd2_s, b2i_0]
          cases inT p q <;> cases inT q p <;> rfl
def oTr (k : Lk) (τ : Tr) (c : Int32) (f t : Nat) (ow : Bool) (tks : Int32) : Int32 :=
  if f ∈ ta τ then (if tk τ (t / 10) = 2 then (if fitT τ f t = true then (if ow = false ∧ t ∈ ta τ then 2 else if (al2 k c t tks && alT k τ c t tks) = true then 0 else 4) else 1) else 1) else 1
theorem outTC {M : Mem} {L sp : List Nat} {τ : Tr} {k : Lk} (h : TC M L sp τ) (hk : LC M k) {c tks : Int32} {f t : Nat} (hf : 0 < f) (hf9 : f ≤ 9999) (ht9 : t ≤ 9999) (ow : Bool) : f_X4_outcomeOfTarget M c (nI f) (nI t) (b2i ow) tks = some (oTr k τ c f t ow tks, M) := by
  unfold f_X4_outcomeOfTarget f_X4_outcomeOfTarget_0 oTr
  have e57 : f_X4_outcomeOfTarget_57 M c (nI t) tks = some (if (al2 k c t tks && alT k τ c t tks) = true then 0 else 4, M) := by
    unfold f_X4_outcomeOfTarget_57
    rw [allows2C hk c ht9 tks, bd2_s, allowsTreeC h hk ht9, bd2_s]
    cases al2 k c t tks <;> cases alT k τ c t tks <;> rfl
  by_cases q1 : f ∈ ta τ
  · obtain ⟨L1, L2, r, -, -, e2, -, e3⟩ := find_yes h q1
    rw [if_pos q1, e3, bd2_s, oe_1, if_neg (by omega), parentC M ht9, bd2_s, isCollC h (show t / 10 ≤ 9999 by omega), bd2_s, fitsC h hf hf9 ht9, bd2_s, e57]
    simp only [b2i_0]
    by_cases q2 : tk τ (t / 10) = 2
    · rw [if_neg (by simpa using q2), if_pos q2]
      cases q3 : fitT τ f t
      · rfl
      · rw [if_neg (by decide), if_pos rfl]
        cases ow
        · rw [if_pos rfl]
          by_cases q4 : t ∈ ta τ
          · obtain ⟨L1, L2, r, -, -, e2, -, e4⟩ := find_yes h q4
            rw [e4, bd2_s, oe_1, if_neg (by omega), if_pos ⟨rfl, q4⟩]
          · rw [(find_no h ht9 q4).2, bd2_s, oe_0, e57, if_neg (show ¬ (false = false ∧ t ∈ ta τ) from fun z => q4 z.2)]
        · rw [if_neg (by decide), if_neg (show ¬ (true = false ∧ t ∈ ta τ) from fun z => absurd z.1 (by decide))]
    · rw [if_pos (by simpa using q2), if_neg q2]
  · rw [(find_no h hf9 q1).2, bd2_s, oe_0, if_neg q1]
/-! what the reference asks -/
def mkF (f : Nat) (M : Mem) (j : Nat) : Bool := us M j && inT f (pM M j)
theorem mkF_sm {f : Nat} {M M' : Mem} {P : Nat → Prop} (h : same M M' P) (hp : ¬ P 21) (hp2 : ¬ P 20) : mkF f M' = mkF f M := by
  funext j; unfold mkF; rw [pM_sm h hp, us_sm h hp2]
def fiF (f t : Nat) (M : Mem) (j : Nat) : Bool := !mkF f M j || decide (mvp f t (pM M j) ≤ 9999)
theorem fiF_sm {f t : Nat} {M M' : Mem} {P : Nat → Prop} (h : same M M' P) (hp : ¬ P 21) (hp2 : ¬ P 20) : fiF f t M' = fiF f t M := by
  funext j; unfold fiF; rw [mkF_sm h hp hp2, pM_sm h hp]

/-! ===== what copy and move ask: the class ===== -/
theorem treeSizeC_4 {M : Mem} {sp : List Nat} {τ : Tr} {u : Nat} (hu : u ≤ 9999) : ∀ (L2 L1 : List Nat) (n a : Nat), TC M (L1 ++ L2) sp τ → L2.length < n → f_X3_treeSize_4 n M (nI u) (nI a) (nI L1.length) = some (nI (a + L2.countP (fun r => inT u (pC M r))), M) := by
  intro L2
  induction L2 with
  | nil =>
    intro L1 n a h hn
    obtain ⟨n, rfl⟩ : ∃ j, n = j + 1 := ⟨n - 1, by omega⟩
    show f_X3_treeSize_4B (f_X3_treeSize_4 n) M (nI u) (nI a) (nI L1.length) = _
    unfold f_X3_treeSize_4B
    rw [h.1.1, List.append_nil]
    have := IC_len h.1
    rw [List.append_nil] at this
    simp only [le' (show L1.length < 2147483648 by omega) (show L1.length < 2147483648 by omega)]
    rw [if_pos (Nat.le_refl _)]
    rfl
  | cons r L2 ih =>
    intro L1 n a h hn
    obtain ⟨n, rfl⟩ : ∃ j, n = j + 1 := ⟨n - 1, by simp at hn; omega⟩
    obtain ⟨h1, h2, h3, h4, h5, h6, h7, h8, h9⟩ := TC_at h
    have e1 := ih (L1 ++ [r]) n a (by simpa using h) (by simp at hn; omega)
    have e2 := ih (L1 ++ [r]) n (a + 1) (by simpa using h) (by simp at hn; omega)
    show f_X3_treeSize_4B (f_X3_treeSize_4 n) M (nI u) (nI a) (nI L1.length) = _
    unfold f_X3_treeSize_4B f_X3_treeSize_40
    rw [h7]
    simp only [le' (show (L1 ++ r :: L2).length < 2147483648 by omega) (show L1.length < 2147483648 by omega)]
    rw [if_neg (by omega), g60 h3, gi h3 (by decide), cl' (by omega), h1, if_neg (by omega), h4, isInC M (by omega) (by omega), bd2_s, step1 L1 r, nI_1, e1, e2, List.countP_cons]
    simp only [b2i_0]
    cases inT u (pC M r) <;> simp [Nat.add_comm, Nat.add_left_comm, Nat.add_assoc]
theorem treeSizeC {M : Mem} {L sp : List Nat} {τ : Tr} (h : TC M L sp τ) {u : Nat} (hu : u ≤ 9999) : f_X3_treeSize M (nI u) = some (nI ((ta τ).countP (inT u)), M) := by
  unfold f_X3_treeSize f_X3_treeSize_0
  have := IC_len h.1
  have e := treeSizeC_4 hu L [] 64 0 h (by omega)
  rw [Nat.zero_add] at e
  rw [← (eqv_perm h.2.2.1).countP_eq, List.countP_map]
  exact e
theorem allowsTreeC_3 {M : Mem} {sp : List Nat} {τ : Tr} {k : Lk} {c tk : Int32} {u : Nat} (hu : u ≤ 9999) (hk : LC M k) : ∀ (L2 L1 : List Nat) (n : Nat), TC M (L1 ++ L2) sp τ → L2.length < n → f_X4_allowsTree_3 n M c (nI u) tk (nI L1.length) = some (b2i (L2.all (fun r => !inT u (pC M r) || alw k c (pC M r) tk)), M) := by
  intro L2
  induction L2 with
  | nil =>
    intro L1 n h hn
    obtain ⟨n, rfl⟩ : ∃ j, n = j + 1 := ⟨n - 1, by omega⟩
    show f_X4_allowsTree_3B (f_X4_allowsTree_3 n) M c (nI u) tk (nI L1.length) = _
    unfold f_X4_allowsTree_3B
    rw [h.1.1, List.append_nil]
    have := IC_len h.1
    rw [List.append_nil] at this
    simp only [le' (show L1.length < 2147483648 by omega) (show L1.length < 2147483648 by omega)]
    rw [if_pos (Nat.le_refl _)]
    rfl
  | cons r L2 ih =>
    intro L1 n h hn
    obtain ⟨n, rfl⟩ : ∃ j, n = j + 1 := ⟨n - 1, by simp at hn; omega⟩
    obtain ⟨h1, h2, h3, h4, h5, h6, h7, h8, h9⟩ := TC_at h
    have e1 := ih (L1 ++ [r]) n (by simpa using h) (by simp at hn; omega)
    show f_X4_allowsTree_3B (f_X4_allowsTree_3 n) M c (nI u) tk (nI L1.length) = _
    unfold f_X4_allowsTree_3B f_X4_allowsTree_51
    rw [h7]
    simp only [le' (show (L1 ++ r :: L2).length < 2147483648 by omega) (show L1.length < 2147483648 by omega)]
    rw [if_neg (by omega), pathAtC h, bd2_s, isInC M (by omega) (by omega), bd2_s, allowsC hk c h6 tk, bd2_s, step1 L1 r, e1, List.all_cons]
    simp only [b2i_0]
    cases inT u (pC M r) <;> cases alw k c (pC M r) tk <;> simp [b2i]
theorem allowsTreeC {M : Mem} {L sp : List Nat} {τ : Tr} {k : Lk} (h : TC M L sp τ) (hk : LC M k) {c tk : Int32} {u : Nat} (hu : u ≤ 9999) : f_X4_allowsTree M c (nI u) tk = some (b2i (alT k τ c u tk), M) := by
  unfold f_X4_allowsTree f_X4_allowsTree_0 alT
  have := IC_len h.1
  have e := allowsTreeC_3 (c := c) (tk := tk) hu hk L [] 64 h (by omega)
  rw [← all_map (pC M) (fun p => !inT u p || alw k c p tk), perm_all (eqv_perm h.2.2.1)] at e
  exact e
def fitT (τ : Tr) (f t : Nat) : Bool := (ta τ).all (fun x => !inT f x || decide (mvp f t x ≤ 9999))
theorem fitsC_2 {M : Mem} {sp : List Nat} {τ : Tr} {f t : Nat} (hf : 0 < f) (hf9 : f ≤ 9999) (ht9 : t ≤ 9999) : ∀ (L2 L1 : List Nat) (n : Nat), TC M (L1 ++ L2) sp τ → L2.length < n → f_X3_fits_2 n M (nI f) (nI t) (nI L1.length) = some (b2i (L2.all (fun r => !inT f (pC M r) || decide (mvp f t (pC M r) ≤ 9999))), M) := by
  intro L2
  induction L2 with
  | nil =>
    intro L1 n h hn
    obtain ⟨n, rfl⟩ : ∃ j, n = j + 1 := ⟨n - 1, by omega⟩
    show f_X3_fits_2B (f_X3_fits_2 n) M (nI f) (nI t) (nI L1.length) = _
    unfold f_X3_fits_2B
    rw [h.1.1, List.append_nil]
    have := IC_len h.1
    rw [List.append_nil] at this
    simp only [le' (show L1.length < 2147483648 by omega) (show L1.length < 2147483648 by omega)]
    rw [if_pos (Nat.le_refl _)]
    rfl
  | cons r L2 ih =>
    intro L1 n h hn
    obtain ⟨n, rfl⟩ : ∃ j, n = j + 1 := ⟨n - 1, by simp at hn; omega⟩
    obtain ⟨h1, h2, h3, h4, h5, h6, h7, h8, h9⟩ := TC_at h
    have e1 := ih (L1 ++ [r]) n (by simpa using h) (by simp at hn; omega)
    show f_X3_fits_2B (f_X3_fits_2 n) M (nI f) (nI t) (nI L1.length) = _
    unfold f_X3_fits_2B f_X3_fits_57
    rw [h7]
    simp only [le' (show (L1 ++ r :: L2).length < 2147483648 by omega) (show L1.length < 2147483648 by omega), g60 h3, gi h3 (show 60 < 2147483648 by decide)]
    rw [if_neg (by omega), cl' (by omega), h1, if_neg (by omega), h4, isInC M (by omega) (by omega), bd2_s, step1 L1 r, e1, List.all_cons, h1, if_neg (show ¬ 60 ≤ r by omega), h4]
    simp only [b2i_0]
    cases q : inT f (pC M r)
    · simp
    · have hlt := mvp_lt (t := t) hf ht9 h6 q
      rw [movedC M hf h6 q, bd2_s, show (9999 : Int32) = nI 9999 from rfl]
      simp only [le' (show mvp f t (pC M r) < 2147483648 by omega) (show 9999 < 2147483648 by decide)]
      by_cases z : mvp f t (pC M r) ≤ 9999
      · rw [if_neg (by decide), if_pos z, e1, show decide (mvp f t (pC M r) ≤ 9999) = true by simpa using z]; rfl
      · rw [if_neg (show ¬ true = false by decide), if_neg z, show decide (mvp f t (pC M r) ≤ 9999) = false by simpa using z]; rfl
theorem fitsC {M : Mem} {L sp : List Nat} {τ : Tr} (h : TC M L sp τ) {f t : Nat} (hf : 0 < f) (hf9 : f ≤ 9999) (ht9 : t ≤ 9999) : f_X3_fits M (nI f) (nI t) = some (b2i (fitT τ f t), M) := by
  unfold f_X3_fits f_X3_fits_0 fitT
  have := IC_len h.1
  have e := fitsC_2 hf hf9 ht9 L [] 64 h (by omega)
  rw [← all_map (pC M) (fun x => !inT f x || decide (mvp f t x ≤ 9999)), perm_all (eqv_perm h.2.2.1)] at e
  exact e
def pvT (c f t tk : Int32) : Bool := okR c f tk && (okN t && (!inT f.toNatClampNeg t.toNatClampNeg && !inT t.toNatClampNeg f.toNatClampNeg))
theorem reqTransC (M : Mem) (c f t tk : Int32) : f_X4_requireTransfer M c f t tk = un (pvT c f t tk) M := by
  unfold f_X4_requireTransfer f_X4_requireTransfer_0 pvT okR
  rw [reqClientC]
  simp only [reqNameC, reqNNC]
  cases h1 : okC c
  · rfl
  · cases h2 : okN f
    · rfl
    · cases h3 : okN t
      · simp [un_t, un_f, bdx_s, bdx_l]
      · cases h4 : decide ((0 : Int32) ≤ tk)
        · rfl
        · obtain ⟨p, p0, p9, rfl⟩ := okN_of h2
          obtain ⟨q, q0, q9, rfl⟩ := okN_of h3
          simp only [un_t, bdx_s, cl' (show p < 2147483648 by omega), cl' (show q < 2147483648 by omega), isInC M (show p < 2147483648 by omega) (show q < 2147483648 by omega), isInC M (show q < 2147483648 by omega) (show p < 2147483648 by omega), bd2_s, b2i_0]
          cases inT p q <;> cases inT q p <;> rfl
def oTr (k : Lk) (τ : Tr) (c : Int32) (f t : Nat) (ow : Bool) (tks : Int32) : Int32 :=
  if f ∈ ta τ then (if tk τ (t / 10) = 2 then (if fitT τ f t = true then (if ow = false ∧ t ∈ ta τ then 2 else if (al2 k c t tks && alT k τ c t tks) = true then 0 else 4) else 1) else 1) else 1
theorem outTC {M : Mem} {L sp : List Nat} {τ : Tr} {k : Lk} (h : TC M L sp τ) (hk : LC M k) {c tks : Int32} {f t : Nat} (hf : 0 < f) (hf9 : f ≤ 9999) (ht9 : t ≤ 9999) (ow : Bool) : f_X4_outcomeOfTarget M c (nI f) (nI t) (b2i ow) tks = some (oTr k τ c f t ow tks, M) := by
  unfold f_X4_outcomeOfTarget f_X4_outcomeOfTarget_0 oTr
  have e57 : f_X4_outcomeOfTarget_57 M c (nI t) tks = some (if (al2 k c t tks && alT k τ c t tks) = true then 0 else 4, M) := by
    unfold f_X4_outcomeOfTarget_57
    rw [allows2C hk c ht9 tks, bd2_s, allowsTreeC h hk ht9, bd2_s]
    cases al2 k c t tks <;> cases alT k τ c t tks <;> rfl
  by_cases q1 : f ∈ ta τ
  · obtain ⟨L1, L2, r, -, -, e2, -, e3⟩ := find_yes h q1
    rw [if_pos q1, e3, bd2_s, oe_1, if_neg (by omega), parentC M ht9, bd2_s, isCollC h (show t / 10 ≤ 9999 by omega), bd2_s, fitsC h hf hf9 ht9, bd2_s, e57]
    simp only [b2i_0]
    by_cases q2 : tk τ (t / 10) = 2
    · rw [if_neg (by simpa using q2), if_pos q2]
      cases q3 : fitT τ f t
      · rfl
      · rw [if_neg (by decide), if_pos rfl]
        cases ow
        · rw [if_pos rfl]
          by_cases q4 : t ∈ ta τ
          · obtain ⟨L1, L2, r, -, -, e2, -, e4⟩ := find_yes h q4
            rw [e4, bd2_s, oe_1, if_neg (by omega), if_pos ⟨rfl, q4⟩]
          · rw [(find_no h ht9 q4).2, bd2_s, oe_0, e57, if_neg (show ¬ (false = false ∧ t ∈ ta τ) from fun z => q4 z.2)]
        · rw [if_neg (by decide), if_neg (show ¬ (true = false ∧ t ∈ ta τ) from fun z => absurd z.1 (by decide))]
    · rw [if_pos (by simpa using q2), if_neg q2]
  · rw [(find_no h hf9 q1).2, bd2_s, oe_0, if_neg q1]
/-! what the reference asks -/
def mkF (f : Nat) (M : Mem) (j : Nat) : Bool := us M j && inT f (pM M j)
theorem mkF_sm {f : Nat} {M M' : Mem} {P : Nat → Prop} (h : same M M' P) (hp : ¬ P 21) (hp2 : ¬ P 20) : mkF f M' = mkF f M := by
  funext j; unfold mkF; rw [pM_sm h hp, us_sm h hp2]
def fiF (f t : Nat) (M : Mem) (j : Nat) : Bool := !mkF f M j || decide (mvp f t (pM M j) ≤ 9999)
theorem fiF_sm {f t : Nat} {M M' : Mem} {P : Nat → Prop} (h : same M M' P) (hp : ¬ P 21) (hp2 : ¬ P 20) : fiF f t M' = fiF f t M := by
  funext j; unfold fiF; rw [mkF_sm h hp hp2, pM_sm h hp]
def brE (M : Mem) (x1 x2 x3 x4 x5 x6 x8 x9 x10 : Int32) : Option (Int32 × Mem) := bd2 (f_X5_mayMake M x1 x3 x5) (fun r219 M219 => if r219 = 0 then f_X5_brings_240 M219 x1 x2 x3 x4 x5 x6 x8 x9 x10 else bd2 (f_X5_mayAll M219 x1 x3 x5) (fun r230 M230 => if r230 = 0 then f_X5_brings_240 M230 x1 x2 x3 x4 x5 x6 x8 x9 x10 else f_X5_brings_241 M230 x1 x2 x3 x4 x5 x6 x8 x9 x10 (1 : Int32)))
theorem brM_103 {c tks x4 x6 : Int32} {f t : Nat} (hf : 0 < f) (hf9 : f ≤ 9999) (ht : 0 < t) (ht9 : t ≤ 9999) {L : List Nat} {τ : Tr} {B : Nat} : ∀ (r n j : Nat) (M : Mem) (a : Bool) (x y : Nat), MT M L τ B → j + r = 60 → r < n → ∃ M', f_X5_brings_103 n M c (nI f) (nI t) x4 tks x6 (b2i a) (nI x) (nI y) (nI j) = brE M' c (nI f) (nI t) x4 tks x6 (b2i (a && (List.range' j r).all (fiF f t M))) (nI (x + (List.range' j r).countP (mkF f M))) (nI (y + (List.range' j r).countP (mkF t M))) ∧ (∀ i, M' 37 i = if j ≤ i ∧ i < 60 then b2i (mkF f M i) else M 37 i) ∧ same M M' (fun t => t = 37) := by
  intro r
  induction r with
  | zero =>
    intro n j M a x y h hj hr
    obtain ⟨n, rfl⟩ : ∃ j, n = j + 1 := ⟨n - 1, by omega⟩
    have : j = 60 := by omega
    subst this
    refine ⟨M, ?_, fun i => by rw [if_neg (by omega)], same_rf _ _⟩
    show f_X5_brings_103B (f_X5_brings_103 n) M c (nI f) (nI t) x4 tks x6 (b2i a) (nI x) (nI y) (nI 60) = _
    unfold f_X5_brings_103B brE
    rw [if_pos (by decide)]
    simp
  | succ r ih =>
    intro n j M a x y h hj hr
    obtain ⟨n, rfl⟩ : ∃ j, n = j + 1 := ⟨n - 1, by omega⟩
    have hsm := same_mu M (P := fun t => t = 37) j (b2i (mkF f M j)) rfl
    have hfi : fiF f t M j = (!mkF f M j || decide (mvp f t (pM M j) ≤ 9999)) := rfl
    have hmk : mkF f M j = (us M j && inT f (pM M j)) := rfl
    have hmt : mkF t M j = (us M j && inT t (pM M j)) := rfl
    have eup : mkF f (mu M 37 j (b2i (mkF f M j))) = mkF f M := mkF_sm hsm (by decide) (by decide)
    have eut : mkF t (mu M 37 j (b2i (mkF f M j))) = mkF t M := mkF_sm hsm (by decide) (by decide)
    have euf : fiF f t (mu M 37 j (b2i (mkF f M j))) = fiF f t M := fiF_sm hsm (by decide) (by decide)
    have hM1 : MT (mu M 37 j (b2i (mkF f M j))) L τ B := MT_cong h (fun t' _ _ => hsm t' (by omega))
    obtain ⟨M', a1, a2, a3⟩ := ih n (j + 1) (mu M 37 j (b2i (mkF f M j))) (a && fiF f t M j) (x + (if mkF f M j = true then 1 else 0)) (y + (if mkF t M j = true then 1 else 0)) hM1 (by omega) (by omega)
    rw [eup, eut, euf] at a1
    refine ⟨M', ?_, fun i => ?_, same_tr hsm a3⟩
    · rw [List.range'_succ, List.all_cons, List.countP_cons, List.countP_cons, Nat.add_comm _ (if mkF f M j = true then 1 else 0), Nat.add_comm _ (if mkF t M j = true then 1 else 0), ← Nat.add_assoc, ← Nat.add_assoc, ← Bool.and_assoc]
      refine Eq.trans ?_ a1
      have hit : f_X5_isOf (mu M 37 j (b2i (mkF f M j))) (nI j) (nI t) = some (b2i (mkF t M j), mu M 37 j (b2i (mkF f M j))) := by
        rw [isOfM hM1 (by omega) ht9, us_sm hsm (by decide), pM_sm hsm (by decide)]; rfl
      have h37 : mu M 37 j (b2i (mkF f M j)) 37 j = b2i (mkF f M j) := mu_self _ _ _ _
      have h21 : mu M 37 j (b2i (mkF f M j)) 21 = M 21 := mu_ne _ _ _ (by decide)
      show f_X5_brings_103B (f_X5_brings_103 n) M c (nI f) (nI t) x4 tks x6 (b2i a) (nI x) (nI y) (nI j) = _
      unfold f_X5_brings_103B f_X5_brings_160 f_X5_brings_165 f_X5_brings_185 f_X5_brings_205
      rw [if_neg (by rw [show (60 : Int32) = nI 60 from rfl, le' (by decide) (by omega)]; omega), isOfM h (show j < 60 by omega) hf9, bd2_s, ← hmk, b2i_and]
      simp only [gi (show j < 60 by omega) (show 60 < 2147483648 by decide)]
      rw [cl' (show j < 2147483648 by omega)]
      generalize mu M 37 j (b2i (mkF f M j)) = N at hit h37 h21 a1
      rw [h37]
      simp only [digitsM _ (show t < 2147483648 by omega), digitsM _ (show f < 2147483648 by omega), bd2_s, hit, h37, h21, b2i_0, nI_1, plus0]
      have a11 : b2i a &&& 1 = b2i a := b2i_and a
      have a10 : b2i a &&& 0 = b2i false := by have := b2i_an a false; rw [Bool.and_false] at this; exact this
      cases q1 : mkF f M j
      · rw [q1] at hfi
        rw [hfi]
        cases q2 : mkF t M j <;> simp [a11]
      · rw [q1] at hmk hfi
        have hus : us M j = true ∧ inT f (pM M j) = true := by
          have := hmk.symm; simpa using this
        obtain ⟨g1, g2, g3⟩ := h.2.1 j ((MT_in h).mpr ⟨by omega, hus.1⟩)
        have hdl := (powerM M hf g3 hus.2).2
        have hd1 := dg_le t
        have hd2 := dg_le (pM M j)
        have hfit := fit_iff hf ht ht9 g3 hus.2
        rw [g1, digitsM _ (by omega), bd2_s, nI_add, pk_sub (by omega), show (5 : Int32) = nI 5 from rfl]
        simp only [le' (show 5 < 2147483648 by decide) (show dg t + dg (pM M j) - dg f < 2147483648 by omega), hfit]
        rw [q1] at h37
        by_cases q3 : mvp f t (pM M j) ≤ 9999
        · rw [hfi]
          cases q2 : mkF t M j <;> rw [q2] at hit <;> simp [q3, a11, hit, h37, bd2_s, b2i_0]
        · rw [hfi]
          cases q2 : mkF t M j <;> rw [q2] at hit <;> simp [q3, a10, hit, h37, bd2_s, b2i_0]
    · rw [a2, eup, mu_x]
      by_cases z : i = j
      · rw [if_neg (by omega), if_pos z, if_pos ⟨by omega, by omega⟩, z]
      · by_cases z2 : j + 1 ≤ i ∧ i < 60
        · rw [if_pos z2, if_pos ⟨by omega, z2.2⟩]
        · rw [if_neg z2, if_neg z, if_neg (by omega)]

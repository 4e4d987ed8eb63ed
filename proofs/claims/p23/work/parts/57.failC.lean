/-! ===== the class's failures ===== -/
def R1 (M : Mem) (l : List Nat) : Prop := ∀ j x, l[j]? = some x → M 1 j = nI x
def H1 (M : Mem) (l : List Nat) (i : Nat) : Prop := ∀ j x, l[j]? = some x → j ≠ i → M 1 j = nI x
theorem H1_fill {M : Mem} {P T : List Nat} {h : Nat} (g : H1 M (P ++ h :: T) P.length) (r : Nat) : R1 (mu M 1 P.length (nI r)) (P ++ r :: T) := by
  intro j x hj
  rw [mu_x]
  by_cases z : j = P.length
  · rw [if_pos z]
    subst z
    rw [get_mid] at hj
    simp at hj
    rw [hj]
  · rw [if_neg z]
    exact g j x (by rw [get_ne (y := r) z]; exact hj) z
theorem insC_18 {p : Nat} (hp : p ≤ 9999) : ∀ (m : Nat) (B A T : List Nat) (h n : Nat) (M : Mem), B.length = m → H1 M (A ++ B ++ h :: T) (A ++ B).length → (∀ y ∈ B, p < y ∧ y ≤ 9999) → (∀ y ∈ A, y < p) → A.length + B.length < 60 → B.length < n → ∃ M', f_X4_insertFailure_18 n M (nI p) (nI (A ++ B).length) = some M' ∧ R1 M' (A ++ p :: (B ++ T)) ∧ M' 0 0 = M 0 0 + 1 ∧ same M M' (fun t => t = 0 ∨ t = 1) := by
  intro m
  induction m with
  | zero =>
    intro B A T h n M hm g hB hA hl hn
    obtain ⟨n, rfl⟩ : ∃ j, n = j + 1 := ⟨n - 1, by omega⟩
    have : B = [] := List.eq_nil_of_length_eq_zero hm
    subst this
    rw [List.append_nil] at g ⊢
    simp only [List.length_nil, Nat.add_zero] at hl
    refine ⟨mu (mu M 1 A.length (nI p)) 0 0 (M 0 0 + 1), ?_, fun j x hj => ?_, mu_self _ _ _ _, same_mu2 (same_mu _ _ _ (Or.inr rfl)) _ _ (Or.inl rfl)⟩
    · show f_X4_insertFailure_18B (f_X4_insertFailure_18 n) M (nI p) (nI A.length) = _
      have e54 : f_X4_insertFailure_54 M (nI p) (nI A.length) = some (mu (mu M 1 A.length (nI p)) 0 0 (M 0 0 + 1)) := by
        unfold f_X4_insertFailure_54
        rw [gi hl (by decide), cl' (by omega), mu_at _ _ _ (show 0 ≠ 1 by decide)]
      unfold f_X4_insertFailure_18B
      rcases List.eq_nil_or_concat A with z | ⟨A', y, z⟩
      · subst z
        rw [if_pos (by decide)]
        exact e54
      · rw [List.concat_eq_append] at z
        subst z
        have el : (A' ++ [y]).length = A'.length + 1 := by simp
        have hy : y < p := hA y (by simp)
        have e1 : M 1 A'.length = nI y := g A'.length y (by simp) (by simp)
        rw [el] at hl e54 ⊢
        rw [if_neg (by rw [le0 (by omega)]; omega), nI_pred, gi (show A'.length < 60 by omega) (by decide), cl' (show A'.length < 2147483648 by omega), e1, if_pos (by rw [le' (by omega) (by omega)]; omega)]
        exact e54
    · rw [mu_at _ _ _ (by decide)]
      exact H1_fill g p j x (by simpa using hj)
  | succ m ih =>
    intro B A T h n M hm g hB hA hl hn
    obtain ⟨n, rfl⟩ : ∃ j, n = j + 1 := ⟨n - 1, by omega⟩
    rcases List.eq_nil_or_concat B with z | ⟨B', y, z⟩
    · subst z; simp at hm
    · rw [List.concat_eq_append] at z
      subst z
      simp only [List.length_append, List.length_cons, List.length_nil] at hm hl hn
      obtain ⟨hy, hy2⟩ := hB y (by simp)
      have e1 : M 1 (A ++ B').length = nI y := g (A ++ B').length y (by simp) (by simp)
      have g' : H1 (mu M 1 (A ++ B' ++ [y]).length (nI y)) (A ++ B' ++ y :: (y :: T)) (A ++ B').length := by
        intro j x hj hne
        rw [mu_x]
        have hj' : ((A ++ B' ++ [y]) ++ y :: T)[j]? = some x := by simpa using hj
        by_cases z : j = (A ++ B' ++ [y]).length
        · rw [if_pos z]
          rw [z, get_mid] at hj'
          simp at hj'
          rw [hj']
        · rw [if_neg z]
          refine g j x ?_ (by simpa using z)
          have := get_ne (P := A ++ B' ++ [y]) (T := T) (x := y) (y := h) z
          rw [this] at hj'
          simpa using hj'
      obtain ⟨M', a1, a2, a3, a4⟩ := ih B' A (y :: T) y n _ (by omega) g' (fun x hx' => hB x (by simp [hx'])) hA (by omega) (by omega)
      refine ⟨M', ?_, by simpa using a2, by rw [a3, mu_at _ _ _ (by decide)], same_tr (same_mu _ _ _ (Or.inr rfl)) a4⟩
      show f_X4_insertFailure_18B (f_X4_insertFailure_18 n) M (nI p) (nI (A ++ (B' ++ [y])).length) = _
      unfold f_X4_insertFailure_18B
      have el : (A ++ (B' ++ [y])).length = (A ++ B').length + 1 := by simp; omega
      have el2 : (A ++ B' ++ [y]).length = (A ++ B').length + 1 := by simp; omega
      have el3 : (A ++ B').length = A.length + B'.length := by simp
      rw [el2] at a1
      rw [el]
      have em1 : nI ((A ++ B').length + 1) + (-1) = nI (A ++ B').length := by
        rw [← Int32.sub_eq_add_neg, nI_pred]
      rw [nI_pred, em1, if_neg (by rw [le0 (by omega)]; omega)]
      simp only [gi (show (A ++ B').length < 60 by omega) (show 60 < 2147483648 by decide), gi (show (A ++ B').length + 1 < 60 by omega) (show 60 < 2147483648 by decide)]
      rw [cl' (by omega), cl' (by omega), e1, if_neg (by rw [le' (by omega) (by omega)]; omega)]
      exact a1
theorem sort_split {p : Nat} : ∀ (F : List Nat), F.Pairwise (fun a c => a < c) → p ∉ F → ∃ A B, F = A ++ B ∧ (∀ y ∈ A, y < p) ∧ (∀ y ∈ B, p < y)
  | [], _, _ => ⟨[], [], rfl, fun y hy => by simp at hy, fun y hy => by simp at hy⟩
  | x :: F, hs, hn => by
    rw [List.pairwise_cons] at hs
    simp only [List.mem_cons, not_or] at hn
    rcases Nat.lt_or_ge x p with z | z
    · obtain ⟨A, B, h1, h2, h3⟩ := sort_split F hs.2 hn.2
      refine ⟨x :: A, B, by rw [h1]; rfl, fun y hy => ?_, h3⟩
      rcases List.mem_cons.mp hy with w | w
      · rw [w]; exact z
      · exact h2 y w
    · refine ⟨[], x :: F, rfl, fun y hy => by simp at hy, fun y hy => ?_⟩
      rcases List.mem_cons.mp hy with w | w
      · rw [w]; omega
      · have := hs.1 y w; omega
def FS (M : Mem) (F : List Nat) : Prop := M 0 0 = nI F.length ∧ R1 M F ∧ F.Pairwise (fun a c => a < c) ∧ ∀ p ∈ F, p ≤ 9999
theorem insC {M : Mem} {F : List Nat} (h : FS M F) {p : Nat} (hp : p ≤ 9999) (hn : p ∉ F) (hl : F.length < 60) : ∃ M' F', f_X4_insertFailure M (nI p) = some M' ∧ FS M' F' ∧ F'.Perm (p :: F) ∧ same M M' (fun t => t = 0 ∨ t = 1) := by
  obtain ⟨h0, h1, h2, h3⟩ := h
  obtain ⟨A, B, rfl, hA, hB⟩ := sort_split F h2 hn
  rw [List.length_append] at hl
  obtain ⟨M', a1, a2, a3, a4⟩ := insC_18 hp B.length B A [] 0 64 M rfl (fun j x hj hne => by
    refine h1 j x ?_
    rcases Nat.lt_or_ge j (A ++ B).length with z | z
    · rw [List.getElem?_append_left z] at hj; exact hj
    · have : ((A ++ B) ++ [0])[j]? = none := List.getElem?_eq_none (by rw [List.length_append, List.length_singleton]; omega)
      rw [this] at hj; exact absurd hj (by simp)) (fun y hy => ⟨hB y hy, h3 y (by simp [hy])⟩) hA (by omega) (by omega)
  refine ⟨M', A ++ p :: B, ?_, ⟨?_, by simpa using a2, ?_, fun x hx => ?_⟩, List.perm_middle, a4⟩
  · unfold f_X4_insertFailure f_X4_insertFailure_0
    rw [h0, if_pos (by rw [show (60 : Int32) = nI 60 from rfl, lt' (by rw [List.length_append]; omega) (by decide), List.length_append]; exact hl)]
    exact a1
  · rw [a3, h0, nI_1]; simp only [List.length_append, List.length_cons]; rfl
  · rw [List.pairwise_append] at h2 ⊢
    refine ⟨h2.1, ?_, fun a ha c hc => ?_⟩
    · rw [List.pairwise_cons]; exact ⟨hB, h2.2.1⟩
    · rcases List.mem_cons.mp hc with w | w
      · rw [w]; exact hA a ha
      · exact h2.2.2 a ha c w
  · rcases List.mem_append.mp hx with w | w
    · exact h3 x (by simp [w])
    · rcases List.mem_cons.mp w with w | w
      · rw [w]; exact hp
      · exact h3 x (by simp [w])
theorem FS_cong {M M' : Mem} {F : List Nat} (h : FS M F) (g0 : M' 0 = M 0) (g1 : M' 1 = M 1) : FS M' F := by
  unfold FS R1
  rw [g0, g1]
  exact h
def badP (k : Lk) (c tk : Int32) (u p : Nat) : Bool := abv u p && !alw k c p tk
theorem noteC_3 {k : Lk} {c tk : Int32} {u : Nat} (hu : u ≤ 9999) {sp : List Nat} {τ : Tr} : ∀ (L2 L1 : List Nat) (n : Nat) (M : Mem) (F : List Nat), TC M (L1 ++ L2) sp τ → LC M k → FS M F → (∀ f ∈ F, ∀ r ∈ L2, f ≠ pC M r) → F.length + L2.length ≤ 60 → L2.length < n → ∃ M' F', f_X4_noteFailures_3 n M c (nI u) tk (nI L1.length) = some M' ∧ FS M' F' ∧ F'.Perm (F ++ (L2.map (pC M)).filter (badP k c tk u)) ∧ same M M' (fun t => t = 0 ∨ t = 1) := by
  intro L2
  induction L2 with
  | nil =>
    intro L1 n M F h hk hF hd hl hn
    obtain ⟨n, rfl⟩ : ∃ j, n = j + 1 := ⟨n - 1, by omega⟩
    refine ⟨M, F, ?_, hF, by simp, same_rf _ _⟩
    show f_X4_noteFailures_3B (f_X4_noteFailures_3 n) M c (nI u) tk (nI L1.length) = _
    unfold f_X4_noteFailures_3B
    rw [h.1.1, List.append_nil]
    have := IC_len h.1
    rw [List.append_nil] at this
    simp only [le' (show L1.length < 2147483648 by omega) (show L1.length < 2147483648 by omega)]
    rw [if_pos (Nat.le_refl _)]
  | cons r L2 ih =>
    intro L1 n M F h hk hF hd hl hn
    obtain ⟨n, rfl⟩ : ∃ j, n = j + 1 := ⟨n - 1, by omega⟩
    obtain ⟨h1, h2, h3, h4, h5, h6, h7, h8, h9⟩ := TC_at h
    simp only [List.length_cons] at hl hn
    have hnd := TC_nd h
    rw [List.map_append, List.map_cons, List.nodup_append, List.nodup_cons] at hnd
    have hun : f_X4_noteFailures_3 (n + 1) M c (nI u) tk (nI L1.length) = if badP k c tk u (pC M r) = true then bd1 (f_X4_insertFailure M (nI (pC M r))) (fun M56 => f_X4_noteFailures_3 n M56 c (nI u) tk (nI (L1 ++ [r]).length)) else f_X4_noteFailures_3 n M c (nI u) tk (nI (L1 ++ [r]).length) := by
      show f_X4_noteFailures_3B (f_X4_noteFailures_3 n) M c (nI u) tk (nI L1.length) = _
      unfold f_X4_noteFailures_3B f_X4_noteFailures_55 badP
      rw [h7]
      simp only [le' (show (L1 ++ r :: L2).length < 2147483648 by omega) (show L1.length < 2147483648 by omega)]
      rw [if_neg (by omega), pathAtC h, bd2_s, isAboveC M (by omega) (by omega), bd2_s, allowsC hk c h6 tk, bd2_s, step1 L1 r]
      simp only [b2i_0]
      cases abv u (pC M r) <;> cases alw k c (pC M r) tk <;> rfl
    cases hb : badP k c tk u (pC M r)
    · obtain ⟨M', F', a1, a2, a3, a4⟩ := ih (L1 ++ [r]) n M F (by simpa using h) hk hF (fun f hf x hx => hd f hf x (by simp [hx])) (by omega) (by omega)
      refine ⟨M', F', ?_, a2, ?_, a4⟩
      · rw [hun, hb, if_neg (by decide)]; exact a1
      · rw [List.map_cons, List.filter_cons_of_neg (by simp [hb])]; exact a3
    · obtain ⟨M1, F1, b1, b2, b3, b4⟩ := insC hF h6 (fun z => hd _ z r (by simp) rfl) (by omega)
      have ep : pC M1 = pC M := by funext x; unfold pC; rw [b4 4 (by decide)]
      have hl1 := b3.length_eq
      rw [List.length_cons] at hl1
      obtain ⟨M', F', a1, a2, a3, a4⟩ := ih (L1 ++ [r]) n M1 F1 (TC_cong (by simpa using h) (fun t ht => b4 t (by omega))) (LC_cong hk (fun t _ _ => b4 t (by omega))) b2 (fun f hf x hx => by
        rw [ep]
        rcases List.mem_cons.mp (b3.mem_iff.mp hf) with w | w
        · rw [w]; intro z; exact hnd.2.1.1 (List.mem_map.mpr ⟨x, hx, z.symm⟩)
        · exact hd f w x (by simp [hx])) (by omega) (by omega)
      refine ⟨M', F', ?_, a2, ?_, same_tr b4 a4⟩
      · rw [hun, hb, if_pos rfl, b1, bd1_s]; exact a1
      · rw [List.map_cons, List.filter_cons_of_pos hb]
        rw [ep] at a3
        refine a3.trans ((b3.append_right _).trans ?_)
        exact List.perm_middle.symm
theorem noteC {M : Mem} {L sp : List Nat} {τ : Tr} {k : Lk} (h : TC M L sp τ) (hk : LC M k) (h0 : M 0 0 = 0) {c tk : Int32} {u : Nat} (hu : u ≤ 9999) : ∃ M' F, f_X4_noteFailures M c (nI u) tk = some M' ∧ FS M' F ∧ F.Perm ((ta τ).filter (badP k c tk u)) ∧ same M M' (fun t => t = 0 ∨ t = 1) := by
  have := IC_len h.1
  obtain ⟨M', F', a1, a2, a3, a4⟩ := noteC_3 (c := c) (tk := tk) hu L [] 64 M [] h hk ⟨h0, fun j x hj => by simp at hj, List.Pairwise.nil, fun p hp => by simp at hp⟩ (fun f hf => by simp at hf) (by simpa using this) (by omega)
  refine ⟨M', F', a1, a2, a3.trans ?_, a4⟩
  rw [List.nil_append]
  exact (eqv_perm h.2.2.1).filter _

/-! ===== the class marks and takes away ===== -/
theorem TC_cong7 {M M' : Mem} {L sp : List Nat} {τ : Tr} (h : TC M L sp τ) (g : ∀ t, (2 ≤ t ∧ t ≤ 8 ∧ t ≠ 7) ∨ 100 ≤ t → M' t = M t) : TC M' L sp τ := by
  obtain ⟨⟨i1, i2, i3, i4, i5⟩, h2, h3, h4, h5⟩ := h
  have ep : pC M' = pC M := by funext r; unfold pC; rw [g 4 (by omega)]
  refine ⟨⟨by rw [g 2 (by omega)]; exact i1, i2, i3, i4, fun j r hj => by rw [g 3 (by omega)]; exact i5 j r hj⟩, fun r hr => by rw [g 4 (by omega), ep]; exact h2 r hr, by rw [ep]; exact h3, h4, fun r hr => ?_⟩
  rw [g 5 (by omega), g 6 (by omega), g 8 (by omega), g (100 + r) (by omega), ep]
  exact h5 r hr
theorem markC_2 {u : Nat} (hu : u ≤ 9999) {sp : List Nat} {τ : Tr} : ∀ (L2 L1 : List Nat) (n : Nat) (M : Mem), TC M (L1 ++ L2) sp τ → L2.length < n → ∃ M', f_X3_markTree_2 n M (nI u) (nI L1.length) = some M' ∧ (∀ r ∈ L2, M' 7 r = b2i (inT u (pC M r))) ∧ (∀ r, r ∉ L2 → M' 7 r = M 7 r) ∧ same M M' (fun t => t = 7) := by
  intro L2
  induction L2 with
  | nil =>
    intro L1 n M h hn
    obtain ⟨n, rfl⟩ : ∃ j, n = j + 1 := ⟨n - 1, by omega⟩
    refine ⟨M, ?_, fun r hr => by simp at hr, fun _ _ => rfl, same_rf _ _⟩
    show f_X3_markTree_2B (f_X3_markTree_2 n) M (nI u) (nI L1.length) = _
    unfold f_X3_markTree_2B
    rw [h.1.1, List.append_nil]
    have := IC_len h.1
    rw [List.append_nil] at this
    simp only [le' (show L1.length < 2147483648 by omega) (show L1.length < 2147483648 by omega)]
    rw [if_pos (Nat.le_refl _)]
  | cons r L2 ih =>
    intro L1 n M h hn
    obtain ⟨n, rfl⟩ : ∃ j, n = j + 1 := ⟨n - 1, by omega⟩
    obtain ⟨h1, h2, h3, h4, h5, h6, h7, h8, h9⟩ := TC_at h
    have hrL : r ∉ L2 := by
      have := h.1.2.2.1
      rw [List.append_assoc, List.nodup_append] at this
      have := this.2.1
      rw [List.cons_append, List.nodup_cons] at this
      exact fun z => this.1 (by simp [z])
    have hT : TC (mu M 7 r (b2i (inT u (pC M r)))) ((L1 ++ [r]) ++ L2) sp τ := TC_cong7 (by simpa using h) (fun t ht => mu_ne _ _ _ (by omega))
    obtain ⟨M', a1, a2, a3, a4⟩ := ih (L1 ++ [r]) n _ hT (by simp at hn; omega)
    have ep : pC (mu M 7 r (b2i (inT u (pC M r)))) = pC M := by funext x; unfold pC; rw [mu_ne _ _ _ (by decide)]
    refine ⟨M', ?_, fun x hx => ?_, fun x hx => ?_, same_tr (same_mu _ _ _ rfl) a4⟩
    · show f_X3_markTree_2B (f_X3_markTree_2 n) M (nI u) (nI L1.length) = _
      unfold f_X3_markTree_2B
      rw [h7]
      simp only [le' (show (L1 ++ r :: L2).length < 2147483648 by omega) (show L1.length < 2147483648 by omega), g60 h3, gi h3 (show 60 < 2147483648 by decide)]
      rw [if_neg (by omega), cl' (by omega), h1, if_neg (by omega), if_neg (by omega), h4, isInC M (by omega) (by omega), bd2_s, if_pos (b2i_and _), step1 L1 r]
      exact a1
    · by_cases z : x = r
      · subst z
        rw [a3 x hrL, mu_self]
      · have hx2 : x ∈ L2 := by
          rcases List.mem_cons.mp hx with w | w
          · exact absurd w z
          · exact w
        rw [a2 x hx2, ep]
    · rw [a3 x (fun z => hx (by simp [z])), mu_x, if_neg (fun z => hx (by simp [z]))]
theorem markC {M : Mem} {L sp : List Nat} {τ : Tr} (h : TC M L sp τ) {u : Nat} (hu : u ≤ 9999) : ∃ M', f_X3_markTree M (nI u) = some M' ∧ (∀ r ∈ L, M' 7 r = b2i (inT u (pC M r))) ∧ same M M' (fun t => t = 7) := by
  have := IC_len h.1
  obtain ⟨M', a1, a2, -, a4⟩ := markC_2 hu L [] 64 M h (by omega)
  exact ⟨M', a1, a2, a4⟩
theorem spareC_2 {v : Nat} (hv : v ≤ 9999) {sp : List Nat} {τ : Tr} : ∀ (L2 L1 : List Nat) (n : Nat) (M : Mem), TC M (L1 ++ L2) sp τ → L2.length < n → ∃ M', f_X3_spareUpFrom_2 n M (nI v) (nI L1.length) = some M' ∧ (∀ r ∈ L2, M' 7 r = if inT (pC M r) v = true then 0 else M 7 r) ∧ (∀ r, r ∉ L2 → M' 7 r = M 7 r) ∧ same M M' (fun t => t = 7) := by
  intro L2
  induction L2 with
  | nil =>
    intro L1 n M h hn
    obtain ⟨n, rfl⟩ : ∃ j, n = j + 1 := ⟨n - 1, by omega⟩
    refine ⟨M, ?_, fun r hr => by simp at hr, fun _ _ => rfl, same_rf _ _⟩
    show f_X3_spareUpFrom_2B (f_X3_spareUpFrom_2 n) M (nI v) (nI L1.length) = _
    unfold f_X3_spareUpFrom_2B
    rw [h.1.1, List.append_nil]
    have := IC_len h.1
    rw [List.append_nil] at this
    simp only [le' (show L1.length < 2147483648 by omega) (show L1.length < 2147483648 by omega)]
    rw [if_pos (Nat.le_refl _)]
  | cons r L2 ih =>
    intro L1 n M h hn
    obtain ⟨n, rfl⟩ : ∃ j, n = j + 1 := ⟨n - 1, by omega⟩
    obtain ⟨h1, h2, h3, h4, h5, h6, h7, h8, h9⟩ := TC_at h
    have hrL : r ∉ L2 := by
      have := h.1.2.2.1
      rw [List.append_assoc, List.nodup_append] at this
      have := this.2.1
      rw [List.cons_append, List.nodup_cons] at this
      exact fun z => this.1 (by simp [z])
    have hu : f_X3_spareUpFrom_2 (n + 1) M (nI v) (nI L1.length) = f_X3_spareUpFrom_2 n (if inT (pC M r) v = true then mu M 7 r 0 else M) (nI v) (nI (L1 ++ [r]).length) := by
      show f_X3_spareUpFrom_2B (f_X3_spareUpFrom_2 n) M (nI v) (nI L1.length) = _
      unfold f_X3_spareUpFrom_2B f_X3_spareUpFrom_45
      rw [h7]
      simp only [le' (show (L1 ++ r :: L2).length < 2147483648 by omega) (show L1.length < 2147483648 by omega), g60 h3, gi h3 (show 60 < 2147483648 by decide)]
      rw [if_neg (by omega), cl' (by omega), h1, if_neg (by omega), h4, isInC M (by omega) (by omega), bd2_s, step1 L1 r, h1, if_neg (show ¬ 60 ≤ r by omega)]
      cases inT (pC M r) v <;> rfl
    have hsm : same M (if inT (pC M r) v = true then mu M 7 r 0 else M) (fun t => t = 7) := by
      split
      · exact same_mu _ _ _ rfl
      · exact same_rf _ _
    have hat : ∀ x, (if inT (pC M r) v = true then mu M 7 r 0 else M) 7 x = if x = r ∧ inT (pC M r) v = true then 0 else M 7 x := fun x => by
      by_cases z : inT (pC M r) v = true
      · rw [if_pos z, mu_x]; simp [z]
      · rw [if_neg z, if_neg (fun w => z w.2)]
    generalize (if inT (pC M r) v = true then mu M 7 r 0 else M) = M1 at hu hsm hat
    have hT : TC M1 ((L1 ++ [r]) ++ L2) sp τ := TC_cong7 (by simpa using h) (fun t ht => hsm t (by omega))
    obtain ⟨M', a1, a2, a3, a4⟩ := ih (L1 ++ [r]) n _ hT (by simp at hn; omega)
    have ep : pC M1 = pC M := by funext x; unfold pC; rw [hsm 4 (by decide)]
    refine ⟨M', by rw [hu]; exact a1, fun x hx => ?_, fun x hx => ?_, same_tr hsm a4⟩
    · by_cases z : x = r
      · subst z
        rw [a3 x hrL, hat]
        simp
      · have hx2 : x ∈ L2 := by
          rcases List.mem_cons.mp hx with w | w
          · exact absurd w z
          · exact w
        rw [a2 x hx2, ep, hat, show (if x = r ∧ inT (pC M r) v = true then (0 : Int32) else M 7 x) = M 7 x from if_neg (fun w => z w.1)]
    · rw [a3 x (fun z => hx (by simp [z])), hat, if_neg (fun z => hx (by simp [z.1]))]
theorem spareC {M : Mem} {L sp : List Nat} {τ : Tr} (h : TC M L sp τ) {v : Nat} (hv : v ≤ 9999) : ∃ M', f_X3_spareUpFrom M (nI v) = some M' ∧ (∀ r ∈ L, M' 7 r = if inT (pC M r) v = true then 0 else M 7 r) ∧ same M M' (fun t => t = 7) := by
  have := IC_len h.1
  obtain ⟨M', a1, a2, -, a4⟩ := spareC_2 hv L [] 64 M h (by omega)
  exact ⟨M', a1, a2, a4⟩
/-- all failures spare what they are and what is above them -/
theorem sparesC_2 {F : List Nat} (hF : F.length ≤ 60) (hF9 : ∀ p ∈ F, p ≤ 9999) {L sp : List Nat} {τ : Tr} : ∀ (F2 F1 : List Nat) (n : Nat) (M : Mem), F = F1 ++ F2 → TC M L sp τ → M 0 0 = nI F.length → (∀ j p, F[j]? = some p → M 1 j = nI p) → F2.length < n → ∃ M', f_X4_spareFailures_2 n M (nI F1.length) = some M' ∧ (∀ r ∈ L, M' 7 r = if F2.any (fun f => inT (pC M r) f) = true then 0 else M 7 r) ∧ same M M' (fun t => t = 7) := by
  intro F2
  induction F2 with
  | nil =>
    intro F1 n M hFF h h0 h1 hn
    obtain ⟨n, rfl⟩ : ∃ j, n = j + 1 := ⟨n - 1, by omega⟩
    rw [List.append_nil] at hFF
    subst hFF
    refine ⟨M, ?_, fun r hr => by simp, same_rf _ _⟩
    show f_X4_spareFailures_2B (f_X4_spareFailures_2 n) M (nI F.length) = _
    unfold f_X4_spareFailures_2B
    rw [h0]
    simp only [le' (show F.length < 2147483648 by omega) (show F.length < 2147483648 by omega)]
    rw [if_pos (Nat.le_refl _)]
  | cons f F2 ih =>
    intro F1 n M hFF h h0 h1 hn
    obtain ⟨n, rfl⟩ : ∃ j, n = j + 1 := ⟨n - 1, by omega⟩
    have hl : F.length = F1.length + (F2.length + 1) := by rw [hFF]; simp
    have e1 : M 1 F1.length = nI f := h1 _ _ (by rw [hFF]; exact get_mid _ _ _)
    have hf9 : f ≤ 9999 := hF9 f (by rw [hFF]; simp)
    obtain ⟨M1, a1, a2, a3⟩ := spareC h hf9
    have hT : TC M1 L sp τ := TC_cong7 h (fun t ht => a3 t (by omega))
    obtain ⟨M', b1, b2, b3⟩ := ih (F1 ++ [f]) n M1 (by rw [hFF]; simp) hT (by rw [a3 0 (by decide)]; exact h0) (fun j p hj => by rw [a3 1 (by decide)]; exact h1 j p hj) (by simp at hn; omega)
    have ep : pC M1 = pC M := by funext x; unfold pC; rw [a3 4 (by decide)]
    refine ⟨M', ?_, fun r hr => ?_, same_tr a3 b3⟩
    · show f_X4_spareFailures_2B (f_X4_spareFailures_2 n) M (nI F1.length) = _
      unfold f_X4_spareFailures_2B
      rw [h0, show (60 : Int32) = nI 60 from rfl]
      simp only [le' (show F.length < 2147483648 by omega) (show F1.length < 2147483648 by omega), le' (show 60 < 2147483648 by decide) (show F1.length < 2147483648 by omega)]
      rw [if_neg (by omega), if_neg (by omega), gi (show F1.length < 60 by omega) (by decide), cl' (by omega), e1, a1, bd1_s, step1 F1 f]
      exact b1
    · rw [b2 r hr, ep, a2 r hr, List.any_cons]
      cases inT (pC M r) f <;> cases F2.any (fun f => inT (pC M r) f) <;> simp
/-! compaction -/
theorem RW_swap {M : Mem} {K D R : List Nat} {d x : Nat} (h : RW M (K ++ d :: (D ++ x :: R))) : RW (mu (mu M 3 (K.length + (D.length + 1)) (nI d)) 3 K.length (nI x)) (K ++ x :: (D ++ d :: R)) := by
  have g1 : RH M ((K ++ d :: D) ++ x :: R) (K ++ d :: D).length := fun j y hj _ => h j y (by simpa using hj)
  have g2 := RH_fill g1 d
  have el : (K ++ d :: D).length = K.length + (D.length + 1) := by simp
  rw [el] at g2
  have g3 : RH (mu M 3 (K.length + (D.length + 1)) (nI d)) (K ++ d :: (D ++ d :: R)) K.length := fun j y hj _ => g2 j y (by simpa using hj)
  exact RH_fill g3 x
theorem RW_same {M : Mem} {K R : List Nat} {x : Nat} (h : RW M (K ++ x :: R)) : RW (mu (mu M 3 K.length (nI x)) 3 K.length (nI x)) (K ++ x :: R) := by
  have g1 := RH_fill (M := M) (P := K) (T := R) (h := x) (fun j y hj _ => h j y hj) x
  exact RH_fill (M := mu M 3 K.length (nI x)) (P := K) (T := R) (h := x) (fun j y hj _ => g1 j y hj) x
theorem packC_4 (g : Nat → Bool) (sp : List Nat) : ∀ (L2 K D : List Nat) (n : Nat) (M : Mem), RW M (K ++ (D ++ (L2 ++ sp))) → (∀ r ∈ K ++ (D ++ L2), r < 60) → K.length + (D.length + L2.length) ≤ 60 → M 2 0 = nI (K.length + (D.length + L2.length)) → (∀ r ∈ L2, M 7 r = b2i (g r)) → L2.length < n →
    ∃ M' D', f_X3_removeMarked_4 n M (nI K.length) (nI (K.length + D.length)) = some M' ∧ RW M' ((K ++ L2.filter (fun r => !g r)) ++ (D' ++ sp)) ∧ M' 2 0 = nI (K ++ L2.filter (fun r => !g r)).length ∧ same M M' (fun t => t = 2 ∨ t = 3) ∧ ((K ++ L2.filter (fun r => !g r)) ++ D').Perm (K ++ (D ++ L2)) := by
  intro L2
  induction L2 with
  | nil =>
    intro K D n M h h60 hl h2 hm hn
    obtain ⟨n, rfl⟩ : ∃ j, n = j + 1 := ⟨n - 1, by omega⟩
    simp only [List.length_nil, Nat.add_zero] at hl h2
    refine ⟨mu M 2 0 (nI K.length), D, ?_, fun j x hj => ?_, ?_, same_mu _ _ _ (Or.inl rfl), by simp⟩
    · show f_X3_removeMarked_4B (f_X3_removeMarked_4 n) M (nI K.length) (nI (K.length + D.length)) = _
      unfold f_X3_removeMarked_4B f_X3_removeMarked_63
      rw [h2]
      simp only [le' (show K.length + D.length < 2147483648 by omega) (show K.length + D.length < 2147483648 by omega)]
      rw [if_pos (Nat.le_refl _)]
    · rw [mu_at _ _ _ (by decide)]
      exact h j x (by simpa using hj)
    · rw [mu_self]; simp
  | cons x L2 ih =>
    intro K D n M h h60 hl h2 hm hn
    obtain ⟨n, rfl⟩ : ∃ j, n = j + 1 := ⟨n - 1, by omega⟩
    simp only [List.length_cons] at hl h2 hn
    have hx60 : x < 60 := h60 x (by simp)
    have e3x : M 3 (K.length + D.length) = nI x := by
      have := h (K ++ D).length x (by
        have := get_mid (K ++ D) x (L2 ++ sp)
        simpa using this)
      rw [List.length_append] at this
      exact this
    have hrkx : rk M (K.length + D.length) = x := by unfold rk; rw [e3x, cl' (by omega)]
    cases hg : g x
    · have hmx : M 7 x = 0 := by rw [hm x (by simp), hg]; rfl
      cases D with
      | nil =>
        simp only [List.length_nil, Nat.add_zero, Nat.zero_add] at hl h2 e3x hrkx
        have hRW : RW (mu (mu M 3 K.length (nI x)) 3 K.length (nI x)) ((K ++ [x]) ++ ([] ++ (L2 ++ sp))) := by
          have := RW_same (M := M) (K := K) (x := x) (R := L2 ++ sp) (by simpa using h)
          simpa using this
        obtain ⟨M', D', a1, a2, a3, a4, a5⟩ := ih (K ++ [x]) [] n _ hRW (fun r hr => h60 r (by simp at hr ⊢; exact hr)) (by simp; omega) (by rw [mu_at _ _ _ (by decide), mu_at _ _ _ (by decide), h2]; simp; congr 1; omega) (fun r hr => by rw [mu_at _ _ _ (by decide), mu_at _ _ _ (by decide)]; exact hm r (by simp [hr])) (by omega)
        have e1 : K ++ (x :: L2).filter (fun r => !g r) = (K ++ [x]) ++ L2.filter (fun r => !g r) := by
          rw [List.filter_cons_of_pos (by simp [hg])]; simp
        refine ⟨M', D', ?_, by rw [e1]; exact a2, by rw [e1]; exact a3, same_tr (same_mu2 (same_mu _ _ _ (Or.inr rfl)) _ _ (Or.inr rfl)) a4, by rw [e1]; refine a5.trans ?_; simp⟩
        show f_X3_removeMarked_4B (f_X3_removeMarked_4 n) M (nI K.length) (nI K.length) = _
        unfold f_X3_removeMarked_4B f_X3_removeMarked_57
        rw [h2]
        simp only [le' (show K.length + (L2.length + 1) < 2147483648 by omega) (show K.length < 2147483648 by omega), g60 (show K.length < 60 by omega), gi (show K.length < 60 by omega) (show 60 < 2147483648 by decide)]
        rw [if_neg (by omega), cl' (by omega), hrkx, if_neg (by omega), hmx, if_pos rfl, if_neg (by omega), nI_1]
        have : (K ++ [x]).length = K.length + 1 := by simp
        rw [this] at a1
        exact a1
      | cons d D =>
        simp only [List.length_cons] at hl h2 e3x hrkx
        have hd60 : d < 60 := h60 d (by simp)
        have e3d : M 3 K.length = nI d := h K.length d (by simp)
        have hrkd : rk M K.length = d := by unfold rk; rw [e3d, cl' (by omega)]
        have hRW : RW (mu (mu M 3 (K.length + (D.length + 1)) (nI d)) 3 K.length (nI x)) ((K ++ [x]) ++ ((D ++ [d]) ++ (L2 ++ sp))) := by
          have := RW_swap (M := M) (K := K) (d := d) (D := D) (x := x) (R := L2 ++ sp) (by simpa using h)
          simpa using this
        obtain ⟨M', D', a1, a2, a3, a4, a5⟩ := ih (K ++ [x]) (D ++ [d]) n _ hRW (fun r hr => h60 r (by
          simp only [List.mem_append, List.mem_cons, List.not_mem_nil, or_false] at hr ⊢
          rcases hr with (z | z) | (z | z) | z <;> simp [z])) (by simp; omega) (by rw [mu_at _ _ _ (by decide), mu_at _ _ _ (by decide), h2]; simp; congr 1; omega) (fun r hr => by rw [mu_at _ _ _ (by decide), mu_at _ _ _ (by decide)]; exact hm r (by simp [hr])) (by omega)
        have e1 : K ++ (x :: L2).filter (fun r => !g r) = (K ++ [x]) ++ L2.filter (fun r => !g r) := by
          rw [List.filter_cons_of_pos (by simp [hg])]; simp
        refine ⟨M', D', ?_, by rw [e1]; exact a2, by rw [e1]; exact a3, same_tr (same_mu2 (same_mu _ _ _ (Or.inr rfl)) _ _ (Or.inr rfl)) a4, by
          rw [e1]; refine a5.trans ?_
          simp only [List.append_assoc, List.cons_append, List.nil_append]
          refine List.Perm.append_left K ?_
          have p1 : (x :: (D ++ d :: L2)).Perm (x :: (d :: (D ++ L2))) := List.Perm.cons x List.perm_middle
          have p2 : (d :: (D ++ x :: L2)).Perm (d :: (x :: (D ++ L2))) := List.Perm.cons d List.perm_middle
          exact p1.trans ((List.Perm.swap d x (D ++ L2)).trans p2.symm)⟩
        show f_X3_removeMarked_4B (f_X3_removeMarked_4 n) M (nI K.length) (nI (K.length + (D.length + 1))) = _
        unfold f_X3_removeMarked_4B f_X3_removeMarked_57
        rw [h2]
        simp only [le' (show K.length + (D.length + 1 + (L2.length + 1)) < 2147483648 by omega) (show K.length + (D.length + 1) < 2147483648 by omega), g60 (show K.length + (D.length + 1) < 60 by omega), gi (show K.length + (D.length + 1) < 60 by omega) (show 60 < 2147483648 by decide), gi (show K.length < 60 by omega) (show 60 < 2147483648 by decide)]
        rw [if_neg (by omega), cl' (show K.length + (D.length + 1) < 2147483648 by omega), hrkx, if_neg (by omega), hmx, if_pos rfl, cl' (show K.length < 2147483648 by omega), hrkd, if_neg (by omega), nI_1, nI_1]
        have : (K ++ [x]).length = K.length + 1 := by simp
        rw [this] at a1
        rw [show K.length + 1 + (D ++ [d]).length = K.length + (D.length + 1) + 1 by simp; omega] at a1
        exact a1
    · have hmx : ¬ M 7 x = 0 := by rw [hm x (by simp), hg]; decide
      obtain ⟨M', D', a1, a2, a3, a4, a5⟩ := ih K (D ++ [x]) n M (by simpa using h) (fun r hr => h60 r (by simpa using hr)) (by simp; omega) (by rw [h2]; simp; congr 1; omega) (fun r hr => hm r (by simp [hr])) (by omega)
      have e1 : (x :: L2).filter (fun r => !g r) = L2.filter (fun r => !g r) := List.filter_cons_of_neg (by simp [hg])
      refine ⟨M', D', ?_, by rw [e1]; exact a2, by rw [e1]; exact a3, a4, by rw [e1]; refine a5.trans ?_; simp⟩
      show f_X3_removeMarked_4B (f_X3_removeMarked_4 n) M (nI K.length) (nI (K.length + D.length)) = _
      unfold f_X3_removeMarked_4B f_X3_removeMarked_57
      rw [h2]
      simp only [le' (show K.length + (D.length + (L2.length + 1)) < 2147483648 by omega) (show K.length + D.length < 2147483648 by omega), g60 (show K.length + D.length < 60 by omega), gi (show K.length + D.length < 60 by omega) (show 60 < 2147483648 by decide)]
      rw [if_neg (by omega), cl' (by omega), hrkx, if_neg (by omega), if_neg hmx, nI_1]
      rw [show K.length + (D ++ [x]).length = K.length + D.length + 1 by simp; omega] at a1
      exact a1
def trm (τ : Tr) (G : Nat → Bool) : Tr := ((ta τ).filter (fun p => !G p), τ.2)
theorem map_filter (f : Nat → Nat) (g : Nat → Bool) : ∀ (l : List Nat), (l.filter (fun r => g (f r))).map f = (l.map f).filter g
  | [] => rfl
  | x :: l => by
    cases q : g (f x)
    · rw [List.filter_cons_of_neg (by simp [q]), List.map_cons, List.filter_cons_of_neg (by simp [q]), map_filter f g l]
    · rw [List.filter_cons_of_pos (by simp [q]), List.map_cons, List.map_cons, List.filter_cons_of_pos (by simp [q]), map_filter f g l]
theorem packC {M : Mem} {L sp : List Nat} {τ : Tr} (h : TC M L sp τ) {G : Nat → Bool} (hm : ∀ r ∈ L, M 7 r = b2i (G (pC M r))) : ∃ M' L' sp', f_X3_removeMarked M = some M' ∧ TC M' L' sp' (trm τ G) ∧ same M M' (fun t => t = 2 ∨ t = 3) := by
  obtain ⟨⟨i1, i2, i3, i4, i5⟩, h2, h3, h4, h5⟩ := id h
  have hlen := IC_len h.1
  obtain ⟨M', D', a1, a2, a3, a4, a5⟩ := packC_4 (fun r => G (pC M r)) sp L [] [] 64 M (fun j x hj => i5 j x hj) (fun r hr => i4 r (by simp at hr; simp [hr])) (by simp; omega) (by simpa using i1) hm (by omega)
  simp only [List.nil_append] at a2 a3 a5
  have hp2 : (L.filter (fun r => !G (pC M r)) ++ (D' ++ sp)).Perm (L ++ sp) := by
    rw [← List.append_assoc]; exact a5.append_right sp
  have ep : pC M' = pC M := by funext x; unfold pC; rw [a4 4 (by decide)]
  refine ⟨M', L.filter (fun r => !G (pC M r)), D' ++ sp, a1, ⟨⟨a3, by rw [hp2.length_eq]; exact i2, hp2.nodup_iff.mpr i3, fun r hr => i4 r (hp2.mem_iff.mp hr), a2⟩, fun r hr => ?_, ?_, ?_, fun r hr => ?_⟩, a4⟩
  · rw [a4 4 (by decide), ep]; exact h2 r ((List.mem_filter.mp hr).1)
  · rw [ep, map_filter (pC M) (fun p => !G p)]
    exact eqv_filter h3 _
  · exact List.Pairwise.filter _ h4
  · rw [a4 5 (by decide), a4 6 (by decide), a4 8 (by decide), a4 (100 + r) (by omega), ep]
    exact h5 r ((List.mem_filter.mp hr).1)
theorem remC_2 {sp : List Nat} {τ : Tr} {G : Nat → Bool} : ∀ (L2 L1 : List Nat) (n : Nat) (M : Mem) (k : Lk), TC M (L1 ++ L2) sp τ → LC M k → (∀ r ∈ L1 ++ L2, M 7 r = b2i (G (pC M r))) → L2.length < n → ∃ M' L' sp', f_X4_removeMarked_2 n M (nI L1.length) = some M' ∧ TC M' L' sp' (trm τ G) ∧ LC M' (kdr k ((L2.map (pC M)).filter G)) ∧ same M M' (fun t => t = 2 ∨ t = 3 ∨ t = 16) := by
  intro L2
  induction L2 with
  | nil =>
    intro L1 n M k h hk hm hn
    obtain ⟨n, rfl⟩ : ∃ j, n = j + 1 := ⟨n - 1, by omega⟩
    rw [List.append_nil] at h hm
    obtain ⟨M', L', sp', a1, a2, a3⟩ := packC h hm
    refine ⟨M', L', sp', ?_, a2, ?_, same_wk a3 (fun t ht => by rcases ht with z | z <;> simp [z])⟩
    · show f_X4_removeMarked_2B (f_X4_removeMarked_2 n) M (nI L1.length) = _
      unfold f_X4_removeMarked_2B
      have := IC_len h.1
      rw [h.1.1]
      simp only [le' (show L1.length < 2147483648 by omega) (show L1.length < 2147483648 by omega)]
      rw [if_pos (Nat.le_refl _), a1, bd1_s]
    · rw [List.map_nil, List.filter_nil, kdr_nil]
      exact LC_cong hk (fun t _ _ => a3 t (by omega))
  | cons r L2 ih =>
    intro L1 n M k h hk hm hn
    obtain ⟨n, rfl⟩ : ∃ j, n = j + 1 := ⟨n - 1, by omega⟩
    obtain ⟨h1, h2, h3, h4, h5, h6, h7, h8, h9⟩ := TC_at h
    have hmr := hm r (by simp)
    cases hg : G (pC M r)
    · obtain ⟨M', L', sp', a1, a2, a3, a4⟩ := ih (L1 ++ [r]) n M k (by simpa using h) hk (by simpa using hm) (by simp at hn; omega)
      refine ⟨M', L', sp', ?_, a2, ?_, a4⟩
      · show f_X4_removeMarked_2B (f_X4_removeMarked_2 n) M (nI L1.length) = _
        unfold f_X4_removeMarked_2B f_X4_removeMarked_39
        rw [h7]
        simp only [le' (show (L1 ++ r :: L2).length < 2147483648 by omega) (show L1.length < 2147483648 by omega)]
        rw [if_neg (by omega), isGoingAtC h hmr, bd2_s, hg, if_pos (show b2i false = 0 from rfl), step1 L1 r]
        exact a1
      · rw [List.map_cons, List.filter_cons_of_neg (by simp [hg])]; exact a3
    · obtain ⟨M1, b1, b2, b3⟩ := dropC hk h6
      have ep : pC M1 = pC M := by funext x; unfold pC; rw [b3 4 (by decide)]
      obtain ⟨M', L', sp', a1, a2, a3, a4⟩ := ih (L1 ++ [r]) n M1 (kdr k [pC M r]) (TC_cong (by simpa using h) (fun t ht => b3 t (by omega))) b2 (fun x hx => by rw [b3 7 (by decide), ep]; exact hm x (by simpa using hx)) (by simp at hn; omega)
      refine ⟨M', L', sp', ?_, a2, ?_, same_tr (same_wk b3 (fun t ht => Or.inr (Or.inr ht))) a4⟩
      · show f_X4_removeMarked_2B (f_X4_removeMarked_2 n) M (nI L1.length) = _
        unfold f_X4_removeMarked_2B f_X4_removeMarked_39
        rw [h7]
        simp only [le' (show (L1 ++ r :: L2).length < 2147483648 by omega) (show L1.length < 2147483648 by omega)]
        rw [if_neg (by omega), isGoingAtC h hmr, bd2_s, hg, if_neg (by decide), pathAtC h, bd2_s, b1, bd1_s, step1 L1 r]
        exact a1
      · rw [List.map_cons, List.filter_cons_of_pos hg]
        rw [kdr_app, ep] at a3
        exact a3
theorem remC {M : Mem} {L sp : List Nat} {τ : Tr} {k : Lk} (h : TC M L sp τ) (hk : LC M k) {G : Nat → Bool} (hm : ∀ r ∈ L, M 7 r = b2i (G (pC M r))) : ∃ M' L' sp', f_X4_removeMarked M = some M' ∧ TC M' L' sp' (trm τ G) ∧ LC M' (kdr k ((ta τ).filter G)) ∧ same M M' (fun t => t = 2 ∨ t = 3 ∨ t = 16) := by
  have := IC_len h.1
  obtain ⟨M', L', sp', a1, a2, a3, a4⟩ := remC_2 L [] 64 M k h hk hm (by omega)
  refine ⟨M', L', sp', a1, a2, ?_, a4⟩
  rw [kdr_cong k (c := (L.map (pC M)).filter G) (fun p => by rw [List.mem_filter, List.mem_filter, eqv_mem h.2.2.1])]
  exact a3
theorem removeTreeC {M : Mem} {L sp : List Nat} {τ : Tr} {k : Lk} (h : TC M L sp τ) (hk : LC M k) {u : Nat} (hu : u ≤ 9999) : ∃ M' L' sp', f_X4_removeTree M (nI u) = some M' ∧ TC M' L' sp' (trm τ (inT u)) ∧ LC M' (kdr k ((ta τ).filter (inT u))) ∧ same M M' (fun t => t = 2 ∨ t = 3 ∨ t = 7 ∨ t = 16) := by
  obtain ⟨M1, a1, a2, a3⟩ := markC h hu
  have ep : pC M1 = pC M := by funext x; unfold pC; rw [a3 4 (by decide)]
  obtain ⟨M', L', sp', b1, b2, b3, b4⟩ := remC (G := inT u) (TC_cong7 h (fun t ht => a3 t (by omega))) (LC_cong hk (fun t _ _ => a3 t (by omega))) (fun r hr => by rw [a2 r hr, ep])
  refine ⟨M', L', sp', ?_, b2, b3, same_tr (same_wk a3 (fun t ht => Or.inr (Or.inr (Or.inl ht)))) (same_wk b4 (fun t ht => by rcases ht with z | z | z <;> simp [z]))⟩
  unfold f_X4_removeTree f_X4_removeTree_0
  rw [a1, bd1_s, b1, bd1_s]

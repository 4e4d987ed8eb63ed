/-! ===== what both hold, and the calls that only read ===== -/
theorem mu_at (M : Mem) {t t' : Nat} (i : Nat) (v : Int32) (h : t ≠ t') (j : Nat) : mu M t' i v t j = M t j := by rw [mu_ne M i v h]
theorem TC_cong {M M' : Mem} {L sp : List Nat} {τ : Tr} (h : TC M L sp τ) (g : ∀ t, (2 ≤ t ∧ t ≤ 8) ∨ 100 ≤ t → M' t = M t) : TC M' L sp τ := by
  obtain ⟨⟨i1, i2, i3, i4, i5⟩, h2, h3, h4, h5⟩ := h
  have ep : pC M' = pC M := by funext r; unfold pC; rw [g 4 (by omega)]
  refine ⟨⟨by rw [g 2 (by omega)]; exact i1, i2, i3, i4, fun j r hj => by rw [g 3 (by omega)]; exact i5 j r hj⟩, fun r hr => by rw [g 4 (by omega), ep]; exact h2 r hr, by rw [ep]; exact h3, h4, fun r hr => ?_⟩
  rw [g 5 (by omega), g 6 (by omega), g 8 (by omega), g (100 + r) (by omega), ep]
  exact h5 r hr
theorem MT_cong {M M' : Mem} {L : List Nat} {τ : Tr} {B : Nat} (h : MT M L τ B) (g : ∀ t, 20 ≤ t → t ≤ 27 → M' t = M t) : MT M' L τ B := by
  obtain ⟨h1, h2, h3, h4, h5, h6, h7, h8, h9, h10⟩ := h
  have ep : pM M' = pM M := by funext r; unfold pM; rw [g 21 (by omega) (by omega)]
  have eu : us M' = us M := by funext r; unfold us; rw [g 20 (by omega) (by omega)]
  have er : rM M' = rM M := by funext r; unfold rM; rw [g 24 (by omega) (by omega)]
  have en : rn M' = rn M := by unfold rn; rw [g 25 (by omega) (by omega)]
  unfold MT
  rw [ep, eu, er, en, g 21 (by omega) (by omega), g 22 (by omega) (by omega), g 23 (by omega) (by omega), g 24 (by omega) (by omega), g 25 (by omega) (by omega), g 26 (by omega) (by omega), g 27 (by omega) (by omega)]
  exact ⟨h1, h2, h3, h4, h5, h6, h7, h8, h9, h10⟩
/-- the failures: the class keeps them sorted, the reference as it finds them -/
def FL (M : Mem) (F G : List Nat) : Prop :=
  M 0 0 = nI F.length ∧ F.length ≤ 60 ∧ (∀ j p, F[j]? = some p → M 1 j = nI p) ∧ F.Pairwise (fun a c => a < c) ∧ (∀ p ∈ F, p ≤ 9999) ∧ F.Perm G ∧ M 35 0 = nI G.length ∧ ∀ j p, G[j]? = some p → M 36 j = nI p
theorem FL_cong {M M' : Mem} {F G : List Nat} (h : FL M F G) (g : ∀ t, t = 0 ∨ t = 1 ∨ t = 35 ∨ t = 36 → M' t = M t) : FL M' F G := by
  unfold FL
  rw [g 0 (by omega), g 1 (by omega), g 35 (by omega), g 36 (by omega)]
  exact h
def Iv (M : Mem) (L sp Lm : List Nat) (τ : Tr) (k : Lk) (F G : List Nat) (B : Nat) : Prop := TC M L sp τ ∧ MT M Lm τ B ∧ LC M k ∧ LM M k ∧ FL M F G
def Inv (M : Mem) (B : Nat) : Prop := ∃ (L sp Lm : List Nat) (τ : Tr) (k : Lk) (F G : List Nat), Iv M L sp Lm τ k F G B
theorem Iv_cong {M M' : Mem} {L sp Lm : List Nat} {τ : Tr} {k : Lk} {F G : List Nat} {B : Nat} (h : Iv M L sp Lm τ k F G B) (g : ∀ t, t < 37 ∨ 100 ≤ t → M' t = M t) : Iv M' L sp Lm τ k F G B :=
  ⟨TC_cong h.1 (fun t _ => g t (by omega)), MT_cong h.2.1 (fun t _ _ => g t (by omega)), LC_cong h.2.2.1 (fun t _ _ => g t (by omega)), LM_cong h.2.2.2.1 (fun t _ _ => g t (by omega)), FL_cong h.2.2.2.2 (fun t _ => g t (by omega))⟩
theorem Iv_mu {M : Mem} {L sp Lm : List Nat} {τ : Tr} {k : Lk} {F G : List Nat} {B : Nat} (h : Iv M L sp Lm τ k F G B) {t : Nat} (ht : 37 ≤ t ∧ t < 100) (i : Nat) (v : Int32) : Iv (mu M t i v) L sp Lm τ k F G B :=
  Iv_cong h (fun t' _ => mu_ne M i v (by omega))
theorem MT_le {M : Mem} {L : List Nat} {τ : Tr} {B B' : Nat} (h : MT M L τ B) (hb : B ≤ B') (hb' : B' ≤ 1000000) : MT M L τ B' := by
  obtain ⟨h1, h2, h3, h4, h5, h6, h7, h8, h9, h10⟩ := h
  exact ⟨h1, h2, h3, h4, h5, h6, h7, h8, by omega, hb'⟩
theorem Iv_le {M : Mem} {L sp Lm : List Nat} {τ : Tr} {k : Lk} {F G : List Nat} {B B' : Nat} (h : Iv M L sp Lm τ k F G B) (hb : B ≤ B') (hb' : B' ≤ 1000000) : Iv M L sp Lm τ k F G B' := ⟨h.1, MT_le h.2.1 hb hb', h.2.2⟩
theorem at39 (M : Mem) (v : Int32) : mu M 39 0 v 39 0 = v := mu_self M 39 0 v
theorem at40 (M : Mem) (v w : Int32) : mu (mu M 40 0 v) 39 0 w 40 0 = v := by rw [mu_at _ _ _ (by decide), mu_self]
theorem TM_len {M : Mem} {L sp Lm : List Nat} {τ : Tr} {k : Lk} {F G : List Nat} {B : Nat} (h : Iv M L sp Lm τ k F G B) : L.length = (ta τ).length ∧ Lm.length = (ta τ).length := by
  refine ⟨?_, ?_⟩
  · rw [← List.length_map (f := pC M), (eqv_perm h.1.2.2.1).length_eq]
  · rw [← List.length_map (f := pM M), (eqv_perm h.2.1.2.2.1).length_eq]

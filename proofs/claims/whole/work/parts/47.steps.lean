/-! ===== what both hold, and the calls that only read ===== -/
theorem mu_at (M : Mem) {t t' : Nat} (i : Nat) (v : Int32) (h : t ≠ t') (j : Nat) : mu M t' i v t j = M t j := by rw [mu_ne M i v h]
theorem TC_cong {M M' : Mem} {L sp : List Nat} {τ : Tr} (h : TC M L sp τ) (g : ∀ t, (2 ≤ t ∧ t ≤ 8) ∨ 100 ≤ t → M' t = M t) : TC M' L sp τ := by
  obtain ⟨⟨i1, i2, i3, i4, i5⟩, h2, h3, h4, h5⟩ := h
  have ep : pC M' = pC M := by funext r; unfold pC; rw [g 4 (by omega)]
  refine ⟨⟨by rw [g 2 (by omega)]; exact i1, i2, i3, i4, fun j r hj => by rw [g 3 (by omega)]; exact i5 j r hj⟩, fun r hr => by rw [g 4 (by omega), ep]; exact h2 r hr, by rw [ep]; exact h3, h4, fun r hr => ?_⟩
  rw [g 5 (by omega), g 6 (by omega), g 8 (by omega), g (100 + r) (by omega), ep]
  exact h5 r hr
theorem MT_cong {M M' : Mem} {L : List Nat} {τ : Tr} {B : Nat} (h : MT M L τ B) (g : ∀ t, 20 ≤ t → t ≤ 27 → M' t = M t) : MT M' L τ B := by
  obtain ⟨h1, h2, h3, h4, h5, h6, h7, h8, h9, h10⟩ := h
  have ep : pM M' = pM M := by funext r; unfold pM; rw [g 21 (by omega) (by omega)]
  have eu : us M' = us M := by funext r; unfold us; rw [g 20 (by omega) (by omega)]
  have er : rM M' = rM M := by funext r; unfold rM; rw [g 24 (by omega) (by omega)]
  have en : rn M' = rn M := by unfold rn; rw [g 25 (by omega) (by omega)]
  unfold MT
  rw [ep, eu, er, en, g 21 (by omega) (by omega), g 22 (by omega) (by omega), g 23 (by omega) (by omega), g 24 (by omega) (by omega), g 25 (by omega) (by omega), g 26 (by omega) (by omega), g 27 (by omega) (by omega)]
  exact ⟨h1, h2, h3, h4, h5, h6, h7, h8, h9, h10⟩
/-- the failures: the class keeps them sorted, the reference as it finds them -/
def FL (M : Mem) (F G : List Nat) : Prop :=
  M 0 0 = nI F.length ∧ F.length ≤ 60 ∧ (∀ j p, F[j]? = some p → M 1 j = nI p) ∧ F.Pairwise (fun a c => a < c) ∧ (∀ p ∈ F, p ≤ 9999) ∧ F.Perm G ∧ M 35 0 = nI G.length ∧ ∀ j p, G[j]? = some p → M 36 j = nI p
theorem FL_cong {M M' : Mem} {F G : List Nat} (h : FL M F G) (g : ∀ t, t = 0 ∨ t = 1 ∨ t = 35 ∨ t = 36 → M' t = M t) : FL M' F G := by
  unfold FL
  rw [g 0 (by omega), g 1 (by omega), g 35 (by omega), g 36 (by omega)]
  exact h
def Iv (M : Mem) (L sp Lm : List Nat) (τ : Tr) (k : Lk) (F G : List Nat) (B : Nat) : Prop := TC M L sp τ ∧ MT M Lm τ B ∧ LC M k ∧ LM M k ∧ FL M F G
def Inv (M : Mem) (B : Nat) : Prop := ∃ (L sp Lm : List Nat) (τ : Tr) (k : Lk) (F G : List Nat), Iv M L sp Lm τ k F G B
theorem Iv_cong {M M' : Mem} {L sp Lm : List Nat} {τ : Tr} {k : Lk} {F G : List Nat} {B : Nat} (h : Iv M L sp Lm τ k F G B) (g : ∀ t, t < 37 ∨ 100 ≤ t → M' t = M t) : Iv M' L sp Lm τ k F G B :=
  ⟨TC_cong h.1 (fun t _ => g t (by omega)), MT_cong h.2.1 (fun t _ _ => g t (by omega)), LC_cong h.2.2.1 (fun t _ _ => g t (by omega)), LM_cong h.2.2.2.1 (fun t _ _ => g t (by omega)), FL_cong h.2.2.2.2 (fun t _ => g t (by omega))⟩
theorem Iv_mu {M : Mem} {L sp Lm : List Nat} {τ : Tr} {k : Lk} {F G : List Nat} {B : Nat} (h : Iv M L sp Lm τ k F G B) {t : Nat} (ht : 37 ≤ t ∧ t < 100) (i : Nat) (v : Int32) : Iv (mu M t i v) L sp Lm τ k F G B :=
  Iv_cong h (fun t' _ => mu_ne M i v (by omega))
theorem MT_le {M : Mem} {L : List Nat} {τ : Tr} {B B' : Nat} (h : MT M L τ B) (hb : B ≤ B') (hb' : B' ≤ 1000000) : MT M L τ B' := by
  obtain ⟨h1, h2, h3, h4, h5, h6, h7, h8, h9, h10⟩ := h
  exact ⟨h1, h2, h3, h4, h5, h6, h7, h8, by omega, hb'⟩
theorem Iv_le {M : Mem} {L sp Lm : List Nat} {τ : Tr} {k : Lk} {F G : List Nat} {B B' : Nat} (h : Iv M L sp Lm τ k F G B) (hb : B ≤ B') (hb' : B' ≤ 1000000) : Iv M L sp Lm τ k F G B' := ⟨h.1, MT_le h.2.1 hb hb', h.2.2⟩
theorem ag_R {a r : Mem → Option (Int32 × Mem)} {M M1 M2 : Mem} {v : Int32} (ha : a M = some (0, mu M1 40 0 v)) (hr : r (mu M1 40 0 v) = some (v, M2)) (h39 : M2 39 0 = 0) (h40 : M2 40 0 = v) : agree M M2 a r := ⟨0, _, v, ha, hr, h39, fun _ => h40⟩
theorem ag_T {a r : Mem → Option (Int32 × Mem)} {M M1 M2 : Mem} {q v : Int32} (ha : a M = some (q, M1)) (hr : r M1 = some (v, M2)) (h39 : M2 39 0 = q) (hq : q ≠ 0) : agree M M2 a r := ⟨q, _, v, ha, hr, h39, fun z => absurd z hq⟩
theorem at39 (M : Mem) (v : Int32) : mu M 39 0 v 39 0 = v := mu_self M 39 0 v
theorem at40 (M : Mem) (v w : Int32) : mu (mu M 40 0 v) 39 0 w 40 0 = v := by rw [mu_at _ _ _ (by decide), mu_self]
theorem TM_len {M : Mem} {L sp Lm : List Nat} {τ : Tr} {k : Lk} {F G : List Nat} {B : Nat} (h : Iv M L sp Lm τ k F G B) : L.length = (ta τ).length ∧ Lm.length = (ta τ).length := by
  refine ⟨?_, ?_⟩
  · rw [← List.length_map (f := pC M), (eqv_perm h.1.2.2.1).length_eq]
  · rw [← List.length_map (f := pM M), (eqv_perm h.2.1.2.2.1).length_eq]
theorem st_kindOf {M : Mem} {L sp Lm : List Nat} {τ : Tr} {k : Lk} {F G : List Nat} {B : Nat} (h : Iv M L sp Lm τ k F G B) (x : Int32) : ∃ M2, agree M M2 (fun m => f_L_kindOf m x) (fun m => f_X5_kindOf m x) ∧ Iv M2 L sp Lm τ k F G B := by
  cases hv : vpb x
  · refine ⟨mu M 39 0 1, ag_T (q := 1) (v := 0) (M1 := M) (wT_kindOf_A (M1 := M) ?_) ?_ (at39 _ _) (by decide), Iv_mu h (by decide) _ _⟩
    · unfold f_X4_kindOf f_X4_kindOf_0
      rw [reqPathC, hv]; rfl
    · show f_X5_kindOf M x = _
      unfold f_X5_kindOf f_X5_kindOf_0
      rw [asksM, hv]; rfl
  · obtain ⟨p, hp, rfl⟩ := vpb_of hv
    have h40 := Iv_mu h (t := 40) (by decide) 0 (tk τ p)
    have h39 := Iv_mu h40 (t := 39) (by decide) 0 0
    refine ⟨_, ag_R (v := tk τ p) (M1 := M) (M2 := mu (mu M 40 0 (tk τ p)) 39 0 0) (wR_kindOf ?_) ?_ (at39 _ _) (at40 _ _ _), h39⟩
    · unfold f_X4_kindOf f_X4_kindOf_0
      rw [reqPathC, hv, un_t, bdx_s, kindAtC h.1 hp]; rfl
    · show f_X5_kindOf _ _ = _
      unfold f_X5_kindOf f_X5_kindOf_0
      rw [asksM, hv, bd2_s, if_neg (by decide), show thr true = 0 from rfl, kindsM h39.2.1 hp]; rfl
theorem st_content {M : Mem} {L sp Lm : List Nat} {τ : Tr} {k : Lk} {F G : List Nat} {B : Nat} (h : Iv M L sp Lm τ k F G B) (x : Int32) : ∃ M2, agree M M2 (fun m => f_L_content m x) (fun m => f_X5_content m x) ∧ Iv M2 L sp Lm τ k F G B := by
  cases hv : vpb x
  · refine ⟨mu M 39 0 1, ag_T (q := 1) (v := 0) (M1 := M) (wT_content_A (M1 := M) ?_) ?_ (at39 _ _) (by decide), Iv_mu h (by decide) _ _⟩
    · unfold f_X4_content f_X4_content_0
      rw [reqPathC, hv]; rfl
    · show f_X5_content M x = _
      unfold f_X5_content f_X5_content_0
      rw [asksM, hv]; rfl
  · obtain ⟨p, hp, rfl⟩ := vpb_of hv
    by_cases hf : p ∈ ta τ ∧ td τ p = 1
    · obtain ⟨r, hr, e1, e2, e3⟩ := file_yes h.1 hf.1 hf.2
      have ec := (h.1.2.2.2.2 r hr).2.2.1
      rw [e1] at ec
      have h40 := Iv_mu h (t := 40) (by decide) 0 (tc τ p)
      have h39 := Iv_mu h40 (t := 39) (by decide) 0 0
      refine ⟨_, ag_R (v := tc τ p) (M1 := M) (M2 := mu (mu M 40 0 (tc τ p)) 39 0 0) (wR_content ?_) ?_ (at39 _ _) (at40 _ _ _), h39⟩
      · unfold f_X4_content f_X4_content_0
        rw [reqPathC, hv, un_t, bdx_s, e3, bd2_s, oe_1, if_neg (by omega), ec]
      · show f_X5_content _ _ = _
        unfold f_X5_content f_X5_content_0
        obtain ⟨j, g1, g2, g3, g4, g5, g6⟩ := place_yes h39.2.1 hf.1
        have hpos := TC_pos h.1 hf.1
        have hk : tk τ p = 1 := by unfold tk; rw [if_neg (by omega), if_pos hf.1]; exact hf.2
        rw [asksM, hv, bd2_s, if_neg (by decide), show thr true = 0 from rfl, kindsM h39.2.1 hp, bd2_s, if_pos hk, g6, bd2_s, gi g2 (by decide), cl' (by omega), (h39.2.1.2.2.2.2.1 j g1).2.2.1, g4]
    · have h40 := Iv_mu h (t := 40) (by decide) 0 (-1)
      have h39 := Iv_mu h40 (t := 39) (by decide) 0 0
      refine ⟨_, ag_R (v := -1) (M1 := M) (M2 := mu (mu M 40 0 (-1)) 39 0 0) (wR_content ?_) ?_ (at39 _ _) (at40 _ _ _), h39⟩
      · unfold f_X4_content f_X4_content_0
        rw [reqPathC, hv, un_t, bdx_s, file_no h.1 hp hf, bd2_s, oe_0]
      · show f_X5_content _ _ = _
        unfold f_X5_content f_X5_content_0
        have hk : ¬ tk τ p = 1 := by
          unfold tk
          by_cases h0 : p = 0
          · rw [if_pos h0]; decide
          · rw [if_neg h0]
            by_cases hy : p ∈ ta τ
            · rw [if_pos hy]; exact fun z => hf ⟨hy, z⟩
            · rw [if_neg hy]; decide
        rw [asksM, hv, bd2_s, if_neg (by decide), show thr true = 0 from rfl, kindsM h39.2.1 hp, bd2_s, if_neg hk]
theorem st_resources {M : Mem} {L sp Lm : List Nat} {τ : Tr} {k : Lk} {F G : List Nat} {B : Nat} (h : Iv M L sp Lm τ k F G B) : ∃ v, f_X4_resources M = some (v, M) ∧ f_X5_resources M = some (v, mu M 39 0 0) ∧ Iv (mu M 39 0 0) L sp Lm τ k F G B := by
  have h39 := Iv_mu h (t := 39) (by decide) 0 0
  refine ⟨nI (ta τ).length, ?_, ?_, h39⟩
  · unfold f_X4_resources f_X4_resources_0
    rw [h.1.1.1, (TM_len h).1]
  · unfold f_X5_resources f_X5_resources_0
    rw [countM h39.2.1]; rfl
theorem st_failures {M : Mem} {L sp Lm : List Nat} {τ : Tr} {k : Lk} {F G : List Nat} {B : Nat} (h : Iv M L sp Lm τ k F G B) : ∃ v, f_X4_failures M = some (v, M) ∧ f_X5_failures M = some (v, mu M 39 0 0) ∧ Iv (mu M 39 0 0) L sp Lm τ k F G B := by
  have h39 := Iv_mu h (t := 39) (by decide) 0 0
  obtain ⟨f1, f2, f3, f4, f5, f6, f7, f8⟩ := h.2.2.2.2
  refine ⟨nI F.length, ?_, ?_, h39⟩
  · unfold f_X4_failures f_X4_failures_0
    rw [f1]
  · unfold f_X5_failures f_X5_failures_0
    rw [mu_at _ _ _ (by decide), f7, f6.length_eq]
theorem st_covering {M : Mem} {L sp Lm : List Nat} {τ : Tr} {k : Lk} {F G : List Nat} {B : Nat} (h : Iv M L sp Lm τ k F G B) (x : Int32) : ∃ M2, agree M M2 (fun m => f_L_covering m x) (fun m => f_X5_covering m x) ∧ Iv M2 L sp Lm τ k F G B := by
  cases hv : vpb x
  · refine ⟨mu M 39 0 1, ag_T (q := 1) (v := 0) (M1 := M) (wT_covering_A (M1 := M) ?_) ?_ (at39 _ _) (by decide), Iv_mu h (by decide) _ _⟩
    · unfold f_X4_covering f_X4_covering_0
      rw [reqPathC, hv]; rfl
    · show f_X5_covering M x = _
      unfold f_X5_covering f_X5_covering_0
      rw [asksM, hv]; rfl
  · obtain ⟨p, hp, rfl⟩ := vpb_of hv
    have h40 := Iv_mu h (t := 40) (by decide) 0 (ovl k p)
    have h39 := Iv_mu h40 (t := 39) (by decide) 0 0
    refine ⟨_, ag_R (v := ovl k p) (M1 := M) (M2 := mu (mu M 40 0 (ovl k p)) 39 0 0) (wR_covering ?_) ?_ (at39 _ _) (at40 _ _ _), h39⟩
    · unfold f_X4_covering f_X4_covering_0
      rw [reqPathC, hv, un_t, bdx_s, tokensOverC h.2.2.1 hp]; rfl
    · show f_X5_covering _ _ = _
      unfold f_X5_covering f_X5_covering_0
      rw [asksM, hv, bd2_s, if_neg (by decide), show thr true = 0 from rfl, setM h39.2.2.2.1 hp]; rfl
theorem mayChangeM_ok (M : Mem) (c x tks : Int32) : f_X5_mayChange M c x tks = f_X5_mayChange_24 M c x tks (thr (okC c && (vpb x && decide (0 ≤ tks)))) := by
  unfold f_X5_mayChange f_X5_mayChange_0 f_X5_mayChange_23
  rw [isClientM, bd2_s, isPathM, bd2_s, nneg]
  simp only [b2i_0]
  by_cases h3 : tks < 0 <;> cases okC c <;> cases vpb x <;> simp [h3, thr]
theorem st_mayChange {M : Mem} {L sp Lm : List Nat} {τ : Tr} {k : Lk} {F G : List Nat} {B : Nat} (h : Iv M L sp Lm τ k F G B) (c x tks : Int32) : ∃ M2, agree M M2 (fun m => f_L_mayChange m c x tks) (fun m => f_X5_mayChange m c x tks) ∧ Iv M2 L sp Lm τ k F G B := by
  cases hv : (okC c && (vpb x && decide (0 ≤ tks)))
  · refine ⟨mu M 39 0 1, ag_T (q := 1) (v := 0) (M1 := M) (wT_mayChange_A (M1 := M) ?_) ?_ (at39 _ _) (by decide), Iv_mu h (by decide) _ _⟩
    · unfold f_X4_mayChange f_X4_mayChange_0
      rw [reqClientC]
      simp only [reqPathC, reqNNC]
      cases h1 : okC c
      · rfl
      · cases h2 : vpb x
        · rfl
        · rw [h1, h2, Bool.true_and, Bool.true_and] at hv; rw [hv]; rfl
    · show f_X5_mayChange M c x tks = _
      rw [mayChangeM_ok, hv]
      unfold f_X5_mayChange_24
      rw [at39, if_neg (by decide)]; rfl
  · simp only [Bool.and_eq_true] at hv
    obtain ⟨p, hp, rfl⟩ := vpb_of hv.2.1
    have h40 := Iv_mu h (t := 40) (by decide) 0 (b2i (alw k c p tks))
    have h39 := Iv_mu h40 (t := 39) (by decide) 0 0
    refine ⟨_, ag_R (v := b2i (alw k c p tks)) (M1 := M) (M2 := mu (mu M 40 0 (b2i (alw k c p tks))) 39 0 0) (wR_mayChange ?_) ?_ (at39 _ _) (at40 _ _ _), h39⟩
    · unfold f_X4_mayChange f_X4_mayChange_0
      rw [reqClientC, hv.1, un_t, bdx_s, reqPathC, hv.2.1, un_t, bdx_s, reqNNC, hv.2.2, un_t, bdx_s, allowsC h.2.2.1 c hp tks, bd2_s, if_pos (b2i_and _)]
    · show f_X5_mayChange _ _ _ _ = _
      rw [mayChangeM_ok, hv.1, hv.2.1, hv.2.2]
      unfold f_X5_mayChange_24
      rw [show thr (true && (true && true)) = 0 from rfl, at39, if_pos rfl, mayM h39.2.2.2.1 c hp tks, bd2_s]
      cases alw k c p tks <;> simp [b2i]

/-! ===== keep, restore, lock ===== -/
theorem st_keep {M : Mem} {L sp Lm : List Nat} {τ : Tr} {k : Lk} {F G : List Nat} {B : Nat} (h : Iv M L sp Lm τ k F G B) (x : Int32) : ∃ M2, agree M M2 (fun m => f_L_keep m x) (fun m => f_X5_keep m x) ∧ Inv M2 B := by
  cases hv : vpb x
  · refine ⟨mu M 39 0 1, ag_T (q := 1) (v := 0) (M1 := M) (wT_keep_A (M1 := M) ?_) ?_ (at39 _ _) (by decide), ⟨_, _, _, _, _, _, _, Iv_mu h (by decide) _ _⟩⟩
    · unfold f_X4_keep f_X4_keep_0
      rw [reqPathC, hv]; rfl
    · show f_X5_keep M x = _
      unfold f_X5_keep f_X5_keep_0
      rw [asksM, hv]; rfl
  · obtain ⟨p, hp, rfl⟩ := vpb_of hv
    by_cases hf : p ∈ ta τ ∧ td τ p = 1
    · obtain ⟨r, hr, e1, e2, e3⟩ := file_yes h.1 hf.1 hf.2
      obtain ⟨-, -, -, d4, d5, -⟩ := h.1.2.2.2.2 r hr
      rw [e1] at d4 d5
      have eC : f_X4_keep M (nI p) = if tn τ p < 10 then bd2 (f_X2_addVersion M r) (fun r47 M47 => some (.inr r47, M47)) else some (.inl xS, M) := by
        unfold f_X4_keep f_X4_keep_0
        rw [reqPathC, hv, un_t, bdx_s, e3, bd2_s, oe_1, if_neg (by omega), d4, show (10 : Int32) = nI 10 from rfl]
        simp only [lt' (show tn τ p < 2147483648 by omega) (show 10 < 2147483648 by decide)]
      by_cases hn : tn τ p < 10
      · obtain ⟨a1, a2⟩ := TC_keep h.1 hr (by rw [e1]; exact hn)
        rw [e1] at a1 a2
        rw [if_pos hn, a1, bd2_s] at eC
        have hs1 : ∀ t, t < 8 ∨ (8 < t ∧ t < 100) → mu (mu M (100 + r) (tn τ p) (M 6 r)) 8 r (nI (tn τ p + 1)) t = M t := fun t ht => by rw [mu_ne _ _ _ (by omega), mu_ne _ _ _ (by omega)]
        generalize mu (mu M (100 + r) (tn τ p) (M 6 r)) 8 r (nI (tn τ p + 1)) = M1 at eC a2 hs1
        have hN : ∀ t, t < 8 ∨ (8 < t ∧ t < 39) → mu (mu (mu M1 40 0 (nI (tn τ p))) 39 0 0) 39 0 0 t = M t := fun t ht => by rw [mu_ne _ _ _ (by omega), mu_ne _ _ _ (by omega), mu_ne _ _ _ (by omega), hs1 t (by omega)]
        have hm0 : MT (mu (mu M1 40 0 (nI (tn τ p))) 39 0 0) Lm τ B := MT_cong h.2.1 (fun t _ _ => by rw [mu_ne _ _ _ (by omega), mu_ne _ _ _ (by omega), hs1 t (by omega)])
        have hm : MT (mu (mu (mu M1 40 0 (nI (tn τ p))) 39 0 0) 39 0 0) Lm τ B := MT_cong h.2.1 (fun t _ _ => hN t (by omega))
        have hk : LM (mu (mu (mu M1 40 0 (nI (tn τ p))) 39 0 0) 39 0 0) k := LM_cong h.2.2.2.1 (fun t _ _ => hN t (by omega))
        obtain ⟨s, g1, g2, g3, g4, g5, g6⟩ := place_yes hm0 hf.1
        have g4' : pM (mu (mu (mu M1 40 0 (nI (tn τ p))) 39 0 0) 39 0 0) s = p := g4
        have hm2 := MT_keep hm g1 (by rw [g4']; exact hn)
        rw [g4'] at hm2
        obtain ⟨c1, c2, c3, c4, c5, c6⟩ := hm0.2.2.2.2.1 s g1
        rw [g4] at c1 c3 c4 c5
        have eM : f_X5_keep (mu M1 40 0 (nI (tn τ p))) (nI p) = some (nI (tn τ p), kpM (mu (mu (mu M1 40 0 (nI (tn τ p))) 39 0 0) 39 0 0) s (tn τ p)) := by
          unfold f_X5_keep f_X5_keep_0 f_X5_keep_45 f_X5_keep_46
          rw [asksM, hv, bd2_s, if_neg (by decide), show thr true = 0 from rfl, g6, bd2_s]
          simp only [gi g2 (show 60 < 2147483648 by decide)]
          rw [if_neg (nI_pos (by omega)), cl' (by omega), c1, if_pos hf.2, c4, if_neg (by rw [show (10 : Int32) = nI 10 from rfl, le' (by decide) (by omega)]; omega), if_neg (by decide)]
          unfold f_X5_keep_57
          rw [if_neg (by decide)]
          generalize mu (mu M1 40 0 (nI (tn τ p))) 39 0 0 = N at c4
          have c4' : mu N 39 0 0 26 s = nI (tn τ p) := by rw [mu_at _ _ _ (by decide)]; exact c4
          simp only [gi g2 (show 60 < 2147483648 by decide)]
          simp only [cl' (show s < 2147483648 by omega), c4', show (10 : Int32) = nI 10 from rfl, nI_mul, nI_add]
          rw [gi (show 10 * s + tn τ p < 600 by omega) (by decide), cl' (show 10 * s + tn τ p < 2147483648 by omega)]
          rw [mu_self, mu_at _ _ _ (show 26 ≠ 27 by decide), c4', nI_1, show (1 : Int32) = nI 1 from rfl, pk_sub (by omega), Nat.add_sub_cancel]
          rfl
        have n39 : mu (mu (mu M1 40 0 (nI (tn τ p))) 39 0 0) 39 0 0 39 0 = 0 := at39 _ _
        have n40 : mu (mu (mu M1 40 0 (nI (tn τ p))) 39 0 0) 39 0 0 40 0 = nI (tn τ p) := by rw [mu_at _ _ _ (by decide), at40]
        have nC : ∀ t, t < 39 ∨ 100 ≤ t → mu (mu (mu M1 40 0 (nI (tn τ p))) 39 0 0) 39 0 0 t = M1 t := fun t ht => by rw [mu_ne _ _ _ (by omega), mu_ne _ _ _ (by omega), mu_ne _ _ _ (by omega)]
        generalize mu (mu (mu M1 40 0 (nI (tn τ p))) 39 0 0) 39 0 0 = N at eM hN hm hk n39 n40 nC hm2
        have hkp : ∀ t, t ≠ 26 ∧ t ≠ 27 → kpM N s (tn τ p) t = N t := fun t ht => by unfold kpM; rw [mu_ne _ _ _ ht.1, mu_ne _ _ _ ht.2]
        refine ⟨_, ag_R (v := nI (tn τ p)) (M1 := M1) (wR_keep eC) eM ?_ ?_, ⟨L, sp, Lm, tkeep τ p, k, F, G, TC_cong a2 (fun t ht => ?_), hm2, LC_cong h.2.2.1 (fun t _ _ => ?_), LM_cong hk (fun t _ _ => ?_), FL_cong h.2.2.2.2 (fun t ht => ?_)⟩⟩
        · rw [hkp 39 (by omega), n39]
        · rw [hkp 40 (by omega), n40]
        · rw [hkp t (by omega), nC t (by omega)]
        · rw [hkp t (by omega), hN t (by omega)]
        · rw [hkp t (by omega)]
        · rw [hkp t (by omega), hN t (by omega)]
      · rw [if_neg hn] at eC
        have h39 := Iv_mu (Iv_mu h (t := 39) (by decide) 0 0) (t := 39) (by decide) 0 2
        have hm := (Iv_mu h (t := 39) (by decide) 0 0).2.1
        refine ⟨_, ag_T (q := 2) (v := 0) (M1 := M) (wT_keep_S eC) ?_ (at39 _ _) (by decide), ⟨_, _, _, _, _, _, _, h39⟩⟩
        show f_X5_keep M (nI p) = _
        obtain ⟨s, g1, g2, g3, g4, g5, g6⟩ := place_yes hm hf.1
        obtain ⟨c1, c2, c3, c4, c5, c6⟩ := hm.2.2.2.2.1 s g1
        rw [g4] at c1 c3 c4 c5
        unfold f_X5_keep f_X5_keep_0 f_X5_keep_45 f_X5_keep_46 f_X5_keep_57
        rw [asksM, hv, bd2_s, if_neg (by decide), show thr true = 0 from rfl, g6, bd2_s]
        simp only [gi g2 (show 60 < 2147483648 by decide)]
        rw [if_neg (nI_pos (by omega)), cl' (by omega), c1, if_pos hf.2, c4, if_pos (by rw [show (10 : Int32) = nI 10 from rfl, le' (by decide) (by omega)]; omega)]
        rfl
    · have h39 := Iv_mu (Iv_mu h (t := 39) (by decide) 0 0) (t := 39) (by decide) 0 2
      have hm := (Iv_mu h (t := 39) (by decide) 0 0).2.1
      refine ⟨_, ag_T (q := 2) (v := 0) (M1 := M) (wT_keep_S (M1 := M) ?_) ?_ (at39 _ _) (by decide), ⟨_, _, _, _, _, _, _, h39⟩⟩
      · unfold f_X4_keep f_X4_keep_0
        rw [reqPathC, hv, un_t, bdx_s, file_no h.1 hp hf, bd2_s, oe_0]
      · show f_X5_keep M (nI p) = _
        unfold f_X5_keep f_X5_keep_0 f_X5_keep_45 f_X5_keep_46 f_X5_keep_57
        rw [asksM, hv, bd2_s, if_neg (by decide), show thr true = 0 from rfl]
        by_cases hy : p ∈ ta τ
        · obtain ⟨s, g1, g2, g3, g4, g5, g6⟩ := place_yes hm hy
          have c1 := (hm.2.2.2.2.1 s g1).1
          rw [g4] at c1
          rw [g6, bd2_s]
          simp only [gi g2 (show 60 < 2147483648 by decide)]
          rw [if_neg (nI_pos (by omega)), cl' (by omega), c1, if_neg (fun z => hf ⟨hy, z⟩)]
          rfl
        · rw [place_no hm hp hy, bd2_s, if_pos (by decide)]
          rfl
/-! restore -/
def pvV (c x v tks : Int32) : Bool := okC c && (vpb x && (decide (0 ≤ v) && decide (0 ≤ tks)))
theorem restoreM_pv (M : Mem) (c x v tks : Int32) : f_X5_restore M c x v tks = f_X5_restore_29 M c x v tks (thr (pvV c x v tks)) := by
  unfold f_X5_restore f_X5_restore_0 f_X5_restore_28 pvV
  rw [isClientM, bd2_s, isPathM, bd2_s, nneg, nneg]
  simp only [b2i_0]
  by_cases h3 : v < 0 <;> by_cases h4 : tks < 0 <;> cases okC c <;> cases vpb x <;> simp [h3, h4, thr]
def oRs (k : Lk) (τ : Tr) (c : Int32) (p v : Nat) (tks : Int32) : Int32 := if (p ∈ ta τ ∧ td τ p = 1) ∧ v < tn τ p then (if alw k c p tks = true then 0 else 4) else 1
theorem oRs_1 {k : Lk} {τ : Tr} {c : Int32} {p v : Nat} {tks : Int32} (h : ¬ ((p ∈ ta τ ∧ td τ p = 1) ∧ v < tn τ p)) : oRs k τ c p v tks = 1 := if_neg h
theorem oRs_4 {k : Lk} {τ : Tr} {c : Int32} {p v : Nat} {tks : Int32} (h : (p ∈ ta τ ∧ td τ p = 1) ∧ v < tn τ p) (h2 : alw k c p tks = false) : oRs k τ c p v tks = 4 := by unfold oRs; rw [if_pos h, h2, if_neg (by decide)]
theorem oRs_0 {k : Lk} {τ : Tr} {c : Int32} {p v : Nat} {tks : Int32} (h : (p ∈ ta τ ∧ td τ p = 1) ∧ v < tn τ p) (h2 : alw k c p tks = true) : oRs k τ c p v tks = 0 := by unfold oRs; rw [if_pos h, h2, if_pos rfl]
theorem st_restore {M : Mem} {L sp Lm : List Nat} {τ : Tr} {k : Lk} {F G : List Nat} {B : Nat} (h : Iv M L sp Lm τ k F G B) (c x y tks : Int32) : ∃ M2, agree M M2 (fun m => f_L_restore m c x y tks) (fun m => f_X5_restore m c x y tks) ∧ Inv M2 B := by
  cases hv : pvV c x y tks
  · refine ⟨mu M 39 0 1, ag_T (q := 1) (v := 0) (M1 := M) (wT_restore_A (M1 := M) ?_) ?_ (at39 _ _) (by decide), ⟨_, _, _, _, _, _, _, Iv_mu h (by decide) _ _⟩⟩
    · unfold f_X4_restore f_X4_restore_0
      unfold pvV at hv
      rw [reqClientC]
      simp only [reqPathC, reqNNC]
      cases h1 : okC c
      · rfl
      · cases h2 : vpb x
        · rfl
        · cases h3 : decide ((0 : Int32) ≤ y)
          · rfl
          · rw [h1, h2, h3] at hv
            have hv : decide ((0 : Int32) ≤ tks) = false := by simpa using hv
            rw [hv]; rfl
    · show f_X5_restore M c x y tks = _
      rw [restoreM_pv, hv]
      unfold f_X5_restore_29
      rw [at39, if_neg (by decide)]; rfl
  · have hv2 := hv
    unfold pvV at hv2
    simp only [Bool.and_eq_true] at hv2
    obtain ⟨v1, v2, v3, v4⟩ := hv2
    obtain ⟨p, hp, rfl⟩ := vpb_of v2
    obtain ⟨v, hvb, rfl⟩ := nI_ofNN (x := y) (by simpa using v3)
    have eC : ∃ M1, f_X4_restore M c (nI p) (nI v) tks = some (.inr (oRs k τ c p v tks), M1) ∧ (oRs k τ c p v tks = 0 → TC M1 L sp (tcon τ p (tv τ p v))) ∧ (oRs k τ c p v tks ≠ 0 → M1 = M) ∧ ∀ t, t ≠ 6 → M1 t = M t := by
      unfold f_X4_restore f_X4_restore_0
      rw [reqClientC, v1, un_t, bdx_s, reqPathC, v2, un_t, bdx_s, reqNNC, v3, un_t, bdx_s, reqNNC, v4, un_t, bdx_s]
      by_cases hf : p ∈ ta τ ∧ td τ p = 1
      · obtain ⟨r, hr, e1, e2, e3⟩ := file_yes h.1 hf.1 hf.2
        obtain ⟨-, d2, -, d4, d5, d6⟩ := h.1.2.2.2.2 r hr
        rw [e1] at d2 d4 d5 d6
        have eh : f_X2_versionAt M r (nI v) = some (if v < tn τ p then tv τ p v else -1, M) := by
          unfold f_X2_versionAt f_X2_versionAt_0
          rw [d4, if_neg (nI_pos (by omega)), show (10 : Int32) = nI 10 from rfl]
          simp only [le' (show tn τ p < 2147483648 by omega) hvb, lt' hvb (show 10 < 2147483648 by decide)]
          by_cases q : v < tn τ p
          · rw [if_neg (by omega), if_pos (by omega), gi (show v < 10 by omega) (by decide), cl' hvb, d6 v q, if_pos q]
          · rw [if_pos (by omega), if_neg q]
        rw [e3, bd2_s, oe_1, if_neg (by omega), eh, bd2_s]
        unfold f_X4_restore_42
        rw [oe_1]
        by_cases q : v < tn τ p
        · rw [if_pos q, if_neg (d2.2.2 v q), allowsC h.2.2.1 c hp tks, bd2_s]
          simp only [b2i_0]
          cases q2 : alw k c p tks
          · rw [oRs_4 ⟨hf, q⟩ q2, if_pos rfl]
            exact ⟨M, rfl, fun z => absurd z (by decide), fun _ => rfl, fun _ _ => rfl⟩
          · rw [oRs_0 ⟨hf, q⟩ q2, if_neg (by decide)]
            have := TC_con h.1 hr (c := tv τ p v) (d2.2.2 v q)
            rw [e1] at this
            exact ⟨_, rfl, fun _ => this, fun z => absurd rfl z, fun t ht => mu_ne _ _ _ ht⟩
        · rw [oRs_1 (fun z => q z.2), if_neg q, if_pos rfl]
          exact ⟨M, rfl, fun z => absurd z (by decide), fun _ => rfl, fun _ _ => rfl⟩
      · rw [file_no h.1 hp hf, bd2_s, oe_0, oRs_1 (fun z => hf z.1)]
        unfold f_X4_restore_42
        exact ⟨M, rfl, fun z => absurd z (by decide), fun _ => rfl, fun _ _ => rfl⟩
    obtain ⟨M1, eC, c1, c2, c3⟩ := eC
    have hN : ∀ t, t ≠ 6 ∧ t < 39 → mu (mu M1 40 0 (oRs k τ c p v tks)) 39 0 0 t = M t := fun t ht => by rw [mu_ne _ _ _ (by omega), mu_ne _ _ _ (by omega), c3 t (by omega)]
    have hm : MT (mu (mu M1 40 0 (oRs k τ c p v tks)) 39 0 0) Lm τ B := MT_cong h.2.1 (fun t _ _ => hN t (by omega))
    have hk : LM (mu (mu M1 40 0 (oRs k τ c p v tks)) 39 0 0) k := LM_cong h.2.2.2.1 (fun t _ _ => hN t (by omega))
    have n39 : mu (mu M1 40 0 (oRs k τ c p v tks)) 39 0 0 39 0 = 0 := at39 _ _
    have n40 : mu (mu M1 40 0 (oRs k τ c p v tks)) 39 0 0 40 0 = oRs k τ c p v tks := at40 _ _ _
    have nC : ∀ t, t < 39 ∨ 100 ≤ t → mu (mu M1 40 0 (oRs k τ c p v tks)) 39 0 0 t = M1 t := fun t ht => by rw [mu_ne _ _ _ (by omega), mu_ne _ _ _ (by omega)]
    have eM : ∃ M2, f_X5_restore (mu M1 40 0 (oRs k τ c p v tks)) c (nI p) (nI v) tks = some (oRs k τ c p v tks, M2) ∧ (oRs k τ c p v tks = 0 → MT M2 Lm (tcon τ p (tv τ p v)) B) ∧ (oRs k τ c p v tks ≠ 0 → M2 = mu (mu M1 40 0 (oRs k τ c p v tks)) 39 0 0) ∧ ∀ t, t ≠ 23 → M2 t = mu (mu M1 40 0 (oRs k τ c p v tks)) 39 0 0 t := by
      rw [restoreM_pv, hv]
      unfold f_X5_restore_29 f_X5_restore_79 f_X5_restore_80 f_X5_restore_107
      rw [show thr true = 0 from rfl, at39, if_pos (by decide)]
      generalize mu (mu M1 40 0 (oRs k τ c p v tks)) 39 0 0 = N at hm hk
      by_cases hy : p ∈ ta τ
      · obtain ⟨s, g1, g2, g3, g4, g5, g6⟩ := place_yes hm hy
        obtain ⟨d1, d2, d3, d4, d5, d6⟩ := hm.2.2.2.2.1 s g1
        rw [g4] at d1 d2 d4 d5 d6
        rw [g6, bd2_s]
        simp only [gi g2 (show 60 < 2147483648 by decide), mayM hk c hp tks, bd2_s]
        rw [if_neg (nI_pos (by omega)), cl' (by omega), d1, d4]
        simp only [le' (show tn τ p < 2147483648 by omega) hvb, b2i_0, one_ne, if_false]
        by_cases hf : td τ p = 1
        · by_cases q : v < tn τ p
          · cases q2 : alw k c p tks
            · rw [oRs_4 ⟨⟨hy, hf⟩, q⟩ q2, if_pos hf, if_neg (show ¬ tn τ p ≤ v by omega), if_pos rfl]
              exact ⟨N, rfl, fun z => absurd z (by decide), fun _ => rfl, fun _ _ => rfl⟩
            · rw [oRs_0 ⟨⟨hy, hf⟩, q⟩ q2, if_pos hf, if_neg (show ¬ tn τ p ≤ v by omega), if_neg (by decide), if_pos True.intro, show (10 : Int32) = nI 10 from rfl, nI_mul, nI_add, gi (show 10 * s + v < 600 by omega) (by decide), cl' (by omega), show N 27 (10 * s + v) = tv τ p v from d6 v q]
              have := MT_con hm g1 (c := tv τ p v) (d2.2.2 v q)
              rw [g4] at this
              exact ⟨_, rfl, fun _ => this, fun z => absurd rfl z, fun t ht => mu_ne _ _ _ ht⟩
          · rw [oRs_1 (fun z => q z.2), if_pos hf, if_pos (show tn τ p ≤ v by omega)]
            exact ⟨N, rfl, fun z => absurd z (by decide), fun _ => rfl, fun _ _ => rfl⟩
        · rw [oRs_1 (fun z => hf z.1.2), if_neg hf]
          exact ⟨N, rfl, fun z => absurd z (by decide), fun _ => rfl, fun _ _ => rfl⟩
      · rw [place_no hm hp hy, bd2_s, if_pos (by decide), oRs_1 (fun z => hy z.1.1)]
        exact ⟨N, rfl, fun z => absurd z (by decide), fun _ => rfl, fun _ _ => rfl⟩
    obtain ⟨M2, eM, b1, b2, b3⟩ := eM
    refine ⟨M2, ag_R (v := oRs k τ c p v tks) (M1 := M1) (wR_restore eC) eM ?_ ?_, ?_⟩
    · rw [b3 39 (by decide), n39]
    · rw [b3 40 (by decide), n40]
    · by_cases q : oRs k τ c p v tks = 0
      · refine ⟨L, sp, Lm, tcon τ p (tv τ p v), k, F, G, TC_cong (c1 q) (fun t ht => ?_), b1 q, LC_cong h.2.2.1 (fun t _ _ => ?_), LM_cong hk (fun t _ _ => ?_), FL_cong h.2.2.2.2 (fun t ht => ?_)⟩
        · rw [b3 t (by omega), nC t (by omega)]
        · rw [b3 t (by omega), hN t (by omega)]
        · rw [b3 t (by omega)]
        · rw [b3 t (by omega), hN t (by omega)]
      · rw [b2 q, c2 q]
        exact ⟨_, _, _, _, _, _, _, Iv_mu (Iv_mu h (t := 40) (by decide) 0 _) (t := 39) (by decide) 0 0⟩

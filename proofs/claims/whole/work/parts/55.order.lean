/-! ===== order ===== -/
theorem MT_ta {M : Mem} {L : List Nat} {τ : Tr} {B : Nat} (h : MT M L τ B) {a : List Nat} (ha : eqv (L.map (pM M)) a) : MT M L (a, τ.2) B := by
  have hnd := MT_nd h
  obtain ⟨h1, h2, h3, h4, h5, h6, h7, h8, h9, h10⟩ := h
  exact ⟨h1, h2, ha, (eqv_perm ha).nodup_iff.mp hnd, h5, h6, h7, h8, h9, h10⟩
theorem TC_ta {M : Mem} {L sp : List Nat} {τ : Tr} (h : TC M L sp τ) {a : List Nat} (ha : eqv (L.map (pC M)) a) : TC M L sp (a, τ.2) := by
  have hnd := TC_nd h
  obtain ⟨h1, h2, h3, h4, h5⟩ := h
  exact ⟨h1, h2, ha, (eqv_perm ha).nodup_iff.mp hnd, h5⟩
def lstM (M : Mem) (s : Nat) : Mem := mu (mu M 25 0 (M 25 0 + 1)) 24 s (M 25 0 + 1)
theorem lstM_ne (M : Mem) (s : Nat) {t : Nat} (h : t ≠ 24 ∧ t ≠ 25) : lstM M s t = M t := by unfold lstM; rw [mu_ne _ _ _ h.1, mu_ne _ _ _ h.2]
/-- a place becomes the last one -/
theorem MT_last {M : Mem} {A R : List Nat} {s : Nat} {τ : Tr} {B : Nat} (h : MT M (A ++ s :: R) τ B) (hB : B + 1 ≤ 1000000) {a : List Nat} (ha : eqv ((A ++ R ++ [s]).map (pM M)) a) : MT (lstM M s) (A ++ R ++ [s]) (a, τ.2) (B + 1) := by
  have hnd := MT_nd h
  have hndL := MT_ndL h
  obtain ⟨h1, h2, h3, h4, h5, h6, h7, h8, h9, h10⟩ := h
  have hp : (A ++ R ++ [s]).Perm (A ++ s :: R) := by
    rw [List.append_assoc]
    exact List.Perm.append_left A List.perm_append_comm
  have ep : pM (lstM M s) = pM M := by funext x; unfold pM; rw [lstM_ne _ _ (by decide)]
  have eu : us (lstM M s) = us M := by funext x; unfold us; rw [lstM_ne _ _ (by decide)]
  have hrn : M 25 0 + 1 = nI (rn M + 1) := by rw [h8, nI_1]
  have e24 : ∀ x, lstM M s 24 x = if x = s then nI (rn M + 1) else M 24 x := fun x => by unfold lstM; rw [mu_x, hrn, mu_at _ _ _ (by decide)]
  have e25 : lstM M s 25 0 = nI (rn M + 1) := by unfold lstM; rw [mu_at _ _ _ (by decide), mu_self, hrn]
  have ern : rn (lstM M s) = rn M + 1 := by show (lstM M s 25 0).toNatClampNeg = _; rw [e25, cl' (by omega)]
  have ers : rM (lstM M s) s = rn M + 1 := by show (lstM M s 24 s).toNatClampNeg = _; rw [e24, if_pos rfl, cl' (by omega)]
  have er : ∀ x, x ≠ s → rM (lstM M s) x = rM M x := fun x hx => by show (lstM M s 24 x).toNatClampNeg = _; rw [e24, if_neg hx]; rfl
  have hsA : ∀ x ∈ A ++ R, x ≠ s := fun x hx z => by
    subst z
    have : (A ++ R ++ [x]).Nodup := hp.nodup_iff.mpr hndL
    rw [List.nodup_append] at this
    exact this.2.2 x hx x (by simp) rfl
  refine ⟨by rw [eu]; exact hp.trans h1, fun x hx => by rw [lstM_ne _ _ (by decide), ep]; exact h2 x (hp.mem_iff.mp hx), by rw [ep]; exact ha, ?_, fun x hx => ?_, fun x hx => ?_, ?_, by rw [e25, ern], by rw [ern]; omega, hB⟩
  · show a.Nodup
    rw [← (eqv_perm ha).nodup_iff, (hp.map (pM M)).nodup_iff]
    exact hnd
  · rw [lstM_ne _ _ (by decide), lstM_ne _ _ (by decide), lstM_ne _ _ (by decide), lstM_ne _ _ (by decide), ep]
    exact h5 x (hp.mem_iff.mp hx)
  · rw [e24, ern]
    by_cases z : x = s
    · subst z; rw [if_pos rfl, ers]; exact ⟨rfl, Nat.le_refl _⟩
    · rw [if_neg z, er x z]
      have := h6 x (hp.mem_iff.mp hx)
      exact ⟨this.1, by omega⟩
  · rw [List.pairwise_append]
    refine ⟨?_, by simp, fun x hx c hc => ?_⟩
    · have hpw : (A ++ R).Pairwise (fun a c => rM M a < rM M c) := by
        refine List.Pairwise.sublist ?_ h7
        exact List.Sublist.append_left (List.sublist_cons_self s R) A
      refine List.Pairwise.imp_of_mem ?_ hpw
      intro x y hx hy hxy
      rw [er x (hsA x hx), er y (hsA y hy)]; exact hxy
    · simp at hc; subst hc
      rw [er x (hsA x hx), ers]
      have hxm : x ∈ A ++ c :: R := by
        rcases List.mem_append.mp hx with z | z <;> simp [z]
      have := (h6 x hxm).2; omega
theorem fil_last {M : Mem} {A R : List Nat} {s q : Nat} (hq : par q (pM M s) = false) : ((A ++ R ++ [s]).map (pM M)).filter (par q) = ((A ++ s :: R).map (pM M)).filter (par q) := by
  rw [List.map_append, List.filter_append, List.map_singleton, List.filter_cons_of_neg (by simp [hq]), List.filter_nil, List.append_nil, List.map_append, List.filter_append, List.map_append, List.map_cons, List.filter_append, List.filter_cons_of_neg (by simp [hq])]
theorem par_uq {p q q' : Nat} (h : par q p = true) (hq : q' ≠ q) : par q' p = false := by
  have h : p / 10 = q := by simpa [par] using h
  simp [par]; omega
theorem orderM_loop {p w : Nat} (hp : p ≤ 9999) {x7 : Int32} {X : List Nat} (hX : X.length = w) (hw : w < 2147483648) : ∀ (U V : List Nat) (M : Mem) (Lm : List Nat) (τ : Tr) (n B i : Nat), MT M Lm τ B → B + U.length ≤ 1000000 → (Lm.map (pM M)).filter (par (p / 10)) = X ++ U ++ V → U.length < n → i + U.length < 2147483648 →
    ∃ M' Lm', f_X5_order_123 n M (nI p) (nI w) x7 (nI (i + U.length)) (nI i) = some (x7, M') ∧ MT M' Lm' (Lm'.map (pM M'), τ.2) (B + U.length) ∧ (Lm'.map (pM M')).filter (par (p / 10)) = X ++ V ++ U ∧ (∀ q, q ≠ p / 10 → (Lm'.map (pM M')).filter (par q) = (Lm.map (pM M)).filter (par q)) ∧ same M M' (fun t => t = 24 ∨ t = 25) := by
  intro U
  induction U with
  | nil =>
    intro V M Lm τ n B i h hB hf hn hi
    obtain ⟨n, rfl⟩ : ∃ j, n = j + 1 := ⟨n - 1, by omega⟩
    refine ⟨M, Lm, ?_, MT_ta h (eqv_rf _), ?_, fun q _ => rfl, same_rf _ _⟩
    · show f_X5_order_123B (f_X5_order_123 n) M (nI p) (nI w) x7 (nI (i + 0)) (nI i) = _
      unfold f_X5_order_123B
      rw [Nat.add_zero]
      simp only [le' (show i < 2147483648 by simpa using hi) (show i < 2147483648 by simpa using hi)]
      rw [if_pos (Nat.le_refl _)]
    · rw [hf]; simp
  | cons u U ih =>
    intro V M Lm τ n B i h hB hf hn hi
    obtain ⟨n, rfl⟩ : ∃ j, n = j + 1 := ⟨n - 1, by omega⟩
    simp only [List.length_cons] at hB hn hi
    have hget : ((Lm.map (pM M)).filter (par (p / 10)))[w]? = some u := by
      rw [hf, ← hX, List.append_assoc]
      exact get_mid X u (U ++ V)
    obtain ⟨A, s, R, e1, e2, e3, e4⟩ := nth_split _ _ _ _ _ hget
    subst e1
    have hps : par (p / 10) (pM M s) = true := by rw [e2]; exact e3
    have hmo := memberOf_yes h (q := p / 10) (by omega) hps
    rw [e4] at hmo
    have hs60 := ((MT_in h).mp (show s ∈ A ++ s :: R by simp)).1
    have hM1 := MT_last h (by omega) (eqv_rf ((A ++ R ++ [s]).map (pM M)))
    have ep : pM (lstM M s) = pM M := by funext x; unfold pM; rw [lstM_ne _ _ (by decide)]
    have hfA : (A.map (pM M)).filter (par (p / 10)) = X ∧ (R.map (pM M)).filter (par (p / 10)) = U ++ V := by
      rw [List.map_append, List.map_cons, List.filter_append, List.filter_cons_of_pos hps, e2, List.append_assoc] at hf
      have := List.append_inj hf (by rw [filter_map_len, e4, hX])
      refine ⟨this.1, ?_⟩
      have h2 := this.2
      simpa using h2
    have hf1 : ((A ++ R ++ [s]).map (pM (lstM M s))).filter (par (p / 10)) = X ++ U ++ (V ++ [u]) := by
      rw [ep, List.map_append, List.filter_append, List.map_append, List.filter_append, hfA.1, hfA.2, List.map_singleton, List.filter_cons_of_pos hps, List.filter_nil, e2]
      simp
    obtain ⟨M', Lm', a1, a2, a3, a4, a5⟩ := ih (V ++ [u]) (lstM M s) (A ++ R ++ [s]) _ n (B + 1) (i + 1) hM1 (by omega) hf1 (by omega) (by omega)
    refine ⟨M', Lm', ?_, ?_, ?_, fun q hq => ?_, same_tr (fun t ht => lstM_ne _ _ ⟨fun z => ht (Or.inl z), fun z => ht (Or.inr z)⟩) a5⟩
    · show f_X5_order_123B (f_X5_order_123 n) M (nI p) (nI w) x7 (nI (i + (U.length + 1))) (nI i) = _
      unfold f_X5_order_123B
      simp only [le' (show i + (U.length + 1) < 2147483648 by omega) (show i < 2147483648 by omega)]
      rw [if_neg (by omega), div10 (by omega), hmo, bd2_s, gi hs60 (by decide), cl' (by omega), nI_1, mu_self]
      rw [show i + (U.length + 1) = i + 1 + U.length by omega]
      exact a1
    · rw [show B + (u :: U).length = B + 1 + U.length by rw [List.length_cons]; omega]
      exact a2
    · rw [a3]; simp
    · rw [a4 q hq, ep]
      exact fil_last (par_uq hps hq)
theorem sub_neg {a c : Nat} (ha : a < 2147483648) (hc : c < 2147483648) (h : a ≤ c) : nI a - nI c ≤ 0 := by
  rw [Int32.le_iff_toInt_le, Int32.toInt_sub, nI_toInt (by omega), nI_toInt (by omega)]
  rw [show (0 : Int32).toInt = 0 from by decide]
  have : ((a : Int) - c).bmod (2 ^ 32) = (a : Int) - c := by
    apply Int.bmod_eq_of_le <;> omega
  rw [this]
  omega
def pvO (c x y tks : Int32) : Bool := okR c x tks && decide (0 ≤ y)
theorem orderM_pv (M : Mem) (c x y tks : Int32) : f_X5_order M c x y tks = f_X5_order_33 (mu M 39 0 (thr (okR c x tks))) c x y tks (b2i (pvO c x y tks)) (thr (pvO c x y tks)) := by
  unfold f_X5_order f_X5_order_0 f_X5_order_19 f_X5_order_20 pvO
  rw [isRightM, bd2_s, nneg]
  simp only [b2i_0]
  by_cases h3 : y < 0 <;> cases okR c x tks <;> simp [h3, b2i, thr]
theorem st_order {M : Mem} {L sp Lm : List Nat} {τ : Tr} {k : Lk} {F G : List Nat} {B : Nat} (h : Iv M L sp Lm τ k F G B) (hB : B + 200 ≤ 1000000) (c x y tks : Int32) : ∃ M2, agree M M2 (fun m => f_L_order m c x y tks) (fun m => f_X5_order m c x y tks) ∧ Inv M2 (B + 200) := by
  have h' := Iv_le h (show B ≤ B + 200 by omega) hB
  cases hv : pvO c x y tks
  · have h39 := Iv_mu h' (t := 39) (by decide) 0 (thr (okR c x tks))
    refine ⟨mu (mu M 39 0 (thr (okR c x tks))) 39 0 1, ag_T (q := 1) (v := 0) (M1 := M) (wT_order_A (M1 := M) ?_) ?_ (at39 _ _) (by decide), ⟨_, _, _, _, _, _, _, Iv_mu h39 (by decide) _ _⟩⟩
    · unfold f_X4_order f_X4_order_0
      unfold pvO okR at hv
      rw [reqClientC]
      simp only [reqNameC, reqNNC]
      cases h1 : okC c
      · rfl
      · cases h2 : okN x
        · rfl
        · cases h3 : decide ((0 : Int32) ≤ y)
          · rfl
          · rw [h1, h2, h3] at hv
            have hv : decide ((0 : Int32) ≤ tks) = false := by simpa using hv
            rw [hv]; rfl
    · show f_X5_order M c x y tks = _
      rw [orderM_pv, hv]; rfl
  · have hv2 := hv
    unfold pvO at hv2
    simp only [Bool.and_eq_true] at hv2
    obtain ⟨v1, v2, v3, -, p, hp0, hp, rfl⟩ := okR_of hv2.1
    obtain ⟨w, hw, rfl⟩ := nI_ofNN (x := y) (by simpa using hv2.2)
    have eC : f_X4_order M c (nI p) (nI w) tks = if p ∈ ta τ then (if alw k c (p / 10) tks = true then bd1 (f_X3_placeMember M (nI p) (nI w)) (fun M55 => some (.inr 0, M55)) else some (.inr 4, M)) else some (.inr 1, M) := by
      unfold f_X4_order f_X4_order_0
      rw [reqClientC, v1, un_t, bdx_s, reqNameC, v2, un_t, bdx_s, reqNNC, hv2.2, un_t, bdx_s, reqNNC, v3, un_t, bdx_s]
      by_cases hy : p ∈ ta τ
      · obtain ⟨L1, L2, r, -, -, e2, -, e3⟩ := find_yes h.1 hy
        rw [e3, bd2_s, oe_1, if_neg (by omega), parentC M hp, bd2_s, allowsC h.2.2.1 c (show p / 10 ≤ 9999 by omega) tks, bd2_s, if_pos hy]
        cases alw k c (p / 10) tks <;> rfl
      · rw [(find_no h.1 hp hy).2, bd2_s, oe_0, if_neg hy]
    by_cases hy : p ∈ ta τ
    · cases ha : alw k c (p / 10) tks
      · rw [if_pos hy, ha, if_neg (by decide)] at eC
        have h39 := Iv_mu (Iv_mu (Iv_mu h' (t := 40) (by decide) 0 4) (t := 39) (by decide) 0 0) (t := 39) (by decide) 0 0
        refine ⟨_, ag_R (v := 4) (M1 := M) (wR_order eC) ?_ (at39 _ _) (by rw [mu_at _ _ _ (by decide), at40]), ⟨_, _, _, _, _, _, _, h39⟩⟩
        show f_X5_order _ _ _ _ _ = _
        rw [orderM_pv, hv, hv2.1, show thr true = 0 from rfl]
        unfold f_X5_order_33 f_X5_order_78
        obtain ⟨s, g1, g2, g3, g4, g5, g6⟩ := place_yes h39.2.1 hy
        rw [if_neg (by decide), g6, bd2_s, if_pos (nI_pos' (by omega)), div10 (by omega), mayM h39.2.2.2.1 c (show p / 10 ≤ 9999 by omega) tks, bd2_s, ha, if_pos (show b2i false = 0 from rfl), if_neg (show ¬ (4 : Int32) = 0 by decide)]
      · rw [if_pos hy, ha, if_pos rfl] at eC
        obtain ⟨M1, L', a1, a2, a3, a4, a5, a6⟩ := placeC h.1 hy hw
        rw [a1, bd1_s] at eC
        have hN : ∀ t, t ≠ 3 ∧ t < 39 → mu (mu (mu M1 40 0 0) 39 0 0) 39 0 0 t = M t := fun t ht => by rw [mu_ne _ _ _ (by omega), mu_ne _ _ _ (by omega), mu_ne _ _ _ (by omega), a3 t (by omega)]
        have hm : MT (mu (mu (mu M1 40 0 0) 39 0 0) 39 0 0) Lm τ B := MT_cong h.2.1 (fun t _ _ => hN t (by omega))
        have hk : LM (mu (mu (mu M1 40 0 0) 39 0 0) 39 0 0) k := LM_cong h.2.2.2.1 (fun t _ _ => hN t (by omega))
        have eM := orderM_pv (mu M1 40 0 0) c (nI p) (nI w) tks
        rw [hv, hv2.1, show thr true = 0 from rfl] at eM
        unfold f_X5_order_33 f_X5_order_78 at eM
        have n39 : mu (mu (mu M1 40 0 0) 39 0 0) 39 0 0 39 0 = 0 := at39 _ _
        have n40 : mu (mu (mu M1 40 0 0) 39 0 0) 39 0 0 40 0 = 0 := by rw [mu_at _ _ _ (by decide), at40]
        have nC : ∀ t, t < 39 ∨ 100 ≤ t → mu (mu (mu M1 40 0 0) 39 0 0) 39 0 0 t = M1 t := fun t ht => by rw [mu_ne _ _ _ (by omega), mu_ne _ _ _ (by omega), mu_ne _ _ _ (by omega)]
        obtain ⟨s, g1, g2, g3, g4, g5, g6⟩ := place_yes hm hy
        rw [if_neg (by decide), g6, bd2_s, if_pos (nI_pos' (by omega)), div10 (by omega), mayM hk c (show p / 10 ≤ 9999 by omega) tks, bd2_s, ha, if_neg (by decide), if_pos rfl, gi g2 (by decide), cl' (by omega), mu_self] at eM
        generalize mu (mu (mu M1 40 0 0) 39 0 0) 39 0 0 = N at eM hN hm hk n39 n40 nC g1 g2 g3 g4 g5 g6
        have eN : mu (mu N 25 0 (N 25 0 + 1)) 24 s (N 25 0 + 1) = lstM N s := rfl
        rw [eN] at eM
        obtain ⟨A, R, rfl⟩ := List.append_of_mem g1
        have hl1 := MT_last hm (by omega) (eqv_rf ((A ++ R ++ [s]).map (pM N)))
        have ep : pM (lstM N s) = pM N := by funext z; unfold pM; rw [lstM_ne _ _ (by decide)]
        have hpp : par (p / 10) p = true := by simp [par]
        have hps : par (p / 10) (pM N s) = true := by rw [g4]; exact hpp
        have hnoM : no p (((A ++ s :: R).map (pM N)).filter (par (p / 10))) = ((A ++ R).map (pM N)).filter (par (p / 10)) := by
          have hx := List.Pairwise.filter (par (p / 10)) (MT_nd hm)
          rw [List.map_append, List.map_cons, List.filter_append, g4, List.filter_cons_of_pos hpp] at hx ⊢
          rw [no_mid hx, List.map_append, List.filter_append]
        have hf0 : ((A ++ R ++ [s]).map (pM (lstM N s))).filter (par (p / 10)) = ((A ++ R).map (pM N)).filter (par (p / 10)) ++ [p] := by
          rw [ep, List.map_append, List.filter_append, List.map_singleton, List.filter_cons_of_pos hps, List.filter_nil, g4]
        have hcnt := membersOfM hl1 (q := p / 10) (by omega)
        rw [show ta ((A ++ R ++ [s]).map (pM N), τ.2) = (A ++ R ++ [s]).map (pM N) from rfl, ← ep, hf0, List.length_append, List.length_singleton] at hcnt
        rw [hcnt, bd2_s, nI_pred] at eM
        generalize hO : ((A ++ R).map (pM N)).filter (par (p / 10)) = O at hnoM hf0 hcnt eM
        have hOl : O.length ≤ 60 := by
          have e1 := ML_len hm
          have e2 := List.length_filter_le (par (p / 10)) ((A ++ R).map (pM N))
          rw [hO, List.length_map, List.length_append] at e2
          have e3 := (eqv_perm hm.2.2.1).length_eq
          rw [List.length_map, List.length_append, List.length_cons] at e3
          omega
        have hgoal : ∃ M2 Lm', f_X5_order (mu M1 40 0 0) c (nI p) (nI w) tks = some (0, M2) ∧ MT M2 Lm' (Lm'.map (pM M2), τ.2) (B + 200) ∧ (Lm'.map (pM M2)).filter (par (p / 10)) = spW w p O ∧ (∀ q, q ≠ p / 10 → (Lm'.map (pM M2)).filter (par q) = ((A ++ s :: R).map (pM N)).filter (par q)) ∧ same N M2 (fun t => t = 24 ∨ t = 25) := by
          have hsame : same N (lstM N s) (fun t => t = 24 ∨ t = 25) := fun t ht => lstM_ne _ _ ⟨fun z => ht (Or.inl z), fun z => ht (Or.inr z)⟩
          by_cases hwO : w < O.length
          · rw [pk_sub (by omega)] at eM
            have hfX : ((A ++ R ++ [s]).map (pM (lstM N s))).filter (par (p / 10)) = O.take w ++ O.drop w ++ [p] := by rw [hf0, List.take_append_drop]
            have hdl : (O.drop w).length = O.length - w := List.length_drop
            obtain ⟨M2, Lm', b1, b2, b3, b4, b5⟩ := orderM_loop hp (x7 := 0) (X := O.take w) (w := w) (by rw [List.length_take]; omega) hw (O.drop w) [p] (lstM N s) (A ++ R ++ [s]) _ 64 (B + 1) 0 hl1 (by omega) hfX (by omega) (by omega)
            rw [Nat.zero_add, hdl, show nI 0 = (0 : Int32) from rfl] at b1
            rw [b1] at eM
            refine ⟨M2, Lm', eM, MT_le b2 (by omega) hB, ?_, fun q hq => ?_, same_tr hsame b5⟩
            · rw [b3]; unfold spW; simp
            · rw [b4 q hq, ep]; exact fil_last (par_uq hps hq)
          · have hle : nI O.length - nI w ≤ 0 := sub_neg (by omega) hw (by omega)
            have e0 : f_X5_order_123 64 (lstM N s) (nI p) (nI w) 0 (nI O.length - nI w) 0 = some (0, lstM N s) := by
              show f_X5_order_123B (f_X5_order_123 63) _ _ _ _ _ _ = _
              unfold f_X5_order_123B
              rw [if_pos hle]
            rw [e0] at eM
            refine ⟨lstM N s, A ++ R ++ [s], eM, ?_, ?_, fun q hq => ?_, hsame⟩
            · rw [ep]; exact MT_le hl1 (by omega) hB
            · rw [hf0, spW_ge (by omega)]
            · rw [ep]; exact fil_last (par_uq hps hq)
        obtain ⟨M2, Lm', b1, b2, b3, b4, b5⟩ := hgoal
        have epC : pC M1 = pC M := by funext z; unfold pC; rw [a3 4 (by decide)]
        have heq : eqv (Lm'.map (pM M2)) (L'.map (pC M)) := fun q => by
          by_cases z : q = p / 10
          · subst z
            rw [b3, a6, h.1.2.2.1, ← hnoM, hm.2.2.1]
          · rw [b4 q z, a5 q z, h.1.2.2.1, hm.2.2.1]
        refine ⟨M2, ag_R (v := 0) (M1 := M1) (wR_order eC) b1 ?_ ?_, ⟨L', sp, Lm', (L'.map (pC M), τ.2), k, F, G, TC_cong a2 (fun t ht => ?_), MT_ta b2 heq, LC_cong h.2.2.1 (fun t _ _ => ?_), LM_cong hk (fun t _ _ => b5 t (by omega)), FL_cong h.2.2.2.2 (fun t ht => ?_)⟩⟩
        · rw [b5 39 (by omega), n39]
        · rw [b5 40 (by omega), n40]
        · rw [b5 t (by omega), nC t (by omega)]
        · rw [b5 t (by omega), hN t (by omega)]
        · rw [b5 t (by omega), hN t (by omega)]
    · rw [if_neg hy] at eC
      have h39 := Iv_mu (Iv_mu (Iv_mu h' (t := 40) (by decide) 0 1) (t := 39) (by decide) 0 0) (t := 39) (by decide) 0 0
      refine ⟨_, ag_R (v := 1) (M1 := M) (wR_order eC) ?_ (at39 _ _) (by rw [mu_at _ _ _ (by decide), at40]), ⟨_, _, _, _, _, _, _, h39⟩⟩
      show f_X5_order _ _ _ _ _ = _
      rw [orderM_pv, hv, hv2.1, show thr true = 0 from rfl]
      unfold f_X5_order_33 f_X5_order_78
      rw [if_neg (by decide), place_no h39.2.1 hp hy, bd2_s, if_neg (by decide), if_neg (by decide)]

/-! ===== refresh, pass ===== -/
theorem inR_of {x : Int32} {a c : Nat} (ha : a < 2147483648) (hc : c < 2147483648) (h : inR x (nI a) (nI c) = true) : ∃ t : Nat, a ≤ t ∧ t ≤ c ∧ x = nI t := by
  unfold inR at h
  simp only [Bool.and_eq_true, decide_eq_true_eq] at h
  have h0 : (0 : Int32) ≤ x := Int32.le_trans (nI_pos' (by omega)) h.1
  obtain ⟨t, ht, rfl⟩ := nI_ofNN h0
  rw [le' ha ht, le' ht hc] at h
  exact ⟨t, h.1, h.2, rfl⟩
theorem mu_id (M : Mem) (t i : Nat) {v : Int32} (h : v = M t i) : mu M t i v = M := by
  subst h
  funext t' i'
  by_cases h1 : t' = t
  · subst h1
    rw [mu_fn]
    by_cases h2 : i' = i
    · subst h2; simp
    · simp [h2]
  · rw [mu_ne M i _ h1]
theorem st_refresh {M : Mem} {L sp Lm : List Nat} {τ : Tr} {k : Lk} {F G : List Nat} {B : Nat} (h : Iv M L sp Lm τ k F G B) (c x tks : Int32) : ∃ M2 k', agree M M2 (fun m => f_L_refresh m c x tks) (fun m => f_X5_refresh m c x tks) ∧ Iv M2 L sp Lm τ k' F G B := by
  by_cases ho : ∀ j, j < kn k → x = nI j → act k j = false
  · refine ⟨mu M 39 0 1, k, ag_T (q := 1) (v := 0) (M1 := M) (wT_refresh_B (refreshC_out h.2.2.1 c tks x ho)) (refreshM_out h.2.2.2.1 c tks x ho) (at39 _ _) (by decide), Iv_mu h (by decide) _ _⟩
  · have ho' : ∃ j, j < kn k ∧ x = nI j ∧ act k j = true := by
      apply Classical.byContradiction
      intro z
      exact ho (fun j h1 h2 => by
        cases q : act k j
        · rfl
        · exact absurd ⟨j, h1, h2, q⟩ z)
    obtain ⟨j, hj, rfl, ha⟩ := ho'
    cases ha1 : (okC c && inR tks 0 1000)
    · refine ⟨mu M 39 0 2, k, ag_T (q := 2) (v := 0) (M1 := M) (wT_refresh_A ?_) ?_ (at39 _ _) (by decide), Iv_mu h (by decide) _ _⟩
      · rw [refreshC h.2.2.1 c tks hj ha, ha1]; rfl
      · show f_X5_refresh _ _ _ _ = _
        rw [refreshM h.2.2.2.1 c tks hj ha, ha1]; rfl
    · by_cases hc : kcl k j = c
      · have hr : inR tks (nI 0) (nI 1000) = true := by
          simp only [Bool.and_eq_true] at ha1; exact ha1.2
        obtain ⟨t, -, ht, rfl⟩ := inR_of (by decide) (by decide) hr
        have hkt : kt k ≤ 1000000 := h.2.2.1.2.2.2.1
        have h40 := Iv_mu h (t := 40) (by decide) 0 (nI (ken k j) - nI (kt k))
        have ec : LC (mu M 16 j (nI (kt k + t))) (kset k (fun i => if i = j then kt k + t else ken k i)) := LC_up (f := ken k) h.2.2.1 j (kt k + t) (by omega)
        have e1 : Iv (mu (mu M 16 j (nI (kt k) + nI t)) 40 0 (nI (ken k j) - nI (kt k))) L sp Lm τ k F G B → True := fun _ => trivial
        refine ⟨_, kset k (fun i => if i = j then kt k + t else ken k i), ag_R (v := nI (ken k j) - nI (kt k)) (M1 := mu M 16 j (nI (kt k + t))) (M2 := mu (mu (mu (mu M 16 j (nI (kt k + t))) 40 0 (nI (ken k j) - nI (kt k))) 39 0 0) 34 j (nI (kt k + t))) (wR_refresh ?_) ?_ ?_ ?_, ?_⟩
        · rw [refreshC h.2.2.1 c _ hj ha, ha1, if_pos rfl, if_pos hc, nI_add]
        · show f_X5_refresh _ _ _ _ = _
          have hm : LM (mu (mu M 16 j (nI (kt k + t))) 40 0 (nI (ken k j) - nI (kt k))) k := LM_cong h.2.2.2.1 (fun t' _ _ => by rw [mu_ne _ _ _ (by omega), mu_ne _ _ _ (by omega)])
          rw [refreshM hm c _ hj ha, ha1, if_pos rfl, if_pos hc, nI_add]
        · rw [mu_at _ _ _ (by decide), at39]
        · rw [mu_at _ _ _ (by decide), at40]
        · refine ⟨TC_cong h.1 (fun t' ht' => ?_), MT_cong h.2.1 (fun t' h1 h2 => ?_), LC_cong ec (fun t' h1 h2 => ?_), ?_, FL_cong h.2.2.2.2 (fun t' ht' => ?_)⟩
          · rw [mu_ne _ _ _ (by omega), mu_ne _ _ _ (by omega), mu_ne _ _ _ (by omega), mu_ne _ _ _ (by omega)]
          · rw [mu_ne _ _ _ (by omega), mu_ne _ _ _ (by omega), mu_ne _ _ _ (by omega), mu_ne _ _ _ (by omega)]
          · rw [mu_ne _ _ _ (by omega), mu_ne _ _ _ (by omega), mu_ne _ _ _ (by omega)]
          · have hm : LM (mu (mu (mu M 16 j (nI (kt k + t))) 40 0 (nI (ken k j) - nI (kt k))) 39 0 0) k := LM_cong h.2.2.2.1 (fun t' _ _ => by rw [mu_ne _ _ _ (by omega), mu_ne _ _ _ (by omega), mu_ne _ _ _ (by omega)])
            exact LM_up (f := ken k) hm j (kt k + t) (by omega)
          · rw [mu_ne _ _ _ (by omega), mu_ne _ _ _ (by omega), mu_ne _ _ _ (by omega), mu_ne _ _ _ (by omega)]
      · refine ⟨mu M 39 0 3, k, ag_T (q := 3) (v := 0) (M1 := M) (wT_refresh_S ?_) ?_ (at39 _ _) (by decide), Iv_mu h (by decide) _ _⟩
        · rw [refreshC h.2.2.1 c tks hj ha, ha1, if_pos rfl, if_neg hc]
        · show f_X5_refresh _ _ _ _ = _
          rw [refreshM h.2.2.2.1 c tks hj ha, ha1, if_pos rfl, if_neg hc]
/-! pass -/
def cntU (f : Nat → Bool) : Nat → Nat → Nat
  | 0, _ => 0
  | r + 1, t => (if f t then 1 else 0) + cntU f r (t + 1)
theorem cntU_s (f : Nat → Bool) (r t : Nat) : cntU f (r + 1) t = (if f t then 1 else 0) + cntU f r (t + 1) := rfl
def ends (k : Lk) (T j : Nat) : Bool := act k j && decide (ken k j ≤ T)
theorem ends_e (k : Lk) (T j : Nat) : ends k T j = (act k j && decide (ken k j ≤ T)) := rfl
theorem advC_12 {M : Mem} {k : Lk} (h : LC M k) {T : Nat} (hT : T ≤ 1001000) : ∀ (r n t a : Nat), t + r = kn k → r < n → f_X1_advance_12 n M (nI T) (nI a) (nI t) = some (nI (a + cntU (ends k T) r t), mu M 11 0 (nI T)) := by
  have hn : M 10 0 = nI (kn k) ∧ kn k ≤ 30 := ⟨h.1, h.2.1⟩
  intro r
  induction r with
  | zero =>
    intro n t a ht hr
    obtain ⟨n, rfl⟩ : ∃ j, n = j + 1 := ⟨n - 1, by omega⟩
    show f_X1_advance_12B (f_X1_advance_12 n) M (nI T) (nI a) (nI t) = _
    unfold f_X1_advance_12B
    rw [hn.1]
    simp only [le' (show kn k < 2147483648 by omega) (show t < 2147483648 by omega)]
    rw [if_pos (by omega)]
    rfl
  | succ r ih =>
    intro n t a ht hr
    obtain ⟨n, rfl⟩ : ∃ j, n = j + 1 := ⟨n - 1, by omega⟩
    have e1 := ih n (t + 1) a (by omega) (by omega)
    have e2 := ih n (t + 1) (a + 1) (by omega) (by omega)
    obtain ⟨-, -, -, -, -, e, g3, g4, g5, g6⟩ := h.2.2.2.2 t (by omega)
    show f_X1_advance_12B (f_X1_advance_12 n) M (nI T) (nI a) (nI t) = _
    unfold f_X1_advance_12B f_X1_advance_46
    rw [hn.1]
    simp only [le' (show kn k < 2147483648 by omega) (show t < 2147483648 by omega)]
    rw [if_neg (by omega), findC h (show t < kn k by omega), bd2_s, nI_1, nI_1, cntU_s, ends_e]
    by_cases q : act k t = true
    · have q' : kt k < ken k t := by simpa [act] using q
      rw [if_pos q, oe_1, if_neg (by omega), g3, e1, e2, g6 (g5.mpr q')]
      have := g6 (g5.mpr q')
      simp only [lt' (show T < 2147483648 by omega) (show ken k t < 2147483648 by omega)]
      by_cases q2 : T < ken k t
      · rw [if_pos q2]; simp [q, show ¬ ken k t ≤ T by omega]
      · rw [if_neg q2]; simp [q, show ken k t ≤ T by omega, Nat.add_assoc]
    · rw [if_neg q, oe_0, e1]; simp [q]
theorem passM_39 {M : Mem} {k : Lk} (h : LM M k) (h39 : M 39 0 = 0) {d : Nat} (hd : d ≤ 1000) : ∀ (r n t a : Nat), t + r = kn k → r < n → f_X5_pass_39 n M (nI d) (nI a) (nI t) = some (nI (a + cntU (ends k (kt k + d)) r t), mu M 28 0 (nI (kt k + d))) := by
  have hn : M 29 0 = nI (kn k) ∧ kn k ≤ 30 := ⟨h.1, h.2.1⟩
  have hk : kt k ≤ 1000000 := h.2.2.2.1
  intro r
  induction r with
  | zero =>
    intro n t a ht hr
    obtain ⟨n, rfl⟩ : ∃ j, n = j + 1 := ⟨n - 1, by omega⟩
    show f_X5_pass_39B (f_X5_pass_39 n) M (nI d) (nI a) (nI t) = _
    unfold f_X5_pass_39B f_X5_pass_91 f_X5_pass_108
    rw [hn.1]
    simp only [le' (show kn k < 2147483648 by omega) (show t < 2147483648 by omega)]
    rw [if_pos (by omega), if_pos h39, h.2.2.1, nI_add]
    rfl
  | succ r ih =>
    intro n t a ht hr
    obtain ⟨n, rfl⟩ : ∃ j, n = j + 1 := ⟨n - 1, by omega⟩
    have e1 := ih n (t + 1) a (by omega) (by omega)
    have e2 := ih n (t + 1) (a + 1) (by omega) (by omega)
    obtain ⟨-, -, -, -, -, e, g3, g4, g5, g6⟩ := h.2.2.2.2 t (by omega)
    show f_X5_pass_39B (f_X5_pass_39 n) M (nI d) (nI a) (nI t) = _
    unfold f_X5_pass_39B f_X5_pass_82 f_X5_pass_83
    rw [hn.1]
    simp only [le' (show kn k < 2147483648 by omega) (show t < 2147483648 by omega), gi (show t < 30 by omega) (show 30 < 2147483648 by decide)]
    rw [if_neg (by omega), if_pos h39, isOnM h (show t < kn k by omega), bd2_s, cl' (show t < 2147483648 by omega), g3, h.2.2.1, nI_add, nI_1, show nI a + 0 = nI a by rw [show (0 : Int32) = nI 0 from rfl, nI_add]; rfl, nI_1, e1, e2, cntU_s, ends_e]
    simp only [b2i_0]
    by_cases q : act k t = true
    · have q' : kt k < ken k t := by simpa [act] using q
      have g7 := g6 (g5.mpr q')
      rw [g7]
      simp only [lt' (show kt k + d < 2147483648 by omega) (show ken k t < 2147483648 by omega)]
      by_cases q2 : kt k + d < ken k t
      · simp [q, q2, show ¬ ken k t ≤ kt k + d by omega]
      · simp [q, q2, show ken k t ≤ kt k + d by omega, Nat.add_assoc]
    · simp [q]
def kpass (k : Lk) (d : Nat) : Lk := (kn k, kt k + d, kcl k, kpa k, ksh k, kdp k, ken k)
theorem LG_pass {n t : Int32} {cl pa sh dp en : Nat → Int32} {k : Lk} (h : LG n t cl pa sh dp en k) {d : Nat} (hd : kt k + d ≤ 1000000) : LG n (nI (kt k + d)) cl pa sh dp en (kpass k d) := by
  obtain ⟨z1, z2, z3, z4, z5⟩ := h
  refine ⟨z1, z2, rfl, hd, fun j hj => ?_⟩
  obtain ⟨w1, w2, w3, w4, w5, e, w6, w7, w8, w9⟩ := z5 j hj
  refine ⟨w1, w2, w3, w4, w5, e, w6, w7, ?_, ?_⟩
  · show kt k + d < e ↔ kt k + d < ken k j
    constructor
    · intro q; rw [← w9 (by omega)]; exact q
    · intro q; rw [w9 (w8.mpr (by omega))]; exact q
  · show kt k + d < e → e = ken k j
    intro q; exact w9 (by omega)
theorem mu_v (M : Mem) (t i : Nat) (v : Int32) : mu M t i v t i = v := mu_self M t i v
theorem passM_thr (M : Mem) (x : Int32) : ∀ (n : Nat) (a t : Int32), M 39 0 ≠ 0 → f_X5_pass_39 (n + 1) M x a t = some (a, M) := by
  intro n a t h
  show f_X5_pass_39B (f_X5_pass_39 n) M x a t = _
  unfold f_X5_pass_39B f_X5_pass_91 f_X5_pass_108
  rw [if_neg h, if_neg h]
  have : mu M 28 0 (M 28 0 + 0) = M := mu_id M 28 0 (by rw [Int32.add_zero])
  rw [this]
  by_cases q : M 29 0 ≤ t
  · rw [if_pos q]
  · rw [if_neg q]
theorem st_pass {M : Mem} {L sp Lm : List Nat} {τ : Tr} {k : Lk} {F G : List Nat} {B : Nat} (h : Iv M L sp Lm τ k F G B) (x : Int32) : ∃ M2 k', agree M M2 (fun m => f_L_pass m x) (fun m => f_X5_pass m x) ∧ Iv M2 L sp Lm τ k' F G B := by
  have hc := h.2.2.1
  have hm := h.2.2.2.1
  have hkt : kt k ≤ 1000000 := hc.2.2.2.1
  have hkn : kn k ≤ 30 := hc.2.1
  cases hv : inR x 1 1000
  · refine ⟨mu M 39 0 1, k, ag_T (q := 1) (v := 0) (M1 := M) (wT_pass_A (M1 := M) ?_) ?_ (at39 _ _) (by decide), Iv_mu h (by decide) _ _⟩
    · unfold f_X4_pass f_X4_pass_0
      rw [reqRangeC, hv]; rfl
    · show f_X5_pass M x = _
      unfold f_X5_pass f_X5_pass_0 f_X5_pass_32
      rw [isRangeM, hv, bd2_s, if_pos (by decide), passM_thr _ _ _ _ _ (by rw [at39]; decide)]
  · obtain ⟨d, h1, h2, rfl⟩ := inR_of (a := 1) (c := 1000) (by decide) (by decide) hv
    by_cases hT : kt k + d ≤ 1000000
    · have eC : f_X4_pass M (nI d) = some (.inr (nI (cntU (ends k (kt k + d)) (kn k) 0)), mu M 11 0 (nI (kt k + d))) := by
        unfold f_X4_pass f_X4_pass_0 f_X1_advance f_X1_advance_0
        rw [reqRangeC, hv, un_t, bdx_s, hc.2.2.1, nI_add, if_pos (by rw [show (1000000 : Int32) = nI 1000000 from rfl, le' (by omega) (by decide)]; exact hT)]
        have := advC_12 hc (T := kt k + d) (by omega) (kn k) 64 0 0 (by omega) (by omega)
        rw [Nat.zero_add, show nI 0 = (0 : Int32) from rfl] at this
        rw [this, bd2_s]
      generalize cntU (ends k (kt k + d)) (kn k) 0 = v at eC
      refine ⟨_, kpass k d, ag_R (v := nI v) (M1 := mu M 11 0 (nI (kt k + d))) (M2 := mu (mu (mu (mu M 11 0 (nI (kt k + d))) 40 0 (nI v)) 39 0 0) 28 0 (nI (kt k + d))) (wR_pass eC) ?_ ?_ ?_, ?_⟩
      · show f_X5_pass _ _ = _
        have hm' : LM (mu (mu (mu M 11 0 (nI (kt k + d))) 40 0 (nI v)) 39 0 0) k := LM_cong hm (fun t' _ _ => by rw [mu_ne _ _ _ (by omega), mu_ne _ _ _ (by omega), mu_ne _ _ _ (by omega)])
        have e2 := passM_39 hm' (at39 _ _) h2 (kn k) 64 0 0 (by omega) (by omega)
        rw [Nat.zero_add, show nI 0 = (0 : Int32) from rfl] at e2
        have hcv : nI (cntU (ends k (kt k + d)) (kn k) 0) = nI v := by
          have e3 := eC
          unfold f_X4_pass f_X4_pass_0 f_X1_advance f_X1_advance_0 at e3
          rw [reqRangeC, hv, un_t, bdx_s, hc.2.2.1, nI_add, if_pos (by rw [show (1000000 : Int32) = nI 1000000 from rfl, le' (by omega) (by decide)]; exact hT)] at e3
          have := advC_12 hc (T := kt k + d) (by omega) (kn k) 64 0 0 (by omega) (by omega)
          rw [Nat.zero_add, show nI 0 = (0 : Int32) from rfl] at this
          rw [this, bd2_s] at e3
          simpa using e3
        rw [hcv] at e2
        unfold f_X5_pass f_X5_pass_0 f_X5_pass_32
        rw [isRangeM, hv, bd2_s, if_neg (by decide), mu_at _ _ _ (by decide), mu_at _ _ _ (by decide), hm.2.2.1, nI_add, if_pos (by rw [show (1000000 : Int32) = nI 1000000 from rfl, le' (by omega) (by decide)]; exact hT)]
        exact e2
      · rw [mu_at _ _ _ (by decide), at39]
      · rw [mu_at _ _ _ (by decide), at40]
      · refine ⟨TC_cong h.1 (fun t' ht' => ?_), MT_cong h.2.1 (fun t' h1 h2 => ?_), ?_, ?_, FL_cong h.2.2.2.2 (fun t' ht' => ?_)⟩
        · rw [mu_ne _ _ _ (by omega), mu_ne _ _ _ (by omega), mu_ne _ _ _ (by omega), mu_ne _ _ _ (by omega)]
        · rw [mu_ne _ _ _ (by omega), mu_ne _ _ _ (by omega), mu_ne _ _ _ (by omega), mu_ne _ _ _ (by omega)]
        · have : LC (mu M 11 0 (nI (kt k + d))) (kpass k d) := by
            unfold LC
            rw [mu_self, mu_ne M 0 _ (show (10 : Nat) ≠ 11 by decide), mu_ne M 0 _ (show (12 : Nat) ≠ 11 by decide), mu_ne M 0 _ (show (13 : Nat) ≠ 11 by decide), mu_ne M 0 _ (show (14 : Nat) ≠ 11 by decide), mu_ne M 0 _ (show (15 : Nat) ≠ 11 by decide), mu_ne M 0 _ (show (16 : Nat) ≠ 11 by decide)]
            exact LG_pass hc hT
          exact LC_cong this (fun t' _ _ => by rw [mu_ne _ _ _ (by omega), mu_ne _ _ _ (by omega), mu_ne _ _ _ (by omega)])
        · have hm' : LM (mu (mu (mu M 11 0 (nI (kt k + d))) 40 0 (nI v)) 39 0 0) k := LM_cong hm (fun t' _ _ => by rw [mu_ne _ _ _ (by omega), mu_ne _ _ _ (by omega), mu_ne _ _ _ (by omega)])
          generalize mu (mu (mu M 11 0 (nI (kt k + d))) 40 0 (nI v)) 39 0 0 = N at hm'
          unfold LM
          rw [mu_self, mu_ne N 0 _ (show (29 : Nat) ≠ 28 by decide), mu_ne N 0 _ (show (30 : Nat) ≠ 28 by decide), mu_ne N 0 _ (show (31 : Nat) ≠ 28 by decide), mu_ne N 0 _ (show (32 : Nat) ≠ 28 by decide), mu_ne N 0 _ (show (33 : Nat) ≠ 28 by decide), mu_ne N 0 _ (show (34 : Nat) ≠ 28 by decide)]
          exact LG_pass hm' hT
        · rw [mu_ne _ _ _ (by omega), mu_ne _ _ _ (by omega), mu_ne _ _ _ (by omega), mu_ne _ _ _ (by omega)]
    · refine ⟨mu M 39 0 2, k, ag_T (q := 2) (v := 0) (M1 := M) (wT_pass_S (M1 := M) ?_) ?_ (at39 _ _) (by decide), Iv_mu h (by decide) _ _⟩
      · unfold f_X4_pass f_X4_pass_0
        rw [reqRangeC, hv, un_t, bdx_s, hc.2.2.1, nI_add, if_neg (by rw [show (1000000 : Int32) = nI 1000000 from rfl, le' (by omega) (by decide)]; exact hT)]
      · show f_X5_pass M _ = _
        unfold f_X5_pass f_X5_pass_0 f_X5_pass_32
        rw [isRangeM, hv, bd2_s, if_neg (by decide), hm.2.2.1, nI_add, if_neg (by rw [show (1000000 : Int32) = nI 1000000 from rfl, le' (by omega) (by decide)]; exact hT), passM_thr _ _ _ _ _ (by rw [at39]; decide)]

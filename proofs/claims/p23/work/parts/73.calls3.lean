/-! ===== lock, refresh, pass, keep, restore ===== -/
def okL (k : Lk) (τ : Tr) (c : Int32) (p : Nat) (s d : Bool) (tks : Int32) : Bool := decide (kn k < 30) && (!barB k p s d && (decide (p = 0 ∨ p ∈ ta τ) || decide (oPut k τ c p (-1) tks = 0)))
theorem lockE {M : Mem} {τ : Tr} {k : Lk} {L sp : List Nat} (h1 : TC M L sp τ) (h2 : LC M k) {c tks : Int32} {p t : Nat} {s d : Bool} (hp : p ≤ 9999) (hv : pvL c (nI p) (nI t) tks = true) : f_X4_lock M c (nI p) (b2i s) (b2i d) (nI t) tks = if kn k < 30 then (if barB k p s d = false then (if p ≠ 0 ∧ p ∉ ta τ then (if oPut k τ c p (-1) tks = 0 then bd1 (f_X4_write M (nI p) 0) (fun M105 => f_X4_lock_108 M105 c (nI p) (b2i s) (b2i d) (nI t)) else some (.inl xS, M)) else f_X4_lock_108 M c (nI p) (b2i s) (b2i d) (nI t)) else some (.inl xS, M)) else some (.inl xS, M) := by
  unfold pvL at hv
  simp only [Bool.and_eq_true] at hv
  obtain ⟨v1, v2, v3, v4⟩ := hv
  have hkn := h2.2.1
  have hkn30 : (nI (kn k) < 30) = (kn k < 30) := lt' (b := 30) (by omega) (by decide)
  unfold f_X4_lock f_X4_lock_0
  rw [reqClientC, v1, un_t, bdx_s, reqPathC, v2, un_t, bdx_s, reqRangeC, v3, un_t, bdx_s, reqNNC, v4, un_t, bdx_s, h2.1, barC h2 hp s d, bd2_s, kindAtC h1 hp, bd2_s]
  simp only [hkn30, b2i_0, (tk_m1 h1).1]
  by_cases q : p ≠ 0 ∧ p ∉ ta τ
  · rw [outC h1 h2 ⟨by omega, hp⟩, bd2_s]
  · rw [if_neg q, if_neg q]
theorem g_lock {M : Mem} {τ : Tr} {k : Lk} {F : List Nat} (h : Rl M τ k F) {c x y tks : Int32} (s d : Bool) (hv : pvL c x y tks = true) (ho : okL k τ c x.toNatClampNeg s d tks = true) : ∃ M', f_X4_lock M c x (b2i s) (b2i d) y tks = some (.inr (nI (kn k)), M') ∧ Rl M' (if x.toNatClampNeg = 0 ∨ x.toNatClampNeg ∈ ta τ then τ else tput τ x.toNatClampNeg 1 0) (kadd k c x.toNatClampNeg (b2i s) (b2i d) (kt k + y.toNatClampNeg)) F := by
  obtain ⟨L, sp, h1, h2, h3, h4⟩ := h
  have hv2 := hv
  unfold pvL at hv2
  simp only [Bool.and_eq_true] at hv2
  obtain ⟨p, hp, rfl⟩ := vpb_of hv2.2.1
  obtain ⟨t, ht1, ht2, rfl⟩ := inR_of (a := 1) (c := 1000) (by decide) (by decide) hv2.2.2.1
  rw [cl' (by omega)] at ho ⊢
  rw [cl' (by omega)]
  have hkt : kt k ≤ 1000000 := h2.2.2.2.1
  unfold okL at ho
  simp only [Bool.and_eq_true, Bool.or_eq_true, decide_eq_true_eq, Bool.not_eq_true'] at ho
  obtain ⟨q0, q1, q2⟩ := ho
  have eC := lockE h1 h2 (c := c) (tks := tks) (s := s) (d := d) hp hv
  rw [if_pos q0, if_pos q1] at eC
  by_cases q : p = 0 ∨ p ∈ ta τ
  · have q' : ¬ (p ≠ 0 ∧ p ∉ ta τ) := fun z => q.elim z.1 z.2
    rw [if_neg q'] at eC
    unfold f_X4_lock_108 at eC
    rw [addC h2 q0 c p t s d, bd2_s] at eC
    have hCk := LC_add h2 q0 (c := c) (s := b2i s) (d := b2i d) hp (show kt k + t ≤ 1001000 by omega)
    rw [if_pos q]
    exact ⟨_, eC, Rl_mk (TC_cong h1 (fun t ht => AC_ne _ _ _ _ _ _ _ (by omega))) hCk (FS_cong h3 (AC_ne _ _ _ _ _ _ _ (by omega)) (AC_ne _ _ _ _ _ _ _ (by omega))) h4⟩
  · have q' : p ≠ 0 ∧ p ∉ ta τ := ⟨fun z => q (Or.inl z), fun z => q (Or.inr z)⟩
    have hput : oPut k τ c p (-1) tks = 0 := q2.elim (fun z => absurd z q) id
    rw [if_pos q', if_pos hput] at eC
    obtain ⟨n1, n2⟩ := oPut_0 (by omega) (fun hy => td_12 h1 hy) (by rw [← TC_len h1]; exact IC_len h1.1) hput
    obtain ⟨W1, L', sp', a1, a2, hs1⟩ := writeC h1 ⟨by omega, hp⟩ n1 n2 (ct := 0) (by decide)
    have hkW : LC W1 k := LC_cong h2 (fun t' _ _ => hs1 t' (by omega))
    rw [a1, bd1_s] at eC
    unfold f_X4_lock_108 at eC
    rw [addC hkW q0 c p t s d, bd2_s] at eC
    have hCk := LC_add hkW q0 (c := c) (s := b2i s) (d := b2i d) hp (show kt k + t ≤ 1001000 by omega)
    unfold twr at a2
    rw [if_neg q'.2] at a2
    rw [if_neg q]
    exact ⟨_, eC, Rl_mk (TC_cong a2 (fun t ht => AC_ne _ _ _ _ _ _ _ (by omega))) hCk (FS_cong h3 ((AC_ne _ _ _ _ _ _ _ (by omega)).trans (hs1 0 (by omega))) ((AC_ne _ _ _ _ _ _ _ (by omega)).trans (hs1 1 (by omega)))) h4⟩
theorem g_lockS {M : Mem} {τ : Tr} {k : Lk} {F : List Nat} (h : Rl M τ k F) {c x y tks : Int32} (s d : Bool) (hv : pvL c x y tks = true) (ho : okL k τ c x.toNatClampNeg s d tks = false) : f_X4_lock M c x (b2i s) (b2i d) y tks = some (.inl xS, M) := by
  obtain ⟨L, sp, h1, h2, h3, h4⟩ := h
  have hv2 := hv
  unfold pvL at hv2
  simp only [Bool.and_eq_true] at hv2
  obtain ⟨p, hp, rfl⟩ := vpb_of hv2.2.1
  obtain ⟨t, ht1, ht2, rfl⟩ := inR_of (a := 1) (c := 1000) (by decide) (by decide) hv2.2.2.1
  rw [cl' (by omega)] at ho
  have eC := lockE h1 h2 (c := c) (tks := tks) (s := s) (d := d) hp hv
  rw [eC]
  unfold okL at ho
  by_cases q0 : kn k < 30
  · rw [if_pos q0]
    cases q1 : barB k p s d
    · rw [if_pos rfl]
      rw [q1, show decide (kn k < 30) = true by simpa using q0] at ho
      simp only [Bool.true_and, Bool.not_false, Bool.or_eq_false_iff, decide_eq_false_iff_not] at ho
      rw [if_pos ⟨fun z => ho.1 (Or.inl z), fun z => ho.1 (Or.inr z)⟩, if_neg ho.2]
    · rw [if_neg (by decide)]
  · rw [if_neg q0]
theorem g_refresh {M : Mem} {τ : Tr} {k : Lk} {F : List Nat} (h : Rl M τ k F) {c x y : Int32} (hj : (decide ((0 : Int32) ≤ x) && (decide (x.toNatClampNeg < kn k) && act k x.toNatClampNeg)) = true) (hv : (okC c && inR y 0 1000) = true) (hc : kcl k x.toNatClampNeg = c) : ∃ M', f_X4_refresh M c x y = some (.inr (nI (ken k x.toNatClampNeg) - nI (kt k)), M') ∧ Rl M' τ (kset k (fun i => if i = x.toNatClampNeg then kt k + y.toNatClampNeg else ken k i)) F := by
  obtain ⟨L, sp, h1, h2, h3, h4⟩ := h
  simp only [Bool.and_eq_true, decide_eq_true_eq] at hj
  obtain ⟨j0, j1, ha⟩ := hj
  obtain ⟨j, hj31, rfl⟩ := nI_ofNN j0
  rw [cl' hj31] at j1 ha hc ⊢
  have hr : inR y (nI 0) (nI 1000) = true := by simp only [Bool.and_eq_true] at hv; exact hv.2
  obtain ⟨t, -, ht, rfl⟩ := inR_of (by decide) (by decide) hr
  rw [cl' (show t < 2147483648 by omega)]
  have hkt : kt k ≤ 1000000 := h2.2.2.2.1
  have ec : LC (mu M 16 j (nI (kt k + t))) (kset k (fun i => if i = j then kt k + t else ken k i)) := LC_up (f := ken k) h2 j (kt k + t) (by omega)
  refine ⟨mu M 16 j (nI (kt k + t)), ?_, Rl_mk (TC_cong h1 (fun t' ht' => mu_ne _ _ _ (by omega))) ec (FS_cong h3 (mu_ne _ _ _ (by omega)) (mu_ne _ _ _ (by omega))) h4⟩
  rw [refreshC h2 c _ j1 ha, hv, if_pos rfl, if_pos hc, nI_add]
theorem g_refreshA {M : Mem} {τ : Tr} {k : Lk} {F : List Nat} (h : Rl M τ k F) {c x y : Int32} (hj : (decide ((0 : Int32) ≤ x) && (decide (x.toNatClampNeg < kn k) && act k x.toNatClampNeg)) = true) (hv : (okC c && inR y 0 1000) = false) : f_X4_refresh M c x y = some (.inl xA, M) := by
  obtain ⟨L, sp, h1, h2, h3, h4⟩ := h
  simp only [Bool.and_eq_true, decide_eq_true_eq] at hj
  obtain ⟨j0, j1, ha⟩ := hj
  obtain ⟨j, hj31, rfl⟩ := nI_ofNN j0
  rw [cl' hj31] at j1 ha
  rw [refreshC h2 c _ j1 ha, hv]
  rfl
theorem g_refreshS {M : Mem} {τ : Tr} {k : Lk} {F : List Nat} (h : Rl M τ k F) {c x y : Int32} (hj : (decide ((0 : Int32) ≤ x) && (decide (x.toNatClampNeg < kn k) && act k x.toNatClampNeg)) = true) (hv : (okC c && inR y 0 1000) = true) (hc : kcl k x.toNatClampNeg ≠ c) : f_X4_refresh M c x y = some (.inl xS, M) := by
  obtain ⟨L, sp, h1, h2, h3, h4⟩ := h
  simp only [Bool.and_eq_true, decide_eq_true_eq] at hj
  obtain ⟨j0, j1, ha⟩ := hj
  obtain ⟨j, hj31, rfl⟩ := nI_ofNN j0
  rw [cl' hj31] at j1 ha hc
  rw [refreshC h2 c _ j1 ha, hv, if_pos rfl, if_neg hc]
theorem g_refreshB {M : Mem} {τ : Tr} {k : Lk} {F : List Nat} (h : Rl M τ k F) {c x y : Int32} (hj : (decide ((0 : Int32) ≤ x) && (decide (x.toNatClampNeg < kn k) && act k x.toNatClampNeg)) = false) : f_X4_refresh M c x y = some (.inl xB, M) := by
  obtain ⟨L, sp, h1, h2, h3, h4⟩ := h
  have hn := h2.2.1
  refine refreshC_out h2 c y x (fun j hj1 e => ?_)
  subst e
  rw [cl' (by omega), show decide ((0 : Int32) ≤ nI j) = true by simpa using nI_pos' (by omega), show decide (j < kn k) = true by simpa using hj1] at hj
  simpa using hj
theorem g_pass {M : Mem} {τ : Tr} {k : Lk} {F : List Nat} (h : Rl M τ k F) {x : Int32} (hv : (inR x 1 1000 && decide (kt k + x.toNatClampNeg ≤ 1000000)) = true) : ∃ M', f_X4_pass M x = some (.inr (nI (cntU (ends k (kt k + x.toNatClampNeg)) (kn k) 0)), M') ∧ Rl M' τ (kpass k x.toNatClampNeg) F := by
  obtain ⟨L, sp, h1, h2, h3, h4⟩ := h
  simp only [Bool.and_eq_true, decide_eq_true_eq] at hv
  obtain ⟨d, d1, d2, rfl⟩ := inR_of (a := 1) (c := 1000) (by decide) (by decide) hv.1
  obtain ⟨hv, hT⟩ := hv
  rw [cl' (by omega)] at hT ⊢
  have hkn := h2.2.1
  refine ⟨mu M 11 0 (nI (kt k + d)), ?_, Rl_mk (TC_cong h1 (fun t' ht' => mu_ne _ _ _ (by omega))) ?_ (FS_cong h3 (mu_ne _ _ _ (by omega)) (mu_ne _ _ _ (by omega))) h4⟩
  · unfold f_X4_pass f_X4_pass_0 f_X1_advance f_X1_advance_0
    rw [reqRangeC, hv, un_t, bdx_s, h2.2.2.1, nI_add, if_pos (by rw [show (1000000 : Int32) = nI 1000000 from rfl, le' (by omega) (by decide)]; exact hT)]
    have := advC_12 h2 (T := kt k + d) (by omega) (kn k) 64 0 0 (by omega) (by omega)
    rw [Nat.zero_add, show nI 0 = (0 : Int32) from rfl] at this
    rw [this, bd2_s]
  · unfold LC
    rw [mu_self, mu_ne M 0 _ (show (10 : Nat) ≠ 11 by decide), mu_ne M 0 _ (show (12 : Nat) ≠ 11 by decide), mu_ne M 0 _ (show (13 : Nat) ≠ 11 by decide), mu_ne M 0 _ (show (14 : Nat) ≠ 11 by decide), mu_ne M 0 _ (show (15 : Nat) ≠ 11 by decide), mu_ne M 0 _ (show (16 : Nat) ≠ 11 by decide)]
    exact LG_pass h2 hT
def isF (τ : Tr) (p : Nat) : Bool := decide (p ∈ ta τ) && decide (td τ p = 1)
theorem isF_i {τ : Tr} {p : Nat} (h : isF τ p = true) : p ∈ ta τ ∧ td τ p = 1 := by
  unfold isF at h
  simpa using h
theorem isF_n {τ : Tr} {p : Nat} (h : isF τ p = false) : ¬ (p ∈ ta τ ∧ td τ p = 1) := by
  unfold isF at h
  intro z
  rw [show decide (p ∈ ta τ) = true by simpa using z.1, show decide (td τ p = 1) = true by simpa using z.2] at h
  exact absurd h (by decide)
theorem g_keep {M : Mem} {τ : Tr} {k : Lk} {F : List Nat} (h : Rl M τ k F) {x : Int32} (hv : (vpb x && (isF τ x.toNatClampNeg && decide (tn τ x.toNatClampNeg < 10))) = true) : ∃ M', f_X4_keep M x = some (.inr (nI (tn τ x.toNatClampNeg)), M') ∧ Rl M' (tkeep τ x.toNatClampNeg) k F := by
  obtain ⟨L, sp, h1, h2, h3, h4⟩ := h
  simp only [Bool.and_eq_true, decide_eq_true_eq] at hv
  obtain ⟨hv, hf, hn⟩ := hv
  obtain ⟨p, hp, rfl⟩ := vpb_of hv
  rw [cl' (by omega)] at hf hn ⊢
  have hf := isF_i hf
  obtain ⟨r, hr, e1, e2, e3⟩ := file_yes h1 hf.1 hf.2
  obtain ⟨-, -, -, d4, d5, -⟩ := h1.2.2.2.2 r hr
  rw [e1] at d4 d5
  have eC : f_X4_keep M (nI p) = if tn τ p < 10 then bd2 (f_X2_addVersion M r) (fun r47 M47 => some (.inr r47, M47)) else some (.inl xS, M) := by
    unfold f_X4_keep f_X4_keep_0
    rw [reqPathC, hv, un_t, bdx_s, e3, bd2_s, oe_1, if_neg (by omega), d4, show (10 : Int32) = nI 10 from rfl]
    simp only [lt' (show tn τ p < 2147483648 by omega) (show 10 < 2147483648 by decide)]
  obtain ⟨a1, a2⟩ := TC_keep h1 hr (by rw [e1]; exact hn)
  rw [e1] at a1 a2
  rw [if_pos hn, a1, bd2_s] at eC
  have hs1 : ∀ t, t < 8 ∨ (8 < t ∧ t < 100) → mu (mu M (100 + r) (tn τ p) (M 6 r)) 8 r (nI (tn τ p + 1)) t = M t := fun t ht => by rw [mu_ne _ _ _ (by omega), mu_ne _ _ _ (by omega)]
  exact ⟨_, eC, Rl_mk a2 (LC_cong h2 (fun t _ _ => hs1 t (by omega))) (FS_cong h3 (hs1 0 (by omega)) (hs1 1 (by omega))) h4⟩
theorem g_keepS {M : Mem} {τ : Tr} {k : Lk} {F : List Nat} (h : Rl M τ k F) {x : Int32} (hv : vpb x = true) (hn : (isF τ x.toNatClampNeg && decide (tn τ x.toNatClampNeg < 10)) = false) : f_X4_keep M x = some (.inl xS, M) := by
  obtain ⟨L, sp, h1, h2, h3, h4⟩ := h
  obtain ⟨p, hp, rfl⟩ := vpb_of hv
  rw [cl' (by omega)] at hn
  cases hf : isF τ p
  · unfold f_X4_keep f_X4_keep_0
    rw [reqPathC, hv, un_t, bdx_s, file_no h1 hp (isF_n hf), bd2_s, oe_0]
  · rw [hf, Bool.true_and] at hn
    have hn : ¬ tn τ p < 10 := by simpa using hn
    have hf := isF_i hf
    obtain ⟨r, hr, e1, e2, e3⟩ := file_yes h1 hf.1 hf.2
    obtain ⟨-, -, -, d4, d5, -⟩ := h1.2.2.2.2 r hr
    rw [e1] at d4 d5
    unfold f_X4_keep f_X4_keep_0
    rw [reqPathC, hv, un_t, bdx_s, e3, bd2_s, oe_1, if_neg (by omega), d4, show (10 : Int32) = nI 10 from rfl]
    simp only [lt' (show tn τ p < 2147483648 by omega) (show 10 < 2147483648 by decide)]
    rw [if_neg hn]
theorem g_restore {M : Mem} {τ : Tr} {k : Lk} {F : List Nat} (h : Rl M τ k F) {c x y tks : Int32} (hv : pvV c x y tks = true) : ∃ M', f_X4_restore M c x y tks = some (.inr (oRs k τ c x.toNatClampNeg y.toNatClampNeg tks), M') ∧ Rl M' (if oRs k τ c x.toNatClampNeg y.toNatClampNeg tks = 0 then tcon τ x.toNatClampNeg (tv τ x.toNatClampNeg y.toNatClampNeg) else τ) k F ∧ (oRs k τ c x.toNatClampNeg y.toNatClampNeg tks = 1 → M' = M) := by
  obtain ⟨L, sp, h1, h2, h3, h4⟩ := h
  unfold pvV at hv
  simp only [Bool.and_eq_true] at hv
  obtain ⟨v1, v2, v3, v4⟩ := hv
  obtain ⟨p, hp, rfl⟩ := vpb_of v2
  obtain ⟨v, hvb, rfl⟩ := nI_ofNN (x := y) (by simpa using v3)
  rw [cl' (by omega), cl' hvb]
  unfold f_X4_restore f_X4_restore_0
  rw [reqClientC, v1, un_t, bdx_s, reqPathC, v2, un_t, bdx_s, reqNNC, v3, un_t, bdx_s, reqNNC, v4, un_t, bdx_s]
  by_cases hf : p ∈ ta τ ∧ td τ p = 1
  · obtain ⟨r, hr, e1, e2, e3⟩ := file_yes h1 hf.1 hf.2
    obtain ⟨-, d2, -, d4, d5, d6⟩ := h1.2.2.2.2 r hr
    rw [e1] at d2 d4 d5 d6
    have eh : f_X2_versionAt M r (nI v) = some (if v < tn τ p then tv τ p v else -1, M) := by
      unfold f_X2_versionAt f_X2_versionAt_0
      rw [d4, if_neg (nI_pos (by omega)), show (10 : Int32) = nI 10 from rfl]
      simp only [le' (show tn τ p < 2147483648 by omega) hvb, lt' hvb (show 10 < 2147483648 by decide)]
      by_cases q : v < tn τ p
      · rw [if_neg (by omega), if_pos (by omega), gi (show v < 10 by omega) (by decide), cl' hvb, d6 v q, if_pos q]
      · rw [if_pos (by omega), if_neg q]
    rw [e3, bd2_s, oe_1, if_neg (by omega), eh, bd2_s]
    unfold f_X4_restore_42
    rw [oe_1]
    by_cases q : v < tn τ p
    · rw [if_pos q, if_neg (d2.2.2 v q), allowsC h2 c hp tks, bd2_s]
      simp only [b2i_0]
      cases q2 : alw k c p tks
      · rw [oRs_4 ⟨hf, q⟩ q2, if_pos rfl, if_neg (by decide)]
        exact ⟨M, rfl, Rl_mk h1 h2 h3 h4, fun _ => rfl⟩
      · rw [oRs_0 ⟨hf, q⟩ q2, if_neg (by decide), if_pos rfl]
        have := TC_con h1 hr (c := tv τ p v) (d2.2.2 v q)
        rw [e1] at this
        exact ⟨_, rfl, Rl_mk this (LC_cong h2 (fun t _ _ => mu_ne _ _ _ (by omega))) (FS_cong h3 (mu_ne _ _ _ (by omega)) (mu_ne _ _ _ (by omega))) h4, fun z => absurd z (by decide)⟩
    · rw [oRs_1 (fun z => q z.2), if_neg q, if_pos rfl, if_neg (by decide)]
      exact ⟨M, rfl, Rl_mk h1 h2 h3 h4, fun _ => rfl⟩
  · rw [file_no h1 hp hf, bd2_s, oe_0, oRs_1 (fun z => hf z.1), if_neg (by decide)]
    unfold f_X4_restore_42
    exact ⟨M, rfl, Rl_mk h1 h2 h3 h4, fun _ => rfl⟩

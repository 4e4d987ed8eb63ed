/-! ===== what changes the locks ===== -/
def same (M M' : Mem) (P : Nat → Prop) : Prop := ∀ t, ¬ P t → M' t = M t
theorem same_rf (M : Mem) (P : Nat → Prop) : same M M P := fun _ _ => rfl
theorem same_tr {M M1 M2 : Mem} {P : Nat → Prop} (h : same M M1 P) (g : same M1 M2 P) : same M M2 P := fun t ht => (g t ht).trans (h t ht)
theorem same_wk {M M1 : Mem} {P P' : Nat → Prop} (h : same M M1 P) (hp : ∀ t, P t → P' t) : same M M1 P' := fun t ht => h t (fun z => ht (hp t z))
theorem same_mu (M : Mem) {P : Nat → Prop} {t : Nat} (i : Nat) (v : Int32) (h : P t) : same M (mu M t i v) P := fun _ ha => mu_ne M i v (fun z => ha (z ▸ h))
theorem same_mu2 {M M1 : Mem} {P : Nat → Prop} {t : Nat} (g : same M M1 P) (i : Nat) (v : Int32) (h : P t) : same M (mu M1 t i v) P := same_tr g (same_mu M1 i v h)
theorem LC_cong {M M' : Mem} {k : Lk} (h : LC M k) (g : ∀ t, 10 ≤ t → t ≤ 16 → M' t = M t) : LC M' k := by
  unfold LC
  rw [g 10 (by decide) (by decide), g 11 (by decide) (by decide), g 12 (by decide) (by decide), g 13 (by decide) (by decide), g 14 (by decide) (by decide), g 15 (by decide) (by decide), g 16 (by decide) (by decide)]
  exact h
theorem LM_cong {M M' : Mem} {k : Lk} (h : LM M k) (g : ∀ t, 28 ≤ t → t ≤ 34 → M' t = M t) : LM M' k := by
  unfold LM
  rw [g 28 (by decide) (by decide), g 29 (by decide) (by decide), g 30 (by decide) (by decide), g 31 (by decide) (by decide), g 32 (by decide) (by decide), g 33 (by decide) (by decide), g 34 (by decide) (by decide)]
  exact h
/-- whether a new lock can't stand -/
def barAt (k : Lk) (p : Nat) (s d : Bool) (j : Nat) : Bool := act k j && (!(s && !decide (ksh k j = 0)) && (cov k p j || (d && abv p (kpa k j))))
def barB (k : Lk) (p : Nat) (s d : Bool) : Bool := anyU (barAt k p s d) (kn k) 0
theorem barAt_e (k : Lk) (p : Nat) (s d : Bool) (j : Nat) : barAt k p s d j = (act k j && (!(s && !decide (ksh k j = 0)) && (cov k p j || (d && abv p (kpa k j))))) := rfl
theorem cov_act {k : Lk} {p j : Nat} (h : act k j = false) : cov k p j = false := by unfold cov; simp [h]
theorem one_ne : ((1 : Int32) = 0) = False := eq_false (by decide)
theorem barC_3 {M : Mem} {k : Lk} (h : LC M k) {p : Nat} (hp : p ≤ 9999) (s d : Bool) : ∀ (r n t : Nat), t + r = kn k → r < n → f_X1_bar_3 n M (nI p) (b2i s) (b2i d) (nI t) = some (b2i (anyU (barAt k p s d) r t), M) := by
  have hn : M 10 0 = nI (kn k) ∧ kn k ≤ 30 := ⟨h.1, h.2.1⟩
  intro r
  induction r with
  | zero =>
    intro n t ht hr
    obtain ⟨n, rfl⟩ : ∃ j, n = j + 1 := ⟨n - 1, by omega⟩
    show f_X1_bar_3B (f_X1_bar_3 n) M (nI p) (b2i s) (b2i d) (nI t) = _
    unfold f_X1_bar_3B
    rw [hn.1]
    simp only [le' (show kn k < 2147483648 by omega) (show t < 2147483648 by omega)]
    rw [if_pos (by omega)]
    rfl
  | succ r ih =>
    intro n t ht hr
    obtain ⟨n, rfl⟩ : ∃ j, n = j + 1 := ⟨n - 1, by omega⟩
    have e1 := ih n (t + 1) (by omega) (by omega)
    obtain ⟨-, g1, g2, g3, -⟩ := h.2.2.2.2 t (by omega)
    show f_X1_bar_3B (f_X1_bar_3 n) M (nI p) (b2i s) (b2i d) (nI t) = _
    unfold f_X1_bar_3B f_X1_bar_37 f_X1_bar_64
    rw [hn.1]
    simp only [le' (show kn k < 2147483648 by omega) (show t < 2147483648 by omega)]
    rw [if_neg (by omega), findC h (show t < kn k by omega), bd2_s, nI_1, anyU_s, barAt_e]
    by_cases q : act k t = true
    · rw [if_pos q, oe_1, if_neg (by omega)]
      simp only [oe_1, coversC h (show t < kn k by omega) hp q, bd2_s, b2i_0, g1, isAboveC M (show p < 2147483648 by omega) (show kpa k t < 2147483648 by omega), g3, e1]
      cases s <;> cases d <;> by_cases q2 : ksh k t = 0 <;> by_cases q3 : cov k p t = false <;> by_cases q4 : abv p (kpa k t) = false <;> simp [q, q2, q3, q4, b2i]
    · rw [if_neg q, oe_0, e1]; simp [q]
theorem barC {M : Mem} {k : Lk} (h : LC M k) {p : Nat} (hp : p ≤ 9999) (s d : Bool) : f_X1_bar M (nI p) (b2i s) (b2i d) = some (b2i (barB k p s d), M) := by
  unfold f_X1_bar f_X1_bar_0
  have := h.2.1
  exact barC_3 h hp s d (kn k) 64 0 (by omega) (by omega)
/-! locks of paths that go -/
def kdr (k : Lk) (ps : List Nat) : Lk := (kn k, kt k, kcl k, kpa k, ksh k, kdp k, fun j => if kpa k j ∈ ps then 0 else ken k j)
theorem kdr_nil (k : Lk) : kdr k [] = k := by unfold kdr; simp
theorem kdr_app (k : Lk) (a c : List Nat) : kdr (kdr k a) c = kdr k (a ++ c) := by
  unfold kdr
  simp only [List.mem_append]
  congr 6
  funext j
  by_cases h1 : kpa k j ∈ a <;> by_cases h2 : kpa k j ∈ c <;> simp [h1, h2, ken]
theorem kdr_cong (k : Lk) {a c : List Nat} (h : ∀ p, p ∈ a ↔ p ∈ c) : kdr k a = kdr k c := by
  unfold kdr
  simp only [h]
/-- other ends -/
def kset (k : Lk) (f : Nat → Nat) : Lk := (kn k, kt k, kcl k, kpa k, ksh k, kdp k, f)
theorem kset_self (k : Lk) : kset k (ken k) = k := rfl
theorem LG_set {n t : Int32} {cl pa sh dp en : Nat → Int32} {k : Lk} {f g : Nat → Nat} (h : LG n t cl pa sh dp en (kset k f)) (hfg : ∀ j, j < kn k → (kt k < f j ↔ kt k < g j) ∧ (kt k < f j → f j = g j)) : LG n t cl pa sh dp en (kset k g) := by
  obtain ⟨z1, z2, z3, z4, z5⟩ := h
  refine ⟨z1, z2, z3, z4, fun j hj => ?_⟩
  obtain ⟨w1, w2, w3, w4, w5, e, w6, w7, w8, w9⟩ := z5 j hj
  obtain ⟨y1, y2⟩ := hfg j hj
  have w8 : kt k < e ↔ kt k < f j := w8
  have w9 : kt k < e → e = f j := w9
  exact ⟨w1, w2, w3, w4, w5, e, w6, w7, w8.trans y1, fun q => (w9 q).trans (y2 (w8.mp q))⟩
theorem LG_up {n t : Int32} {cl pa sh dp en : Nat → Int32} {k : Lk} {f : Nat → Nat} (h : LG n t cl pa sh dp en (kset k f)) (i e : Nat) (he : e ≤ 1001000) : LG n t cl pa sh dp (fun j => if j = i then nI e else en j) (kset k (fun j => if j = i then e else f j)) := by
  obtain ⟨z1, z2, z3, z4, z5⟩ := h
  refine ⟨z1, z2, z3, z4, fun j hj => ?_⟩
  obtain ⟨w1, w2, w3, w4, w5, e', w6, w7, w8, w9⟩ := z5 j hj
  refine ⟨w1, w2, w3, w4, w5, ?_⟩
  by_cases q : j = i
  · subst q
    refine ⟨e, by simp, he, ?_, ?_⟩
    · show kt k < e ↔ kt k < (if j = j then e else f j); simp
    · intro _; show e = (if j = j then e else f j); simp
  · refine ⟨e', by simp only [if_neg q]; exact w6, w7, ?_, ?_⟩
    · show kt k < e' ↔ kt k < (if j = i then e else f j); rw [if_neg q]; exact w8
    · intro z; show e' = (if j = i then e else f j); rw [if_neg q]; exact w9 z
theorem LC_up {M : Mem} {k : Lk} {f : Nat → Nat} (h : LC M (kset k f)) (i e : Nat) (he : e ≤ 1001000) : LC (mu M 16 i (nI e)) (kset k (fun j => if j = i then e else f j)) := by
  unfold LC
  rw [mu_ne M i _ (show (10 : Nat) ≠ 16 by decide), mu_ne M i _ (show (11 : Nat) ≠ 16 by decide), mu_ne M i _ (show (12 : Nat) ≠ 16 by decide), mu_ne M i _ (show (13 : Nat) ≠ 16 by decide), mu_ne M i _ (show (14 : Nat) ≠ 16 by decide), mu_ne M i _ (show (15 : Nat) ≠ 16 by decide), mu_fn]
  exact LG_up h i e he
theorem LM_up {M : Mem} {k : Lk} {f : Nat → Nat} (h : LM M (kset k f)) (i e : Nat) (he : e ≤ 1001000) : LM (mu M 34 i (nI e)) (kset k (fun j => if j = i then e else f j)) := by
  unfold LM
  rw [mu_ne M i _ (show (29 : Nat) ≠ 34 by decide), mu_ne M i _ (show (28 : Nat) ≠ 34 by decide), mu_ne M i _ (show (30 : Nat) ≠ 34 by decide), mu_ne M i _ (show (31 : Nat) ≠ 34 by decide), mu_ne M i _ (show (32 : Nat) ≠ 34 by decide), mu_ne M i _ (show (33 : Nat) ≠ 34 by decide), mu_fn]
  exact LG_up h i e he
def fdr (k : Lk) (p t : Nat) (f : Nat → Nat) : Nat → Nat := fun j => if t ≤ j ∧ kpa k j = p then 0 else f j
theorem fdr_self {k : Lk} {p t : Nat} (f : Nat → Nat) (h : kn k ≤ t) (j : Nat) (hj : j < kn k) : fdr k p t f j = f j := by unfold fdr; rw [if_neg (by omega)]
theorem dropC_2 {k : Lk} {p : Nat} (hp : p ≤ 9999) : ∀ (r n t : Nat) (M : Mem) (f : Nat → Nat), LC M (kset k f) → t + r = kn k → r < n →
    ∃ M', f_X1_dropAt_2 n M (nI p) (nI t) = some M' ∧ LC M' (kset k (fdr k p t f)) ∧ same M M' (fun a => a = 16) := by
  intro r
  induction r with
  | zero =>
    intro n t M f h ht hr
    obtain ⟨n, rfl⟩ : ∃ j, n = j + 1 := ⟨n - 1, by omega⟩
    refine ⟨M, ?_, LG_set h (fun j hj => by rw [fdr_self f (by omega) j hj]; exact ⟨Iff.rfl, fun _ => rfl⟩), same_rf _ _⟩
    show f_X1_dropAt_2B (f_X1_dropAt_2 n) M (nI p) (nI t) = _
    have hn : M 10 0 = nI (kn k) ∧ kn k ≤ 30 := ⟨h.1, h.2.1⟩
    unfold f_X1_dropAt_2B
    rw [hn.1]
    simp only [le' (show kn k < 2147483648 by omega) (show t < 2147483648 by omega)]
    rw [if_pos (by omega)]
  | succ r ih =>
    intro n t M f h ht hr
    have hn : M 10 0 = nI (kn k) ∧ kn k ≤ 30 := ⟨h.1, h.2.1⟩
    obtain ⟨n, rfl⟩ : ∃ j, n = j + 1 := ⟨n - 1, by omega⟩
    obtain ⟨-, g1, g2, -⟩ := h.2.2.2.2 t (show t < kn k by omega)
    have g1 : M 13 t = nI (kpa k t) := g1
    have g2 : kpa k t ≤ 9999 := g2
    have g4 : M 11 0 = nI (kt k) := h.2.2.1
    have hu : f_X1_dropAt_2 (n + 1) M (nI p) (nI t) = if act (kset k f) t = true ∧ kpa k t = p then f_X1_dropAt_2 n (mu M 16 t (nI (kt k))) (nI p) (nI (t + 1)) else f_X1_dropAt_2 n M (nI p) (nI (t + 1)) := by
      show f_X1_dropAt_2B (f_X1_dropAt_2 n) M (nI p) (nI t) = _
      unfold f_X1_dropAt_2B f_X1_dropAt_36
      rw [hn.1]
      simp only [le' (show kn k < 2147483648 by omega) (show t < 2147483648 by omega)]
      rw [if_neg (by omega), findC h (show t < kn (kset k f) by show t < kn k; omega), bd2_s, nI_1]
      by_cases q : act (kset k f) t = true
      · rw [if_pos q, oe_1, if_neg (by omega), g1, g4]
        simp only [eq' (show kpa k t < 2147483648 by omega) (show p < 2147483648 by omega), q, true_and]
      · rw [if_neg q, oe_0]; simp [q]
    rw [hu]
    by_cases q : act (kset k f) t = true ∧ kpa k t = p
    · rw [if_pos q]
      obtain ⟨M', e1, e2, e3⟩ := ih n (t + 1) _ _ (LC_up h t (kt k) (by have := h.2.2.2.1; have : kt k ≤ 1000000 := this; omega)) (by omega) (by omega)
      refine ⟨M', e1, LG_set e2 (fun j hj => ?_), same_tr (same_mu M t _ rfl) e3⟩
      unfold fdr
      dsimp only
      by_cases hj2 : j = t
      · subst hj2
        rw [if_neg (by omega), if_pos rfl, if_pos ⟨Nat.le_refl _, q.2⟩]
        exact ⟨by omega, by omega⟩
      · by_cases h2 : t + 1 ≤ j ∧ kpa k j = p
        · rw [if_pos h2, if_pos ⟨by omega, h2.2⟩]; exact ⟨Iff.rfl, fun _ => rfl⟩
        · rw [if_neg h2, if_neg hj2, if_neg (fun z => h2 ⟨by omega, z.2⟩)]; exact ⟨Iff.rfl, fun _ => rfl⟩
    · rw [if_neg q]
      obtain ⟨M', e1, e2, e3⟩ := ih n (t + 1) M f h (by omega) (by omega)
      refine ⟨M', e1, LG_set e2 (fun j hj => ?_), e3⟩
      unfold fdr
      by_cases h2 : t + 1 ≤ j ∧ kpa k j = p
      · rw [if_pos h2, if_pos ⟨by omega, h2.2⟩]; exact ⟨Iff.rfl, fun _ => rfl⟩
      · rw [if_neg h2]
        by_cases h3 : t ≤ j ∧ kpa k j = p
        · have hjt : j = t := by
            rcases Nat.lt_or_ge t j with z | z
            · exact absurd ⟨by omega, h3.2⟩ h2
            · omega
          subst hjt
          rw [if_pos h3]
          have : ¬ kt k < f j := fun z => q ⟨by show decide (kt k < f j) = true; simpa using z, h3.2⟩
          exact ⟨by omega, fun z => absurd z this⟩
        · rw [if_neg h3]; exact ⟨Iff.rfl, fun _ => rfl⟩
theorem fdr_0 (k : Lk) (p : Nat) : kset k (fdr k p 0 (ken k)) = kdr k [p] := by
  unfold kset fdr kdr
  simp
theorem dropC {M : Mem} {k : Lk} (h : LC M k) {p : Nat} (hp : p ≤ 9999) : ∃ M', f_X1_dropAt M (nI p) = some M' ∧ LC M' (kdr k [p]) ∧ same M M' (fun a => a = 16) := by
  have := h.2.1
  obtain ⟨M', e1, e2, e3⟩ := dropC_2 (k := k) hp (kn k) 64 0 M (ken k) h (by omega) (by omega)
  rw [fdr_0] at e2
  exact ⟨M', e1, e2, e3⟩

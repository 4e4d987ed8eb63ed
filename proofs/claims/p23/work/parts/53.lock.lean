/-! ===== lock ===== -/
def kadd (k : Lk) (c : Int32) (p : Nat) (s d : Int32) (e : Nat) : Lk := (kn k + 1, kt k, vup (kcl k) (kn k) c, vup (kpa k) (kn k) p, vup (ksh k) (kn k) s, vup (kdp k) (kn k) d, vup (ken k) (kn k) e)
theorem LG_add {n t : Int32} {cl pa sh dp en : Nat → Int32} {k : Lk} (h : LG n t cl pa sh dp en k) (hn : kn k < 30) {c s d : Int32} {p e : Nat} (hp : p ≤ 9999) (he : e ≤ 1001000) : LG (nI (kn k + 1)) t (fun j => if j = kn k then c else cl j) (fun j => if j = kn k then nI p else pa j) (fun j => if j = kn k then s else sh j) (fun j => if j = kn k then d else dp j) (fun j => if j = kn k then nI e else en j) (kadd k c p s d e) := by
  obtain ⟨z1, z2, z3, z4, z5⟩ := h
  refine ⟨rfl, by show kn k + 1 ≤ 30; omega, z3, z4, fun j hj => ?_⟩
  have hj : j < kn k + 1 := hj
  show (if j = kn k then c else cl j) = vup (kcl k) (kn k) c j ∧ (if j = kn k then nI p else pa j) = nI (vup (kpa k) (kn k) p j) ∧ vup (kpa k) (kn k) p j ≤ 9999 ∧ (if j = kn k then s else sh j) = vup (ksh k) (kn k) s j ∧ (if j = kn k then d else dp j) = vup (kdp k) (kn k) d j ∧ ∃ e', (if j = kn k then nI e else en j) = nI e' ∧ e' ≤ 1001000 ∧ (kt k < e' ↔ kt k < vup (ken k) (kn k) e j) ∧ (kt k < e' → e' = vup (ken k) (kn k) e j)
  by_cases q : j = kn k
  · subst q
    simp only [if_true, vup_s]
    exact ⟨trivial, trivial, hp, trivial, trivial, e, rfl, he, Iff.rfl, fun _ => rfl⟩
  · simp only [if_neg q, vup_n _ _ q]
    exact z5 j (by omega)
def AC (M : Mem) (n : Nat) (c P s d E : Int32) : Mem := mu (mu (mu (mu (mu (mu M 12 n c) 13 n P) 14 n s) 15 n d) 16 n E) 10 0 (nI (n + 1))
def AM (M : Mem) (n : Nat) (c P s d E : Int32) : Mem := mu (mu (mu (mu (mu (mu M 30 n c) 31 n P) 32 n s) 33 n d) 34 n E) 29 0 (nI (n + 1))
theorem AC_ne (M : Mem) (n : Nat) (c P s d E : Int32) {t : Nat} (h : t < 10 ∨ t = 11 ∨ 16 < t) : AC M n c P s d E t = M t := by
  unfold AC
  rw [mu_ne _ _ _ (by omega), mu_ne _ _ _ (by omega), mu_ne _ _ _ (by omega), mu_ne _ _ _ (by omega), mu_ne _ _ _ (by omega), mu_ne _ _ _ (by omega)]
theorem AM_ne (M : Mem) (n : Nat) (c P s d E : Int32) {t : Nat} (h : t < 29 ∨ 34 < t) : AM M n c P s d E t = M t := by
  unfold AM
  rw [mu_ne _ _ _ (by omega), mu_ne _ _ _ (by omega), mu_ne _ _ _ (by omega), mu_ne _ _ _ (by omega), mu_ne _ _ _ (by omega), mu_ne _ _ _ (by omega)]
theorem LC_add {M : Mem} {k : Lk} (h : LC M k) (hn : kn k < 30) {c s d : Int32} {p e : Nat} (hp : p ≤ 9999) (he : e ≤ 1001000) : LC (AC M (kn k) c (nI p) s d (nI e)) (kadd k c p s d e) := by
  have g := LG_add h hn (c := c) (s := s) (d := d) hp he
  have e10 : AC M (kn k) c (nI p) s d (nI e) 10 0 = nI (kn k + 1) := by unfold AC; rw [mu_self]
  have e12 : AC M (kn k) c (nI p) s d (nI e) 12 = fun j => if j = kn k then c else M 12 j := by unfold AC; rw [mu_ne _ _ _ (by decide), mu_ne _ _ _ (by decide), mu_ne _ _ _ (by decide), mu_ne _ _ _ (by decide), mu_ne _ _ _ (by decide), mu_fn]
  have e13 : AC M (kn k) c (nI p) s d (nI e) 13 = fun j => if j = kn k then nI p else M 13 j := by unfold AC; rw [mu_ne _ _ _ (by decide), mu_ne _ _ _ (by decide), mu_ne _ _ _ (by decide), mu_ne _ _ _ (by decide), mu_fn, mu_ne _ _ _ (by decide)]
  have e14 : AC M (kn k) c (nI p) s d (nI e) 14 = fun j => if j = kn k then s else M 14 j := by unfold AC; rw [mu_ne _ _ _ (by decide), mu_ne _ _ _ (by decide), mu_ne _ _ _ (by decide), mu_fn, mu_ne _ _ _ (by decide), mu_ne _ _ _ (by decide)]
  have e15 : AC M (kn k) c (nI p) s d (nI e) 15 = fun j => if j = kn k then d else M 15 j := by unfold AC; rw [mu_ne _ _ _ (by decide), mu_ne _ _ _ (by decide), mu_fn, mu_ne _ _ _ (by decide), mu_ne _ _ _ (by decide), mu_ne _ _ _ (by decide)]
  have e16 : AC M (kn k) c (nI p) s d (nI e) 16 = fun j => if j = kn k then nI e else M 16 j := by unfold AC; rw [mu_ne _ _ _ (by decide), mu_fn, mu_ne _ _ _ (by decide), mu_ne _ _ _ (by decide), mu_ne _ _ _ (by decide), mu_ne _ _ _ (by decide)]
  unfold LC
  rw [e10, e12, e13, e14, e15, e16, AC_ne _ _ _ _ _ _ _ (t := 11) (by omega)]
  exact g
theorem LM_add {M : Mem} {k : Lk} (h : LM M k) (hn : kn k < 30) {c s d : Int32} {p e : Nat} (hp : p ≤ 9999) (he : e ≤ 1001000) : LM (AM M (kn k) c (nI p) s d (nI e)) (kadd k c p s d e) := by
  have g := LG_add h hn (c := c) (s := s) (d := d) hp he
  have e10 : AM M (kn k) c (nI p) s d (nI e) 29 0 = nI (kn k + 1) := by unfold AM; rw [mu_self]
  have e12 : AM M (kn k) c (nI p) s d (nI e) 30 = fun j => if j = kn k then c else M 30 j := by unfold AM; rw [mu_ne _ _ _ (by decide), mu_ne _ _ _ (by decide), mu_ne _ _ _ (by decide), mu_ne _ _ _ (by decide), mu_ne _ _ _ (by decide), mu_fn]
  have e13 : AM M (kn k) c (nI p) s d (nI e) 31 = fun j => if j = kn k then nI p else M 31 j := by unfold AM; rw [mu_ne _ _ _ (by decide), mu_ne _ _ _ (by decide), mu_ne _ _ _ (by decide), mu_ne _ _ _ (by decide), mu_fn, mu_ne _ _ _ (by decide)]
  have e14 : AM M (kn k) c (nI p) s d (nI e) 32 = fun j => if j = kn k then s else M 32 j := by unfold AM; rw [mu_ne _ _ _ (by decide), mu_ne _ _ _ (by decide), mu_ne _ _ _ (by decide), mu_fn, mu_ne _ _ _ (by decide), mu_ne _ _ _ (by decide)]
  have e15 : AM M (kn k) c (nI p) s d (nI e) 33 = fun j => if j = kn k then d else M 33 j := by unfold AM; rw [mu_ne _ _ _ (by decide), mu_ne _ _ _ (by decide), mu_fn, mu_ne _ _ _ (by decide), mu_ne _ _ _ (by decide), mu_ne _ _ _ (by decide)]
  have e16 : AM M (kn k) c (nI p) s d (nI e) 34 = fun j => if j = kn k then nI e else M 34 j := by unfold AM; rw [mu_ne _ _ _ (by decide), mu_fn, mu_ne _ _ _ (by decide), mu_ne _ _ _ (by decide), mu_ne _ _ _ (by decide), mu_ne _ _ _ (by decide)]
  unfold LM
  rw [e10, e12, e13, e14, e15, e16, AM_ne _ _ _ _ _ _ _ (t := 28) (by omega)]
  exact g
theorem addC {M : Mem} {k : Lk} (h : LC M k) (hn : kn k < 30) (c : Int32) (p t : Nat) (s d : Bool) : f_X1_add M c (nI p) (b2i s) (b2i d) (nI t) = some (nI (kn k), AC M (kn k) c (nI p) (b2i s) (b2i d) (nI (kt k + t))) := by
  unfold f_X1_add f_X1_add_0 AC
  rw [h.1, if_pos (by rw [show (30 : Int32) = nI 30 from rfl, lt' (by omega) (by decide)]; exact hn), gi hn (by decide), cl' (by omega), if_pos (b2i_and s), if_pos (b2i_and d)]
  simp only [mu_at _ _ _ (show 11 ≠ 15 by decide), mu_at _ _ _ (show 11 ≠ 14 by decide), mu_at _ _ _ (show 11 ≠ 13 by decide), mu_at _ _ _ (show 11 ≠ 12 by decide), mu_at _ _ _ (show 10 ≠ 16 by decide), mu_at _ _ _ (show 10 ≠ 15 by decide), mu_at _ _ _ (show 10 ≠ 14 by decide), mu_at _ _ _ (show 10 ≠ 13 by decide), mu_at _ _ _ (show 10 ≠ 12 by decide), mu_self, h.1, h.2.2.1, nI_add, nI_1]
  rw [show (1 : Int32) = nI 1 from rfl, pk_sub (by omega), Nat.add_sub_cancel]
def pvL (c x tk tks : Int32) : Bool := okC c && (vpb x && (inR tk 1 1000 && decide (0 ≤ tks)))
theorem oPut_le (k : Lk) (τ : Tr) (c : Int32) (p : Nat) (ex tks : Int32) : (oPut k τ c p ex tks ≤ 0) = (oPut k τ c p ex tks = 0) := by
  unfold oPut
  split
  · split
    · exact propext ⟨fun z => absurd z (by decide), fun z => absurd z (by decide)⟩
    · split
      · split
        · split
          · exact propext ⟨fun _ => rfl, fun _ => by decide⟩
          · exact propext ⟨fun z => absurd z (by decide), fun z => absurd z (by decide)⟩
        · split
          · split
            · exact propext ⟨fun z => absurd z (by decide), fun z => absurd z (by decide)⟩
            · exact propext ⟨fun _ => rfl, fun _ => by decide⟩
          · exact propext ⟨fun z => absurd z (by decide), fun z => absurd z (by decide)⟩
      · exact propext ⟨fun z => absurd z (by decide), fun z => absurd z (by decide)⟩
  · exact propext ⟨fun z => absurd z (by decide), fun z => absurd z (by decide)⟩
theorem tk_m1 {M : Mem} {L sp : List Nat} {τ : Tr} (h : TC M L sp τ) {p : Nat} : (tk τ p = -1) = (p ≠ 0 ∧ p ∉ ta τ) ∧ ((0 : Int32) ≤ tk τ p) = ¬ (p ≠ 0 ∧ p ∉ ta τ) := by
  unfold tk
  by_cases h0 : p = 0
  · rw [if_pos h0]; simp [h0]
  · rw [if_neg h0]
    by_cases hy : p ∈ ta τ
    · rw [if_pos hy]
      rcases td_12 h hy with z | z <;> rw [z] <;> simp [hy] <;> decide
    · rw [if_neg hy]; simp [h0, hy]

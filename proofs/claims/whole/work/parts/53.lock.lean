/-! ===== lock ===== -/
def kadd (k : Lk) (c : Int32) (p : Nat) (s d : Int32) (e : Nat) : Lk := (kn k + 1, kt k, vup (kcl k) (kn k) c, vup (kpa k) (kn k) p, vup (ksh k) (kn k) s, vup (kdp k) (kn k) d, vup (ken k) (kn k) e)
theorem LG_add {n t : Int32} {cl pa sh dp en : Nat → Int32} {k : Lk} (h : LG n t cl pa sh dp en k) (hn : kn k < 30) {c s d : Int32} {p e : Nat} (hp : p ≤ 9999) (he : e ≤ 1001000) : LG (nI (kn k + 1)) t (fun j => if j = kn k then c else cl j) (fun j => if j = kn k then nI p else pa j) (fun j => if j = kn k then s else sh j) (fun j => if j = kn k then d else dp j) (fun j => if j = kn k then nI e else en j) (kadd k c p s d e) := by
  obtain ⟨z1, z2, z3, z4, z5⟩ := h
  refine ⟨rfl, by show kn k + 1 ≤ 30; omega, z3, z4, fun j hj => ?_⟩
  have hj : j < kn k + 1 := hj
  show (if j = kn k then c else cl j) = vup (kcl k) (kn k) c j ∧ (if j = kn k then nI p else pa j) = nI (vup (kpa k) (kn k) p j) ∧ vup (kpa k) (kn k) p j ≤ 9999 ∧ (if j = kn k then s else sh j) = vup (ksh k) (kn k) s j ∧ (if j = kn k then d else dp j) = vup (kdp k) (kn k) d j ∧ ∃ e', (if j = kn k then nI e else en j) = nI e' ∧ e' ≤ 1001000 ∧ (kt k < e' ↔ kt k < vup (ken k) (kn k) e j) ∧ (kt k < e' → e' = vup (ken k) (kn k) e j)
  by_cases q : j = kn k
  · subst q
    simp only [if_true, vup_s]
    exact ⟨trivial, trivial, hp, trivial, trivial, e, rfl, he, Iff.rfl, fun _ => rfl⟩
  · simp only [if_neg q, vup_n _ _ q]
    exact z5 j (by omega)
def AC (M : Mem) (n : Nat) (c P s d E : Int32) : Mem := mu (mu (mu (mu (mu (mu M 12 n c) 13 n P) 14 n s) 15 n d) 16 n E) 10 0 (nI (n + 1))
def AM (M : Mem) (n : Nat) (c P s d E : Int32) : Mem := mu (mu (mu (mu (mu (mu M 30 n c) 31 n P) 32 n s) 33 n d) 34 n E) 29 0 (nI (n + 1))
theorem AC_ne (M : Mem) (n : Nat) (c P s d E : Int32) {t : Nat} (h : t < 10 ∨ t = 11 ∨ 16 < t) : AC M n c P s d E t = M t := by
  unfold AC
  rw [mu_ne _ _ _ (by omega), mu_ne _ _ _ (by omega), mu_ne _ _ _ (by omega), mu_ne _ _ _ (by omega), mu_ne _ _ _ (by omega), mu_ne _ _ _ (by omega)]
theorem AM_ne (M : Mem) (n : Nat) (c P s d E : Int32) {t : Nat} (h : t < 29 ∨ 34 < t) : AM M n c P s d E t = M t := by
  unfold AM
  rw [mu_ne _ _ _ (by omega), mu_ne _ _ _ (by omega), mu_ne _ _ _ (by omega), mu_ne _ _ _ (by omega), mu_ne _ _ _ (by omega), mu_ne _ _ _ (by omega)]
theorem LC_add {M : Mem} {k : Lk} (h : LC M k) (hn : kn k < 30) {c s d : Int32} {p e : Nat} (hp : p ≤ 9999) (he : e ≤ 1001000) : LC (AC M (kn k) c (nI p) s d (nI e)) (kadd k c p s d e) := by
  have g := LG_add h hn (c := c) (s := s) (d := d) hp he
  have e10 : AC M (kn k) c (nI p) s d (nI e) 10 0 = nI (kn k + 1) := by unfold AC; rw [mu_self]
  have e12 : AC M (kn k) c (nI p) s d (nI e) 12 = fun j => if j = kn k then c else M 12 j := by unfold AC; rw [mu_ne _ _ _ (by decide), mu_ne _ _ _ (by decide), mu_ne _ _ _ (by decide), mu_ne _ _ _ (by decide), mu_ne _ _ _ (by decide), mu_fn]
  have e13 : AC M (kn k) c (nI p) s d (nI e) 13 = fun j => if j = kn k then nI p else M 13 j := by unfold AC; rw [mu_ne _ _ _ (by decide), mu_ne _ _ _ (by decide), mu_ne _ _ _ (by decide), mu_ne _ _ _ (by decide), mu_fn, mu_ne _ _ _ (by decide)]
  have e14 : AC M (kn k) c (nI p) s d (nI e) 14 = fun j => if j = kn k then s else M 14 j := by unfold AC; rw [mu_ne _ _ _ (by decide), mu_ne _ _ _ (by decide), mu_ne _ _ _ (by decide), mu_fn, mu_ne _ _ _ (by decide), mu_ne _ _ _ (by decide)]
  have e15 : AC M (kn k) c (nI p) s d (nI e) 15 = fun j => if j = kn k then d else M 15 j := by unfold AC; rw [mu_ne _ _ _ (by decide), mu_ne _ _ _ (by decide), mu_fn, mu_ne _ _ _ (by decide), mu_ne _ _ _ (by decide), mu_ne _ _ _ (by decide)]
  have e16 : AC M (kn k) c (nI p) s d (nI e) 16 = fun j => if j = kn k then nI e else M 16 j := by unfold AC; rw [mu_ne _ _ _ (by decide), mu_fn, mu_ne _ _ _ (by decide), mu_ne _ _ _ (by decide), mu_ne _ _ _ (by decide), mu_ne _ _ _ (by decide)]
  unfold LC
  rw [e10, e12, e13, e14, e15, e16, AC_ne _ _ _ _ _ _ _ (t := 11) (by omega)]
  exact g
theorem LM_add {M : Mem} {k : Lk} (h : LM M k) (hn : kn k < 30) {c s d : Int32} {p e : Nat} (hp : p ≤ 9999) (he : e ≤ 1001000) : LM (AM M (kn k) c (nI p) s d (nI e)) (kadd k c p s d e) := by
  have g := LG_add h hn (c := c) (s := s) (d := d) hp he
  have e10 : AM M (kn k) c (nI p) s d (nI e) 29 0 = nI (kn k + 1) := by unfold AM; rw [mu_self]
  have e12 : AM M (kn k) c (nI p) s d (nI e) 30 = fun j => if j = kn k then c else M 30 j := by unfold AM; rw [mu_ne _ _ _ (by decide), mu_ne _ _ _ (by decide), mu_ne _ _ _ (by decide), mu_ne _ _ _ (by decide), mu_ne _ _ _ (by decide), mu_fn]
  have e13 : AM M (kn k) c (nI p) s d (nI e) 31 = fun j => if j = kn k then nI p else M 31 j := by unfold AM; rw [mu_ne _ _ _ (by decide), mu_ne _ _ _ (by decide), mu_ne _ _ _ (by decide), mu_ne _ _ _ (by decide), mu_fn, mu_ne _ _ _ (by decide)]
  have e14 : AM M (kn k) c (nI p) s d (nI e) 32 = fun j => if j = kn k then s else M 32 j := by unfold AM; rw [mu_ne _ _ _ (by decide), mu_ne _ _ _ (by decide), mu_ne _ _ _ (by decide), mu_fn, mu_ne _ _ _ (by decide), mu_ne _ _ _ (by decide)]
  have e15 : AM M (kn k) c (nI p) s d (nI e) 33 = fun j => if j = kn k then d else M 33 j := by unfold AM; rw [mu_ne _ _ _ (by decide), mu_ne _ _ _ (by decide), mu_fn, mu_ne _ _ _ (by decide), mu_ne _ _ _ (by decide), mu_ne _ _ _ (by decide)]
  have e16 : AM M (kn k) c (nI p) s d (nI e) 34 = fun j => if j = kn k then nI e else M 34 j := by unfold AM; rw [mu_ne _ _ _ (by decide), mu_fn, mu_ne _ _ _ (by decide), mu_ne _ _ _ (by decide), mu_ne _ _ _ (by decide), mu_ne _ _ _ (by decide)]
  unfold LM
  rw [e10, e12, e13, e14, e15, e16, AM_ne _ _ _ _ _ _ _ (t := 28) (by omega)]
  exact g
theorem addC {M : Mem} {k : Lk} (h : LC M k) (hn : kn k < 30) (c : Int32) (p t : Nat) (s d : Bool) : f_X1_add M c (nI p) (b2i s) (b2i d) (nI t) = some (nI (kn k), AC M (kn k) c (nI p) (b2i s) (b2i d) (nI (kt k + t))) := by
  unfold f_X1_add f_X1_add_0 AC
  rw [h.1, if_pos (by rw [show (30 : Int32) = nI 30 from rfl, lt' (by omega) (by decide)]; exact hn), gi hn (by decide), cl' (by omega), if_pos (b2i_and s), if_pos (b2i_and d)]
  simp only [mu_at _ _ _ (show 11 ≠ 15 by decide), mu_at _ _ _ (show 11 ≠ 14 by decide), mu_at _ _ _ (show 11 ≠ 13 by decide), mu_at _ _ _ (show 11 ≠ 12 by decide), mu_at _ _ _ (show 10 ≠ 16 by decide), mu_at _ _ _ (show 10 ≠ 15 by decide), mu_at _ _ _ (show 10 ≠ 14 by decide), mu_at _ _ _ (show 10 ≠ 13 by decide), mu_at _ _ _ (show 10 ≠ 12 by decide), mu_self, h.1, h.2.2.1, nI_add, nI_1]
  rw [show (1 : Int32) = nI 1 from rfl, pk_sub (by omega), Nat.add_sub_cancel]
theorem addM {M : Mem} {k : Lk} (h : LM M k) (hn : kn k < 30) (c : Int32) (p t : Nat) (s d : Bool) : f_X5_lock_142 M c (nI p) (b2i s) (b2i d) (nI t) = some (nI (kn k), AM M (kn k) c (nI p) (b2i s) (b2i d) (nI (kt k + t))) := by
  unfold f_X5_lock_142 AM
  simp only [mu_at _ _ _ (show 28 ≠ 34 by decide), mu_at _ _ _ (show 28 ≠ 33 by decide), mu_at _ _ _ (show 28 ≠ 32 by decide), mu_at _ _ _ (show 28 ≠ 31 by decide), mu_at _ _ _ (show 28 ≠ 30 by decide), mu_at _ _ _ (show 29 ≠ 34 by decide), mu_at _ _ _ (show 29 ≠ 33 by decide), mu_at _ _ _ (show 29 ≠ 32 by decide), mu_at _ _ _ (show 29 ≠ 31 by decide), mu_at _ _ _ (show 29 ≠ 30 by decide), h.1, h.2.2.1, nI_add, nI_1, b2i_and]
  simp only [gi hn (show 30 < 2147483648 by decide)]
  rw [cl' (by omega)]
  first
    | rfl
    | (rw [mu_self, show (1 : Int32) = nI 1 from rfl, pk_sub (by omega), Nat.add_sub_cancel])
def pvL (c x tk tks : Int32) : Bool := okC c && (vpb x && (inR tk 1 1000 && decide (0 ≤ tks)))
theorem lockM_pv (M : Mem) (c x s d tk tks : Int32) : f_X5_lock M c x s d tk tks = f_X5_lock_49 M c x s d tk tks (b2i (pvL c x tk tks)) (thr (pvL c x tk tks)) := by
  unfold f_X5_lock f_X5_lock_0 f_X5_lock_35 f_X5_lock_36 pvL
  rw [isClientM, bd2_s, isPathM, bd2_s, isRangeM, bd2_s, nneg]
  simp only [b2i_0]
  by_cases h3 : tks < 0 <;> cases okC c <;> cases vpb x <;> cases inR tk 1 1000 <;> simp [h3, thr, b2i]
theorem oPut_le (k : Lk) (τ : Tr) (c : Int32) (p : Nat) (ex tks : Int32) : (oPut k τ c p ex tks ≤ 0) = (oPut k τ c p ex tks = 0) := by
  unfold oPut
  split
  · split
    · exact propext ⟨fun z => absurd z (by decide), fun z => absurd z (by decide)⟩
    · split
      · split
        · split
          · exact propext ⟨fun _ => rfl, fun _ => by decide⟩
          · exact propext ⟨fun z => absurd z (by decide), fun z => absurd z (by decide)⟩
        · split
          · split
            · exact propext ⟨fun z => absurd z (by decide), fun z => absurd z (by decide)⟩
            · exact propext ⟨fun _ => rfl, fun _ => by decide⟩
          · exact propext ⟨fun z => absurd z (by decide), fun z => absurd z (by decide)⟩
      · exact propext ⟨fun z => absurd z (by decide), fun z => absurd z (by decide)⟩
  · exact propext ⟨fun z => absurd z (by decide), fun z => absurd z (by decide)⟩
theorem tk_m1 {M : Mem} {L sp : List Nat} {τ : Tr} (h : TC M L sp τ) {p : Nat} : (tk τ p = -1) = (p ≠ 0 ∧ p ∉ ta τ) ∧ ((0 : Int32) ≤ tk τ p) = ¬ (p ≠ 0 ∧ p ∉ ta τ) := by
  unfold tk
  by_cases h0 : p = 0
  · rw [if_pos h0]; simp [h0]
  · rw [if_neg h0]
    by_cases hy : p ∈ ta τ
    · rw [if_pos hy]
      rcases td_12 h hy with z | z <;> rw [z] <;> simp [hy] <;> decide
    · rw [if_neg hy]; simp [h0, hy]
theorem st_lock {M : Mem} {L sp Lm : List Nat} {τ : Tr} {k : Lk} {F G : List Nat} {B : Nat} (h : Iv M L sp Lm τ k F G B) (hB : B + 200 ≤ 1000000) (c x : Int32) (s d : Bool) (tk' tks : Int32) : ∃ M2, agree M M2 (fun m => f_L_lock m c x (b2i s) (b2i d) tk' tks) (fun m => f_X5_lock m c x (b2i s) (b2i d) tk' tks) ∧ Inv M2 (B + 200) := by
  have h' := Iv_le h (show B ≤ B + 200 by omega) hB
  cases hv : pvL c x tk' tks
  · refine ⟨mu M 39 0 1, ag_T (q := 1) (v := 0) (M1 := M) (wT_lock_A (M1 := M) ?_) ?_ (at39 _ _) (by decide), ⟨_, _, _, _, _, _, _, Iv_mu h' (by decide) _ _⟩⟩
    · unfold f_X4_lock f_X4_lock_0
      unfold pvL at hv
      rw [reqClientC]
      simp only [reqPathC, reqNNC, reqRangeC]
      cases h1 : okC c
      · rfl
      · cases h2 : vpb x
        · rfl
        · cases h3 : inR tk' 1 1000
          · rfl
          · rw [h1, h2, h3] at hv
            have hv : decide ((0 : Int32) ≤ tks) = false := by simpa using hv
            rw [hv]; rfl
    · show f_X5_lock M c x _ _ tk' tks = _
      rw [lockM_pv, hv]; rfl
  · have hv2 := hv
    unfold pvL at hv2
    simp only [Bool.and_eq_true] at hv2
    obtain ⟨v1, v2, v3, v4⟩ := hv2
    obtain ⟨p, hp, rfl⟩ := vpb_of v2
    obtain ⟨t, ht1, ht2, rfl⟩ := inR_of (a := 1) (c := 1000) (by decide) (by decide) v3
    have hkn := h.2.2.1.2.1
    have hkt : kt k ≤ 1000000 := h.2.2.1.2.2.2.1
    have hkn30 : (nI (kn k) < 30) = (kn k < 30) := lt' (b := 30) (by omega) (by decide)
    have hkn30' : (nI (kn k) = 30) = (kn k = 30) := eq' (b := 30) (by omega) (by decide)
    have eC : f_X4_lock M c (nI p) (b2i s) (b2i d) (nI t) tks = if kn k < 30 then (if barB k p s d = false then (if p ≠ 0 ∧ p ∉ ta τ then (if oPut k τ c p (-1) tks = 0 then bd1 (f_X4_write M (nI p) 0) (fun M105 => f_X4_lock_108 M105 c (nI p) (b2i s) (b2i d) (nI t)) else some (.inl xS, M)) else f_X4_lock_108 M c (nI p) (b2i s) (b2i d) (nI t)) else some (.inl xS, M)) else some (.inl xS, M) := by
      unfold f_X4_lock f_X4_lock_0
      rw [reqClientC, v1, un_t, bdx_s, reqPathC, v2, un_t, bdx_s, reqRangeC, v3, un_t, bdx_s, reqNNC, v4, un_t, bdx_s, h.2.2.1.1, barC h.2.2.1 hp s d, bd2_s, kindAtC h.1 hp, bd2_s]
      simp only [hkn30, b2i_0, (tk_m1 h.1).1]
      by_cases q : p ≠ 0 ∧ p ∉ ta τ
      · rw [outC h.1 h.2.2.1 ⟨by omega, hp⟩, bd2_s]
      · rw [if_neg q, if_neg q]
    have eM : ∀ N, Iv (mu (mu N 39 0 0) 39 0 0) L sp Lm τ k F G B ∨ (MT (mu (mu N 39 0 0) 39 0 0) Lm τ B ∧ LM (mu (mu N 39 0 0) 39 0 0) k) → f_X5_lock N c (nI p) (b2i s) (b2i d) (nI t) tks = if kn k < 30 then (if barB k p s d = false then (if p ≠ 0 ∧ p ∉ ta τ then (if oPut k τ c p (-1) tks = 0 then f_X5_lock_117 (mu N 39 0 0) c (nI p) (b2i s) (b2i d) (nI t) 1 0 else some (0, mu (mu N 39 0 0) 39 0 2)) else f_X5_lock_117 (mu N 39 0 0) c (nI p) (b2i s) (b2i d) (nI t) 0 0) else some (0, mu (mu N 39 0 0) 39 0 2)) else some (0, mu (mu N 39 0 0) 39 0 2) := by
      intro N hN
      have hm0 : MT (mu (mu N 39 0 0) 39 0 0) Lm τ B ∧ LM (mu (mu N 39 0 0) 39 0 0) k := hN.elim (fun z => ⟨z.2.1, z.2.2.2.1⟩) id
      have hm : MT (mu N 39 0 0) Lm τ B := MT_cong hm0.1 (fun t _ _ => by rw [mu_ne _ _ _ (by omega), mu_ne _ _ _ (by omega), mu_ne _ _ _ (by omega)])
      have hk : LM (mu N 39 0 0) k := LM_cong hm0.2 (fun t _ _ => by rw [mu_ne _ _ _ (by omega), mu_ne _ _ _ (by omega), mu_ne _ _ _ (by omega)])
      rw [lockM_pv, hv]
      unfold f_X5_lock_49 f_X5_lock_72 f_X5_lock_116 f_X5_lock_112
      have e112 : ∀ x8, f_X5_lock_117 (mu N 39 0 0) c (nI p) (b2i s) (b2i d) (nI t) x8 2 = some (0, mu (mu N 39 0 0) 39 0 2) := fun x8 => by
        unfold f_X5_lock_117
        rw [at39, if_neg (by decide)]
      rw [if_neg (by decide), show thr true = 0 from rfl, kindsM hm hp, bd2_s, hk.1, clashesM hk hp s d]
      simp only [bd2_s, hkn30', b2i_0, (tk_m1 h.1).2, e112, one_ne, if_false, if_true]
      by_cases q : p ≠ 0 ∧ p ∉ ta τ
      · rw [if_neg (not_not_intro q), putsM hm hk ⟨by omega, hp⟩ (Or.inl rfl)]
        simp only [bd2_s, oPut_le]
        by_cases q0 : kn k < 30
        · rw [if_pos q0, if_neg (show ¬ kn k = 30 by omega), if_pos q, e112]
        · rw [if_neg q0, if_pos (show kn k = 30 by omega)]
      · rw [if_pos q]
        by_cases q0 : kn k < 30
        · rw [if_pos q0, if_neg (show ¬ kn k = 30 by omega), if_neg q]
        · rw [if_neg q0, if_pos (show kn k = 30 by omega)]
    have hS : ∀ (_ : f_X4_lock M c (nI p) (b2i s) (b2i d) (nI t) tks = some (.inl xS, M)) (_ : f_X5_lock M c (nI p) (b2i s) (b2i d) (nI t) tks = some (0, mu (mu M 39 0 0) 39 0 2)), ∃ M2, agree M M2 (fun m => f_L_lock m c (nI p) (b2i s) (b2i d) (nI t) tks) (fun m => f_X5_lock m c (nI p) (b2i s) (b2i d) (nI t) tks) ∧ Inv M2 (B + 200) := fun a1 a2 =>
      ⟨_, ag_T (q := 2) (v := 0) (M1 := M) (wT_lock_S a1) a2 (at39 _ _) (by decide), ⟨_, _, _, _, _, _, _, Iv_mu (Iv_mu h' (t := 39) (by decide) 0 0) (t := 39) (by decide) 0 2⟩⟩
    have eM0 := eM M (Or.inl (Iv_mu (Iv_mu h (t := 39) (by decide) 0 0) (t := 39) (by decide) 0 0))
    by_cases q0 : kn k < 30
    · cases q1 : barB k p s d
      · rw [if_pos q0, if_pos q1] at eC
        by_cases q : p ≠ 0 ∧ p ∉ ta τ
        · rw [if_pos q] at eC
          by_cases ho : oPut k τ c p (-1) tks = 0
          · obtain ⟨n1, n2⟩ := oPut_0 (by omega) (fun hy => td_12 h.1 hy) (by rw [← TC_len h.1]; exact IC_len h.1.1) ho
            obtain ⟨W1, L', sp', a1, a2, hs1⟩ := writeC h.1 ⟨by omega, hp⟩ n1 n2 (ct := 0) (by decide)
            have hkW : LC W1 k := LC_cong h.2.2.1 (fun t' _ _ => hs1 t' (by omega))
            rw [if_pos ho, a1, bd1_s] at eC
            unfold f_X4_lock_108 at eC
            rw [addC hkW q0 c p t s d, bd2_s] at eC
            have hCk := LC_add hkW q0 (c := c) (s := b2i s) (d := b2i d) hp (show kt k + t ≤ 1001000 by omega)
            have a2' : TC (AC W1 (kn k) c (nI p) (b2i s) (b2i d) (nI (kt k + t))) L' sp' (twr τ p 0) := TC_cong a2 (fun t' ht' => AC_ne _ _ _ _ _ _ _ (by omega))
            have hs2 : ∀ t', t' < 2 ∨ 16 < t' ∧ t' < 100 → AC W1 (kn k) c (nI p) (b2i s) (b2i d) (nI (kt k + t)) t' = M t' := fun t' ht' => by rw [AC_ne _ _ _ _ _ _ _ (by omega), hs1 t' (by omega)]
            generalize AC W1 (kn k) c (nI p) (b2i s) (b2i d) (nI (kt k + t)) = M1 at eC hCk a2' hs2
            have hN : ∀ t', t' < 2 ∨ (16 < t' ∧ t' < 39) → mu (mu (mu M1 40 0 (nI (kn k))) 39 0 0) 39 0 0 t' = M t' := fun t' ht => by rw [mu_ne _ _ _ (by omega), mu_ne _ _ _ (by omega), mu_ne _ _ _ (by omega), hs2 t' (by omega)]
            have hm : MT (mu (mu (mu M1 40 0 (nI (kn k))) 39 0 0) 39 0 0) Lm τ B := MT_cong h.2.1 (fun t _ _ => hN t (by omega))
            have hk : LM (mu (mu (mu M1 40 0 (nI (kn k))) 39 0 0) 39 0 0) k := LM_cong h.2.2.2.1 (fun t _ _ => hN t (by omega))
            have eM1 := eM (mu M1 40 0 (nI (kn k))) (Or.inr ⟨hm, hk⟩)
            rw [if_pos q0, if_pos q1, if_pos q, if_pos ho] at eM1
            unfold f_X5_lock_117 at eM1
            rw [at39, if_pos (by decide), if_neg (by decide)] at eM1
            have n39 : mu (mu (mu M1 40 0 (nI (kn k))) 39 0 0) 39 0 0 39 0 = 0 := at39 _ _
            have n40 : mu (mu (mu M1 40 0 (nI (kn k))) 39 0 0) 39 0 0 40 0 = nI (kn k) := by rw [mu_at _ _ _ (by decide), at40]
            have nC : ∀ t, t < 39 ∨ 100 ≤ t → mu (mu (mu M1 40 0 (nI (kn k))) 39 0 0) 39 0 0 t = M1 t := fun t ht => by rw [mu_ne _ _ _ (by omega), mu_ne _ _ _ (by omega), mu_ne _ _ _ (by omega)]
            generalize mu (mu (mu M1 40 0 (nI (kn k))) 39 0 0) 39 0 0 = N at eM1 hN hm hk n39 n40 nC
            obtain ⟨s', b1, b2, b3, b4, b5⟩ := makesM hm (by omega) (n2 q.2) ⟨by omega, hp⟩ q.2 (kd := 1) (Or.inl rfl) (ct := 0) (by decide)
            have hk' : LM (MK N s' (nI p) 1 0) k := LM_cong hk (fun t' _ _ => MK_ne _ _ _ _ _ (by omega))
            rw [b3, bd2_s, addM hk' q0 c p t s d] at eM1
            have hMk := LM_add hk' q0 (c := c) (s := b2i s) (d := b2i d) hp (show kt k + t ≤ 1001000 by omega)
            unfold twr at a2'
            rw [if_neg q.2] at a2'
            refine ⟨_, ag_R (v := nI (kn k)) (M1 := M1) (wR_lock eC) eM1 ?_ ?_, ⟨L', sp', Lm ++ [s'], tput τ p 1 0, kadd k c p (b2i s) (b2i d) (kt k + t), F, G, TC_cong a2' (fun t ht => ?_), MT_le (MT_cong b5 (fun t _ _ => ?_)) (by omega) hB, LC_cong hCk (fun t _ _ => ?_), hMk, FL_cong h.2.2.2.2 (fun t ht => ?_)⟩⟩
            · rw [AM_ne _ _ _ _ _ _ _ (by omega), MK_ne _ _ _ _ _ (by omega), n39]
            · rw [AM_ne _ _ _ _ _ _ _ (by omega), MK_ne _ _ _ _ _ (by omega), n40]
            · rw [AM_ne _ _ _ _ _ _ _ (by omega), MK_ne _ _ _ _ _ (by omega), nC t (by omega)]
            · rw [AM_ne _ _ _ _ _ _ _ (by omega)]
            · rw [AM_ne _ _ _ _ _ _ _ (by omega), MK_ne _ _ _ _ _ (by omega), nC t (by omega)]
            · rw [AM_ne _ _ _ _ _ _ _ (by omega), MK_ne _ _ _ _ _ (by omega), hN t (by omega)]
          · rw [if_neg ho] at eC
            exact hS eC (by rw [eM0, if_pos q0, if_pos q1, if_pos q, if_neg ho])
        · rw [if_neg q] at eC
          unfold f_X4_lock_108 at eC
          rw [addC h.2.2.1 q0 c p t s d, bd2_s] at eC
          have hCk := LC_add h.2.2.1 q0 (c := c) (s := b2i s) (d := b2i d) hp (show kt k + t ≤ 1001000 by omega)
          have hs2 : ∀ t', t' < 10 ∨ 16 < t' → AC M (kn k) c (nI p) (b2i s) (b2i d) (nI (kt k + t)) t' = M t' := fun t' ht' => AC_ne _ _ _ _ _ _ _ (by omega)
          generalize AC M (kn k) c (nI p) (b2i s) (b2i d) (nI (kt k + t)) = M1 at eC hCk hs2
          have hN : ∀ t', t' < 10 ∨ (16 < t' ∧ t' < 39) ∨ 100 ≤ t' → mu (mu (mu M1 40 0 (nI (kn k))) 39 0 0) 39 0 0 t' = M t' := fun t' ht => by rw [mu_ne _ _ _ (by omega), mu_ne _ _ _ (by omega), mu_ne _ _ _ (by omega), hs2 t' (by omega)]
          have hm : MT (mu (mu (mu M1 40 0 (nI (kn k))) 39 0 0) 39 0 0) Lm τ B := MT_cong h.2.1 (fun t _ _ => hN t (by omega))
          have hk : LM (mu (mu (mu M1 40 0 (nI (kn k))) 39 0 0) 39 0 0) k := LM_cong h.2.2.2.1 (fun t _ _ => hN t (by omega))
          have eM1 := eM (mu M1 40 0 (nI (kn k))) (Or.inr ⟨hm, hk⟩)
          rw [if_pos q0, if_pos q1, if_neg q] at eM1
          unfold f_X5_lock_117 at eM1
          rw [at39, if_pos (by decide), if_pos rfl] at eM1
          have n39 : mu (mu (mu M1 40 0 (nI (kn k))) 39 0 0) 39 0 0 39 0 = 0 := at39 _ _
          have n40 : mu (mu (mu M1 40 0 (nI (kn k))) 39 0 0) 39 0 0 40 0 = nI (kn k) := by rw [mu_at _ _ _ (by decide), at40]
          have nC : ∀ t, t < 39 ∨ 100 ≤ t → mu (mu (mu M1 40 0 (nI (kn k))) 39 0 0) 39 0 0 t = M1 t := fun t ht => by rw [mu_ne _ _ _ (by omega), mu_ne _ _ _ (by omega), mu_ne _ _ _ (by omega)]
          generalize mu (mu (mu M1 40 0 (nI (kn k))) 39 0 0) 39 0 0 = N at eM1 hN hm hk n39 n40 nC
          rw [addM hk q0 c p t s d] at eM1
          have hMk := LM_add hk q0 (c := c) (s := b2i s) (d := b2i d) hp (show kt k + t ≤ 1001000 by omega)
          refine ⟨_, ag_R (v := nI (kn k)) (M1 := M1) (wR_lock eC) eM1 ?_ ?_, ⟨L, sp, Lm, τ, kadd k c p (b2i s) (b2i d) (kt k + t), F, G, TC_cong h.1 (fun t ht => ?_), MT_le (MT_cong hm (fun t _ _ => ?_)) (by omega) hB, LC_cong hCk (fun t _ _ => ?_), hMk, FL_cong h.2.2.2.2 (fun t ht => ?_)⟩⟩
          · rw [AM_ne _ _ _ _ _ _ _ (by omega), n39]
          · rw [AM_ne _ _ _ _ _ _ _ (by omega), n40]
          · rw [AM_ne _ _ _ _ _ _ _ (by omega), hN t (by omega)]
          · rw [AM_ne _ _ _ _ _ _ _ (by omega)]
          · rw [AM_ne _ _ _ _ _ _ _ (by omega), nC t (by omega)]
          · rw [AM_ne _ _ _ _ _ _ _ (by omega), hN t (by omega)]
      · rw [if_pos q0, if_neg (by rw [q1]; decide)] at eC
        exact hS eC (by rw [eM0, if_pos q0, if_neg (by rw [q1]; decide)])
    · rw [if_neg q0] at eC
      exact hS eC (by rw [eM0, if_neg q0])

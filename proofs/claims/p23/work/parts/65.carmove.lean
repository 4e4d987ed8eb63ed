/-! ===== the reference moves ===== -/
def mvM (M : Mem) (s : Nat) (P : Int32) : Mem := mu (mu (mu (mu M 20 s 1) 21 s P) 25 0 (M 25 0 + 1)) 24 s (M 25 0 + 1)
theorem mvM_ne (M : Mem) (s : Nat) (P : Int32) {t : Nat} (h : t ≠ 20 ∧ t ≠ 21 ∧ t ≠ 24 ∧ t ≠ 25) : mvM M s P t = M t := by
  unfold mvM
  rw [mu_ne _ _ _ h.2.2.1, mu_ne _ _ _ h.2.2.2, mu_ne _ _ _ h.2.1, mu_ne _ _ _ h.1]
theorem mvM_at (M : Mem) (s : Nat) (P : Int32) (x : Nat) : mvM M s P 20 x = (if x = s then 1 else M 20 x) ∧ mvM M s P 21 x = (if x = s then P else M 21 x) ∧ mvM M s P 24 x = (if x = s then M 25 0 + 1 else M 24 x) ∧ mvM M s P 25 0 = M 25 0 + 1 := by
  unfold mvM
  refine ⟨?_, ?_, ?_, ?_⟩
  · rw [mu_at _ _ _ (by decide), mu_at _ _ _ (by decide), mu_at _ _ _ (by decide), mu_x]
  · rw [mu_at _ _ _ (by decide), mu_at _ _ _ (by decide), mu_x, mu_at _ _ _ (by decide)]
  · rw [mu_x, mu_at _ _ _ (by decide), mu_at _ _ _ (by decide), mu_at _ _ _ (by decide)]
  · rw [mu_at _ _ _ (by decide), mu_self]
theorem us_mv {M M0 : Mem} {s : Nat} (h20 : ∀ x, M0 20 x = if x = s then 0 else M 20 x) (hsu : us M s = true) (P : Int32) : us (mvM M0 s P) = us M := by
  funext x
  by_cases z : x = s
  · have e : mvM M0 s P 20 x = 1 := by rw [(mvM_at _ _ _ x).1, if_pos z]
    rw [z] at e
    rw [z, hsu]
    show (!decide (mvM M0 s P 20 s = 0)) = true
    rw [e]
    decide
  · have e : mvM M0 s P 20 x = M 20 x := by rw [(mvM_at _ _ _ x).1, if_neg z, h20, if_neg z]
    show (!decide (mvM M0 s P 20 x = 0)) = (!decide (M 20 x = 0))
    rw [e]
theorem dat_mv {d c n : Int32} {v : Nat → Int32} {a a' : List Nat} {g : Fn} {p p' : Nat} (hd : dat d c n v (a, g) p) (g1 : g.1 p' = g.1 p) (g2 : g.2.1 p' = g.2.1 p) (g3 : g.2.2.1 p' = g.2.2.1 p) (g4 : g.2.2.2 p' = g.2.2.2 p) : dat d c n v (a', g) p' :=
  ⟨hd.1.trans g1.symm, ⟨hd.2.1.1, by show g.2.1 p' ≠ -1; rw [g2]; exact hd.2.1.2.1, fun j hj => by show g.2.2.2 p' j ≠ -1; rw [g4]; exact hd.2.1.2.2 j (Nat.lt_of_lt_of_eq hj g3)⟩, hd.2.2.1.trans g2.symm, hd.2.2.2.1.trans (congrArg nI g3.symm), Nat.le_trans (Nat.le_of_eq g3) hd.2.2.2.2.1, fun j hj => (hd.2.2.2.2.2 j (Nat.lt_of_lt_of_eq hj g3)).trans (congrFun g4 j).symm⟩
theorem dat_ta {d c n : Int32} {v : Nat → Int32} {a a' : List Nat} {g : Fn} {p : Nat} (hd : dat d c n v (a, g) p) : dat d c n v (a', g) p := dat_mv hd rfl rfl rfl rfl
theorem MT_move {M M0 : Mem} {A R : List Nat} {s p' : Nat} {g : Fn} {B : Nat} (h : MT M (A ++ s :: R) ((A ++ s :: R).map (pM M), g) B) (hB : B + 1 ≤ 1000000) (hp : 0 < p' ∧ p' ≤ 9999) (hne : ∀ y ∈ A ++ s :: R, y ≠ s → pM M y ≠ p') (h20 : ∀ x, M0 20 x = if x = s then 0 else M 20 x) (h0 : ∀ t, 21 ≤ t → t ≤ 27 → M0 t = M t) (g1 : g.1 p' = g.1 (pM M s)) (g2 : g.2.1 p' = g.2.1 (pM M s)) (g3 : g.2.2.1 p' = g.2.2.1 (pM M s)) (g4 : g.2.2.2 p' = g.2.2.2 (pM M s)) : MT (mvM M0 s (nI p')) (A ++ R ++ [s]) ((A ++ R ++ [s]).map (pM (mvM M0 s (nI p'))), g) (B + 1) ∧ ∀ x, pM (mvM M0 s (nI p')) x = if x = s then p' else pM M x := by
  have hnd := MT_nd h
  have hndL := MT_ndL h
  have hin := fun x => @MT_in M _ _ B h x
  obtain ⟨h1, h2, h3, h4, h5, h6, h7, h8, h9, h10⟩ := h
  have hp2 : (A ++ R ++ [s]).Perm (A ++ s :: R) := by
    rw [List.append_assoc]
    exact List.Perm.append_left A List.perm_append_comm
  have ep : ∀ x, pM (mvM M0 s (nI p')) x = if x = s then p' else pM M x := fun x => by
    show (mvM M0 s (nI p') 21 x).toNatClampNeg = _
    rw [(mvM_at _ _ _ x).2.1]
    by_cases z : x = s
    · rw [if_pos z, if_pos z, cl' (by omega)]
    · rw [if_neg z, if_neg z, h0 21 (by omega) (by omega)]; rfl
  have hsu : us M s = true := ((hin s).mp (by simp)).2
  have eu : us (mvM M0 s (nI p')) = us M := us_mv h20 hsu (nI p')
  have hrn : M0 25 0 + 1 = nI (rn M + 1) := by rw [h0 25 (by omega) (by omega), h8, nI_1]
  have e25 : mvM M0 s (nI p') 25 0 = nI (rn M + 1) := by rw [(mvM_at _ _ _ s).2.2.2, hrn]
  have ern : rn (mvM M0 s (nI p')) = rn M + 1 := by show (mvM M0 s (nI p') 25 0).toNatClampNeg = _; rw [e25, cl' (by omega)]
  have e24 : ∀ x, mvM M0 s (nI p') 24 x = if x = s then nI (rn M + 1) else M 24 x := fun x => by rw [(mvM_at _ _ _ x).2.2.1, hrn, h0 24 (by omega) (by omega)]
  have ers : rM (mvM M0 s (nI p')) s = rn M + 1 := by show (mvM M0 s (nI p') 24 s).toNatClampNeg = _; rw [e24, if_pos rfl, cl' (by omega)]
  have er : ∀ x, x ≠ s → rM (mvM M0 s (nI p')) x = rM M x := fun x hx => by show (mvM M0 s (nI p') 24 x).toNatClampNeg = _; rw [e24, if_neg hx]; rfl
  have hsA : ∀ x ∈ A ++ R, x ≠ s := fun x hx z => by
    subst z
    have : (A ++ R ++ [x]).Nodup := hp2.nodup_iff.mpr hndL
    rw [List.nodup_append] at this
    exact this.2.2 x hx x (by simp) rfl
  have e21 : ∀ t, t = 22 ∨ t = 23 ∨ t = 26 ∨ t = 27 → mvM M0 s (nI p') t = M t := fun t ht => by rw [mvM_ne _ _ _ (by omega), h0 t (by omega) (by omega)]
  refine ⟨⟨by rw [eu]; exact hp2.trans h1, fun x hx => ?_, eqv_rf _, ?_, fun x hx => ?_, fun x hx => ?_, ?_, by rw [e25, ern], by rw [ern]; omega, hB⟩, ep⟩
  · rw [ep, (mvM_at _ _ _ x).2.1, h0 21 (by omega) (by omega)]
    by_cases z : x = s
    · rw [if_pos z, if_pos z]; exact ⟨rfl, hp⟩
    · rw [if_neg z, if_neg z]; exact h2 x (hp2.mem_iff.mp hx)
  · show ((A ++ R ++ [s]).map (pM (mvM M0 s (nI p')))).Nodup
    rw [List.Nodup, List.pairwise_map]
    refine List.Pairwise.imp_of_mem ?_ (hp2.nodup_iff.mpr hndL)
    intro x y hx hy hxy e
    have hx := hp2.mem_iff.mp hx
    have hy := hp2.mem_iff.mp hy
    rw [ep, ep] at e
    by_cases z1 : x = s
    · rw [if_pos z1, if_neg (fun w => hxy (by rw [z1, w]))] at e
      exact hne y hy (fun w => hxy (by rw [z1, w])) e.symm
    · by_cases z2 : y = s
      · rw [if_neg z1, if_pos z2] at e
        exact hne x hx z1 e
      · rw [if_neg z1, if_neg z2] at e
        exact hxy (nodup_inj hnd hx hy e)
  · rw [e21 22 (by omega), e21 23 (by omega), e21 26 (by omega), e21 27 (by omega), ep]
    have hd := h5 x (hp2.mem_iff.mp hx)
    by_cases z : x = s
    · subst z
      rw [if_pos rfl]
      exact dat_mv hd g1 g2 g3 g4
    · rw [if_neg z]; exact dat_ta hd
  · rw [e24, ern]
    by_cases z : x = s
    · subst z; rw [if_pos rfl, ers]; exact ⟨rfl, Nat.le_refl _⟩
    · rw [if_neg z, er x z]
      have := h6 x (hp2.mem_iff.mp hx)
      exact ⟨this.1, by omega⟩
  · rw [List.pairwise_append]
    refine ⟨?_, by simp, fun x hx c hc => ?_⟩
    · have hpw : (A ++ R).Pairwise (fun a c => rM M a < rM M c) := by
        refine List.Pairwise.sublist ?_ h7
        exact List.Sublist.append_left (List.sublist_cons_self s R) A
      refine List.Pairwise.imp_of_mem ?_ hpw
      intro x y hx hy hxy
      rw [er x (hsA x hx), er y (hsA y hy)]; exact hxy
    · simp at hc; subst hc
      rw [er x (hsA x hx), ers]
      have hxm : x ∈ A ++ c :: R := by
        rcases List.mem_append.mp hx with z | z <;> simp [z]
      have := (h6 x hxm).2; omega

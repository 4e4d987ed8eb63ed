/-! ===== the reference moves ===== -/
def mvM (M : Mem) (s : Nat) (P : Int32) : Mem := mu (mu (mu (mu M 20 s 1) 21 s P) 25 0 (M 25 0 + 1)) 24 s (M 25 0 + 1)
theorem mvM_ne (M : Mem) (s : Nat) (P : Int32) {t : Nat} (h : t ≠ 20 ∧ t ≠ 21 ∧ t ≠ 24 ∧ t ≠ 25) : mvM M s P t = M t := by
  unfold mvM
  rw [mu_ne _ _ _ h.2.2.1, mu_ne _ _ _ h.2.2.2, mu_ne _ _ _ h.2.1, mu_ne _ _ _ h.1]
theorem mvM_at (M : Mem) (s : Nat) (P : Int32) (x : Nat) : mvM M s P 20 x = (if x = s then 1 else M 20 x) ∧ mvM M s P 21 x = (if x = s then P else M 21 x) ∧ mvM M s P 24 x = (if x = s then M 25 0 + 1 else M 24 x) ∧ mvM M s P 25 0 = M 25 0 + 1 := by
  unfold mvM
  refine ⟨?_, ?_, ?_, ?_⟩
  · rw [mu_at _ _ _ (by decide), mu_at _ _ _ (by decide), mu_at _ _ _ (by decide), mu_x]
  · rw [mu_at _ _ _ (by decide), mu_at _ _ _ (by decide), mu_x, mu_at _ _ _ (by decide)]
  · rw [mu_x, mu_at _ _ _ (by decide), mu_at _ _ _ (by decide), mu_at _ _ _ (by decide)]
  · rw [mu_at _ _ _ (by decide), mu_self]
theorem us_mv {M M0 : Mem} {s : Nat} (h20 : ∀ x, M0 20 x = if x = s then 0 else M 20 x) (hsu : us M s = true) (P : Int32) : us (mvM M0 s P) = us M := by
  funext x
  by_cases z : x = s
  · have e : mvM M0 s P 20 x = 1 := by rw [(mvM_at _ _ _ x).1, if_pos z]
    rw [z] at e
    rw [z, hsu]
    show (!decide (mvM M0 s P 20 s = 0)) = true
    rw [e]
    decide
  · have e : mvM M0 s P 20 x = M 20 x := by rw [(mvM_at _ _ _ x).1, if_neg z, h20, if_neg z]
    show (!decide (mvM M0 s P 20 x = 0)) = (!decide (M 20 x = 0))
    rw [e]
theorem dat_mv {d c n : Int32} {v : Nat → Int32} {a a' : List Nat} {g : Fn} {p p' : Nat} (hd : dat d c n v (a, g) p) (g1 : g.1 p' = g.1 p) (g2 : g.2.1 p' = g.2.1 p) (g3 : g.2.2.1 p' = g.2.2.1 p) (g4 : g.2.2.2 p' = g.2.2.2 p) : dat d c n v (a', g) p' :=
  ⟨hd.1.trans g1.symm, ⟨hd.2.1.1, by show g.2.1 p' ≠ -1; rw [g2]; exact hd.2.1.2.1, fun j hj => by show g.2.2.2 p' j ≠ -1; rw [g4]; exact hd.2.1.2.2 j (Nat.lt_of_lt_of_eq hj g3)⟩, hd.2.2.1.trans g2.symm, hd.2.2.2.1.trans (congrArg nI g3.symm), Nat.le_trans (Nat.le_of_eq g3) hd.2.2.2.2.1, fun j hj => (hd.2.2.2.2.2 j (Nat.lt_of_lt_of_eq hj g3)).trans (congrFun g4 j).symm⟩
theorem dat_ta {d c n : Int32} {v : Nat → Int32} {a a' : List Nat} {g : Fn} {p : Nat} (hd : dat d c n v (a, g) p) : dat d c n v (a', g) p := dat_mv hd rfl rfl rfl rfl
theorem MT_move {M M0 : Mem} {A R : List Nat} {s p' : Nat} {g : Fn} {B : Nat} (h : MT M (A ++ s :: R) ((A ++ s :: R).map (pM M), g) B) (hB : B + 1 ≤ 1000000) (hp : 0 < p' ∧ p' ≤ 9999) (hne : ∀ y ∈ A ++ s :: R, y ≠ s → pM M y ≠ p') (h20 : ∀ x, M0 20 x = if x = s then 0 else M 20 x) (h0 : ∀ t, 21 ≤ t → t ≤ 27 → M0 t = M t) (g1 : g.1 p' = g.1 (pM M s)) (g2 : g.2.1 p' = g.2.1 (pM M s)) (g3 : g.2.2.1 p' = g.2.2.1 (pM M s)) (g4 : g.2.2.2 p' = g.2.2.2 (pM M s)) : MT (mvM M0 s (nI p')) (A ++ R ++ [s]) ((A ++ R ++ [s]).map (pM (mvM M0 s (nI p'))), g) (B + 1) ∧ ∀ x, pM (mvM M0 s (nI p')) x = if x = s then p' else pM M x := by
  have hnd := MT_nd h
  have hndL := MT_ndL h
  have hin := fun x => @MT_in M _ _ B h x
  obtain ⟨h1, h2, h3, h4, h5, h6, h7, h8, h9, h10⟩ := h
  have hp2 : (A ++ R ++ [s]).Perm (A ++ s :: R) := by
    rw [List.append_assoc]
    exact List.Perm.append_left A List.perm_append_comm
  have ep : ∀ x, pM (mvM M0 s (nI p')) x = if x = s then p' else pM M x := fun x => by
    show (mvM M0 s (nI p') 21 x).toNatClampNeg = _
    rw [(mvM_at _ _ _ x).2.1]
    by_cases z : x = s
    · rw [if_pos z, if_pos z, cl' (by omega)]
    · rw [if_neg z, if_neg z, h0 21 (by omega) (by omega)]; rfl
  have hsu : us M s = true := ((hin s).mp (by simp)).2
  have eu : us (mvM M0 s (nI p')) = us M := us_mv h20 hsu (nI p')
  have hrn : M0 25 0 + 1 = nI (rn M + 1) := by rw [h0 25 (by omega) (by omega), h8, nI_1]
  have e25 : mvM M0 s (nI p') 25 0 = nI (rn M + 1) := by rw [(mvM_at _ _ _ s).2.2.2, hrn]
  have ern : rn (mvM M0 s (nI p')) = rn M + 1 := by show (mvM M0 s (nI p') 25 0).toNatClampNeg = _; rw [e25, cl' (by omega)]
  have e24 : ∀ x, mvM M0 s (nI p') 24 x = if x = s then nI (rn M + 1) else M 24 x := fun x => by rw [(mvM_at _ _ _ x).2.2.1, hrn, h0 24 (by omega) (by omega)]
  have ers : rM (mvM M0 s (nI p')) s = rn M + 1 := by show (mvM M0 s (nI p') 24 s).toNatClampNeg = _; rw [e24, if_pos rfl, cl' (by omega)]
  have er : ∀ x, x ≠ s → rM (mvM M0 s (nI p')) x = rM M x := fun x hx => by show (mvM M0 s (nI p') 24 x).toNatClampNeg = _; rw [e24, if_neg hx]; rfl
  have hsA : ∀ x ∈ A ++ R, x ≠ s := fun x hx z => by
    subst z
    have : (A ++ R ++ [x]).Nodup := hp2.nodup_iff.mpr hndL
    rw [List.nodup_append] at this
    exact this.2.2 x hx x (by simp) rfl
  have e21 : ∀ t, t = 22 ∨ t = 23 ∨ t = 26 ∨ t = 27 → mvM M0 s (nI p') t = M t := fun t ht => by rw [mvM_ne _ _ _ (by omega), h0 t (by omega) (by omega)]
  refine ⟨⟨by rw [eu]; exact hp2.trans h1, fun x hx => ?_, eqv_rf _, ?_, fun x hx => ?_, fun x hx => ?_, ?_, by rw [e25, ern], by rw [ern]; omega, hB⟩, ep⟩
  · rw [ep, (mvM_at _ _ _ x).2.1, h0 21 (by omega) (by omega)]
    by_cases z : x = s
    · rw [if_pos z, if_pos z]; exact ⟨rfl, hp⟩
    · rw [if_neg z, if_neg z]; exact h2 x (hp2.mem_iff.mp hx)
  · show ((A ++ R ++ [s]).map (pM (mvM M0 s (nI p')))).Nodup
    rw [List.Nodup, List.pairwise_map]
    refine List.Pairwise.imp_of_mem ?_ (hp2.nodup_iff.mpr hndL)
    intro x y hx hy hxy e
    have hx := hp2.mem_iff.mp hx
    have hy := hp2.mem_iff.mp hy
    rw [ep, ep] at e
    by_cases z1 : x = s
    · rw [if_pos z1, if_neg (fun w => hxy (by rw [z1, w]))] at e
      exact hne y hy (fun w => hxy (by rw [z1, w])) e.symm
    · by_cases z2 : y = s
      · rw [if_neg z1, if_pos z2] at e
        exact hne x hx z1 e
      · rw [if_neg z1, if_neg z2] at e
        exact hxy (nodup_inj hnd hx hy e)
  · rw [e21 22 (by omega), e21 23 (by omega), e21 26 (by omega), e21 27 (by omega), ep]
    have hd := h5 x (hp2.mem_iff.mp hx)
    by_cases z : x = s
    · subst z
      rw [if_pos rfl]
      exact dat_mv hd g1 g2 g3 g4
    · rw [if_neg z]; exact dat_ta hd
  · rw [e24, ern]
    by_cases z : x = s
    · subst z; rw [if_pos rfl, ers]; exact ⟨rfl, Nat.le_refl _⟩
    · rw [if_neg z, er x z]
      have := h6 x (hp2.mem_iff.mp hx)
      exact ⟨this.1, by omega⟩
  · rw [List.pairwise_append]
    refine ⟨?_, by simp, fun x hx c hc => ?_⟩
    · have hpw : (A ++ R).Pairwise (fun a c => rM M a < rM M c) := by
        refine List.Pairwise.sublist ?_ h7
        exact List.Sublist.append_left (List.sublist_cons_self s R) A
      refine List.Pairwise.imp_of_mem ?_ hpw
      intro x y hx hy hxy
      rw [er x (hsA x hx), er y (hsA y hy)]; exact hxy
    · simp at hc; subst hc
      rw [er x (hsA x hx), ers]
      have hxm : x ∈ A ++ c :: R := by
        rcases List.mem_append.mp hx with z | z <;> simp [z]
      have := (h6 x hxm).2; omega
theorem carMove_38 {f t : Nat} (hf : 0 < f) (ht : 0 < t) {g : Fn} : ∀ (S : List Nat) (n : Nat) (M : Mem) (L : List Nat) (mk : Nat → Bool) (k : Lk) (B : Nat), MT M L (L.map (pM M), g) B → LM M k → B + S.length ≤ 1000000 → L.filter mk = S → (∀ j, j < 60 → M 37 j = b2i (mk j)) → (∀ j, j < 60 → mk j = true → j ∈ L) → (∀ s ∈ S, inT f (pM M s) = true ∧ mvp f t (pM M s) ≤ 9999 ∧ g.1 (mvp f t (pM M s)) = g.1 (pM M s) ∧ g.2.1 (mvp f t (pM M s)) = g.2.1 (pM M s) ∧ g.2.2.1 (mvp f t (pM M s)) = g.2.2.1 (pM M s) ∧ g.2.2.2 (mvp f t (pM M s)) = g.2.2.2 (pM M s)) → (∀ s ∈ S, ∀ y ∈ L, pM M y ≠ mvp f t (pM M s)) → S.length < n →
    ∃ M' L', bd2 (f_X5_lowest M) (fun r33 M33 => f_X5_carries_38 n M33 (nI f) (nI t) 1 r33) = some M' ∧ MT M' L' ((L.filter (fun j => !mk j)).map (pM M) ++ (S.map (pM M)).map (mvp f t), g) (B + S.length) ∧ LM M' (kdr k (S.map (pM M))) ∧ same M M' (fun t => (20 ≤ t ∧ t ≤ 25) ∨ t = 34 ∨ t = 37) := by
  intro S
  induction S with
  | nil =>
    intro n M L mk k B h hk hB hS h37 hmk hs hd hn
    obtain ⟨n, rfl⟩ : ∃ i, n = i + 1 := ⟨n - 1, by omega⟩
    have hall : L.filter (fun j => !mk j) = L := by
      rw [List.filter_eq_self]
      intro x hx
      cases q : mk x
      · rfl
      · have : x ∈ L.filter mk := List.mem_filter.mpr ⟨hx, q⟩
        rw [hS] at this; exact absurd this (by simp)
    refine ⟨M, L, ?_, by rw [hall]; simpa using h, by rw [List.map_nil, kdr_nil]; exact hk, same_rf _ _⟩
    rw [lowest_nil h37 hmk hS, bd2_s]
    show f_X5_carries_38B (f_X5_carries_38 n) M (nI f) (nI t) 1 (-1) = _
    unfold f_X5_carries_38B
    rw [if_pos (by decide)]
  | cons s S ih =>
    intro n M L mk k B h hk hB hS h37 hmk hs hd hn
    obtain ⟨n, rfl⟩ : ∃ i, n = i + 1 := ⟨n - 1, by omega⟩
    simp only [List.length_cons] at hB hn
    have hsm : s ∈ L.filter mk := by rw [hS]; simp
    obtain ⟨hsL, hms⟩ := List.mem_filter.mp hsm
    have hs60 := ((MT_in h).mp hsL).1
    obtain ⟨p1, p2, p3⟩ := h.2.1 s hsL
    obtain ⟨q1, q2, q4, q5, q6, q7⟩ := hs s (by simp)
    have hsm1 := same_mu M (P := fun t => t = 37) s 0 rfl
    have hk1 : LM (mu M 37 s 0) k := LM_cong hk (fun t' _ _ => hsm1 t' (by omega))
    obtain ⟨M88, c1, c2, c3⟩ := goesM (x := s) (p := pM M s) hk1 hs60 p3 (by rw [mu_at _ _ _ (by decide)]; exact p1)
    have h20 : ∀ x, M88 20 x = if x = s then 0 else M 20 x := fun x => by rw [c3 20 (by decide), mu_x, mu_at _ _ _ (by decide)]
    have h88 : ∀ t, 21 ≤ t → t ≤ 27 → M88 t = M t := fun t' h1 h2 => by rw [c3 t' (by omega), mu_ne _ _ _ (by omega), mu_ne _ _ _ (by omega)]
    have hpos := mvp_pos hf ht p3 q1
    obtain ⟨A, R, hAR⟩ := List.append_of_mem hsL
    subst hAR
    obtain ⟨b1, b2⟩ := MT_move h (by omega) ⟨hpos, q2⟩ (fun y hy _ => hd s (by simp) y hy) h20 h88 q4 q5 q6 q7
    have hLM1 : LM (mvM M88 s (nI (mvp f t (pM M s)))) (kdr k [pM M s]) := LM_cong c2 (fun t' _ _ => mvM_ne _ _ _ (by omega))
    have hsm2 : same M (mvM M88 s (nI (mvp f t (pM M s)))) (fun t => (20 ≤ t ∧ t ≤ 25) ∨ t = 34 ∨ t = 37) := fun t' ht' => by rw [mvM_ne _ _ _ (by omega), c3 t' (by omega), mu_ne _ _ _ (by omega), mu_ne _ _ _ (by omega)]
    have h37' : ∀ j, mvM M88 s (nI (mvp f t (pM M s))) 37 j = if j = s then 0 else M 37 j := fun j => by rw [mvM_ne _ _ _ (by omega), c3 37 (by omega), mu_at _ _ _ (by decide), mu_x]
    have hun : bd2 (f_X5_lowest M) (fun r33 M33 => f_X5_carries_38 (n + 1) M33 (nI f) (nI t) 1 r33) = bd2 (f_X5_lowest (mvM M88 s (nI (mvp f t (pM M s))))) (fun r33 M33 => f_X5_carries_38 n M33 (nI f) (nI t) 1 r33) := by
      rw [lowest_cons h h37 hmk hS, bd2_s]
      show f_X5_carries_38B (f_X5_carries_38 n) M (nI f) (nI t) 1 (nI s) = _
      unfold f_X5_carries_38B f_X5_carries_153
      rw [if_neg (nI_pos (by omega))]
      simp only [gi hs60 (show 60 < 2147483648 by decide)]
      rw [cl' (show s < 2147483648 by omega), show (0 : Int32) &&& 1 = 0 from rfl, mu_at _ _ _ (show 21 ≠ 37 by decide), p1, (powerM _ hf p3 q1).1, bd2_s, if_neg (mvI_eq (t := t) hf p3 q1).2, if_neg (by decide), c1, bd1_s, mu_at _ _ _ (show 21 ≠ 37 by decide), p1]
      have e := (mvI_eq (t := t) hf p3 q1).1
      unfold mvI at e
      rw [e, mu_at _ _ _ (show 25 ≠ 21 by decide), mu_at _ _ _ (show 25 ≠ 20 by decide), mu_self]
      rfl
    rw [hun]
    generalize mvM M88 s (nI (mvp f t (pM M s))) = M1 at b1 b2 hLM1 hsm2 h37'
    have hndL := MT_ndL h
    have hmS : ∀ x ∈ S, mk x = true ∧ x ∈ A ++ s :: R ∧ x ≠ s := fun x hx => by
      have hxm : x ∈ (A ++ s :: R).filter mk := by rw [hS]; simp [hx]
      obtain ⟨z1, z2⟩ := List.mem_filter.mp hxm
      refine ⟨z2, z1, fun z => ?_⟩
      have hnd : ((A ++ s :: R).filter mk).Nodup := List.Pairwise.filter _ hndL
      rw [hS, List.nodup_cons] at hnd
      exact hnd.1 (z ▸ hx)
    have hnA : ∀ x ∈ A, x ≠ s := fun x hx z => by
      rw [List.nodup_append] at hndL
      exact hndL.2.2 x hx s (by simp) z
    have hnR : ∀ x ∈ R, x ≠ s := fun x hx z => by
      rw [List.nodup_append, List.nodup_cons] at hndL
      exact hndL.2.1.1 (z ▸ hx)
    have hS' : (A ++ R ++ [s]).filter (fun j => mk j && !decide (j = s)) = S := by
      rw [List.filter_append, List.filter_cons_of_neg (by simp), List.filter_nil, List.append_nil, List.filter_append]
      rw [List.filter_append, List.filter_cons_of_pos hms] at hS
      have e1 : A.filter (fun j => mk j && !decide (j = s)) = A.filter mk := List.filter_congr (fun x hx => by simp [hnA x hx])
      have e2 : R.filter (fun j => mk j && !decide (j = s)) = R.filter mk := List.filter_congr (fun x hx => by simp [hnR x hx])
      rw [e1, e2]
      have hA0 : A.filter mk = [] := by
        cases q : A.filter mk with
        | nil => rfl
        | cons z Z =>
          rw [q] at hS
          simp only [List.cons_append, List.cons.injEq] at hS
          have : z ∈ A.filter mk := by rw [q]; simp
          exact absurd hS.1 (hnA z (List.mem_filter.mp this).1)
      rw [hA0] at hS ⊢
      simpa using hS
    have hx9 : ∀ x ∈ A ++ s :: R, pM M x ≤ 9999 := fun x hx => (h.2.1 x hx).2.2
    have hinj : ∀ x ∈ S, mvp f t (pM M s) ≠ mvp f t (pM M x) := fun x hx e => by
      have hxx := hmS x hx
      have := mvp_inj hf ht p3 (hx9 x hxx.2.1) q1 (hs x (by simp [hx])).1 e
      exact hxx.2.2 (nodup_inj (MT_nd h) hxx.2.1 hsL this.symm)
    obtain ⟨M', L', a1, a2, a3, a4⟩ := ih n M1 (A ++ R ++ [s]) (fun j => mk j && !decide (j = s)) (kdr k [pM M s]) (B + 1) b1 hLM1 (by omega) hS' (fun j hj => by
      rw [h37']
      by_cases z : j = s
      · rw [if_pos z]; simp [z, b2i]
      · rw [if_neg z, h37 j hj]; simp [z]) (fun j hj hm => by
      simp only [Bool.and_eq_true] at hm
      have := hmk j hj hm.1
      simp only [List.mem_append, List.mem_cons, List.not_mem_nil, or_false] at this ⊢
      rcases this with z | z | z <;> simp [z]) (fun x hx => by
      rw [b2, if_neg (hmS x hx).2.2]
      exact hs x (by simp [hx])) (fun x hx y hy => by
      rw [b2, b2, if_neg (hmS x hx).2.2]
      by_cases z : y = s
      · rw [if_pos z]; exact hinj x hx
      · rw [if_neg z]
        refine hd x (by simp [hx]) y ?_
        simp only [List.mem_append, List.mem_cons, List.not_mem_nil, or_false] at hy ⊢
        rcases hy with (w | w) | w <;> simp [w]) (by omega)
    have hmap : S.map (pM M1) = S.map (pM M) := List.map_congr_left (fun x hx => by rw [b2, if_neg (hmS x hx).2.2])
    have hfil : ((A ++ R ++ [s]).filter (fun j => !(mk j && !decide (j = s)))).map (pM M1) = ((A ++ s :: R).filter (fun j => !mk j)).map (pM M) ++ [mvp f t (pM M s)] := by
      rw [List.filter_append, List.filter_cons_of_pos (by simp), List.filter_nil, List.filter_append, List.filter_append, List.filter_cons_of_neg (by simp [hms])]
      have e1 : A.filter (fun j => !(mk j && !decide (j = s))) = A.filter (fun j => !mk j) := List.filter_congr (fun x hx => by simp [hnA x hx])
      have e2 : R.filter (fun j => !(mk j && !decide (j = s))) = R.filter (fun j => !mk j) := List.filter_congr (fun x hx => by simp [hnR x hx])
      rw [e1, e2, List.map_append, List.map_append, List.map_append, List.map_singleton, b2, if_pos rfl]
      congr 1
      congr 1
      · exact List.map_congr_left (fun x hx => by rw [b2, if_neg (hnA x (List.mem_filter.mp hx).1)])
      · exact List.map_congr_left (fun x hx => by rw [b2, if_neg (hnR x (List.mem_filter.mp hx).1)])
    rw [hmap, hfil] at a2
    rw [hmap, kdr_app] at a3
    refine ⟨M', L', a1, ?_, a3, same_tr hsm2 a4⟩
    rw [List.map_cons, List.map_cons, List.length_cons, show B + (S.length + 1) = B + 1 + S.length by omega]
    have : ((A ++ s :: R).filter (fun j => !mk j)).map (pM M) ++ mvp f t (pM M s) :: (S.map (pM M)).map (mvp f t) = ((A ++ s :: R).filter (fun j => !mk j)).map (pM M) ++ [mvp f t (pM M s)] ++ (S.map (pM M)).map (mvp f t) := by simp
    rw [this]
    exact a2

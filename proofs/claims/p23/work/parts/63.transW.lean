/-! ===== the class copies and moves ===== -/
abbrev Fn : Type := (Nat → Int32) × (Nat → Int32) × (Nat → Nat) × (Nat → Nat → Int32)
theorem TC_fn {M : Mem} {L sp : List Nat} {τ : Tr} (h : TC M L sp τ) {g : Fn} (he : ∀ p ∈ ta τ, td (ta τ, g) p = td τ p ∧ tc (ta τ, g) p = tc τ p ∧ tn (ta τ, g) p = tn τ p ∧ tv (ta τ, g) p = tv τ p) : TC M L sp (ta τ, g) := by
  obtain ⟨h1, h2, h3, h4, h5⟩ := id h
  refine ⟨h1, h2, h3, h4, fun r hr => ?_⟩
  obtain ⟨b1, b2, b3, b4⟩ := he (pC M r) ((TC_mem h).mpr ⟨r, hr, rfl⟩)
  have := h5 r hr
  unfold dat okd at this ⊢
  rw [b1, b2, b3, b4]
  exact this
theorem MT_fn {M : Mem} {L : List Nat} {τ : Tr} {B : Nat} (h : MT M L τ B) {g : Fn} (he : ∀ p ∈ ta τ, td (ta τ, g) p = td τ p ∧ tc (ta τ, g) p = tc τ p ∧ tn (ta τ, g) p = tn τ p ∧ tv (ta τ, g) p = tv τ p) : MT M L (ta τ, g) B := by
  obtain ⟨h1, h2, h3, h4, h5, h6⟩ := id h
  refine ⟨h1, h2, h3, h4, fun r hr => ?_, h6⟩
  obtain ⟨b1, b2, b3, b4⟩ := he (pM M r) ((MT_mem h).mpr ⟨r, hr, rfl⟩)
  have := h5 r hr
  unfold dat okd at this ⊢
  rw [b1, b2, b3, b4]
  exact this
theorem vup_id {α : Type} (f : Nat → α) (p : Nat) {v : α} (h : f p = v) : vup f p v = f := by
  funext x
  unfold vup
  by_cases z : x = p
  · rw [if_pos z, z, h]
  · rw [if_neg z]
theorem tput_eq {τ : Tr} {p : Nat} {kd ct : Int32} (h1 : td τ p = kd) (h2 : tc τ p = ct) (h3 : tn τ p = 0) : tput τ p kd ct = (ta τ ++ [p], τ.2) := by
  unfold tput
  rw [vup_id _ _ h1, vup_id _ _ h2, vup_id _ _ h3]
theorem copyC_8 {f t : Nat} (hf : 0 < f) (hf9 : f ≤ 9999) (ht : 0 < t) {g : Fn} {pf : Nat → Nat} {e : Nat} : ∀ (L2 L1 Cs sp : List Nat) (n : Nat) (M : Mem) (a : List Nat), TC M (L1 ++ L2 ++ Cs) sp (a, g) → (∀ x ∈ L1 ++ L2, pC M x = pf x) → (L1 ++ L2).length = e → (∀ x ∈ L2, inT f (pf x) = true → mvp f t (pf x) ≤ 9999 ∧ mvp f t (pf x) ∉ a ∧ td (a, g) (mvp f t (pf x)) = td (a, g) (pf x) ∧ tc (a, g) (mvp f t (pf x)) = tc (a, g) (pf x) ∧ tn (a, g) (mvp f t (pf x)) = 0) → (L1 ++ L2 ++ Cs).length + L2.countP (fun x => inT f (pf x)) ≤ 60 → L2.length < n →
    ∃ M' L' sp', f_X3_appendCopyOfTree_8 n M (nI f) (nI t) (nI e) (nI L1.length) = some M' ∧ TC M' L' sp' (a ++ ((L2.map pf).filter (inT f)).map (mvp f t), g) ∧ same M M' (fun t => 2 ≤ t ∧ t ≤ 8) := by
  intro L2
  induction L2 with
  | nil =>
    intro L1 Cs sp n M a h hpf he hs hl hn
    obtain ⟨n, rfl⟩ : ∃ j, n = j + 1 := ⟨n - 1, by omega⟩
    rw [List.append_nil] at he
    subst he
    refine ⟨M, L1 ++ [] ++ Cs, sp, ?_, by simpa using h, same_rf _ _⟩
    show f_X3_appendCopyOfTree_8B (f_X3_appendCopyOfTree_8 n) M (nI f) (nI t) (nI L1.length) (nI L1.length) = _
    unfold f_X3_appendCopyOfTree_8B
    simp only [List.length_append] at hl
    simp only [le' (show L1.length < 2147483648 by omega) (show L1.length < 2147483648 by omega)]
    rw [if_pos (Nat.le_refl _)]
  | cons r L2 ih =>
    intro L1 Cs sp n M a h hpf he hs hl hn
    obtain ⟨n, rfl⟩ : ∃ j, n = j + 1 := ⟨n - 1, by omega⟩
    have h' : TC M (L1 ++ r :: (L2 ++ Cs)) sp (a, g) := by simpa using h
    obtain ⟨h1, h2, h3, h4, h5, h6, h7, h8, h9⟩ := TC_at h'
    have hpr : pC M r = pf r := hpf r (by simp)
    have hr4 := h.2.2.2.2 r (by simp)
    have hel : L1.length < e := by rw [← he]; simp
    have he60 : e ≤ 60 := by
      have h8' := h8
      simp only [List.length_append, List.length_cons] at h8' he
      omega
    have hun : f_X3_appendCopyOfTree_8 (n + 1) M (nI f) (nI t) (nI e) (nI L1.length) = if inT f (pf r) = true then bd1 (f_X3_append M (nI (mvp f t (pf r))) (M 5 r) (M 6 r)) (fun M56 => f_X3_appendCopyOfTree_8 n M56 (nI f) (nI t) (nI e) (nI (L1 ++ [r]).length)) else f_X3_appendCopyOfTree_8 n M (nI f) (nI t) (nI e) (nI (L1 ++ [r]).length) := by
      show f_X3_appendCopyOfTree_8B (f_X3_appendCopyOfTree_8 n) M (nI f) (nI t) (nI e) (nI L1.length) = _
      unfold f_X3_appendCopyOfTree_8B f_X3_appendCopyOfTree_69
      simp only [le' (show e < 2147483648 by omega) (show L1.length < 2147483648 by omega), g60 h3, gi h3 (show 60 < 2147483648 by decide)]
      rw [if_neg (by omega), cl' (by omega), h1, if_neg (by omega), h4, isInC M (by omega) (by omega), bd2_s, hpr]
      rw [hpr] at h6
      rw [h4, hpr]
      simp only [b2i_0]
      cases q : inT f (pf r)
      · rw [if_pos rfl, if_neg (by decide), step1 L1 r]
      · rw [if_neg (by decide), if_pos rfl, movedC M hf h6 q, bd2_s, step1 L1 r]
    rw [List.countP_cons] at hl
    rw [hpr] at h5 h6
    cases q : inT f (pf r)
    · rw [q] at hl
      obtain ⟨M', L', sp', a1, a2, a3⟩ := ih (L1 ++ [r]) Cs sp n M a (by simpa using h) (by simpa using hpf) (by rw [← he]; simp) (fun x hx => hs x (by simp [hx])) (by simp at hl ⊢; omega) (by simp at hn; omega)
      refine ⟨M', L', sp', by rw [hun, q, if_neg (by decide)]; exact a1, ?_, a3⟩
      rw [List.map_cons, List.filter_cons_of_neg (by simp [q])]; exact a2
    · rw [q, if_pos rfl] at hl
      obtain ⟨s1, s2, s3, s4, s5⟩ := hs r (by simp) q
      obtain ⟨d1, d2, d3, d4, d5, d6⟩ := hr4
      rw [hpr] at d1 d3
      have hpos := mvp_pos hf ht h6 q
      have hlen : (ta ((a, g) : Tr)).length < 60 := by rw [← TC_len h]; omega
      obtain ⟨r', sp', rfl⟩ := sp_cons h hlen
      have hk12 : td ((a, g) : Tr) (pf r) = 1 ∨ td ((a, g) : Tr) (pf r) = 2 := by rw [← d1]; exact d2.1
      have hct : tc ((a, g) : Tr) (pf r) ≠ -1 := by rw [← hpr]; exact d2.2.1
      obtain ⟨b1, b2⟩ := appendC h ⟨hpos, s1⟩ s2 hk12 (ct := tc ((a, g) : Tr) (pf r)) hct
      rw [tput_eq s3 s4 s5] at b2
      have hsm : same M (mu (begC M r' (mvp f t (pf r)) (td ((a, g) : Tr) (pf r)) (tc ((a, g) : Tr) (pf r))) 2 0 (nI ((L1 ++ r :: L2 ++ Cs).length + 1))) (fun t => 2 ≤ t ∧ t ≤ 8) := fun t' ht' => by rw [mu_ne _ _ _ (by omega), begC_ne _ _ _ _ _ (by omega)]
      have hr'L : ∀ x ∈ L1 ++ r :: L2, x ≠ r' := fun x hx z => by
        have hnd := h.1.2.2.1
        rw [List.nodup_append] at hnd
        exact hnd.2.2 x (by simp at hx ⊢; rcases hx with w | w | w <;> simp [w]) r' (by simp) z
      have hpf1 : ∀ x ∈ L1 ++ r :: L2, pC (mu (begC M r' (mvp f t (pf r)) (td ((a, g) : Tr) (pf r)) (tc ((a, g) : Tr) (pf r))) 2 0 (nI ((L1 ++ r :: L2 ++ Cs).length + 1))) x = pf x := fun x hx => by
        unfold pC
        rw [mu_at _ _ _ (by decide), (begC_at _ _ _ _ _ x).1, if_neg (hr'L x hx)]
        exact hpf x hx
      have hne : ∀ x ∈ L2, inT f (pf x) = true → mvp f t (pf x) ∉ a ++ [mvp f t (pf r)] := fun x hx hi => by
        rw [List.mem_append, List.mem_singleton]
        rintro (z | z)
        · exact (hs x (by simp [hx]) hi).2.1 z
        · have hx9 : pf x ≤ 9999 := by rw [← hpf x (by simp [hx])]; exact (h.2.1 x (by simp [hx])).2.2
          have e1 := mvp_inj hf ht hx9 h6 hi q z
          have hnd := TC_nd h
          rw [List.append_assoc, List.map_append, List.cons_append, List.map_cons, List.nodup_append, List.nodup_cons] at hnd
          apply hnd.2.1.1
          rw [hpr, ← e1, ← hpf x (by simp [hx])]
          exact List.mem_map.mpr ⟨x, by simp [hx], rfl⟩
      generalize mu (begC M r' (mvp f t (pf r)) (td ((a, g) : Tr) (pf r)) (tc ((a, g) : Tr) (pf r))) 2 0 (nI ((L1 ++ r :: L2 ++ Cs).length + 1)) = M1 at b1 b2 hsm hpf1
      obtain ⟨M', L', sp'', a1, a2, a3⟩ := ih (L1 ++ [r]) (Cs ++ [r']) sp' n M1 (a ++ [mvp f t (pf r)]) (by simpa using b2) (by simpa using hpf1) (by rw [← he]; simp) (fun x hx hi => by
        obtain ⟨w1, w2, w3, w4, w5⟩ := hs x (by simp [hx]) hi
        exact ⟨w1, hne x hx hi, w3, w4, w5⟩) (by simp at hl ⊢; omega) (by simp at hn; omega)
      refine ⟨M', L', sp'', ?_, ?_, same_tr hsm a3⟩
      · rw [hun, q, if_pos rfl, d1, d3, b1, bd1_s]; exact a1
      · rw [List.map_cons, List.filter_cons_of_pos q, List.map_cons]
        have : a ++ mvp f t (pf r) :: ((L2.map pf).filter (inT f)).map (mvp f t) = (a ++ [mvp f t (pf r)]) ++ ((L2.map pf).filter (inT f)).map (mvp f t) := by simp
        rw [this]
        exact a2
/-! move -/
theorem TC_path {M : Mem} {L sp : List Nat} {τ : Tr} (h : TC M L sp τ) {r p' : Nat} (hr : r ∈ L) (hp : 0 < p' ∧ p' ≤ 9999) (hne : ∀ y ∈ L, y ≠ r → pC M y ≠ p') (h1 : td τ p' = td τ (pC M r)) (h2 : tc τ p' = tc τ (pC M r)) (h3 : tn τ p' = tn τ (pC M r)) (h4 : tv τ p' = tv τ (pC M r)) : TC (mu M 4 r (nI p')) L sp (L.map (pC (mu M 4 r (nI p'))), τ.2) ∧ ∀ x, pC (mu M 4 r (nI p')) x = if x = r then p' else pC M x := by
  have ep : ∀ x, pC (mu M 4 r (nI p')) x = if x = r then p' else pC M x := fun x => by
    unfold pC
    rw [mu_x]
    by_cases z : x = r
    · rw [if_pos z, if_pos z, cl' (by omega)]
    · rw [if_neg z, if_neg z]
  have hnd := TC_nd h
  have hndL : L.Nodup := by
    have := h.1.2.2.1
    rw [List.nodup_append] at this
    exact this.1
  obtain ⟨⟨i1, i2, i3, i4, i5⟩, g2, g3, g4, g5⟩ := h
  refine ⟨⟨⟨by rw [mu_at _ _ _ (by decide)]; exact i1, i2, i3, i4, fun j x hj => by rw [mu_at _ _ _ (by decide)]; exact i5 j x hj⟩, fun x hx => ?_, eqv_rf _, ?_, fun x hx => ?_⟩, ep⟩
  · rw [ep, mu_x]
    by_cases z : x = r
    · rw [if_pos z, if_pos z]; exact ⟨rfl, hp⟩
    · rw [if_neg z, if_neg z]; exact g2 x hx
  · show (L.map (pC (mu M 4 r (nI p')))).Nodup
    rw [List.Nodup, List.pairwise_map]
    refine List.Pairwise.imp_of_mem ?_ hndL
    intro x y hx hy hxy e
    rw [ep, ep] at e
    by_cases z1 : x = r
    · rw [if_pos z1, if_neg (fun w => hxy (by rw [z1, w]))] at e
      exact hne y hy (fun w => hxy (by rw [z1, w])) e.symm
    · by_cases z2 : y = r
      · rw [if_neg z1, if_pos z2] at e
        exact hne x hx z1 e
      · rw [if_neg z1, if_neg z2] at e
        exact hxy (nodup_inj hnd hx hy e)
  · rw [mu_at _ _ _ (show 5 ≠ 4 by decide), mu_at _ _ _ (show 6 ≠ 4 by decide), mu_at _ _ _ (show 8 ≠ 4 by decide), mu_ne _ _ _ (show 100 + x ≠ 4 by omega), ep]
    have := g5 x hx
    by_cases z : x = r
    · subst z
      rw [if_pos rfl]
      unfold dat okd at this ⊢
      show M 5 x = td τ p' ∧ ((M 5 x = 1 ∨ M 5 x = 2) ∧ tc τ p' ≠ -1 ∧ ∀ j, j < tn τ p' → tv τ p' j ≠ -1) ∧ M 6 x = tc τ p' ∧ M 8 x = nI (tn τ p') ∧ tn τ p' ≤ 10 ∧ ∀ j, j < tn τ p' → M (100 + x) j = tv τ p' j
      rw [h1, h2, h3, h4]
      exact this
    · rw [if_neg z]; exact this
def ren (f t p : Nat) : Nat := if inT f p = true then mvp f t p else p
theorem renC_2 {f t : Nat} (hf : 0 < f) (hf9 : f ≤ 9999) (ht : 0 < t) {g : Fn} {pf : Nat → Nat} {sp : List Nat} : ∀ (L2 L1 : List Nat) (n : Nat) (M : Mem), TC M (L1 ++ L2) sp ((L1 ++ L2).map (pC M), g) → (∀ x ∈ L1, pC M x = ren f t (pf x)) → (∀ x ∈ L2, pC M x = pf x) → (∀ x ∈ L1 ++ L2, ∀ y ∈ L1 ++ L2, x ≠ y → ren f t (pf x) ≠ ren f t (pf y) ∧ (inT f (pf x) = true → mvp f t (pf x) ≠ pf y)) → (∀ x ∈ L2, inT f (pf x) = true → mvp f t (pf x) ≤ 9999 ∧ g.1 (mvp f t (pf x)) = g.1 (pf x) ∧ g.2.1 (mvp f t (pf x)) = g.2.1 (pf x) ∧ g.2.2.1 (mvp f t (pf x)) = g.2.2.1 (pf x) ∧ g.2.2.2 (mvp f t (pf x)) = g.2.2.2 (pf x)) → L2.length < n →
    ∃ M1, f_X3_renameTree_2 n M (nI f) (nI t) (nI L1.length) = bd1 (f_X3_placeMember M1 (nI t) (M1 2 0)) (fun M61 => some M61) ∧ TC M1 (L1 ++ L2) sp ((L1 ++ L2).map (pC M1), g) ∧ (∀ x ∈ L1 ++ L2, pC M1 x = ren f t (pf x)) ∧ same M M1 (fun t => t = 4) := by
  intro L2
  induction L2 with
  | nil =>
    intro L1 n M h hp1 hp2 hd hs hn
    obtain ⟨n, rfl⟩ : ∃ j, n = j + 1 := ⟨n - 1, by omega⟩
    refine ⟨M, ?_, h, fun x hx => hp1 x (by simpa using hx), same_rf _ _⟩
    show f_X3_renameTree_2B (f_X3_renameTree_2 n) M (nI f) (nI t) (nI L1.length) = _
    unfold f_X3_renameTree_2B f_X3_renameTree_64
    have := IC_len h.1
    rw [List.append_nil] at this
    rw [if_pos]
    rw [h.1.1, List.append_nil, le' (by omega) (by omega)]
    exact Nat.le_refl _
  | cons r L2 ih =>
    intro L1 n M h hp1 hp2 hd hs hn
    obtain ⟨n, rfl⟩ : ∃ j, n = j + 1 := ⟨n - 1, by omega⟩
    obtain ⟨h1, h2, h3, h4, h5, h6, h7, h8, h9⟩ := TC_at h
    have hpr : pC M r = pf r := hp2 r (by simp)
    rw [hpr] at h4 h5 h6
    have hun : f_X3_renameTree_2 (n + 1) M (nI f) (nI t) (nI L1.length) = if inT f (pf r) = true then f_X3_renameTree_2 n (mu M 4 r (nI (mvp f t (pf r)))) (nI f) (nI t) (nI (L1 ++ [r]).length) else f_X3_renameTree_2 n M (nI f) (nI t) (nI (L1 ++ [r]).length) := by
      show f_X3_renameTree_2B (f_X3_renameTree_2 n) M (nI f) (nI t) (nI L1.length) = _
      unfold f_X3_renameTree_2B f_X3_renameTree_58
      rw [h7]
      simp only [le' (show (L1 ++ r :: L2).length < 2147483648 by omega) (show L1.length < 2147483648 by omega), g60 h3, gi h3 (show 60 < 2147483648 by decide)]
      rw [if_neg (by omega), cl' (by omega), h1, if_neg (by omega), h4, isInC M (by omega) (by omega), bd2_s, h1, if_neg (show ¬ 60 ≤ r by omega), if_neg (show ¬ 60 ≤ r by omega), h4]
      simp only [b2i_0]
      cases q : inT f (pf r)
      · rw [if_pos rfl, if_neg (by decide), step1 L1 r]
      · rw [if_neg (by decide), if_pos rfl, movedC M hf h6 q, bd2_s, step1 L1 r]
    have hndL : (L1 ++ r :: L2).Nodup := by
      have := h.1.2.2.1
      rw [List.nodup_append] at this
      exact this.1
    have hrn : ∀ y ∈ L1, y ≠ r := fun y hy z => by
      rw [List.nodup_append] at hndL
      exact hndL.2.2 y hy r (by simp) z
    have hrn2 : ∀ y ∈ L2, y ≠ r := fun y hy z => by
      rw [List.nodup_append, List.nodup_cons] at hndL
      exact hndL.2.1.1 (z ▸ hy)
    cases q : inT f (pf r)
    · have hre : ren f t (pf r) = pf r := by unfold ren; rw [q, if_neg (by decide)]
      obtain ⟨M1, a1, a2, a3, a4⟩ := ih (L1 ++ [r]) n M (by simpa using h) (fun x hx => by
        rcases List.mem_append.mp hx with w | w
        · exact hp1 x w
        · simp at w; rw [w, hre, hpr]) (fun x hx => hp2 x (by simp [hx])) (by simpa using hd) (fun x hx => hs x (by simp [hx])) (by simp at hn; omega)
      refine ⟨M1, by rw [hun, q, if_neg (by decide)]; exact a1, by simpa using a2, by simpa using a3, a4⟩
    · obtain ⟨s1, s2, s3, s4, s5⟩ := hs r (by simp) q
      have hre : ren f t (pf r) = mvp f t (pf r) := by unfold ren; rw [q, if_pos rfl]
      obtain ⟨b1, b2⟩ := TC_path h (r := r) (p' := mvp f t (pf r)) (by simp) ⟨mvp_pos hf ht h6 q, s1⟩ (fun y hy hyr z => by
        rcases List.mem_append.mp hy with w | w
        · rw [hp1 y w] at z
          exact (hd y (by simp [w]) r (by simp) hyr).1 (by rw [z, hre])
        · rcases List.mem_cons.mp w with w | w
          · exact hyr w
          · rw [hp2 y (by simp [w])] at z
            exact (hd r (by simp) y (by simp [w]) (fun e => hyr e.symm)).2 q z.symm) (by rw [hpr]; exact s2) (by rw [hpr]; exact s3) (by rw [hpr]; exact s4) (by rw [hpr]; exact s5)
      obtain ⟨M1, a1, a2, a3, a4⟩ := ih (L1 ++ [r]) n (mu M 4 r (nI (mvp f t (pf r)))) (by simpa using b1) (fun x hx => by
        rw [b2]
        rcases List.mem_append.mp hx with w | w
        · rw [if_neg (hrn x w)]; exact hp1 x w
        · simp at w; rw [if_pos w, w, hre]) (fun x hx => by rw [b2, if_neg (hrn2 x hx)]; exact hp2 x (by simp [hx])) (by simpa using hd) (fun x hx => hs x (by simp [hx])) (by simp at hn; omega)
      refine ⟨M1, by rw [hun, q, if_pos rfl]; exact a1, by simpa using a2, by simpa using a3, same_tr (same_mu _ _ _ rfl) a4⟩
theorem dropTreeC_2 {sp : List Nat} {τ : Tr} {u : Nat} (hu : u ≤ 9999) : ∀ (L2 L1 : List Nat) (n : Nat) (M : Mem) (k : Lk), TC M (L1 ++ L2) sp τ → LC M k → L2.length < n → ∃ M', f_X4_dropLocksOfTree_2 n M (nI u) (nI L1.length) = some M' ∧ LC M' (kdr k ((L2.map (pC M)).filter (inT u))) ∧ same M M' (fun t => t = 16) := by
  intro L2
  induction L2 with
  | nil =>
    intro L1 n M k h hk hn
    obtain ⟨n, rfl⟩ : ∃ j, n = j + 1 := ⟨n - 1, by omega⟩
    refine ⟨M, ?_, by rw [List.map_nil, List.filter_nil, kdr_nil]; exact hk, same_rf _ _⟩
    show f_X4_dropLocksOfTree_2B (f_X4_dropLocksOfTree_2 n) M (nI u) (nI L1.length) = _
    unfold f_X4_dropLocksOfTree_2B
    have := IC_len h.1
    rw [List.append_nil] at this
    rw [h.1.1, List.append_nil]
    simp only [le' (show L1.length < 2147483648 by omega) (show L1.length < 2147483648 by omega)]
    rw [if_pos (Nat.le_refl _)]
  | cons r L2 ih =>
    intro L1 n M k h hk hn
    obtain ⟨n, rfl⟩ : ∃ j, n = j + 1 := ⟨n - 1, by omega⟩
    obtain ⟨h1, h2, h3, h4, h5, h6, h7, h8, h9⟩ := TC_at h
    have hun : f_X4_dropLocksOfTree_2 (n + 1) M (nI u) (nI L1.length) = if inT u (pC M r) = true then bd1 (f_X1_dropAt M (nI (pC M r))) (fun M48 => f_X4_dropLocksOfTree_2 n M48 (nI u) (nI (L1 ++ [r]).length)) else f_X4_dropLocksOfTree_2 n M (nI u) (nI (L1 ++ [r]).length) := by
      show f_X4_dropLocksOfTree_2B (f_X4_dropLocksOfTree_2 n) M (nI u) (nI L1.length) = _
      unfold f_X4_dropLocksOfTree_2B f_X4_dropLocksOfTree_38
      rw [h7]
      simp only [le' (show (L1 ++ r :: L2).length < 2147483648 by omega) (show L1.length < 2147483648 by omega)]
      rw [if_neg (by omega), pathAtC h, bd2_s, isInC M (by omega) (by omega), bd2_s]
      simp only [b2i_0]
      cases q : inT u (pC M r)
      · rw [if_pos rfl, if_neg (by decide), step1 L1 r]
      · rw [if_neg (by decide), if_pos rfl, step1 L1 r]
    cases q : inT u (pC M r)
    · obtain ⟨M', a1, a2, a3⟩ := ih (L1 ++ [r]) n M k (by simpa using h) hk (by simp at hn; omega)
      refine ⟨M', by rw [hun, q, if_neg (by decide)]; exact a1, ?_, a3⟩
      rw [List.map_cons, List.filter_cons_of_neg (by simp [q])]; exact a2
    · obtain ⟨M1, b1, b2, b3⟩ := dropC hk h6
      have ep : pC M1 = pC M := by funext x; unfold pC; rw [b3 4 (by decide)]
      obtain ⟨M', a1, a2, a3⟩ := ih (L1 ++ [r]) n M1 (kdr k [pC M r]) (TC_cong (by simpa using h) (fun t ht => b3 t (by omega))) b2 (by simp at hn; omega)
      refine ⟨M', by rw [hun, q, if_pos rfl, b1, bd1_s]; exact a1, ?_, same_tr b3 a3⟩
      rw [List.map_cons, List.filter_cons_of_pos q]
      rw [kdr_app, ep] at a2
      exact a2

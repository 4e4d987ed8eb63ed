def M0 : Mem := fun t i => if t = 3 then nI i else 0
theorem M0_z {t : Nat} (h : t ≠ 3) (i : Nat) : M0 t i = 0 := if_neg h
/-! ===== all cells made: the first memory ===== -/
theorem arrV_cong {cI : ClassId} {N : Nat} {f g : Nat → Value} (h : ∀ j, j < N → f j = g j) : arrV cI N f = arrV cI N g := by
  unfold arrV
  congr 2
  funext j
  exact h j.val j.isLt
theorem Pw_congA {Z : Zt} {b n : Nat} {E E' : Nat → va_E} {H : Heap} (h : Pw Z b n E H) (g : ∀ k, k < n → E k = E' k ∨ ∃ (cA : ClassId) (N : Nat) (f f' : Nat → Option Nat), E k = .inl (cA, N, .inr (.inr (.inr (.inr f)))) ∧ E' k = .inl (cA, N, .inr (.inr (.inr (.inr f')))) ∧ ∀ j, j < N → f j = f' j) : Pw Z b n E' H := by
  refine ⟨h.1, fun k q hq => ?_⟩
  obtain ⟨hk, rfl⟩ := pwl_at hq
  have h2 := h.2 k _ (pwl_get hk)
  rcases g k hk with e | ⟨cA, N, f, f', e1, e2, e3⟩
  · rw [← e]; exact h2
  · rw [e1] at h2
    rw [e2]
    have h3 : H[b + k]? = some (vp_cell cA (N, .inr (.inr (.inr (.inr f))))) := h2
    show H[b + k]? = some (vp_cell cA (N, .inr (.inr (.inr (.inr f')))))
    rw [h3, vp_cell_q, vp_cell_q, arrV_cong (fun j hj => by rw [e3 j hj])]
theorem M0_f {t : Nat} (h : t ≠ 3) : M0 t = fun _ => 0 := funext (M0_z h)
theorem e4b_mid {Z : Zt} {b k : Nat} (h : k < 155) (h0 : k ≠ 0) : e4b Z b k = eL Z b (e4a Z b) 30 k := by
  unfold e4b
  rw [vup_n _ _ h0, vup_n _ _ h0, vup_n _ _ (by omega), vup_n _ _ h0]
theorem e4b_low {Z : Zt} {b k : Nat} (h : k < 123) (h0 : k ≠ 0) : e4b Z b k = eS Z b (srv .null .null .null) 60 k := by
  rw [e4b_mid (by omega) h0]
  unfold eL
  rw [if_pos h]
  unfold e4a
  rw [vup_n _ _ (by omega), vup_n _ _ h0]
theorem eZ_en {Z : Zt} {b k : Nat} (hk : k < 156) (h2 : k ≠ 2) (h124 : k ≠ 124) : e4b Z b k = en Z b M0 k := by
  by_cases h0 : k = 0
  · subst h0
    rw [en_0, M0_z (by decide)]; rfl
  by_cases h1 : k = 1
  · subst h1
    rw [en_1, M0_z (by decide), e4b_low (by decide) (by decide)]; rfl
  by_cases h3 : k < 123
  · rw [e4b_low h3 h0]
    by_cases h5 : (k - 3) % 2 = 0
    · obtain ⟨r, hr, rfl⟩ : ∃ r, r < 60 ∧ k = 3 + 2 * r := ⟨(k - 3) / 2, by omega, by omega⟩
      rw [en_R Z b M0 hr]
      unfold resE eS
      rw [if_neg (by omega), if_neg (by omega), if_neg (by omega), if_pos (by omega), M0_z (by decide), M0_z (by decide), M0_z (by decide), M0_z (by decide), M0_z (by decide), show b + (3 + 2 * r + 1) = b + (4 + 2 * r) by omega]
    · obtain ⟨r, hr, rfl⟩ : ∃ r, r < 60 ∧ k = 4 + 2 * r := ⟨(k - 3) / 2, by omega, by omega⟩
      rw [en_V Z b M0 hr]
      unfold verE eS
      rw [if_neg (by omega), if_neg (by omega), if_neg (by omega), if_neg (by omega), M0_f (by omega)]
  by_cases h4 : 125 ≤ k ∧ k < 155
  · obtain ⟨r, hr, rfl⟩ : ∃ r, r < 30 ∧ k = 125 + r := ⟨k - 125, by omega, by omega⟩
    rw [e4b_mid (by omega) h0, en_L Z b M0 hr]
    unfold lokE eL
    rw [if_neg (by omega), if_neg (by omega), if_neg (by omega), M0_z (by decide), M0_z (by decide), M0_z (by decide), M0_z (by decide), M0_z (by decide)]
  rcases (show k = 123 ∨ k = 155 by omega) with rfl | rfl
  · rw [en_123, M0_z (by decide), M0_z (by decide)]; rfl
  · rw [en_155, M0_f (by decide)]; rfl
theorem eZ_Wd {Z : Zt} {b : Nat} {H : Heap} (h : Pw Z b 156 (e4b Z b) H) : Wd Z b M0 H := by
  refine (Pw_Wd (M := M0) (E := en Z b M0) (Pw_congA h (fun k hk => ?_)) (fun _ _ => rfl))
  by_cases h2 : k = 2
  · subst h2
    right
    refine ⟨Z.2 4, 60, _, _, by rw [e4b_low (by decide) (by decide)]; rfl, en_2 Z b M0, fun j hj => ?_⟩
    have e : rk M0 j = j := by unfold rk; rw [show M0 3 j = nI j from if_pos rfl, cl' (by omega)]
    rw [e]
    exact if_pos hj
  by_cases h4 : k = 124
  · subst h4
    right
    refine ⟨Z.2 3, 30, _, _, by rw [e4b_mid (by decide) (by decide)]; rfl, en_124 Z b M0, fun j hj => ?_⟩
    exact if_pos hj
  exact Or.inl (eZ_en hk h2 h4)

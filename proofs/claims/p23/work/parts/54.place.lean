/-! ===== the class moves its rows ===== -/
def RW (M : Mem) (l : List Nat) : Prop := ∀ j x, l[j]? = some x → M 3 j = nI x
def RH (M : Mem) (l : List Nat) (i : Nat) : Prop := ∀ j x, l[j]? = some x → j ≠ i → M 3 j = nI x
theorem get_mid (P : List Nat) (x : Nat) (T : List Nat) : (P ++ x :: T)[P.length]? = some x := by simp
theorem get_ne {P T : List Nat} {x y : Nat} {j : Nat} (h : j ≠ P.length) : (P ++ x :: T)[j]? = (P ++ y :: T)[j]? := by
  rcases Nat.lt_or_ge j P.length with z | z
  · rw [List.getElem?_append_left z, List.getElem?_append_left z]
  · rw [List.getElem?_append_right z, List.getElem?_append_right z]
    obtain ⟨i, hi⟩ : ∃ i, j - P.length = i + 1 := ⟨j - P.length - 1, by omega⟩
    rw [hi, List.getElem?_cons_succ, List.getElem?_cons_succ]
theorem RH_fill {M : Mem} {P T : List Nat} {h : Nat} (g : RH M (P ++ h :: T) P.length) (r : Nat) : RW (mu M 3 P.length (nI r)) (P ++ r :: T) := by
  intro j x hj
  rw [mu_x]
  by_cases z : j = P.length
  · rw [if_pos z]
    subst z
    rw [get_mid] at hj
    simp at hj
    rw [hj]
  · rw [if_neg z]
    exact g j x (by rw [get_ne (y := r) z]; exact hj) z
theorem shiftC_37 (r i0 : Nat) (T : List Nat) (hi0 : i0 < 2147483648) : ∀ (R2 P : List Nat) (h n : Nat) (M : Mem), RH M (P ++ h :: (R2 ++ T)) P.length → (∀ x ∈ R2, x < 60) → P.length + R2.length < 60 → i0 ≤ P.length + R2.length → R2.length < n → ∃ M', f_X3_shift_37 n M (nI i0) (nI (P.length + R2.length)) r (nI P.length) = some M' ∧ RW M' (P ++ R2 ++ r :: T) ∧ same M M' (fun t => t = 3) := by
  intro R2
  induction R2 with
  | nil =>
    intro P h n M g _ hl hi hn
    obtain ⟨n, rfl⟩ : ∃ j, n = j + 1 := ⟨n - 1, by omega⟩
    simp only [List.length_nil, Nat.add_zero] at hl hi
    refine ⟨mu M 3 P.length (nI r), ?_, ?_, same_mu _ _ _ rfl⟩
    · show f_X3_shift_37B (f_X3_shift_37 n) M (nI i0) (nI (P.length + 0)) r (nI P.length) = _
      unfold f_X3_shift_37B
      rw [Nat.add_zero]
      simp only [le' (show P.length < 2147483648 by omega) (show P.length < 2147483648 by omega)]
      rw [if_pos (Nat.le_refl _)]
      show f_X3_shift_68B (f_X3_shift_68 63) M (nI P.length) r (nI i0) = _
      unfold f_X3_shift_68B
      simp only [le' hi0 (show P.length < 2147483648 by omega)]
      rw [if_pos hi, gi hl (by decide), cl' (by omega)]
    · rw [List.append_nil]
      exact RH_fill g r
  | cons y R2 ih =>
    intro P h n M g hx hl hi hn
    obtain ⟨n, rfl⟩ : ∃ j, n = j + 1 := ⟨n - 1, by simp at hn; omega⟩
    simp only [List.length_cons] at hl hi
    have hy : y < 60 := hx y (by simp)
    have e3 : M 3 (P.length + 1) = nI y := g (P.length + 1) y (by simp) (by omega)
    have hrk : rk M (P.length + 1) = y := by unfold rk; rw [e3, cl' (by omega)]
    have g' : RH (mu M 3 P.length (nI y)) ((P ++ [y]) ++ y :: (R2 ++ T)) (P ++ [y]).length := by
      intro j x hj hne
      rw [mu_x]
      simp only [List.length_append, List.length_cons, List.length_nil] at hne
      have hj' : (P ++ y :: (y :: (R2 ++ T)))[j]? = some x := by simpa using hj
      by_cases z : j = P.length
      · rw [if_pos z]
        subst z
        rw [get_mid] at hj'
        simp at hj'
        rw [hj']
      · rw [if_neg z]
        exact g j x (by rw [get_ne (y := y) z]; simpa using hj') z
    obtain ⟨M', a1, a2, a3⟩ := ih (P ++ [y]) y n _ g' (fun x hx' => hx x (by simp [hx'])) (by simp; omega) (by simp; omega) (by simp at hn; omega)
    refine ⟨M', ?_, by simpa using a2, same_tr (same_mu _ _ _ rfl) a3⟩
    show f_X3_shift_37B (f_X3_shift_37 n) M (nI i0) (nI (P.length + (R2.length + 1))) r (nI P.length) = _
    unfold f_X3_shift_37B
    simp only [le' (show P.length + (R2.length + 1) < 2147483648 by omega) (show P.length < 2147483648 by omega), nI_1]
    rw [if_neg (by omega), gi (show P.length + 1 < 60 by omega) (by decide), gi (show P.length < 60 by omega) (by decide), cl' (by omega), cl' (by omega), hrk, if_neg (by omega)]
    have : (P ++ [y]).length = P.length + 1 := by simp
    rw [this] at a1
    rw [show P.length + (R2.length + 1) = P.length + 1 + R2.length by omega]
    exact a1
theorem shiftC_68 (r : Nat) : ∀ (m : Nat) (R P T : List Nat) (h n : Nat) (M : Mem), R.length = m → RH M (P ++ R ++ h :: T) (P ++ R).length → (∀ x ∈ R, x < 60) → P.length + R.length < 60 → R.length < n → ∃ M', f_X3_shift_68 n M (nI P.length) r (nI (P ++ R).length) = some M' ∧ RW M' (P ++ r :: (R ++ T)) ∧ same M M' (fun t => t = 3) := by
  intro m
  induction m with
  | zero =>
    intro R P T h n M hm g _ hl hn
    obtain ⟨n, rfl⟩ : ∃ j, n = j + 1 := ⟨n - 1, by omega⟩
    have : R = [] := List.eq_nil_of_length_eq_zero hm
    subst this
    rw [List.append_nil] at g ⊢
    simp only [List.length_nil, Nat.add_zero] at hl
    refine ⟨mu M 3 P.length (nI r), ?_, RH_fill g r, same_mu _ _ _ rfl⟩
    show f_X3_shift_68B (f_X3_shift_68 n) M (nI P.length) r (nI P.length) = _
    unfold f_X3_shift_68B
    simp only [le' (show P.length < 2147483648 by omega) (show P.length < 2147483648 by omega)]
    rw [if_pos (Nat.le_refl _), gi hl (by decide), cl' (by omega)]
  | succ m ih =>
    intro R P T h n M hm g hx hl hn
    obtain ⟨n, rfl⟩ : ∃ j, n = j + 1 := ⟨n - 1, by omega⟩
    rcases List.eq_nil_or_concat R with z | ⟨R', y, z⟩
    · subst z; simp at hm
    · rw [List.concat_eq_append] at z
      subst z
      simp only [List.length_append, List.length_cons, List.length_nil] at hm hl hn
      have hy : y < 60 := hx y (by simp)
      have e3 : M 3 (P ++ R').length = nI y := g (P ++ R').length y (by simp) (by simp)
      have hrk : rk M (P ++ R').length = y := by unfold rk; rw [e3, cl' (by omega)]
      have g' : RH (mu M 3 (P ++ R' ++ [y]).length (nI y)) (P ++ R' ++ y :: (y :: T)) (P ++ R').length := by
        intro j x hj hne
        rw [mu_x]
        have hj' : ((P ++ R' ++ [y]) ++ y :: T)[j]? = some x := by simpa using hj
        by_cases z : j = (P ++ R' ++ [y]).length
        · rw [if_pos z]
          rw [z, get_mid] at hj'
          simp at hj'
          rw [hj']
        · rw [if_neg z]
          refine g j x ?_ (by simpa using z)
          have := get_ne (P := P ++ R' ++ [y]) (T := T) (x := y) (y := h) z
          rw [this] at hj'
          simpa using hj'
      obtain ⟨M', a1, a2, a3⟩ := ih R' P (y :: T) y n _ (by omega) g' (fun x hx' => hx x (by simp [hx'])) (by omega) (by omega)
      refine ⟨M', ?_, by simpa using a2, same_tr (same_mu _ _ _ rfl) a3⟩
      show f_X3_shift_68B (f_X3_shift_68 n) M (nI P.length) r (nI (P ++ (R' ++ [y])).length) = _
      unfold f_X3_shift_68B
      have el : (P ++ (R' ++ [y])).length = (P ++ R').length + 1 := by simp; omega
      have el2 : (P ++ R' ++ [y]).length = (P ++ R').length + 1 := by simp; omega
      have el3 : (P ++ R').length = P.length + R'.length := by simp
      rw [el2] at a1
      rw [el]
      have em1 : nI ((P ++ R').length + 1) + (-1) = nI (P ++ R').length := by
        rw [← Int32.sub_eq_add_neg, nI_pred]
      rw [nI_pred, em1]
      simp only [le' (show (P ++ R').length + 1 < 2147483648 by omega) (show P.length < 2147483648 by omega)]
      rw [if_neg (by omega), gi (show (P ++ R').length < 60 by omega) (by decide), gi (show (P ++ R').length + 1 < 60 by omega) (by decide), cl' (by omega), cl' (by omega), hrk, if_neg (by omega)]
      exact a1
theorem shiftC_up {M : Mem} {P R T : List Nat} {r : Nat} (g : RW M (P ++ r :: (R ++ T))) (hr : r < 60) (hx : ∀ x ∈ R, x < 60) (hl : P.length + R.length < 60) : ∃ M', f_X3_shift M (nI P.length) (nI (P.length + R.length)) = some M' ∧ RW M' (P ++ R ++ r :: T) ∧ same M M' (fun t => t = 3) := by
  obtain ⟨M', a1, a2, a3⟩ := shiftC_37 r P.length T (by omega) R P r 64 M (fun j x hj _ => g j x hj) hx hl (by omega) (by omega)
  refine ⟨M', ?_, a2, a3⟩
  unfold f_X3_shift f_X3_shift_0
  have e3 : M 3 P.length = nI r := g P.length r (get_mid _ _ _)
  have hrk : rk M P.length = r := by unfold rk; rw [e3, cl' (by omega)]
  rw [if_neg (nI_pos (by omega)), if_neg (by rw [show (60 : Int32) = nI 60 from rfl, le' (by decide) (by omega)]; omega), if_neg (nI_pos (by omega)), if_pos (by rw [show (60 : Int32) = nI 60 from rfl, lt' (by omega) (by decide)]; exact hl), gi (show P.length < 60 by omega) (by decide), cl' (by omega), hrk, if_neg (by omega)]
  exact a1
theorem shiftC_down {M : Mem} {P R T : List Nat} {r : Nat} (g : RW M (P ++ R ++ r :: T)) (hr : r < 60) (hx : ∀ x ∈ R, x < 60) (hl : P.length + R.length < 60) : ∃ M', f_X3_shift M (nI (P ++ R).length) (nI P.length) = some M' ∧ RW M' (P ++ r :: (R ++ T)) ∧ same M M' (fun t => t = 3) := by
  obtain ⟨M', a1, a2, a3⟩ := shiftC_68 r R.length R P T r 64 M rfl (fun j x hj _ => g j x hj) hx hl (by omega)
  refine ⟨M', ?_, a2, a3⟩
  unfold f_X3_shift f_X3_shift_0
  have el : (P ++ R).length = P.length + R.length := by simp
  have e3 : M 3 (P ++ R).length = nI r := g (P ++ R).length r (get_mid _ _ _)
  have hrk : rk M (P ++ R).length = r := by unfold rk; rw [e3, cl' (by omega)]
  rw [if_neg (nI_pos (by omega)), if_neg (by rw [show (60 : Int32) = nI 60 from rfl, le' (by decide) (by omega)]; omega), if_neg (nI_pos (by omega)), if_pos (by rw [show (60 : Int32) = nI 60 from rfl, lt' (by omega) (by decide)]; omega), gi (show (P ++ R).length < 60 by omega) (by decide), cl' (by omega), hrk, if_neg (by omega)]
  show f_X3_shift_37B (f_X3_shift_37 63) M (nI (P ++ R).length) (nI P.length) r (nI (P ++ R).length) = _
  unfold f_X3_shift_37B
  simp only [le' (show P.length < 2147483648 by omega) (show (P ++ R).length < 2147483648 by omega)]
  rw [if_pos (by omega)]
  exact a1
/-- the same rows in another order -/
theorem TC_re {M M' : Mem} {L L' sp : List Nat} {τ : Tr} (h : TC M L sp τ) (hp : L'.Perm L) (g : RW M' (L' ++ sp)) (hs : same M M' (fun t => t = 3)) {a : List Nat} (ha : eqv (L'.map (pC M)) a) : TC M' L' sp (a, τ.2) := by
  have hnd := TC_nd h
  obtain ⟨⟨i1, i2, i3, i4, i5⟩, h2, h3, h4, h5⟩ := h
  have hp2 : (L' ++ sp).Perm (L ++ sp) := hp.append_right sp
  have ep : pC M' = pC M := by funext x; unfold pC; rw [hs 4 (by decide)]
  refine ⟨⟨by rw [hs 2 (by decide), i1, hp.length_eq], by rw [hp2.length_eq]; exact i2, hp2.nodup_iff.mpr i3, fun r hr => i4 r (hp2.mem_iff.mp hr), g⟩, fun r hr => by rw [hs 4 (by decide), ep]; exact h2 r (hp.mem_iff.mp hr), by rw [ep]; exact ha, ?_, fun r hr => ?_⟩
  · show a.Nodup
    rw [← (eqv_perm ha).nodup_iff, (hp.map (pC M)).nodup_iff]
    exact hnd
  · rw [hs 5 (by decide), hs 6 (by decide), hs 8 (by decide), hs (100 + r) (by omega), ep]
    exact h5 r (hp.mem_iff.mp hr)
def spW (w p : Nat) (l : List Nat) : List Nat := l.take w ++ p :: l.drop w
theorem spW_ge {w p : Nat} {l : List Nat} (h : l.length ≤ w) : spW w p l = l ++ [p] := by
  unfold spW; rw [List.take_of_length_le h, List.drop_of_length_le h]
theorem spW_app {p : Nat} (a c : List Nat) : spW a.length p (a ++ c) = a ++ p :: c := by
  unfold spW; rw [List.take_left, List.drop_left]
/-- all of a list but one -/
def no (p : Nat) (l : List Nat) : List Nat := l.filter (fun x => !decide (x = p))
theorem no_mid {p : Nat} {a c : List Nat} (h : (a ++ p :: c).Nodup) : no p (a ++ p :: c) = a ++ c := by
  unfold no
  rw [List.nodup_append, List.nodup_cons] at h
  rw [List.filter_append, List.filter_cons_of_neg (by simp)]
  congr 1
  · rw [List.filter_eq_self]
    intro x hx
    have := h.2.2 x hx p (by simp)
    simp [this]
  · rw [List.filter_eq_self]
    intro x hx
    have : x ≠ p := fun z => h.2.1.1 (z ▸ hx)
    simp [this]
theorem placeC {M : Mem} {L sp : List Nat} {τ : Tr} (h : TC M L sp τ) {p w : Nat} (hy : p ∈ ta τ) (hw : w < 2147483648) : ∃ M' L', f_X3_placeMember M (nI p) (nI w) = some M' ∧ TC M' L' sp (L'.map (pC M), τ.2) ∧ same M M' (fun t => t = 3) ∧ L'.Perm L ∧ (∀ q, q ≠ p / 10 → (L'.map (pC M)).filter (par q) = (L.map (pC M)).filter (par q)) ∧ (L'.map (pC M)).filter (par (p / 10)) = spW w p (no p ((L.map (pC M)).filter (par (p / 10)))) := by
  obtain ⟨L1, L2, r, rfl, e1, e2, e3, -⟩ := find_yes h hy
  have hpos := TC_pos h hy
  obtain ⟨i1, i2, i3, i4, i5⟩ := h.1
  have hnd := TC_nd h
  have hlen := IC_len h.1
  simp only [List.length_append, List.length_cons] at hlen
  have hrw : RW M (L1 ++ r :: (L2 ++ sp)) := fun j x hj => i5 j x (by simpa using hj)
  obtain ⟨M1, a1, a2, a3⟩ := shiftC_up hrw e2 (fun x hx => i4 x (by simp [hx])) (by omega)
  have hp1 : (L1 ++ L2 ++ [r]).Perm (L1 ++ r :: L2) := by
    rw [List.append_assoc]
    exact List.Perm.append_left L1 List.perm_append_comm
  have hT1 := TC_re h hp1 (M' := M1) (by simpa using a2) a3 (eqv_rf _)
  have hpp : par (p / 10) p = true := by simp [par]
  have ep1 : pC M1 = pC M := by funext x; unfold pC; rw [a3 4 (by decide)]
  have hno : no p (((L1 ++ r :: L2).map (pC M)).filter (par (p / 10))) = ((L1 ++ L2).map (pC M)).filter (par (p / 10)) := by
    have hx := List.Pairwise.filter (par (p / 10)) hnd
    rw [List.map_append, List.map_cons, List.filter_append, e1, List.filter_cons_of_pos hpp] at hx ⊢
    rw [no_mid hx, List.map_append, List.filter_append]
  have hOt : ∀ q, q ≠ p / 10 → ((L1 ++ r :: L2).map (pC M)).filter (par q) = ((L1 ++ L2).map (pC M)).filter (par q) := fun q hq => by
    rw [List.map_append, List.map_cons, List.filter_append, e1, List.filter_cons_of_neg (by simp [par]; omega), List.map_append, List.filter_append]
  have hc1 : M1 2 0 - 1 = nI (L1.length + L2.length) := by
    rw [a3 2 (by decide), i1, List.length_append, List.length_cons, show L1.length + (L2.length + 1) = (L1.length + L2.length) + 1 by omega, nI_pred]
  have hc0 : M 2 0 - 1 = nI (L1.length + L2.length) := by
    rw [i1, List.length_append, List.length_cons, show L1.length + (L2.length + 1) = (L1.length + L2.length) + 1 by omega, nI_pred]
  have hbase : f_X3_placeMember M (nI p) (nI w) = bd2 (f_X3_memberIndex M1 (nI (p / 10)) (nI w)) (fun r28 M28 => if r28 < 0 then some M28 else bd1 (f_X3_shift M28 ((M28 2 0) - (1 : Int32)) r28) (fun M47 => some M47)) := by
    unfold f_X3_placeMember f_X3_placeMember_0
    rw [e3, bd2_s, if_pos (nI_pos' (by omega)), hc0, a1, bd1_s, parentC _ hpos.2, bd2_s]
  have hfil : ((L1 ++ L2 ++ [r]).map (pC M)).filter (par (p / 10)) = ((L1 ++ L2).map (pC M)).filter (par (p / 10)) ++ [p] := by
    rw [List.map_append, List.filter_append, List.map_singleton, e1, List.filter_cons_of_pos hpp, List.filter_nil]
  by_cases hwO : w ≤ (((L1 ++ L2).map (pC M)).filter (par (p / 10))).length
  · obtain ⟨x0, hx0⟩ : ∃ x0, (((L1 ++ L2 ++ [r]).map (pC M)).filter (par (p / 10)))[w]? = some x0 := ⟨_, List.getElem?_eq_getElem (by rw [hfil, List.length_append, List.length_singleton]; omega)⟩
    obtain ⟨A, x, R, d1, d2, d3, d4⟩ := nth_split _ _ _ _ _ hx0
    have hidx : f_X3_memberIndex M1 (nI (p / 10)) (nI w) = some (nI A.length, M1) := by
      have hT1' := hT1
      rw [d1] at hT1'
      have := memberIndex_yes hT1' (q := p / 10) (by omega) (by rw [ep1, d2]; exact d3)
      rw [ep1, d4] at this
      exact this
    obtain ⟨R', hR1, hR2⟩ : ∃ R', x :: R = R' ++ [r] ∧ L1 ++ L2 = A ++ R' := by
      rcases List.eq_nil_or_concat (x :: R) with z | ⟨R', y, z⟩
      · exact absurd z (by simp)
      · rw [List.concat_eq_append] at z
        rw [z, ← List.append_assoc] at d1
        have := List.append_inj' d1 rfl
        refine ⟨R', ?_, this.1⟩
        rw [z]; have h2 := this.2; simp at h2; rw [h2]
    have hlA : A.length + R'.length = L1.length + L2.length := by
      have := congrArg List.length hR2
      simpa using this.symm
    have hrw2 : RW M1 (A ++ R' ++ r :: sp) := by rw [← hR2]; exact a2
    obtain ⟨M2, b1, b2, b3⟩ := shiftC_down hrw2 e2 (fun y hy' => i4 y (by
      have : y ∈ L1 ++ L2 := by rw [hR2]; simp [hy']
      rcases List.mem_append.mp this with z | z <;> simp [z])) (by omega)
    have hp2 : (A ++ r :: R').Perm (L1 ++ r :: L2) := by
      have p1 : (A ++ r :: R').Perm (r :: (A ++ R')) := List.perm_middle
      have p2 : (L1 ++ r :: L2).Perm (r :: (L1 ++ L2)) := List.perm_middle
      rw [← hR2] at p1
      exact p1.trans p2.symm
    have hT2 := TC_re h hp2 (M' := M2) (by simpa using b2) (same_tr a3 b3) (eqv_rf _)
    have hlA' : (A ++ R').length = L1.length + L2.length := by rw [List.length_append]; exact hlA
    refine ⟨M2, A ++ r :: R', ?_, hT2, same_tr a3 b3, hp2, fun q hq => ?_, ?_⟩
    · rw [hbase, hidx, bd2_s, if_neg (nI_pos (by omega)), hc1, ← hlA', b1, bd1_s]
    · rw [hOt q hq, hR2, List.map_append, List.map_cons, List.filter_append, e1, List.filter_cons_of_neg (by simp [par]; omega), List.map_append, List.filter_append]
    · rw [hno, hR2, List.map_append, List.map_cons, List.filter_append, e1, List.filter_cons_of_pos hpp, List.map_append, List.filter_append]
      have hlw : ((A.map (pC M)).filter (par (p / 10))).length = w := by rw [filter_map_len]; exact d4
      rw [← hlw, spW_app]
  · have hidx : f_X3_memberIndex M1 (nI (p / 10)) (nI w) = some (-1, M1) := by
      refine memberIndex_no hT1 (by omega) (fun w' hw' z => ?_)
      have hw'' : w' < (((L1 ++ L2 ++ [r]).map (pC M)).filter (par (p / 10))).length := hw'
      have hb : (((L1 ++ L2).map (pC M)).filter (par (p / 10))).length ≤ 60 := by
        have := List.length_filter_le (par (p / 10)) ((L1 ++ L2).map (pC M))
        rw [List.length_map, List.length_append] at this; omega
      rw [hfil, List.length_append, List.length_singleton] at hw''
      rw [eq' hw (by omega)] at z
      omega
    refine ⟨M1, L1 ++ L2 ++ [r], ?_, hT1, a3, hp1, fun q hq => ?_, ?_⟩
    · rw [hbase, hidx, bd2_s, if_pos (by decide)]
    · rw [hOt q hq, List.map_append, List.filter_append, List.map_singleton, e1, List.filter_cons_of_neg (by simp [par]; omega), List.filter_nil, List.append_nil]
    · rw [hno, hfil, spW_ge (by omega)]

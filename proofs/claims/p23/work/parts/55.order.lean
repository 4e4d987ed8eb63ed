/-! ===== order ===== -/
theorem MT_ta {M : Mem} {L : List Nat} {τ : Tr} {B : Nat} (h : MT M L τ B) {a : List Nat} (ha : eqv (L.map (pM M)) a) : MT M L (a, τ.2) B := by
  have hnd := MT_nd h
  obtain ⟨h1, h2, h3, h4, h5, h6, h7, h8, h9, h10⟩ := h
  exact ⟨h1, h2, ha, (eqv_perm ha).nodup_iff.mp hnd, h5, h6, h7, h8, h9, h10⟩
theorem TC_ta {M : Mem} {L sp : List Nat} {τ : Tr} (h : TC M L sp τ) {a : List Nat} (ha : eqv (L.map (pC M)) a) : TC M L sp (a, τ.2) := by
  have hnd := TC_nd h
  obtain ⟨h1, h2, h3, h4, h5⟩ := h
  exact ⟨h1, h2, ha, (eqv_perm ha).nodup_iff.mp hnd, h5⟩
def lstM (M : Mem) (s : Nat) : Mem := mu (mu M 25 0 (M 25 0 + 1)) 24 s (M 25 0 + 1)
theorem lstM_ne (M : Mem) (s : Nat) {t : Nat} (h : t ≠ 24 ∧ t ≠ 25) : lstM M s t = M t := by unfold lstM; rw [mu_ne _ _ _ h.1, mu_ne _ _ _ h.2]
/-- a place becomes the last one -/
theorem MT_last {M : Mem} {A R : List Nat} {s : Nat} {τ : Tr} {B : Nat} (h : MT M (A ++ s :: R) τ B) (hB : B + 1 ≤ 1000000) {a : List Nat} (ha : eqv ((A ++ R ++ [s]).map (pM M)) a) : MT (lstM M s) (A ++ R ++ [s]) (a, τ.2) (B + 1) := by
  have hnd := MT_nd h
  have hndL := MT_ndL h
  obtain ⟨h1, h2, h3, h4, h5, h6, h7, h8, h9, h10⟩ := h
  have hp : (A ++ R ++ [s]).Perm (A ++ s :: R) := by
    rw [List.append_assoc]
    exact List.Perm.append_left A List.perm_append_comm
  have ep : pM (lstM M s) = pM M := by funext x; unfold pM; rw [lstM_ne _ _ (by decide)]
  have eu : us (lstM M s) = us M := by funext x; unfold us; rw [lstM_ne _ _ (by decide)]
  have hrn : M 25 0 + 1 = nI (rn M + 1) := by rw [h8, nI_1]
  have e24 : ∀ x, lstM M s 24 x = if x = s then nI (rn M + 1) else M 24 x := fun x => by unfold lstM; rw [mu_x, hrn, mu_at _ _ _ (by decide)]
  have e25 : lstM M s 25 0 = nI (rn M + 1) := by unfold lstM; rw [mu_at _ _ _ (by decide), mu_self, hrn]
  have ern : rn (lstM M s) = rn M + 1 := by show (lstM M s 25 0).toNatClampNeg = _; rw [e25, cl' (by omega)]
  have ers : rM (lstM M s) s = rn M + 1 := by show (lstM M s 24 s).toNatClampNeg = _; rw [e24, if_pos rfl, cl' (by omega)]
  have er : ∀ x, x ≠ s → rM (lstM M s) x = rM M x := fun x hx => by show (lstM M s 24 x).toNatClampNeg = _; rw [e24, if_neg hx]; rfl
  have hsA : ∀ x ∈ A ++ R, x ≠ s := fun x hx z => by
    subst z
    have : (A ++ R ++ [x]).Nodup := hp.nodup_iff.mpr hndL
    rw [List.nodup_append] at this
    exact this.2.2 x hx x (by simp) rfl
  refine ⟨by rw [eu]; exact hp.trans h1, fun x hx => by rw [lstM_ne _ _ (by decide), ep]; exact h2 x (hp.mem_iff.mp hx), by rw [ep]; exact ha, ?_, fun x hx => ?_, fun x hx => ?_, ?_, by rw [e25, ern], by rw [ern]; omega, hB⟩
  · show a.Nodup
    rw [← (eqv_perm ha).nodup_iff, (hp.map (pM M)).nodup_iff]
    exact hnd
  · rw [lstM_ne _ _ (by decide), lstM_ne _ _ (by decide), lstM_ne _ _ (by decide), lstM_ne _ _ (by decide), ep]
    exact h5 x (hp.mem_iff.mp hx)
  · rw [e24, ern]
    by_cases z : x = s
    · subst z; rw [if_pos rfl, ers]; exact ⟨rfl, Nat.le_refl _⟩
    · rw [if_neg z, er x z]
      have := h6 x (hp.mem_iff.mp hx)
      exact ⟨this.1, by omega⟩
  · rw [List.pairwise_append]
    refine ⟨?_, by simp, fun x hx c hc => ?_⟩
    · have hpw : (A ++ R).Pairwise (fun a c => rM M a < rM M c) := by
        refine List.Pairwise.sublist ?_ h7
        exact List.Sublist.append_left (List.sublist_cons_self s R) A
      refine List.Pairwise.imp_of_mem ?_ hpw
      intro x y hx hy hxy
      rw [er x (hsA x hx), er y (hsA y hy)]; exact hxy
    · simp at hc; subst hc
      rw [er x (hsA x hx), ers]
      have hxm : x ∈ A ++ c :: R := by
        rcases List.mem_append.mp hx with z | z <;> simp [z]
      have := (h6 x hxm).2; omega
theorem fil_last {M : Mem} {A R : List Nat} {s q : Nat} (hq : par q (pM M s) = false) : ((A ++ R ++ [s]).map (pM M)).filter (par q) = ((A ++ s :: R).map (pM M)).filter (par q) := by
  rw [List.map_append, List.filter_append, List.map_singleton, List.filter_cons_of_neg (by simp [hq]), List.filter_nil, List.append_nil, List.map_append, List.filter_append, List.map_append, List.map_cons, List.filter_append, List.filter_cons_of_neg (by simp [hq])]
theorem par_uq {p q q' : Nat} (h : par q p = true) (hq : q' ≠ q) : par q' p = false := by
  have h : p / 10 = q := by simpa [par] using h
  simp [par]; omega
theorem sub_neg {a c : Nat} (ha : a < 2147483648) (hc : c < 2147483648) (h : a ≤ c) : nI a - nI c ≤ 0 := by
  rw [Int32.le_iff_toInt_le, Int32.toInt_sub, nI_toInt (by omega), nI_toInt (by omega)]
  rw [show (0 : Int32).toInt = 0 from by decide]
  have : ((a : Int) - c).bmod (2 ^ 32) = (a : Int) - c := by
    apply Int.bmod_eq_of_le <;> omega
  rw [this]
  omega
def pvO (c x y tks : Int32) : Bool := okR c x tks && decide (0 ≤ y)

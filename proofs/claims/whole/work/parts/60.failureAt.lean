/-! ===== failureAt ===== -/
def lo (f g : Nat) : Bool := decide (g < f)
theorem fAtM_18 {M : Mem} {G : List Nat} (hG : ∀ j p, G[j]? = some p → M 36 j = nI p) (h9 : ∀ p ∈ G, p ≤ 9999) (h35 : M 35 0 = nI G.length) (hl : G.length ≤ 60) (K4 : Mem → Int32 → Int32 → Int32 → Option (Int32 × Mem)) (x x2 : Int32) {i f : Nat} (hi : G[i]? = some f) (hi60 : i < 60) (hf9 : f ≤ 9999) : ∀ (G2 G1 : List Nat) (n a : Nat), G = G1 ++ G2 → G2.length < n → f_X5_failureAt_18 K4 n M x x2 (nI i) (nI a) (nI G1.length) = K4 M x (if nI (a + G2.countP (lo f)) = x then nI f else x2) (nI (i + 1)) := by
  intro G2
  induction G2 with
  | nil =>
    intro G1 n a hGG hn
    obtain ⟨n, rfl⟩ : ∃ j, n = j + 1 := ⟨n - 1, by omega⟩
    rw [List.append_nil] at hGG
    subst hGG
    show f_X5_failureAt_18B K4 (f_X5_failureAt_18 K4 n) M x x2 (nI i) (nI a) (nI G.length) = _
    unfold f_X5_failureAt_18B f_X5_failureAt_75
    rw [h35]
    simp only [le' (show G.length < 2147483648 by omega) (show G.length < 2147483648 by omega)]
    rw [if_pos (Nat.le_refl _), gi hi60 (by decide), cl' (by omega), hG i f hi, nI_1]
    rw [show a + List.countP (lo f) [] = a from rfl]
    by_cases z : nI a = x
    · rw [if_pos z, if_pos z]
    · rw [if_neg z, if_neg z]
  | cons p G2 ih =>
    intro G1 n a hGG hn
    obtain ⟨n, rfl⟩ : ∃ j, n = j + 1 := ⟨n - 1, by omega⟩
    have hlen : G.length = G1.length + (G2.length + 1) := by rw [hGG]; simp
    have e1 : M 36 G1.length = nI p := hG _ _ (by rw [hGG]; exact get_mid _ _ _)
    have hp9 : p ≤ 9999 := h9 p (by rw [hGG]; simp)
    have i0 := ih (G1 ++ [p]) n a (by rw [hGG]; simp) (by simp at hn; omega)
    have i1 := ih (G1 ++ [p]) n (a + 1) (by rw [hGG]; simp) (by simp at hn; omega)
    show f_X5_failureAt_18B K4 (f_X5_failureAt_18 K4 n) M x x2 (nI i) (nI a) (nI G1.length) = _
    unfold f_X5_failureAt_18B f_X5_failureAt_50
    rw [h35]
    simp only [le' (show G.length < 2147483648 by omega) (show G1.length < 2147483648 by omega), gi (show G1.length < 60 by omega) (show 60 < 2147483648 by decide), gi hi60 (show 60 < 2147483648 by decide)]
    rw [if_neg (by omega), cl' (by omega), cl' (by omega), hG i f hi, e1, step1 G1 p, plus0, nI_1, i0, i1, List.countP_cons]
    simp only [le' (show f < 2147483648 by omega) (show p < 2147483648 by omega)]
    by_cases z : f ≤ p
    · rw [if_pos z, show lo f p = false by unfold lo; simp; omega]; simp
    · rw [if_neg z, show lo f p = true by unfold lo; simp; omega]
      simp [Nat.add_comm, Nat.add_left_comm, Nat.add_assoc]
def fhit (G : List Nat) (x : Int32) (f : Nat) : Prop := nI (G.countP (lo f)) = x
theorem fAtM_no {M : Mem} {G : List Nat} (hG : ∀ j p, G[j]? = some p → M 36 j = nI p) (h9 : ∀ p ∈ G, p ≤ 9999) (h35 : M 35 0 = nI G.length) (hl : G.length ≤ 60) (x : Int32) : ∀ (G2 G1 : List Nat) (n : Nat) (x2 : Int32), G = G1 ++ G2 → G2.length < n → (∀ f ∈ G2, ¬ fhit G x f) → f_X5_failureAt_4 n M x x2 (nI G1.length) = if 0 ≤ x2 then some (x2, mu M 39 0 0) else some (0, mu M 39 0 1) := by
  intro G2
  induction G2 with
  | nil =>
    intro G1 n x2 hGG hn _
    obtain ⟨n, rfl⟩ : ∃ j, n = j + 1 := ⟨n - 1, by omega⟩
    rw [List.append_nil] at hGG
    subst hGG
    show f_X5_failureAt_4B (f_X5_failureAt_4 n) M x x2 (nI G.length) = _
    unfold f_X5_failureAt_4B f_X5_failureAt_92
    rw [h35]
    simp only [le' (show G.length < 2147483648 by omega) (show G.length < 2147483648 by omega), at39]
    rw [if_pos (Nat.le_refl _), if_pos (show (0 : Int32) ≤ 0 by decide), if_neg (show ¬ (1 : Int32) ≤ 0 by decide)]
  | cons p G2 ih =>
    intro G1 n x2 hGG hn hh
    obtain ⟨n, rfl⟩ : ∃ j, n = j + 1 := ⟨n - 1, by omega⟩
    have hlen : G.length = G1.length + (G2.length + 1) := by rw [hGG]; simp
    have hget : G[G1.length]? = some p := by rw [hGG]; exact get_mid _ _ _
    show f_X5_failureAt_4B (f_X5_failureAt_4 n) M x x2 (nI G1.length) = _
    unfold f_X5_failureAt_4B
    rw [h35]
    simp only [le' (show G.length < 2147483648 by omega) (show G1.length < 2147483648 by omega)]
    have e := fAtM_18 hG h9 h35 hl (f_X5_failureAt_4 n) x x2 hget (by omega) (h9 p (by rw [hGG]; simp)) G [] 64 0 rfl (by omega)
    rw [Nat.zero_add, if_neg (show ¬ nI (G.countP (lo p)) = x from hh p (by simp))] at e
    rw [if_neg (by omega)]
    refine Eq.trans e ?_
    have := ih (G1 ++ [p]) n x2 (by rw [hGG]; simp) (by simp at hn; omega) (fun f hf => hh f (by simp [hf]))
    rw [List.length_append, List.length_singleton] at this
    exact this
theorem fAtM_yes {M : Mem} {G : List Nat} (hG : ∀ j p, G[j]? = some p → M 36 j = nI p) (h9 : ∀ p ∈ G, p ≤ 9999) (h35 : M 35 0 = nI G.length) (hl : G.length ≤ 60) (x : Int32) {f0 : Nat} (hh0 : fhit G x f0) (hun : ∀ f ∈ G, fhit G x f → f = f0) (hnd : G.Nodup) : ∀ (G2 G1 : List Nat) (n : Nat) (x2 : Int32), G = G1 ++ G2 → G2.length < n → f0 ∈ G2 → f_X5_failureAt_4 n M x x2 (nI G1.length) = some (nI f0, mu M 39 0 0) := by
  intro G2
  induction G2 with
  | nil => intro G1 n x2 _ _ h; simp at h
  | cons p G2 ih =>
    intro G1 n x2 hGG hn hm
    obtain ⟨n, rfl⟩ : ∃ j, n = j + 1 := ⟨n - 1, by omega⟩
    have hlen : G.length = G1.length + (G2.length + 1) := by rw [hGG]; simp
    have hget : G[G1.length]? = some p := by rw [hGG]; exact get_mid _ _ _
    have hp9 : p ≤ 9999 := h9 p (by rw [hGG]; simp)
    show f_X5_failureAt_4B (f_X5_failureAt_4 n) M x x2 (nI G1.length) = _
    unfold f_X5_failureAt_4B
    rw [h35]
    simp only [le' (show G.length < 2147483648 by omega) (show G1.length < 2147483648 by omega)]
    have e := fAtM_18 hG h9 h35 hl (f_X5_failureAt_4 n) x x2 hget (by omega) hp9 G [] 64 0 rfl (by omega)
    rw [Nat.zero_add] at e
    rw [if_neg (by omega)]
    refine Eq.trans e ?_
    by_cases z : p = f0
    · subst z
      have h0 : nI (G.countP (lo p)) = x := hh0
      rw [if_pos h0]
      have hpn : p ∉ G2 := by
        rw [hGG, List.nodup_append, List.nodup_cons] at hnd
        exact hnd.2.1.1
      have := fAtM_no hG h9 h35 hl x G2 (G1 ++ [p]) n (nI p) (by rw [hGG]; simp) (by simp at hn; omega) (fun f hf hz => hpn (by
        have := hun f (by rw [hGG]; simp [hf]) hz
        rw [← this]; exact hf))
      rw [List.length_append, List.length_singleton, if_pos (nI_pos' (by omega))] at this
      exact this
    · have hnp : ¬ nI (G.countP (lo p)) = x := fun w => z (hun p (by rw [hGG]; simp) w)
      rw [if_neg hnp]
      have := ih (G1 ++ [p]) n x2 (by rw [hGG]; simp) (by simp at hn; omega) (by
        rcases List.mem_cons.mp hm with w | w
        · exact absurd w.symm z
        · exact w)
      rw [List.length_append, List.length_singleton] at this
      exact this
theorem cnt_sorted {A B : List Nat} {f : Nat} (h : (A ++ f :: B).Pairwise (fun a c => a < c)) : (A ++ f :: B).countP (lo f) = A.length := by
  rw [List.pairwise_append, List.pairwise_cons] at h
  rw [List.countP_append, List.countP_cons]
  have e1 : A.countP (lo f) = A.length := List.countP_eq_length.mpr (fun x hx => by
    have := h.2.2 x hx f (by simp)
    unfold lo; simp [this])
  have e2 : B.countP (lo f) = 0 := List.countP_eq_zero.mpr (fun x hx => by
    have := h.2.1.1 x hx
    unfold lo; simp; omega)
  rw [e1, e2]
  unfold lo; simp
theorem st_failureAt {M : Mem} {L sp Lm : List Nat} {τ : Tr} {k : Lk} {F G : List Nat} {B : Nat} (h : Iv M L sp Lm τ k F G B) (x : Int32) : ∃ M2, agree M M2 (fun m => f_L_failureAt m x) (fun m => f_X5_failureAt m x) ∧ Iv M2 L sp Lm τ k F G B := by
  obtain ⟨f1, f2, f3, f4, f5, f6, f7, f8⟩ := h.2.2.2.2
  have hGl : G.length ≤ 60 := by rw [← f6.length_eq]; exact f2
  have hG9 : ∀ p ∈ G, p ≤ 9999 := fun p hp => f5 p (f6.mem_iff.mpr hp)
  have hFnd : F.Nodup := f4.imp (fun z => by omega)
  have hGnd : G.Nodup := f6.nodup_iff.mp hFnd
  have hcnt : ∀ f ∈ G, ∃ A C, F = A ++ f :: C ∧ G.countP (lo f) = A.length := fun f hf => by
    obtain ⟨A, C, e⟩ := List.append_of_mem (f6.mem_iff.mpr hf)
    refine ⟨A, C, e, ?_⟩
    rw [← f6.countP_eq, e]
    rw [e] at f4
    exact cnt_sorted f4
  by_cases hx : ∃ j, j < F.length ∧ x = nI j
  · obtain ⟨j, hj, rfl⟩ := hx
    obtain ⟨f0, hf0⟩ : ∃ f0, F[j]? = some f0 := ⟨_, List.getElem?_eq_getElem hj⟩
    have hfm : f0 ∈ F := List.mem_of_getElem? hf0
    have hfG : f0 ∈ G := f6.mem_iff.mp hfm
    have h40 := Iv_mu h (t := 40) (by decide) 0 (nI f0)
    have h39 := Iv_mu h40 (t := 39) (by decide) 0 0
    have hhit : ∀ f ∈ G, fhit G (nI j) f ↔ f = f0 := fun f hf => by
      obtain ⟨A, C, e1, e2⟩ := hcnt f hf
      unfold fhit
      have hAl : A.length < F.length := by rw [e1]; simp
      rw [e2, eq' (by omega) (by omega)]
      constructor
      · intro z
        have := get_mid A f C
        rw [← e1, z, hf0] at this
        simpa using this.symm
      · intro z
        subst z
        have hFj : F = F.take j ++ F[j] :: F.drop (j + 1) := by rw [← List.drop_eq_getElem_cons hj, List.take_append_drop]
        rw [List.getElem?_eq_getElem hj] at hf0
        have hfj : F[j] = f := by simpa using hf0
        rw [hfj] at hFj
        have f4' := f4
        rw [hFj] at f4'
        have h3 := cnt_sorted f4'
        rw [← hFj, f6.countP_eq, e2, List.length_take] at h3
        omega
    refine ⟨_, ag_R (v := nI f0) (M1 := M) (wR_failureAt ?_) ?_ (at39 _ _) (at40 _ _ _), h39⟩
    · unfold f_X4_failureAt f_X4_failureAt_0
      rw [if_neg (nI_pos (by omega)), f1, if_neg (by rw [le' (by omega) (by omega)]; omega), if_pos (by rw [show (60 : Int32) = nI 60 from rfl, lt' (by omega) (by decide)]; omega), gi (show j < 60 by omega) (by decide), cl' (by omega), f3 j f0 hf0]
    · show f_X5_failureAt _ _ = _
      unfold f_X5_failureAt f_X5_failureAt_0
      exact fAtM_yes (M := mu M 40 0 (nI f0)) (G := G) (fun j p hj => by rw [mu_at _ _ _ (by decide)]; exact f8 j p hj) hG9 (by rw [mu_at _ _ _ (by decide)]; exact f7) hGl (nI j) ((hhit f0 hfG).mpr rfl) (fun f hf hz => (hhit f hf).mp hz) hGnd G [] 64 (-1) rfl (by omega) hfG
  · refine ⟨mu M 39 0 1, ag_T (q := 1) (v := 0) (M1 := M) (wT_failureAt_B (M1 := M) ?_) ?_ (at39 _ _) (by decide), Iv_mu h (by decide) _ _⟩
    · unfold f_X4_failureAt f_X4_failureAt_0
      by_cases q : x < 0
      · rw [if_pos q]
      · rw [if_neg q]
        obtain ⟨j, hj, rfl⟩ := nI_ofNN (Int32.not_lt.mp q)
        rw [f1, if_pos (by
          rw [le' (by omega) hj]
          rcases Nat.lt_or_ge j F.length with z | z
          · exact absurd ⟨j, z, rfl⟩ hx
          · exact z)]
    · show f_X5_failureAt M x = _
      unfold f_X5_failureAt f_X5_failureAt_0
      have := fAtM_no (M := M) (G := G) f8 hG9 f7 hGl x G [] 64 (-1) rfl (by omega) (fun f hf hz => by
        obtain ⟨A, C, e1, e2⟩ := hcnt f hf
        have hz : nI (G.countP (lo f)) = x := hz
        rw [e2] at hz
        exact hx ⟨A.length, by rw [e1]; simp, hz.symm⟩)
      rw [if_neg (by decide)] at this
      exact this

/-! ===== the reference carries ===== -/
theorem carM_3 {f t : Nat} (ht9 : t ≤ 9999) {g : Nat → Bool} {x3 : Int32} {B : Nat} : ∀ (r n j : Nat) (M : Mem) (L : List Nat) (τ : Tr) (k : Lk), MT M L τ B → LM M k → (∀ i, j ≤ i → i < 60 → g i = mkF t M i) → j + r = 60 → r < n → ∃ M', f_X5_carries_3 n M (nI f) (nI t) x3 (nI j) = bd2 (f_X5_lowest M') (fun r33 M33 => f_X5_carries_38 64 M33 (nI f) (nI t) x3 r33) ∧ MT M' (L.filter (fun s => !(decide (j ≤ s) && g s))) (raw M (L.filter (fun s => !(decide (j ≤ s) && g s))) τ) B ∧ LM M' (kdr k (((List.range' j r).filter g).map (pM M))) ∧ (∀ x, x < j → M' 20 x = M 20 x) ∧ same M M' (fun t => t = 20 ∨ t = 34) := by
  intro r
  induction r with
  | zero =>
    intro n j M L τ k h hk hg hj hr
    obtain ⟨n, rfl⟩ : ∃ i, n = i + 1 := ⟨n - 1, by omega⟩
    have : j = 60 := by omega
    subst this
    have hLf : L.filter (fun s => !(decide (60 ≤ s) && g s)) = L := by
      rw [List.filter_eq_self]
      intro x hx
      have := ((MT_in h).mp hx).1
      simp [show ¬ 60 ≤ x by omega]
    refine ⟨M, ?_, by rw [hLf]; exact MT_ta h (eqv_rf _), by simp only [List.range'_zero, List.filter_nil, List.map_nil]; rw [kdr_nil]; exact hk, fun _ _ => rfl, same_rf _ _⟩
    show f_X5_carries_3B (f_X5_carries_3 n) M (nI f) (nI t) x3 (nI 60) = _
    unfold f_X5_carries_3B
    rw [if_pos (by decide)]
  | succ r ih =>
    intro n j M L τ k h hk hg hj hr
    obtain ⟨n, rfl⟩ : ∃ i, n = i + 1 := ⟨n - 1, by omega⟩
    have hgj := hg j (Nat.le_refl _) (by omega)
    have e : f_X5_carries_3 (n + 1) M (nI f) (nI t) x3 (nI j) = if g j = true then bd1 (f_X5_goes M (nI j)) (fun M23 => f_X5_carries_3 n M23 (nI f) (nI t) x3 (nI (j + 1))) else f_X5_carries_3 n M (nI f) (nI t) x3 (nI (j + 1)) := by
      show f_X5_carries_3B (f_X5_carries_3 n) M (nI f) (nI t) x3 (nI j) = _
      unfold f_X5_carries_3B f_X5_carries_26
      rw [if_neg (by rw [show (60 : Int32) = nI 60 from rfl, le' (by decide) (by omega)]; omega), isOfM h (show j < 60 by omega) ht9, bd2_s, nI_1, hgj]
      show (if b2i (mkF t M j) = 0 then _ else _) = _
      cases mkF t M j <;> rfl
    have hfl : (List.range' j (r + 1)).filter g = (if g j = true then [j] else []) ++ (List.range' (j + 1) r).filter g := by
      rw [List.range'_succ]
      cases q : g j
      · rw [List.filter_cons_of_neg (by simp [q])]; simp
      · rw [List.filter_cons_of_pos q]; simp
    cases hgt : g j
    · obtain ⟨M', a1, a2, a3, a4, a5⟩ := ih n (j + 1) M L τ k h hk (fun i h1 h2 => hg i (by omega) h2) (by omega) (by omega)
      have hLf : L.filter (fun s => !(decide (j + 1 ≤ s) && g s)) = L.filter (fun s => !(decide (j ≤ s) && g s)) := by
        apply List.filter_congr
        intro x _
        by_cases z : x = j
        · subst z; simp [hgt]
        · by_cases z2 : j ≤ x
          · simp [z2, show j + 1 ≤ x by omega]
          · simp [z2, show ¬ j + 1 ≤ x by omega]
      rw [hLf] at a2
      refine ⟨M', by rw [e, hgt, if_neg (by decide)]; exact a1, a2, ?_, fun x hx => a4 x (by omega), a5⟩
      rw [hfl, hgt, if_neg (by decide), List.nil_append]; exact a3
    · rw [hgt] at hgj
      have hut : us M j = true := by
        have : (us M j && inT t (pM M j)) = true := hgj.symm
        simp only [Bool.and_eq_true] at this
        exact this.1
      have htL : j ∈ L := (MT_in h).mpr ⟨by omega, hut⟩
      obtain ⟨M2, d1, d2, d3, d4, d5⟩ := goes_step h hk htL
      have ep2 : pM M2 = pM M := pM_sm d5 (by decide)
      obtain ⟨M', a1, a2, a3, a4, a5⟩ := ih n (j + 1) M2 _ _ (kdr k [pM M j]) d2 d3 (fun i h1 h2 => by
        rw [hg i (by omega) h2]
        unfold mkF
        rw [ep2, us_go d4 (by omega)]) (by omega) (by omega)
      have hLf : (L.filter (fun x => !decide (x = j))).filter (fun s => !(decide (j + 1 ≤ s) && g s)) = L.filter (fun s => !(decide (j ≤ s) && g s)) := by
        rw [List.filter_filter]
        apply List.filter_congr
        intro x _
        by_cases z : x = j
        · subst z; simp [hgt]
        · by_cases z2 : j ≤ x
          · simp [z, z2, show j + 1 ≤ x by omega]
          · simp [z, z2, show ¬ j + 1 ≤ x by omega]
      rw [hLf] at a2
      have hrw : raw M2 (L.filter (fun s => !(decide (j ≤ s) && g s))) (raw M (L.filter (fun x => !decide (x = j))) τ) = raw M (L.filter (fun s => !(decide (j ≤ s) && g s))) τ := by unfold raw; rw [ep2]
      rw [hrw] at a2
      refine ⟨M', by rw [e, hgt, if_pos rfl, d1, bd1_s]; exact a1, a2, ?_, fun x hx => by rw [a4 x (by omega), d4, if_neg (by omega)], same_tr d5 a5⟩
      rw [hfl, hgt, if_pos rfl, List.map_append, List.map_singleton]
      rw [kdr_app, ep2] at a3; exact a3
/-! the lowest of the marked ones -/
theorem lowM_4 {M : Mem} {L : List Nat} {τ : Tr} {B : Nat} (h : MT M L τ B) {mk : Nat → Bool} (h37 : ∀ j, j < 60 → M 37 j = b2i (mk j)) (hmk : ∀ j, j < 60 → mk j = true → j ∈ L) {s0 : Nat} (hs0 : s0 < 60) (hm0 : mk s0 = true) (hmin : ∀ j, j < 60 → mk j = true → rM M s0 ≤ rM M j) : ∀ (r n t : Nat) (x1 : Int32), t + r = 60 → r < n → ((x1 = -1 ∧ t ≤ s0) ∨ ∃ b, b < 60 ∧ mk b = true ∧ x1 = nI b ∧ (b = s0 ∨ t ≤ s0)) → f_X5_lowest_4 n M x1 (nI t) = some (nI s0, M) := by
  intro r
  induction r with
  | zero =>
    intro n t x1 ht hr hx
    obtain ⟨n, rfl⟩ : ∃ i, n = i + 1 := ⟨n - 1, by omega⟩
    have : t = 60 := by omega
    subst this
    have hx1 : x1 = nI s0 := by
      rcases hx with ⟨-, z⟩ | ⟨b, -, -, e, z | z⟩
      · omega
      · rw [e, z]
      · omega
    show f_X5_lowest_4B (f_X5_lowest_4 n) M x1 (nI 60) = _
    unfold f_X5_lowest_4B
    rw [if_pos (by decide), hx1]
  | succ r ih =>
    intro n t x1 ht hr hx
    obtain ⟨n, rfl⟩ : ∃ i, n = i + 1 := ⟨n - 1, by omega⟩
    show f_X5_lowest_4B (f_X5_lowest_4 n) M x1 (nI t) = _
    unfold f_X5_lowest_4B f_X5_lowest_38 f_X5_lowest_42 f_X5_lowest_43
    rw [if_neg (by rw [show (60 : Int32) = nI 60 from rfl, le' (by decide) (by omega)]; omega)]
    simp only [gi (show t < 60 by omega) (show 60 < 2147483648 by decide)]
    rw [cl' (show t < 2147483648 by omega), h37 t (by omega), nI_1]
    cases q : mk t
    · rw [if_pos (show b2i false = 0 from rfl)]
      have hts : t ≠ s0 := fun z => by rw [z, hm0] at q; exact absurd q (by decide)
      refine ih n (t + 1) x1 (by omega) (by omega) ?_
      rcases hx with ⟨z1, z2⟩ | ⟨b, z1, z2, z3, z4 | z4⟩
      · exact Or.inl ⟨z1, by omega⟩
      · exact Or.inr ⟨b, z1, z2, z3, Or.inl z4⟩
      · exact Or.inr ⟨b, z1, z2, z3, Or.inr (by omega)⟩
    · rw [if_neg (by decide)]
      rcases hx with ⟨z1, z2⟩ | ⟨b, z1, z2, z3, z4⟩
      · rw [z1, if_pos (by decide)]
        refine ih n (t + 1) (nI t) (by omega) (by omega) (Or.inr ⟨t, by omega, q, rfl, ?_⟩)
        by_cases w : t = s0
        · exact Or.inl w
        · exact Or.inr (by omega)
      · rw [z3, if_neg (nI_pos (by omega)), gi z1 (by decide), cl' (by omega)]
        have hr1 := MT_rk h (hmk b z1 z2) (hmk t (by omega) q)
        by_cases w : M 24 b ≤ M 24 t
        · rw [if_pos w]
          refine ih n (t + 1) (nI b) (by omega) (by omega) (Or.inr ⟨b, z1, z2, rfl, ?_⟩)
          rcases z4 with z4 | z4
          · exact Or.inl z4
          · by_cases w2 : t = s0
            · left
              rw [hr1, w2] at w
              exact MT_inj h (hmk b z1 z2) (hmk s0 hs0 hm0) (by have := hmin b z1 z2; omega)
            · exact Or.inr (by omega)
        · rw [if_neg w]
          refine ih n (t + 1) (nI t) (by omega) (by omega) (Or.inr ⟨t, by omega, q, rfl, ?_⟩)
          rcases z4 with z4 | z4
          · exfalso
            rw [hr1, z4] at w
            have := hmin t (by omega) q; omega
          · by_cases w2 : t = s0
            · exact Or.inl w2
            · exact Or.inr (by omega)
theorem lowM_no {M : Mem} {mk : Nat → Bool} (h37 : ∀ j, j < 60 → M 37 j = b2i (mk j)) (hmk : ∀ j, j < 60 → mk j = false) : ∀ (r n t : Nat), t + r = 60 → r < n → f_X5_lowest_4 n M (-1) (nI t) = some (-1, M) := by
  intro r
  induction r with
  | zero =>
    intro n t ht hr
    obtain ⟨n, rfl⟩ : ∃ i, n = i + 1 := ⟨n - 1, by omega⟩
    have : t = 60 := by omega
    subst this
    rfl
  | succ r ih =>
    intro n t ht hr
    obtain ⟨n, rfl⟩ : ∃ i, n = i + 1 := ⟨n - 1, by omega⟩
    show f_X5_lowest_4B (f_X5_lowest_4 n) M (-1) (nI t) = _
    unfold f_X5_lowest_4B f_X5_lowest_42 f_X5_lowest_43
    rw [if_neg (by rw [show (60 : Int32) = nI 60 from rfl, le' (by decide) (by omega)]; omega), gi (show t < 60 by omega) (by decide), cl' (show t < 2147483648 by omega), h37 t (by omega), hmk t (by omega), if_pos (show b2i false = 0 from rfl), nI_1]
    exact ih n (t + 1) (by omega) (by omega)
/-- the first marked one in the order of ranks -/
theorem lowest_cons {M : Mem} {L : List Nat} {τ : Tr} {B : Nat} (h : MT M L τ B) {mk : Nat → Bool} (h37 : ∀ j, j < 60 → M 37 j = b2i (mk j)) (hmk : ∀ j, j < 60 → mk j = true → j ∈ L) {s : Nat} {S : List Nat} (hS : L.filter mk = s :: S) : f_X5_lowest M = some (nI s, M) := by
  have hsm : s ∈ L.filter mk := by rw [hS]; simp
  obtain ⟨hsL, hms⟩ := List.mem_filter.mp hsm
  have hs60 := ((MT_in h).mp hsL).1
  unfold f_X5_lowest f_X5_lowest_0
  refine lowM_4 h h37 hmk hs60 hms (fun j hj hm => ?_) 60 64 0 (-1) (by omega) (by omega) (Or.inl ⟨rfl, by omega⟩)
  have hjS : j ∈ L.filter mk := List.mem_filter.mpr ⟨hmk j hj hm, hm⟩
  have hpw : (L.filter mk).Pairwise (fun a c => rM M a < rM M c) := List.Pairwise.filter _ h.2.2.2.2.2.2.1
  rw [hS] at hjS hpw
  rw [List.pairwise_cons] at hpw
  rcases List.mem_cons.mp hjS with z | z
  · rw [z]; omega
  · have := hpw.1 j z; omega
theorem lowest_nil {M : Mem} {L : List Nat} {mk : Nat → Bool} (h37 : ∀ j, j < 60 → M 37 j = b2i (mk j)) (hmk : ∀ j, j < 60 → mk j = true → j ∈ L) (hS : L.filter mk = []) : f_X5_lowest M = some (-1, M) := by
  unfold f_X5_lowest f_X5_lowest_0
  refine lowM_no h37 (fun j hj => ?_) 60 64 0 (by omega) (by omega)
  cases q : mk j
  · rfl
  · have : j ∈ L.filter mk := List.mem_filter.mpr ⟨hmk j hj q, q⟩
    rw [hS] at this
    exact absurd this (by simp)
def mvI (t x P : Int32) : Int32 := (t * P) + (x - x / P * P)
theorem mvI_eq {f t x : Nat} (hf : 0 < f) (hx : x ≤ 9999) (h : inT f x = true) : mvI (nI t) (nI x) (nI (pwr f x)) = nI (mvp f t x) ∧ ¬ nI (pwr f x) = 0 := by
  have hp : 0 < pwr f x ∧ pwr f x ≤ 1000 := by
    rcases pwr_cases hf hx h with ⟨_, e⟩ | ⟨_, e⟩ | ⟨_, e⟩ | ⟨_, e⟩ <;> omega
  have h2 := pk_rem (a := x) (d := pwr f x) (by omega) hp.1 (by omega)
  refine ⟨?_, by rw [ze (by omega)]; omega⟩
  unfold mvI mvp
  rw [h2, nI_mul, nI_add]
/-- copies, one by one -/
theorem carCopy_38 {f t : Nat} (hf : 0 < f) (ht : 0 < t) {g : Fn} : ∀ (S : List Nat) (n : Nat) (M : Mem) (L : List Nat) (mk : Nat → Bool) (a : List Nat) (B : Nat), MT M L (a, g) B → B + S.length ≤ 1000000 → L.filter mk = S → (∀ j, j < 60 → M 37 j = b2i (mk j)) → (∀ j, j < 60 → mk j = true → j ∈ L) → (∀ s ∈ S, inT f (pM M s) = true ∧ mvp f t (pM M s) ≤ 9999 ∧ mvp f t (pM M s) ∉ a ∧ td (a, g) (mvp f t (pM M s)) = td (a, g) (pM M s) ∧ tc (a, g) (mvp f t (pM M s)) = tc (a, g) (pM M s) ∧ tn (a, g) (mvp f t (pM M s)) = 0) → a.length + S.length ≤ 60 → S.length < n →
    ∃ M' L', bd2 (f_X5_lowest M) (fun r33 M33 => f_X5_carries_38 n M33 (nI f) (nI t) 0 r33) = some M' ∧ MT M' L' (a ++ (S.map (pM M)).map (mvp f t), g) (B + S.length) ∧ same M M' (fun t => (20 ≤ t ∧ t ≤ 26) ∨ t = 37) := by
  intro S
  induction S with
  | nil =>
    intro n M L mk a B h hB hS h37 hmk hs hl hn
    obtain ⟨n, rfl⟩ : ∃ i, n = i + 1 := ⟨n - 1, by omega⟩
    refine ⟨M, L, ?_, by simpa using h, same_rf _ _⟩
    rw [lowest_nil h37 hmk hS, bd2_s]
    show f_X5_carries_38B (f_X5_carries_38 n) M (nI f) (nI t) 0 (-1) = _
    unfold f_X5_carries_38B
    rw [if_pos (by decide)]
  | cons s S ih =>
    intro n M L mk a B h hB hS h37 hmk hs hl hn
    obtain ⟨n, rfl⟩ : ∃ i, n = i + 1 := ⟨n - 1, by omega⟩
    simp only [List.length_cons] at hB hl hn
    have hsm : s ∈ L.filter mk := by rw [hS]; simp
    obtain ⟨hsL, hms⟩ := List.mem_filter.mp hsm
    have hs60 := ((MT_in h).mp hsL).1
    obtain ⟨p1, p2, p3⟩ := h.2.1 s hsL
    obtain ⟨q1, q2, q3, q4, q5, q6⟩ := hs s (by simp)
    obtain ⟨d1, d2, d3, -⟩ := h.2.2.2.2.1 s hsL
    have hsm1 := same_mu M (P := fun t => t = 37) s 0 rfl
    have hM1 : MT (mu M 37 s 0) L (a, g) B := MT_cong h (fun t' _ _ => hsm1 t' (by omega))
    have hal : (ta ((a, g) : Tr)).length < 60 := by show a.length < 60; omega
    have hpos := mvp_pos hf ht p3 q1
    have hk12 : td ((a, g) : Tr) (pM M s) = 1 ∨ td ((a, g) : Tr) (pM M s) = 2 := by rw [← d1]; exact d2.1
    obtain ⟨s', b1, b2, b3, b4, b5⟩ := makesM hM1 (by omega) hal ⟨hpos, q2⟩ q3 hk12 (ct := tc ((a, g) : Tr) (pM M s)) d2.2.1
    rw [tput_eq q4 q5 q6] at b5
    have hsm2 : same M (MK (mu M 37 s 0) s' (nI (mvp f t (pM M s))) (td ((a, g) : Tr) (pM M s)) (tc ((a, g) : Tr) (pM M s))) (fun t => (20 ≤ t ∧ t ≤ 26) ∨ t = 37) := fun t' ht' => by rw [MK_ne _ _ _ _ _ (by omega), mu_ne _ _ _ (by omega)]
    have hpm : ∀ x ∈ L, pM (MK (mu M 37 s 0) s' (nI (mvp f t (pM M s))) (td ((a, g) : Tr) (pM M s)) (tc ((a, g) : Tr) (pM M s))) x = pM M x := fun x hx => by
      have hxs : x ≠ s' := fun z => b2 (z ▸ hx)
      show (MK (mu M 37 s 0) s' (nI (mvp f t (pM M s))) (td ((a, g) : Tr) (pM M s)) (tc ((a, g) : Tr) (pM M s)) 21 x).toNatClampNeg = (M 21 x).toNatClampNeg
      rw [(MK_at _ _ _ _ _ x).2.1, if_neg hxs, mu_at _ _ _ (by decide)]
    have h37' : ∀ j, MK (mu M 37 s 0) s' (nI (mvp f t (pM M s))) (td ((a, g) : Tr) (pM M s)) (tc ((a, g) : Tr) (pM M s)) 37 j = if j = s then 0 else M 37 j := fun j => by rw [MK_ne _ _ _ _ _ (by omega), mu_x]
    have hun : bd2 (f_X5_lowest M) (fun r33 M33 => f_X5_carries_38 (n + 1) M33 (nI f) (nI t) 0 r33) = bd2 (f_X5_lowest (MK (mu M 37 s 0) s' (nI (mvp f t (pM M s))) (td ((a, g) : Tr) (pM M s)) (tc ((a, g) : Tr) (pM M s)))) (fun r33 M33 => f_X5_carries_38 n M33 (nI f) (nI t) 0 r33) := by
      rw [lowest_cons h h37 hmk hS, bd2_s]
      show f_X5_carries_38B (f_X5_carries_38 n) M (nI f) (nI t) 0 (nI s) = _
      unfold f_X5_carries_38B f_X5_carries_153
      rw [if_neg (nI_pos (by omega))]
      simp only [gi hs60 (show 60 < 2147483648 by decide)]
      rw [cl' (show s < 2147483648 by omega), show (0 : Int32) &&& 1 = 0 from rfl, mu_at _ _ _ (show 21 ≠ 37 by decide), p1, (powerM _ hf p3 q1).1, bd2_s, if_neg (mvI_eq (t := t) hf p3 q1).2, if_pos True.intro, mu_at _ _ _ (show 21 ≠ 37 by decide), mu_at _ _ _ (show 22 ≠ 37 by decide), mu_at _ _ _ (show 23 ≠ 37 by decide), p1, d1, d3]
      have e := (mvI_eq (t := t) hf p3 q1).1
      unfold mvI at e
      rw [e, b3, bd2_s]
    rw [hun]
    generalize MK (mu M 37 s 0) s' (nI (mvp f t (pM M s))) (td ((a, g) : Tr) (pM M s)) (tc ((a, g) : Tr) (pM M s)) = M1 at b5 hsm2 hpm h37'
    have hmS : ∀ x ∈ S, mk x = true ∧ x ∈ L ∧ x ≠ s := fun x hx => by
      have hxm : x ∈ L.filter mk := by rw [hS]; simp [hx]
      obtain ⟨z1, z2⟩ := List.mem_filter.mp hxm
      refine ⟨z2, z1, fun z => ?_⟩
      have hnd : (L.filter mk).Nodup := List.Pairwise.filter _ (MT_ndL h)
      rw [hS, List.nodup_cons] at hnd
      exact hnd.1 (z ▸ hx)
    have hS' : (L ++ [s']).filter (fun j => mk j && !decide (j = s)) = S := by
      have hms' : mk s' = false := by
        cases q : mk s'
        · rfl
        · exact absurd (hmk s' b1 q) b2
      rw [List.filter_append, List.filter_cons_of_neg (by simp [hms']), List.filter_nil, List.append_nil]
      have : L.filter (fun j => mk j && !decide (j = s)) = (L.filter mk).filter (fun j => !decide (j = s)) := by
        rw [List.filter_filter]
        congr 1
        funext j
        exact Bool.and_comm _ _
      rw [this, hS, List.filter_cons_of_neg (by simp), List.filter_eq_self]
      intro x hx
      have := (hmS x hx).2.2
      simp [this]
    obtain ⟨M', L', a1, a2, a3⟩ := ih n M1 (L ++ [s']) (fun j => mk j && !decide (j = s)) (a ++ [mvp f t (pM M s)]) (B + 1) b5 (by omega) hS' (fun j hj => by
      rw [h37']
      by_cases z : j = s
      · rw [if_pos z]; simp [z, b2i]
      · rw [if_neg z, h37 j hj]; simp [z]) (fun j hj hm => by
      simp only [Bool.and_eq_true] at hm
      have := hmk j hj hm.1
      simp [this]) (fun x hx => by
      obtain ⟨z1, z2, z3⟩ := hmS x hx
      obtain ⟨w1, w2, w3, w4, w5, w6⟩ := hs x (by simp [hx])
      rw [hpm x z2]
      refine ⟨w1, w2, ?_, w4, w5, w6⟩
      rw [List.mem_append, List.mem_singleton]
      rintro (z | z)
      · exact w3 z
      · have := mvp_inj hf ht (h.2.1 x z2).2.2 p3 w1 q1 z
        exact z3 (nodup_inj (MT_nd h) z2 hsL this)) (by simp; omega) (by omega)
    refine ⟨M', L', a1, ?_, same_tr hsm2 a3⟩
    have hmap : S.map (pM M1) = S.map (pM M) := List.map_congr_left (fun x hx => hpm x (hmS x hx).2.1)
    rw [hmap] at a2
    rw [List.map_cons, List.map_cons, List.length_cons, show B + (S.length + 1) = B + 1 + S.length by omega]
    have : a ++ mvp f t (pM M s) :: (S.map (pM M)).map (mvp f t) = (a ++ [mvp f t (pM M s)]) ++ (S.map (pM M)).map (mvp f t) := by simp
    rw [this]
    exact a2

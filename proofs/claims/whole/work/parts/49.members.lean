/-! ===== members ===== -/
theorem plus0 (a : Nat) : nI a + 0 = nI a := by rw [show (0 : Int32) = nI 0 from rfl, nI_add]; rfl
theorem memberCountC_4 {M : Mem} {sp : List Nat} {τ : Tr} {q : Nat} (hq : q ≤ 9999) : ∀ (L2 L1 : List Nat) (n a : Nat), TC M (L1 ++ L2) sp τ → L2.length < n → f_X3_memberCount_4 n M (nI q) (nI a) (nI L1.length) = some (nI (a + L2.countP (fun r => par q (pC M r))), M) := by
  intro L2
  induction L2 with
  | nil =>
    intro L1 n a h hn
    obtain ⟨n, rfl⟩ : ∃ j, n = j + 1 := ⟨n - 1, by omega⟩
    show f_X3_memberCount_4B (f_X3_memberCount_4 n) M (nI q) (nI a) (nI L1.length) = _
    unfold f_X3_memberCount_4B
    rw [h.1.1, List.append_nil]
    have := IC_len h.1
    rw [List.append_nil] at this
    simp only [le' (show L1.length < 2147483648 by omega) (show L1.length < 2147483648 by omega)]
    rw [if_pos (Nat.le_refl _)]
    rfl
  | cons r L2 ih =>
    intro L1 n a h hn
    obtain ⟨n, rfl⟩ : ∃ j, n = j + 1 := ⟨n - 1, by simp at hn; omega⟩
    obtain ⟨h1, h2, h3, h4, h5, h6, h7, h8, h9⟩ := TC_at h
    have e1 := ih (L1 ++ [r]) n a (by simpa using h) (by simp at hn; omega)
    have e2 := ih (L1 ++ [r]) n (a + 1) (by simpa using h) (by simp at hn; omega)
    show f_X3_memberCount_4B (f_X3_memberCount_4 n) M (nI q) (nI a) (nI L1.length) = _
    unfold f_X3_memberCount_4B f_X3_memberCount_40
    rw [h7]
    simp only [le' (show (L1 ++ r :: L2).length < 2147483648 by omega) (show L1.length < 2147483648 by omega)]
    rw [if_neg (by omega), g60 h3, gi h3 (by decide), cl' (by omega), h1, if_neg (by omega), h4, parentC M h6, bd2_s, step1 L1 r, nI_1, e1, e2, List.countP_cons]
    simp only [eq' (show pC M r / 10 < 2147483648 by omega) (show q < 2147483648 by omega)]
    unfold par
    by_cases z : pC M r / 10 = q
    · rw [if_pos z]; simp [z, Nat.add_comm, Nat.add_left_comm, Nat.add_assoc]
    · rw [if_neg z]; simp [z]
theorem memberCountC {M : Mem} {L sp : List Nat} {τ : Tr} (h : TC M L sp τ) {q : Nat} (hq : q ≤ 9999) : f_X3_memberCount M (nI q) = some (nI ((ta τ).filter (par q)).length, M) := by
  unfold f_X3_memberCount f_X3_memberCount_0
  have := IC_len h.1
  have e := memberCountC_4 hq L [] 64 0 h (by omega)
  rw [Nat.zero_add, ← filter_map_len (pC M) (par q), h.2.2.1 q] at e
  exact e
theorem st_members {M : Mem} {L sp Lm : List Nat} {τ : Tr} {k : Lk} {F G : List Nat} {B : Nat} (h : Iv M L sp Lm τ k F G B) (x : Int32) : ∃ M2, agree M M2 (fun m => f_L_members m x) (fun m => f_X5_members m x) ∧ Iv M2 L sp Lm τ k F G B := by
  cases hv : vpb x
  · refine ⟨mu M 39 0 1, ag_T (q := 1) (v := 0) (M1 := M) (wT_members_A (M1 := M) ?_) ?_ (at39 _ _) (by decide), Iv_mu h (by decide) _ _⟩
    · unfold f_X4_members f_X4_members_0
      rw [reqPathC, hv]; rfl
    · show f_X5_members M x = _
      unfold f_X5_members f_X5_members_0
      rw [asksM, hv]; rfl
  · obtain ⟨p, hp, rfl⟩ := vpb_of hv
    have h40 := Iv_mu h (t := 40) (by decide) 0 (nI ((ta τ).filter (par p)).length)
    have h39 := Iv_mu h40 (t := 39) (by decide) 0 0
    refine ⟨_, ag_R (v := nI ((ta τ).filter (par p)).length) (M1 := M) (wR_members ?_) ?_ (at39 _ _) (at40 _ _ _), h39⟩
    · unfold f_X4_members f_X4_members_0
      rw [reqPathC, hv, un_t, bdx_s, memberCountC h.1 hp]; rfl
    · show f_X5_members _ _ = _
      unfold f_X5_members f_X5_members_0
      rw [asksM, hv, bd2_s, if_neg (by decide), show thr true = 0 from rfl, membersOfM h39.2.1 hp]; rfl
theorem nth_split (f : Nat → Nat) (g : Nat → Bool) : ∀ (l : List Nat) (w p : Nat), ((l.map f).filter g)[w]? = some p → ∃ A r R, l = A ++ r :: R ∧ f r = p ∧ g p = true ∧ A.countP (fun x => g (f x)) = w
  | [], w, p, h => by simp at h
  | x :: l, w, p, h => by
    cases q : g (f x)
    · rw [List.map_cons, List.filter_cons_of_neg (by simp [q])] at h
      obtain ⟨A, r, R, e1, e2, e3, e4⟩ := nth_split f g l w p h
      exact ⟨x :: A, r, R, by rw [e1]; rfl, e2, e3, by rw [List.countP_cons, e4]; simp [q]⟩
    · rw [List.map_cons, List.filter_cons_of_pos q] at h
      cases w with
      | zero => simp at h; exact ⟨[], x, l, rfl, h, by rw [← h]; exact q, rfl⟩
      | succ w =>
        simp only [List.getElem?_cons_succ] at h
        obtain ⟨A, r, R, e1, e2, e3, e4⟩ := nth_split f g l w p h
        exact ⟨x :: A, r, R, by rw [e1]; rfl, e2, e3, by rw [List.countP_cons, e4]; simp [q]⟩
theorem memberIndexC_yes {M : Mem} {sp : List Nat} {τ : Tr} {q w r0 : Nat} (hq : q ≤ 9999) (hw : w ≤ 60) (hr0 : par q (pC M r0) = true) (R0 : List Nat) : ∀ (L2 L1 : List Nat) (n a : Nat), TC M (L1 ++ L2 ++ r0 :: R0) sp τ → L2.length < n → a + L2.countP (fun r => par q (pC M r)) = w → f_X3_memberIndex_5 n M (nI q) (nI w) (nI a) (nI L1.length) = some (nI (L1 ++ L2).length, M) := by
  intro L2
  induction L2 with
  | nil =>
    intro L1 n a h hn hc
    obtain ⟨n, rfl⟩ : ∃ j, n = j + 1 := ⟨n - 1, by omega⟩
    rw [List.append_nil] at h
    obtain ⟨h1, h2, h3, h4, h5, h6, h7, h8, h9⟩ := TC_at h
    show f_X3_memberIndex_5B (f_X3_memberIndex_5 n) M (nI q) (nI w) (nI a) (nI L1.length) = _
    unfold f_X3_memberIndex_5B
    rw [h7]
    simp only [le' (show (L1 ++ r0 :: R0).length < 2147483648 by omega) (show L1.length < 2147483648 by omega)]
    have hr0 : pC M r0 / 10 = q := by simpa [par] using hr0
    have hc : a = w := by simpa using hc
    rw [if_neg (by omega), g60 h3, gi h3 (by decide), cl' (by omega), h1, if_neg (by omega), h4, parentC M h6, bd2_s, hr0, if_pos rfl, hc, if_pos rfl, List.append_nil]
  | cons r L2 ih =>
    intro L1 n a h hn hc
    obtain ⟨n, rfl⟩ : ∃ j, n = j + 1 := ⟨n - 1, by simp at hn; omega⟩
    have h' : TC M (L1 ++ r :: (L2 ++ r0 :: R0)) sp τ := by simpa using h
    obtain ⟨h1, h2, h3, h4, h5, h6, h7, h8, h9⟩ := TC_at h'
    show f_X3_memberIndex_5B (f_X3_memberIndex_5 n) M (nI q) (nI w) (nI a) (nI L1.length) = _
    unfold f_X3_memberIndex_5B f_X3_memberIndex_52
    rw [h7]
    simp only [le' (show (L1 ++ r :: (L2 ++ r0 :: R0)).length < 2147483648 by omega) (show L1.length < 2147483648 by omega)]
    rw [if_neg (by omega), g60 h3, gi h3 (by decide), cl' (by omega), h1, if_neg (by omega), h4, parentC M h6, bd2_s, step1 L1 r, nI_1]
    rw [List.countP_cons] at hc
    by_cases z : pC M r / 10 = q
    · have zp : par q (pC M r) = true := by simp [par, z]
      rw [zp, if_pos rfl] at hc
      have := ih (L1 ++ [r]) n (a + 1) (by simpa using h) (by simp at hn; omega) (by omega)
      rw [if_pos (by rw [z]), if_neg (by rw [eq' (by omega) (by omega)]; omega), this]
      simp
    · have zp : par q (pC M r) = false := by simp [par, z]
      rw [zp] at hc
      have := ih (L1 ++ [r]) n a (by simpa using h) (by simp at hn; omega) (by simpa using hc)
      rw [if_neg (by rw [eq' (by omega) (by omega)]; exact z), this]
      simp
theorem memberIndexC_no {M : Mem} {sp : List Nat} {τ : Tr} {q : Nat} {x : Int32} (hq : q ≤ 9999) : ∀ (L2 L1 : List Nat) (n a : Nat), TC M (L1 ++ L2) sp τ → L2.length < n → (∀ j, a ≤ j → j < a + L2.countP (fun r => par q (pC M r)) → x ≠ nI j) → f_X3_memberIndex_5 n M (nI q) x (nI a) (nI L1.length) = some (-1, M) := by
  intro L2
  induction L2 with
  | nil =>
    intro L1 n a h hn hc
    obtain ⟨n, rfl⟩ : ∃ j, n = j + 1 := ⟨n - 1, by omega⟩
    show f_X3_memberIndex_5B (f_X3_memberIndex_5 n) M (nI q) x (nI a) (nI L1.length) = _
    unfold f_X3_memberIndex_5B
    rw [h.1.1, List.append_nil]
    have := IC_len h.1
    rw [List.append_nil] at this
    simp only [le' (show L1.length < 2147483648 by omega) (show L1.length < 2147483648 by omega)]
    rw [if_pos (Nat.le_refl _)]
  | cons r L2 ih =>
    intro L1 n a h hn hc
    obtain ⟨n, rfl⟩ : ∃ j, n = j + 1 := ⟨n - 1, by simp at hn; omega⟩
    obtain ⟨h1, h2, h3, h4, h5, h6, h7, h8, h9⟩ := TC_at h
    show f_X3_memberIndex_5B (f_X3_memberIndex_5 n) M (nI q) x (nI a) (nI L1.length) = _
    unfold f_X3_memberIndex_5B f_X3_memberIndex_52
    rw [h7]
    simp only [le' (show (L1 ++ r :: L2).length < 2147483648 by omega) (show L1.length < 2147483648 by omega)]
    rw [if_neg (by omega), g60 h3, gi h3 (by decide), cl' (by omega), h1, if_neg (by omega), h4, parentC M h6, bd2_s, step1 L1 r, nI_1]
    rw [List.countP_cons] at hc
    by_cases z : pC M r / 10 = q
    · have zp : par q (pC M r) = true := by simp [par, z]
      rw [zp, if_pos rfl] at hc
      rw [if_pos (by rw [z]), if_neg (fun e => hc a (Nat.le_refl _) (by omega) e.symm)]
      exact ih (L1 ++ [r]) n (a + 1) (by simpa using h) (by simp at hn; omega) (fun j g1 g2 => hc j (by omega) (by omega))
    · have zp : par q (pC M r) = false := by simp [par, z]
      rw [zp] at hc
      rw [if_neg (by rw [eq' (by omega) (by omega)]; exact z)]
      exact ih (L1 ++ [r]) n a (by simpa using h) (by simp at hn; omega) (fun j g1 g2 => hc j g1 (by simpa using g2))
/-! the reference's -/
def lowr (M : Mem) (q s i : Nat) : Bool := us M i && (par q (pM M i) && !decide (M 24 s ≤ M 24 i))
theorem lowr_e (M : Mem) (q s i : Nat) : lowr M q s i = (us M i && (par q (pM M i) && !decide (M 24 s ≤ M 24 i))) := rfl
def lowc (M : Mem) (q s : Nat) : Nat := (List.range' 0 60).countP (lowr M q s)
def hit (M : Mem) (q : Nat) (x : Int32) (s : Nat) : Bool := us M s && (par q (pM M s) && decide (nI (lowc M q s) = x))
theorem hit_e (M : Mem) (q : Nat) (x : Int32) (s : Nat) : hit M q x s = (us M s && (par q (pM M s) && decide (nI (lowc M q s) = x))) := rfl
theorem memberOfM_18 {M : Mem} {L : List Nat} {τ : Tr} {B : Nat} (h : MT M L τ B) {q : Nat} (hq : q ≤ 9999) (K5 : Mem → Int32 → Int32 → Int32 → Int32 → Option (Int32 × Mem)) (x x3 : Int32) {s : Nat} (hs : s < 60) : ∀ (r n t a : Nat), t + r = 60 → r < n → a + (List.range' t r).countP (lowr M q s) = lowc M q s → f_X5_memberOf_18 K5 n M (nI q) x x3 (nI s) (nI a) (nI t) = K5 M (nI q) x (if hit M q x s then nI s else x3) (nI (s + 1)) := by
  intro r
  induction r with
  | zero =>
    intro n t a ht hr hc
    obtain ⟨n, rfl⟩ : ∃ j, n = j + 1 := ⟨n - 1, by omega⟩
    have : t = 60 := by omega
    subst this
    have hc : a = lowc M q s := by simpa using hc
    show f_X5_memberOf_18B K5 (f_X5_memberOf_18 K5 n) M (nI q) x x3 (nI s) (nI a) (nI 60) = _
    unfold f_X5_memberOf_18B f_X5_memberOf_89 f_X5_memberOf_90
    rw [if_pos (by decide), isMemberM h hs hq, bd2_s, hc, hit_e, nI_1]
    simp only [b2i_0]
    cases us M s <;> cases par q (pM M s) <;> by_cases z : nI (lowc M q s) = x <;> simp [z]
  | succ r ih =>
    intro n t a ht hr hc
    obtain ⟨n, rfl⟩ : ∃ j, n = j + 1 := ⟨n - 1, by omega⟩
    rw [List.range'_succ, List.countP_cons, lowr_e] at hc
    show f_X5_memberOf_18B K5 (f_X5_memberOf_18 K5 n) M (nI q) x x3 (nI s) (nI a) (nI t) = _
    unfold f_X5_memberOf_18B f_X5_memberOf_58 f_X5_memberOf_59
    rw [if_neg (by rw [show (60 : Int32) = nI 60 from rfl, le' (by decide) (by omega)]; omega), isMemberM h (show t < 60 by omega) hq, bd2_s, gi (show t < 60 by omega) (by decide), gi hs (by decide), cl' (show t < 2147483648 by omega), cl' (show s < 2147483648 by omega), nI_1, nI_1, plus0]
    simp only [b2i_0]
    cases g1 : (us M t && par q (pM M t))
    · rw [if_pos rfl]
      refine ih n (t + 1) a (by omega) (by omega) ?_
      rw [← hc, ← Bool.and_assoc, g1]; simp
    · rw [if_neg (by decide)]
      rw [← Bool.and_assoc, g1, Bool.true_and] at hc
      by_cases g2 : M 24 s ≤ M 24 t
      · rw [if_pos g2]
        refine ih n (t + 1) a (by omega) (by omega) ?_
        rw [← hc]; simp [g2]
      · rw [if_neg g2]
        refine ih n (t + 1) (a + 1) (by omega) (by omega) ?_
        rw [← hc]; simp [g2, Nat.add_comm, Nat.add_left_comm, Nat.add_assoc]
theorem memberOfM_5s {M : Mem} {L : List Nat} {τ : Tr} {B : Nat} (h : MT M L τ B) {q : Nat} (hq : q ≤ 9999) (x x3 : Int32) {s : Nat} (hs : s < 60) (n : Nat) : f_X5_memberOf_5 (n + 1) M (nI q) x x3 (nI s) = f_X5_memberOf_5 n M (nI q) x (if hit M q x s then nI s else x3) (nI (s + 1)) := by
  show f_X5_memberOf_5B (f_X5_memberOf_5 n) M (nI q) x x3 (nI s) = _
  unfold f_X5_memberOf_5B
  rw [if_neg (by rw [show (60 : Int32) = nI 60 from rfl, le' (by decide) (by omega)]; omega)]
  exact memberOfM_18 h hq (f_X5_memberOf_5 n) x x3 hs 60 64 0 0 (by omega) (by omega) (by unfold lowc; omega)
theorem memberOfM_no {M : Mem} {L : List Nat} {τ : Tr} {B : Nat} (h : MT M L τ B) {q : Nat} (hq : q ≤ 9999) (x : Int32) : ∀ (r n t : Nat) (x3 : Int32), t + r = 60 → r < n → (∀ s, t ≤ s → s < 60 → hit M q x s = false) → f_X5_memberOf_5 n M (nI q) x x3 (nI t) = some (x3, M) := by
  intro r
  induction r with
  | zero =>
    intro n t x3 ht hr _
    obtain ⟨n, rfl⟩ : ∃ j, n = j + 1 := ⟨n - 1, by omega⟩
    have : t = 60 := by omega
    subst this
    rfl
  | succ r ih =>
    intro n t x3 ht hr hh
    obtain ⟨n, rfl⟩ : ∃ j, n = j + 1 := ⟨n - 1, by omega⟩
    rw [memberOfM_5s h hq x x3 (show t < 60 by omega), hh t (Nat.le_refl _) (by omega), if_neg (by decide)]
    exact ih n (t + 1) x3 (by omega) (by omega) (fun s h1 h2 => hh s (by omega) h2)
theorem memberOfM_yes {M : Mem} {L : List Nat} {τ : Tr} {B : Nat} (h : MT M L τ B) {q : Nat} (hq : q ≤ 9999) (x : Int32) {s0 : Nat} (hs0 : s0 < 60) (hh0 : hit M q x s0 = true) (hun : ∀ s, s < 60 → hit M q x s = true → s = s0) : ∀ (r n t : Nat) (x3 : Int32), t + r = 60 → r < n → t ≤ s0 → f_X5_memberOf_5 n M (nI q) x x3 (nI t) = some (nI s0, M) := by
  intro r
  induction r with
  | zero => intro n t x3 ht hr hle; omega
  | succ r ih =>
    intro n t x3 ht hr hle
    obtain ⟨n, rfl⟩ : ∃ j, n = j + 1 := ⟨n - 1, by omega⟩
    rw [memberOfM_5s h hq x x3 (show t < 60 by omega)]
    by_cases z : t = s0
    · subst z
      rw [hh0, if_pos rfl]
      exact memberOfM_no h hq x r n (t + 1) (nI t) (by omega) (by omega) (fun s h1 h2 => by
        cases w : hit M q x s
        · rfl
        · have := hun s h2 w; omega)
    · exact ih n (t + 1) _ (by omega) (by omega) (by omega)
theorem countP_lt {f g : Nat → Bool} : ∀ {l : List Nat} {s : Nat}, (∀ x ∈ l, f x = true → g x = true) → s ∈ l → g s = true → f s = false → l.countP f < l.countP g
  | x :: l, s, hi, hs, h1, h2 => by
    rw [List.countP_cons, List.countP_cons]
    have hle : l.countP f ≤ l.countP g := List.countP_mono_left (fun y hy => hi y (by simp [hy]))
    rcases List.mem_cons.mp hs with z | z
    · subst z
      rw [h1, h2]; simp; omega
    · have := countP_lt (fun y hy => hi y (by simp [hy])) z h1 h2
      have h3 := hi x (by simp)
      cases w : f x
      · simp; cases g x <;> simp <;> omega
      · rw [h3 w]; simp; omega
theorem MT_rk {M : Mem} {L : List Nat} {τ : Tr} {B : Nat} (h : MT M L τ B) {s i : Nat} (hs : s ∈ L) (hi : i ∈ L) : (M 24 s ≤ M 24 i) = (rM M s ≤ rM M i) := by
  obtain ⟨h1, h2, h3, h4, h5, h6, h7, h8, h9, h10⟩ := h
  obtain ⟨a1, a2⟩ := h6 s hs
  obtain ⟨b1, b2⟩ := h6 i hi
  rw [a1, b1, le' (by omega) (by omega)]
def loL (M : Mem) (q s i : Nat) : Bool := par q (pM M i) && decide (rM M i < rM M s)
theorem lowc_L {M : Mem} {L : List Nat} {τ : Tr} {B : Nat} (h : MT M L τ B) (q : Nat) {s : Nat} (hs : s ∈ L) : lowc M q s = L.countP (loL M q s) := by
  have e := MT_cnt h (fun i => par q (pM M i) && !decide (M 24 s ≤ M 24 i))
  have e2 : lowc M q s = L.countP (fun i => par q (pM M i) && !decide (M 24 s ≤ M 24 i)) := e
  rw [e2]
  apply List.countP_congr
  intro i hi
  unfold loL
  simp only [MT_rk h hs hi]
  have : (!decide (rM M s ≤ rM M i)) = decide (rM M i < rM M s) := by
    by_cases z : rM M s ≤ rM M i
    · simp [z]
    · simp [z, show rM M i < rM M s by omega]
  rw [this]
theorem lowc_split {M : Mem} {A R : List Nat} {s : Nat} {τ : Tr} {B : Nat} (h : MT M (A ++ s :: R) τ B) (q : Nat) : lowc M q s = A.countP (fun i => par q (pM M i)) := by
  rw [lowc_L h q (by simp), List.countP_append, List.countP_cons]
  have hp := h.2.2.2.2.2.2.1
  rw [List.pairwise_append, List.pairwise_cons] at hp
  have e1 : A.countP (loL M q s) = A.countP (fun i => par q (pM M i)) := List.countP_congr (fun i hi => by
    have := hp.2.2 i hi s (by simp)
    simp [loL, this])
  have e2 : R.countP (loL M q s) = 0 := List.countP_eq_zero.mpr (fun i hi => by
    have := hp.2.1.1 i hi
    simp [loL]; intro _; omega)
  rw [e1, e2]
  simp [loL]
theorem MT_inj {M : Mem} {L : List Nat} {τ : Tr} {B : Nat} (h : MT M L τ B) {s i : Nat} (hs : s ∈ L) (hi : i ∈ L) (e : rM M s = rM M i) : s = i := by
  refine nodup_inj (f := rM M) (l := L) ?_ hs hi e
  rw [List.Nodup, List.pairwise_map]
  exact h.2.2.2.2.2.2.1.imp (fun z => by omega)
theorem hit_uniq {M : Mem} {L : List Nat} {τ : Tr} {B : Nat} (h : MT M L τ B) {q : Nat} {x : Int32} {s i : Nat} (hs : s < 60) (hi : i < 60) (h1 : hit M q x s = true) (h2 : hit M q x i = true) : s = i := by
  rw [hit_e] at h1 h2
  simp only [Bool.and_eq_true, decide_eq_true_eq] at h1 h2
  have m1 := (MT_in h).mpr ⟨hs, h1.1⟩
  have m2 := (MT_in h).mpr ⟨hi, h2.1⟩
  have hL : L.length ≤ 60 := by
    have := h.1.length_eq
    rw [this]
    exact Nat.le_trans (List.length_filter_le _ _) (by rw [List.length_range']; omega)
  have b : ∀ j, L.countP (loL M q j) < 2147483648 := fun j => by have := List.countP_le_length (p := loL M q j) (l := L); omega
  have e : L.countP (loL M q s) = L.countP (loL M q i) := by
    have := h1.2.2.trans h2.2.2.symm
    rw [lowc_L h q m1, lowc_L h q m2, eq' (b s) (b i)] at this
    exact this
  apply MT_inj h m1 m2
  rcases Nat.lt_trichotomy (rM M s) (rM M i) with z | z | z
  · have := countP_lt (f := loL M q s) (g := loL M q i) (l := L) (s := s) (fun y _ hy => by
      simp only [loL, Bool.and_eq_true, decide_eq_true_eq] at hy ⊢
      exact ⟨hy.1, by omega⟩) m1 (by simp [loL, h1.2.1, z]) (by simp [loL])
    omega
  · exact z
  · have := countP_lt (f := loL M q i) (g := loL M q s) (l := L) (s := i) (fun y _ hy => by
      simp only [loL, Bool.and_eq_true, decide_eq_true_eq] at hy ⊢
      exact ⟨hy.1, by omega⟩) m2 (by simp [loL, h2.2.1, z]) (by simp [loL])
    omega
theorem memberOf_yes {M : Mem} {A R : List Nat} {s : Nat} {τ : Tr} {B : Nat} (h : MT M (A ++ s :: R) τ B) {q : Nat} (hq : q ≤ 9999) (hp : par q (pM M s) = true) : f_X5_memberOf M (nI q) (nI (A.countP (fun i => par q (pM M i)))) = some (nI s, M) := by
  unfold f_X5_memberOf f_X5_memberOf_0
  obtain ⟨g1, g2⟩ := (MT_in h).mp (show s ∈ A ++ s :: R by simp)
  have hh : hit M q (nI (A.countP (fun i => par q (pM M i)))) s = true := by rw [hit_e, lowc_split h q, g2, hp]; simp
  exact memberOfM_yes h hq _ g1 hh (fun i hi hz => hit_uniq h hi g1 hz hh) 60 64 0 (-1) (by omega) (by omega) (by omega)
theorem memberOf_no {M : Mem} {L : List Nat} {τ : Tr} {B : Nat} (h : MT M L τ B) {q : Nat} (hq : q ≤ 9999) {x : Int32} (hx : ∀ w, w < ((ta τ).filter (par q)).length → x ≠ nI w) : f_X5_memberOf M (nI q) x = some (-1, M) := by
  unfold f_X5_memberOf f_X5_memberOf_0
  refine memberOfM_no h hq x 60 64 0 (-1) (by omega) (by omega) (fun s _ hs => ?_)
  cases w : hit M q x s
  · rfl
  · exfalso
    rw [hit_e] at w
    simp only [Bool.and_eq_true, decide_eq_true_eq] at w
    have m1 := (MT_in h).mpr ⟨hs, w.1⟩
    have := countP_lt (f := loL M q s) (g := fun i => par q (pM M i)) (l := L) (s := s) (fun y _ hy => by
      simp only [loL, Bool.and_eq_true] at hy; exact hy.1) m1 w.2.1 (by simp [loL])
    refine hx (lowc M q s) ?_ w.2.2.symm
    rw [← h.2.2.1 q, filter_map_len, lowc_L h q m1]
    exact this
theorem memberIndex_no {M : Mem} {L sp : List Nat} {τ : Tr} (h : TC M L sp τ) {q : Nat} (hq : q ≤ 9999) {x : Int32} (hx : ∀ w, w < ((ta τ).filter (par q)).length → x ≠ nI w) : f_X3_memberIndex M (nI q) x = some (-1, M) := by
  unfold f_X3_memberIndex f_X3_memberIndex_0
  have := IC_len h.1
  refine memberIndexC_no hq L [] 64 0 h (by omega) (fun j _ hj => hx j ?_)
  rw [← h.2.2.1 q, filter_map_len]
  omega
theorem memberIndex_yes {M : Mem} {L1 L2 sp : List Nat} {r : Nat} {τ : Tr} (h : TC M (L1 ++ r :: L2) sp τ) {q : Nat} (hq : q ≤ 9999) (hp : par q (pC M r) = true) : f_X3_memberIndex M (nI q) (nI (L1.countP (fun r => par q (pC M r)))) = some (nI L1.length, M) := by
  unfold f_X3_memberIndex f_X3_memberIndex_0
  have := IC_len h.1
  have hl : L1.length ≤ 60 := by simp at this; omega
  have hc := List.countP_le_length (p := fun r => par q (pC M r)) (l := L1)
  exact memberIndexC_yes hq (by omega) hp L2 L1 [] 64 0 (by simpa using h) (by omega) (by omega)
theorem st_memberAt {M : Mem} {L sp Lm : List Nat} {τ : Tr} {k : Lk} {F G : List Nat} {B : Nat} (h : Iv M L sp Lm τ k F G B) (x y : Int32) : ∃ M2, agree M M2 (fun m => f_L_memberAt m x y) (fun m => f_X5_memberAt m x y) ∧ Iv M2 L sp Lm τ k F G B := by
  cases hv : vpb x
  · refine ⟨mu M 39 0 1, ag_T (q := 1) (v := 0) (M1 := M) (wT_memberAt_A (M1 := M) ?_) ?_ (at39 _ _) (by decide), Iv_mu h (by decide) _ _⟩
    · unfold f_X4_memberAt f_X4_memberAt_0
      rw [reqPathC, hv]; rfl
    · show f_X5_memberAt M x y = _
      unfold f_X5_memberAt f_X5_memberAt_0
      rw [asksM, hv]; rfl
  · obtain ⟨q, hq, rfl⟩ := vpb_of hv
    by_cases hx : ∀ w, w < ((ta τ).filter (par q)).length → y ≠ nI w
    · have h39 := Iv_mu h (t := 39) (by decide) 0 0
      have h39' := Iv_mu h39 (t := 39) (by decide) 0 2
      refine ⟨mu (mu M 39 0 0) 39 0 2, ag_T (q := 2) (v := 0) (M1 := M) (wT_memberAt_B (M1 := M) ?_) ?_ (at39 _ _) (by decide), h39'⟩
      · unfold f_X4_memberAt f_X4_memberAt_0
        rw [reqPathC, hv, un_t, bdx_s, memberIndex_no h.1 hq hx, bd2_s]
        rfl
      · show f_X5_memberAt M _ y = _
        unfold f_X5_memberAt f_X5_memberAt_0 f_X5_memberAt_27
        rw [asksM, hv, bd2_s, if_neg (by decide), show thr true = 0 from rfl, memberOf_no h39.2.1 hq hx, bd2_s, if_neg (by decide), at39, if_neg (by decide)]
    · obtain ⟨w, hw, rfl⟩ : ∃ w, w < ((ta τ).filter (par q)).length ∧ y = nI w := by
        apply Classical.byContradiction
        intro z
        exact hx (fun w h1 h2 => z ⟨w, h1, h2⟩)
      obtain ⟨p, hp⟩ : ∃ p, ((ta τ).filter (par q))[w]? = some p := ⟨_, List.getElem?_eq_getElem hw⟩
      have hpC := hp
      rw [← h.1.2.2.1 q] at hpC
      obtain ⟨A, r, R, rfl, e2, e3, e4⟩ := nth_split _ _ _ _ _ hpC
      have hpM := hp
      rw [← h.2.1.2.2.1 q] at hpM
      obtain ⟨A', s, R', rfl, d2, d3, d4⟩ := nth_split _ _ _ _ _ hpM
      have h40 := Iv_mu h (t := 40) (by decide) 0 (nI p)
      have h39 := Iv_mu h40 (t := 39) (by decide) 0 0
      obtain ⟨h1, h2, h3, h4, h5, h6, h7, h8, h9⟩ := TC_at h.1
      have h39' := Iv_mu h39 (t := 39) (by decide) 0 0
      refine ⟨_, ag_R (v := nI p) (M1 := M) (M2 := mu (mu (mu M 40 0 (nI p)) 39 0 0) 39 0 0) (wR_memberAt ?_) ?_ (at39 _ _) (by rw [mu_at _ _ _ (by decide), at40]), h39'⟩
      · unfold f_X4_memberAt f_X4_memberAt_0
        have := memberIndex_yes h.1 hq (by rw [e2]; exact e3)
        rw [e4] at this
        rw [reqPathC, hv, un_t, bdx_s, this, bd2_s, pathAtC h.1, bd2_s, if_neg (fun z => nI_pos (show pC M r < 4294967296 / 2 by omega) (by rw [z]; decide)), e2]
      · show f_X5_memberAt _ _ _ = _
        unfold f_X5_memberAt f_X5_memberAt_0 f_X5_memberAt_27
        have := memberOf_yes h39.2.1 (q := q) hq (by show par q (pM M s) = true; rw [d2]; exact d3)
        have d4' : A'.countP (fun i => par q (pM (mu (mu M 40 0 (nI p)) 39 0 0) i)) = w := d4
        rw [d4'] at this
        obtain ⟨g1, g2⟩ := (MT_in h.2.1).mp (show s ∈ A' ++ s :: R' by simp)
        rw [asksM, hv, bd2_s, if_neg (by decide), show thr true = 0 from rfl, this, bd2_s, if_pos (nI_pos' (by omega)), at39, if_pos (by decide), gi g1 (by decide), cl' (by omega), mu_at _ _ _ (by decide), mu_at _ _ _ (by decide), mu_at _ _ _ (by decide), (h.2.1.2.1 s (by simp)).1, d2]

/-! ===== members ===== -/
theorem plus0 (a : Nat) : nI a + 0 = nI a := by rw [show (0 : Int32) = nI 0 from rfl, nI_add]; rfl
theorem memberCountC_4 {M : Mem} {sp : List Nat} {τ : Tr} {q : Nat} (hq : q ≤ 9999) : ∀ (L2 L1 : List Nat) (n a : Nat), TC M (L1 ++ L2) sp τ → L2.length < n → f_X3_memberCount_4 n M (nI q) (nI a) (nI L1.length) = some (nI (a + L2.countP (fun r => par q (pC M r))), M) := by
  intro L2
  induction L2 with
  | nil =>
    intro L1 n a h hn
    obtain ⟨n, rfl⟩ : ∃ j, n = j + 1 := ⟨n - 1, by omega⟩
    show f_X3_memberCount_4B (f_X3_memberCount_4 n) M (nI q) (nI a) (nI L1.length) = _
    unfold f_X3_memberCount_4B
    rw [h.1.1, List.append_nil]
    have := IC_len h.1
    rw [List.append_nil] at this
    simp only [le' (show L1.length < 2147483648 by omega) (show L1.length < 2147483648 by omega)]
    rw [if_pos (Nat.le_refl _)]
    rfl
  | cons r L2 ih =>
    intro L1 n a h hn
    obtain ⟨n, rfl⟩ : ∃ j, n = j + 1 := ⟨n - 1, by simp at hn; omega⟩
    obtain ⟨h1, h2, h3, h4, h5, h6, h7, h8, h9⟩ := TC_at h
    have e1 := ih (L1 ++ [r]) n a (by simpa using h) (by simp at hn; omega)
    have e2 := ih (L1 ++ [r]) n (a + 1) (by simpa using h) (by simp at hn; omega)
    show f_X3_memberCount_4B (f_X3_memberCount_4 n) M (nI q) (nI a) (nI L1.length) = _
    unfold f_X3_memberCount_4B f_X3_memberCount_40
    rw [h7]
    simp only [le' (show (L1 ++ r :: L2).length < 2147483648 by omega) (show L1.length < 2147483648 by omega)]
    rw [if_neg (by omega), g60 h3, gi h3 (by decide), cl' (by omega), h1, if_neg (by omega), h4, parentC M h6, bd2_s, step1 L1 r, nI_1, e1, e2, List.countP_cons]
    simp only [eq' (show pC M r / 10 < 2147483648 by omega) (show q < 2147483648 by omega)]
    unfold par
    by_cases z : pC M r / 10 = q
    · rw [if_pos z]; simp [z, Nat.add_comm, Nat.add_left_comm, Nat.add_assoc]
    · rw [if_neg z]; simp [z]
theorem memberCountC {M : Mem} {L sp : List Nat} {τ : Tr} (h : TC M L sp τ) {q : Nat} (hq : q ≤ 9999) : f_X3_memberCount M (nI q) = some (nI ((ta τ).filter (par q)).length, M) := by
  unfold f_X3_memberCount f_X3_memberCount_0
  have := IC_len h.1
  have e := memberCountC_4 hq L [] 64 0 h (by omega)
  rw [Nat.zero_add, ← filter_map_len (pC M) (par q), h.2.2.1 q] at e
  exact e
theorem nth_split (f : Nat → Nat) (g : Nat → Bool) : ∀ (l : List Nat) (w p : Nat), ((l.map f).filter g)[w]? = some p → ∃ A r R, l = A ++ r :: R ∧ f r = p ∧ g p = true ∧ A.countP (fun x => g (f x)) = w
  | [], w, p, h => by simp at h
  | x :: l, w, p, h => by
    cases q : g (f x)
    · rw [List.map_cons, List.filter_cons_of_neg (by simp [q])] at h
      obtain ⟨A, r, R, e1, e2, e3, e4⟩ := nth_split f g l w p h
      exact ⟨x :: A, r, R, by rw [e1]; rfl, e2, e3, by rw [List.countP_cons, e4]; simp [q]⟩
    · rw [List.map_cons, List.filter_cons_of_pos q] at h
      cases w with
      | zero => simp at h; exact ⟨[], x, l, rfl, h, by rw [← h]; exact q, rfl⟩
      | succ w =>
        simp only [List.getElem?_cons_succ] at h
        obtain ⟨A, r, R, e1, e2, e3, e4⟩ := nth_split f g l w p h
        exact ⟨x :: A, r, R, by rw [e1]; rfl, e2, e3, by rw [List.countP_cons, e4]; simp [q]⟩
theorem memberIndexC_yes {M : Mem} {sp : List Nat} {τ : Tr} {q w r0 : Nat} (hq : q ≤ 9999) (hw : w ≤ 60) (hr0 : par q (pC M r0) = true) (R0 : List Nat) : ∀ (L2 L1 : List Nat) (n a : Nat), TC M (L1 ++ L2 ++ r0 :: R0) sp τ → L2.length < n → a + L2.countP (fun r => par q (pC M r)) = w → f_X3_memberIndex_5 n M (nI q) (nI w) (nI a) (nI L1.length) = some (nI (L1 ++ L2).length, M) := by
  intro L2
  induction L2 with
  | nil =>
    intro L1 n a h hn hc
    obtain ⟨n, rfl⟩ : ∃ j, n = j + 1 := ⟨n - 1, by omega⟩
    rw [List.append_nil] at h
    obtain ⟨h1, h2, h3, h4, h5, h6, h7, h8, h9⟩ := TC_at h
    show f_X3_memberIndex_5B (f_X3_memberIndex_5 n) M (nI q) (nI w) (nI a) (nI L1.length) = _
    unfold f_X3_memberIndex_5B
    rw [h7]
    simp only [le' (show (L1 ++ r0 :: R0).length < 2147483648 by omega) (show L1.length < 2147483648 by omega)]
    have hr0 : pC M r0 / 10 = q := by simpa [par] using hr0
    have hc : a = w := by simpa using hc
    rw [if_neg (by omega), g60 h3, gi h3 (by decide), cl' (by omega), h1, if_neg (by omega), h4, parentC M h6, bd2_s, hr0, if_pos rfl, hc, if_pos rfl, List.append_nil]
  | cons r L2 ih =>
    intro L1 n a h hn hc
    obtain ⟨n, rfl⟩ : ∃ j, n = j + 1 := ⟨n - 1, by simp at hn; omega⟩
    have h' : TC M (L1 ++ r :: (L2 ++ r0 :: R0)) sp τ := by simpa using h
    obtain ⟨h1, h2, h3, h4, h5, h6, h7, h8, h9⟩ := TC_at h'
    show f_X3_memberIndex_5B (f_X3_memberIndex_5 n) M (nI q) (nI w) (nI a) (nI L1.length) = _
    unfold f_X3_memberIndex_5B f_X3_memberIndex_52
    rw [h7]
    simp only [le' (show (L1 ++ r :: (L2 ++ r0 :: R0)).length < 2147483648 by omega) (show L1.length < 2147483648 by omega)]
    rw [if_neg (by omega), g60 h3, gi h3 (by decide), cl' (by omega), h1, if_neg (by omega), h4, parentC M h6, bd2_s, step1 L1 r, nI_1]
    rw [List.countP_cons] at hc
    by_cases z : pC M r / 10 = q
    · have zp : par q (pC M r) = true := by simp [par, z]
      rw [zp, if_pos rfl] at hc
      have := ih (L1 ++ [r]) n (a + 1) (by simpa using h) (by simp at hn; omega) (by omega)
      rw [if_pos (by rw [z]), if_neg (by rw [eq' (by omega) (by omega)]; omega), this]
      simp
    · have zp : par q (pC M r) = false := by simp [par, z]
      rw [zp] at hc
      have := ih (L1 ++ [r]) n a (by simpa using h) (by simp at hn; omega) (by simpa using hc)
      rw [if_neg (by rw [eq' (by omega) (by omega)]; exact z), this]
      simp
theorem memberIndexC_no {M : Mem} {sp : List Nat} {τ : Tr} {q : Nat} {x : Int32} (hq : q ≤ 9999) : ∀ (L2 L1 : List Nat) (n a : Nat), TC M (L1 ++ L2) sp τ → L2.length < n → (∀ j, a ≤ j → j < a + L2.countP (fun r => par q (pC M r)) → x ≠ nI j) → f_X3_memberIndex_5 n M (nI q) x (nI a) (nI L1.length) = some (-1, M) := by
  intro L2
  induction L2 with
  | nil =>
    intro L1 n a h hn hc
    obtain ⟨n, rfl⟩ : ∃ j, n = j + 1 := ⟨n - 1, by omega⟩
    show f_X3_memberIndex_5B (f_X3_memberIndex_5 n) M (nI q) x (nI a) (nI L1.length) = _
    unfold f_X3_memberIndex_5B
    rw [h.1.1, List.append_nil]
    have := IC_len h.1
    rw [List.append_nil] at this
    simp only [le' (show L1.length < 2147483648 by omega) (show L1.length < 2147483648 by omega)]
    rw [if_pos (Nat.le_refl _)]
  | cons r L2 ih =>
    intro L1 n a h hn hc
    obtain ⟨n, rfl⟩ : ∃ j, n = j + 1 := ⟨n - 1, by simp at hn; omega⟩
    obtain ⟨h1, h2, h3, h4, h5, h6, h7, h8, h9⟩ := TC_at h
    show f_X3_memberIndex_5B (f_X3_memberIndex_5 n) M (nI q) x (nI a) (nI L1.length) = _
    unfold f_X3_memberIndex_5B f_X3_memberIndex_52
    rw [h7]
    simp only [le' (show (L1 ++ r :: L2).length < 2147483648 by omega) (show L1.length < 2147483648 by omega)]
    rw [if_neg (by omega), g60 h3, gi h3 (by decide), cl' (by omega), h1, if_neg (by omega), h4, parentC M h6, bd2_s, step1 L1 r, nI_1]
    rw [List.countP_cons] at hc
    by_cases z : pC M r / 10 = q
    · have zp : par q (pC M r) = true := by simp [par, z]
      rw [zp, if_pos rfl] at hc
      rw [if_pos (by rw [z]), if_neg (fun e => hc a (Nat.le_refl _) (by omega) e.symm)]
      exact ih (L1 ++ [r]) n (a + 1) (by simpa using h) (by simp at hn; omega) (fun j g1 g2 => hc j (by omega) (by omega))
    · have zp : par q (pC M r) = false := by simp [par, z]
      rw [zp] at hc
      rw [if_neg (by rw [eq' (by omega) (by omega)]; exact z)]
      exact ih (L1 ++ [r]) n a (by simpa using h) (by simp at hn; omega) (fun j g1 g2 => hc j g1 (by simpa using g2))
/-! the reference's -/
def lowr (M : Mem) (q s i : Nat) : Bool := us M i && (par q (pM M i) && !decide (M 24 s ≤ M 24 i))
theorem lowr_e (M : Mem) (q s i : Nat) : lowr M q s i = (us M i && (par q (pM M i) && !decide (M 24 s ≤ M 24 i))) := rfl
def lowc (M : Mem) (q s : Nat) : Nat := (List.range' 0 60).countP (lowr M q s)
def hit (M : Mem) (q : Nat) (x : Int32) (s : Nat) : Bool := us M s && (par q (pM M s) && decide (nI (lowc M q s) = x))
theorem hit_e (M : Mem) (q : Nat) (x : Int32) (s : Nat) : hit M q x s = (us M s && (par q (pM M s) && decide (nI (lowc M q s) = x))) := rfl
theorem countP_lt {f g : Nat → Bool} : ∀ {l : List Nat} {s : Nat}, (∀ x ∈ l, f x = true → g x = true) → s ∈ l → g s = true → f s = false → l.countP f < l.countP g
  | x :: l, s, hi, hs, h1, h2 => by
    rw [List.countP_cons, List.countP_cons]
    have hle : l.countP f ≤ l.countP g := List.countP_mono_left (fun y hy => hi y (by simp [hy]))
    rcases List.mem_cons.mp hs with z | z
    · subst z
      rw [h1, h2]; simp; omega
    · have := countP_lt (fun y hy => hi y (by simp [hy])) z h1 h2
      have h3 := hi x (by simp)
      cases w : f x
      · simp; cases g x <;> simp <;> omega
      · rw [h3 w]; simp; omega
theorem MT_rk {M : Mem} {L : List Nat} {τ : Tr} {B : Nat} (h : MT M L τ B) {s i : Nat} (hs : s ∈ L) (hi : i ∈ L) : (M 24 s ≤ M 24 i) = (rM M s ≤ rM M i) := by
  obtain ⟨h1, h2, h3, h4, h5, h6, h7, h8, h9, h10⟩ := h
  obtain ⟨a1, a2⟩ := h6 s hs
  obtain ⟨b1, b2⟩ := h6 i hi
  rw [a1, b1, le' (by omega) (by omega)]
def loL (M : Mem) (q s i : Nat) : Bool := par q (pM M i) && decide (rM M i < rM M s)
theorem lowc_L {M : Mem} {L : List Nat} {τ : Tr} {B : Nat} (h : MT M L τ B) (q : Nat) {s : Nat} (hs : s ∈ L) : lowc M q s = L.countP (loL M q s) := by
  have e := MT_cnt h (fun i => par q (pM M i) && !decide (M 24 s ≤ M 24 i))
  have e2 : lowc M q s = L.countP (fun i => par q (pM M i) && !decide (M 24 s ≤ M 24 i)) := e
  rw [e2]
  apply List.countP_congr
  intro i hi
  unfold loL
  simp only [MT_rk h hs hi]
  have : (!decide (rM M s ≤ rM M i)) = decide (rM M i < rM M s) := by
    by_cases z : rM M s ≤ rM M i
    · simp [z]
    · simp [z, show rM M i < rM M s by omega]
  rw [this]
theorem lowc_split {M : Mem} {A R : List Nat} {s : Nat} {τ : Tr} {B : Nat} (h : MT M (A ++ s :: R) τ B) (q : Nat) : lowc M q s = A.countP (fun i => par q (pM M i)) := by
  rw [lowc_L h q (by simp), List.countP_append, List.countP_cons]
  have hp := h.2.2.2.2.2.2.1
  rw [List.pairwise_append, List.pairwise_cons] at hp
  have e1 : A.countP (loL M q s) = A.countP (fun i => par q (pM M i)) := List.countP_congr (fun i hi => by
    have := hp.2.2 i hi s (by simp)
    simp [loL, this])
  have e2 : R.countP (loL M q s) = 0 := List.countP_eq_zero.mpr (fun i hi => by
    have := hp.2.1.1 i hi
    simp [loL]; intro _; omega)
  rw [e1, e2]
  simp [loL]
theorem MT_inj {M : Mem} {L : List Nat} {τ : Tr} {B : Nat} (h : MT M L τ B) {s i : Nat} (hs : s ∈ L) (hi : i ∈ L) (e : rM M s = rM M i) : s = i := by
  refine nodup_inj (f := rM M) (l := L) ?_ hs hi e
  rw [List.Nodup, List.pairwise_map]
  exact h.2.2.2.2.2.2.1.imp (fun z => by omega)
theorem hit_uniq {M : Mem} {L : List Nat} {τ : Tr} {B : Nat} (h : MT M L τ B) {q : Nat} {x : Int32} {s i : Nat} (hs : s < 60) (hi : i < 60) (h1 : hit M q x s = true) (h2 : hit M q x i = true) : s = i := by
  rw [hit_e] at h1 h2
  simp only [Bool.and_eq_true, decide_eq_true_eq] at h1 h2
  have m1 := (MT_in h).mpr ⟨hs, h1.1⟩
  have m2 := (MT_in h).mpr ⟨hi, h2.1⟩
  have hL : L.length ≤ 60 := by
    have := h.1.length_eq
    rw [this]
    exact Nat.le_trans (List.length_filter_le _ _) (by rw [List.length_range']; omega)
  have b : ∀ j, L.countP (loL M q j) < 2147483648 := fun j => by have := List.countP_le_length (p := loL M q j) (l := L); omega
  have e : L.countP (loL M q s) = L.countP (loL M q i) := by
    have := h1.2.2.trans h2.2.2.symm
    rw [lowc_L h q m1, lowc_L h q m2, eq' (b s) (b i)] at this
    exact this
  apply MT_inj h m1 m2
  rcases Nat.lt_trichotomy (rM M s) (rM M i) with z | z | z
  · have := countP_lt (f := loL M q s) (g := loL M q i) (l := L) (s := s) (fun y _ hy => by
      simp only [loL, Bool.and_eq_true, decide_eq_true_eq] at hy ⊢
      exact ⟨hy.1, by omega⟩) m1 (by simp [loL, h1.2.1, z]) (by simp [loL])
    omega
  · exact z
  · have := countP_lt (f := loL M q i) (g := loL M q s) (l := L) (s := i) (fun y _ hy => by
      simp only [loL, Bool.and_eq_true, decide_eq_true_eq] at hy ⊢
      exact ⟨hy.1, by omega⟩) m2 (by simp [loL, h2.2.1, z]) (by simp [loL])
    omega
theorem memberIndex_no {M : Mem} {L sp : List Nat} {τ : Tr} (h : TC M L sp τ) {q : Nat} (hq : q ≤ 9999) {x : Int32} (hx : ∀ w, w < ((ta τ).filter (par q)).length → x ≠ nI w) : f_X3_memberIndex M (nI q) x = some (-1, M) := by
  unfold f_X3_memberIndex f_X3_memberIndex_0
  have := IC_len h.1
  refine memberIndexC_no hq L [] 64 0 h (by omega) (fun j _ hj => hx j ?_)
  rw [← h.2.2.1 q, filter_map_len]
  omega
theorem memberIndex_yes {M : Mem} {L1 L2 sp : List Nat} {r : Nat} {τ : Tr} (h : TC M (L1 ++ r :: L2) sp τ) {q : Nat} (hq : q ≤ 9999) (hp : par q (pC M r) = true) : f_X3_memberIndex M (nI q) (nI (L1.countP (fun r => par q (pC M r)))) = some (nI L1.length, M) := by
  unfold f_X3_memberIndex f_X3_memberIndex_0
  have := IC_len h.1
  have hl : L1.length ≤ 60 := by simp at this; omega
  have hc := List.countP_le_length (p := fun r => par q (pC M r)) (l := L1)
  exact memberIndexC_yes hq (by omega) hp L2 L1 [] 64 0 (by simpa using h) (by omega) (by omega)

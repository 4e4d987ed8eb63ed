/-! ===== the reference's tree: the places in the order of their ranks ===== -/
def us (M : Mem) (k : Nat) : Bool := !decide (M 20 k = 0)
def pM (M : Mem) (k : Nat) : Nat := (M 21 k).toNatClampNeg
def rM (M : Mem) (k : Nat) : Nat := (M 24 k).toNatClampNeg
def rn (M : Mem) : Nat := (M 25 0).toNatClampNeg
def MT (M : Mem) (L : List Nat) (τ : Tr) (B : Nat) : Prop :=
  L.Perm ((List.range' 0 60).filter (us M)) ∧ (∀ k ∈ L, M 21 k = nI (pM M k) ∧ 0 < pM M k ∧ pM M k ≤ 9999) ∧ eqv (L.map (pM M)) (ta τ) ∧ (ta τ).Nodup ∧ (∀ k ∈ L, dat (M 22 k) (M 23 k) (M 26 k) (fun j => M 27 (10 * k + j)) τ (pM M k)) ∧
  (∀ k ∈ L, M 24 k = nI (rM M k) ∧ rM M k ≤ rn M) ∧ L.Pairwise (fun a c => rM M a < rM M c) ∧ M 25 0 = nI (rn M) ∧ rn M ≤ B ∧ B ≤ 1000000
theorem MT_in {M : Mem} {L : List Nat} {τ : Tr} {B : Nat} (h : MT M L τ B) {k : Nat} : k ∈ L ↔ k < 60 ∧ us M k = true := by
  rw [h.1.mem_iff, List.mem_filter, List.mem_range']
  simp
theorem MT_mem {M : Mem} {L : List Nat} {τ : Tr} {B : Nat} (h : MT M L τ B) {p : Nat} : p ∈ ta τ ↔ ∃ k ∈ L, pM M k = p := by
  rw [← eqv_mem h.2.2.1, List.mem_map]
theorem MT_pos {M : Mem} {L : List Nat} {τ : Tr} {B : Nat} (h : MT M L τ B) {p : Nat} (hp : p ∈ ta τ) : 0 < p ∧ p ≤ 9999 := by
  obtain ⟨r, hr, rfl⟩ := (MT_mem h).mp hp
  exact (h.2.1 r hr).2
theorem MT_nd {M : Mem} {L : List Nat} {τ : Tr} {B : Nat} (h : MT M L τ B) : (L.map (pM M)).Nodup := (eqv_perm h.2.2.1).nodup_iff.mpr h.2.2.2.1
theorem nodup_inj {α β : Type} {f : α → β} : ∀ {l : List α}, (l.map f).Nodup → ∀ {a c : α}, a ∈ l → c ∈ l → f a = f c → a = c
  | [], _, a, c, h, _, _ => by cases h
  | x :: l, hn, a, c, ha, hc, e => by
    simp only [List.map_cons, List.nodup_cons] at hn
    rcases List.mem_cons.mp ha with h1 | h1
    · rcases List.mem_cons.mp hc with h2 | h2
      · rw [h1, h2]
      · exact absurd (List.mem_map.mpr ⟨c, h2, by rw [← e, h1]⟩) hn.1
    · rcases List.mem_cons.mp hc with h2 | h2
      · exact absurd (List.mem_map.mpr ⟨a, h1, by rw [e, h2]⟩) hn.1
      · exact nodup_inj hn.2 h1 h2 e
theorem us_f {M : Mem} {k : Nat} (h : us M k = false) : M 20 k = 0 := by simpa [us] using h
theorem us_t {M : Mem} {k : Nat} (h : us M k = true) : ¬ M 20 k = 0 := by simpa [us] using h
theorem placeM_no (M : Mem) (p : Nat) : ∀ (r n t : Nat) (x : Int32), t + r = 60 → r < n → (∀ j, t ≤ j → j < 60 → us M j = true → M 21 j ≠ nI p) → f_X5_place_4 n M (nI p) x (nI t) = some (x, M) := by
  intro r
  induction r with
  | zero =>
    intro n t x ht hr _
    obtain ⟨n, rfl⟩ : ∃ j, n = j + 1 := ⟨n - 1, by omega⟩
    have : t = 60 := by omega
    subst this
    rfl
  | succ r ih =>
    intro n t x ht hr hne
    obtain ⟨n, rfl⟩ : ∃ j, n = j + 1 := ⟨n - 1, by omega⟩
    show f_X5_place_4B (f_X5_place_4 n) M (nI p) x (nI t) = _
    unfold f_X5_place_4B f_X5_place_33 f_X5_place_34
    rw [if_neg (by rw [show (60 : Int32) = nI 60 from rfl, le' (by decide) (by omega)]; omega)]
    simp only [gi (show t < 60 by omega) (show 60 < 2147483648 by decide)]
    rw [cl' (by omega), nI_1, ih n (t + 1) x (by omega) (by omega) (fun j h1 h2 => hne j (by omega) h2)]
    cases hu : us M t
    · rw [if_pos (us_f hu)]
    · rw [if_neg (us_t hu), if_neg (hne t (Nat.le_refl _) (by omega) hu)]
theorem placeM_yes (M : Mem) (p k0 : Nat) (hk : k0 < 60) (hu0 : us M k0 = true) (he : M 21 k0 = nI p) (hun : ∀ j, j < 60 → us M j = true → M 21 j = nI p → j = k0) : ∀ (r n t : Nat) (x : Int32), t + r = 60 → r < n → t ≤ k0 → f_X5_place_4 n M (nI p) x (nI t) = some (nI k0, M) := by
  intro r
  induction r with
  | zero => intro n t x ht hr h; omega
  | succ r ih =>
    intro n t x ht hr hle
    obtain ⟨n, rfl⟩ : ∃ j, n = j + 1 := ⟨n - 1, by omega⟩
    show f_X5_place_4B (f_X5_place_4 n) M (nI p) x (nI t) = _
    unfold f_X5_place_4B f_X5_place_33 f_X5_place_34
    rw [if_neg (by rw [show (60 : Int32) = nI 60 from rfl, le' (by decide) (by omega)]; omega)]
    simp only [gi (show t < 60 by omega) (show 60 < 2147483648 by decide)]
    rw [cl' (by omega), nI_1]
    by_cases q : t = k0
    · subst q
      rw [if_neg (us_t hu0), if_pos he]
      exact placeM_no M p r n (t + 1) (nI t) (by omega) (by omega) (fun j h1 h2 h3 h4 => by have := hun j h2 h3 h4; omega)
    · rw [ih n (t + 1) x (by omega) (by omega) (by omega)]
      cases hu : us M t
      · rw [if_pos (us_f hu)]
      · rw [if_neg (us_t hu), if_neg (fun z => q (hun t (by omega) hu z))]
theorem place_no {M : Mem} {L : List Nat} {τ : Tr} {B : Nat} (h : MT M L τ B) {p : Nat} (hp : p ≤ 9999) (hn : p ∉ ta τ) : f_X5_place M (nI p) = some (-1, M) := by
  unfold f_X5_place f_X5_place_0
  exact placeM_no M p 60 64 0 (-1) (by omega) (by omega) (fun j _ hj hu z => by
    have hm := (MT_in h).mpr ⟨hj, hu⟩
    obtain ⟨g1, g2, g3⟩ := h.2.1 j hm
    rw [g1, eq' (by omega) (by omega)] at z
    exact hn ((MT_mem h).mpr ⟨j, hm, z⟩))
theorem place_yes {M : Mem} {L : List Nat} {τ : Tr} {B : Nat} (h : MT M L τ B) {p : Nat} (hy : p ∈ ta τ) : ∃ k ∈ L, k < 60 ∧ us M k = true ∧ pM M k = p ∧ M 21 k = nI p ∧ f_X5_place M (nI p) = some (nI k, M) := by
  obtain ⟨k, hk, rfl⟩ := (MT_mem h).mp hy
  obtain ⟨g1, g2, g3⟩ := h.2.1 k hk
  obtain ⟨g4, g5⟩ := (MT_in h).mp hk
  refine ⟨k, hk, g4, g5, rfl, g1, ?_⟩
  unfold f_X5_place f_X5_place_0
  refine placeM_yes M (pM M k) k g4 g5 g1 (fun j hj hu z => ?_) 60 64 0 (-1) (by omega) (by omega) (by omega)
  have hm := (MT_in h).mpr ⟨hj, hu⟩
  obtain ⟨f1, f2, f3⟩ := h.2.1 j hm
  rw [f1, eq' (by omega) (by omega)] at z
  exact nodup_inj (MT_nd h) hm hk z
theorem kindsM {M : Mem} {L : List Nat} {τ : Tr} {B : Nat} (h : MT M L τ B) {p : Nat} (hp : p ≤ 9999) : f_X5_kinds M (nI p) = some (tk τ p, M) := by
  unfold f_X5_kinds f_X5_kinds_0 tk
  by_cases hy : p ∈ ta τ
  · obtain ⟨k, g1, g2, g3, g4, g5, g6⟩ := place_yes h hy
    have := MT_pos h hy
    rw [g6, bd2_s]
    simp only [ze (show p < 2147483648 by omega), gi g2 (show 60 < 2147483648 by decide)]
    rw [if_neg (by omega), if_pos (nI_pos' (by omega)), if_neg (by omega), if_pos hy, cl' (by omega), (h.2.2.2.2.1 k g1).1, g4]
  · rw [place_no h hp hy, bd2_s]
    simp only [ze (show p < 2147483648 by omega)]
    by_cases h0 : p = 0
    · rw [if_pos h0, if_pos h0]
    · rw [if_neg h0, if_neg h0, if_neg (by decide), if_neg hy]
theorem countM_4 (M : Mem) : ∀ (r n t a : Nat), t + r = 60 → r < n → f_X5_count_4 n M (nI a) (nI t) = some (nI (a + (List.range' t r).countP (us M)), M) := by
  intro r
  induction r with
  | zero =>
    intro n t a ht hr
    obtain ⟨n, rfl⟩ : ∃ j, n = j + 1 := ⟨n - 1, by omega⟩
    have : t = 60 := by omega
    subst this
    rfl
  | succ r ih =>
    intro n t a ht hr
    obtain ⟨n, rfl⟩ : ∃ j, n = j + 1 := ⟨n - 1, by omega⟩
    show f_X5_count_4B (f_X5_count_4 n) M (nI a) (nI t) = _
    unfold f_X5_count_4B f_X5_count_25
    rw [if_neg (by rw [show (60 : Int32) = nI 60 from rfl, le' (by decide) (by omega)]; omega), gi (show t < 60 by omega) (by decide), cl' (by omega), nI_1, List.range'_succ, List.countP_cons]
    have e0 := ih n (t + 1) a (by omega) (by omega)
    have e1 := ih n (t + 1) (a + 1) (by omega) (by omega)
    cases hu : us M t
    · rw [if_pos (us_f hu), show nI a + 0 = nI a by rw [show (0 : Int32) = nI 0 from rfl, nI_add]; rfl, e0]; simp
    · rw [if_neg (us_t hu), nI_1, e1]; simp [Nat.add_comm, Nat.add_left_comm, Nat.add_assoc]
theorem MT_cnt {M : Mem} {L : List Nat} {τ : Tr} {B : Nat} (h : MT M L τ B) (g : Nat → Bool) : (List.range' 0 60).countP (fun k => us M k && g k) = L.countP g := by
  rw [h.1.countP_eq, List.countP_filter]
  congr 1
  funext k
  exact Bool.and_comm _ _
theorem countM {M : Mem} {L : List Nat} {τ : Tr} {B : Nat} (h : MT M L τ B) : f_X5_count M = some (nI (ta τ).length, M) := by
  unfold f_X5_count f_X5_count_0
  have e := countM_4 M 60 64 0 0 (by omega) (by omega)
  have h2 := MT_cnt h (fun _ => true)
  simp only [Bool.and_true] at h2
  rw [h2, List.countP_true, ← List.length_map (f := pM M), (eqv_perm h.2.2.1).length_eq, Nat.zero_add] at e
  exact e
theorem isOfM {M : Mem} {L : List Nat} {τ : Tr} {B : Nat} (h : MT M L τ B) {j u : Nat} (hj : j < 60) (hu : u ≤ 9999) : f_X5_isOf M (nI j) (nI u) = some (b2i (us M j && inT u (pM M j)), M) := by
  unfold f_X5_isOf f_X5_isOf_0
  simp only [gi hj (show 60 < 2147483648 by decide)]
  rw [cl' (by omega)]
  cases q : us M j
  · rw [if_pos (us_f q)]; rfl
  · obtain ⟨g1, g2, g3⟩ := h.2.1 j ((MT_in h).mpr ⟨hj, q⟩)
    rw [if_neg (us_t q), g1, isAboveM M (by omega) g3, bd2_s]
    simp only [eq' (show pM M j < 2147483648 by omega) (show u < 2147483648 by omega), b2i_0]
    unfold inT
    by_cases q2 : pM M j = u
    · simp [q2, b2i]
    · cases q3 : abv u (pM M j) <;> simp [q2, b2i]
theorem isMemberM {M : Mem} {L : List Nat} {τ : Tr} {B : Nat} (h : MT M L τ B) {j q : Nat} (hj : j < 60) (hq : q ≤ 9999) : f_X5_isMember M (nI j) (nI q) = some (b2i (us M j && par q (pM M j)), M) := by
  unfold f_X5_isMember f_X5_isMember_0
  simp only [gi hj (show 60 < 2147483648 by decide)]
  rw [cl' (by omega)]
  cases q1 : us M j
  · rw [if_pos (us_f q1)]; rfl
  · obtain ⟨g1, g2, g3⟩ := h.2.1 j ((MT_in h).mpr ⟨hj, q1⟩)
    rw [if_neg (us_t q1), g1, div10 (by omega)]
    simp only [eq' (show pM M j / 10 < 2147483648 by omega) (show q < 2147483648 by omega)]
    unfold par
    by_cases q2 : pM M j / 10 = q <;> simp [q2, b2i]
def okT (k : Lk) (M : Mem) (c tk : Int32) (u j : Nat) : Bool := !(us M j && inT u (pM M j)) || alw k c (pM M j) tk
theorem mayAllM_6 {M : Mem} {L : List Nat} {τ : Tr} {B : Nat} {k : Lk} (h : MT M L τ B) (hk : LM M k) (c tk : Int32) {u : Nat} (hu : u ≤ 9999) : ∀ (r n t : Nat) (a : Bool), t + r = 60 → r < n → f_X5_mayAll_6 n M c (nI u) tk (b2i a) (nI t) = some (b2i (a && (List.range' t r).all (okT k M c tk u)), M) := by
  intro r
  induction r with
  | zero =>
    intro n t a ht hr
    obtain ⟨n, rfl⟩ : ∃ j, n = j + 1 := ⟨n - 1, by omega⟩
    have : t = 60 := by omega
    subst this
    show f_X5_mayAll_6B (f_X5_mayAll_6 n) M c (nI u) tk (b2i a) (nI 60) = _
    unfold f_X5_mayAll_6B
    rw [if_pos (by decide), if_pos (b2i_and a)]
    simp
  | succ r ih =>
    intro n t a ht hr
    obtain ⟨n, rfl⟩ : ∃ j, n = j + 1 := ⟨n - 1, by omega⟩
    have e : ∀ c' : Bool, f_X5_mayAll_6 n M c (nI u) tk (b2i a &&& b2i c') (nI (t + 1)) = some (b2i ((a && c') && (List.range' (t + 1) r).all (okT k M c tk u)), M) := fun c' => by rw [b2i_an]; exact ih n (t + 1) _ (by omega) (by omega)
    have e0 := e false
    have e1 := e true
    rw [b2i_f] at e0
    rw [b2i_t] at e1
    show f_X5_mayAll_6B (f_X5_mayAll_6 n) M c (nI u) tk (b2i a) (nI t) = _
    unfold f_X5_mayAll_6B f_X5_mayAll_41 f_X5_mayAll_46
    rw [if_neg (by rw [show (60 : Int32) = nI 60 from rfl, le' (by decide) (by omega)]; omega), isOfM h (show t < 60 by omega) hu, bd2_s, nI_1, e1, gi (show t < 60 by omega) (by decide), cl' (by omega), List.range'_succ, List.all_cons]
    simp only [e0, b2i_0]
    rw [show okT k M c tk u t = (!(us M t && inT u (pM M t)) || alw k c (pM M t) tk) from rfl]
    cases q : (us M t && inT u (pM M t))
    · simp
    · have q1 : us M t = true := by cases hq : us M t <;> simp_all
      obtain ⟨g1, g2, g3⟩ := h.2.1 t ((MT_in h).mpr ⟨by omega, q1⟩)
      rw [g1, mayM hk c g3, bd2_s]
      simp only [b2i_0, e0, e1]
      cases alw k c (pM M t) tk <;> simp
theorem MT_all {M : Mem} {L : List Nat} {τ : Tr} {B : Nat} (h : MT M L τ B) (f : Nat → Bool) : (List.range' 0 60).all (fun j => !(us M j) || f j) = L.all f := by
  rw [Bool.eq_iff_iff, List.all_eq_true, List.all_eq_true]
  constructor
  · intro g k hk
    obtain ⟨h1, h2⟩ := (MT_in h).mp hk
    have := g k (by rw [List.mem_range']; exact ⟨k, h1, by omega⟩)
    simpa [h2] using this
  · intro g k hk
    rw [List.mem_range'] at hk
    obtain ⟨i, hi, e⟩ := hk
    cases q : us M k
    · simp
    · simpa using g k ((MT_in h).mpr ⟨by omega, q⟩)
/-- a client may change all at a path and below it -/
def alT (k : Lk) (τ : Tr) (c : Int32) (u : Nat) (tk : Int32) : Bool := (ta τ).all (fun p => !inT u p || alw k c p tk)
theorem all_map {α β : Type} (f : α → β) (g : β → Bool) (l : List α) : (l.map f).all g = l.all (fun x => g (f x)) := by
  induction l with
  | nil => rfl
  | cons a l ih => simp only [List.map_cons, List.all_cons, ih]
theorem perm_all {α : Type} {a c : List α} (h : a.Perm c) (f : α → Bool) : a.all f = c.all f := by
  rw [Bool.eq_iff_iff, List.all_eq_true, List.all_eq_true]
  exact ⟨fun g x hx => g x (h.mem_iff.mpr hx), fun g x hx => g x (h.mem_iff.mp hx)⟩
theorem mayAllM {M : Mem} {L : List Nat} {τ : Tr} {B : Nat} {k : Lk} (h : MT M L τ B) (hk : LM M k) (c tk : Int32) {u : Nat} (hu : u ≤ 9999) : f_X5_mayAll M c (nI u) tk = some (b2i (alT k τ c u tk), M) := by
  unfold f_X5_mayAll f_X5_mayAll_0 alT
  have e := mayAllM_6 h hk c tk hu 60 64 0 true (by omega) (by omega)
  have e2 : (List.range' 0 60).all (okT k M c tk u) = L.all (fun j => !inT u (pM M j) || alw k c (pM M j) tk) := by
    rw [← MT_all h]
    congr 1
    funext j
    unfold okT
    cases us M j <;> simp
  rw [e2, ← all_map (pM M) (fun p => !inT u p || alw k c p tk), perm_all (eqv_perm h.2.2.1), Bool.true_and] at e
  exact e
theorem membersOfM_4 {M : Mem} {L : List Nat} {τ : Tr} {B : Nat} (h : MT M L τ B) {q : Nat} (hq : q ≤ 9999) : ∀ (r n t a : Nat), t + r = 60 → r < n → f_X5_membersOf_4 n M (nI q) (nI a) (nI t) = some (nI (a + (List.range' t r).countP (fun j => us M j && par q (pM M j))), M) := by
  intro r
  induction r with
  | zero =>
    intro n t a ht hr
    obtain ⟨n, rfl⟩ : ∃ j, n = j + 1 := ⟨n - 1, by omega⟩
    have : t = 60 := by omega
    subst this
    rfl
  | succ r ih =>
    intro n t a ht hr
    obtain ⟨n, rfl⟩ : ∃ j, n = j + 1 := ⟨n - 1, by omega⟩
    show f_X5_membersOf_4B (f_X5_membersOf_4 n) M (nI q) (nI a) (nI t) = _
    unfold f_X5_membersOf_4B f_X5_membersOf_25
    rw [if_neg (by rw [show (60 : Int32) = nI 60 from rfl, le' (by decide) (by omega)]; omega), isMemberM h (show t < 60 by omega) hq, bd2_s, nI_1, List.range'_succ, List.countP_cons]
    have e0 := ih n (t + 1) a (by omega) (by omega)
    have e1 := ih n (t + 1) (a + 1) (by omega) (by omega)
    cases hu : (us M t && par q (pM M t))
    · rw [if_pos (show b2i false = 0 from rfl), show nI a + 0 = nI a by rw [show (0 : Int32) = nI 0 from rfl, nI_add]; rfl, e0]; simp
    · rw [if_neg (by decide), nI_1, e1]; simp [Nat.add_comm, Nat.add_left_comm, Nat.add_assoc]
theorem filter_map_len {α β : Type} (f : α → β) (g : β → Bool) (l : List α) : ((l.map f).filter g).length = l.countP (fun x => g (f x)) := by
  rw [← List.countP_eq_length_filter, List.countP_map]
  rfl
theorem membersOfM {M : Mem} {L : List Nat} {τ : Tr} {B : Nat} (h : MT M L τ B) {q : Nat} (hq : q ≤ 9999) : f_X5_membersOf M (nI q) = some (nI ((ta τ).filter (par q)).length, M) := by
  unfold f_X5_membersOf f_X5_membersOf_0
  have e := membersOfM_4 h hq 60 64 0 0 (by omega) (by omega)
  rw [MT_cnt h (fun j => par q (pM M j)), Nat.zero_add, ← filter_map_len (pM M) (par q), h.2.2.1 q] at e
  exact e

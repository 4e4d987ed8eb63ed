/-! ===== the reference's tree: the places in the order of their ranks ===== -/
def us (M : Mem) (k : Nat) : Bool := !decide (M 20 k = 0)
def pM (M : Mem) (k : Nat) : Nat := (M 21 k).toNatClampNeg
def rM (M : Mem) (k : Nat) : Nat := (M 24 k).toNatClampNeg
def rn (M : Mem) : Nat := (M 25 0).toNatClampNeg
def MT (M : Mem) (L : List Nat) (τ : Tr) (B : Nat) : Prop :=
  L.Perm ((List.range' 0 60).filter (us M)) ∧ (∀ k ∈ L, M 21 k = nI (pM M k) ∧ 0 < pM M k ∧ pM M k ≤ 9999) ∧ eqv (L.map (pM M)) (ta τ) ∧ (ta τ).Nodup ∧ (∀ k ∈ L, dat (M 22 k) (M 23 k) (M 26 k) (fun j => M 27 (10 * k + j)) τ (pM M k)) ∧
  (∀ k ∈ L, M 24 k = nI (rM M k) ∧ rM M k ≤ rn M) ∧ L.Pairwise (fun a c => rM M a < rM M c) ∧ M 25 0 = nI (rn M) ∧ rn M ≤ B ∧ B ≤ 1000000
theorem MT_in {M : Mem} {L : List Nat} {τ : Tr} {B : Nat} (h : MT M L τ B) {k : Nat} : k ∈ L ↔ k < 60 ∧ us M k = true := by
  rw [h.1.mem_iff, List.mem_filter, List.mem_range']
  simp
theorem MT_mem {M : Mem} {L : List Nat} {τ : Tr} {B : Nat} (h : MT M L τ B) {p : Nat} : p ∈ ta τ ↔ ∃ k ∈ L, pM M k = p := by
  rw [← eqv_mem h.2.2.1, List.mem_map]
theorem MT_pos {M : Mem} {L : List Nat} {τ : Tr} {B : Nat} (h : MT M L τ B) {p : Nat} (hp : p ∈ ta τ) : 0 < p ∧ p ≤ 9999 := by
  obtain ⟨r, hr, rfl⟩ := (MT_mem h).mp hp
  exact (h.2.1 r hr).2
theorem MT_nd {M : Mem} {L : List Nat} {τ : Tr} {B : Nat} (h : MT M L τ B) : (L.map (pM M)).Nodup := (eqv_perm h.2.2.1).nodup_iff.mpr h.2.2.2.1
theorem nodup_inj {α β : Type} {f : α → β} : ∀ {l : List α}, (l.map f).Nodup → ∀ {a c : α}, a ∈ l → c ∈ l → f a = f c → a = c
  | [], _, a, c, h, _, _ => by cases h
  | x :: l, hn, a, c, ha, hc, e => by
    simp only [List.map_cons, List.nodup_cons] at hn
    rcases List.mem_cons.mp ha with h1 | h1
    · rcases List.mem_cons.mp hc with h2 | h2
      · rw [h1, h2]
      · exact absurd (List.mem_map.mpr ⟨c, h2, by rw [← e, h1]⟩) hn.1
    · rcases List.mem_cons.mp hc with h2 | h2
      · exact absurd (List.mem_map.mpr ⟨a, h1, by rw [e, h2]⟩) hn.1
      · exact nodup_inj hn.2 h1 h2 e
theorem us_f {M : Mem} {k : Nat} (h : us M k = false) : M 20 k = 0 := by simpa [us] using h
theorem us_t {M : Mem} {k : Nat} (h : us M k = true) : ¬ M 20 k = 0 := by simpa [us] using h
theorem MT_cnt {M : Mem} {L : List Nat} {τ : Tr} {B : Nat} (h : MT M L τ B) (g : Nat → Bool) : (List.range' 0 60).countP (fun k => us M k && g k) = L.countP g := by
  rw [h.1.countP_eq, List.countP_filter]
  congr 1
  funext k
  exact Bool.and_comm _ _
def okT (k : Lk) (M : Mem) (c tk : Int32) (u j : Nat) : Bool := !(us M j && inT u (pM M j)) || alw k c (pM M j) tk
theorem MT_all {M : Mem} {L : List Nat} {τ : Tr} {B : Nat} (h : MT M L τ B) (f : Nat → Bool) : (List.range' 0 60).all (fun j => !(us M j) || f j) = L.all f := by
  rw [Bool.eq_iff_iff, List.all_eq_true, List.all_eq_true]
  constructor
  · intro g k hk
    obtain ⟨h1, h2⟩ := (MT_in h).mp hk
    have := g k (by rw [List.mem_range']; exact ⟨k, h1, by omega⟩)
    simpa [h2] using this
  · intro g k hk
    rw [List.mem_range'] at hk
    obtain ⟨i, hi, e⟩ := hk
    cases q : us M k
    · simp
    · simpa using g k ((MT_in h).mpr ⟨by omega, q⟩)
/-- a client may change all at a path and below it -/
def alT (k : Lk) (τ : Tr) (c : Int32) (u : Nat) (tk : Int32) : Bool := (ta τ).all (fun p => !inT u p || alw k c p tk)
theorem all_map {α β : Type} (f : α → β) (g : β → Bool) (l : List α) : (l.map f).all g = l.all (fun x => g (f x)) := by
  induction l with
  | nil => rfl
  | cons a l ih => simp only [List.map_cons, List.all_cons, ih]
theorem perm_all {α : Type} {a c : List α} (h : a.Perm c) (f : α → Bool) : a.all f = c.all f := by
  rw [Bool.eq_iff_iff, List.all_eq_true, List.all_eq_true]
  exact ⟨fun g x hx => g x (h.mem_iff.mpr hx), fun g x hx => g x (h.mem_iff.mp hx)⟩
theorem filter_map_len {α β : Type} (f : α → β) (g : β → Bool) (l : List α) : ((l.map f).filter g).length = l.countP (fun x => g (f x)) := by
  rw [← List.countP_eq_length_filter, List.countP_map]
  rfl

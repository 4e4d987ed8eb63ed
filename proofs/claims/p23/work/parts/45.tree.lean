/-! ===== the tree: all paths (their order counts among the members of one collection alone), kind, content, number of versions, versions, by path ===== -/
abbrev Tr : Type := List Nat × (Nat → Int32) × (Nat → Int32) × (Nat → Nat) × (Nat → Nat → Int32)
abbrev ta (τ : Tr) : List Nat := τ.1
abbrev td (τ : Tr) : Nat → Int32 := τ.2.1
abbrev tc (τ : Tr) : Nat → Int32 := τ.2.2.1
abbrev tn (τ : Tr) : Nat → Nat := τ.2.2.2.1
abbrev tv (τ : Tr) : Nat → Nat → Int32 := τ.2.2.2.2
def par (q p : Nat) : Bool := decide (p / 10 = q)
/-- alike: each collection has the same members in the same order -/
def eqv (a c : List Nat) : Prop := ∀ q, a.filter (par q) = c.filter (par q)
theorem eqv_rf (a : List Nat) : eqv a a := fun _ => rfl
theorem eqv_sy {a c : List Nat} (h : eqv a c) : eqv c a := fun q => (h q).symm
theorem eqv_tr {a c d : List Nat} (h : eqv a c) (g : eqv c d) : eqv a d := fun q => (h q).trans (g q)
theorem eqv_mem {a c : List Nat} (h : eqv a c) (p : Nat) : p ∈ a ↔ p ∈ c := by
  have e : ∀ l : List Nat, p ∈ l ↔ p ∈ l.filter (par (p / 10)) := fun l => by rw [List.mem_filter]; simp [par]
  rw [e a, e c, h]
theorem eqv_perm {a c : List Nat} (h : eqv a c) : a.Perm c := by
  rw [List.perm_iff_count]
  intro p
  have e : ∀ l : List Nat, l.count p = (l.filter (par (p / 10))).count p := fun l => by
    rw [List.count_filter]; simp [par]
  rw [e a, e c, h]
theorem eqv_filter {a c : List Nat} (h : eqv a c) (G : Nat → Bool) : eqv (a.filter G) (c.filter G) := fun q => by
  rw [List.filter_filter, List.filter_filter]
  have e : ∀ l : List Nat, l.filter (fun x => par q x && G x) = (l.filter (par q)).filter G := fun l => by
    rw [List.filter_filter]
    congr 1
    funext x
    exact Bool.and_comm _ _
  rw [e a, e c, h]
theorem eqv_app {a c a' c' : List Nat} (h : eqv a c) (g : eqv a' c') : eqv (a ++ a') (c ++ c') := fun q => by
  rw [List.filter_append, List.filter_append, h, g]
/-- the class's rows: those that are there, and the spare ones -/
def IC (M : Mem) (L sp : List Nat) : Prop :=
  M 2 0 = nI L.length ∧ (L ++ sp).length = 60 ∧ (L ++ sp).Nodup ∧ (∀ r ∈ L ++ sp, r < 60) ∧ ∀ j r, (L ++ sp)[j]? = some r → M 3 j = nI r
def pC (M : Mem) (r : Nat) : Nat := (M 4 r).toNatClampNeg
/-- a file or a collection; no content and no kept one is -1 -/
def okd (d : Int32) (τ : Tr) (p : Nat) : Prop := (d = 1 ∨ d = 2) ∧ tc τ p ≠ -1 ∧ ∀ j, j < tn τ p → tv τ p j ≠ -1
def dat (d c n : Int32) (v : Nat → Int32) (τ : Tr) (p : Nat) : Prop := d = td τ p ∧ okd d τ p ∧ c = tc τ p ∧ n = nI (tn τ p) ∧ tn τ p ≤ 10 ∧ ∀ j, j < tn τ p → v j = tv τ p j
def TC (M : Mem) (L sp : List Nat) (τ : Tr) : Prop :=
  IC M L sp ∧ (∀ r ∈ L, M 4 r = nI (pC M r) ∧ 0 < pC M r ∧ pC M r ≤ 9999) ∧ eqv (L.map (pC M)) (ta τ) ∧ (ta τ).Nodup ∧ ∀ r ∈ L, dat (M 5 r) (M 6 r) (M 8 r) (M (100 + r)) τ (pC M r)
theorem IC_len {M : Mem} {L sp : List Nat} (h : IC M L sp) : L.length ≤ 60 := by
  have := h.2.1
  rw [List.length_append] at this
  omega
theorem IC_at {M : Mem} {L1 L2 sp : List Nat} {r : Nat} (h : IC M (L1 ++ r :: L2) sp) : M 3 L1.length = nI r ∧ rk M L1.length = r ∧ r < 60 ∧ L1.length < 60 := by
  have h1 : ((L1 ++ r :: L2) ++ sp)[L1.length]? = some r := by simp
  have h2 := h.2.2.2.2 _ _ h1
  have h3 : r < 60 := h.2.2.2.1 r (by simp)
  refine ⟨h2, ?_, h3, ?_⟩
  · unfold rk; rw [h2, cl' (by omega)]
  · have := IC_len h
    simp only [List.length_append, List.length_cons] at this
    omega
theorem TC_mem {M : Mem} {L sp : List Nat} {τ : Tr} (h : TC M L sp τ) {p : Nat} : p ∈ ta τ ↔ ∃ r ∈ L, pC M r = p := by
  rw [← eqv_mem h.2.2.1, List.mem_map]
theorem TC_pos {M : Mem} {L sp : List Nat} {τ : Tr} (h : TC M L sp τ) {p : Nat} (hp : p ∈ ta τ) : 0 < p ∧ p ≤ 9999 := by
  obtain ⟨r, hr, rfl⟩ := (TC_mem h).mp hp
  exact (h.2.1 r hr).2
theorem TC_nd {M : Mem} {L sp : List Nat} {τ : Tr} (h : TC M L sp τ) : (L.map (pC M)).Nodup := (eqv_perm h.2.2.1).nodup_iff.mpr h.2.2.2.1
/-- a row of one loop step: the facts at the place behind L1 -/
theorem TC_at {M : Mem} {L1 L2 sp : List Nat} {r : Nat} {τ : Tr} (h : TC M (L1 ++ r :: L2) sp τ) : rk M L1.length = r ∧ r < 60 ∧ L1.length < 60 ∧ M 4 r = nI (pC M r) ∧ 0 < pC M r ∧ pC M r ≤ 9999 ∧ M 2 0 = nI (L1 ++ r :: L2).length ∧ (L1 ++ r :: L2).length ≤ 60 ∧ L1.length < (L1 ++ r :: L2).length := by
  obtain ⟨-, h2, h3, h4⟩ := IC_at h.1
  obtain ⟨g1, g2, g3⟩ := h.2.1 r (by simp)
  exact ⟨h2, h3, h4, g1, g2, g3, h.1.1, IC_len h.1, by simp⟩
theorem pathAtC {M : Mem} {L1 L2 sp : List Nat} {r : Nat} {τ : Tr} (h : TC M (L1 ++ r :: L2) sp τ) : f_X3_pathAt M (nI L1.length) = some (nI (pC M r), M) := by
  obtain ⟨h1, h2, h3, h4, h5, h6, h7, h8, h9⟩ := TC_at h
  unfold f_X3_pathAt f_X3_pathAt_0
  rw [h7, if_neg (nI_pos (by omega))]
  simp only [le' (show (L1 ++ r :: L2).length < 2147483648 by omega) (show L1.length < 2147483648 by omega)]
  rw [if_neg (by omega), l60 h3, gi h3 (by decide), cl' (by omega), h1, if_neg (by omega), h4]
theorem isGoingAtC {M : Mem} {L1 L2 sp : List Nat} {r : Nat} {τ : Tr} (h : TC M (L1 ++ r :: L2) sp τ) {g : Bool} (hg : M 7 r = b2i g) : f_X3_isGoingAt M (nI L1.length) = some (b2i g, M) := by
  obtain ⟨h1, h2, h3, h4, h5, h6, h7, h8, h9⟩ := TC_at h
  unfold f_X3_isGoingAt f_X3_isGoingAt_0
  rw [h7, if_neg (nI_pos (by omega))]
  simp only [le' (show (L1 ++ r :: L2).length < 2147483648 by omega) (show L1.length < 2147483648 by omega)]
  rw [if_neg (by omega), g60 h3, gi h3 (by decide), cl' (by omega), h1, if_neg (by omega), hg]
  cases g <;> rfl
theorem step1 (L1 : List Nat) (r : Nat) : nI L1.length + 1 = nI (L1 ++ [r]).length := by rw [nI_1, List.length_append]; rfl
/-! ===== the class reads its rows ===== -/
theorem indexOfC_no {M : Mem} {sp : List Nat} {τ : Tr} {p : Nat} (hp : p ≤ 9999) : ∀ (L2 L1 : List Nat) (n : Nat), TC M (L1 ++ L2) sp τ → L2.length < n → (∀ r ∈ L2, pC M r ≠ p) → f_X3_indexOf_2 n M (nI p) (nI L1.length) = some (-1, M) := by
  intro L2
  induction L2 with
  | nil =>
    intro L1 n h hn _
    obtain ⟨n, rfl⟩ : ∃ j, n = j + 1 := ⟨n - 1, by omega⟩
    show f_X3_indexOf_2B (f_X3_indexOf_2 n) M (nI p) (nI L1.length) = _
    unfold f_X3_indexOf_2B
    rw [h.1.1, List.append_nil]
    have := IC_len h.1
    rw [List.append_nil] at this
    simp only [le' (show L1.length < 2147483648 by omega) (show L1.length < 2147483648 by omega)]
    rw [if_pos (Nat.le_refl _)]
  | cons r L2 ih =>
    intro L1 n h hn hne
    obtain ⟨n, rfl⟩ : ∃ j, n = j + 1 := ⟨n - 1, by simp at hn; omega⟩
    obtain ⟨h1, h2, h3, h4, h5, h6, h7, h8, h9⟩ := TC_at h
    show f_X3_indexOf_2B (f_X3_indexOf_2 n) M (nI p) (nI L1.length) = _
    unfold f_X3_indexOf_2B
    rw [h7]
    simp only [le' (show (L1 ++ r :: L2).length < 2147483648 by omega) (show L1.length < 2147483648 by omega)]
    rw [if_neg (by omega), g60 h3, gi h3 (by decide), cl' (by omega), h1, if_neg (by omega), h4]
    simp only [eq' (show pC M r < 2147483648 by omega) (show p < 2147483648 by omega)]
    rw [if_neg (hne r (by simp)), step1 L1 r]
    exact ih (L1 ++ [r]) n (by simpa using h) (by simp at hn; omega) (fun x hx => hne x (by simp [hx]))
theorem indexOfC_yes {M : Mem} {sp : List Nat} {τ : Tr} {p r0 : Nat} (hp : p ≤ 9999) (hr0 : pC M r0 = p) (R0 : List Nat) : ∀ (L2 L1 : List Nat) (n : Nat), TC M (L1 ++ L2 ++ r0 :: R0) sp τ → L2.length < n → f_X3_indexOf_2 n M (nI p) (nI L1.length) = some (nI (L1 ++ L2).length, M) := by
  intro L2
  induction L2 with
  | nil =>
    intro L1 n h hn
    obtain ⟨n, rfl⟩ : ∃ j, n = j + 1 := ⟨n - 1, by omega⟩
    rw [List.append_nil] at h
    obtain ⟨h1, h2, h3, h4, h5, h6, h7, h8, h9⟩ := TC_at h
    show f_X3_indexOf_2B (f_X3_indexOf_2 n) M (nI p) (nI L1.length) = _
    unfold f_X3_indexOf_2B
    rw [h7]
    simp only [le' (show (L1 ++ r0 :: R0).length < 2147483648 by omega) (show L1.length < 2147483648 by omega)]
    rw [if_neg (by omega), g60 h3, gi h3 (by decide), cl' (by omega), h1, if_neg (by omega), h4, hr0, if_pos rfl, List.append_nil]
  | cons r L2 ih =>
    intro L1 n h hn
    obtain ⟨n, rfl⟩ : ∃ j, n = j + 1 := ⟨n - 1, by simp at hn; omega⟩
    have h' : TC M (L1 ++ r :: (L2 ++ r0 :: R0)) sp τ := by simpa using h
    obtain ⟨h1, h2, h3, h4, h5, h6, h7, h8, h9⟩ := TC_at h'
    have hne : pC M r ≠ p := by
      have nd := TC_nd h'
      simp only [List.map_append, List.map_cons, List.nodup_append, List.nodup_cons] at nd
      intro z
      have := nd.2.1.1
      apply this
      rw [z, ← hr0]
      simp
    show f_X3_indexOf_2B (f_X3_indexOf_2 n) M (nI p) (nI L1.length) = _
    unfold f_X3_indexOf_2B
    rw [h7]
    simp only [le' (show (L1 ++ r :: (L2 ++ r0 :: R0)).length < 2147483648 by omega) (show L1.length < 2147483648 by omega)]
    rw [if_neg (by omega), g60 h3, gi h3 (by decide), cl' (by omega), h1, if_neg (by omega), h4]
    simp only [eq' (show pC M r < 2147483648 by omega) (show p < 2147483648 by omega)]
    rw [if_neg hne, step1 L1 r]
    have := ih (L1 ++ [r]) n (by simpa using h) (by simp at hn; omega)
    simpa using this
theorem find_no {M : Mem} {L sp : List Nat} {τ : Tr} (h : TC M L sp τ) {p : Nat} (hp : p ≤ 9999) (hn : p ∉ ta τ) : f_X3_indexOf M (nI p) = some (-1, M) ∧ f_X3_find M (nI p) = some (none, M) := by
  have e : f_X3_indexOf M (nI p) = some (-1, M) := by
    unfold f_X3_indexOf f_X3_indexOf_0
    have := IC_len h.1
    exact indexOfC_no hp L [] 64 h (by omega) (fun r hr z => hn ((TC_mem h).mpr ⟨r, hr, z⟩))
  refine ⟨e, ?_⟩
  unfold f_X3_find f_X3_find_0
  rw [e, bd2_s, if_pos (by decide)]
theorem find_yes {M : Mem} {L sp : List Nat} {τ : Tr} (h : TC M L sp τ) {p : Nat} (hy : p ∈ ta τ) : ∃ (L1 L2 : List Nat) (r : Nat), L = L1 ++ r :: L2 ∧ pC M r = p ∧ r < 60 ∧ f_X3_indexOf M (nI p) = some (nI L1.length, M) ∧ f_X3_find M (nI p) = some (some r, M) := by
  obtain ⟨r, hr, hp⟩ := (TC_mem h).mp hy
  obtain ⟨L1, L2, rfl⟩ := List.append_of_mem hr
  obtain ⟨h1, h2, h3, h4, h5, h6, h7, h8, h9⟩ := TC_at h
  have e : f_X3_indexOf M (nI p) = some (nI L1.length, M) := by
    unfold f_X3_indexOf f_X3_indexOf_0
    have := indexOfC_yes (M := M) (sp := sp) (τ := τ) (p := p) (r0 := r) (by omega) hp L2 L1 [] 64 (by simpa using h) (by omega)
    rw [List.nil_append] at this
    exact this
  refine ⟨L1, L2, r, rfl, hp, h2, e, ?_⟩
  unfold f_X3_find f_X3_find_0
  rw [e, bd2_s]
  simp only [gi h3 (show 60 < 2147483648 by decide)]
  simp only [cl' (show L1.length < 2147483648 by omega), h1]
  rw [if_neg (nI_pos (by omega)), l60 h3, if_neg (by omega)]
def tk (τ : Tr) (p : Nat) : Int32 := if p = 0 then 2 else if p ∈ ta τ then td τ p else -1
theorem kindAtC {M : Mem} {L sp : List Nat} {τ : Tr} (h : TC M L sp τ) {p : Nat} (hp : p ≤ 9999) : f_X3_kindAt M (nI p) = some (tk τ p, M) := by
  unfold f_X3_kindAt f_X3_kindAt_0 tk
  simp only [ze (show p < 2147483648 by omega)]
  by_cases h0 : p = 0
  · rw [if_pos h0, if_pos h0]
  · rw [if_neg h0, if_neg h0]
    by_cases hy : p ∈ ta τ
    · obtain ⟨L1, L2, r, rfl, e1, e2, -, e3⟩ := find_yes h hy
      rw [e3, bd2_s, oe_1, if_neg (by omega), if_pos hy, (h.2.2.2.2 r (by simp)).1, e1]
    · rw [(find_no h hp hy).2, bd2_s, oe_0, if_neg hy]
theorem isCollC {M : Mem} {L sp : List Nat} {τ : Tr} (h : TC M L sp τ) {p : Nat} (hp : p ≤ 9999) : f_X3_isCollection M (nI p) = some (b2i (decide (tk τ p = 2)), M) := by
  unfold f_X3_isCollection f_X3_isCollection_0
  rw [kindAtC h hp, bd2_s]
  by_cases q : tk τ p = 2 <;> simp [q, b2i]
theorem parentC (M : Mem) {p : Nat} (hp : p ≤ 9999) : f_X4_parentOf M (nI p) = some (nI (p / 10), M) := by
  unfold f_X4_parentOf f_X4_parentOf_0
  rw [div10 (by omega)]
theorem file_yes {M : Mem} {L sp : List Nat} {τ : Tr} (h : TC M L sp τ) {p : Nat} (hy : p ∈ ta τ) (hf : td τ p = 1) : ∃ r ∈ L, pC M r = p ∧ r < 60 ∧ f_X3_findFile M (nI p) = some (some r, M) := by
  obtain ⟨L1, L2, r, rfl, e1, e2, -, e3⟩ := find_yes h hy
  refine ⟨r, by simp, e1, e2, ?_⟩
  unfold f_X3_findFile f_X3_findFile_0
  rw [e3, bd2_s, oe_1, if_neg (by omega), (h.2.2.2.2 r (by simp)).1, e1, if_pos hf]
theorem file_no {M : Mem} {L sp : List Nat} {τ : Tr} (h : TC M L sp τ) {p : Nat} (hp : p ≤ 9999) (hf : ¬ (p ∈ ta τ ∧ td τ p = 1)) : f_X3_findFile M (nI p) = some (none, M) := by
  unfold f_X3_findFile f_X3_findFile_0
  by_cases hy : p ∈ ta τ
  · obtain ⟨L1, L2, r, rfl, e1, e2, -, e3⟩ := find_yes h hy
    rw [e3, bd2_s, oe_1, if_neg (by omega), (h.2.2.2.2 r (by simp)).1, e1, if_neg (fun z => hf ⟨hy, z⟩)]
  · rw [(find_no h hp hy).2, bd2_s, oe_0]

/-! ===== makeCollection, put ===== -/
theorem nI_mul (a b : Nat) : nI a * nI b = nI (a * b) := (Int32.ofNat_mul a b).symm
def al2 (k : Lk) (c : Int32) (p : Nat) (tk : Int32) : Bool := alw k c p tk && alw k c (p / 10) tk
theorem allows2C {M : Mem} {k : Lk} (h : LC M k) (c : Int32) {p : Nat} (hp : p ≤ 9999) (tk : Int32) : f_X4_allowsWithParent M c (nI p) tk = some (b2i (al2 k c p tk), M) := by
  unfold f_X4_allowsWithParent f_X4_allowsWithParent_0 al2
  rw [allowsC h c hp tk, bd2_s, parentC M hp, bd2_s, allowsC h c (show p / 10 ≤ 9999 by omega) tk, bd2_s]
  cases alw k c p tk <;> cases alw k c (p / 10) tk <;> rfl
theorem okR_of {c x tk : Int32} (h : okR c x tk = true) : okC c = true ∧ okN x = true ∧ decide (0 ≤ tk) = true ∧ vpb x = true ∧ ∃ p : Nat, 0 < p ∧ p ≤ 9999 ∧ x = nI p := by
  unfold okR at h
  simp only [Bool.and_eq_true] at h
  refine ⟨h.1, h.2.1, h.2.2, ?_, okN_of h.2.1⟩
  have := h.2.1
  unfold okN at this
  simp only [Bool.and_eq_true] at this
  exact this.2
def oMk (k : Lk) (τ : Tr) (c : Int32) (p : Nat) (tks : Int32) : Int32 := if tk τ (p / 10) = 2 then (if p ∈ ta τ then 2 else if al2 k c p tks = true then (if (ta τ).length = 60 then 5 else 0) else 4) else 1
theorem TC_len {M : Mem} {L sp : List Nat} {τ : Tr} (h : TC M L sp τ) : L.length = (ta τ).length := by rw [← List.length_map (f := pC M), (eqv_perm h.2.2.1).length_eq]
theorem mkC {M : Mem} {L sp : List Nat} {τ : Tr} {k : Lk} (h : TC M L sp τ) (hk : LC M k) {c : Int32} {p : Nat} (hp : 0 < p ∧ p ≤ 9999) {tks : Int32} (hv : okR c (nI p) tks = true) : f_X4_makeCollection M c (nI p) tks = if oMk k τ c p tks = 0 then bd1 (f_X3_append M (nI p) 2 0) (fun M74 => some (.inr 0, M74)) else some (.inr (oMk k τ c p tks), M) := by
  obtain ⟨v1, v2, v3, -⟩ := okR_of hv
  have hlen := IC_len h.1
  unfold f_X4_makeCollection f_X4_makeCollection_0 oMk
  rw [reqClientC, v1, un_t, bdx_s, reqNameC, v2, un_t, bdx_s, reqNNC, v3, un_t, bdx_s, parentC M hp.2, bd2_s, isCollC h (show p / 10 ≤ 9999 by omega), bd2_s]
  simp only [b2i_0]
  by_cases q1 : tk τ (p / 10) = 2
  · rw [if_neg (by simpa using q1), if_pos q1]
    by_cases q2 : p ∈ ta τ
    · obtain ⟨L1, L2, r, -, -, e2, -, e3⟩ := find_yes h q2
      rw [e3, bd2_s, oe_1, if_neg (by omega), if_pos q2]
      rfl
    · rw [(find_no h hp.2 q2).2, bd2_s, oe_0, if_neg q2, allows2C hk c hp.2 tks, bd2_s]
      simp only [b2i_0]
      cases q3 : al2 k c p tks
      · rfl
      · rw [if_neg (by decide), if_pos rfl, h.1.1, TC_len h, show (60 : Int32) = nI 60 from rfl]
        simp only [lt' (show (ta τ).length < 2147483648 by rw [← TC_len h]; omega) (show 60 < 2147483648 by decide)]
        rw [TC_len h] at hlen
        by_cases q4 : (ta τ).length = 60
        · rw [if_neg (by omega), if_pos q4]; rfl
        · rw [if_pos (by omega), if_neg q4, if_pos rfl]
  · rw [if_pos (by simpa using q1), if_neg q1]
    rfl
theorem sp_cons {M : Mem} {L sp : List Nat} {τ : Tr} (h : TC M L sp τ) (hl : (ta τ).length < 60) : ∃ r sp', sp = r :: sp' := by
  have h1 := h.1.2.1
  rw [List.length_append, TC_len h] at h1
  cases sp with
  | nil => simp at h1; omega
  | cons r sp' => exact ⟨r, sp', rfl⟩
/-! put -/
def oPut (k : Lk) (τ : Tr) (c : Int32) (p : Nat) (ex tks : Int32) : Int32 :=
  if tk τ (p / 10) = 2 then (if tk τ p = 2 then 2 else if ex = -1 ∨ (p ∈ ta τ ∧ tc τ p = ex) then (if p ∈ ta τ then (if alw k c p tks = true then 0 else 4) else if al2 k c p tks = true then (if (ta τ).length = 60 then 5 else 0) else 4) else 3) else 1
theorem td_12 {M : Mem} {L sp : List Nat} {τ : Tr} (h : TC M L sp τ) {p : Nat} (hy : p ∈ ta τ) : td τ p = 1 ∨ td τ p = 2 := by
  obtain ⟨r, hr, e⟩ := (TC_mem h).mp hy
  have := h.2.2.2.2 r hr
  rw [← e, ← this.1]; exact this.2.1.1
theorem outC {M : Mem} {L sp : List Nat} {τ : Tr} {k : Lk} (h : TC M L sp τ) (hk : LC M k) {c : Int32} {p : Nat} (hp : 0 < p ∧ p ≤ 9999) {ex tks : Int32} : f_X4_outcomeOfWriting M c (nI p) ex tks = some (oPut k τ c p ex tks, M) := by
  have hlen := IC_len h.1
  rw [TC_len h] at hlen
  unfold f_X4_outcomeOfWriting f_X4_outcomeOfWriting_0 f_X4_outcomeOfWriting_60 oPut
  rw [parentC M hp.2, bd2_s, isCollC h (show p / 10 ≤ 9999 by omega), bd2_s, isCollC h hp.2, bd2_s]
  simp only [b2i_0, decide_eq_false_iff_not]
  by_cases q1 : tk τ (p / 10) = 2
  · rw [if_neg (by simpa using q1), if_pos q1]
    by_cases q2 : tk τ p = 2
    · rw [if_neg (by simpa using q2), if_pos q2]
    · rw [if_pos (by simpa using q2), if_neg q2]
      by_cases q3 : p ∈ ta τ
      · have hf : td τ p = 1 := by
          rcases td_12 h q3 with z | z
          · exact z
          · exact absurd (by unfold tk; rw [if_neg (by omega), if_pos q3, z]) q2
        obtain ⟨r, hr, e1, e2, e3⟩ := file_yes h q3 hf
        have ec := (h.2.2.2.2 r hr).2.2.1
        rw [e1] at ec
        rw [e3, bd2_s, oe_1, if_neg (by omega), ec, oe_1, allowsC hk c hp.2 tks, bd2_s, if_pos q3]
        simp only [b2i_0]
        by_cases q4 : ex = -1
        · rw [if_pos q4, if_pos (Or.inl q4)]
          cases alw k c p tks <;> rfl
        · rw [if_neg q4]
          by_cases q5 : tc τ p = ex
          · rw [if_pos q5, if_pos (Or.inr ⟨q3, q5⟩)]
            cases alw k c p tks <;> rfl
          · rw [if_neg q5, if_neg (fun z => z.elim q4 (fun w => q5 w.2))]
      · rw [file_no h hp.2 (fun z => q3 z.1), bd2_s, oe_0, oe_0, allows2C hk c hp.2 tks, bd2_s, if_neg q3, h.1.1, TC_len h, show (60 : Int32) = nI 60 from rfl]
        simp only [b2i_0, lt' (show (ta τ).length < 2147483648 by omega) (show 60 < 2147483648 by decide)]
        by_cases q4 : ex = -1
        · rw [if_pos q4, if_pos (Or.inl q4)]
          cases al2 k c p tks
          · rfl
          · by_cases q5 : (ta τ).length = 60
            · simp [q5]
            · simp [q5, show (ta τ).length < 60 by omega]
        · rw [if_neg q4, if_neg (fun z => z.elim q4 (fun w => q3 w.1))]
  · rw [if_pos (by simpa using q1), if_neg q1]
theorem ML_len {M : Mem} {L : List Nat} {τ : Tr} {B : Nat} (h : MT M L τ B) : (ta τ).length ≤ 60 := by
  have := h.1.length_eq
  rw [← (eqv_perm h.2.2.1).length_eq, List.length_map, this]
  exact Nat.le_trans (List.length_filter_le _ _) (by rw [List.length_range']; omega)
def twr (τ : Tr) (p : Nat) (ct : Int32) : Tr := if p ∈ ta τ then tcon τ p ct else tput τ p 1 ct
theorem oPut_0 {k : Lk} {τ : Tr} {c : Int32} {p : Nat} {ex tks : Int32} (hp : 0 < p) (h12 : p ∈ ta τ → td τ p = 1 ∨ td τ p = 2) (hlen : (ta τ).length ≤ 60) (h : oPut k τ c p ex tks = 0) : (p ∈ ta τ → td τ p = 1) ∧ (p ∉ ta τ → (ta τ).length < 60) := by
  unfold oPut at h
  by_cases q1 : tk τ (p / 10) = 2
  · rw [if_pos q1] at h
    by_cases q2 : tk τ p = 2
    · rw [if_pos q2] at h; exact absurd h (by decide)
    · rw [if_neg q2] at h
      refine ⟨fun hy => ?_, fun hn => ?_⟩
      · rcases h12 hy with z | z
        · exact z
        · exact absurd (by unfold tk; rw [if_neg (by omega), if_pos hy, z]) q2
      · by_cases q3 : ex = -1 ∨ (p ∈ ta τ ∧ tc τ p = ex)
        · rw [if_pos q3, if_neg hn] at h
          cases q4 : al2 k c p tks
          · rw [q4, if_neg (by decide)] at h; exact absurd h (by decide)
          · rw [q4, if_pos rfl] at h
            by_cases q5 : (ta τ).length = 60
            · rw [if_pos q5] at h; exact absurd h (by decide)
            · omega
        · rw [if_neg q3] at h; exact absurd h (by decide)
  · rw [if_neg q1] at h; exact absurd h (by decide)
theorem writeC {M : Mem} {L sp : List Nat} {τ : Tr} (h : TC M L sp τ) {p : Nat} (hp : 0 < p ∧ p ≤ 9999) (h1 : p ∈ ta τ → td τ p = 1) (h2 : p ∉ ta τ → (ta τ).length < 60) {ct : Int32} (hct : ct ≠ -1) : ∃ M1 L' sp', f_X4_write M (nI p) ct = some M1 ∧ TC M1 L' sp' (twr τ p ct) ∧ ∀ t, t < 2 ∨ 8 < t → M1 t = M t := by
  unfold f_X4_write f_X4_write_0 twr
  by_cases q : p ∈ ta τ
  · obtain ⟨r, hr, e1, e2, e3⟩ := file_yes h q (h1 q)
    have := TC_con h hr hct
    rw [e1] at this
    rw [e3, bd2_s, oe_1, if_neg (by omega), if_pos q]
    exact ⟨_, L, sp, rfl, this, fun t ht => mu_ne _ _ _ (by omega)⟩
  · obtain ⟨r, sp', rfl⟩ := sp_cons h (h2 q)
    obtain ⟨a1, a2⟩ := appendC h hp q (kd := 1) (Or.inl rfl) (ct := ct) hct
    rw [file_no h hp.2 (fun z => q z.1), bd2_s, oe_0, a1, bd1_s, if_neg q]
    exact ⟨_, _, _, rfl, a2, fun t ht => by rw [mu_ne _ _ _ (by omega), begC_ne _ _ _ _ _ (by omega)]⟩
def pvP (c x ct ex tks : Int32) : Bool := okR c x tks && (inR ct 0 999 && inR ex (-1) 999)
theorem ct_ne {ct : Int32} (h : inR ct 0 999 = true) : ct ≠ -1 := fun z => by
  rw [z] at h
  exact absurd h (by decide)
theorem ex_of {ex : Int32} (h : inR ex (-1) 999 = true) : ex = -1 ∨ 0 ≤ ex := by
  unfold inR at h
  simp only [Bool.and_eq_true, decide_eq_true_eq] at h
  by_cases q : (0 : Int32) ≤ ex
  · exact Or.inr q
  · left
    have q' := Int32.not_le.mp q
    rw [Int32.lt_iff_toInt_lt] at q'
    have h1 := h.1
    rw [Int32.le_iff_toInt_le] at h1
    apply Int32.toInt_inj.mp
    have e1 : (-1 : Int32).toInt = -1 := by decide
    have e0 : (0 : Int32).toInt = 0 := by decide
    rw [e1] at h1 ⊢
    rw [e0] at q'
    omega

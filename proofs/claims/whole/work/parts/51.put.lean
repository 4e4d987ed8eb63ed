/-! ===== makeCollection, put ===== -/
theorem nI_mul (a b : Nat) : nI a * nI b = nI (a * b) := (Int32.ofNat_mul a b).symm
def al2 (k : Lk) (c : Int32) (p : Nat) (tk : Int32) : Bool := alw k c p tk && alw k c (p / 10) tk
theorem allows2C {M : Mem} {k : Lk} (h : LC M k) (c : Int32) {p : Nat} (hp : p ≤ 9999) (tk : Int32) : f_X4_allowsWithParent M c (nI p) tk = some (b2i (al2 k c p tk), M) := by
  unfold f_X4_allowsWithParent f_X4_allowsWithParent_0 al2
  rw [allowsC h c hp tk, bd2_s, parentC M hp, bd2_s, allowsC h c (show p / 10 ≤ 9999 by omega) tk, bd2_s]
  cases alw k c p tk <;> cases alw k c (p / 10) tk <;> rfl
theorem mayMakeM {M : Mem} {k : Lk} (h : LM M k) (c : Int32) {p : Nat} (hp : p ≤ 9999) (tk : Int32) : f_X5_mayMake M c (nI p) tk = some (b2i (al2 k c p tk), M) := by
  unfold f_X5_mayMake f_X5_mayMake_0 al2
  rw [mayM h c hp tk, bd2_s, div10 (by omega), mayM h c (show p / 10 ≤ 9999 by omega) tk, bd2_s]
  cases alw k c p tk <;> cases alw k c (p / 10) tk <;> rfl
theorem okR_of {c x tk : Int32} (h : okR c x tk = true) : okC c = true ∧ okN x = true ∧ decide (0 ≤ tk) = true ∧ vpb x = true ∧ ∃ p : Nat, 0 < p ∧ p ≤ 9999 ∧ x = nI p := by
  unfold okR at h
  simp only [Bool.and_eq_true] at h
  refine ⟨h.1, h.2.1, h.2.2, ?_, okN_of h.2.1⟩
  have := h.2.1
  unfold okN at this
  simp only [Bool.and_eq_true] at this
  exact this.2
def oMk (k : Lk) (τ : Tr) (c : Int32) (p : Nat) (tks : Int32) : Int32 := if tk τ (p / 10) = 2 then (if p ∈ ta τ then 2 else if al2 k c p tks = true then (if (ta τ).length = 60 then 5 else 0) else 4) else 1
theorem TC_len {M : Mem} {L sp : List Nat} {τ : Tr} (h : TC M L sp τ) : L.length = (ta τ).length := by rw [← List.length_map (f := pC M), (eqv_perm h.2.2.1).length_eq]
theorem mkC {M : Mem} {L sp : List Nat} {τ : Tr} {k : Lk} (h : TC M L sp τ) (hk : LC M k) {c : Int32} {p : Nat} (hp : 0 < p ∧ p ≤ 9999) {tks : Int32} (hv : okR c (nI p) tks = true) : f_X4_makeCollection M c (nI p) tks = if oMk k τ c p tks = 0 then bd1 (f_X3_append M (nI p) 2 0) (fun M74 => some (.inr 0, M74)) else some (.inr (oMk k τ c p tks), M) := by
  obtain ⟨v1, v2, v3, -⟩ := okR_of hv
  have hlen := IC_len h.1
  unfold f_X4_makeCollection f_X4_makeCollection_0 oMk
  rw [reqClientC, v1, un_t, bdx_s, reqNameC, v2, un_t, bdx_s, reqNNC, v3, un_t, bdx_s, parentC M hp.2, bd2_s, isCollC h (show p / 10 ≤ 9999 by omega), bd2_s]
  simp only [b2i_0]
  by_cases q1 : tk τ (p / 10) = 2
  · rw [if_neg (by simpa using q1), if_pos q1]
    by_cases q2 : p ∈ ta τ
    · obtain ⟨L1, L2, r, -, -, e2, -, e3⟩ := find_yes h q2
      rw [e3, bd2_s, oe_1, if_neg (by omega), if_pos q2]
      rfl
    · rw [(find_no h hp.2 q2).2, bd2_s, oe_0, if_neg q2, allows2C hk c hp.2 tks, bd2_s]
      simp only [b2i_0]
      cases q3 : al2 k c p tks
      · rfl
      · rw [if_neg (by decide), if_pos rfl, h.1.1, TC_len h, show (60 : Int32) = nI 60 from rfl]
        simp only [lt' (show (ta τ).length < 2147483648 by rw [← TC_len h]; omega) (show 60 < 2147483648 by decide)]
        rw [TC_len h] at hlen
        by_cases q4 : (ta τ).length = 60
        · rw [if_neg (by omega), if_pos q4]; rfl
        · rw [if_pos (by omega), if_neg q4, if_pos rfl]
  · rw [if_pos (by simpa using q1), if_neg q1]
    rfl
theorem mkM {M : Mem} {L : List Nat} {τ : Tr} {B : Nat} {k : Lk} (h : MT (mu M 39 0 0) L τ B) (hk : LM (mu M 39 0 0) k) {c : Int32} {p : Nat} (hp : 0 < p ∧ p ≤ 9999) {tks : Int32} (hv : okR c (nI p) tks = true) : f_X5_makeCollection M c (nI p) tks = f_X5_makeCollection_68 (mu M 39 0 0) (nI p) (oMk k τ c p tks) := by
  unfold f_X5_makeCollection f_X5_makeCollection_0 oMk
  rw [isRightM, hv, bd2_s, if_neg (by decide), show thr true = 0 from rfl, div10 (by omega), kindsM h (show p / 10 ≤ 9999 by omega), bd2_s]
  by_cases q1 : tk τ (p / 10) = 2
  · rw [if_pos q1, if_pos q1]
    by_cases q2 : p ∈ ta τ
    · obtain ⟨s, -, e2, -, -, -, e3⟩ := place_yes h q2
      rw [e3, bd2_s, if_neg (nI_pos (by omega)), if_pos q2]
    · rw [place_no h hp.2 q2, bd2_s, if_pos (by decide), if_neg q2, mayMakeM hk c hp.2 tks, bd2_s]
      simp only [b2i_0]
      cases q3 : al2 k c p tks
      · rfl
      · have hlen : (ta τ).length ≤ 60 := by
          have := h.1.length_eq
          rw [← (eqv_perm h.2.2.1).length_eq, List.length_map, this]
          exact Nat.le_trans (List.length_filter_le _ _) (by rw [List.length_range']; omega)
        rw [if_neg (by decide), if_pos rfl, countM h, bd2_s, show (60 : Int32) = nI 60 from rfl]
        simp only [eq' (show (ta τ).length < 2147483648 by omega) (show 60 < 2147483648 by decide)]
        by_cases q4 : (ta τ).length = 60
        · rw [if_pos q4, if_pos q4]
        · rw [if_neg q4, if_neg q4]
  · rw [if_neg q1, if_neg q1]
theorem sp_cons {M : Mem} {L sp : List Nat} {τ : Tr} (h : TC M L sp τ) (hl : (ta τ).length < 60) : ∃ r sp', sp = r :: sp' := by
  have h1 := h.1.2.1
  rw [List.length_append, TC_len h] at h1
  cases sp with
  | nil => simp at h1; omega
  | cons r sp' => exact ⟨r, sp', rfl⟩
theorem st_makeCollection {M : Mem} {L sp Lm : List Nat} {τ : Tr} {k : Lk} {F G : List Nat} {B : Nat} (h : Iv M L sp Lm τ k F G B) (hB : B + 200 ≤ 1000000) (c x tks : Int32) : ∃ M2, agree M M2 (fun m => f_L_makeCollection m c x tks) (fun m => f_X5_makeCollection m c x tks) ∧ Inv M2 (B + 200) := by
  have h' := Iv_le h (show B ≤ B + 200 by omega) hB
  cases hv : okR c x tks
  · refine ⟨mu M 39 0 1, ag_T (q := 1) (v := 0) (M1 := M) (wT_makeCollection_A (M1 := M) ?_) ?_ (at39 _ _) (by decide), ⟨_, _, _, _, _, _, _, Iv_mu h' (by decide) _ _⟩⟩
    · unfold f_X4_makeCollection f_X4_makeCollection_0
      unfold okR at hv
      rw [reqClientC]
      simp only [reqNameC, reqNNC]
      cases h1 : okC c
      · rfl
      · cases h2 : okN x
        · rfl
        · rw [h1, h2, Bool.true_and, Bool.true_and] at hv; rw [hv]; rfl
    · show f_X5_makeCollection M c x tks = _
      unfold f_X5_makeCollection f_X5_makeCollection_0
      rw [isRightM, hv]; rfl
  · obtain ⟨-, -, -, -, p, hp0, hp, rfl⟩ := okR_of hv
    by_cases ho : oMk k τ c p tks = 0
    · have hn : p ∉ ta τ ∧ (ta τ).length < 60 := by
        have hlen := IC_len h.1.1
        rw [TC_len h.1] at hlen
        unfold oMk at ho
        by_cases q1 : tk τ (p / 10) = 2
        · rw [if_pos q1] at ho
          by_cases q2 : p ∈ ta τ
          · rw [if_pos q2] at ho; exact absurd ho (by decide)
          · rw [if_neg q2] at ho
            refine ⟨q2, ?_⟩
            cases q3 : al2 k c p tks
            · rw [q3, if_neg (by decide)] at ho; exact absurd ho (by decide)
            · rw [q3, if_pos rfl] at ho
              by_cases q4 : (ta τ).length = 60
              · rw [if_pos q4] at ho; exact absurd ho (by decide)
              · omega
        · rw [if_neg q1] at ho; exact absurd ho (by decide)
      obtain ⟨r, sp', rfl⟩ := sp_cons h.1 hn.2
      obtain ⟨a1, a2⟩ := appendC h.1 ⟨hp0, hp⟩ hn.1 (kd := 2) (Or.inr rfl) (ct := 0) (by decide)
      have eC := mkC h.1 h.2.2.1 ⟨hp0, hp⟩ hv
      rw [if_pos ho, a1, bd1_s] at eC
      have hs1 : ∀ t, t < 2 ∨ 8 < t → mu (begC M r p 2 0) 2 0 (nI (L.length + 1)) t = M t := fun t ht => by rw [mu_ne _ _ _ (by omega), begC_ne _ _ _ _ _ (by omega)]
      generalize mu (begC M r p 2 0) 2 0 (nI (L.length + 1)) = M1 at eC a2 hs1
      have hN : ∀ t, t < 2 ∨ (8 < t ∧ t < 39) → mu (mu M1 40 0 0) 39 0 0 t = M t := fun t ht => by rw [mu_ne _ _ _ (by omega), mu_ne _ _ _ (by omega), hs1 t (by omega)]
      have hm : MT (mu (mu M1 40 0 0) 39 0 0) Lm τ B := MT_cong h.2.1 (fun t _ _ => hN t (by omega))
      have hk : LM (mu (mu M1 40 0 0) 39 0 0) k := LM_cong h.2.2.2.1 (fun t _ _ => hN t (by omega))
      have eM := mkM hm hk ⟨hp0, hp⟩ hv
      obtain ⟨s, b1, b2, b3, b4, b5⟩ := makesM hm (by omega) hn.2 ⟨hp0, hp⟩ hn.1 (kd := 2) (Or.inr rfl) (ct := 0) (by decide)
      unfold f_X5_makeCollection_68 at eM
      rw [if_pos ho, b3, bd2_s, ho] at eM
      refine ⟨_, ag_R (v := 0) (M1 := M1) (wR_makeCollection eC) eM ?_ ?_, ⟨L ++ [r], sp', Lm ++ [s], tput τ p 2 0, k, F, G, TC_cong a2 (fun t ht => ?_), MT_le b5 (by omega) hB, LC_cong h.2.2.1 (fun t _ _ => ?_), LM_cong hk (fun t _ _ => ?_), FL_cong h.2.2.2.2 (fun t ht => ?_)⟩⟩
      · rw [MK_ne _ _ _ _ _ (by omega), at39]
      · rw [MK_ne _ _ _ _ _ (by omega), at40]
      · rw [MK_ne _ _ _ _ _ (by omega), mu_ne _ _ _ (by omega), mu_ne _ _ _ (by omega)]
      · rw [MK_ne _ _ _ _ _ (by omega), hN t (by omega)]
      · rw [MK_ne _ _ _ _ _ (by omega)]
      · rw [MK_ne _ _ _ _ _ (by omega), hN t (by omega)]
    · have eC := mkC h.1 h.2.2.1 ⟨hp0, hp⟩ hv
      rw [if_neg ho] at eC
      have h40 := Iv_mu h' (t := 40) (by decide) 0 (oMk k τ c p tks)
      have h39 := Iv_mu h40 (t := 39) (by decide) 0 0
      have eM := mkM h39.2.1 h39.2.2.2.1 ⟨hp0, hp⟩ hv
      unfold f_X5_makeCollection_68 at eM
      rw [if_neg ho] at eM
      exact ⟨_, ag_R (v := oMk k τ c p tks) (M1 := M) (wR_makeCollection eC) eM (at39 _ _) (at40 _ _ _), ⟨_, _, _, _, _, _, _, h39⟩⟩
/-! put -/
def oPut (k : Lk) (τ : Tr) (c : Int32) (p : Nat) (ex tks : Int32) : Int32 :=
  if tk τ (p / 10) = 2 then (if tk τ p = 2 then 2 else if ex = -1 ∨ (p ∈ ta τ ∧ tc τ p = ex) then (if p ∈ ta τ then (if alw k c p tks = true then 0 else 4) else if al2 k c p tks = true then (if (ta τ).length = 60 then 5 else 0) else 4) else 3) else 1
theorem td_12 {M : Mem} {L sp : List Nat} {τ : Tr} (h : TC M L sp τ) {p : Nat} (hy : p ∈ ta τ) : td τ p = 1 ∨ td τ p = 2 := by
  obtain ⟨r, hr, e⟩ := (TC_mem h).mp hy
  have := h.2.2.2.2 r hr
  rw [← e, ← this.1]; exact this.2.1.1
theorem outC {M : Mem} {L sp : List Nat} {τ : Tr} {k : Lk} (h : TC M L sp τ) (hk : LC M k) {c : Int32} {p : Nat} (hp : 0 < p ∧ p ≤ 9999) {ex tks : Int32} : f_X4_outcomeOfWriting M c (nI p) ex tks = some (oPut k τ c p ex tks, M) := by
  have hlen := IC_len h.1
  rw [TC_len h] at hlen
  unfold f_X4_outcomeOfWriting f_X4_outcomeOfWriting_0 f_X4_outcomeOfWriting_60 oPut
  rw [parentC M hp.2, bd2_s, isCollC h (show p / 10 ≤ 9999 by omega), bd2_s, isCollC h hp.2, bd2_s]
  simp only [b2i_0, decide_eq_false_iff_not]
  by_cases q1 : tk τ (p / 10) = 2
  · rw [if_neg (by simpa using q1), if_pos q1]
    by_cases q2 : tk τ p = 2
    · rw [if_neg (by simpa using q2), if_pos q2]
    · rw [if_pos (by simpa using q2), if_neg q2]
      by_cases q3 : p ∈ ta τ
      · have hf : td τ p = 1 := by
          rcases td_12 h q3 with z | z
          · exact z
          · exact absurd (by unfold tk; rw [if_neg (by omega), if_pos q3, z]) q2
        obtain ⟨r, hr, e1, e2, e3⟩ := file_yes h q3 hf
        have ec := (h.2.2.2.2 r hr).2.2.1
        rw [e1] at ec
        rw [e3, bd2_s, oe_1, if_neg (by omega), ec, oe_1, allowsC hk c hp.2 tks, bd2_s, if_pos q3]
        simp only [b2i_0]
        by_cases q4 : ex = -1
        · rw [if_pos q4, if_pos (Or.inl q4)]
          cases alw k c p tks <;> rfl
        · rw [if_neg q4]
          by_cases q5 : tc τ p = ex
          · rw [if_pos q5, if_pos (Or.inr ⟨q3, q5⟩)]
            cases alw k c p tks <;> rfl
          · rw [if_neg q5, if_neg (fun z => z.elim q4 (fun w => q5 w.2))]
      · rw [file_no h hp.2 (fun z => q3 z.1), bd2_s, oe_0, oe_0, allows2C hk c hp.2 tks, bd2_s, if_neg q3, h.1.1, TC_len h, show (60 : Int32) = nI 60 from rfl]
        simp only [b2i_0, lt' (show (ta τ).length < 2147483648 by omega) (show 60 < 2147483648 by decide)]
        by_cases q4 : ex = -1
        · rw [if_pos q4, if_pos (Or.inl q4)]
          cases al2 k c p tks
          · rfl
          · by_cases q5 : (ta τ).length = 60
            · simp [q5]
            · simp [q5, show (ta τ).length < 60 by omega]
        · rw [if_neg q4, if_neg (fun z => z.elim q4 (fun w => q3 w.1))]
  · rw [if_pos (by simpa using q1), if_neg q1]
theorem ML_len {M : Mem} {L : List Nat} {τ : Tr} {B : Nat} (h : MT M L τ B) : (ta τ).length ≤ 60 := by
  have := h.1.length_eq
  rw [← (eqv_perm h.2.2.1).length_eq, List.length_map, this]
  exact Nat.le_trans (List.length_filter_le _ _) (by rw [List.length_range']; omega)
theorem putsM {M : Mem} {L : List Nat} {τ : Tr} {B : Nat} {k : Lk} (h : MT M L τ B) (hk : LM M k) {c : Int32} {p : Nat} (hp : 0 < p ∧ p ≤ 9999) {ex tks : Int32} (hex : ex = -1 ∨ 0 ≤ ex) : f_X5_puts M c (nI p) ex tks = some (oPut k τ c p ex tks, M) := by
  have hlen := ML_len h
  unfold f_X5_puts f_X5_puts_0 f_X5_puts_27 f_X5_puts_31 f_X5_puts_32 f_X5_puts_64 f_X5_puts_68 f_X5_puts_69 f_X5_puts_107 oPut
  rw [div10 (show p < 2147483648 by omega)]
  have hexn : (ex < 0) = (ex = -1) := by
    apply propext
    constructor
    · intro z; rcases hex with w | w
      · exact w
      · exact absurd z (Int32.not_lt.mpr w)
    · intro z; rw [z]; decide
  have h60 : (nI (ta τ).length = 60) = ((ta τ).length = 60) := eq' (b := 60) (by omega) (by decide)
  by_cases q3 : p ∈ ta τ
  · obtain ⟨s, e1, e2, e3, e4, e5, e6⟩ := place_yes h q3
    have ek : M 22 s = td τ p := by rw [← e4]; exact (h.2.2.2.2.1 s e1).1
    have ek2 : M 22 s = 1 ∨ M 22 s = 2 := (h.2.2.2.2.1 s e1).2.1.1
    have ec : M 23 s = tc τ p := by rw [← e4]; exact (h.2.2.2.2.1 s e1).2.2.1
    have hk2 : tk τ p = td τ p := by unfold tk; rw [if_neg (by omega), if_pos q3]
    rw [e6, bd2_s]
    simp only [gi e2 (show 60 < 2147483648 by decide)]
    simp only [mayM hk c hp.2 tks, mayM hk c (show p / 10 ≤ 9999 by omega) tks, kindsM h (show p / 10 ≤ 9999 by omega), countM h, bd2_s, b2i_0, hexn]
    simp only [neg' (show s < 2147483648 by omega), pos' (show s < 2147483648 by omega), if_false, if_true, cl' (show s < 2147483648 by omega), ek, ec, q3, true_and, hk2]
    rw [ek] at ek2
    by_cases q1 : tk τ (p / 10) = 2 <;> rcases ek2 with q2 | q2 <;> by_cases q4 : ex = -1 <;> by_cases q5 : tc τ p = ex <;> cases q6 : alw k c p tks <;> simp [q1, q2, q4, q5, q6]
  · have hk2 : ¬ tk τ p = 2 := by unfold tk; rw [if_neg (by omega), if_neg q3]; decide
    rw [place_no h hp.2 q3, bd2_s]
    simp only [mayM hk c hp.2 tks, mayM hk c (show p / 10 ≤ 9999 by omega) tks, kindsM h (show p / 10 ≤ 9999 by omega), countM h, bd2_s, b2i_0, hexn]
    simp only [show ((-1 : Int32) < 0) = True from eq_true (by decide), show ((0 : Int32) ≤ -1) = False from eq_false (by decide), if_true, if_false, hk2, q3, false_and, or_false, h60]
    unfold al2
    by_cases q1 : tk τ (p / 10) = 2 <;> by_cases q4 : ex = -1 <;> cases q6 : alw k c p tks <;> cases q7 : alw k c (p / 10) tks <;> by_cases q8 : (ta τ).length = 60 <;> simp [q1, q4, q6, q7, q8]
def twr (τ : Tr) (p : Nat) (ct : Int32) : Tr := if p ∈ ta τ then tcon τ p ct else tput τ p 1 ct
theorem oPut_0 {k : Lk} {τ : Tr} {c : Int32} {p : Nat} {ex tks : Int32} (hp : 0 < p) (h12 : p ∈ ta τ → td τ p = 1 ∨ td τ p = 2) (hlen : (ta τ).length ≤ 60) (h : oPut k τ c p ex tks = 0) : (p ∈ ta τ → td τ p = 1) ∧ (p ∉ ta τ → (ta τ).length < 60) := by
  unfold oPut at h
  by_cases q1 : tk τ (p / 10) = 2
  · rw [if_pos q1] at h
    by_cases q2 : tk τ p = 2
    · rw [if_pos q2] at h; exact absurd h (by decide)
    · rw [if_neg q2] at h
      refine ⟨fun hy => ?_, fun hn => ?_⟩
      · rcases h12 hy with z | z
        · exact z
        · exact absurd (by unfold tk; rw [if_neg (by omega), if_pos hy, z]) q2
      · by_cases q3 : ex = -1 ∨ (p ∈ ta τ ∧ tc τ p = ex)
        · rw [if_pos q3, if_neg hn] at h
          cases q4 : al2 k c p tks
          · rw [q4, if_neg (by decide)] at h; exact absurd h (by decide)
          · rw [q4, if_pos rfl] at h
            by_cases q5 : (ta τ).length = 60
            · rw [if_pos q5] at h; exact absurd h (by decide)
            · omega
        · rw [if_neg q3] at h; exact absurd h (by decide)
  · rw [if_neg q1] at h; exact absurd h (by decide)
theorem writeC {M : Mem} {L sp : List Nat} {τ : Tr} (h : TC M L sp τ) {p : Nat} (hp : 0 < p ∧ p ≤ 9999) (h1 : p ∈ ta τ → td τ p = 1) (h2 : p ∉ ta τ → (ta τ).length < 60) {ct : Int32} (hct : ct ≠ -1) : ∃ M1 L' sp', f_X4_write M (nI p) ct = some M1 ∧ TC M1 L' sp' (twr τ p ct) ∧ ∀ t, t < 2 ∨ 8 < t → M1 t = M t := by
  unfold f_X4_write f_X4_write_0 twr
  by_cases q : p ∈ ta τ
  · obtain ⟨r, hr, e1, e2, e3⟩ := file_yes h q (h1 q)
    have := TC_con h hr hct
    rw [e1] at this
    rw [e3, bd2_s, oe_1, if_neg (by omega), if_pos q]
    exact ⟨_, L, sp, rfl, this, fun t ht => mu_ne _ _ _ (by omega)⟩
  · obtain ⟨r, sp', rfl⟩ := sp_cons h (h2 q)
    obtain ⟨a1, a2⟩ := appendC h hp q (kd := 1) (Or.inl rfl) (ct := ct) hct
    rw [file_no h hp.2 (fun z => q z.1), bd2_s, oe_0, a1, bd1_s, if_neg q]
    exact ⟨_, _, _, rfl, a2, fun t ht => by rw [mu_ne _ _ _ (by omega), begC_ne _ _ _ _ _ (by omega)]⟩
def pvP (c x ct ex tks : Int32) : Bool := okR c x tks && (inR ct 0 999 && inR ex (-1) 999)
theorem putM_pv (M : Mem) (c x ct ex tks : Int32) : f_X5_put M c x ct ex tks = f_X5_put_52 (mu M 39 0 (thr (okR c x tks))) c x ct ex tks (b2i (pvP c x ct ex tks)) (thr (pvP c x ct ex tks)) := by
  unfold f_X5_put f_X5_put_0 f_X5_put_38 f_X5_put_39 pvP
  rw [isRightM, bd2_s, isRangeM, bd2_s, isRangeM, bd2_s]
  simp only [b2i_0]
  cases okR c x tks <;> cases inR ct 0 999 <;> cases inR ex (-1) 999 <;> rfl
theorem ct_ne {ct : Int32} (h : inR ct 0 999 = true) : ct ≠ -1 := fun z => by
  rw [z] at h
  exact absurd h (by decide)
theorem ex_of {ex : Int32} (h : inR ex (-1) 999 = true) : ex = -1 ∨ 0 ≤ ex := by
  unfold inR at h
  simp only [Bool.and_eq_true, decide_eq_true_eq] at h
  by_cases q : (0 : Int32) ≤ ex
  · exact Or.inr q
  · left
    have q' := Int32.not_le.mp q
    rw [Int32.lt_iff_toInt_lt] at q'
    have h1 := h.1
    rw [Int32.le_iff_toInt_le] at h1
    apply Int32.toInt_inj.mp
    have e1 : (-1 : Int32).toInt = -1 := by decide
    have e0 : (0 : Int32).toInt = 0 := by decide
    rw [e1] at h1 ⊢
    rw [e0] at q'
    omega
theorem st_put {M : Mem} {L sp Lm : List Nat} {τ : Tr} {k : Lk} {F G : List Nat} {B : Nat} (h : Iv M L sp Lm τ k F G B) (hB : B + 200 ≤ 1000000) (c x ct ex tks : Int32) : ∃ M2, agree M M2 (fun m => f_L_put m c x ct ex tks) (fun m => f_X5_put m c x ct ex tks) ∧ Inv M2 (B + 200) := by
  have h' := Iv_le h (show B ≤ B + 200 by omega) hB
  cases hv : pvP c x ct ex tks
  · have h39 := Iv_mu h' (t := 39) (by decide) 0 (thr (okR c x tks))
    refine ⟨mu (mu M 39 0 (thr (okR c x tks))) 39 0 1, ag_T (q := 1) (v := 0) (M1 := M) (wT_put_A (M1 := M) ?_) ?_ (at39 _ _) (by decide), ⟨_, _, _, _, _, _, _, Iv_mu h39 (by decide) _ _⟩⟩
    · unfold f_X4_put f_X4_put_0
      unfold pvP okR at hv
      rw [reqClientC]
      simp only [reqNameC, reqNNC, reqRangeC]
      cases h1 : okC c
      · rfl
      · cases h2 : okN x
        · rfl
        · cases h3 : inR ct 0 999
          · rfl
          · cases h4 : inR ex (-1) 999
            · rfl
            · rw [h1, h2, h3, h4] at hv
              have hv : decide ((0 : Int32) ≤ tks) = false := by simpa using hv
              rw [hv]; rfl
    · show f_X5_put M c x ct ex tks = _
      rw [putM_pv, hv]; rfl
  · have hv2 := hv
    unfold pvP at hv2
    simp only [Bool.and_eq_true] at hv2
    obtain ⟨v1, v2, v3, -, p, hp0, hp, rfl⟩ := okR_of hv2.1
    have eC : f_X4_put M c (nI p) ct ex tks = if oPut k τ c p ex tks = 0 then bd1 (f_X4_write M (nI p) ct) (fun M50 => some (.inr (oPut k τ c p ex tks), M50)) else some (.inr (oPut k τ c p ex tks), M) := by
      unfold f_X4_put f_X4_put_0
      rw [reqClientC, v1, un_t, bdx_s, reqNameC, v2, un_t, bdx_s, reqRangeC, hv2.2.1, un_t, bdx_s, reqRangeC, hv2.2.2, un_t, bdx_s, reqNNC, v3, un_t, bdx_s, outC h.1 h.2.2.1 ⟨hp0, hp⟩, bd2_s]
    have hct : ct ≠ -1 := ct_ne hv2.2.1
    by_cases ho : oPut k τ c p ex tks = 0
    · obtain ⟨n1, n2⟩ := oPut_0 hp0 (fun hy => td_12 h.1 hy) (by rw [← TC_len h.1]; exact IC_len h.1.1) ho
      obtain ⟨M1, L', sp', a1, a2, hs1⟩ := writeC h.1 ⟨hp0, hp⟩ n1 n2 hct
      rw [if_pos ho, a1, bd1_s, ho] at eC
      have hN : ∀ t, t < 2 ∨ (8 < t ∧ t < 39) → mu (mu (mu M1 40 0 0) 39 0 0) 39 0 0 t = M t := fun t ht => by rw [mu_ne _ _ _ (by omega), mu_ne _ _ _ (by omega), mu_ne _ _ _ (by omega), hs1 t (by omega)]
      have hm : MT (mu (mu (mu M1 40 0 0) 39 0 0) 39 0 0) Lm τ B := MT_cong h.2.1 (fun t _ _ => hN t (by omega))
      have hk : LM (mu (mu (mu M1 40 0 0) 39 0 0) 39 0 0) k := LM_cong h.2.2.2.1 (fun t _ _ => hN t (by omega))
      have eM := putM_pv (mu M1 40 0 0) c (nI p) ct ex tks
      rw [hv, hv2.1, show thr true = 0 from rfl] at eM
      unfold f_X5_put_52 f_X5_put_103 at eM
      rw [if_neg (by decide), putsM hm hk ⟨hp0, hp⟩ (ex_of hv2.2.2), bd2_s, if_pos ho, ho] at eM
      have n39 : mu (mu (mu M1 40 0 0) 39 0 0) 39 0 0 39 0 = 0 := at39 _ _
      have n40 : mu (mu (mu M1 40 0 0) 39 0 0) 39 0 0 40 0 = 0 := by rw [mu_at _ _ _ (by decide), at40]
      have nC : ∀ t, (2 ≤ t ∧ t ≤ 8) ∨ 100 ≤ t → mu (mu (mu M1 40 0 0) 39 0 0) 39 0 0 t = M1 t := fun t ht => by rw [mu_ne _ _ _ (by omega), mu_ne _ _ _ (by omega), mu_ne _ _ _ (by omega)]
      generalize mu (mu (mu M1 40 0 0) 39 0 0) 39 0 0 = N at eM hN hm hk n39 n40 nC
      by_cases hy : p ∈ ta τ
      · obtain ⟨s, d1, d2, d3, d4, d5, d6⟩ := place_yes hm hy
        rw [d6, bd2_s, if_pos (nI_pos' (by omega)), gi d2 (by decide), cl' (by omega)] at eM
        have hm2 := MT_con hm d1 hct
        rw [d4] at hm2
        unfold twr at a2
        rw [if_pos hy] at a2
        refine ⟨_, ag_R (v := 0) (M1 := M1) (wR_put eC) eM ?_ ?_, ⟨L', sp', Lm, tcon τ p ct, k, F, G, TC_cong a2 (fun t ht => ?_), MT_le hm2 (by omega) hB, LC_cong h.2.2.1 (fun t _ _ => ?_), LM_cong hk (fun t _ _ => ?_), FL_cong h.2.2.2.2 (fun t ht => ?_)⟩⟩
        · rw [mu_at _ _ _ (by decide), n39]
        · rw [mu_at _ _ _ (by decide), n40]
        · rw [mu_ne _ _ _ (by omega), nC t ht]
        · rw [mu_ne _ _ _ (by omega), hN t (by omega)]
        · rw [mu_ne _ _ _ (by omega)]
        · rw [mu_ne _ _ _ (by omega), hN t (by omega)]
      · obtain ⟨s, b1, b2, b3, b4, b5⟩ := makesM hm (by omega) (n2 hy) ⟨hp0, hp⟩ hy (kd := 1) (Or.inl rfl) (ct := 0) (by decide)
        have hm2 := MT_con b5 (s := s) (by simp) hct
        rw [b4, tcon_tput] at hm2
        rw [place_no hm hp hy, bd2_s, if_neg (by decide), b3, bd2_s, gi b1 (by decide), cl' (by omega)] at eM
        unfold twr at a2
        rw [if_neg hy] at a2
        refine ⟨_, ag_R (v := 0) (M1 := M1) (wR_put eC) eM ?_ ?_, ⟨L', sp', Lm ++ [s], tput τ p 1 ct, k, F, G, TC_cong a2 (fun t ht => ?_), MT_le hm2 (by omega) hB, LC_cong h.2.2.1 (fun t _ _ => ?_), LM_cong hk (fun t _ _ => ?_), FL_cong h.2.2.2.2 (fun t ht => ?_)⟩⟩
        · rw [mu_at _ _ _ (by decide), MK_ne _ _ _ _ _ (by omega), n39]
        · rw [mu_at _ _ _ (by decide), MK_ne _ _ _ _ _ (by omega), n40]
        · rw [mu_ne _ _ _ (by omega), MK_ne _ _ _ _ _ (by omega), nC t ht]
        · rw [mu_ne _ _ _ (by omega), MK_ne _ _ _ _ _ (by omega), hN t (by omega)]
        · rw [mu_ne _ _ _ (by omega), MK_ne _ _ _ _ _ (by omega)]
        · rw [mu_ne _ _ _ (by omega), MK_ne _ _ _ _ _ (by omega), hN t (by omega)]
    · rw [if_neg ho] at eC
      have h40 := Iv_mu h' (t := 40) (by decide) 0 (oPut k τ c p ex tks)
      have h39 := Iv_mu (Iv_mu h40 (t := 39) (by decide) 0 0) (t := 39) (by decide) 0 0
      have eM := putM_pv (mu M 40 0 (oPut k τ c p ex tks)) c (nI p) ct ex tks
      rw [hv, hv2.1, show thr true = 0 from rfl] at eM
      unfold f_X5_put_52 at eM
      rw [if_neg (by decide), putsM h39.2.1 h39.2.2.2.1 ⟨hp0, hp⟩ (ex_of hv2.2.2), bd2_s, if_neg ho] at eM
      exact ⟨_, ag_R (v := oPut k τ c p ex tks) (M1 := M) (wR_put eC) eM (at39 _ _) (by rw [mu_at _ _ _ (by decide), at40]), ⟨_, _, _, _, _, _, _, h39⟩⟩

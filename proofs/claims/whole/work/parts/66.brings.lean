/-! ===== what the reference answers to copy and move ===== -/
theorem all_fi {M : Mem} {L : List Nat} {τ : Tr} {B : Nat} (h : MT M L τ B) (f t : Nat) : (List.range' 0 60).all (fiF f t M) = fitT τ f t := by
  have e1 : (List.range' 0 60).all (fiF f t M) = (List.range' 0 60).all (fun j => !(us M j) || (!inT f (pM M j) || decide (mvp f t (pM M j) ≤ 9999))) := by
    congr 1
    funext j
    unfold fiF mkF
    cases us M j <;> cases inT f (pM M j) <;> simp
  rw [e1, MT_all h (fun j => !inT f (pM M j) || decide (mvp f t (pM M j) ≤ 9999)), ← all_map (pM M) (fun x => !inT f x || decide (mvp f t x ≤ 9999)), perm_all (eqv_perm h.2.2.1)]
  rfl
theorem cnt_mk {M : Mem} {L : List Nat} {τ : Tr} {B : Nat} (h : MT M L τ B) (f : Nat) : (List.range' 0 60).countP (mkF f M) = (ta τ).countP (inT f) := by
  have e := MT_cnt h (fun j => inT f (pM M j))
  rw [← (eqv_perm h.2.2.1).countP_eq, List.countP_map]
  exact e
def oCp (k : Lk) (τ : Tr) (c : Int32) (f t : Nat) (ow : Bool) (tks : Int32) : Int32 := if oTr k τ c f t ow tks = 0 then (if (ta τ).length - (ta τ).countP (inT t) + (ta τ).countP (inT f) ≤ 60 then 0 else 5) else oTr k τ c f t ow tks
def oMv (k : Lk) (τ : Tr) (c : Int32) (f t : Nat) (ow : Bool) (tks : Int32) : Int32 := if oTr k τ c f t ow tks = 0 then (if (alw k c (f / 10) tks && alT k τ c f tks) = true then 0 else 4) else oTr k τ c f t ow tks
def preT (τ : Tr) (f t : Nat) : Bool := decide (f ∈ ta τ) && decide (tk τ (t / 10) = 2)
theorem oTr_e (k : Lk) (τ : Tr) (c : Int32) (f t : Nat) (ow : Bool) (tks : Int32) : oTr k τ c f t ow tks = if (preT τ f t && fitT τ f t) = true then (if ow = false ∧ t ∈ ta τ then 2 else if (al2 k c t tks && alT k τ c t tks) = true then 0 else 4) else 1 := by
  unfold oTr preT
  by_cases q1 : f ∈ ta τ
  · by_cases q2 : tk τ (t / 10) = 2
    · cases q3 : fitT τ f t <;> simp [q1, q2]
    · simp [q2]
  · simp [q1]
theorem brE_copy {M : Mem} {L : List Nat} {τ : Tr} {B : Nat} {k : Lk} (h : MT M L τ B) (hk : LM M k) {c tks : Int32} {f t : Nat} (hf9 : f ≤ 9999) (ht9 : t ≤ 9999) (ow : Bool) : brE M c (nI f) (nI t) (b2i ow) tks 0 (b2i (preT τ f t && fitT τ f t)) (nI ((ta τ).countP (inT f))) (nI ((ta τ).countP (inT t))) = f_X5_brings_345 M (nI f) (nI t) 0 (oCp k τ c f t ow tks) := by
  have hlen := ML_len h
  have hc1 := List.countP_le_length (p := inT t) (l := ta τ)
  have hc2 := List.countP_le_length (p := inT f) (l := ta τ)
  unfold brE f_X5_brings_240 f_X5_brings_241 f_X5_brings_278 f_X5_brings_282 f_X5_brings_283 f_X5_brings_311 f_X5_brings_344 oCp
  have hsub : nI (ta τ).length - nI ((ta τ).countP (inT t)) = nI ((ta τ).length - (ta τ).countP (inT t)) := pk_sub (by omega)
  have hle : (nI ((ta τ).length - (ta τ).countP (inT t) + (ta τ).countP (inT f)) ≤ 60) = ((ta τ).length - (ta τ).countP (inT t) + (ta τ).countP (inT f) ≤ 60) := le' (b := 60) (by omega) (by decide)
  rw [oTr_e]
  by_cases q4 : t ∈ ta τ
  · obtain ⟨s, -, e2, -, -, -, e6⟩ := place_yes h q4
    simp only [mayMakeM hk c ht9 tks, mayAllM h hk c tks ht9, bd2_s, e6, countM h, hsub, nI_add, hle, neg' (show s < 2147483648 by omega), if_false, b2i_0]
    cases q1 : (preT τ f t && fitT τ f t) <;> cases ow <;> cases al2 k c t tks <;> cases alT k τ c t tks <;> by_cases q5 : (ta τ).length - (ta τ).countP (inT t) + (ta τ).countP (inT f) ≤ 60 <;> simp [q4, q5]
  · simp only [mayMakeM hk c ht9 tks, mayAllM h hk c tks ht9, bd2_s, place_no h ht9 q4, countM h, hsub, nI_add, hle, show ((-1 : Int32) < 0) = True from eq_true (by decide), if_true, b2i_0]
    cases q1 : (preT τ f t && fitT τ f t) <;> cases al2 k c t tks <;> cases alT k τ c t tks <;> by_cases q5 : (ta τ).length - (ta τ).countP (inT t) + (ta τ).countP (inT f) ≤ 60 <;> simp [q4, q5]
theorem brE_move {M : Mem} {L : List Nat} {τ : Tr} {B : Nat} {k : Lk} (h : MT M L τ B) (hk : LM M k) {c tks : Int32} {f t : Nat} (hf9 : f ≤ 9999) (ht9 : t ≤ 9999) (ow : Bool) (x9 x10 : Int32) : brE M c (nI f) (nI t) (b2i ow) tks 1 (b2i (preT τ f t && fitT τ f t)) x9 x10 = f_X5_brings_345 M (nI f) (nI t) 1 (oMv k τ c f t ow tks) := by
  unfold brE f_X5_brings_240 f_X5_brings_241 f_X5_brings_278 f_X5_brings_282 f_X5_brings_283 f_X5_brings_311 f_X5_brings_344 oMv
  rw [oTr_e, div10 (show f < 2147483648 by omega)]
  by_cases q4 : t ∈ ta τ
  · obtain ⟨s, -, e2, -, -, -, e6⟩ := place_yes h q4
    simp only [mayMakeM hk c ht9 tks, mayAllM h hk c tks ht9, mayM hk c (show f / 10 ≤ 9999 by omega) tks, mayAllM h hk c tks hf9, bd2_s, e6, neg' (show s < 2147483648 by omega), if_false, b2i_0, one_ne]
    cases q1 : (preT τ f t && fitT τ f t) <;> cases ow <;> cases al2 k c t tks <;> cases alT k τ c t tks <;> cases alw k c (f / 10) tks <;> cases alT k τ c f tks <;> simp [q4]
  · simp only [mayMakeM hk c ht9 tks, mayAllM h hk c tks ht9, mayM hk c (show f / 10 ≤ 9999 by omega) tks, mayAllM h hk c tks hf9, bd2_s, place_no h ht9 q4, show ((-1 : Int32) < 0) = True from eq_true (by decide), if_true, b2i_0, one_ne, if_false]
    cases q1 : (preT τ f t && fitT τ f t) <;> cases al2 k c t tks <;> cases alT k τ c t tks <;> cases alw k c (f / 10) tks <;> cases alT k τ c f tks <;> simp [q4]
theorem okN_nn {x : Int32} (h : okN x = true) : ∃ p : Nat, 0 < p ∧ p ≤ 9999 ∧ x = nI p := okN_of h
theorem bringsM_pv (M : Mem) (c x y o tks x6 : Int32) : f_X5_brings M c x y o tks x6 = f_X5_brings_57 (mu M 39 0 (thr (okR c x tks))) c x y o tks x6 (b2i (pvT c x y tks)) (thr (pvT c x y tks)) := by
  unfold f_X5_brings f_X5_brings_0 f_X5_brings_43 f_X5_brings_44 pvT
  rw [isRightM, bd2_s, isNameM, bd2_s]
  simp only [b2i_0]
  cases h1 : okR c x tks
  · rfl
  · cases h2 : okN y
    · rfl
    · obtain ⟨-, -, -, -, p, p0, p9, rfl⟩ := okR_of h1
      obtain ⟨q, q0, q9, rfl⟩ := okN_of h2
      rw [isAboveM _ (show p < 2147483648 by omega) q9, bd2_s, isAboveM _ (show q < 2147483648 by omega) p9, bd2_s, cl' (show p < 2147483648 by omega), cl' (show q < 2147483648 by omega)]
      simp only [eq' (show p < 2147483648 by omega) (show q < 2147483648 by omega), b2i_0]
      unfold inT
      by_cases z : p = q
      · simp [z, thr, b2i]
      · have z' : ¬ q = p := fun w => z w.symm
        cases abv p q <;> cases abv q p <;> simp [z, z', thr, b2i]
/-- up to the loop's end -/
theorem bringsM_run {N : Mem} {L : List Nat} {τ : Tr} {B : Nat} (h : MT (mu N 39 0 0) L τ B) {c tks x4 x6 : Int32} {f t : Nat} (hf : 0 < f) (hf9 : f ≤ 9999) (ht : 0 < t) (ht9 : t ≤ 9999) : ∃ M', f_X5_brings_57 N c (nI f) (nI t) x4 tks x6 1 0 = brE M' c (nI f) (nI t) x4 tks x6 (b2i (preT τ f t && fitT τ f t)) (nI ((ta τ).countP (inT f))) (nI ((ta τ).countP (inT t))) ∧ (∀ i, i < 60 → M' 37 i = b2i (mkF f (mu N 39 0 0) i)) ∧ same (mu N 39 0 0) M' (fun t => t = 37) := by
  unfold f_X5_brings_57 f_X5_brings_91 f_X5_brings_92
  rw [if_neg (by decide), div10 (by omega)]
  generalize mu N 39 0 0 = M at h ⊢
  have key : ∀ a : Bool, a = preT τ f t → ∃ M', f_X5_brings_103 64 M c (nI f) (nI t) x4 tks x6 (b2i a) 0 0 0 = brE M' c (nI f) (nI t) x4 tks x6 (b2i (preT τ f t && fitT τ f t)) (nI ((ta τ).countP (inT f))) (nI ((ta τ).countP (inT t))) ∧ (∀ i, i < 60 → M' 37 i = b2i (mkF f M i)) ∧ same M M' (fun t => t = 37) := fun a ha => by
    obtain ⟨M', a1, a2, a3⟩ := brM_103 (c := c) (tks := tks) (x4 := x4) (x6 := x6) hf hf9 ht ht9 60 64 0 M a 0 0 h (by omega) (by omega)
    rw [all_fi h, cnt_mk h, cnt_mk h, Nat.zero_add, Nat.zero_add, ha] at a1
    refine ⟨M', ?_, fun i hi => by rw [a2, if_pos ⟨by omega, hi⟩], a3⟩
    rw [ha]
    exact a1
  by_cases q1 : f ∈ ta τ
  · obtain ⟨s, -, e2, -, -, -, e6⟩ := place_yes h q1
    rw [e6, bd2_s, if_neg (nI_pos (by omega)), kindsM h (show t / 10 ≤ 9999 by omega), bd2_s]
    by_cases q2 : tk τ (t / 10) = 2
    · rw [if_pos q2]
      exact key true (by unfold preT; simp [q1, q2])
    · rw [if_neg q2]
      exact key false (by unfold preT; simp [q2])
  · rw [place_no h hf9 q1, bd2_s, if_pos (by decide)]
    exact key false (by unfold preT; simp [q1])
/-! lists of what is moved -/
theorem eqv_sel {a c : List Nat} (h : eqv a c) {g : Nat → Bool} (hg : ∀ x y, g x = true → g y = true → x / 10 = y / 10) : a.filter g = c.filter g := by
  by_cases hx : ∃ x, g x = true
  · obtain ⟨x0, hx0⟩ := hx
    have e : ∀ l : List Nat, l.filter g = (l.filter (par (x0 / 10))).filter g := fun l => by
      rw [List.filter_filter]
      congr 1
      funext y
      cases q : g y
      · rfl
      · have := hg y x0 q hx0
        simp [par, this]
    rw [e a, e c, h]
  · have e : ∀ l : List Nat, l.filter g = [] := fun l => by
      rw [List.filter_eq_nil_iff]
      intro y _ hy
      exact hx ⟨y, hy⟩
    rw [e a, e c]
theorem eqv_mv {a c : List Nat} (h : eqv a c) {f t : Nat} (hf : 0 < f) (ht : 0 < t) (h9 : ∀ p ∈ a, p ≤ 9999) : eqv ((a.filter (inT f)).map (mvp f t)) ((c.filter (inT f)).map (mvp f t)) := fun q => by
  have h9c : ∀ p ∈ c, p ≤ 9999 := fun p hp => h9 p ((eqv_mem h p).mpr hp)
  have e : ∀ l : List Nat, (∀ p ∈ l, p ≤ 9999) → ((l.filter (inT f)).map (mvp f t)).filter (par q) = (l.filter (fun x => inT f x && (par q (mvp f t x) && decide (x ≤ 9999)))).map (mvp f t) := fun l hl => by
    rw [← map_filter (mvp f t) (par q), List.filter_filter]
    congr 1
    apply List.filter_congr
    intro x hx
    simp [hl x hx]
    cases inT f x <;> cases par q (mvp f t x) <;> rfl
  rw [e a h9, e c h9c]
  congr 1
  refine eqv_sel h (fun x y hx hy => ?_)
  simp only [Bool.and_eq_true, decide_eq_true_eq] at hx hy
  refine mvp_par hf ht hx.2.2 hy.2.2 hx.1 hy.1 ?_
  have h1 : mvp f t x / 10 = q := by simpa [par] using hx.2.1
  have h2 : mvp f t y / 10 = q := by simpa [par] using hy.2.1
  omega

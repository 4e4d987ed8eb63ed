/-! ===== the reference takes away ===== -/
theorem MT_del {M M' : Mem} {L : List Nat} {τ : Tr} {B : Nat} (h : MT M L τ B) {s : Nat} (hs : s ∈ L) (g20 : ∀ x, M' 20 x = if x = s then 0 else M 20 x) (g : ∀ t, 21 ≤ t → t ≤ 27 → M' t = M t) : MT M' (L.filter (fun x => !decide (x = s))) ((L.filter (fun x => !decide (x = s))).map (pM M), τ.2) B := by
  have hndL := MT_ndL h
  have hnd := MT_nd h
  have hin := fun x => @MT_in M L τ B h x
  obtain ⟨h1, h2, h3, h4, h5, h6, h7, h8, h9, h10⟩ := h
  have ep : pM M' = pM M := by funext r; unfold pM; rw [g 21 (by omega) (by omega)]
  have er : rM M' = rM M := by funext r; unfold rM; rw [g 24 (by omega) (by omega)]
  have en : rn M' = rn M := by unfold rn; rw [g 25 (by omega) (by omega)]
  have hsub : ∀ x, x ∈ L.filter (fun x => !decide (x = s)) → x ∈ L := fun x hx => (List.mem_filter.mp hx).1
  unfold MT
  rw [ep, er, en, g 21 (by omega) (by omega), g 22 (by omega) (by omega), g 23 (by omega) (by omega), g 24 (by omega) (by omega), g 25 (by omega) (by omega), g 26 (by omega) (by omega), g 27 (by omega) (by omega)]
  refine ⟨MT_mk (List.Pairwise.filter _ hndL) (fun x => ?_), fun k hk => h2 k (hsub k hk), eqv_rf _, ?_, fun k hk => h5 k (hsub k hk), fun k hk => h6 k (hsub k hk), List.Pairwise.filter _ h7, h8, h9, h10⟩
  · rw [List.mem_filter, hin]
    unfold us
    rw [g20]
    by_cases z : x = s <;> simp [z]
  · exact List.Nodup.sublist ((List.filter_sublist).map (pM M)) hnd
def raw (M : Mem) (L : List Nat) (τ : Tr) : Tr := (L.map (pM M), τ.2)
/-- one goes: the place's own tree and locks -/
theorem goes_step {M : Mem} {L : List Nat} {τ : Tr} {B : Nat} {k : Lk} (h : MT M L τ B) (hk : LM M k) {s : Nat} (hs : s ∈ L) : ∃ M', f_X5_goes M (nI s) = some M' ∧ MT M' (L.filter (fun x => !decide (x = s))) (raw M (L.filter (fun x => !decide (x = s))) τ) B ∧ LM M' (kdr k [pM M s]) ∧ (∀ x, M' 20 x = if x = s then 0 else M 20 x) ∧ same M M' (fun t => t = 20 ∨ t = 34) := by
  obtain ⟨g1, g2⟩ := (MT_in h).mp hs
  obtain ⟨p1, p2, p3⟩ := h.2.1 s hs
  obtain ⟨M', a1, a2, a3⟩ := goesM hk g1 p3 p1
  have h20 : ∀ x, M' 20 x = if x = s then 0 else M 20 x := fun x => by rw [a3 20 (by decide), mu_x]
  exact ⟨M', a1, MT_del h hs h20 (fun t h1 h2 => by rw [a3 t (by omega), mu_ne _ _ _ (by omega)]), a2, h20, fun t ht => by rw [a3 t (fun z => ht (Or.inr z)), mu_ne _ _ _ (fun z => ht (Or.inl z))]⟩
theorem us_go {M M' : Mem} {s : Nat} (h : ∀ x, M' 20 x = if x = s then 0 else M 20 x) {x : Nat} (hx : x ≠ s) : us M' x = us M x := by unfold us; rw [h, if_neg hx]
theorem pM_sm {M M' : Mem} {P : Nat → Prop} (h : same M M' P) (hp : ¬ P 21) : pM M' = pM M := by funext x; unfold pM; rw [h 21 hp]
theorem us_sm {M M' : Mem} {P : Nat → Prop} (h : same M M' P) (hp : ¬ P 20) : us M' = us M := by funext x; unfold us; rw [h 20 hp]
/-- first loop: who may not be changed -/
def fxM (k : Lk) (c tk : Int32) (u : Nat) (M : Mem) (j : Nat) : Bool := us M j && (inT u (pM M j) && !alw k c (pM M j) tk)
theorem fxM_sm {k : Lk} {c tk : Int32} {u : Nat} {M M' : Mem} {P : Nat → Prop} (h : same M M' P) (hp : ¬ P 21) (hp2 : ¬ P 20) : fxM k c tk u M' = fxM k c tk u M := by
  funext j; unfold fxM; rw [pM_sm h hp, us_sm h hp2]
theorem delM_57 {k : Lk} {c tk : Int32} {u : Nat} (hu : u ≤ 9999) {L : List Nat} {τ : Tr} {B : Nat} : ∀ (r n t : Nat) (M : Mem), MT M L τ B → LM M k → t + r = 60 → r < n → ∃ M', f_X5_delete_57 n M c (nI u) tk (nI t) = f_X5_delete_111 64 M' (nI u) 0 ∧ (∀ j, M' 38 j = if t ≤ j ∧ j < 60 then b2i (fxM k c tk u M j) else M 38 j) ∧ same M M' (fun t => t = 38) := by
  intro r
  induction r with
  | zero =>
    intro n t M h hk ht hr
    obtain ⟨n, rfl⟩ : ∃ j, n = j + 1 := ⟨n - 1, by omega⟩
    have : t = 60 := by omega
    subst this
    refine ⟨M, ?_, fun j => by rw [if_neg (by omega)], same_rf _ _⟩
    show f_X5_delete_57B (f_X5_delete_57 n) M c (nI u) tk (nI 60) = _
    unfold f_X5_delete_57B
    rw [if_pos (by decide)]
  | succ r ih =>
    intro n t M h hk ht hr
    obtain ⟨n, rfl⟩ : ∃ j, n = j + 1 := ⟨n - 1, by omega⟩
    have hsm := same_mu M (P := fun t => t = 38) t (b2i (fxM k c tk u M t)) rfl
    obtain ⟨M', a1, a2, a3⟩ := ih n (t + 1) (mu M 38 t (b2i (fxM k c tk u M t))) (MT_cong h (fun t' _ _ => hsm t' (by omega))) (LM_cong hk (fun t' _ _ => hsm t' (by omega))) (by omega) (by omega)
    refine ⟨M', ?_, fun j => ?_, same_tr hsm a3⟩
    · show f_X5_delete_57B (f_X5_delete_57 n) M c (nI u) tk (nI t) = _
      unfold f_X5_delete_57B f_X5_delete_100 f_X5_delete_101
      rw [if_neg (by rw [show (60 : Int32) = nI 60 from rfl, le' (by decide) (by omega)]; omega), isOfM h (show t < 60 by omega) hu, bd2_s]
      simp only [gi (show t < 60 by omega) (show 60 < 2147483648 by decide)]
      rw [cl' (show t < 2147483648 by omega), nI_1]
      have e : fxM k c tk u M t = (us M t && (inT u (pM M t) && !alw k c (pM M t) tk)) := rfl
      cases q : us M t
      · rw [q] at e; rw [e] at a1
        rw [if_pos (show b2i (false && inT u (pM M t)) = 0 from rfl)]
        exact a1
      · obtain ⟨g1, g2, g3⟩ := h.2.1 t ((MT_in h).mpr ⟨by omega, q⟩)
        rw [g1, mayM hk c g3 tk, bd2_s]
        rw [q] at e
        cases q2 : inT u (pM M t)
        · rw [q2] at e; rw [e] at a1
          rw [if_pos (show b2i (true && false) = 0 from rfl)]
          exact a1
        · rw [if_neg (by decide)]
          rw [q2] at e
          cases q3 : alw k c (pM M t) tk
          · rw [q3] at e; rw [e] at a1
            rw [if_pos (show b2i false = 0 from rfl)]
            exact a1
          · rw [q3] at e; rw [e] at a1
            rw [if_neg (by decide)]
            exact a1
    · rw [a2, fxM_sm hsm (by decide) (by decide), mu_x]
      by_cases z : j = t
      · subst z; rw [if_neg (by omega), if_pos rfl, if_pos ⟨by omega, by omega⟩]
      · by_cases z2 : t + 1 ≤ j ∧ j < 60
        · rw [if_pos z2, if_pos ⟨by omega, z2.2⟩]
        · rw [if_neg z2, if_neg z, if_neg (by omega)]
/-- second: what stays, for what is below it -/
def upM (u i : Nat) (fx : Nat → Bool) (M : Mem) (j : Nat) : Bool := (us M i && inT u (pM M i)) && (fx j && abv (pM M i) (pM M j))
theorem upM_sm {u i : Nat} {fx : Nat → Bool} {M M' : Mem} {P : Nat → Prop} (h : same M M' P) (hp : ¬ P 21) (hp2 : ¬ P 20) : upM u i fx M' = upM u i fx M := by
  funext j; unfold upM; rw [pM_sm h hp, us_sm h hp2]
theorem orand (a c : Bool) : (b2i a ||| b2i c) &&& 1 = b2i (a || c) := by rw [b2i_or, b2i_and]
theorem delM_135 {u : Nat} (hu : u ≤ 9999) {L : List Nat} {τ : Tr} {B : Nat} {fx : Nat → Bool} (K111 : Mem → Int32 → Int32 → Option (Int32 × Mem)) {i : Nat} (hi : i < 60) : ∀ (r n t : Nat) (M : Mem) (a : Bool), MT M L τ B → (∀ j, j < 60 → M 38 j = b2i (fx j)) → (∀ j, j < 60 → fx j = true → us M j = true) → M 37 i = b2i a → t + r = 60 → r < n → ∃ M', f_X5_delete_135 K111 n M (nI u) (nI i) (nI t) = K111 M' (nI u) (nI (i + 1)) ∧ (∀ x, M' 37 x = if x = i then b2i (a || (List.range' t r).any (upM u i fx M)) else M 37 x) ∧ same M M' (fun t => t = 37) := by
  intro r
  induction r with
  | zero =>
    intro n t M a h h38 hfx ha ht hr
    obtain ⟨n, rfl⟩ : ∃ j, n = j + 1 := ⟨n - 1, by omega⟩
    have : t = 60 := by omega
    subst this
    refine ⟨M, ?_, fun x => ?_, same_rf _ _⟩
    · show f_X5_delete_135B K111 (f_X5_delete_135 K111 n) M (nI u) (nI i) (nI 60) = _
      unfold f_X5_delete_135B
      rw [if_pos (by decide), nI_1]
    · by_cases z : x = i
      · subst z; rw [if_pos rfl, ha]; simp
      · rw [if_neg z]
  | succ r ih =>
    intro n t M a h h38 hfx ha ht hr
    obtain ⟨n, rfl⟩ : ∃ j, n = j + 1 := ⟨n - 1, by omega⟩
    have hsm := same_mu M (P := fun t => t = 37) i (b2i (a || upM u i fx M t)) rfl
    have eup : upM u i fx (mu M 37 i (b2i (a || upM u i fx M t))) = upM u i fx M := upM_sm hsm (by decide) (by decide)
    obtain ⟨M', a1, a2, a3⟩ := ih n (t + 1) (mu M 37 i (b2i (a || upM u i fx M t))) (a || upM u i fx M t) (MT_cong h (fun t' _ _ => hsm t' (by omega))) (fun j hj => by rw [hsm 38 (by decide)]; exact h38 j hj) (fun j hj hf => by rw [us_sm hsm (by decide)]; exact hfx j hj hf) (mu_self _ _ _ _) (by omega) (by omega)
    refine ⟨M', ?_, fun x => ?_, same_tr hsm a3⟩
    · show f_X5_delete_135B K111 (f_X5_delete_135 K111 n) M (nI u) (nI i) (nI t) = _
      unfold f_X5_delete_135B f_X5_delete_194 f_X5_delete_195
      rw [if_neg (by rw [show (60 : Int32) = nI 60 from rfl, le' (by decide) (by omega)]; omega)]
      simp only [gi hi (show 60 < 2147483648 by decide), gi (show t < 60 by omega) (show 60 < 2147483648 by decide)]
      rw [isOfM h hi hu, bd2_s, cl' (show i < 2147483648 by omega), cl' (show t < 2147483648 by omega), h38 t (by omega), ha, nI_1]
      have e : upM u i fx M t = ((us M i && inT u (pM M i)) && (fx t && abv (pM M i) (pM M t))) := rfl
      have o0 : (b2i a ||| 0) &&& 1 = b2i a := by rw [or0, b2i_and]
      have o1 : (b2i a ||| 1) &&& 1 = b2i true := by have := orand a true; rw [Bool.or_true] at this; exact this
      rw [o0]
      cases q1 : (us M i && inT u (pM M i))
      · rw [q1, Bool.false_and] at e
        rw [e, Bool.or_false] at a1
        rw [if_pos (show b2i false = 0 from rfl)]
        exact a1
      · rw [if_neg (by decide)]
        rw [q1, Bool.true_and] at e
        cases q2 : fx t
        · rw [q2, Bool.false_and] at e
          rw [e, Bool.or_false] at a1
          rw [if_pos (show b2i false = 0 from rfl)]
          exact a1
        · rw [q2, Bool.true_and] at e
          simp only [Bool.and_eq_true] at q1
          obtain ⟨g1, g2, g3⟩ := h.2.1 i ((MT_in h).mpr ⟨hi, q1.1⟩)
          obtain ⟨d1, d2, d3⟩ := h.2.1 t ((MT_in h).mpr ⟨by omega, hfx t (by omega) q2⟩)
          rw [if_neg (by decide), g1, d1, isAboveM M (by omega) d3, bd2_s]
          cases q3 : abv (pM M i) (pM M t)
          · rw [q3] at e
            rw [e, Bool.or_false] at a1
            rw [if_pos (show b2i false = 0 from rfl)]
            exact a1
          · rw [q3] at e
            rw [e, Bool.or_true] at a1
            rw [if_neg (by decide), o1]
            exact a1
    · rw [a2, eup, mu_x]
      by_cases z : x = i
      · rw [if_pos z, if_pos z, List.range'_succ, List.any_cons, Bool.or_assoc]
      · rw [if_neg z, if_neg z, if_neg z]
def stayM (u : Nat) (fx : Nat → Bool) (M : Mem) (i : Nat) : Bool := fx i || (List.range' 0 60).any (upM u i fx M)
theorem delM_111 {u : Nat} (hu : u ≤ 9999) {L : List Nat} {τ : Tr} {B : Nat} {fx : Nat → Bool} : ∀ (r n t : Nat) (M : Mem), MT M L τ B → (∀ j, j < 60 → M 38 j = b2i (fx j)) → (∀ j, j < 60 → fx j = true → us M j = true) → t + r = 60 → r < n → ∃ M', f_X5_delete_111 n M (nI u) (nI t) = f_X5_delete_212 64 M' (nI u) 0 ∧ (∀ x, t ≤ x → x < 60 → M' 37 x = b2i (stayM u fx M x)) ∧ (∀ x, x < t → M' 37 x = M 37 x) ∧ same M M' (fun t => t = 37) := by
  intro r
  induction r with
  | zero =>
    intro n t M h h38 hfx ht hr
    obtain ⟨n, rfl⟩ : ∃ j, n = j + 1 := ⟨n - 1, by omega⟩
    have : t = 60 := by omega
    subst this
    refine ⟨M, ?_, fun x h1 h2 => by omega, fun _ _ => rfl, same_rf _ _⟩
    show f_X5_delete_111B (f_X5_delete_111 n) M (nI u) (nI 60) = _
    unfold f_X5_delete_111B
    rw [if_pos (by decide)]
  | succ r ih =>
    intro n t M h h38 hfx ht hr
    obtain ⟨n, rfl⟩ : ∃ j, n = j + 1 := ⟨n - 1, by omega⟩
    have hsm := same_mu M (P := fun t => t = 37) t (b2i (fx t)) rfl
    obtain ⟨M1, b1, b2, b3⟩ := delM_135 (fx := fx) hu (f_X5_delete_111 n) (show t < 60 by omega) 60 64 0 (mu M 37 t (b2i (fx t))) (fx t) (MT_cong h (fun t' _ _ => hsm t' (by omega))) (fun j hj => by rw [hsm 38 (by decide)]; exact h38 j hj) (fun j hj hf => by rw [us_sm hsm (by decide)]; exact hfx j hj hf) (mu_self _ _ _ _) (by omega) (by omega)
    have hsm1 := same_tr hsm b3
    obtain ⟨M', a1, a2, a3, a4⟩ := ih n (t + 1) M1 (MT_cong h (fun t' _ _ => hsm1 t' (by omega))) (fun j hj => by rw [hsm1 38 (by decide)]; exact h38 j hj) (fun j hj hf => by rw [us_sm hsm1 (by decide)]; exact hfx j hj hf) (by omega) (by omega)
    have eup : ∀ i, upM u i fx M1 = upM u i fx M := fun i => upM_sm hsm1 (by decide) (by decide)
    have eup2 : ∀ i, upM u i fx (mu M 37 t (b2i (fx t))) = upM u i fx M := fun i => upM_sm hsm (by decide) (by decide)
    refine ⟨M', ?_, fun x h1 h2 => ?_, fun x hx => ?_, same_tr hsm1 a4⟩
    · show f_X5_delete_111B (f_X5_delete_111 n) M (nI u) (nI t) = _
      unfold f_X5_delete_111B
      rw [if_neg (by rw [show (60 : Int32) = nI 60 from rfl, le' (by decide) (by omega)]; omega)]
      simp only [gi (show t < 60 by omega) (show 60 < 2147483648 by decide)]
      rw [cl' (show t < 2147483648 by omega), h38 t (by omega), b2i_and]
      exact b1.trans a1
    · by_cases z : x = t
      · rw [a3 x (by omega), b2, if_pos z, z, eup2]; rfl
      · rw [a2 x (by omega) h2]
        unfold stayM
        rw [eup]
    · rw [a3 x (by omega), b2, if_neg (by omega), mu_x, if_neg (by omega)]
/-- third: failures are noted, the rest goes -/
theorem delM_212 {u : Nat} (hu : u ≤ 9999) {fx mk g : Nat → Bool} {B : Nat} : ∀ (r n t : Nat) (M : Mem) (L : List Nat) (τ : Tr) (k : Lk) (Gc : List Nat), MT M L τ B → LM M k → (∀ j, j < 60 → M 38 j = b2i (fx j)) → (∀ j, j < 60 → M 37 j = b2i (mk j)) → (∀ j, t ≤ j → j < 60 → fx j = true → us M j = true) → (∀ j, t ≤ j → j < 60 → g j = (us M j && (inT u (pM M j) && !mk j))) → M 35 0 = nI Gc.length → (∀ j p, Gc[j]? = some p → M 36 j = nI p) → Gc.length ≤ t → t + r = 60 → r < n →
    ∃ M', f_X5_delete_212 n M (nI u) (nI t) = some (if Gc ++ ((List.range' t r).filter fx).map (pM M) = [] then 0 else 6, M') ∧ MT M' (L.filter (fun s => !(decide (t ≤ s) && g s))) (raw M (L.filter (fun s => !(decide (t ≤ s) && g s))) τ) B ∧ LM M' (kdr k (((List.range' t r).filter g).map (pM M))) ∧ M' 35 0 = nI (Gc ++ ((List.range' t r).filter fx).map (pM M)).length ∧ (∀ j p, (Gc ++ ((List.range' t r).filter fx).map (pM M))[j]? = some p → M' 36 j = nI p) ∧ same M M' (fun t => t = 20 ∨ t = 34 ∨ t = 35 ∨ t = 36) := by
  intro r
  induction r with
  | zero =>
    intro n t M L τ k Gc h hk h38 h37 hfx hg h35 h36 hlg ht hr
    obtain ⟨n, rfl⟩ : ∃ j, n = j + 1 := ⟨n - 1, by omega⟩
    have : t = 60 := by omega
    subst this
    have hLf : L.filter (fun s => !(decide (60 ≤ s) && g s)) = L := by
      rw [List.filter_eq_self]
      intro x hx
      have := ((MT_in h).mp hx).1
      simp [show ¬ 60 ≤ x by omega]
    refine ⟨M, ?_, by rw [hLf]; exact MT_ta h (eqv_rf _), by simp only [List.range'_zero, List.filter_nil, List.map_nil]; rw [kdr_nil]; exact hk, by simpa using h35, by simpa using h36, same_rf _ _⟩
    show f_X5_delete_212B (f_X5_delete_212 n) M (nI u) (nI 60) = _
    unfold f_X5_delete_212B
    rw [if_pos (by decide), h35]
    simp only [le0 (show Gc.length < 2147483648 by omega)]
    cases Gc with
    | nil => simp
    | cons a Gc => simp
  | succ r ih =>
    intro n t M L τ k Gc h hk h38 h37 hfx hg h35 h36 hlg ht hr
    obtain ⟨n, rfl⟩ : ∃ j, n = j + 1 := ⟨n - 1, by omega⟩
    obtain ⟨M1, Gc1, c1, c2, c3, c4, c5⟩ : ∃ M1 Gc1, f_X5_delete_212 (n + 1) M (nI u) (nI t) = f_X5_delete_255 (f_X5_delete_212 n) M1 (nI u) (nI t) ∧ Gc1 = Gc ++ ((if fx t = true then [t] else []).map (pM M)) ∧ M1 35 0 = nI Gc1.length ∧ (∀ j p, Gc1[j]? = some p → M1 36 j = nI p) ∧ same M M1 (fun t => t = 35 ∨ t = 36) := by
      have e : f_X5_delete_212 (n + 1) M (nI u) (nI t) = if fx t = true then f_X5_delete_255 (f_X5_delete_212 n) (mu (mu M 36 Gc.length (M 21 t)) 35 0 (nI (Gc.length + 1))) (nI u) (nI t) else f_X5_delete_255 (f_X5_delete_212 n) M (nI u) (nI t) := by
        show f_X5_delete_212B (f_X5_delete_212 n) M (nI u) (nI t) = _
        unfold f_X5_delete_212B
        rw [if_neg (by rw [show (60 : Int32) = nI 60 from rfl, le' (by decide) (by omega)]; omega)]
        simp only [gi (show t < 60 by omega) (show 60 < 2147483648 by decide)]
        rw [cl' (show t < 2147483648 by omega), h38 t (by omega), mu_at _ _ _ (show 35 ≠ 36 by decide), h35, gi (show Gc.length < 60 by omega) (by decide), cl' (show Gc.length < 2147483648 by omega), nI_1]
        cases fx t <;> rfl
      rw [e]
      cases q : fx t
      · exact ⟨M, Gc, by simp, by simp, h35, h36, same_rf _ _⟩
      · have hut := hfx t (Nat.le_refl _) (by omega) q
        have p1 := (h.2.1 t ((MT_in h).mpr ⟨by omega, hut⟩)).1
        refine ⟨mu (mu M 36 Gc.length (M 21 t)) 35 0 (nI (Gc.length + 1)), Gc ++ [pM M t], by rw [if_pos rfl], by simp, by rw [mu_self]; simp, fun j p hj => ?_, same_mu2 (same_mu _ _ _ (Or.inr rfl)) _ _ (Or.inl rfl)⟩
        rw [mu_at _ _ _ (by decide), mu_x]
        by_cases z : j = Gc.length
        · subst z
          rw [get_mid] at hj
          simp at hj
          rw [if_pos rfl, p1, hj]
        · rw [if_neg z]
          refine h36 j p ?_
          rcases Nat.lt_or_ge j Gc.length with w | w
          · rw [List.getElem?_append_left w] at hj; exact hj
          · have : (Gc ++ [pM M t])[j]? = none := List.getElem?_eq_none (by rw [List.length_append, List.length_singleton]; omega)
            rw [this] at hj; exact absurd hj (by simp)
    have ep1 := pM_sm c5 (by decide)
    have eu1 := us_sm c5 (by decide)
    have hm1 : MT M1 L τ B := MT_cong h (fun t' _ _ => c5 t' (by omega))
    have hk1 : LM M1 k := LM_cong hk (fun t' _ _ => c5 t' (by omega))
    have hl1 : Gc1.length ≤ t + 1 := by
      rw [c2, List.length_append, List.length_map]
      split <;> simp <;> omega
    have e255 : f_X5_delete_255 (f_X5_delete_212 n) M1 (nI u) (nI t) = if g t = true then bd1 (f_X5_goes M1 (nI t)) (fun M278 => f_X5_delete_212 n M278 (nI u) (nI (t + 1))) else f_X5_delete_212 n M1 (nI u) (nI (t + 1)) := by
      unfold f_X5_delete_255 f_X5_delete_281
      rw [isOfM hm1 (show t < 60 by omega) hu, bd2_s, gi (show t < 60 by omega) (by decide), cl' (by omega), c5 37 (by decide), h37 t (by omega), nI_1, hg t (Nat.le_refl _) (by omega), ep1, eu1]
      cases us M t <;> cases inT u (pM M t) <;> cases mk t <;> rfl
    have hfl : ∀ (f : Nat → Bool), (List.range' t (r + 1)).filter f = (if f t = true then [t] else []) ++ (List.range' (t + 1) r).filter f := fun f => by
      rw [List.range'_succ]
      cases q : f t
      · rw [List.filter_cons_of_neg (by simp [q])]; simp
      · rw [List.filter_cons_of_pos q]; simp
    have hGG : Gc1 ++ ((List.range' (t + 1) r).filter fx).map (pM M) = Gc ++ ((List.range' t (r + 1)).filter fx).map (pM M) := by
      rw [hfl, List.map_append, c2, List.append_assoc]
    cases hgt : g t
    · obtain ⟨M', a1, a2, a3, a4, a5, a6⟩ := ih n (t + 1) M1 L τ k Gc1 hm1 hk1 (fun j hj => by rw [c5 38 (by decide)]; exact h38 j hj) (fun j hj => by rw [c5 37 (by decide)]; exact h37 j hj) (fun j h1 h2 h3 => by rw [eu1]; exact hfx j (by omega) h2 h3) (fun j h1 h2 => by rw [eu1, ep1]; exact hg j (by omega) h2) c3 c4 hl1 (by omega) (by omega)
      have hLf : L.filter (fun s => !(decide (t + 1 ≤ s) && g s)) = L.filter (fun s => !(decide (t ≤ s) && g s)) := by
        apply List.filter_congr
        intro x _
        by_cases z : x = t
        · subst z; simp [hgt]
        · by_cases z2 : t ≤ x
          · simp [z2, show t + 1 ≤ x by omega]
          · simp [z2, show ¬ t + 1 ≤ x by omega]
      have hLf2 : raw M1 (L.filter (fun s => !(decide (t + 1 ≤ s) && g s))) τ = raw M (L.filter (fun s => !(decide (t ≤ s) && g s))) τ := by unfold raw; rw [hLf, ep1]
      rw [ep1, hGG] at a1 a4 a5
      rw [hLf2, hLf] at a2
      refine ⟨M', ?_, a2, ?_, a4, a5, same_tr (same_wk c5 (fun t ht => Or.inr (Or.inr ht))) a6⟩
      · rw [c1, e255, hgt, if_neg (by decide)]; exact a1
      · rw [hfl g, hgt, if_neg (by decide), List.nil_append]
        rw [ep1] at a3; exact a3
    · have hgu := hg t (Nat.le_refl _) (by omega)
      rw [hgt] at hgu
      have hut : us M t = true := by cases q : us M t <;> rw [q] at hgu <;> simp_all
      have htL : t ∈ L := (MT_in h).mpr ⟨by omega, hut⟩
      obtain ⟨M2, d1, d2, d3, d4, d5⟩ := goes_step hm1 hk1 htL
      have ep2 : pM M2 = pM M := (pM_sm d5 (by decide)).trans ep1
      have eu2 : ∀ x, x ≠ t → us M2 x = us M x := fun x hx => by rw [us_go d4 hx, eu1]
      obtain ⟨M', a1, a2, a3, a4, a5, a6⟩ := ih n (t + 1) M2 _ _ (kdr k [pM M1 t]) Gc1 d2 d3 (fun j hj => by rw [d5 38 (by decide), c5 38 (by decide)]; exact h38 j hj) (fun j hj => by rw [d5 37 (by decide), c5 37 (by decide)]; exact h37 j hj) (fun j h1 h2 h3 => by rw [eu2 j (by omega)]; exact hfx j (by omega) h2 h3) (fun j h1 h2 => by rw [eu2 j (by omega), ep2]; exact hg j (by omega) h2) (by rw [d5 35 (by decide)]; exact c3) (fun j p hj => by rw [d5 36 (by decide)]; exact c4 j p hj) hl1 (by omega) (by omega)
      have hLf : (L.filter (fun x => !decide (x = t))).filter (fun s => !(decide (t + 1 ≤ s) && g s)) = L.filter (fun s => !(decide (t ≤ s) && g s)) := by
        rw [List.filter_filter]
        apply List.filter_congr
        intro x _
        by_cases z : x = t
        · subst z; simp [hgt]
        · by_cases z2 : t ≤ x
          · simp [z, z2, show t + 1 ≤ x by omega]
          · simp [z, z2, show ¬ t + 1 ≤ x by omega]
      rw [ep2, hGG] at a1 a4 a5
      rw [hLf] at a2
      have hrw : raw M2 (L.filter (fun s => !(decide (t ≤ s) && g s))) (raw M1 (L.filter (fun x => !decide (x = t))) τ) = raw M (L.filter (fun s => !(decide (t ≤ s) && g s))) τ := by unfold raw; rw [ep2]
      rw [hrw] at a2
      refine ⟨M', ?_, a2, ?_, a4, a5, same_tr (same_wk c5 (fun t ht => Or.inr (Or.inr ht))) (same_tr (same_wk d5 (fun t ht => by rcases ht with z | z <;> simp [z])) a6)⟩
      · rw [c1, e255, hgt, if_pos rfl, d1, bd1_s]; exact a1
      · rw [hfl g, hgt, if_pos rfl, List.map_append, List.map_singleton]
        rw [kdr_app, ep2, ep1] at a3; exact a3

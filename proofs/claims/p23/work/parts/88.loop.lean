/-! ===== the drawn server: no locks stand, what is refused makes nothing ===== -/
theorem remd {a d : Nat} (ha : a < 2147483648) (h0 : 0 < d) (hd : d < 2147483648) : nI a - nI a / nI d * nI d = nI (a % d) := pk_rem (a := a) (d := d) (by omega) (by omega) (by omega)
theorem divd {a d : Nat} (ha : a < 2147483648) (h0 : 0 < d) (hd : d < 2147483648) : nI a / nI d = nI (a / d) := pk_div (a := a) (d := d) (by omega) (by omega) (by omega)
theorem ushr8_nn (x : Int32) : ∃ j : Nat, j < 16777216 ∧ ushr8 x = nI j := by
  have hlt : x.toUInt32.toNat < 4294967296 := x.toUInt32.toNat_lt
  refine ⟨x.toUInt32.toNat / 256, by omega, ?_⟩
  apply Int32.toBitVec_inj.mp
  apply BitVec.eq_of_toNat_eq
  show (x.toUInt32 >>> ((8 : Int32).toUInt32 &&& Int32.toUInt32 31)).toNat = (BitVec.ofNat 32 (x.toUInt32.toNat / 256)).toNat
  rw [show ((8 : Int32).toUInt32 &&& Int32.toUInt32 31) = (8 : UInt32) by decide, BitVec.toNat_ofNat, UInt32.toNat_shiftRight, Nat.shiftRight_eq_div_pow, show UInt32.toNat 8 % 32 = 8 by decide, Nat.mod_eq_of_lt (show x.toUInt32.toNat / 256 < 2 ^ 32 by omega)]
theorem alw_0 {k : Lk} (h : kn k = 0) (c : Int32) (p : Nat) (tk : Int32) : alw k c p tk = true := by
  unfold alw ovl
  rw [h]
  rfl
theorem al2_0 {k : Lk} (h : kn k = 0) (c : Int32) (p : Nat) (tk : Int32) : al2 k c p tk = true := by
  unfold al2
  rw [alw_0 h, alw_0 h]
  rfl
theorem okN_sm : ∀ p, p < 100 → p % 10 ≠ 0 → okN (nI p) = true := by decide +kernel
theorem okN_vpb {x : Int32} (h : okN x = true) : vpb x = true := by
  unfold okN at h
  simp only [Bool.and_eq_true] at h
  exact h.2
section LOOP
variable {xs : Nat → Int32} {L : Nat} {K : Mem → Int32 → Option (Int32 × Mem)}
theorem aft {M : Mem} {τ : Tr} {k : Lk} {F : List Nat} (h : Rl M τ k F) {i j p : Nat} (hi : i < 30) (hj : j < 16777216) (hv : vpb (nI p) = true) (hp9 : p ≤ 9999) {x5 o : Int32} (h0 : ¬ o < 0) (h6 : ¬ (6 : Int32) < o) (h4 : ¬ o = 4) (hr : o ≠ 0 → x5 = nI (ta τ).length) (hc : o = 0 → j % 3 ≠ 0 → j % 7 ≠ 0 → ctn τ p = nI (j % 1000)) :
    f_L_law_151 xs L K M (nI i) (nI j) (nI p) x5 o = K M (nI (i + 1)) := by
  have e217 : f_L_law_217 xs L K M (nI i) = K M (nI (i + 1)) := by
    unfold f_L_law_217 f_L_law_233
    rw [refuses_1 h, bd2_s, if_neg (show ¬ (1 : Int32) = 0 by decide), nI_1]
    split <;> rfl
  have e185 : f_L_law_185 xs L K M (nI i) (nI j) (nI p) o = K M (nI (i + 1)) := by
    unfold f_L_law_185
    rw [e217]
    by_cases q : o = 0
    · rw [if_pos q]
      have r3 : nI j - nI j / (3 : Int32) * (3 : Int32) = nI (j % 3) := remd (d := 3) (by omega) (by decide) (by decide)
      have r7 : nI j - nI j / (7 : Int32) * (7 : Int32) = nI (j % 7) := remd (d := 7) (by omega) (by decide) (by decide)
      have r1000 : nI j - nI j / (1000 : Int32) * (1000 : Int32) = nI (j % 1000) := remd (d := 1000) (by omega) (by decide) (by decide)
      rw [r3, r7, r1000]
      simp only [le0 (show j % 3 < 2147483648 by omega), le0 (show j % 7 < 2147483648 by omega)]
      by_cases q3 : j % 3 = 0
      · rw [if_pos q3]
      · rw [if_neg q3]
        by_cases q7 : j % 7 = 0
        · rw [if_pos q7]
        · rw [if_neg q7, g_content h hv, bdr_s, cl' (by omega), hc q q3 q7, if_pos rfl, e217]
    · rw [if_neg q]
  unfold f_L_law_151
  rw [if_neg h0, if_neg h6, if_neg h4, e185]
  by_cases q : o ≤ 0
  · rw [if_pos q]
  · rw [if_neg q, g_resources h, bd2_s, if_pos (hr (fun z => q (by rw [z]; decide))).symm, e185]
theorem o_mk {k : Lk} {τ : Tr} (hk : kn k = 0) (c : Int32) (p : Nat) (tks : Int32) : ¬ oMk k τ c p tks < 0 ∧ ¬ (6 : Int32) < oMk k τ c p tks ∧ ¬ oMk k τ c p tks = 4 := by
  unfold oMk
  rw [al2_0 hk]
  by_cases q1 : tk τ (p / 10) = 2
  · rw [if_pos q1]
    by_cases q2 : p ∈ ta τ
    · rw [if_pos q2]; decide
    · rw [if_neg q2, if_pos rfl]
      by_cases q3 : (ta τ).length = 60
      · rw [if_pos q3]; decide
      · rw [if_neg q3]; decide
  · rw [if_neg q1]; decide
theorem o_put {k : Lk} {τ : Tr} (hk : kn k = 0) (c : Int32) (p : Nat) (tks : Int32) : ¬ oPut k τ c p (-1) tks < 0 ∧ ¬ (6 : Int32) < oPut k τ c p (-1) tks ∧ ¬ oPut k τ c p (-1) tks = 4 := by
  unfold oPut
  rw [al2_0 hk, alw_0 hk]
  by_cases q1 : tk τ (p / 10) = 2
  · rw [if_pos q1]
    by_cases q2 : tk τ p = 2
    · rw [if_pos q2]; decide
    · rw [if_neg q2, if_pos (Or.inl rfl)]
      by_cases q3 : p ∈ ta τ
      · rw [if_pos q3, if_pos rfl]; decide
      · rw [if_neg q3, if_pos rfl]
        by_cases q4 : (ta τ).length = 60
        · rw [if_pos q4]; decide
        · rw [if_neg q4]; decide
  · rw [if_neg q1]; decide
theorem o_del {k : Lk} {τ : Tr} (hk : kn k = 0) (c : Int32) (p : Nat) (tks : Int32) : (p ∈ ta τ ∧ oDel k τ c p tks = 0) ∨ (p ∉ ta τ ∧ oDel k τ c p tks = 1) := by
  unfold oDel
  rw [al2_0 hk]
  by_cases q : p ∈ ta τ
  · left
    refine ⟨q, ?_⟩
    rw [if_pos q, if_pos rfl, if_pos]
    rw [List.filter_eq_nil_iff]
    intro x _
    unfold badP
    rw [alw_0 hk]
    simp
  · right
    exact ⟨q, if_neg q⟩
theorem td12_Rl {M : Mem} {τ : Tr} {k : Lk} {F : List Nat} (h : Rl M τ k F) {p : Nat} (hy : p ∈ ta τ) : td τ p = 1 ∨ td τ p = 2 := by
  obtain ⟨L, sp, h1, -⟩ := h
  exact td_12 h1 hy
theorem ctn_twr {M : Mem} {τ : Tr} {k : Lk} {F : List Nat} (h : Rl M τ k F) {c : Int32} {p : Nat} (hp : 0 < p) {ex tks ct : Int32} (ho : oPut k τ c p ex tks = 0) : ctn (twr τ p ct) p = ct := by
  obtain ⟨n1, n2⟩ := oPut_0 hp (fun hy => td12_Rl h hy) (Rl_len h).1 ho
  unfold ctn isF twr
  by_cases q : p ∈ ta τ
  · rw [if_pos q]
    have e1 : p ∈ ta (tcon τ p ct) := q
    have e2 : td (tcon τ p ct) p = 1 := n1 q
    rw [if_pos (by simp [e1, e2])]
    exact vup_s _ _ _
  · rw [if_neg q]
    have e1 : p ∈ ta (tput τ p 1 ct) := by show p ∈ ta τ ++ [p]; simp
    have e2 : td (tput τ p 1 ct) p = 1 := vup_s _ _ _
    rw [if_pos (by simp [e1, e2])]
    exact vup_s _ _ _
theorem one_step {M : Mem} {τ : Tr} {k : Lk} {F : List Nat} (h : Rl M τ k F) (hk : kn k = 0) {i j p : Nat} (hi : i < 30) (hj : j < 16777216) (hp : p < 100) (hd : p % 10 ≠ 0) :
    ∃ M' τ' k' F', Rl M' τ' k' F' ∧ kn k' = 0 ∧ f_L_law_94 xs L K M (nI i) (nI j) (nI p) = K M' (nI (i + 1)) := by
  have hN := okN_sm p hp hd
  have hv := okN_vpb hN
  have hR : okR 0 (nI p) 0 = true := by unfold okR; rw [hN]; rfl
  have ecl : (nI p).toNatClampNeg = p := cl' (by omega)
  have r3 : nI j - nI j / (3 : Int32) * (3 : Int32) = nI (j % 3) := remd (d := 3) (by omega) (by decide) (by decide)
  have r7 : nI j - nI j / (7 : Int32) * (7 : Int32) = nI (j % 7) := remd (d := 7) (by omega) (by decide) (by decide)
  have r1000 : nI j - nI j / (1000 : Int32) * (1000 : Int32) = nI (j % 1000) := remd (d := 1000) (by omega) (by decide) (by decide)
  unfold f_L_law_94
  rw [g_resources h, bd2_s, r3, r7, r1000]
  simp only [ze (show j % 3 < 2147483648 by omega), ze (show j % 7 < 2147483648 by omega)]
  by_cases q3 : j % 3 = 0
  · rw [if_pos q3]
    obtain ⟨M1, e, r⟩ := g_mk h hR
    rw [ecl] at e r
    obtain ⟨a1, a2, a3⟩ := o_mk (τ := τ) hk 0 p 0
    refine ⟨M1, _, k, F, r, hk, ?_⟩
    rw [e, bdr_s]
    exact aft r hi hj hv (by omega) a1 a2 a3 (fun z => by rw [if_neg z]) (fun _ z _ => absurd q3 z)
  · rw [if_neg q3]
    by_cases q7 : j % 7 = 0
    · rw [if_pos q7]
      obtain ⟨M1, F1, e, -, r⟩ := g_delete h hR
      rw [ecl] at e r
      rcases o_del (τ := τ) hk 0 p 0 with ⟨b1, b2⟩ | ⟨b1, b2⟩
      · rw [b2] at e
        refine ⟨M1, _, _, F1, r, ?_, ?_⟩
        · split
          · exact hk
          · exact hk
        · rw [e, bdr_s]
          exact aft r hi hj hv (by omega) (by decide) (by decide) (by decide) (fun z => absurd rfl z) (fun _ _ z => absurd q7 z)
      · rw [b2] at e
        have hx : xDel k τ 0 p 0 = false := by unfold xDel; simp [b1]
        rw [hx, if_neg (by decide), if_neg (by decide)] at r
        refine ⟨M1, τ, k, F1, r, hk, ?_⟩
        rw [e, bdr_s]
        exact aft r hi hj hv (by omega) (by decide) (by decide) (by decide) (fun _ => rfl) (fun _ _ z => absurd q7 z)
    · rw [if_neg q7]
      have hct : (okR 0 (nI p) 0 && (inR (nI (j % 1000)) 0 999 && inR (-1) (-1) 999)) = true := by
        have e1 : inR (nI (j % 1000)) 0 999 = true := by
          unfold inR
          rw [show (0 : Int32) = nI 0 from rfl, show (999 : Int32) = nI 999 from rfl]
          simp only [le' (show 0 < 2147483648 by decide) (show j % 1000 < 2147483648 by omega), le' (show j % 1000 < 2147483648 by omega) (show 999 < 2147483648 by decide)]
          simp; omega
        rw [hR, e1]; decide
      obtain ⟨M1, e, r⟩ := g_put h hct
      rw [ecl] at e r
      obtain ⟨a1, a2, a3⟩ := o_put (τ := τ) hk 0 p 0
      refine ⟨M1, _, k, F, r, hk, ?_⟩
      rw [e, bdr_s]
      refine aft r hi hj hv (by omega) a1 a2 a3 (fun z => by rw [if_neg z]) (fun z _ _ => ?_)
      rw [if_pos z]
      exact ctn_twr h (by omega) z
theorem pth_step {M : Mem} {τ : Tr} {k : Lk} {F : List Nat} (h : Rl M τ k F) (hk : kn k = 0) {i j : Nat} (hi : i < 30) (hj : j < 16777216) :
    ∃ M' τ' k' F', Rl M' τ' k' F' ∧ kn k' = 0 ∧ f_L_law_57 xs L K M (nI i) (nI j) = K M' (nI (i + 1)) := by
  unfold f_L_law_57
  have r3 : nI j - nI j / (3 : Int32) * (3 : Int32) = nI (j % 3) := remd (d := 3) (by omega) (by decide) (by decide)
  have r9 : nI j - nI j / (9 : Int32) * (9 : Int32) = nI (j % 9) := remd (d := 9) (by omega) (by decide) (by decide)
  have d3 : nI j / (3 : Int32) = nI (j / 3) := divd (d := 3) (by omega) (by decide) (by decide)
  have d27 : nI j / (27 : Int32) = nI (j / 27) := divd (d := 27) (by omega) (by decide) (by decide)
  have r39 : nI (j / 3) - nI (j / 3) / (9 : Int32) * (9 : Int32) = nI (j / 3 % 9) := remd (d := 9) (by omega) (by decide) (by decide)
  have r279 : nI (j / 27) - nI (j / 27) / (9 : Int32) * (9 : Int32) = nI (j / 27 % 9) := remd (d := 9) (by omega) (by decide) (by decide)
  rw [r3, r9, d3, d27, r39, r279]
  have e1 : (1 : Int32) + nI (j % 9) = nI (1 + j % 9) := nI_add 1 (j % 9)
  have e2 : (10 : Int32) * ((1 : Int32) + nI (j / 3 % 9)) + (1 : Int32) + nI (j / 27 % 9) = nI (10 * (1 + j / 3 % 9) + 1 + j / 27 % 9) := by
    rw [show (1 : Int32) = nI 1 from rfl, show (10 : Int32) = nI 10 from rfl, nI_add, nI_mul, nI_add, nI_add]
  rw [e1, e2]
  by_cases q : nI (j % 3) = 0
  · rw [if_pos q]
    exact one_step h hk hi hj (by omega) (by omega)
  · rw [if_neg q]
    exact one_step h hk hi hj (by omega) (by omega)
theorem law_loop (hL : L ≤ 260) : ∀ (n i : Nat) (M : Mem) (τ : Tr) (k : Lk) (F : List Nat), Rl M τ k F → kn k = 0 → i ≤ 30 → 30 < i + n → ∃ M', f_L_law_30 xs L n M (nI i) = some (1, M') := by
  intro n
  induction n with
  | zero => intro i M τ k F h hk hi hn; omega
  | succ n ih =>
    intro i M τ k F h hk hi hn
    show ∃ M', f_L_law_30B xs L (f_L_law_30 xs L n) M (nI i) = some (1, M')
    unfold f_L_law_30B
    have e30 : ((30 : Int32) ≤ nI i) = (30 ≤ i) := le' (a := 30) (by decide) (by omega)
    simp only [e30]
    by_cases q : i = 30
    · exact ⟨M, if_pos (by omega)⟩
    · rw [if_neg (by omega)]
      have fin : ∀ j : Nat, j < 16777216 → ∃ M', f_L_law_57 xs L (f_L_law_30 xs L n) M (nI i) (nI j) = some (1, M') := fun j hj => by
        obtain ⟨M1, τ1, k1, F1, h1, hk1, e⟩ := pth_step (xs := xs) (L := L) (K := f_L_law_30 xs L n) h hk (i := i) (by omega) hj
        obtain ⟨M', e'⟩ := ih (i + 1) M1 τ1 k1 F1 h1 hk1 (by omega) (by omega)
        exact ⟨M', e.trans e'⟩
      have eL : (Int32.ofNat L = 0) = (L = 0) := ze (a := L) (by omega)
      simp only [eL]
      by_cases qL : L = 0
      · rw [if_pos qL]
        have e41 : (41 : Int32) * nI i = nI (41 * i) := nI_mul 41 i
        rw [e41]
        exact fin _ (by omega)
      · rw [if_neg qL, if_neg qL]
        have er : nI i - nI i / Int32.ofNat L * Int32.ofNat L = nI (i % L) := remd (d := L) (by omega) (by omega) (by omega)
        rw [er]
        have hlt : i % L < L := Nat.mod_lt _ (by omega)
        rw [gi hlt (by omega), cl' (by omega)]
        obtain ⟨j, hj, ej⟩ := ushr8_nn (xs (i % L))
        rw [ej]
        exact fin j hj
end LOOP
theorem law_all {xs : Nat → Int32} {L : Nat} (hL : L ≤ 260) : ∃ M', f_L_law_30 xs L 31 M0 0 = some (1, M') := law_loop hL 31 0 M0 _ _ _ RS_0 rfl (by decide) (by decide)

/-! ===== what a call of the class answers, and what stands then: tree τ, locks k, failures F ===== -/
def Rl (M : Mem) (τ : Tr) (k : Lk) (F : List Nat) : Prop := ∃ L sp, TC M L sp τ ∧ LC M k ∧ FS M F ∧ F.length ≤ 60
theorem Rl_mk {M : Mem} {τ : Tr} {k : Lk} {F : List Nat} {L sp : List Nat} (h1 : TC M L sp τ) (h2 : LC M k) (h3 : FS M F) (h4 : F.length ≤ 60) : Rl M τ k F := ⟨L, sp, h1, h2, h3, h4⟩
theorem okC_le {c : Int32} (_ : okC c = true) : True := trivial
theorem g_mk {M : Mem} {τ : Tr} {k : Lk} {F : List Nat} (h : Rl M τ k F) {c x tks : Int32} (hv : okR c x tks = true) : ∃ M', f_X4_makeCollection M c x tks = some (.inr (oMk k τ c x.toNatClampNeg tks), M') ∧ Rl M' (if oMk k τ c x.toNatClampNeg tks = 0 then tput τ x.toNatClampNeg 2 0 else τ) k F := by
  obtain ⟨L, sp, h1, h2, h3, h4⟩ := h
  obtain ⟨v1, v2, v3, v4, p, hp0, hp, rfl⟩ := okR_of hv
  rw [cl' (by omega)]
  have e := mkC h1 h2 ⟨hp0, hp⟩ hv
  by_cases ho : oMk k τ c p tks = 0
  · have hn : p ∉ ta τ ∧ (ta τ).length < 60 := by
      have hlen := IC_len h1.1
      rw [TC_len h1] at hlen
      unfold oMk at ho
      by_cases q1 : tk τ (p / 10) = 2
      · rw [if_pos q1] at ho
        by_cases q2 : p ∈ ta τ
        · rw [if_pos q2] at ho; exact absurd ho (by decide)
        · rw [if_neg q2] at ho
          refine ⟨q2, ?_⟩
          cases q3 : al2 k c p tks
          · rw [q3, if_neg (by decide)] at ho; exact absurd ho (by decide)
          · rw [q3, if_pos rfl] at ho
            by_cases q4 : (ta τ).length = 60
            · rw [if_pos q4] at ho; exact absurd ho (by decide)
            · omega
      · rw [if_neg q1] at ho; exact absurd ho (by decide)
    obtain ⟨r, sp', rfl⟩ := sp_cons h1 hn.2
    obtain ⟨a1, a2⟩ := appendC h1 ⟨hp0, hp⟩ hn.1 (kd := 2) (Or.inr rfl) (ct := 0) (by decide)
    rw [if_pos ho, a1, bd1_s] at e
    have hs : ∀ t, t < 2 ∨ (8 < t ∧ t < 100) → mu (begC M r p 2 0) 2 0 (nI (L.length + 1)) t = M t := fun t ht => by rw [mu_ne _ _ _ (by omega), begC_ne _ _ _ _ _ (by omega)]
    rw [if_pos ho, ho]
    exact ⟨_, e, Rl_mk a2 (LC_cong h2 (fun t _ _ => hs t (by omega))) (FS_cong h3 (hs 0 (by omega)) (hs 1 (by omega))) h4⟩
  · rw [if_neg ho] at e
    rw [if_neg ho]
    exact ⟨M, e, Rl_mk h1 h2 h3 h4⟩
theorem g_put {M : Mem} {τ : Tr} {k : Lk} {F : List Nat} (h : Rl M τ k F) {c x ct ex tks : Int32} (hv : (okR c x tks && (inR ct 0 999 && inR ex (-1) 999)) = true) : ∃ M', f_X4_put M c x ct ex tks = some (.inr (oPut k τ c x.toNatClampNeg ex tks), M') ∧ Rl M' (if oPut k τ c x.toNatClampNeg ex tks = 0 then twr τ x.toNatClampNeg ct else τ) k F := by
  obtain ⟨L, sp, h1, h2, h3, h4⟩ := h
  simp only [Bool.and_eq_true] at hv
  obtain ⟨v1, v2, v3, -, p, hp0, hp, rfl⟩ := okR_of hv.1
  rw [cl' (by omega)]
  have eC : f_X4_put M c (nI p) ct ex tks = if oPut k τ c p ex tks = 0 then bd1 (f_X4_write M (nI p) ct) (fun M50 => some (.inr (oPut k τ c p ex tks), M50)) else some (.inr (oPut k τ c p ex tks), M) := by
    unfold f_X4_put f_X4_put_0
    rw [reqClientC, v1, un_t, bdx_s, reqNameC, v2, un_t, bdx_s, reqRangeC, hv.2.1, un_t, bdx_s, reqRangeC, hv.2.2, un_t, bdx_s, reqNNC, v3, un_t, bdx_s, outC h1 h2 ⟨hp0, hp⟩, bd2_s]
  by_cases ho : oPut k τ c p ex tks = 0
  · obtain ⟨n1, n2⟩ := oPut_0 hp0 (fun hy => td_12 h1 hy) (by rw [← TC_len h1]; exact IC_len h1.1) ho
    obtain ⟨M1, L', sp', a1, a2, hs1⟩ := writeC h1 ⟨hp0, hp⟩ n1 n2 (ct_ne hv.2.1)
    rw [if_pos ho, a1, bd1_s] at eC
    rw [if_pos ho]
    exact ⟨M1, eC, Rl_mk a2 (LC_cong h2 (fun t _ _ => hs1 t (by omega))) (FS_cong h3 (hs1 0 (by omega)) (hs1 1 (by omega))) h4⟩
  · rw [if_neg ho] at eC
    rw [if_neg ho]
    exact ⟨M, eC, Rl_mk h1 h2 h3 h4⟩
/-! delete -/
def oDel (k : Lk) (τ : Tr) (c : Int32) (u : Nat) (tks : Int32) : Int32 := if u ∈ ta τ then (if al2 k c u tks = true then (if (ta τ).filter (badP k c tks u) = [] then 0 else 6) else 4) else 1
def goP (k : Lk) (τ : Tr) (c : Int32) (u : Nat) (tks : Int32) (p : Nat) : Bool := inT u p && !((ta τ).filter (badP k c tks u)).any (fun f => inT p f)
def xDel (k : Lk) (τ : Tr) (c : Int32) (u : Nat) (tks : Int32) : Bool := decide (u ∈ ta τ) && al2 k c u tks
theorem any_perm {a c : List Nat} (h : a.Perm c) (g : Nat → Bool) : a.any g = c.any g := by
  rw [Bool.eq_iff_iff, List.any_eq_true, List.any_eq_true]
  exact ⟨fun ⟨x, hx, e⟩ => ⟨x, h.mem_iff.mp hx, e⟩, fun ⟨x, hx, e⟩ => ⟨x, h.mem_iff.mpr hx, e⟩⟩
theorem g_delete {M : Mem} {τ : Tr} {k : Lk} {F : List Nat} (h : Rl M τ k F) {c x tks : Int32} (hv : okR c x tks = true) : ∃ M' F', f_X4_delete M c x tks = some (.inr (oDel k τ c x.toNatClampNeg tks), M') ∧ F'.Perm (if xDel k τ c x.toNatClampNeg tks = true then (ta τ).filter (badP k c tks x.toNatClampNeg) else []) ∧ Rl M' (if xDel k τ c x.toNatClampNeg tks = true then trm τ (goP k τ c x.toNatClampNeg tks) else τ) (if xDel k τ c x.toNatClampNeg tks = true then kdr k ((ta τ).filter (goP k τ c x.toNatClampNeg tks)) else k) F' := by
  obtain ⟨L, sp, h1, h2, h3, h4⟩ := h
  obtain ⟨v1, v2, v3, -, u, hu0, hu, rfl⟩ := okR_of hv
  rw [cl' (by omega)]
  have hT0 : TC (mu M 0 0 0) L sp τ := TC_cong h1 (fun t _ => mu_ne _ _ _ (by omega))
  have hk0 : LC (mu M 0 0 0) k := LC_cong h2 (fun t _ _ => mu_ne _ _ _ (by omega))
  have hF0 : FS (mu M 0 0 0) [] := ⟨mu_self _ _ _ _, fun j p hj => by simp at hj, List.Pairwise.nil, fun p hp => by simp at hp⟩
  have eC : f_X4_delete M c (nI u) tks = bd2 (f_X3_find (mu M 0 0 0) (nI u)) (fun q22 M22 => oe q22 (some (.inr (1 : Int32), M22)) (fun k22 => if 60 ≤ k22 then none else bd2 (f_X4_allowsWithParent M22 c (nI u) tks) (fun r34 M34 => if r34 = 0 then some (.inr (4 : Int32), M34) else bd1 (f_X4_noteFailures M34 c (nI u) tks) (fun M46 => bd1 (f_X3_markTree M46 (nI u)) (fun M54 => bd1 (f_X4_spareFailures M54) (fun M58 => bd1 (f_X4_removeMarked M58) (fun M62 => if (M62 0 0) = 0 then some (.inr (0 : Int32), M62) else some (.inr (6 : Int32), M62)))))))) := by
    unfold f_X4_delete f_X4_delete_0
    rw [reqClientC, v1, un_t, bdx_s, reqNameC, v2, un_t, bdx_s, reqNNC, v3, un_t, bdx_s]
  unfold oDel xDel
  by_cases hy : u ∈ ta τ
  · obtain ⟨L1, L2, r, -, -, e2, -, e3⟩ := find_yes hT0 hy
    rw [e3, bd2_s, oe_1, if_neg (by omega), allows2C hk0 c hu tks, bd2_s] at eC
    cases ha : al2 k c u tks
    · rw [ha, if_pos (show b2i false = 0 from rfl)] at eC
      rw [if_pos hy, if_neg (by decide), Bool.and_false, if_neg (by decide), if_neg (by decide), if_neg (by decide)]
      exact ⟨_, [], eC, List.Perm.refl _, Rl_mk hT0 hk0 hF0 (by simp)⟩
    · rw [ha, if_neg (by decide)] at eC
      rw [if_pos hy, if_pos rfl, show decide (u ∈ ta τ) = true by simpa using hy, Bool.and_true, if_pos rfl, if_pos rfl, if_pos rfl]
      obtain ⟨Mb, F', b1, b2, b3, b4⟩ := noteC hT0 hk0 (mu_self _ _ _ _) (c := c) (tk := tks) hu
      have hTb : TC Mb L sp τ := TC_cong hT0 (fun t ht => b4 t (by omega))
      have hkb : LC Mb k := LC_cong hk0 (fun t _ _ => b4 t (by omega))
      obtain ⟨Mc, c1, c2, c3⟩ := markC hTb hu
      have hTc : TC Mc L sp τ := TC_cong7 hTb (fun t ht => c3 t (by omega))
      have hFl : F'.length ≤ 60 := by
        have e1 := b3.length_eq
        have e2 := List.length_filter_le (badP k c tks u) (ta τ)
        have e3 := IC_len h1.1
        rw [TC_len h1] at e3
        omega
      obtain ⟨Md, d1, d2, d3⟩ := sparesC_2 (F := F') hFl b2.2.2.2 F' [] 64 Mc rfl hTc (by rw [c3 0 (by decide)]; exact b2.1) (fun j p hj => by rw [c3 1 (by decide)]; exact b2.2.1 j p hj) (by omega)
      have hTd : TC Md L sp τ := TC_cong7 hTc (fun t ht => d3 t (by omega))
      have hkd : LC Md k := LC_cong hkb (fun t _ _ => by rw [d3 t (by omega), c3 t (by omega)])
      have epc : pC Mc = pC Mb := by funext z; unfold pC; rw [c3 4 (by decide)]
      have epd : pC Md = pC Mb := by funext z; unfold pC; rw [d3 4 (by decide), c3 4 (by decide)]
      have hmk : ∀ r ∈ L, Md 7 r = b2i (goP k τ c u tks (pC Md r)) := fun r hr => by
        rw [d2 r hr, c2 r hr, epc, epd]
        unfold goP
        rw [← any_perm b3 (fun f => inT (pC Mb r) f)]
        cases F'.any (fun f => inT (pC Mb r) f) <;> cases inT u (pC Mb r) <;> rfl
      obtain ⟨Me, L', sp', e1, e2', e3', e4⟩ := remC hTd hkd hmk
      have d1' : f_X4_spareFailures Mc = some Md := d1
      have hs : ∀ t, t = 0 ∨ t = 1 → Me t = Mb t := fun t ht => by rw [e4 t (by omega), d3 t (by omega), c3 t (by omega)]
      have hFS : FS Me F' := FS_cong b2 (hs 0 (by omega)) (hs 1 (by omega))
      rw [b1, bd1_s, c1, bd1_s, d1', bd1_s, e1, bd1_s] at eC
      refine ⟨Me, F', ?_, b3, Rl_mk e2' e3' hFS hFl⟩
      rw [eC, hFS.1]
      by_cases z : F' = []
      · have z2 : (ta τ).filter (badP k c tks u) = [] := by rw [z] at b3; exact b3.symm.eq_nil
        rw [z2, if_pos rfl, z]; rfl
      · have z2 : ¬ (ta τ).filter (badP k c tks u) = [] := fun w => z (by rw [w] at b3; exact b3.eq_nil)
        rw [if_neg z2, if_neg (by
          rw [ze (by omega)]
          intro w
          exact z (List.eq_nil_of_length_eq_zero w))]
  · rw [(find_no hT0 hu hy).2, bd2_s, oe_0] at eC
    rw [if_neg hy, show decide (u ∈ ta τ) = false by simpa using hy, Bool.false_and, if_neg (by decide), if_neg (by decide), if_neg (by decide)]
    exact ⟨_, [], eC, List.Perm.refl _, Rl_mk hT0 hk0 hF0 (by simp)⟩

/-! ===== copy, move, order ===== -/
def xCp (τ : Tr) (f t : Nat) : Tr := ((ta τ).filter (fun p => !inT t p) ++ (((ta τ).filter (fun p => !inT t p)).filter (inT f)).map (mvp f t), gC τ f t)
theorem g_copy {M : Mem} {τ : Tr} {k : Lk} {F : List Nat} (h : Rl M τ k F) {c x y tks : Int32} (ow : Bool) (hv : pvT c x y tks = true) : ∃ M', f_X4_copy M c x y (b2i ow) tks = some (.inr (oCp k τ c x.toNatClampNeg y.toNatClampNeg ow tks), M') ∧ Rl M' (if oCp k τ c x.toNatClampNeg y.toNatClampNeg ow tks = 0 then xCp τ x.toNatClampNeg y.toNatClampNeg else τ) (if oCp k τ c x.toNatClampNeg y.toNatClampNeg ow tks = 0 then kdr k ((ta τ).filter (inT y.toNatClampNeg)) else k) F := by
  obtain ⟨L, sp, h1, h2, h3, h4⟩ := h
  obtain ⟨hok, f, t, hf, hf9, ht, ht9, rfl, rfl, hd1, hd2⟩ := pvT_of hv
  rw [cl' (by omega), cl' (by omega)]
  have hlen : (ta τ).length ≤ 60 := by rw [← TC_len h1]; exact IC_len h1.1
  have hc1 := List.countP_le_length (p := inT t) (l := ta τ)
  have hc2 := List.countP_le_length (p := inT f) (l := ta τ)
  have hsub : nI (ta τ).length - nI ((ta τ).countP (inT t)) = nI ((ta τ).length - (ta τ).countP (inT t)) := pk_sub (by omega)
  have hle : (nI ((ta τ).length - (ta τ).countP (inT t) + (ta τ).countP (inT f)) ≤ 60) = ((ta τ).length - (ta τ).countP (inT t) + (ta τ).countP (inT f) ≤ 60) := le' (b := 60) (by omega) (by decide)
  have eC : f_X4_copy M c (nI f) (nI t) (b2i ow) tks = if oCp k τ c f t ow tks = 0 then bd1 (f_X4_removeTree M (nI t)) (fun M63 => bd1 (f_X3_appendCopyOfTree M63 (nI f) (nI t)) (fun M72 => some (.inr 0, M72))) else some (.inr (oCp k τ c f t ow tks), M) := by
    unfold f_X4_copy f_X4_copy_0 oCp
    rw [reqTransC, hv, un_t, bdx_s, outTC h1 h2 hf hf9 ht9 ow, bd2_s, treeSizeC h1 ht9, bd2_s, treeSizeC h1 hf9, bd2_s, h1.1.1, TC_len h1, hsub, nI_add]
    simp only [hle]
    by_cases q : oTr k τ c f t ow tks = 0
    · rw [if_pos q, if_pos q]
      by_cases q2 : (ta τ).length - (ta τ).countP (inT t) + (ta τ).countP (inT f) ≤ 60
      · rw [if_pos q2, if_pos q2, if_pos rfl]
      · rw [if_neg q2, if_neg q2, if_neg (by decide)]
    · rw [if_neg q, if_neg q, if_neg q]
  by_cases ho : oCp k τ c f t ow tks = 0
  · have ho2 : oTr k τ c f t ow tks = 0 ∧ (ta τ).length - (ta τ).countP (inT t) + (ta τ).countP (inT f) ≤ 60 := by
      unfold oCp at ho
      by_cases q : oTr k τ c f t ow tks = 0
      · rw [if_pos q] at ho
        by_cases q2 : (ta τ).length - (ta τ).countP (inT t) + (ta τ).countP (inT f) ≤ 60
        · exact ⟨q, q2⟩
        · rw [if_neg q2] at ho; exact absurd ho (by decide)
      · rw [if_neg q] at ho; exact absurd ho q
    obtain ⟨-, hfit⟩ := oTr_0 ho2.1
    rw [if_pos ho] at eC
    rw [if_pos ho, if_pos ho, ho]
    have hT9 : ∀ p ∈ ta τ, p ≤ 9999 := fun p hp => (TC_pos h1 hp).2
    have ht1 : ∀ p ∈ (ta τ).filter (fun p => !inT t p), p ∈ ta τ ∧ inT t p = false := fun p hp => by
      obtain ⟨z1, z2⟩ := List.mem_filter.mp hp
      exact ⟨z1, by simpa using z2⟩
    have hsrc : ∀ p ∈ ta τ, inT f p = true → inT t p = false := fun p hp hi => inT_disj hf ht (hT9 p hp) hf9 ht9 hd1 hd2 hi
    obtain ⟨M1, L1, sp1, a1, a2, a3, a4⟩ := removeTreeC h1 h2 ht9
    have a2g : TC M1 L1 sp1 ((ta τ).filter (fun p => !inT t p), gC τ f t) := TC_fn a2 (fun p hp => gC_off (ht1 p hp).2)
    have hmem1 : ∀ z ∈ L1, pC M1 z ∈ (ta τ).filter (fun p => !inT t p) := fun z hz => (TC_mem a2).mpr ⟨z, hz, rfl⟩
    have hcnt1 : L1.countP (fun x => inT f (pC M1 x)) = (ta τ).countP (inT f) := by
      have e1 : L1.countP (fun x => inT f (pC M1 x)) = (L1.map (pC M1)).countP (inT f) := by rw [List.countP_map]; rfl
      rw [e1, (eqv_perm a2.2.2.1).countP_eq]
      exact cnt_rest hsrc
    have hL1l : L1.length = (ta τ).length - (ta τ).countP (inT t) := by
      have e1 := TC_len a2
      have e2 := len_split (inT t) (ta τ)
      have e3 : (ta (trm τ (inT t))).length = ((ta τ).filter (fun p => !inT t p)).length := rfl
      omega
    obtain ⟨M2, L2, sp2, b1, b2, b3⟩ := copyC_8 hf hf9 ht (pf := pC M1) (e := L1.length) L1 [] [] sp1 64 M1 _ (by simpa using a2g) (fun _ _ => rfl) (by simp) (fun z hz hi => by
      have hz1 := hmem1 z hz
      obtain ⟨z1, z2⟩ := ht1 _ hz1
      have h9 := fit_of hfit z1 hi
      refine ⟨h9, fun w => ?_, gC_on hf ht (hT9 _ z1) hi z2 h9⟩
      have := (ht1 _ w).2
      rw [mvp_in hf ht (hT9 _ z1) hi h9] at this
      exact absurd this (by decide)) (by simp only [List.nil_append, List.append_nil]; omega) (by omega)
    have hcopy : f_X3_appendCopyOfTree M1 (nI f) (nI t) = some M2 := by
      unfold f_X3_appendCopyOfTree f_X3_appendCopyOfTree_0
      rw [a2.1.1]
      exact b1
    rw [a1, bd1_s, hcopy, bd1_s] at eC
    have hs2 : ∀ t, t < 2 ∨ 16 < t ∧ t < 100 → M2 t = M t := fun t' ht' => by rw [b3 t' (by omega), a4 t' (by omega)]
    have heq : eqv ((ta τ).filter (fun p => !inT t p) ++ ((L1.map (pC M1)).filter (inT f)).map (mvp f t)) (ta (xCp τ f t)) := by
      refine eqv_app (eqv_rf _) (eqv_mv a2.2.2.1 hf ht (fun p hp => ?_))
      obtain ⟨z, hz, e⟩ := List.mem_map.mp hp
      rw [← e]; exact hT9 _ (ht1 _ (hmem1 z hz)).1
    have hTF := TC_ta b2 (eqv_tr b2.2.2.1 heq)
    exact ⟨M2, eC, Rl_mk hTF (LC_cong a3 (fun t _ _ => b3 t (by omega))) (FS_cong h3 (hs2 0 (by omega)) (hs2 1 (by omega))) h4⟩
  · rw [if_neg ho] at eC
    rw [if_neg ho, if_neg ho]
    exact ⟨M, eC, Rl_mk h1 h2 h3 h4⟩
def xMv (τ : Tr) (f t : Nat) : Tr := (((ta τ).filter (fun p => !inT t p)).filter (fun x => !inT f x) ++ (((ta τ).filter (fun p => !inT t p)).filter (inT f)).map (mvp f t), gMv τ f t)
def kMv (k : Lk) (τ : Tr) (f t : Nat) : Lk := kdr (kdr k ((ta τ).filter (inT t))) (((ta τ).filter (fun p => !inT t p)).filter (inT f))
theorem g_move {M : Mem} {τ : Tr} {k : Lk} {F : List Nat} (h : Rl M τ k F) {c x y tks : Int32} (ow : Bool) (hv : pvT c x y tks = true) : ∃ M', f_X4_move M c x y (b2i ow) tks = some (.inr (oMv k τ c x.toNatClampNeg y.toNatClampNeg ow tks), M') ∧ Rl M' (if oMv k τ c x.toNatClampNeg y.toNatClampNeg ow tks = 0 then xMv τ x.toNatClampNeg y.toNatClampNeg else τ) (if oMv k τ c x.toNatClampNeg y.toNatClampNeg ow tks = 0 then kMv k τ x.toNatClampNeg y.toNatClampNeg else k) F := by
  obtain ⟨L, sp, h1, h2, h3, h4⟩ := h
  obtain ⟨hok, f, t, hf, hf9, ht, ht9, rfl, rfl, hd1, hd2⟩ := pvT_of hv
  rw [cl' (by omega), cl' (by omega)]
  have eC : f_X4_move M c (nI f) (nI t) (b2i ow) tks = if oMv k τ c f t ow tks = 0 then bd1 (f_X4_removeTree M (nI t)) (fun M61 => bd1 (f_X4_dropLocksOfTree M61 (nI f)) (fun M66 => bd1 (f_X3_renameTree M66 (nI f) (nI t)) (fun M75 => some (.inr 0, M75)))) else some (.inr (oMv k τ c f t ow tks), M) := by
    unfold f_X4_move f_X4_move_0 oMv
    rw [reqTransC, hv, un_t, bdx_s, outTC h1 h2 hf hf9 ht9 ow, bd2_s, parentC M hf9, bd2_s, allowsC h2 c (show f / 10 ≤ 9999 by omega) tks, bd2_s, allowsTreeC h1 h2 hf9, bd2_s]
    simp only [b2i_0]
    by_cases q : oTr k τ c f t ow tks = 0
    · rw [if_pos q, if_pos q]
      cases alw k c (f / 10) tks <;> cases alT k τ c f tks <;> rfl
    · rw [if_neg q, if_neg q, if_neg q]
  by_cases ho : oMv k τ c f t ow tks = 0
  · have ho2 : oTr k τ c f t ow tks = 0 := by
      unfold oMv at ho
      by_cases q : oTr k τ c f t ow tks = 0
      · exact q
      · rw [if_neg q] at ho; exact ho
    obtain ⟨hfin, hfit⟩ := oTr_0 ho2
    rw [if_pos ho] at eC
    rw [if_pos ho, if_pos ho, ho]
    have hT9 : ∀ p ∈ ta τ, p ≤ 9999 := fun p hp => (TC_pos h1 hp).2
    have ht1 : ∀ p ∈ (ta τ).filter (fun p => !inT t p), p ∈ ta τ ∧ inT t p = false := fun p hp => by
      obtain ⟨z1, z2⟩ := List.mem_filter.mp hp
      exact ⟨z1, by simpa using z2⟩
    have hf1 : f ∈ (ta τ).filter (fun p => !inT t p) := List.mem_filter.mpr ⟨hfin, by rw [hd2]; rfl⟩
    have hff : inT f f = true := by unfold inT; simp
    obtain ⟨M1, L1, sp1, a1, a2, a3, a4⟩ := removeTreeC h1 h2 ht9
    have hL60 := IC_len a2.1
    obtain ⟨Md, q1, q2, q3⟩ := dropTreeC_2 hf9 L1 [] 64 M1 _ (by simpa using a2) a3 (by omega)
    have epd : pC Md = pC M1 := by funext z; unfold pC; rw [q3 4 (by decide)]
    have a2d : TC Md L1 sp1 (trm τ (inT t)) := TC_cong a2 (fun t ht => q3 t (by omega))
    have a2g : TC Md L1 sp1 (L1.map (pC Md), gMv τ f t) := TC_ta (TC_fn (g := gMv τ f t) a2d (fun p hp => gMv_off (ht1 p hp).2)) (eqv_rf _)
    have hmem1 : ∀ z ∈ L1, pC Md z ∈ (ta τ).filter (fun p => !inT t p) := fun z hz => (TC_mem a2d).mpr ⟨z, hz, rfl⟩
    have hndP := TC_nd a2d
    obtain ⟨M3, b1, b2, b3, b4⟩ := renC_2 hf hf9 ht (pf := pC Md) L1 [] 64 Md (by simpa using a2g) (fun z hz => by simp at hz) (fun _ _ => rfl) (fun z hz y hy hne => by
      obtain ⟨z1, z2⟩ := ht1 _ (hmem1 z (by simpa using hz))
      obtain ⟨y1, y2⟩ := ht1 _ (hmem1 y (by simpa using hy))
      have hpne : pC Md z ≠ pC Md y := fun e => hne (nodup_inj hndP (by simpa using hz) (by simpa using hy) e)
      have hA : ∀ u v, u ∈ ta τ → v ∈ ta τ → inT t v = false → inT f u = true → mvp f t u ≠ v := fun u v hu hv hi hfu e => by
        have := mvp_in hf ht (hT9 u hu) hfu (fit_of hfit hu hfu)
        rw [e, hi] at this; exact absurd this (by decide)
      refine ⟨fun e => ?_, fun hi => hA _ _ z1 y1 y2 hi⟩
      unfold ren at e
      cases r1 : inT f (pC Md z) <;> cases r2 : inT f (pC Md y) <;> rw [r1, r2] at e
      · rw [if_neg (by decide), if_neg (by decide)] at e; exact hpne e
      · rw [if_neg (by decide), if_pos rfl] at e; exact hA _ _ y1 z1 z2 r2 e.symm
      · rw [if_pos rfl, if_neg (by decide)] at e; exact hA _ _ z1 y1 y2 r1 e
      · rw [if_pos rfl, if_pos rfl] at e
        exact hpne (mvp_inj hf ht (hT9 _ z1) (hT9 _ y1) r1 r2 e)) (fun z hz hi => by
      obtain ⟨z1, z2⟩ := ht1 _ (hmem1 z hz)
      have h9 := fit_of hfit z1 hi
      exact ⟨h9, gMv_on hf ht (hT9 _ z1) hi z2 h9⟩) (by omega)
    simp only [List.nil_append] at b2 b3
    have hmapR : L1.map (pC M3) = (L1.map (pC Md)).map (ren f t) := by
      rw [List.map_map]
      exact List.map_congr_left (fun z hz => b3 z hz)
    have htin : t ∈ ta ((L1.map (pC M3), gMv τ f t) : Tr) := by
      obtain ⟨z, hz, e⟩ := (TC_mem a2d).mp hf1
      refine List.mem_map.mpr ⟨z, hz, ?_⟩
      rw [b3 z hz, e]
      unfold ren
      rw [if_pos hff, mvp_f]
    obtain ⟨M4, L4, d1, d2, d3, -, d5, d6⟩ := placeC b2 htin (w := L1.length) (by omega)
    have hrename : f_X3_renameTree Md (nI f) (nI t) = some M4 := by
      unfold f_X3_renameTree f_X3_renameTree_0
      refine Eq.trans b1 ?_
      rw [b2.1.1, d1, bd1_s]
    have q1' : f_X4_dropLocksOfTree M1 (nI f) = some Md := q1
    rw [a1, bd1_s, q1', bd1_s, hrename, bd1_s] at eC
    rw [hmapR] at d5 d6
    have heqC : eqv (L4.map (pC M3)) (((ta τ).filter (fun p => !inT t p)).filter (fun x => !inT f x) ++ (((ta τ).filter (fun p => !inT t p)).filter (inT f)).map (mvp f t)) :=
      moved_eqv hf ht hf9 ht9 (P := L1.map (pC Md)) a2d.2.2.1 a2d.2.2.2.1 (fun z hz => ⟨hT9 z (ht1 z hz).1, (ht1 z hz).2⟩) (fun z hz hi => fit_of hfit (ht1 z hz).1 hi) hf1 hff (w := L1.length) (by rw [List.length_map]; omega) d5 d6
    have hTF := TC_ta d2 (a := ((ta τ).filter (fun p => !inT t p)).filter (fun x => !inT f x) ++ (((ta τ).filter (fun p => !inT t p)).filter (inT f)).map (mvp f t)) (by
      rw [show pC M4 = pC M3 by funext z; unfold pC; rw [d3 4 (by decide)]]
      exact heqC)
    have hs4 : ∀ t', t' < 2 ∨ 16 < t' ∧ t' < 100 → M4 t' = M t' := fun t' ht' => by rw [d3 t' (by omega), b4 t' (by omega), q3 t' (by omega), a4 t' (by omega)]
    have hlock : kdr (kdr k ((ta τ).filter (inT t))) ((L1.map (pC M1)).filter (inT f)) = kMv k τ f t := by
      unfold kMv
      refine kdr_cong _ (fun p => ?_)
      rw [List.mem_filter, List.mem_filter (p := inT f), eqv_mem a2.2.2.1]
      rfl
    rw [hlock] at q2
    exact ⟨M4, eC, Rl_mk hTF (LC_cong q2 (fun t _ _ => by rw [d3 t (by omega), b4 t (by omega)])) (FS_cong h3 (hs4 0 (by omega)) (hs4 1 (by omega))) h4⟩
  · rw [if_neg ho] at eC
    rw [if_neg ho, if_neg ho]
    exact ⟨M, eC, Rl_mk h1 h2 h3 h4⟩
/-! order -/
def ordT (τ : Tr) (p w : Nat) : Tr := ((ta τ).filter (fun x => !par (p / 10) x) ++ spW w p (no p ((ta τ).filter (par (p / 10)))), τ.2)
def oOr (k : Lk) (τ : Tr) (c : Int32) (p : Nat) (tks : Int32) : Int32 := if p ∈ ta τ then (if alw k c (p / 10) tks = true then 0 else 4) else 1
theorem spW_par {q w p : Nat} {l : List Nat} (hp : par q p = true) (hl : ∀ x ∈ l, par q x = true) : ∀ x ∈ spW w p l, par q x = true := fun x hx => by
  unfold spW at hx
  rcases List.mem_append.mp hx with z | z
  · exact hl x (List.mem_of_mem_take z)
  · rcases List.mem_cons.mp z with z | z
    · rw [z]; exact hp
    · exact hl x (List.mem_of_mem_drop z)
theorem filter_all {g : Nat → Bool} : ∀ {l : List Nat}, (∀ x ∈ l, g x = true) → l.filter g = l := fun h => List.filter_eq_self.mpr h
theorem filter_none {g : Nat → Bool} {l : List Nat} (h : ∀ x ∈ l, g x = false) : l.filter g = [] := List.filter_eq_nil_iff.mpr (fun x hx => by rw [h x hx]; decide)
theorem ord_eqv {a l : List Nat} {p w : Nat} (h1 : ∀ q, q ≠ p / 10 → l.filter (par q) = a.filter (par q)) (h2 : l.filter (par (p / 10)) = spW w p (no p (a.filter (par (p / 10))))) : eqv l (a.filter (fun x => !par (p / 10) x) ++ spW w p (no p (a.filter (par (p / 10))))) := fun q => by
  have hpp : par (p / 10) p = true := by simp [par]
  have hno : ∀ x ∈ no p (a.filter (par (p / 10))), par (p / 10) x = true := fun x hx => by
    unfold no at hx
    exact (List.mem_filter.mp (List.mem_filter.mp hx).1).2
  rw [List.filter_append]
  by_cases z : q = p / 10
  · subst z
    rw [h2, filter_all (spW_par hpp hno), List.filter_filter, filter_none (g := fun x => par (p / 10) x && !par (p / 10) x) (l := a) (fun x _ => by cases par (p / 10) x <;> rfl), List.nil_append]
  · rw [h1 q z, filter_none (g := par q) (l := spW w p _) (fun x hx => par_uq (spW_par hpp hno x hx) z), List.append_nil, List.filter_filter]
    apply List.filter_congr
    intro x _
    cases r : par q x
    · rfl
    · rw [par_uq r (Ne.symm z)]; rfl
theorem g_order {M : Mem} {τ : Tr} {k : Lk} {F : List Nat} (h : Rl M τ k F) {c x y tks : Int32} (hv : pvO c x y tks = true) : ∃ M', f_X4_order M c x y tks = some (.inr (oOr k τ c x.toNatClampNeg tks), M') ∧ Rl M' (if oOr k τ c x.toNatClampNeg tks = 0 then ordT τ x.toNatClampNeg y.toNatClampNeg else τ) k F := by
  obtain ⟨L, sp, h1, h2, h3, h4⟩ := h
  unfold pvO at hv
  simp only [Bool.and_eq_true] at hv
  obtain ⟨v1, v2, v3, -, p, hp0, hp, rfl⟩ := okR_of hv.1
  obtain ⟨w, hw, rfl⟩ := nI_ofNN (x := y) (by simpa using hv.2)
  rw [cl' (by omega), cl' hw]
  have eC : f_X4_order M c (nI p) (nI w) tks = if p ∈ ta τ then (if alw k c (p / 10) tks = true then bd1 (f_X3_placeMember M (nI p) (nI w)) (fun M55 => some (.inr 0, M55)) else some (.inr 4, M)) else some (.inr 1, M) := by
    unfold f_X4_order f_X4_order_0
    rw [reqClientC, v1, un_t, bdx_s, reqNameC, v2, un_t, bdx_s, reqNNC, hv.2, un_t, bdx_s, reqNNC, v3, un_t, bdx_s]
    by_cases hy : p ∈ ta τ
    · obtain ⟨L1, L2, r, -, -, e2, -, e3⟩ := find_yes h1 hy
      rw [e3, bd2_s, oe_1, if_neg (by omega), parentC M hp, bd2_s, allowsC h2 c (show p / 10 ≤ 9999 by omega) tks, bd2_s, if_pos hy]
      cases alw k c (p / 10) tks <;> rfl
    · rw [(find_no h1 hp hy).2, bd2_s, oe_0, if_neg hy]
  unfold oOr
  by_cases hy : p ∈ ta τ
  · cases ha : alw k c (p / 10) tks
    · rw [if_pos hy, ha, if_neg (by decide)] at eC
      rw [if_pos hy, if_neg (by decide), if_neg (by decide)]
      exact ⟨M, eC, Rl_mk h1 h2 h3 h4⟩
    · rw [if_pos hy, ha, if_pos rfl] at eC
      rw [if_pos hy, if_pos rfl, if_pos rfl]
      obtain ⟨M1, L', a1, a2, a3, a4, a5, a6⟩ := placeC h1 hy hw
      rw [a1, bd1_s] at eC
      have epC : pC M1 = pC M := by funext z; unfold pC; rw [a3 4 (by decide)]
      have heq : eqv (L'.map (pC M1)) (ta (ordT τ p w)) := by
        rw [epC]
        refine ord_eqv (fun q hq => ?_) ?_
        · rw [a5 q hq, h1.2.2.1]
        · rw [a6, h1.2.2.1]
      exact ⟨M1, eC, Rl_mk (TC_ta a2 heq) (LC_cong h2 (fun t _ _ => a3 t (by omega))) (FS_cong h3 (a3 0 (by omega)) (a3 1 (by omega))) h4⟩
  · rw [if_neg hy] at eC
    rw [if_neg hy, if_neg (by decide)]
    exact ⟨M, eC, Rl_mk h1 h2 h3 h4⟩

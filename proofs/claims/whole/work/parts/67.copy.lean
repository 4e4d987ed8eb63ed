/-! ===== copy ===== -/
def gC (τ : Tr) (f t : Nat) : Fn := (fun y => if inT t y = true then td τ (mvp t f y) else td τ y, fun y => if inT t y = true then tc τ (mvp t f y) else tc τ y, fun y => if inT t y = true then 0 else tn τ y, tv τ)
def gMv (τ : Tr) (f t : Nat) : Fn := (fun y => if inT t y = true then td τ (mvp t f y) else td τ y, fun y => if inT t y = true then tc τ (mvp t f y) else tc τ y, fun y => if inT t y = true then tn τ (mvp t f y) else tn τ y, fun y => if inT t y = true then tv τ (mvp t f y) else tv τ y)
theorem gC_off {τ : Tr} {f t p : Nat} {a : List Nat} (h : inT t p = false) : td (a, gC τ f t) p = td τ p ∧ tc (a, gC τ f t) p = tc τ p ∧ tn (a, gC τ f t) p = tn τ p ∧ tv (a, gC τ f t) p = tv τ p := by
  have h' : ¬ inT t p = true := by rw [h]; decide
  exact ⟨if_neg h', if_neg h', if_neg h', rfl⟩
theorem gMv_off {τ : Tr} {f t p : Nat} {a : List Nat} (h : inT t p = false) : td (a, gMv τ f t) p = td τ p ∧ tc (a, gMv τ f t) p = tc τ p ∧ tn (a, gMv τ f t) p = tn τ p ∧ tv (a, gMv τ f t) p = tv τ p := by
  have h' : ¬ inT t p = true := by rw [h]; decide
  exact ⟨if_neg h', if_neg h', if_neg h', if_neg h'⟩
theorem gC_on {τ : Tr} {f t x : Nat} {a : List Nat} (hf : 0 < f) (ht : 0 < t) (hx : x ≤ 9999) (h1 : inT f x = true) (h2 : inT t x = false) (h9 : mvp f t x ≤ 9999) : td (a, gC τ f t) (mvp f t x) = td (a, gC τ f t) x ∧ tc (a, gC τ f t) (mvp f t x) = tc (a, gC τ f t) x ∧ tn (a, gC τ f t) (mvp f t x) = 0 := by
  obtain ⟨o1, o2, -, -⟩ := gC_off (τ := τ) (f := f) (a := a) h2
  have hin := mvp_in hf ht hx h1 h9
  have hb := mvp_back hf ht hx h1 h9
  rw [o1, o2]
  refine ⟨?_, ?_, if_pos hin⟩
  · show (if inT t (mvp f t x) = true then td τ (mvp t f (mvp f t x)) else td τ (mvp f t x)) = _
    rw [if_pos hin, hb]
  · show (if inT t (mvp f t x) = true then tc τ (mvp t f (mvp f t x)) else tc τ (mvp f t x)) = _
    rw [if_pos hin, hb]
theorem gMv_on {τ : Tr} {f t x : Nat} (hf : 0 < f) (ht : 0 < t) (hx : x ≤ 9999) (h1 : inT f x = true) (h2 : inT t x = false) (h9 : mvp f t x ≤ 9999) : (gMv τ f t).1 (mvp f t x) = (gMv τ f t).1 x ∧ (gMv τ f t).2.1 (mvp f t x) = (gMv τ f t).2.1 x ∧ (gMv τ f t).2.2.1 (mvp f t x) = (gMv τ f t).2.2.1 x ∧ (gMv τ f t).2.2.2 (mvp f t x) = (gMv τ f t).2.2.2 x := by
  have hin := mvp_in hf ht hx h1 h9
  have hb := mvp_back hf ht hx h1 h9
  have h' : ¬ inT t x = true := by rw [h2]; decide
  refine ⟨?_, ?_, ?_, ?_⟩
  · show (if inT t (mvp f t x) = true then td τ (mvp t f (mvp f t x)) else td τ (mvp f t x)) = (if inT t x = true then td τ (mvp t f x) else td τ x)
    rw [if_pos hin, hb, if_neg h']
  · show (if inT t (mvp f t x) = true then tc τ (mvp t f (mvp f t x)) else tc τ (mvp f t x)) = (if inT t x = true then tc τ (mvp t f x) else tc τ x)
    rw [if_pos hin, hb, if_neg h']
  · show (if inT t (mvp f t x) = true then tn τ (mvp t f (mvp f t x)) else tn τ (mvp f t x)) = (if inT t x = true then tn τ (mvp t f x) else tn τ x)
    rw [if_pos hin, hb, if_neg h']
  · show (if inT t (mvp f t x) = true then tv τ (mvp t f (mvp f t x)) else tv τ (mvp f t x)) = (if inT t x = true then tv τ (mvp t f x) else tv τ x)
    rw [if_pos hin, hb, if_neg h']
/-- the reference's tree and locks when the target is gone -/
theorem prepM {M : Mem} {L : List Nat} {τ : Tr} {B : Nat} {k : Lk} (h : MT M L τ B) (hk : LM M k) {f t : Nat} (hf : 0 < f) (hf9 : f ≤ 9999) (ht : 0 < t) (ht9 : t ≤ 9999) (h1 : inT f t = false) (h2 : inT t f = false) (x3 : Int32) : ∃ N1 L1, f_X5_carries M (nI f) (nI t) x3 = bd2 (f_X5_lowest N1) (fun r33 M33 => f_X5_carries_38 64 M33 (nI f) (nI t) x3 r33) ∧ MT N1 L1 (trm τ (inT t)) B ∧ LM N1 (kdr k ((ta τ).filter (inT t))) ∧ (∀ j, j < 60 → mkF f M j = true → j ∈ L1) ∧ (∀ s ∈ L1, s ∈ L) ∧ (∀ s ∈ L1, inT t (pM M s) = false) ∧ same M N1 (fun t => t = 20 ∨ t = 34) := by
  obtain ⟨N1, a1, a2, a3, -, a5⟩ := carM_3 (f := f) (x3 := x3) ht9 (g := mkF t M) 60 64 0 M L τ k h hk (fun _ _ _ => rfl) (by omega) (by omega)
  have hLm : ∀ s ∈ L, mkF t M s = inT t (pM M s) := fun s hs => by unfold mkF; rw [((MT_in h).mp hs).2, Bool.true_and]
  have hLf : L.filter (fun s => !(decide (0 ≤ s) && mkF t M s)) = L.filter (fun s => !inT t (pM M s)) := List.filter_congr (fun s hs => by rw [hLm s hs]; simp)
  rw [hLf] at a2
  have hmk : ∀ j, j < 60 → mkF t M j = true → us M j = true := fun j _ hj => by
    unfold mkF at hj; simp only [Bool.and_eq_true] at hj; exact hj.1
  refine ⟨N1, L.filter (fun s => !inT t (pM M s)), a1, ?_, ?_, fun j hj hm => ?_, fun s hs => (List.mem_filter.mp hs).1, fun s hs => by simpa using (List.mem_filter.mp hs).2, a5⟩
  · have := MT_ta a2 (a := (ta τ).filter (fun p => !inT t p)) (by
      rw [pM_sm a5 (by decide), map_filter (pM M) (fun p => !inT t p)]
      exact eqv_filter h.2.2.1 _)
    exact this
  · rw [kdr_cong k (c := ((List.range' 0 60).filter (mkF t M)).map (pM M)) (fun p => ?_)]
    · exact a3
    · rw [List.mem_filter, mem_slots h hmk, MT_mem h]
      constructor
      · rintro ⟨⟨s, hs, e⟩, hG⟩
        exact ⟨s, hs, by rw [hLm s hs, e]; exact hG, e⟩
      · rintro ⟨s, hs, hgs, e⟩
        exact ⟨⟨s, hs, e⟩, by rw [← e, ← hLm s hs]; exact hgs⟩
  · unfold mkF at hm
    simp only [Bool.and_eq_true] at hm
    have hjL := (MT_in h).mpr ⟨hj, hm.1⟩
    refine List.mem_filter.mpr ⟨hjL, ?_⟩
    rw [inT_disj hf ht (h.2.1 j hjL).2.2 hf9 ht9 h1 h2 hm.2]
    rfl
theorem len_split (g : Nat → Bool) : ∀ (l : List Nat), (l.filter (fun x => !g x)).length + l.countP g = l.length
  | [] => rfl
  | x :: l => by
    have := len_split g l
    rw [List.countP_cons]
    cases q : g x
    · rw [List.filter_cons_of_pos (by simp [q])]; simp; omega
    · rw [List.filter_cons_of_neg (by simp [q])]; simp; omega
theorem cnt_rest {l : List Nat} {f t : Nat} (h : ∀ x ∈ l, inT f x = true → inT t x = false) : (l.filter (fun p => !inT t p)).countP (inT f) = l.countP (inT f) := by
  rw [List.countP_filter]
  apply List.countP_congr
  intro x hx
  cases q : inT f x
  · simp
  · rw [h x hx q]; simp
theorem pvT_of {c x y tks : Int32} (h : pvT c x y tks = true) : okR c x tks = true ∧ ∃ f t : Nat, 0 < f ∧ f ≤ 9999 ∧ 0 < t ∧ t ≤ 9999 ∧ x = nI f ∧ y = nI t ∧ inT f t = false ∧ inT t f = false := by
  unfold pvT at h
  simp only [Bool.and_eq_true, Bool.not_eq_true'] at h
  obtain ⟨h1, h2, h3, h4⟩ := h
  obtain ⟨-, -, -, -, f, f0, f9, rfl⟩ := okR_of h1
  obtain ⟨t, t0, t9, rfl⟩ := okN_of h2
  rw [cl' (by omega), cl' (by omega)] at h3 h4
  exact ⟨h1, f, t, f0, f9, t0, t9, rfl, rfl, h3, h4⟩
theorem fit_of {τ : Tr} {f t : Nat} (h : fitT τ f t = true) {x : Nat} (hx : x ∈ ta τ) (hi : inT f x = true) : mvp f t x ≤ 9999 := by
  unfold fitT at h
  rw [List.all_eq_true] at h
  have := h x hx
  rw [hi] at this
  simpa using this
theorem oTr_0 {k : Lk} {τ : Tr} {c : Int32} {f t : Nat} {ow : Bool} {tks : Int32} (h : oTr k τ c f t ow tks = 0) : f ∈ ta τ ∧ fitT τ f t = true := by
  unfold oTr at h
  by_cases q1 : f ∈ ta τ
  · rw [if_pos q1] at h
    by_cases q2 : tk τ (t / 10) = 2
    · rw [if_pos q2] at h
      cases q3 : fitT τ f t
      · rw [q3, if_neg (by decide)] at h; exact absurd h (by decide)
      · exact ⟨q1, rfl⟩
    · rw [if_neg q2] at h; exact absurd h (by decide)
  · rw [if_neg q1] at h; exact absurd h (by decide)
theorem st_copy {M : Mem} {L sp Lm : List Nat} {τ : Tr} {k : Lk} {F G : List Nat} {B : Nat} (h : Iv M L sp Lm τ k F G B) (hB : B + 200 ≤ 1000000) (c x y : Int32) (ow : Bool) (tks : Int32) : ∃ M2, agree M M2 (fun m => f_L_copy m c x y (b2i ow) tks) (fun m => f_X5_copy m c x y (b2i ow) tks) ∧ Inv M2 (B + 200) := by
  have h' := Iv_le h (show B ≤ B + 200 by omega) hB
  have eR : ∀ N, f_X5_copy N c x y (b2i ow) tks = bd2 (f_X5_brings_57 (mu N 39 0 (thr (okR c x tks))) c x y (b2i ow) tks 0 (b2i (pvT c x y tks)) (thr (pvT c x y tks))) (fun r9 M9 => some (r9, M9)) := fun N => by
    unfold f_X5_copy f_X5_copy_0
    rw [bringsM_pv]
  cases hv : pvT c x y tks
  · have h39 := Iv_mu h' (t := 39) (by decide) 0 (thr (okR c x tks))
    refine ⟨mu (mu M 39 0 (thr (okR c x tks))) 39 0 1, ag_T (q := 1) (v := 0) (M1 := M) (wT_copy_A (M1 := M) ?_) ?_ (at39 _ _) (by decide), ⟨_, _, _, _, _, _, _, Iv_mu h39 (by decide) _ _⟩⟩
    · unfold f_X4_copy f_X4_copy_0
      rw [reqTransC, hv]; rfl
    · show f_X5_copy M c x y (b2i ow) tks = _
      rw [eR, hv]; rfl
  · obtain ⟨hok, f, t, hf, hf9, ht, ht9, rfl, rfl, hd1, hd2⟩ := pvT_of hv
    have hlen := ML_len h.2.1
    have hc1 := List.countP_le_length (p := inT t) (l := ta τ)
    have hc2 := List.countP_le_length (p := inT f) (l := ta τ)
    have hsub : nI (ta τ).length - nI ((ta τ).countP (inT t)) = nI ((ta τ).length - (ta τ).countP (inT t)) := pk_sub (by omega)
    have hle : (nI ((ta τ).length - (ta τ).countP (inT t) + (ta τ).countP (inT f)) ≤ 60) = ((ta τ).length - (ta τ).countP (inT t) + (ta τ).countP (inT f) ≤ 60) := le' (b := 60) (by omega) (by decide)
    have eC : f_X4_copy M c (nI f) (nI t) (b2i ow) tks = if oCp k τ c f t ow tks = 0 then bd1 (f_X4_removeTree M (nI t)) (fun M63 => bd1 (f_X3_appendCopyOfTree M63 (nI f) (nI t)) (fun M72 => some (.inr 0, M72))) else some (.inr (oCp k τ c f t ow tks), M) := by
      unfold f_X4_copy f_X4_copy_0 oCp
      rw [reqTransC, hv, un_t, bdx_s, outTC h.1 h.2.2.1 hf hf9 ht9 ow, bd2_s, treeSizeC h.1 ht9, bd2_s, treeSizeC h.1 hf9, bd2_s, h.1.1.1, TC_len h.1, hsub, nI_add]
      simp only [hle]
      by_cases q : oTr k τ c f t ow tks = 0
      · rw [if_pos q, if_pos q]
        by_cases q2 : (ta τ).length - (ta τ).countP (inT t) + (ta τ).countP (inT f) ≤ 60
        · rw [if_pos q2, if_pos q2, if_pos rfl]
        · rw [if_neg q2, if_neg q2, if_neg (by decide)]
      · rw [if_neg q, if_neg q, if_neg q]
    by_cases ho : oCp k τ c f t ow tks = 0
    · have ho2 : oTr k τ c f t ow tks = 0 ∧ (ta τ).length - (ta τ).countP (inT t) + (ta τ).countP (inT f) ≤ 60 := by
        unfold oCp at ho
        by_cases q : oTr k τ c f t ow tks = 0
        · rw [if_pos q] at ho
          by_cases q2 : (ta τ).length - (ta τ).countP (inT t) + (ta τ).countP (inT f) ≤ 60
          · exact ⟨q, q2⟩
          · rw [if_neg q2] at ho; exact absurd ho (by decide)
        · rw [if_neg q] at ho; exact absurd ho q
      obtain ⟨-, hfit⟩ := oTr_0 ho2.1
      rw [if_pos ho] at eC
      have hT9 : ∀ p ∈ ta τ, p ≤ 9999 := fun p hp => (TC_pos h.1 hp).2
      have ht1 : ∀ p ∈ (ta τ).filter (fun p => !inT t p), p ∈ ta τ ∧ inT t p = false := fun p hp => by
        obtain ⟨z1, z2⟩ := List.mem_filter.mp hp
        exact ⟨z1, by simpa using z2⟩
      have hsrc : ∀ p ∈ ta τ, inT f p = true → inT t p = false := fun p hp hi => inT_disj hf ht (hT9 p hp) hf9 ht9 hd1 hd2 hi
      obtain ⟨M1, L1, sp1, a1, a2, a3, a4⟩ := removeTreeC h.1 h.2.2.1 ht9
      have a2g : TC M1 L1 sp1 ((ta τ).filter (fun p => !inT t p), gC τ f t) := TC_fn a2 (fun p hp => gC_off (ht1 p hp).2)
      have hmem1 : ∀ z ∈ L1, pC M1 z ∈ (ta τ).filter (fun p => !inT t p) := fun z hz => (TC_mem a2).mpr ⟨z, hz, rfl⟩
      have hcnt1 : L1.countP (fun x => inT f (pC M1 x)) = (ta τ).countP (inT f) := by
        have e1 : L1.countP (fun x => inT f (pC M1 x)) = (L1.map (pC M1)).countP (inT f) := by rw [List.countP_map]; rfl
        rw [e1, (eqv_perm a2.2.2.1).countP_eq]
        exact cnt_rest hsrc
      have hL1l : L1.length = (ta τ).length - (ta τ).countP (inT t) := by
        have e1 := TC_len a2
        have e2 := len_split (inT t) (ta τ)
        have e3 : (ta (trm τ (inT t))).length = ((ta τ).filter (fun p => !inT t p)).length := rfl
        omega
      obtain ⟨M2, L2, sp2, b1, b2, b3⟩ := copyC_8 hf hf9 ht (pf := pC M1) (e := L1.length) L1 [] [] sp1 64 M1 _ (by simpa using a2g) (fun _ _ => rfl) (by simp) (fun z hz hi => by
        have hz1 := hmem1 z hz
        obtain ⟨z1, z2⟩ := ht1 _ hz1
        have h9 := fit_of hfit z1 hi
        refine ⟨h9, fun w => ?_, gC_on hf ht (hT9 _ z1) hi z2 h9⟩
        have := (ht1 _ w).2
        rw [mvp_in hf ht (hT9 _ z1) hi h9] at this
        exact absurd this (by decide)) (by simp only [List.nil_append, List.append_nil]; omega) (by omega)
      have hcopy : f_X3_appendCopyOfTree M1 (nI f) (nI t) = some M2 := by
        unfold f_X3_appendCopyOfTree f_X3_appendCopyOfTree_0
        rw [a2.1.1]
        exact b1
      rw [a1, bd1_s, hcopy, bd1_s] at eC
      have hs2 : ∀ t, t < 2 ∨ 16 < t ∧ t < 100 → M2 t = M t := fun t' ht' => by rw [b3 t' (by omega), a4 t' (by omega)]
      have hN : ∀ t', t' < 2 ∨ (16 < t' ∧ t' < 39) → mu (mu (mu M2 40 0 0) 39 0 0) 39 0 0 t' = M t' := fun t' ht => by rw [mu_ne _ _ _ (by omega), mu_ne _ _ _ (by omega), mu_ne _ _ _ (by omega), hs2 t' (by omega)]
      have hm : MT (mu (mu (mu M2 40 0 0) 39 0 0) 39 0 0) Lm τ B := MT_cong h.2.1 (fun t _ _ => hN t (by omega))
      have hk : LM (mu (mu (mu M2 40 0 0) 39 0 0) 39 0 0) k := LM_cong h.2.2.2.1 (fun t _ _ => hN t (by omega))
      obtain ⟨M', c1, c2, c3⟩ := bringsM_run (c := c) (tks := tks) (x4 := b2i ow) (x6 := 0) hm hf hf9 ht ht9
      have eM := eR (mu M2 40 0 0)
      rw [hv, hok, show thr true = 0 from rfl, show b2i true = 1 from rfl, c1] at eM
      have n39 : mu (mu (mu M2 40 0 0) 39 0 0) 39 0 0 39 0 = 0 := at39 _ _
      have n40 : mu (mu (mu M2 40 0 0) 39 0 0) 39 0 0 40 0 = 0 := by rw [mu_at _ _ _ (by decide), at40]
      have nC : ∀ t, t < 39 ∨ 100 ≤ t → mu (mu (mu M2 40 0 0) 39 0 0) 39 0 0 t = M2 t := fun t ht => by rw [mu_ne _ _ _ (by omega), mu_ne _ _ _ (by omega), mu_ne _ _ _ (by omega)]
      generalize mu (mu (mu M2 40 0 0) 39 0 0) 39 0 0 = N at eM hN hm hk n39 n40 nC c2 c3
      have hm' : MT M' Lm τ B := MT_cong hm (fun t _ _ => c3 t (by omega))
      have hk' : LM M' k := LM_cong hk (fun t _ _ => c3 t (by omega))
      rw [brE_copy hm' hk' hf9 ht9 ow, ho] at eM
      unfold f_X5_brings_345 at eM
      rw [if_pos rfl] at eM
      obtain ⟨N1, Ln, d1, d2, d3, d4, d5, d6, d7⟩ := prepM hm' hk' hf hf9 ht ht9 hd1 hd2 0
      have d2g : MT N1 Ln ((ta τ).filter (fun p => !inT t p), gC τ f t) B := MT_fn d2 (fun p hp => gC_off (ht1 p hp).2)
      have epN : pM N1 = pM M' := pM_sm d7 (by decide)
      have epM : pM M' = pM N := pM_sm c3 (by decide)
      have emk : mkF f M' = mkF f N := mkF_sm c3 (by decide) (by decide)
      have hmem2 : ∀ s ∈ Ln, pM N1 s ∈ (ta τ).filter (fun p => !inT t p) := fun s hs => (MT_mem d2).mpr ⟨s, hs, rfl⟩
      have hSm : (Ln.filter (mkF f N)).map (pM N1) = (Ln.map (pM N1)).filter (inT f) := by
        rw [← map_filter (pM N1) (inT f)]
        congr 1
        apply List.filter_congr
        intro s hs
        have hus : us N s = true := by
          have := ((MT_in hm').mp (d5 s hs)).2
          rw [us_sm c3 (by decide)] at this
          exact this
        unfold mkF
        rw [hus, Bool.true_and, epN, epM]
      have hSl : (Ln.filter (mkF f N)).length = (ta τ).countP (inT f) := by
        rw [← List.length_map (f := pM N1), hSm, ← List.countP_eq_length_filter, (eqv_perm d2.2.2.1).countP_eq]
        exact cnt_rest hsrc
      have htl : ((ta τ).filter (fun p => !inT t p)).length = (ta τ).length - (ta τ).countP (inT t) := by
        have e2 := len_split (inT t) (ta τ)
        omega
      obtain ⟨M3, L3, e1, e2, e3⟩ := carCopy_38 hf ht (Ln.filter (mkF f N)) 64 N1 Ln (mkF f N) _ B d2g (by omega) rfl (fun j hj => by rw [d7 37 (by decide)]; exact c2 j hj) (fun j hj hmj => d4 j hj (by rw [emk]; exact hmj)) (fun s hs => by
        obtain ⟨z1, z2⟩ := List.mem_filter.mp hs
        have z3 : inT f (pM N1 s) = true := by
          unfold mkF at z2
          simp only [Bool.and_eq_true] at z2
          rw [epN, epM]; exact z2.2
        obtain ⟨w1, w2⟩ := ht1 _ (hmem2 s z1)
        have h9 := fit_of hfit w1 z3
        refine ⟨z3, h9, fun w => ?_, gC_on hf ht (hT9 _ w1) z3 w2 h9⟩
        have := (ht1 _ w).2
        rw [mvp_in hf ht (hT9 _ w1) z3 h9] at this
        exact absurd this (by decide)) (by omega) (by omega)
      rw [d1, e1, bd1_s, bd2_s] at eM
      have ha9 : ∀ p ∈ (ta τ).filter (fun p => !inT t p), p ≤ 9999 := fun p hp => hT9 p (ht1 p hp).1
      have heq : eqv ((ta τ).filter (fun p => !inT t p) ++ ((L1.map (pC M1)).filter (inT f)).map (mvp f t)) ((ta τ).filter (fun p => !inT t p) ++ ((Ln.filter (mkF f N)).map (pM N1)).map (mvp f t)) := by
        refine eqv_app (eqv_rf _) ?_
        rw [hSm]
        refine eqv_mv (eqv_tr a2.2.2.1 (eqv_sy d2.2.2.1)) hf ht (fun p hp => ?_)
        exact ha9 p ((eqv_mem a2.2.2.1 p).mp hp)
      have hTF := TC_ta b2 (eqv_tr b2.2.2.1 heq)
      have hst3 : ∀ t', (t' < 20 ∨ (26 < t' ∧ t' ≠ 34 ∧ t' ≠ 37)) → M3 t' = N t' := fun t' ht' => by rw [e3 t' (by omega), d7 t' (by omega), c3 t' (by omega)]
      refine ⟨M3, ag_R (v := 0) (M1 := M2) (wR_copy eC) eM ?_ ?_, ⟨L2, sp2, L3, _, kdr k ((ta τ).filter (inT t)), F, G, TC_cong hTF (fun t ht => ?_), MT_le e2 (by omega) hB, LC_cong a3 (fun t _ _ => ?_), LM_cong d3 (fun t _ _ => e3 t (by omega)), FL_cong h.2.2.2.2 (fun t ht => ?_)⟩⟩
      · rw [hst3 39 (by omega), n39]
      · rw [hst3 40 (by omega), n40]
      · rw [hst3 t (by omega), nC t (by omega)]
      · rw [hst3 t (by omega), nC t (by omega), b3 t (by omega)]
      · rw [hst3 t (by omega), hN t (by omega)]
    · rw [if_neg ho] at eC
      have h39 := Iv_mu (Iv_mu (Iv_mu h' (t := 40) (by decide) 0 (oCp k τ c f t ow tks)) (t := 39) (by decide) 0 0) (t := 39) (by decide) 0 0
      obtain ⟨M', c1, c2, c3⟩ := bringsM_run (c := c) (tks := tks) (x4 := b2i ow) (x6 := 0) h39.2.1 hf hf9 ht ht9
      have eM := eR (mu M 40 0 (oCp k τ c f t ow tks))
      rw [hv, hok, show thr true = 0 from rfl, show b2i true = 1 from rfl, c1] at eM
      have hI : Iv M' L sp Lm τ k F G (B + 200) := Iv_cong h39 (fun t ht => c3 t (by omega))
      rw [brE_copy hI.2.1 hI.2.2.2.1 hf9 ht9 ow] at eM
      unfold f_X5_brings_345 at eM
      rw [if_neg ho, bd2_s] at eM
      exact ⟨M', ag_R (v := oCp k τ c f t ow tks) (M1 := M) (wR_copy eC) eM (by rw [c3 39 (by decide), at39]) (by rw [c3 40 (by decide), mu_at _ _ _ (by decide), at40]), ⟨_, _, _, _, _, _, _, hI⟩⟩

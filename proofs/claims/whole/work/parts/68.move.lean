/-! ===== move ===== -/
theorem ren_1 {f t q : Nat} : ∀ (P : List Nat), (∀ x ∈ P, inT f x = false → par q x = false) → (P.map (ren f t)).filter (par q) = ((P.filter (inT f)).map (mvp f t)).filter (par q)
  | [], _ => rfl
  | x :: P, h => by
    have ih := ren_1 (f := f) (t := t) (q := q) P (fun y hy => h y (by simp [hy]))
    cases r : inT f x
    · have e : ren f t x = x := by unfold ren; rw [r, if_neg (by decide)]
      rw [List.map_cons, e, List.filter_cons_of_neg (by simp [h x (by simp) r]), List.filter_cons_of_neg (by simp [r]), ih]
    · have e : ren f t x = mvp f t x := by unfold ren; rw [r, if_pos rfl]
      rw [List.map_cons, e, List.filter_cons_of_pos r, List.map_cons, List.filter_cons, List.filter_cons, ih]
theorem ren_2 {f t q : Nat} : ∀ (P : List Nat), (∀ x ∈ P, inT f x = true → par q (mvp f t x) = false) → (P.map (ren f t)).filter (par q) = (P.filter (fun x => !inT f x)).filter (par q)
  | [], _ => rfl
  | x :: P, h => by
    have ih := ren_2 (f := f) (t := t) (q := q) P (fun y hy => h y (by simp [hy]))
    cases r : inT f x
    · have e : ren f t x = x := by unfold ren; rw [r, if_neg (by decide)]
      rw [List.map_cons, e, List.filter_cons_of_pos (p := fun x => !inT f x) (by simp [r]), List.filter_cons, List.filter_cons, ih]
    · have e : ren f t x = mvp f t x := by unfold ren; rw [r, if_pos rfl]
      rw [List.map_cons, e, List.filter_cons_of_neg (by simp [h x (by simp) r]), List.filter_cons_of_neg (p := fun x => !inT f x) (by simp [r]), ih]
theorem ren_3 {f t q : Nat} : ∀ (P : List Nat), (∀ x ∈ P, inT f x = true → par q (mvp f t x) = true → mvp f t x = t) → (∀ x ∈ P, inT f x = false → x ≠ t) → no t ((P.map (ren f t)).filter (par q)) = (P.filter (fun x => !inT f x)).filter (par q)
  | [], _, _ => rfl
  | x :: P, h, h2 => by
    have ih := ren_3 (f := f) (t := t) (q := q) P (fun y hy => h y (by simp [hy])) (fun y hy => h2 y (by simp [hy]))
    cases r : inT f x
    · have e : ren f t x = x := by unfold ren; rw [r, if_neg (by decide)]
      have hx := h2 x (by simp) r
      rw [List.map_cons, e, List.filter_cons_of_pos (p := fun x => !inT f x) (by simp [r])]
      cases r2 : par q x
      · rw [List.filter_cons_of_neg (by simp [r2]), List.filter_cons_of_neg (by simp [r2]), ih]
      · rw [List.filter_cons_of_pos r2, List.filter_cons_of_pos r2, ← ih]
        unfold no
        rw [List.filter_cons_of_pos (by simp [hx])]
    · have e : ren f t x = mvp f t x := by unfold ren; rw [r, if_pos rfl]
      rw [List.map_cons, e, List.filter_cons_of_neg (p := fun x => !inT f x) (by simp [r])]
      cases r2 : par q (mvp f t x)
      · rw [List.filter_cons_of_neg (by simp [r2]), ih]
      · have := h x (by simp) r r2
        rw [List.filter_cons_of_pos r2, this, ← ih]
        unfold no
        rw [List.filter_cons_of_neg (by simp)]
theorem one_list {t : Nat} : ∀ (l : List Nat), l.Nodup → (∀ x ∈ l, x = t) → t ∈ l → l = [t]
  | [], _, _, h => by simp at h
  | x :: l, hn, ha, _ => by
    rw [List.nodup_cons] at hn
    have hx := ha x (by simp)
    cases l with
    | nil => rw [hx]
    | cons y l =>
      have hy := ha y (by simp)
      exact absurd (by rw [hx, hy]; simp) hn.1
/-- the row of the moved tree's root comes last -/
theorem moved_eqv {f t : Nat} (hf : 0 < f) (ht : 0 < t) (hf9 : f ≤ 9999) (ht9 : t ≤ 9999) {P a Q : List Nat} {w : Nat} (hP : eqv P a) (hnd : a.Nodup) (ha : ∀ x ∈ a, x ≤ 9999 ∧ inT t x = false) (hfit : ∀ x ∈ a, inT f x = true → mvp f t x ≤ 9999) (hfa : f ∈ a) (hff : inT f f = true) (hw : P.length ≤ w) (h1 : ∀ q, q ≠ t / 10 → Q.filter (par q) = (P.map (ren f t)).filter (par q)) (h2 : Q.filter (par (t / 10)) = spW w t (no t ((P.map (ren f t)).filter (par (t / 10))))) : eqv Q (a.filter (fun x => !inT f x) ++ (a.filter (inT f)).map (mvp f t)) := fun q => by
  have hPa : ∀ x ∈ P, x ≤ 9999 ∧ inT t x = false := fun x hx => ha x ((eqv_mem hP x).mp hx)
  have hPf : ∀ x ∈ P, inT f x = true → mvp f t x ≤ 9999 := fun x hx => hfit x ((eqv_mem hP x).mp hx)
  have hU : (P.filter (fun x => !inT f x)).filter (par q) = (a.filter (fun x => !inT f x)).filter (par q) := eqv_filter hP _ q
  have hV : ((P.filter (inT f)).map (mvp f t)).filter (par q) = ((a.filter (inT f)).map (mvp f t)).filter (par q) := eqv_mv hP hf ht (fun p hp => (hPa p hp).1) q
  rw [List.filter_append]
  cases hq : inT t q
  · by_cases z : q = t / 10
    · subst z
      have htop : ∀ x, x ≤ 9999 → inT f x = true → mvp f t x ≤ 9999 → par (t / 10) (mvp f t x) = true → x = f ∧ mvp f t x = t := fun x hx hi h9 hp => by
        have e : mvp f t x / 10 = t / 10 := by simpa [par] using hp
        have := (mvp_top hf ht hx hi hq (by omega) e).1
        exact ⟨this, by rw [this, mvp_f]⟩
      have e3 := ren_3 (f := f) (t := t) (q := t / 10) P (fun x hx hi hp => (htop x (hPa x hx).1 hi (hPf x hx hi) hp).2) (fun x hx hi e => by
        have := (hPa x hx).2
        rw [e] at this
        unfold inT at this
        simp at this)
      have hVt : ((a.filter (inT f)).map (mvp f t)).filter (par (t / 10)) = [t] := by
        refine one_list _ (List.Pairwise.filter _ ?_) (fun y hy => ?_) ?_
        · rw [List.pairwise_map]
          refine List.Pairwise.imp_of_mem ?_ (List.Pairwise.filter (inT f) hnd)
          intro x y hx hy hxy e
          obtain ⟨x1, x2⟩ := List.mem_filter.mp hx
          obtain ⟨y1, y2⟩ := List.mem_filter.mp hy
          exact hxy (mvp_inj hf ht (ha x x1).1 (ha y y1).1 x2 y2 e)
        · obtain ⟨y1, y2⟩ := List.mem_filter.mp hy
          obtain ⟨x, hx, e⟩ := List.mem_map.mp y1
          obtain ⟨x1, x2⟩ := List.mem_filter.mp hx
          rw [← e] at y2 ⊢
          exact (htop x (ha x x1).1 x2 (hfit x x1 x2) y2).2
        · refine List.mem_filter.mpr ⟨List.mem_map.mpr ⟨f, List.mem_filter.mpr ⟨hfa, hff⟩, mvp_f f t⟩, by simp [par]⟩
      have hl : (no t ((P.map (ren f t)).filter (par (t / 10)))).length ≤ w := by
        have e1 := List.length_filter_le (fun x => !decide (x = t)) ((P.map (ren f t)).filter (par (t / 10)))
        have e2 := List.length_filter_le (par (t / 10)) (P.map (ren f t))
        rw [List.length_map] at e2
        unfold no
        omega
      rw [h2, spW_ge hl, e3, hU, hVt]
    · have hno : ∀ x, x ≤ 9999 → inT f x = true → mvp f t x ≤ 9999 → par q (mvp f t x) = false := fun x hx hi h9 => by
        cases r : par q (mvp f t x)
        · rfl
        · have e : mvp f t x / 10 = q := by simpa [par] using r
          exact absurd (mvp_top hf ht hx hi hq (by omega) e).2 z
      rw [h1 q z, ren_2 P (fun x hx hi => hno x (hPa x hx).1 hi (hPf x hx hi)), hU]
      have : ((a.filter (inT f)).map (mvp f t)).filter (par q) = [] := by
        rw [List.filter_eq_nil_iff]
        intro y hy
        obtain ⟨x, hx, e⟩ := List.mem_map.mp hy
        obtain ⟨x1, x2⟩ := List.mem_filter.mp hx
        rw [← e, hno x (ha x x1).1 x2 (hfit x x1 x2)]
        decide
      rw [this, List.append_nil]
  · have hz : q ≠ t / 10 := fun z => by rw [z, inT_par ht ht9] at hq; exact absurd hq (by decide)
    have hno : ∀ x, x ≤ 9999 → inT t x = false → par q x = false := fun x hx hi => by
      cases r : par q x
      · rfl
      · have e : x / 10 = q := by simpa [par] using r
        rw [← e] at hq
        rw [inT_up ht hx hq] at hi
        exact absurd hi (by decide)
    rw [h1 q hz, ren_1 P (fun x hx _ => hno x (hPa x hx).1 (hPa x hx).2), hV]
    have : (a.filter (fun x => !inT f x)).filter (par q) = [] := by
      rw [List.filter_eq_nil_iff]
      intro y hy
      have y1 := (List.mem_filter.mp hy).1
      rw [hno y (ha y y1).1 (ha y y1).2]
      decide
    rw [this, List.nil_append]
theorem st_move {M : Mem} {L sp Lm : List Nat} {τ : Tr} {k : Lk} {F G : List Nat} {B : Nat} (h : Iv M L sp Lm τ k F G B) (hB : B + 200 ≤ 1000000) (c x y : Int32) (ow : Bool) (tks : Int32) : ∃ M2, agree M M2 (fun m => f_L_move m c x y (b2i ow) tks) (fun m => f_X5_move m c x y (b2i ow) tks) ∧ Inv M2 (B + 200) := by
  have h' := Iv_le h (show B ≤ B + 200 by omega) hB
  have eR : ∀ N, f_X5_move N c x y (b2i ow) tks = bd2 (f_X5_brings_57 (mu N 39 0 (thr (okR c x tks))) c x y (b2i ow) tks 1 (b2i (pvT c x y tks)) (thr (pvT c x y tks))) (fun r9 M9 => some (r9, M9)) := fun N => by
    unfold f_X5_move f_X5_move_0
    rw [bringsM_pv]
  cases hv : pvT c x y tks
  · have h39 := Iv_mu h' (t := 39) (by decide) 0 (thr (okR c x tks))
    refine ⟨mu (mu M 39 0 (thr (okR c x tks))) 39 0 1, ag_T (q := 1) (v := 0) (M1 := M) (wT_move_A (M1 := M) ?_) ?_ (at39 _ _) (by decide), ⟨_, _, _, _, _, _, _, Iv_mu h39 (by decide) _ _⟩⟩
    · unfold f_X4_move f_X4_move_0
      rw [reqTransC, hv]; rfl
    · show f_X5_move M c x y (b2i ow) tks = _
      rw [eR, hv]; rfl
  · obtain ⟨hok, f, t, hf, hf9, ht, ht9, rfl, rfl, hd1, hd2⟩ := pvT_of hv
    have eC : f_X4_move M c (nI f) (nI t) (b2i ow) tks = if oMv k τ c f t ow tks = 0 then bd1 (f_X4_removeTree M (nI t)) (fun M61 => bd1 (f_X4_dropLocksOfTree M61 (nI f)) (fun M66 => bd1 (f_X3_renameTree M66 (nI f) (nI t)) (fun M75 => some (.inr 0, M75)))) else some (.inr (oMv k τ c f t ow tks), M) := by
      unfold f_X4_move f_X4_move_0 oMv
      rw [reqTransC, hv, un_t, bdx_s, outTC h.1 h.2.2.1 hf hf9 ht9 ow, bd2_s, parentC M hf9, bd2_s, allowsC h.2.2.1 c (show f / 10 ≤ 9999 by omega) tks, bd2_s, allowsTreeC h.1 h.2.2.1 hf9, bd2_s]
      simp only [b2i_0]
      by_cases q : oTr k τ c f t ow tks = 0
      · rw [if_pos q, if_pos q]
        cases alw k c (f / 10) tks <;> cases alT k τ c f tks <;> rfl
      · rw [if_neg q, if_neg q, if_neg q]
    by_cases ho : oMv k τ c f t ow tks = 0
    · have ho2 : oTr k τ c f t ow tks = 0 := by
        unfold oMv at ho
        by_cases q : oTr k τ c f t ow tks = 0
        · exact q
        · rw [if_neg q] at ho; exact ho
      obtain ⟨hfin, hfit⟩ := oTr_0 ho2
      rw [if_pos ho] at eC
      have hT9 : ∀ p ∈ ta τ, p ≤ 9999 := fun p hp => (TC_pos h.1 hp).2
      have ht1 : ∀ p ∈ (ta τ).filter (fun p => !inT t p), p ∈ ta τ ∧ inT t p = false := fun p hp => by
        obtain ⟨z1, z2⟩ := List.mem_filter.mp hp
        exact ⟨z1, by simpa using z2⟩
      have hf1 : f ∈ (ta τ).filter (fun p => !inT t p) := List.mem_filter.mpr ⟨hfin, by rw [hd2]; rfl⟩
      have hff : inT f f = true := by unfold inT; simp
      obtain ⟨M1, L1, sp1, a1, a2, a3, a4⟩ := removeTreeC h.1 h.2.2.1 ht9
      have hL60 := IC_len a2.1
      obtain ⟨Md, q1, q2, q3⟩ := dropTreeC_2 hf9 L1 [] 64 M1 _ (by simpa using a2) a3 (by omega)
      have epd : pC Md = pC M1 := by funext z; unfold pC; rw [q3 4 (by decide)]
      have a2d : TC Md L1 sp1 (trm τ (inT t)) := TC_cong a2 (fun t ht => q3 t (by omega))
      have a2g : TC Md L1 sp1 (L1.map (pC Md), gMv τ f t) := TC_ta (TC_fn (g := gMv τ f t) a2d (fun p hp => gMv_off (ht1 p hp).2)) (eqv_rf _)
      have hmem1 : ∀ z ∈ L1, pC Md z ∈ (ta τ).filter (fun p => !inT t p) := fun z hz => (TC_mem a2d).mpr ⟨z, hz, rfl⟩
      have hndP := TC_nd a2d
      obtain ⟨M3, b1, b2, b3, b4⟩ := renC_2 hf hf9 ht (pf := pC Md) L1 [] 64 Md (by simpa using a2g) (fun z hz => by simp at hz) (fun _ _ => rfl) (fun z hz y hy hne => by
        obtain ⟨z1, z2⟩ := ht1 _ (hmem1 z (by simpa using hz))
        obtain ⟨y1, y2⟩ := ht1 _ (hmem1 y (by simpa using hy))
        have hpne : pC Md z ≠ pC Md y := fun e => hne (nodup_inj hndP (by simpa using hz) (by simpa using hy) e)
        have hA : ∀ u v, u ∈ ta τ → v ∈ ta τ → inT t v = false → inT f u = true → mvp f t u ≠ v := fun u v hu hv hi hfu e => by
          have := mvp_in hf ht (hT9 u hu) hfu (fit_of hfit hu hfu)
          rw [e, hi] at this; exact absurd this (by decide)
        refine ⟨fun e => ?_, fun hi => hA _ _ z1 y1 y2 hi⟩
        unfold ren at e
        cases r1 : inT f (pC Md z) <;> cases r2 : inT f (pC Md y) <;> rw [r1, r2] at e
        · rw [if_neg (by decide), if_neg (by decide)] at e; exact hpne e
        · rw [if_neg (by decide), if_pos rfl] at e; exact hA _ _ y1 z1 z2 r2 e.symm
        · rw [if_pos rfl, if_neg (by decide)] at e; exact hA _ _ z1 y1 y2 r1 e
        · rw [if_pos rfl, if_pos rfl] at e
          exact hpne (mvp_inj hf ht (hT9 _ z1) (hT9 _ y1) r1 r2 e)) (fun z hz hi => by
        obtain ⟨z1, z2⟩ := ht1 _ (hmem1 z hz)
        have h9 := fit_of hfit z1 hi
        exact ⟨h9, gMv_on hf ht (hT9 _ z1) hi z2 h9⟩) (by omega)
      simp only [List.nil_append] at b2 b3
      have hmapR : L1.map (pC M3) = (L1.map (pC Md)).map (ren f t) := by
        rw [List.map_map]
        exact List.map_congr_left (fun z hz => b3 z hz)
      have htin : t ∈ ta ((L1.map (pC M3), gMv τ f t) : Tr) := by
        obtain ⟨z, hz, e⟩ := (TC_mem a2d).mp hf1
        refine List.mem_map.mpr ⟨z, hz, ?_⟩
        rw [b3 z hz, e]
        unfold ren
        rw [if_pos hff, mvp_f]
      obtain ⟨M4, L4, d1, d2, d3, -, d5, d6⟩ := placeC b2 htin (w := L1.length) (by omega)
      have hrename : f_X3_renameTree Md (nI f) (nI t) = some M4 := by
        unfold f_X3_renameTree f_X3_renameTree_0
        refine Eq.trans b1 ?_
        rw [b2.1.1, d1, bd1_s]
      have q1' : f_X4_dropLocksOfTree M1 (nI f) = some Md := q1
      rw [a1, bd1_s, q1', bd1_s, hrename, bd1_s] at eC
      rw [hmapR] at d5 d6
      have heqC : eqv (L4.map (pC M3)) (((ta τ).filter (fun p => !inT t p)).filter (fun x => !inT f x) ++ (((ta τ).filter (fun p => !inT t p)).filter (inT f)).map (mvp f t)) :=
        moved_eqv hf ht hf9 ht9 (P := L1.map (pC Md)) a2d.2.2.1 a2d.2.2.2.1 (fun z hz => ⟨hT9 z (ht1 z hz).1, (ht1 z hz).2⟩) (fun z hz hi => fit_of hfit (ht1 z hz).1 hi) hf1 hff (w := L1.length) (by rw [List.length_map]; omega) d5 d6
      have hTF := TC_ta d2 (a := ((ta τ).filter (fun p => !inT t p)).filter (fun x => !inT f x) ++ (((ta τ).filter (fun p => !inT t p)).filter (inT f)).map (mvp f t)) (by
        rw [show pC M4 = pC M3 by funext z; unfold pC; rw [d3 4 (by decide)]]
        exact heqC)
      have hs4 : ∀ t', t' < 2 ∨ 16 < t' ∧ t' < 100 → M4 t' = M t' := fun t' ht' => by rw [d3 t' (by omega), b4 t' (by omega), q3 t' (by omega), a4 t' (by omega)]
      have hN : ∀ t', t' < 2 ∨ (16 < t' ∧ t' < 39) → mu (mu (mu M4 40 0 0) 39 0 0) 39 0 0 t' = M t' := fun t' ht => by rw [mu_ne _ _ _ (by omega), mu_ne _ _ _ (by omega), mu_ne _ _ _ (by omega), hs4 t' (by omega)]
      have hm : MT (mu (mu (mu M4 40 0 0) 39 0 0) 39 0 0) Lm τ B := MT_cong h.2.1 (fun t _ _ => hN t (by omega))
      have hk : LM (mu (mu (mu M4 40 0 0) 39 0 0) 39 0 0) k := LM_cong h.2.2.2.1 (fun t _ _ => hN t (by omega))
      obtain ⟨M', c1, c2, c3⟩ := bringsM_run (c := c) (tks := tks) (x4 := b2i ow) (x6 := 1) hm hf hf9 ht ht9
      have eM := eR (mu M4 40 0 0)
      rw [hv, hok, show thr true = 0 from rfl, show b2i true = 1 from rfl, c1] at eM
      have n39 : mu (mu (mu M4 40 0 0) 39 0 0) 39 0 0 39 0 = 0 := at39 _ _
      have n40 : mu (mu (mu M4 40 0 0) 39 0 0) 39 0 0 40 0 = 0 := by rw [mu_at _ _ _ (by decide), at40]
      have nC : ∀ t, t < 39 ∨ 100 ≤ t → mu (mu (mu M4 40 0 0) 39 0 0) 39 0 0 t = M4 t := fun t ht => by rw [mu_ne _ _ _ (by omega), mu_ne _ _ _ (by omega), mu_ne _ _ _ (by omega)]
      generalize mu (mu (mu M4 40 0 0) 39 0 0) 39 0 0 = N at eM hN hm hk n39 n40 nC c2 c3
      have hm' : MT M' Lm τ B := MT_cong hm (fun t _ _ => c3 t (by omega))
      have hk' : LM M' k := LM_cong hk (fun t _ _ => c3 t (by omega))
      rw [brE_move hm' hk' hf9 ht9 ow, ho] at eM
      unfold f_X5_brings_345 at eM
      rw [if_pos rfl] at eM
      obtain ⟨N1, Ln, g1, g2, g3, g4, g5, g6, g7⟩ := prepM hm' hk' hf hf9 ht ht9 hd1 hd2 1
      have g2v : MT N1 Ln (Ln.map (pM N1), gMv τ f t) B := MT_ta (MT_fn (g := gMv τ f t) g2 (fun p hp => gMv_off (ht1 p hp).2)) (eqv_rf _)
      have epN : pM N1 = pM M' := pM_sm g7 (by decide)
      have epM : pM M' = pM N := pM_sm c3 (by decide)
      have emk : mkF f M' = mkF f N := mkF_sm c3 (by decide) (by decide)
      have hmem2 : ∀ s ∈ Ln, pM N1 s ∈ (ta τ).filter (fun p => !inT t p) := fun s hs => (MT_mem g2).mpr ⟨s, hs, rfl⟩
      have hmkL : ∀ s ∈ Ln, mkF f N s = inT f (pM N1 s) := fun s hs => by
        have hus : us N s = true := by
          have := ((MT_in hm').mp (g5 s hs)).2
          rw [us_sm c3 (by decide)] at this
          exact this
        unfold mkF
        rw [hus, Bool.true_and, epN, epM]
      have hSm : (Ln.filter (mkF f N)).map (pM N1) = (Ln.map (pM N1)).filter (inT f) := by
        rw [← map_filter (pM N1) (inT f)]
        congr 1
        exact List.filter_congr hmkL
      have hSn : (Ln.filter (fun j => !mkF f N j)).map (pM N1) = (Ln.map (pM N1)).filter (fun x => !inT f x) := by
        rw [← map_filter (pM N1) (fun x => !inT f x)]
        congr 1
        exact List.filter_congr (fun s hs => by rw [hmkL s hs])
      have hSl : (Ln.filter (mkF f N)).length ≤ 60 := by
        have e1 := List.length_filter_le (mkF f N) Ln
        have e2 := ML_len g2
        have e3 := (eqv_perm g2.2.2.1).length_eq
        rw [List.length_map] at e3
        omega
      obtain ⟨M5, L5, e1, e2, e3, e4⟩ := carMove_38 hf ht (Ln.filter (mkF f N)) 64 N1 Ln (mkF f N) _ B g2v g3 (by omega) rfl (fun j hj => by rw [g7 37 (by decide)]; exact c2 j hj) (fun j hj hmj => g4 j hj (by rw [emk]; exact hmj)) (fun s hs => by
        obtain ⟨z1, z2⟩ := List.mem_filter.mp hs
        have z3 : inT f (pM N1 s) = true := by rw [← hmkL s z1]; exact z2
        obtain ⟨w1, w2⟩ := ht1 _ (hmem2 s z1)
        have h9 := fit_of hfit w1 z3
        exact ⟨z3, h9, gMv_on hf ht (hT9 _ w1) z3 w2 h9⟩) (fun s hs y hy e => by
        obtain ⟨z1, z2⟩ := List.mem_filter.mp hs
        have z3 : inT f (pM N1 s) = true := by rw [← hmkL s z1]; exact z2
        obtain ⟨w1, w2⟩ := ht1 _ (hmem2 s z1)
        have h9 := fit_of hfit w1 z3
        have h3 := (ht1 _ (hmem2 y hy)).2
        rw [e, mvp_in hf ht (hT9 _ w1) z3 h9] at h3
        exact absurd h3 (by decide)) (by omega)
      rw [g1, e1, bd1_s, bd2_s] at eM
      have heqM : eqv ((Ln.filter (fun j => !mkF f N j)).map (pM N1) ++ ((Ln.filter (mkF f N)).map (pM N1)).map (mvp f t)) (((ta τ).filter (fun p => !inT t p)).filter (fun x => !inT f x) ++ (((ta τ).filter (fun p => !inT t p)).filter (inT f)).map (mvp f t)) := by
        rw [hSm, hSn]
        exact eqv_app (eqv_filter g2.2.2.1 _) (eqv_mv g2.2.2.1 hf ht (fun p hp => by
          obtain ⟨s, hs, e⟩ := List.mem_map.mp hp
          rw [← e]; exact hT9 _ (ht1 _ (hmem2 s hs)).1))
      have hMF := MT_ta e2 (eqv_tr e2.2.2.1 heqM)
      have hlock : kdr (kdr k ((ta τ).filter (inT t))) ((L1.map (pC M1)).filter (inT f)) = kdr (kdr k ((ta τ).filter (inT t))) ((Ln.filter (mkF f N)).map (pM N1)) := by
        rw [hSm]
        refine kdr_cong _ (fun p => ?_)
        rw [List.mem_filter, List.mem_filter, eqv_mem a2.2.2.1, eqv_mem g2.2.2.1]
      rw [hlock] at q2
      have hst5 : ∀ t', (t' < 20 ∨ (25 < t' ∧ t' ≠ 34 ∧ t' ≠ 37)) → M5 t' = N t' := fun t' ht' => by rw [e4 t' (by omega), g7 t' (by omega), c3 t' (by omega)]
      refine ⟨M5, ag_R (v := 0) (M1 := M4) (wR_move eC) eM ?_ ?_, ⟨L4, sp1, L5, _, _, F, G, TC_cong hTF (fun t ht => ?_), MT_le hMF (by omega) hB, LC_cong q2 (fun t _ _ => ?_), e3, FL_cong h.2.2.2.2 (fun t ht => ?_)⟩⟩
      · rw [hst5 39 (by omega), n39]
      · rw [hst5 40 (by omega), n40]
      · rw [hst5 t (by omega), nC t (by omega)]
      · rw [hst5 t (by omega), nC t (by omega), d3 t (by omega), b4 t (by omega)]
      · rw [hst5 t (by omega), hN t (by omega)]
    · rw [if_neg ho] at eC
      have h39 := Iv_mu (Iv_mu (Iv_mu h' (t := 40) (by decide) 0 (oMv k τ c f t ow tks)) (t := 39) (by decide) 0 0) (t := 39) (by decide) 0 0
      obtain ⟨M', c1, c2, c3⟩ := bringsM_run (c := c) (tks := tks) (x4 := b2i ow) (x6 := 1) h39.2.1 hf hf9 ht ht9
      have eM := eR (mu M 40 0 (oMv k τ c f t ow tks))
      rw [hv, hok, show thr true = 0 from rfl, show b2i true = 1 from rfl, c1] at eM
      have hI : Iv M' L sp Lm τ k F G (B + 200) := Iv_cong h39 (fun t ht => c3 t (by omega))
      rw [brE_move hI.2.1 hI.2.2.2.1 hf9 ht9 ow] at eM
      unfold f_X5_brings_345 at eM
      rw [if_neg ho, bd2_s] at eM
      exact ⟨M', ag_R (v := oMv k τ c f t ow tks) (M1 := M) (wR_move eC) eM (by rw [c3 39 (by decide), at39]) (by rw [c3 40 (by decide), mu_at _ _ _ (by decide), at40]), ⟨_, _, _, _, _, _, _, hI⟩⟩

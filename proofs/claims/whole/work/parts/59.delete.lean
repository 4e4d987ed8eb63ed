/-! ===== delete, failureAt ===== -/
theorem mem_slots {M : Mem} {L : List Nat} {τ : Tr} {B : Nat} (h : MT M L τ B) {f : Nat → Bool} (hf : ∀ j, j < 60 → f j = true → us M j = true) {p : Nat} : p ∈ ((List.range' 0 60).filter f).map (pM M) ↔ ∃ s ∈ L, f s = true ∧ pM M s = p := by
  rw [List.mem_map]
  constructor
  · rintro ⟨s, hs, e⟩
    rw [List.mem_filter, List.mem_range'] at hs
    obtain ⟨⟨i, hi, e2⟩, h2⟩ := hs
    have hs60 : s < 60 := by omega
    exact ⟨s, (MT_in h).mpr ⟨hs60, hf s hs60 h2⟩, h2, e⟩
  · rintro ⟨s, hs, h2, e⟩
    refine ⟨s, ?_, e⟩
    rw [List.mem_filter, List.mem_range']
    exact ⟨⟨s, ((MT_in h).mp hs).1, by omega⟩, h2⟩
theorem nodup_slots {M : Mem} {L : List Nat} {τ : Tr} {B : Nat} (h : MT M L τ B) {f : Nat → Bool} (hf : ∀ j, j < 60 → f j = true → us M j = true) : (((List.range' 0 60).filter f).map (pM M)).Nodup := by
  have hp : ((List.range' 0 60).filter f).Perm (L.filter f) := by
    rw [List.perm_ext_iff_of_nodup (List.Pairwise.filter _ (List.nodup_range' (step := 1))) (List.Pairwise.filter _ (MT_ndL h))]
    intro x
    rw [List.mem_filter, List.mem_filter, List.mem_range', MT_in h]
    constructor
    · rintro ⟨⟨i, hi, e⟩, h2⟩; exact ⟨⟨by omega, hf x (by omega) h2⟩, h2⟩
    · rintro ⟨⟨h1, _⟩, h2⟩; exact ⟨⟨x, h1, by omega⟩, h2⟩
  rw [(hp.map (pM M)).nodup_iff]
  exact List.Nodup.sublist ((List.filter_sublist).map (pM M)) (MT_nd h)
theorem st_delete {M : Mem} {L sp Lm : List Nat} {τ : Tr} {k : Lk} {F G : List Nat} {B : Nat} (h : Iv M L sp Lm τ k F G B) (hB : B + 200 ≤ 1000000) (c x tks : Int32) : ∃ M2, agree M M2 (fun m => f_L_delete m c x tks) (fun m => f_X5_delete m c x tks) ∧ Inv M2 (B + 200) := by
  have h' := Iv_le h (show B ≤ B + 200 by omega) hB
  cases hv : okR c x tks
  · refine ⟨mu M 39 0 1, ag_T (q := 1) (v := 0) (M1 := M) (wT_delete_A (M1 := M) ?_) ?_ (at39 _ _) (by decide), ⟨_, _, _, _, _, _, _, Iv_mu h' (by decide) _ _⟩⟩
    · unfold f_X4_delete f_X4_delete_0
      unfold okR at hv
      rw [reqClientC]
      simp only [reqNameC, reqNNC]
      cases h1 : okC c
      · rfl
      · cases h2 : okN x
        · rfl
        · rw [h1, h2, Bool.true_and, Bool.true_and] at hv; rw [hv]; rfl
    · show f_X5_delete M c x tks = _
      unfold f_X5_delete f_X5_delete_0
      rw [isRightM, hv]; rfl
  · obtain ⟨v1, v2, v3, -, u, hu0, hu, rfl⟩ := okR_of hv
    have hT0 : TC (mu M 0 0 0) L sp τ := TC_cong h.1 (fun t _ => mu_ne _ _ _ (by omega))
    have hk0 : LC (mu M 0 0 0) k := LC_cong h.2.2.1 (fun t _ _ => mu_ne _ _ _ (by omega))
    have eC : f_X4_delete M c (nI u) tks = bd2 (f_X3_find (mu M 0 0 0) (nI u)) (fun q22 M22 => oe q22 (some (.inr (1 : Int32), M22)) (fun k22 => if 60 ≤ k22 then none else bd2 (f_X4_allowsWithParent M22 c (nI u) tks) (fun r34 M34 => if r34 = 0 then some (.inr (4 : Int32), M34) else bd1 (f_X4_noteFailures M34 c (nI u) tks) (fun M46 => bd1 (f_X3_markTree M46 (nI u)) (fun M54 => bd1 (f_X4_spareFailures M54) (fun M58 => bd1 (f_X4_removeMarked M58) (fun M62 => if (M62 0 0) = 0 then some (.inr (0 : Int32), M62) else some (.inr (6 : Int32), M62)))))))) := by
      unfold f_X4_delete f_X4_delete_0
      rw [reqClientC, v1, un_t, bdx_s, reqNameC, v2, un_t, bdx_s, reqNNC, v3, un_t, bdx_s]
    have eM : ∀ N, f_X5_delete N c (nI u) tks = bd2 (f_X5_place (mu (mu N 39 0 0) 35 0 0) (nI u)) (fun r19 M19 => if 0 ≤ r19 then bd2 (f_X5_mayMake M19 c (nI u) tks) (fun r33 M33 => if r33 = 0 then f_X5_delete_44 M33 c (nI u) tks 4 else f_X5_delete_44 M33 c (nI u) tks 0) else f_X5_delete_44 M19 c (nI u) tks 1) := fun N => by
      unfold f_X5_delete f_X5_delete_0
      rw [isRightM, hv, bd2_s, if_neg (by decide), show thr true = 0 from rfl]
    have hFL0 : ∀ N, N 0 0 = 0 → N 35 0 = 0 → FL N [] [] := fun N a1 a2 => ⟨a1, by simp, fun j p hj => by simp at hj, List.Pairwise.nil, fun p hp => by simp at hp, List.Perm.refl _, a2, fun j p hj => by simp at hj⟩
    have hsimple : ∀ v : Int32, f_X4_delete M c (nI u) tks = some (.inr v, mu M 0 0 0) → f_X5_delete (mu (mu M 0 0 0) 40 0 v) c (nI u) tks = some (v, mu (mu (mu (mu M 0 0 0) 40 0 v) 39 0 0) 35 0 0) → ∃ M2, agree M M2 (fun m => f_L_delete m c (nI u) tks) (fun m => f_X5_delete m c (nI u) tks) ∧ Inv M2 (B + 200) := fun v a1 a2 => by
      refine ⟨_, ag_R (v := v) (M1 := mu M 0 0 0) (wR_delete a1) a2 (by rw [mu_at _ _ _ (by decide), at39]) (by rw [mu_at _ _ _ (by decide), at40]), ⟨L, sp, Lm, τ, k, [], [], TC_cong h.1 (fun t ht => ?_), MT_cong h'.2.1 (fun t _ _ => ?_), LC_cong h.2.2.1 (fun t _ _ => ?_), LM_cong h.2.2.2.1 (fun t _ _ => ?_), hFL0 _ ?_ (mu_self _ _ _ _)⟩⟩
      · rw [mu_ne _ _ _ (by omega), mu_ne _ _ _ (by omega), mu_ne _ _ _ (by omega), mu_ne _ _ _ (by omega)]
      · rw [mu_ne _ _ _ (by omega), mu_ne _ _ _ (by omega), mu_ne _ _ _ (by omega), mu_ne _ _ _ (by omega)]
      · rw [mu_ne _ _ _ (by omega), mu_ne _ _ _ (by omega), mu_ne _ _ _ (by omega), mu_ne _ _ _ (by omega)]
      · rw [mu_ne _ _ _ (by omega), mu_ne _ _ _ (by omega), mu_ne _ _ _ (by omega), mu_ne _ _ _ (by omega)]
      · rw [mu_at _ _ _ (by decide), mu_at _ _ _ (by decide), mu_at _ _ _ (by decide), mu_self]
    have hNm : ∀ N, (∀ t, 19 < t ∧ t < 35 → N t = M t) → MT (mu (mu N 39 0 0) 35 0 0) Lm τ B ∧ LM (mu (mu N 39 0 0) 35 0 0) k := fun N hN => ⟨MT_cong h.2.1 (fun t _ _ => by rw [mu_ne _ _ _ (by omega), mu_ne _ _ _ (by omega), hN t (by omega)]), LM_cong h.2.2.2.1 (fun t _ _ => by rw [mu_ne _ _ _ (by omega), mu_ne _ _ _ (by omega), hN t (by omega)])⟩
    by_cases hy : u ∈ ta τ
    · obtain ⟨L1, L2, r, -, -, e2, -, e3⟩ := find_yes hT0 hy
      rw [e3, bd2_s, oe_1, if_neg (by omega), allows2C hk0 c hu tks, bd2_s] at eC
      cases ha : al2 k c u tks
      · rw [ha, if_pos (show b2i false = 0 from rfl)] at eC
        refine hsimple 4 eC ?_
        obtain ⟨hm, hk⟩ := hNm (mu (mu M 0 0 0) 40 0 4) (fun t ht => by rw [mu_ne _ _ _ (by omega), mu_ne _ _ _ (by omega)])
        obtain ⟨s, g1, g2, g3, g4, g5, g6⟩ := place_yes hm hy
        rw [eM, g6, bd2_s, if_pos (nI_pos' (by omega)), mayMakeM hk c hu tks, bd2_s, ha, if_pos (show b2i false = 0 from rfl)]
        unfold f_X5_delete_44
        rw [if_neg (by decide)]
      · have hau : alw k c u tks = true := by unfold al2 at ha; simp only [Bool.and_eq_true] at ha; exact ha.1
        rw [ha, if_neg (by decide)] at eC
        obtain ⟨Mb, F', b1, b2, b3, b4⟩ := noteC hT0 hk0 (mu_self _ _ _ _) (c := c) (tk := tks) hu
        have hTb : TC Mb L sp τ := TC_cong hT0 (fun t ht => b4 t (by omega))
        have hkb : LC Mb k := LC_cong hk0 (fun t _ _ => b4 t (by omega))
        obtain ⟨Mc, c1, c2, c3⟩ := markC hTb hu
        have hTc : TC Mc L sp τ := TC_cong7 hTb (fun t ht => c3 t (by omega))
        have hFl : F'.length ≤ 60 := by
          have e1 := b3.length_eq
          have e2 := List.length_filter_le (badP k c tks u) (ta τ)
          have e3 := ML_len h.2.1
          omega
        obtain ⟨Md, d1, d2, d3⟩ := sparesC_2 (F := F') hFl b2.2.2.2 F' [] 64 Mc rfl hTc (by rw [c3 0 (by decide)]; exact b2.1) (fun j p hj => by rw [c3 1 (by decide)]; exact b2.2.1 j p hj) (by omega)
        have hTd : TC Md L sp τ := TC_cong7 hTc (fun t ht => d3 t (by omega))
        have hkd : LC Md k := LC_cong hkb (fun t _ _ => by rw [d3 t (by omega), c3 t (by omega)])
        have epc : pC Mc = pC Mb := by funext z; unfold pC; rw [c3 4 (by decide)]
        have epd : pC Md = pC Mb := by funext z; unfold pC; rw [d3 4 (by decide), c3 4 (by decide)]
        obtain ⟨GG, hGG⟩ : ∃ GG : Nat → Bool, ∀ p, GG p = (inT u p && !F'.any (fun f => inT p f)) := ⟨_, fun _ => rfl⟩
        have hmk : ∀ r ∈ L, Md 7 r = b2i (GG (pC Md r)) := fun r hr => by
          rw [d2 r hr, c2 r hr, epc, epd, hGG]
          cases F'.any (fun f => inT (pC Mb r) f) <;> cases inT u (pC Mb r) <;> rfl
        obtain ⟨Me, L', sp', e1, e2', e3', e4⟩ := remC hTd hkd hmk
        have d1' : f_X4_spareFailures Mc = some Md := d1
        have hs : ∀ t, t = 0 ∨ t = 1 → Me t = Mb t := fun t ht => by rw [e4 t (by omega), d3 t (by omega), c3 t (by omega)]
        have hFS : FS Me F' := FS_cong b2 (hs 0 (by omega)) (hs 1 (by omega))
        have hst : ∀ t, 16 < t ∧ t < 100 → Me t = M t := fun t ht => by rw [e4 t (by omega), d3 t (by omega), c3 t (by omega), b4 t (by omega), mu_ne _ _ _ (by omega)]
        rw [b1, bd1_s, c1, bd1_s, d1', bd1_s, e1, bd1_s] at eC
        have hres : f_X4_delete M c (nI u) tks = some (.inr (if F' = [] then 0 else 6), Me) := by
          rw [eC, hFS.1]
          cases F' with
          | nil => rfl
          | cons a F' => rw [if_neg (by rw [ze (by omega)]; simp), if_neg (by simp)]
        obtain ⟨w, hw⟩ : ∃ w : Int32, w = if F' = [] then 0 else 6 := ⟨_, rfl⟩
        rw [← hw] at hres
        obtain ⟨hm, hk⟩ := hNm (mu Me 40 0 w) (fun t ht => by rw [mu_ne _ _ _ (by omega), hst t (by omega)])
        have eM1 := eM (mu Me 40 0 w)
        have n39 : mu (mu (mu Me 40 0 w) 39 0 0) 35 0 0 39 0 = 0 := by rw [mu_at _ _ _ (by decide), at39]
        have n40 : mu (mu (mu Me 40 0 w) 39 0 0) 35 0 0 40 0 = w := by rw [mu_at _ _ _ (by decide), at40]
        have n35 : mu (mu (mu Me 40 0 w) 39 0 0) 35 0 0 35 0 = 0 := mu_self _ _ _ _
        have nC : ∀ t, t < 35 ∨ 100 ≤ t → mu (mu (mu Me 40 0 w) 39 0 0) 35 0 0 t = Me t := fun t ht => by rw [mu_ne _ _ _ (by omega), mu_ne _ _ _ (by omega), mu_ne _ _ _ (by omega)]
        generalize mu (mu (mu Me 40 0 w) 39 0 0) 35 0 0 = N at hm hk eM1 n39 n40 n35 nC
        obtain ⟨s, g1, g2, g3, g4, g5, g6⟩ := place_yes hm hy
        rw [g6, bd2_s, if_pos (nI_pos' (by omega)), mayMakeM hk c hu tks, bd2_s, ha, if_neg (by decide)] at eM1
        unfold f_X5_delete_44 at eM1
        rw [if_pos (by decide)] at eM1
        obtain ⟨Na, p1, p2, p3⟩ := delM_57 (c := c) (tk := tks) hu 60 64 0 N hm hk (by omega) (by omega)
        obtain ⟨fx, hfx⟩ : ∃ fx : Nat → Bool, fx = fxM k c tks u N := ⟨_, rfl⟩
        have hfxe : ∀ j, fx j = (us N j && (inT u (pM N j) && !alw k c (pM N j) tks)) := fun j => by rw [hfx]; rfl
        have hfxu : ∀ j, j < 60 → fx j = true → us N j = true := fun j _ hj => by
          rw [hfxe] at hj; simp only [Bool.and_eq_true] at hj; exact hj.1
        have p2' : ∀ j, j < 60 → Na 38 j = b2i (fx j) := fun j hj => by rw [p2, if_pos ⟨by omega, hj⟩, hfx]
        have hma : MT Na Lm τ B := MT_cong hm (fun t _ _ => p3 t (by omega))
        obtain ⟨Nb, q1, q2, -, q4⟩ := delM_111 (fx := fx) hu 60 64 0 Na hma p2' (fun j hj hf => by rw [us_sm p3 (by decide)]; exact hfxu j hj hf) (by omega) (by omega)
        have hmb : MT Nb Lm τ B := MT_cong hma (fun t _ _ => q4 t (by omega))
        have hkb' : LM Nb k := LM_cong hk (fun t _ _ => by rw [q4 t (by omega), p3 t (by omega)])
        have epb : pM Nb = pM N := (pM_sm q4 (by decide)).trans (pM_sm p3 (by decide))
        have eub : us Nb = us N := (us_sm q4 (by decide)).trans (us_sm p3 (by decide))
        have est : ∀ i, stayM u fx Na i = stayM u fx N i := fun i => by unfold stayM; rw [upM_sm p3 (by decide) (by decide)]
        obtain ⟨g, hg⟩ : ∃ g : Nat → Bool, ∀ j, g j = (us N j && (inT u (pM N j) && !stayM u fx N j)) := ⟨_, fun _ => rfl⟩
        have hgu : ∀ j, j < 60 → g j = true → us N j = true := fun j _ hj => by
          rw [hg] at hj; simp only [Bool.and_eq_true] at hj; exact hj.1
        obtain ⟨N', r1, r2, r3, r4, r5, r6⟩ := delM_212 (fx := fx) (mk := stayM u fx N) (g := g) hu 60 64 0 Nb Lm τ k [] hmb hkb' (fun j hj => by rw [q4 38 (by decide)]; exact p2' j hj) (fun j hj => by rw [q2 j (by omega) hj, est]) (fun j _ hj hf => by rw [eub]; exact hfxu j hj hf) (fun j _ hj => by rw [eub, epb]; exact hg j) (by rw [q4 35 (by decide), p3 35 (by decide)]; exact n35) (fun j p hj => by simp at hj) (by simp) (by omega) (by omega)
        rw [epb, List.nil_append] at r1 r4 r5
        rw [epb] at r3
        rw [show (0 : Int32) = nI 0 from rfl] at p1 q1
        have eM2 := eM1.trans (p1.trans (q1.trans r1))
        have hFG : F'.Perm (((List.range' 0 60).filter fx).map (pM N)) := by
          rw [List.perm_ext_iff_of_nodup (b3.nodup_iff.mpr (List.Pairwise.filter _ h.1.2.2.2.1)) (nodup_slots hm hfxu)]
          intro p
          rw [b3.mem_iff, List.mem_filter, mem_slots hm hfxu, MT_mem hm]
          constructor
          · rintro ⟨⟨s, hs, e⟩, hb⟩
            refine ⟨s, hs, ?_, e⟩
            unfold badP at hb
            simp only [Bool.and_eq_true] at hb
            rw [hfxe, ((MT_in hm).mp hs).2, e, hb.2]
            unfold inT
            rw [hb.1]; simp
          · rintro ⟨s, hs, hf, e⟩
            refine ⟨⟨s, hs, e⟩, ?_⟩
            rw [hfxe, e] at hf
            simp only [Bool.and_eq_true] at hf
            unfold badP
            rw [hf.2.2, Bool.and_true]
            have h1 := hf.2.1
            unfold inT at h1
            simp only [Bool.or_eq_true, decide_eq_true_eq] at h1
            rcases h1 with z | z
            · rw [z] at hf
              rw [hau] at hf
              exact absurd hf.2.2 (by decide)
            · exact z
        have hgG : ∀ s ∈ Lm, g s = GG (pM N s) := fun s hs => by
          rw [hg, hGG, ((MT_in hm).mp hs).2, Bool.true_and]
          cases hin : inT u (pM N s)
          · rfl
          · rw [Bool.true_and, Bool.true_and]
            congr 1
            rw [Bool.eq_iff_iff]
            unfold stayM upM
            simp only [Bool.or_eq_true, List.any_eq_true, Bool.and_eq_true]
            constructor
            · rintro (hf | ⟨j, hj, -, hf, hab⟩)
              · exact ⟨pM N s, hFG.mem_iff.mpr ((mem_slots hm hfxu).mpr ⟨s, hs, hf, rfl⟩), by unfold inT; simp⟩
              · have hj60 : j < 60 := by
                  rw [List.mem_range'] at hj
                  obtain ⟨i, hi, e⟩ := hj
                  omega
                exact ⟨pM N j, hFG.mem_iff.mpr ((mem_slots hm hfxu).mpr ⟨j, (MT_in hm).mpr ⟨hj60, hfxu j hj60 hf⟩, hf, rfl⟩), by unfold inT; simp [hab]⟩
            · rintro ⟨f, hf, hi⟩
              obtain ⟨j, hj, hfj, e⟩ := (mem_slots hm hfxu).mp (hFG.mem_iff.mp hf)
              unfold inT at hi
              simp only [Bool.or_eq_true, decide_eq_true_eq] at hi
              rcases hi with z | z
              · left
                have : j = s := nodup_inj (MT_nd hm) hj hs (by rw [e, z])
                rw [← this]; exact hfj
              · right
                refine ⟨j, ?_, ⟨((MT_in hm).mp hs).2, hin⟩, hfj, by rw [e]; exact z⟩
                rw [List.mem_range']
                exact ⟨j, ((MT_in hm).mp hj).1, by omega⟩
        have hLf : Lm.filter (fun s => !(decide (0 ≤ s) && g s)) = Lm.filter (fun s => !GG (pM N s)) := List.filter_congr (fun s hs => by rw [← hgG s hs]; simp)
        have hmF : MT N' (Lm.filter (fun s => !GG (pM N s))) (trm τ GG) B := by
          rw [hLf] at r2
          refine MT_ta r2 ?_
          rw [pM_sm r6 (by decide), epb, map_filter (pM N) (fun p => !GG p)]
          exact eqv_filter hm.2.2.1 _
        have hkF : LM N' (kdr k ((ta τ).filter GG)) := by
          rw [kdr_cong k (c := ((List.range' 0 60).filter g).map (pM N)) (fun p => ?_)]
          · exact r3
          · rw [List.mem_filter, mem_slots hm hgu, MT_mem hm]
            constructor
            · rintro ⟨⟨s, hs, e⟩, hG⟩
              exact ⟨s, hs, by rw [hgG s hs, e]; exact hG, e⟩
            · rintro ⟨s, hs, hgs, e⟩
              exact ⟨⟨s, hs, e⟩, by rw [← e, ← hgG s hs]; exact hgs⟩
        have hw2 : (if ((List.range' 0 60).filter fx).map (pM N) = [] then (0 : Int32) else 6) = w := by
          rw [hw]
          by_cases z : F' = []
          · rw [if_pos z, if_pos (by rw [z] at hFG; exact hFG.symm.eq_nil)]
          · rw [if_neg z, if_neg (fun y => z (by rw [y] at hFG; exact hFG.eq_nil))]
        rw [hw2] at eM2
        have hN' : ∀ t, t < 20 ∨ (20 < t ∧ t < 34) ∨ 38 < t → N' t = N t := fun t ht => by rw [r6 t (by omega), q4 t (by omega), p3 t (by omega)]
        refine ⟨N', ag_R (v := w) (M1 := Me) (wR_delete hres) eM2 ?_ ?_, ⟨L', sp', _, trm τ GG, kdr k ((ta τ).filter GG), F', _, TC_cong e2' (fun t ht => ?_), MT_le hmF (by omega) hB, LC_cong e3' (fun t _ _ => ?_), hkF, ?_, hFl, fun j p hj => ?_, hFS.2.2.1, hFS.2.2.2, hFG, r4, r5⟩⟩
        · rw [hN' 39 (by omega), n39]
        · rw [hN' 40 (by omega), n40]
        · rw [hN' t (by omega), nC t (by omega)]
        · rw [hN' t (by omega), nC t (by omega)]
        · rw [hN' 0 (by omega), nC 0 (by omega)]; exact hFS.1
        · rw [hN' 1 (by omega), nC 1 (by omega)]; exact hFS.2.1 j p hj
    · rw [(find_no hT0 hu hy).2, bd2_s, oe_0] at eC
      refine hsimple 1 eC ?_
      obtain ⟨hm, hk⟩ := hNm (mu (mu M 0 0 0) 40 0 1) (fun t ht => by rw [mu_ne _ _ _ (by omega), mu_ne _ _ _ (by omega)])
      rw [eM, place_no hm hu hy, bd2_s, if_neg (by decide)]
      unfold f_X5_delete_44
      rw [if_neg (by decide)]

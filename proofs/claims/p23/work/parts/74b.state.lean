/-! ===== a state written out: rows (path, kind, content, versions), locks (client, path, shared, deep, end), time, failures ===== -/
abbrev Ro : Type := Nat × Int32 × Int32 × List Int32
abbrev Lo : Type := Int32 × Nat × Int32 × Int32 × Nat
abbrev Sv : Type := List Ro × List Lo × Nat × List Nat
def fR : List Ro → Nat → Int32 × Int32 × List Int32
  | [], _ => (0, 0, [])
  | r :: l, p => if r.1 = p then r.2 else fR l p
def gL : List Lo → Nat → Lo
  | [], _ => (0, 0, 0, 0, 0)
  | r :: _, 0 => r
  | _ :: l, j + 1 => gL l j
def gVs : List Int32 → Nat → Int32
  | [], _ => 0
  | r :: _, 0 => r
  | _ :: l, j + 1 => gVs l j
def tS (s : Sv) : Tr := (s.1.map (fun r => r.1), fun p => (fR s.1 p).1, fun p => (fR s.1 p).2.1, fun p => (fR s.1 p).2.2.length, fun p j => gVs (fR s.1 p).2.2 j)
def kS (s : Sv) : Lk := (s.2.1.length, s.2.2.1, fun j => (gL s.2.1 j).1, fun j => (gL s.2.1 j).2.1, fun j => (gL s.2.1 j).2.2.1, fun j => (gL s.2.1 j).2.2.2.1, fun j => (gL s.2.1 j).2.2.2.2)
def RS (M : Mem) (s : Sv) : Prop := Rl M (tS s) (kS s) s.2.2.2
def simT (τ τ' : Tr) : Bool := decide (ta τ = ta τ') && (ta τ).all (fun p => decide (td τ p = td τ' p) && (decide (tc τ p = tc τ' p) && (decide (tn τ p = tn τ' p) && (List.range (tn τ p)).all (fun j => decide (tv τ p j = tv τ' p j)))))
def liv (t e : Nat) : Nat := if t < e then e else 0
def simK (k k' : Lk) : Bool := decide (kn k = kn k') && (decide (kt k = kt k') && (List.range (kn k)).all (fun j => decide (kcl k j = kcl k' j) && (decide (kpa k j = kpa k' j) && (decide (ksh k j = ksh k' j) && (decide (kdp k j = kdp k' j) && decide (liv (kt k) (ken k j) = liv (kt k) (ken k' j)))))))
theorem TC_sim {M : Mem} {L sp : List Nat} {τ τ' : Tr} (h : TC M L sp τ) (hs : simT τ τ' = true) : TC M L sp τ' := by
  unfold simT at hs
  simp only [Bool.and_eq_true, decide_eq_true_eq, List.all_eq_true, List.mem_range] at hs
  obtain ⟨e, hs⟩ := hs
  obtain ⟨h1, h2, h3, h4, h5⟩ := id h
  refine ⟨h1, h2, by rw [← e]; exact h3, by rw [← e]; exact h4, fun r hr => ?_⟩
  obtain ⟨b1, b2, b3, b4⟩ := hs (pC M r) ((TC_mem h).mpr ⟨r, hr, rfl⟩)
  obtain ⟨d1, d2, d3, d4, d5, d6⟩ := h5 r hr
  refine ⟨d1.trans b1, ⟨d2.1, by rw [← b2]; exact d2.2.1, fun j hj => ?_⟩, d3.trans b2, by rw [← b3]; exact d4, by rw [← b3]; exact d5, fun j hj => ?_⟩
  · rw [← b4 j (by rw [b3]; exact hj)]
    exact d2.2.2 j (by rw [b3]; exact hj)
  · rw [← b4 j (by rw [b3]; exact hj)]
    exact d6 j (by rw [b3]; exact hj)
theorem liv_i {t e e' : Nat} (h : liv t e = liv t e') : (t < e ↔ t < e') ∧ (t < e → e = e') := by
  unfold liv at h
  by_cases q : t < e
  · rw [if_pos q] at h
    by_cases q' : t < e'
    · rw [if_pos q'] at h; exact ⟨⟨fun _ => q', fun _ => q⟩, fun _ => h⟩
    · rw [if_neg q'] at h; omega
  · rw [if_neg q] at h
    by_cases q' : t < e'
    · rw [if_pos q'] at h; omega
    · exact ⟨⟨fun z => absurd z q, fun z => absurd z q'⟩, fun z => absurd z q⟩
theorem LC_sim {M : Mem} {k k' : Lk} (h : LC M k) (hs : simK k k' = true) : LC M k' := by
  unfold simK at hs
  simp only [Bool.and_eq_true, decide_eq_true_eq, List.all_eq_true, List.mem_range] at hs
  obtain ⟨e1, e2, hs⟩ := hs
  obtain ⟨z1, z2, z3, z4, z5⟩ := h
  refine ⟨z1.trans (congrArg nI e1), by rw [← e1]; exact z2, z3.trans (congrArg nI e2), by rw [← e2]; exact z4, fun j hj => ?_⟩
  rw [← e1] at hj
  obtain ⟨b1, b2, b3, b4, b5⟩ := hs j hj
  obtain ⟨w1, w2, w3, w4, w5, e, w6, w7, w8, w9⟩ := z5 j hj
  obtain ⟨l1, l2⟩ := liv_i b5
  refine ⟨w1.trans b1, w2.trans (congrArg nI b2), by rw [← b2]; exact w3, w4.trans b3, w5.trans b4, e, w6, w7, ?_, ?_⟩
  · rw [← e2]; exact w8.trans l1
  · rw [← e2]
    intro q
    exact (w9 q).trans (l2 (w8.mp q))
def simA (τ : Tr) (k : Lk) (F : List Nat) (s : Sv) : Bool := simT τ (tS s) && (simK k (kS s) && decide (F = s.2.2.2))
theorem RS_of {M : Mem} {τ : Tr} {k : Lk} {F : List Nat} {s : Sv} (h : Rl M τ k F) (hs : simA τ k F s = true) : RS M s := by
  obtain ⟨L, sp, h1, h2, h3, h4⟩ := h
  unfold simA at hs
  simp only [Bool.and_eq_true, decide_eq_true_eq] at hs
  obtain ⟨e1, e2, e3⟩ := hs
  exact ⟨L, sp, TC_sim h1 e1, LC_sim h2 e2, by rw [← e3]; exact h3, by rw [← e3]; exact h4⟩
theorem sorted_eq : ∀ (a c : List Nat), a.Pairwise (fun x y => x < y) → c.Pairwise (fun x y => x < y) → (∀ x, x ∈ a ↔ x ∈ c) → a = c
  | [], [], _, _, _ => rfl
  | [], y :: c, _, _, h => by have := (h y).mpr (by simp); simp at this
  | x :: a, [], _, _, h => by have := (h x).mp (by simp); simp at this
  | x :: a, y :: c, ha, hc, h => by
    rw [List.pairwise_cons] at ha hc
    have e : x = y := by
      have h1 := (h x).mp (by simp)
      have h2 := (h y).mpr (by simp)
      rcases List.mem_cons.mp h1 with z | z
      · exact z
      · rcases List.mem_cons.mp h2 with w | w
        · exact w.symm
        · have := hc.1 x z
          have := ha.1 y w
          omega
    subst e
    rw [sorted_eq a c ha.2 hc.2 (fun z => ?_)]
    constructor
    · intro hz
      have h1 := ha.1 z hz
      rcases List.mem_cons.mp ((h z).mp (by simp [hz])) with w | w
      · omega
      · exact w
    · intro hz
      have h1 := hc.1 z hz
      rcases List.mem_cons.mp ((h z).mpr (by simp [hz])) with w | w
      · omega
      · exact w
theorem bA {a b : Bool} (h : (a && b) = true) : a = true ∧ b = true := by cases a <;> cases b <;> first | exact ⟨rfl, rfl⟩ | (exact absurd h (by decide))
theorem bN {a : Bool} (h : (!a) = true) : a = false := by cases a <;> first | rfl | (exact absurd h (by decide))
theorem dE {p : Prop} {_ : Decidable p} (h : decide p = true) : p := of_decide_eq_true h
/-! steps from one written state to the next -/
theorem s_mk {M : Mem} {s : Sv} (s' : Sv) (a : Int32) {c x tks : Int32} (h : RS M s) (hc : (okR c x tks && (decide (oMk (kS s) (tS s) c x.toNatClampNeg tks = a) && simA (if a = 0 then tput (tS s) x.toNatClampNeg 2 0 else tS s) (kS s) s.2.2.2 s')) = true) : ∃ M', f_X4_makeCollection M c x tks = some (.inr a, M') ∧ RS M' s' := by
  simp only [Bool.and_eq_true, decide_eq_true_eq] at hc
  obtain ⟨c1, c2, c3⟩ := hc
  obtain ⟨M', e, r⟩ := g_mk h c1
  rw [c2] at e r
  exact ⟨M', e, RS_of r c3⟩
theorem s_put {M : Mem} {s : Sv} (s' : Sv) (a : Int32) {c x ct ex tks : Int32} (h : RS M s) (hc : ((okR c x tks && (inR ct 0 999 && inR ex (-1) 999)) && (decide (oPut (kS s) (tS s) c x.toNatClampNeg ex tks = a) && simA (if a = 0 then twr (tS s) x.toNatClampNeg ct else tS s) (kS s) s.2.2.2 s')) = true) : ∃ M', f_X4_put M c x ct ex tks = some (.inr a, M') ∧ RS M' s' := by
  obtain ⟨c1, hc⟩ := bA hc
  obtain ⟨c2, c3⟩ := bA hc
  have c2 := dE c2
  obtain ⟨M', e, r⟩ := g_put h c1
  rw [c2] at e r
  exact ⟨M', e, RS_of r c3⟩
def srtB (F : List Nat) : Bool := match F with
  | [] => true
  | x :: l => l.all (fun y => decide (x < y)) && srtB l
theorem srtB_i : ∀ (F : List Nat), srtB F = true → F.Pairwise (fun x y => x < y)
  | [], _ => List.Pairwise.nil
  | x :: l, h => by
    unfold srtB at h
    simp only [Bool.and_eq_true, List.all_eq_true, decide_eq_true_eq] at h
    exact List.pairwise_cons.mpr ⟨h.1, srtB_i l h.2⟩
def badL (b : Bool) (τ : Tr) (k : Lk) (c : Int32) (u : Nat) (tks : Int32) : List Nat := if b = true then (ta τ).filter (badP k c tks u) else []
theorem s_delete {M : Mem} {s : Sv} (s' : Sv) (a : Int32) (b : Bool) {c x tks : Int32} (h : RS M s) (hc : (okR c x tks && (decide (oDel (kS s) (tS s) c x.toNatClampNeg tks = a) && (decide (xDel (kS s) (tS s) c x.toNatClampNeg tks = b) && (simT (if b = true then trm (tS s) (goP (kS s) (tS s) c x.toNatClampNeg tks) else tS s) (tS s') && (simK (if b = true then kdr (kS s) ((ta (tS s)).filter (goP (kS s) (tS s) c x.toNatClampNeg tks)) else kS s) (kS s') && (srtB s'.2.2.2 && ((badL b (tS s) (kS s) c x.toNatClampNeg tks).all (fun p => s'.2.2.2.contains p) && s'.2.2.2.all (fun p => (badL b (tS s) (kS s) c x.toNatClampNeg tks).contains p)))))))) = true) : ∃ M', f_X4_delete M c x tks = some (.inr a, M') ∧ RS M' s' := by
  simp only [Bool.and_eq_true, decide_eq_true_eq] at hc
  obtain ⟨c1, c2, c3, c4, c5, c6, c7, c8⟩ := hc
  obtain ⟨M', F', e, hp, r⟩ := g_delete h c1
  rw [c2] at e
  rw [c3] at hp r
  obtain ⟨L, sp, h1, h2, h3, h4⟩ := r
  have hF : F' = s'.2.2.2 := sorted_eq _ _ h3.2.2.1 (srtB_i _ c6) (fun z => by
    rw [hp.mem_iff]
    have hb : (if b = true then (ta (tS s)).filter (badP (kS s) c tks x.toNatClampNeg) else []) = badL b (tS s) (kS s) c x.toNatClampNeg tks := rfl
    rw [hb]
    rw [List.all_eq_true] at c7 c8
    constructor
    · intro q; simpa using c7 z q
    · intro q; simpa using c8 z q)
  exact ⟨M', e, L, sp, TC_sim h1 c4, LC_sim h2 c5, by rw [← hF]; exact h3, by rw [← hF]; exact h4⟩
theorem s_copy {M : Mem} {s : Sv} (s' : Sv) (a : Int32) (ow : Bool) {c x y tks : Int32} (h : RS M s) (hc : (pvT c x y tks && (decide (oCp (kS s) (tS s) c x.toNatClampNeg y.toNatClampNeg ow tks = a) && simA (if a = 0 then xCp (tS s) x.toNatClampNeg y.toNatClampNeg else tS s) (if a = 0 then kdr (kS s) ((ta (tS s)).filter (inT y.toNatClampNeg)) else kS s) s.2.2.2 s')) = true) : ∃ M', f_X4_copy M c x y (b2i ow) tks = some (.inr a, M') ∧ RS M' s' := by
  simp only [Bool.and_eq_true, decide_eq_true_eq] at hc
  obtain ⟨c1, c2, c3⟩ := hc
  obtain ⟨M', e, r⟩ := g_copy h ow c1
  rw [c2] at e r
  exact ⟨M', e, RS_of r c3⟩
theorem s_move {M : Mem} {s : Sv} (s' : Sv) (a : Int32) (ow : Bool) {c x y tks : Int32} (h : RS M s) (hc : (pvT c x y tks && (decide (oMv (kS s) (tS s) c x.toNatClampNeg y.toNatClampNeg ow tks = a) && simA (if a = 0 then xMv (tS s) x.toNatClampNeg y.toNatClampNeg else tS s) (if a = 0 then kMv (kS s) (tS s) x.toNatClampNeg y.toNatClampNeg else kS s) s.2.2.2 s')) = true) : ∃ M', f_X4_move M c x y (b2i ow) tks = some (.inr a, M') ∧ RS M' s' := by
  simp only [Bool.and_eq_true, decide_eq_true_eq] at hc
  obtain ⟨c1, c2, c3⟩ := hc
  obtain ⟨M', e, r⟩ := g_move h ow c1
  rw [c2] at e r
  exact ⟨M', e, RS_of r c3⟩
theorem s_order {M : Mem} {s : Sv} (s' : Sv) (a : Int32) {c x y tks : Int32} (h : RS M s) (hc : (pvO c x y tks && (decide (oOr (kS s) (tS s) c x.toNatClampNeg tks = a) && simA (if a = 0 then ordT (tS s) x.toNatClampNeg y.toNatClampNeg else tS s) (kS s) s.2.2.2 s')) = true) : ∃ M', f_X4_order M c x y tks = some (.inr a, M') ∧ RS M' s' := by
  simp only [Bool.and_eq_true, decide_eq_true_eq] at hc
  obtain ⟨c1, c2, c3⟩ := hc
  obtain ⟨M', e, r⟩ := g_order h c1
  rw [c2] at e r
  exact ⟨M', e, RS_of r c3⟩
theorem s_lock {M : Mem} {s : Sv} (s' : Sv) (a : Int32) (sh dp : Bool) {c x y tks : Int32} (h : RS M s) (hc : (pvL c x y tks && (okL (kS s) (tS s) c x.toNatClampNeg sh dp tks && (decide (nI (kn (kS s)) = a) && simA (if x.toNatClampNeg = 0 ∨ x.toNatClampNeg ∈ ta (tS s) then tS s else tput (tS s) x.toNatClampNeg 1 0) (kadd (kS s) c x.toNatClampNeg (b2i sh) (b2i dp) (kt (kS s) + y.toNatClampNeg)) s.2.2.2 s'))) = true) : ∃ M', f_X4_lock M c x (b2i sh) (b2i dp) y tks = some (.inr a, M') ∧ RS M' s' := by
  simp only [Bool.and_eq_true, decide_eq_true_eq] at hc
  obtain ⟨c1, c2, c3, c4⟩ := hc
  obtain ⟨M', e, r⟩ := g_lock h sh dp c1 c2
  rw [c3] at e
  exact ⟨M', e, RS_of r c4⟩
theorem s_lockS {M : Mem} {s : Sv} (sh dp : Bool) {c x y tks : Int32} (h : RS M s) (hc : (pvL c x y tks && !okL (kS s) (tS s) c x.toNatClampNeg sh dp tks) = true) : f_X4_lock M c x (b2i sh) (b2i dp) y tks = some (.inl xS, M) := by
  simp only [Bool.and_eq_true, Bool.not_eq_true'] at hc
  exact g_lockS h sh dp hc.1 hc.2
def onB (k : Lk) (x : Int32) : Bool := decide ((0 : Int32) ≤ x) && (decide (x.toNatClampNeg < kn k) && act k x.toNatClampNeg)
theorem s_refresh {M : Mem} {s : Sv} (s' : Sv) (a : Int32) {c x y : Int32} (h : RS M s) (hc : (onB (kS s) x && ((okC c && inR y 0 1000) && (decide (kcl (kS s) x.toNatClampNeg = c) && (decide (nI (ken (kS s) x.toNatClampNeg) - nI (kt (kS s)) = a) && simA (tS s) (kset (kS s) (fun i => if i = x.toNatClampNeg then kt (kS s) + y.toNatClampNeg else ken (kS s) i)) s.2.2.2 s')))) = true) : ∃ M', f_X4_refresh M c x y = some (.inr a, M') ∧ RS M' s' := by
  obtain ⟨c1, hc⟩ := bA hc
  obtain ⟨c2, hc⟩ := bA hc
  obtain ⟨c3, hc⟩ := bA hc
  obtain ⟨c4, c5⟩ := bA hc
  have c3 := dE c3
  have c4 := dE c4
  obtain ⟨M', e, r⟩ := g_refresh h c1 c2 c3
  rw [c4] at e
  exact ⟨M', e, RS_of r c5⟩
theorem s_refreshA {M : Mem} {s : Sv} {c x y : Int32} (h : RS M s) (hc : (onB (kS s) x && !(okC c && inR y 0 1000)) = true) : f_X4_refresh M c x y = some (.inl xA, M) := by
  exact g_refreshA h (bA hc).1 (bN (bA hc).2)
theorem s_refreshS {M : Mem} {s : Sv} {c x y : Int32} (h : RS M s) (hc : (onB (kS s) x && ((okC c && inR y 0 1000) && !decide (kcl (kS s) x.toNatClampNeg = c))) = true) : f_X4_refresh M c x y = some (.inl xS, M) := by
  exact g_refreshS h (bA hc).1 (bA (bA hc).2).1 (of_decide_eq_false (bN (bA (bA hc).2).2))
theorem s_refreshB {M : Mem} {s : Sv} {c x y : Int32} (h : RS M s) (hc : onB (kS s) x = false) : f_X4_refresh M c x y = some (.inl xB, M) := g_refreshB h hc
theorem s_pass {M : Mem} {s : Sv} (s' : Sv) (a : Int32) {x : Int32} (h : RS M s) (hc : ((inR x 1 1000 && decide (kt (kS s) + x.toNatClampNeg ≤ 1000000)) && (decide (nI (cntU (ends (kS s) (kt (kS s) + x.toNatClampNeg)) (kn (kS s)) 0) = a) && simA (tS s) (kpass (kS s) x.toNatClampNeg) s.2.2.2 s')) = true) : ∃ M', f_X4_pass M x = some (.inr a, M') ∧ RS M' s' := by
  obtain ⟨c1, hc⟩ := bA hc
  obtain ⟨c2, c3⟩ := bA hc
  have c2 := dE c2
  obtain ⟨M', e, r⟩ := g_pass h c1
  rw [c2] at e
  exact ⟨M', e, RS_of r c3⟩
theorem s_keep {M : Mem} {s : Sv} (s' : Sv) (a : Int32) {x : Int32} (h : RS M s) (hc : ((vpb x && (isF (tS s) x.toNatClampNeg && decide (tn (tS s) x.toNatClampNeg < 10))) && (decide (nI (tn (tS s) x.toNatClampNeg) = a) && simA (tkeep (tS s) x.toNatClampNeg) (kS s) s.2.2.2 s')) = true) : ∃ M', f_X4_keep M x = some (.inr a, M') ∧ RS M' s' := by
  obtain ⟨c1, hc⟩ := bA hc
  obtain ⟨c2, c3⟩ := bA hc
  have c2 := dE c2
  obtain ⟨M', e, r⟩ := g_keep h c1
  rw [c2] at e
  exact ⟨M', e, RS_of r c3⟩
theorem s_keepS {M : Mem} {s : Sv} {x : Int32} (h : RS M s) (hc : (vpb x && !(isF (tS s) x.toNatClampNeg && decide (tn (tS s) x.toNatClampNeg < 10))) = true) : f_X4_keep M x = some (.inl xS, M) := by
  exact g_keepS h (bA hc).1 (bN (bA hc).2)
theorem s_restore {M : Mem} {s : Sv} (s' : Sv) (a : Int32) {c x y tks : Int32} (h : RS M s) (hc : (pvV c x y tks && (decide (oRs (kS s) (tS s) c x.toNatClampNeg y.toNatClampNeg tks = a) && simA (if a = 0 then tcon (tS s) x.toNatClampNeg (tv (tS s) x.toNatClampNeg y.toNatClampNeg) else tS s) (kS s) s.2.2.2 s')) = true) : ∃ M', f_X4_restore M c x y tks = some (.inr a, M') ∧ RS M' s' := by
  simp only [Bool.and_eq_true, decide_eq_true_eq] at hc
  obtain ⟨c1, c2, c3⟩ := hc
  obtain ⟨M', e, r, -⟩ := g_restore h c1
  rw [c2] at e r
  exact ⟨M', e, RS_of r c3⟩
theorem s_resources {M : Mem} {s : Sv} {a : Int32} (h : RS M s) (hc : nI (ta (tS s)).length = a) : f_X4_resources M = some (a, M) := by rw [g_resources h, hc]
theorem s_failures {M : Mem} {s : Sv} {a : Int32} (h : RS M s) (hc : nI s.2.2.2.length = a) : f_X4_failures M = some (a, M) := by rw [g_failures h, hc]
theorem s_kindOf {M : Mem} {s : Sv} {x a : Int32} (h : RS M s) (hc : (vpb x && decide (tk (tS s) x.toNatClampNeg = a)) = true) : f_X4_kindOf M x = some (.inr a, M) := by
  simp only [Bool.and_eq_true, decide_eq_true_eq] at hc
  rw [g_kindOf h hc.1, hc.2]
theorem s_content {M : Mem} {s : Sv} {x a : Int32} (h : RS M s) (hc : (vpb x && decide (ctn (tS s) x.toNatClampNeg = a)) = true) : f_X4_content M x = some (.inr a, M) := by
  simp only [Bool.and_eq_true, decide_eq_true_eq] at hc
  rw [g_content h hc.1, hc.2]
theorem s_members {M : Mem} {s : Sv} {x a : Int32} (h : RS M s) (hc : (vpb x && decide (nI ((ta (tS s)).filter (par x.toNatClampNeg)).length = a)) = true) : f_X4_members M x = some (.inr a, M) := by
  simp only [Bool.and_eq_true, decide_eq_true_eq] at hc
  rw [g_members h hc.1, hc.2]
theorem s_memberAt {M : Mem} {s : Sv} {x y a : Int32} (p : Nat) (h : RS M s) (hc : ((vpb x && (decide ((0 : Int32) ≤ y) && decide (((ta (tS s)).filter (par x.toNatClampNeg))[y.toNatClampNeg]? = some p))) && decide (nI p = a)) = true) : f_X4_memberAt M x y = some (.inr a, M) := by
  rw [g_memberAt h (bA hc).1, dE (bA hc).2]
theorem s_covering {M : Mem} {s : Sv} {x a : Int32} (h : RS M s) (hc : (vpb x && decide (ovl (kS s) x.toNatClampNeg = a)) = true) : f_X4_covering M x = some (.inr a, M) := by
  simp only [Bool.and_eq_true, decide_eq_true_eq] at hc
  rw [g_covering h hc.1, hc.2]
theorem s_mayChange {M : Mem} {s : Sv} {c x tks a : Int32} (h : RS M s) (hc : (pvM c x tks && decide (b2i (alw (kS s) c x.toNatClampNeg tks) = a)) = true) : f_X4_mayChange M c x tks = some (.inr a, M) := by
  simp only [Bool.and_eq_true, decide_eq_true_eq] at hc
  rw [g_mayChange h hc.1, hc.2]
theorem s_failureAt {M : Mem} {s : Sv} {x a : Int32} (p : Nat) (h : RS M s) (hc : ((decide ((0 : Int32) ≤ x) && decide (s.2.2.2[x.toNatClampNeg]? = some p)) && decide (nI p = a)) = true) : f_X4_failureAt M x = some (.inr a, M) := by
  rw [g_failureAt h (bA hc).1, dE (bA hc).2]

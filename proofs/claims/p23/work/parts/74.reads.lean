/-! ===== the calls that only read; what is refused ===== -/
theorem g_resources {M : Mem} {τ : Tr} {k : Lk} {F : List Nat} (h : Rl M τ k F) : f_X4_resources M = some (nI (ta τ).length, M) := by
  obtain ⟨L, sp, h1, h2, h3, h4⟩ := h
  unfold f_X4_resources f_X4_resources_0
  rw [h1.1.1, TC_len h1]
theorem g_failures {M : Mem} {τ : Tr} {k : Lk} {F : List Nat} (h : Rl M τ k F) : f_X4_failures M = some (nI F.length, M) := by
  obtain ⟨L, sp, h1, h2, h3, h4⟩ := h
  unfold f_X4_failures f_X4_failures_0
  rw [h3.1]
theorem g_kindOf {M : Mem} {τ : Tr} {k : Lk} {F : List Nat} (h : Rl M τ k F) {x : Int32} (hv : vpb x = true) : f_X4_kindOf M x = some (.inr (tk τ x.toNatClampNeg), M) := by
  obtain ⟨L, sp, h1, h2, h3, h4⟩ := h
  obtain ⟨p, hp, rfl⟩ := vpb_of hv
  rw [cl' (by omega)]
  unfold f_X4_kindOf f_X4_kindOf_0
  rw [reqPathC, hv, un_t, bdx_s, kindAtC h1 hp]; rfl
def ctn (τ : Tr) (p : Nat) : Int32 := if isF τ p = true then tc τ p else -1
theorem g_content {M : Mem} {τ : Tr} {k : Lk} {F : List Nat} (h : Rl M τ k F) {x : Int32} (hv : vpb x = true) : f_X4_content M x = some (.inr (ctn τ x.toNatClampNeg), M) := by
  obtain ⟨L, sp, h1, h2, h3, h4⟩ := h
  obtain ⟨p, hp, rfl⟩ := vpb_of hv
  rw [cl' (by omega)]
  unfold f_X4_content f_X4_content_0 ctn
  cases hf : isF τ p
  · rw [reqPathC, hv, un_t, bdx_s, file_no h1 hp (isF_n hf), bd2_s, oe_0, if_neg (by decide)]
  · obtain ⟨r, hr, e1, e2, e3⟩ := file_yes h1 (isF_i hf).1 (isF_i hf).2
    have ec := (h1.2.2.2.2 r hr).2.2.1
    rw [e1] at ec
    rw [reqPathC, hv, un_t, bdx_s, e3, bd2_s, oe_1, if_neg (by omega), ec, if_pos rfl]
theorem g_members {M : Mem} {τ : Tr} {k : Lk} {F : List Nat} (h : Rl M τ k F) {x : Int32} (hv : vpb x = true) : f_X4_members M x = some (.inr (nI ((ta τ).filter (par x.toNatClampNeg)).length), M) := by
  obtain ⟨L, sp, h1, h2, h3, h4⟩ := h
  obtain ⟨p, hp, rfl⟩ := vpb_of hv
  rw [cl' (by omega)]
  unfold f_X4_members f_X4_members_0
  rw [reqPathC, hv, un_t, bdx_s, memberCountC h1 hp]; rfl
theorem g_memberAt {M : Mem} {τ : Tr} {k : Lk} {F : List Nat} (h : Rl M τ k F) {x y : Int32} {p : Nat} (hv : (vpb x && (decide ((0 : Int32) ≤ y) && decide (((ta τ).filter (par x.toNatClampNeg))[y.toNatClampNeg]? = some p))) = true) : f_X4_memberAt M x y = some (.inr (nI p), M) := by
  obtain ⟨L, sp, h1, h2, h3, h4⟩ := h
  simp only [Bool.and_eq_true, decide_eq_true_eq] at hv
  obtain ⟨hv, hy, hp⟩ := hv
  obtain ⟨q, hq, rfl⟩ := vpb_of hv
  obtain ⟨w, hw, rfl⟩ := nI_ofNN hy
  rw [cl' (by omega), cl' hw] at hp
  rw [← h1.2.2.1 q] at hp
  obtain ⟨A, r, R, rfl, e2, e3, e4⟩ := nth_split _ _ _ _ _ hp
  obtain ⟨z1, z2, z3, z4, z5, z6, z7, z8, z9⟩ := TC_at h1
  unfold f_X4_memberAt f_X4_memberAt_0
  have := memberIndex_yes h1 hq (by rw [e2]; exact e3)
  rw [e4] at this
  rw [reqPathC, hv, un_t, bdx_s, this, bd2_s, pathAtC h1, bd2_s, if_neg (fun z => nI_pos (show pC M r < 4294967296 / 2 by omega) (by rw [z]; decide)), e2]
theorem g_memberAtB {M : Mem} {τ : Tr} {k : Lk} {F : List Nat} (h : Rl M τ k F) {x y : Int32} (hv : vpb x = true) (hy : ∀ w, w < ((ta τ).filter (par x.toNatClampNeg)).length → y ≠ nI w) : f_X4_memberAt M x y = some (.inl xB, M) := by
  obtain ⟨L, sp, h1, h2, h3, h4⟩ := h
  obtain ⟨q, hq, rfl⟩ := vpb_of hv
  rw [cl' (by omega)] at hy
  unfold f_X4_memberAt f_X4_memberAt_0
  rw [reqPathC, hv, un_t, bdx_s, memberIndex_no h1 hq hy, bd2_s]
  rfl
theorem g_covering {M : Mem} {τ : Tr} {k : Lk} {F : List Nat} (h : Rl M τ k F) {x : Int32} (hv : vpb x = true) : f_X4_covering M x = some (.inr (ovl k x.toNatClampNeg), M) := by
  obtain ⟨L, sp, h1, h2, h3, h4⟩ := h
  obtain ⟨p, hp, rfl⟩ := vpb_of hv
  rw [cl' (by omega)]
  unfold f_X4_covering f_X4_covering_0
  rw [reqPathC, hv, un_t, bdx_s, tokensOverC h2 hp]; rfl
def pvM (c x tks : Int32) : Bool := okC c && (vpb x && decide (0 ≤ tks))
theorem g_mayChange {M : Mem} {τ : Tr} {k : Lk} {F : List Nat} (h : Rl M τ k F) {c x tks : Int32} (hv : pvM c x tks = true) : f_X4_mayChange M c x tks = some (.inr (b2i (alw k c x.toNatClampNeg tks)), M) := by
  obtain ⟨L, sp, h1, h2, h3, h4⟩ := h
  unfold pvM at hv
  simp only [Bool.and_eq_true] at hv
  obtain ⟨p, hp, rfl⟩ := vpb_of hv.2.1
  rw [cl' (by omega)]
  unfold f_X4_mayChange f_X4_mayChange_0
  rw [reqClientC, hv.1, un_t, bdx_s, reqPathC, hv.2.1, un_t, bdx_s, reqNNC, hv.2.2, un_t, bdx_s, allowsC h2 c hp tks, bd2_s, if_pos (b2i_and _)]
theorem g_failureAt {M : Mem} {τ : Tr} {k : Lk} {F : List Nat} (h : Rl M τ k F) {x : Int32} {p : Nat} (hv : (decide ((0 : Int32) ≤ x) && decide (F[x.toNatClampNeg]? = some p)) = true) : f_X4_failureAt M x = some (.inr (nI p), M) := by
  obtain ⟨L, sp, h1, h2, h3, h4⟩ := h
  simp only [Bool.and_eq_true, decide_eq_true_eq] at hv
  obtain ⟨h0, hp⟩ := hv
  obtain ⟨j, hj, rfl⟩ := nI_ofNN h0
  rw [cl' hj] at hp
  have hjl : j < F.length := (List.getElem?_eq_some_iff.mp hp).1
  unfold f_X4_failureAt f_X4_failureAt_0
  rw [if_neg (nI_pos (by omega)), h3.1, if_neg (by rw [le' (by omega) (by omega)]; omega), if_pos (by rw [show (60 : Int32) = nI 60 from rfl, lt' (by omega) (by decide)]; omega), gi (show j < 60 by omega) (by decide), cl' (by omega), h3.2.1 j p hp]
theorem g_failureAtB {M : Mem} {τ : Tr} {k : Lk} {F : List Nat} (h : Rl M τ k F) {x : Int32} (hx : ∀ j, j < F.length → x ≠ nI j) : f_X4_failureAt M x = some (.inl xB, M) := by
  obtain ⟨L, sp, h1, h2, h3, h4⟩ := h
  unfold f_X4_failureAt f_X4_failureAt_0
  by_cases q : x < 0
  · rw [if_pos q]
  · rw [if_neg q]
    obtain ⟨j, hj, rfl⟩ := nI_ofNN (Int32.not_lt.mp q)
    rw [h3.1, if_pos (by
      rw [le' (by omega) hj]
      rcases Nat.lt_or_ge j F.length with z | z
      · exact absurd rfl (hx j z)
      · exact z)]
/-! arguments out of range -/
theorem n_mk (M : Mem) {c x tks : Int32} (hv : okR c x tks = false) : f_X4_makeCollection M c x tks = some (.inl xA, M) := by
  unfold f_X4_makeCollection f_X4_makeCollection_0
  unfold okR at hv
  rw [reqClientC]
  simp only [reqNameC, reqNNC]
  cases h1 : okC c
  · rfl
  · cases h2 : okN x
    · rfl
    · rw [h1, h2, Bool.true_and, Bool.true_and] at hv; rw [hv]; rfl
theorem n_put (M : Mem) {c x ct ex tks : Int32} (hv : (okR c x tks && (inR ct 0 999 && inR ex (-1) 999)) = false) : f_X4_put M c x ct ex tks = some (.inl xA, M) := by
  unfold f_X4_put f_X4_put_0
  unfold okR at hv
  rw [reqClientC]
  simp only [reqNameC, reqNNC, reqRangeC]
  cases h1 : okC c
  · rfl
  · cases h2 : okN x
    · rfl
    · cases h3 : inR ct 0 999
      · rfl
      · cases h4 : inR ex (-1) 999
        · rfl
        · rw [h1, h2, h3, h4] at hv
          have hv : decide ((0 : Int32) ≤ tks) = false := by simpa using hv
          rw [hv]; rfl
theorem n_delete (M : Mem) {c x tks : Int32} (hv : okR c x tks = false) : f_X4_delete M c x tks = some (.inl xA, M) := by
  unfold f_X4_delete f_X4_delete_0
  unfold okR at hv
  rw [reqClientC]
  simp only [reqNameC, reqNNC]
  cases h1 : okC c
  · rfl
  · cases h2 : okN x
    · rfl
    · rw [h1, h2, Bool.true_and, Bool.true_and] at hv; rw [hv]; rfl
theorem n_copy (M : Mem) {c x y o tks : Int32} (hv : pvT c x y tks = false) : f_X4_copy M c x y o tks = some (.inl xA, M) := by
  unfold f_X4_copy f_X4_copy_0
  rw [reqTransC, hv]; rfl
theorem n_move (M : Mem) {c x y o tks : Int32} (hv : pvT c x y tks = false) : f_X4_move M c x y o tks = some (.inl xA, M) := by
  unfold f_X4_move f_X4_move_0
  rw [reqTransC, hv]; rfl
theorem n_order (M : Mem) {c x y tks : Int32} (hv : pvO c x y tks = false) : f_X4_order M c x y tks = some (.inl xA, M) := by
  unfold f_X4_order f_X4_order_0
  unfold pvO okR at hv
  rw [reqClientC]
  simp only [reqNameC, reqNNC]
  cases h1 : okC c
  · rfl
  · cases h2 : okN x
    · rfl
    · cases h3 : decide ((0 : Int32) ≤ y)
      · rfl
      · rw [h1, h2, h3] at hv
        have hv : decide ((0 : Int32) ≤ tks) = false := by simpa using hv
        rw [hv]; rfl
theorem n_lock (M : Mem) {c x s d y tks : Int32} (hv : pvL c x y tks = false) : f_X4_lock M c x s d y tks = some (.inl xA, M) := by
  unfold f_X4_lock f_X4_lock_0
  unfold pvL at hv
  rw [reqClientC]
  simp only [reqPathC, reqNNC, reqRangeC]
  cases h1 : okC c
  · rfl
  · cases h2 : vpb x
    · rfl
    · cases h3 : inR y 1 1000
      · rfl
      · rw [h1, h2, h3] at hv
        have hv : decide ((0 : Int32) ≤ tks) = false := by simpa using hv
        rw [hv]; rfl
theorem n_kindOf (M : Mem) {x : Int32} (hv : vpb x = false) : f_X4_kindOf M x = some (.inl xA, M) := by
  unfold f_X4_kindOf f_X4_kindOf_0
  rw [reqPathC, hv]; rfl
theorem n_content (M : Mem) {x : Int32} (hv : vpb x = false) : f_X4_content M x = some (.inl xA, M) := by
  unfold f_X4_content f_X4_content_0
  rw [reqPathC, hv]; rfl
theorem n_members (M : Mem) {x : Int32} (hv : vpb x = false) : f_X4_members M x = some (.inl xA, M) := by
  unfold f_X4_members f_X4_members_0
  rw [reqPathC, hv]; rfl
theorem n_memberAt (M : Mem) {x y : Int32} (hv : vpb x = false) : f_X4_memberAt M x y = some (.inl xA, M) := by
  unfold f_X4_memberAt f_X4_memberAt_0
  rw [reqPathC, hv]; rfl
theorem n_pass (M : Mem) {x : Int32} (hv : inR x 1 1000 = false) : f_X4_pass M x = some (.inl xA, M) := by
  unfold f_X4_pass f_X4_pass_0
  rw [reqRangeC, hv]; rfl
theorem n_covering (M : Mem) {x : Int32} (hv : vpb x = false) : f_X4_covering M x = some (.inl xA, M) := by
  unfold f_X4_covering f_X4_covering_0
  rw [reqPathC, hv]; rfl
theorem n_mayChange (M : Mem) {c x tks : Int32} (hv : pvM c x tks = false) : f_X4_mayChange M c x tks = some (.inl xA, M) := by
  unfold f_X4_mayChange f_X4_mayChange_0
  unfold pvM at hv
  rw [reqClientC]
  simp only [reqPathC, reqNNC]
  cases h1 : okC c
  · rfl
  · cases h2 : vpb x
    · rfl
    · rw [h1, h2, Bool.true_and, Bool.true_and] at hv; rw [hv]; rfl
theorem n_keep (M : Mem) {x : Int32} (hv : vpb x = false) : f_X4_keep M x = some (.inl xA, M) := by
  unfold f_X4_keep f_X4_keep_0
  rw [reqPathC, hv]; rfl
theorem n_restore (M : Mem) {c x y tks : Int32} (hv : pvV c x y tks = false) : f_X4_restore M c x y tks = some (.inl xA, M) := by
  unfold f_X4_restore f_X4_restore_0
  unfold pvV at hv
  rw [reqClientC]
  simp only [reqPathC, reqNNC]
  cases h1 : okC c
  · rfl
  · cases h2 : vpb x
    · rfl
    · cases h3 : decide ((0 : Int32) ≤ y)
      · rfl
      · rw [h1, h2, h3] at hv
        have hv : decide ((0 : Int32) ≤ tks) = false := by simpa using hv
        rw [hv]; rfl

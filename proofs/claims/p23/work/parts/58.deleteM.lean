/-! ===== the reference takes away ===== -/
theorem MT_del {M M' : Mem} {L : List Nat} {τ : Tr} {B : Nat} (h : MT M L τ B) {s : Nat} (hs : s ∈ L) (g20 : ∀ x, M' 20 x = if x = s then 0 else M 20 x) (g : ∀ t, 21 ≤ t → t ≤ 27 → M' t = M t) : MT M' (L.filter (fun x => !decide (x = s))) ((L.filter (fun x => !decide (x = s))).map (pM M), τ.2) B := by
  have hndL := MT_ndL h
  have hnd := MT_nd h
  have hin := fun x => @MT_in M L τ B h x
  obtain ⟨h1, h2, h3, h4, h5, h6, h7, h8, h9, h10⟩ := h
  have ep : pM M' = pM M := by funext r; unfold pM; rw [g 21 (by omega) (by omega)]
  have er : rM M' = rM M := by funext r; unfold rM; rw [g 24 (by omega) (by omega)]
  have en : rn M' = rn M := by unfold rn; rw [g 25 (by omega) (by omega)]
  have hsub : ∀ x, x ∈ L.filter (fun x => !decide (x = s)) → x ∈ L := fun x hx => (List.mem_filter.mp hx).1
  unfold MT
  rw [ep, er, en, g 21 (by omega) (by omega), g 22 (by omega) (by omega), g 23 (by omega) (by omega), g 24 (by omega) (by omega), g 25 (by omega) (by omega), g 26 (by omega) (by omega), g 27 (by omega) (by omega)]
  refine ⟨MT_mk (List.Pairwise.filter _ hndL) (fun x => ?_), fun k hk => h2 k (hsub k hk), eqv_rf _, ?_, fun k hk => h5 k (hsub k hk), fun k hk => h6 k (hsub k hk), List.Pairwise.filter _ h7, h8, h9, h10⟩
  · rw [List.mem_filter, hin]
    unfold us
    rw [g20]
    by_cases z : x = s <;> simp [z]
  · exact List.Nodup.sublist ((List.filter_sublist).map (pM M)) hnd
def raw (M : Mem) (L : List Nat) (τ : Tr) : Tr := (L.map (pM M), τ.2)
theorem us_go {M M' : Mem} {s : Nat} (h : ∀ x, M' 20 x = if x = s then 0 else M 20 x) {x : Nat} (hx : x ≠ s) : us M' x = us M x := by unfold us; rw [h, if_neg hx]
theorem pM_sm {M M' : Mem} {P : Nat → Prop} (h : same M M' P) (hp : ¬ P 21) : pM M' = pM M := by funext x; unfold pM; rw [h 21 hp]
theorem us_sm {M M' : Mem} {P : Nat → Prop} (h : same M M' P) (hp : ¬ P 20) : us M' = us M := by funext x; unfold us; rw [h 20 hp]
/-- first loop: who may not be changed -/
def fxM (k : Lk) (c tk : Int32) (u : Nat) (M : Mem) (j : Nat) : Bool := us M j && (inT u (pM M j) && !alw k c (pM M j) tk)
theorem fxM_sm {k : Lk} {c tk : Int32} {u : Nat} {M M' : Mem} {P : Nat → Prop} (h : same M M' P) (hp : ¬ P 21) (hp2 : ¬ P 20) : fxM k c tk u M' = fxM k c tk u M := by
  funext j; unfold fxM; rw [pM_sm h hp, us_sm h hp2]
/-- second: what stays, for what is below it -/
def upM (u i : Nat) (fx : Nat → Bool) (M : Mem) (j : Nat) : Bool := (us M i && inT u (pM M i)) && (fx j && abv (pM M i) (pM M j))
theorem upM_sm {u i : Nat} {fx : Nat → Bool} {M M' : Mem} {P : Nat → Prop} (h : same M M' P) (hp : ¬ P 21) (hp2 : ¬ P 20) : upM u i fx M' = upM u i fx M := by
  funext j; unfold upM; rw [pM_sm h hp, us_sm h hp2]
theorem orand (a c : Bool) : (b2i a ||| b2i c) &&& 1 = b2i (a || c) := by rw [b2i_or, b2i_and]
def stayM (u : Nat) (fx : Nat → Bool) (M : Mem) (i : Nat) : Bool := fx i || (List.range' 0 60).any (upM u i fx M)

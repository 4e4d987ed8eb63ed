/-! ===== one more resource, another content, one more version ===== -/
theorem mu_x (M : Mem) (t i : Nat) (v : Int32) (x : Nat) : mu M t i v t x = if x = i then v else M t x := by rw [mu_fn]
def vup {α : Type} (f : Nat → α) (p : Nat) (v : α) : Nat → α := fun x => if x = p then v else f x
theorem vup_s {α : Type} (f : Nat → α) (p : Nat) (v : α) : vup f p v p = v := if_pos rfl
theorem vup_n {α : Type} (f : Nat → α) {p q : Nat} (v : α) (h : q ≠ p) : vup f p v q = f q := if_neg h
theorem vup_vup {α : Type} (f : Nat → α) (p : Nat) (v w : α) : vup (vup f p v) p w = vup f p w := by
  funext x
  unfold vup
  by_cases h : x = p <;> simp [h]
def tput (τ : Tr) (p : Nat) (kd ct : Int32) : Tr := (ta τ ++ [p], vup (td τ) p kd, vup (tc τ) p ct, vup (tn τ) p 0, tv τ)
def tcon (τ : Tr) (p : Nat) (c : Int32) : Tr := (ta τ, td τ, vup (tc τ) p c, tn τ, tv τ)
def tkeep (τ : Tr) (p : Nat) : Tr := (ta τ, td τ, tc τ, vup (tn τ) p (tn τ p + 1), vup (tv τ) p (vup (tv τ p) (tn τ p) (tc τ p)))
theorem tcon_tput (τ : Tr) (p : Nat) (kd c1 c2 : Int32) : tcon (tput τ p kd c1) p c2 = tput τ p kd c2 := by
  unfold tcon tput
  dsimp only [ta, td, tc, tn, tv]
  rw [vup_vup]
theorem TC_row {M M' : Mem} {L sp : List Nat} {τ τ' : Tr} (h : TC M L sp τ) {r : Nat} (hr : r ∈ L) (g2 : M' 2 = M 2) (g3 : M' 3 = M 3) (g4 : M' 4 = M 4) (hta : ta τ' = ta τ)
    (g : ∀ x, x ≠ r → x < 60 → M' 5 x = M 5 x ∧ M' 6 x = M 6 x ∧ M' 8 x = M 8 x ∧ M' (100 + x) = M (100 + x))
    (ho : ∀ q, q ≠ pC M r → td τ' q = td τ q ∧ tc τ' q = tc τ q ∧ tn τ' q = tn τ q ∧ tv τ' q = tv τ q)
    (hd : dat (M' 5 r) (M' 6 r) (M' 8 r) (M' (100 + r)) τ' (pC M r)) : TC M' L sp τ' := by
  have hnd := TC_nd h
  obtain ⟨⟨i1, i2, i3, i4, i5⟩, h2, h3, h4, h5⟩ := h
  have ep : pC M' = pC M := by funext x; unfold pC; rw [g4]
  refine ⟨⟨by rw [g2]; exact i1, i2, i3, i4, fun j x hj => by rw [g3]; exact i5 j x hj⟩, fun x hx => by rw [g4, ep]; exact h2 x hx, by rw [ep, hta]; exact h3, by rw [hta]; exact h4, fun x hx => ?_⟩
  rw [ep]
  by_cases z : x = r
  · subst z; exact hd
  · obtain ⟨a1, a2, a3, a4⟩ := g x z (i4 x (by simp [hx]))
    obtain ⟨b1, b2, b3, b4⟩ := ho (pC M x) (fun w => z (nodup_inj hnd hx hr w))
    rw [a1, a2, a3, a4]
    have := h5 x hx
    unfold dat okd at this ⊢
    rw [b1, b2, b3, b4]
    exact this
theorem MT_row {M M' : Mem} {L : List Nat} {τ τ' : Tr} {B : Nat} (h : MT M L τ B) {s : Nat} (hs : s ∈ L) (g20 : M' 20 = M 20) (g21 : M' 21 = M 21) (g24 : M' 24 = M 24) (g25 : M' 25 = M 25) (hta : ta τ' = ta τ)
    (g : ∀ x, x ≠ s → x < 60 → M' 22 x = M 22 x ∧ M' 23 x = M 23 x ∧ M' 26 x = M 26 x ∧ ∀ j, j < 10 → M' 27 (10 * x + j) = M 27 (10 * x + j))
    (ho : ∀ q, q ≠ pM M s → td τ' q = td τ q ∧ tc τ' q = tc τ q ∧ tn τ' q = tn τ q ∧ tv τ' q = tv τ q)
    (hd : dat (M' 22 s) (M' 23 s) (M' 26 s) (fun j => M' 27 (10 * s + j)) τ' (pM M s)) : MT M' L τ' B := by
  have hnd := MT_nd h
  have hin := fun x => @MT_in M L τ B h x
  obtain ⟨h1, h2, h3, h4, h5, h6, h7, h8, h9, h10⟩ := h
  have ep : pM M' = pM M := by funext x; unfold pM; rw [g21]
  have eu : us M' = us M := by funext x; unfold us; rw [g20]
  have er : rM M' = rM M := by funext x; unfold rM; rw [g24]
  have en : rn M' = rn M := by unfold rn; rw [g25]
  refine ⟨by rw [eu]; exact h1, fun x hx => by rw [g21, ep]; exact h2 x hx, by rw [ep, hta]; exact h3, by rw [hta]; exact h4, fun x hx => ?_, by rw [g24, er, en]; exact h6, by rw [er]; exact h7, by rw [g25, en]; exact h8, by rw [en]; exact h9, h10⟩
  rw [ep]
  by_cases z : x = s
  · subst z; exact hd
  · obtain ⟨a1, a2, a3, a4⟩ := g x z ((hin x).mp hx).1
    obtain ⟨b1, b2, b3, b4⟩ := ho (pM M x) (fun w => z (nodup_inj hnd hx hs w))
    rw [a1, a2, a3]
    have := h5 x hx
    unfold dat okd at this ⊢
    rw [b1, b2, b3, b4]
    refine ⟨this.1, this.2.1, this.2.2.1, this.2.2.2.1, this.2.2.2.2.1, fun j hj => ?_⟩
    have h10 := this.2.2.2.2.1
    show M' 27 (10 * x + j) = _
    rw [a4 j (by omega)]
    exact this.2.2.2.2.2 j hj
theorem TC_con {M : Mem} {L sp : List Nat} {τ : Tr} (h : TC M L sp τ) {r : Nat} (hr : r ∈ L) {c : Int32} (hc : c ≠ -1) : TC (mu M 6 r c) L sp (tcon τ (pC M r) c) := by
  refine TC_row h hr (mu_ne _ _ _ (by decide)) (mu_ne _ _ _ (by decide)) (mu_ne _ _ _ (by decide)) rfl (fun x hx h60 => ⟨mu_at _ _ _ (by decide) _, ?_, mu_at _ _ _ (by decide) _, mu_ne _ _ _ (by omega)⟩) (fun q hq => ⟨rfl, vup_n _ _ hq, rfl, rfl⟩) ?_
  · rw [mu_fn]; simp [hx]
  · obtain ⟨d1, d2, d3, d4, d5, d6⟩ := h.2.2.2.2 r hr
    rw [mu_self, mu_at _ _ _ (by decide), mu_at _ _ _ (by decide), mu_ne _ _ _ (show 100 + r ≠ 6 by omega)]
    exact ⟨d1, ⟨d2.1, fun z => hc ((vup_s _ _ _).symm.trans z), d2.2.2⟩, (vup_s _ _ _).symm, d4, d5, d6⟩
theorem MT_con {M : Mem} {L : List Nat} {τ : Tr} {B : Nat} (h : MT M L τ B) {s : Nat} (hs : s ∈ L) {c : Int32} (hc : c ≠ -1) : MT (mu M 23 s c) L (tcon τ (pM M s) c) B := by
  refine MT_row h hs (mu_ne _ _ _ (by decide)) (mu_ne _ _ _ (by decide)) (mu_ne _ _ _ (by decide)) (mu_ne _ _ _ (by decide)) rfl (fun x hx h60 => ⟨mu_at _ _ _ (by decide) _, ?_, mu_at _ _ _ (by decide) _, fun j _ => mu_at _ _ _ (by decide) _⟩) (fun q hq => ⟨rfl, vup_n _ _ hq, rfl, rfl⟩) ?_
  · rw [mu_fn]; simp [hx]
  · obtain ⟨d1, d2, d3, d4, d5, d6⟩ := h.2.2.2.2.1 s hs
    rw [mu_self, mu_at _ _ _ (by decide), mu_at _ _ _ (by decide), mu_ne _ _ _ (show 27 ≠ 23 by decide)]
    exact ⟨d1, ⟨d2.1, fun z => hc ((vup_s _ _ _).symm.trans z), d2.2.2⟩, (vup_s _ _ _).symm, d4, d5, d6⟩
theorem keep_ne {τ : Tr} {p : Nat} (h : tc τ p ≠ -1 ∧ ∀ j, j < tn τ p → tv τ p j ≠ -1) : ∀ j, j < tn (tkeep τ p) p → tv (tkeep τ p) p j ≠ -1 := by
  intro j hj
  have hj : j < vup (tn τ) p (tn τ p + 1) p := hj
  rw [vup_s] at hj
  show vup (tv τ) p (vup (tv τ p) (tn τ p) (tc τ p)) p j ≠ -1
  rw [vup_s]
  unfold vup
  by_cases z : j = tn τ p
  · rw [if_pos z]; exact h.1
  · rw [if_neg z]; exact h.2 j (by omega)
theorem TC_keep {M : Mem} {L sp : List Nat} {τ : Tr} (h : TC M L sp τ) {r : Nat} (hr : r ∈ L) (hn : tn τ (pC M r) < 10) : f_X2_addVersion M r = some (nI (tn τ (pC M r)), mu (mu M (100 + r) (tn τ (pC M r)) (M 6 r)) 8 r (nI (tn τ (pC M r) + 1))) ∧ TC (mu (mu M (100 + r) (tn τ (pC M r)) (M 6 r)) 8 r (nI (tn τ (pC M r) + 1))) L sp (tkeep τ (pC M r)) := by
  obtain ⟨d1, d2, d3, d4, d5, d6⟩ := h.2.2.2.2 r hr
  refine ⟨?_, TC_row h hr ?_ ?_ ?_ rfl (fun x hx h60 => ⟨?_, ?_, ?_, ?_⟩) (fun q hq => ⟨rfl, rfl, vup_n _ _ hq, vup_n _ _ hq⟩) ?_⟩
  · unfold f_X2_addVersion f_X2_addVersion_0
    rw [d4, if_pos (by rw [show (10 : Int32) = nI 10 from rfl, lt' (by omega) (by decide)]; exact hn), gi hn (by decide), cl' (by omega), mu_at _ _ _ (show 8 ≠ 100 + r by omega), d4, nI_1, mu_self, show (1 : Int32) = nI 1 from rfl, pk_sub (by omega), Nat.add_sub_cancel]
  · rw [mu_ne _ _ _ (by decide), mu_ne _ _ _ (by omega)]
  · rw [mu_ne _ _ _ (by decide), mu_ne _ _ _ (by omega)]
  · rw [mu_ne _ _ _ (by decide), mu_ne _ _ _ (by omega)]
  · rw [mu_at _ _ _ (by decide), mu_at _ _ _ (by omega)]
  · rw [mu_at _ _ _ (by decide), mu_at _ _ _ (by omega)]
  · rw [mu_fn]; simp only [hx, if_false]; rw [mu_at _ _ _ (by omega)]
  · rw [mu_ne _ _ _ (by omega), mu_ne _ _ _ (by omega)]
  · rw [mu_self, mu_at _ _ _ (show 5 ≠ 8 by decide), mu_at _ _ _ (show 5 ≠ 100 + r by omega), mu_at _ _ _ (show 6 ≠ 8 by decide), mu_at _ _ _ (show 6 ≠ 100 + r by omega), mu_ne _ _ _ (show 100 + r ≠ 8 by omega), mu_fn]
    refine ⟨d1, ⟨d2.1, d2.2.1, keep_ne d2.2⟩, d3, congrArg nI (vup_s _ _ _).symm, ?_, fun j hj => ?_⟩
    · show vup (tn τ) (pC M r) (tn τ (pC M r) + 1) (pC M r) ≤ 10
      rw [vup_s]; omega
    · have hj : j < vup (tn τ) (pC M r) (tn τ (pC M r) + 1) (pC M r) := hj
      rw [vup_s] at hj
      show _ = vup (tv τ) (pC M r) (vup (tv τ (pC M r)) (tn τ (pC M r)) (tc τ (pC M r))) (pC M r) j
      rw [vup_s]
      unfold vup
      show (if j = tn τ (pC M r) then M 6 r else M (100 + r) j) = _
      by_cases z : j = tn τ (pC M r)
      · rw [if_pos z, if_pos z]; exact d3
      · rw [if_neg z, if_neg z]; exact d6 j (by omega)
def kpM (M : Mem) (s n : Nat) : Mem := mu (mu M 27 (10 * s + n) (M 23 s)) 26 s (nI (n + 1))
theorem MT_keep {M : Mem} {L : List Nat} {τ : Tr} {B : Nat} (h : MT M L τ B) {s : Nat} (hs : s ∈ L) (hn : tn τ (pM M s) < 10) : MT (kpM M s (tn τ (pM M s))) L (tkeep τ (pM M s)) B := by
  obtain ⟨d1, d2, d3, d4, d5, d6⟩ := h.2.2.2.2.1 s hs
  unfold kpM
  refine MT_row h hs ?_ ?_ ?_ ?_ rfl (fun x hx h60 => ⟨?_, ?_, ?_, fun j hj => ?_⟩) (fun q hq => ⟨rfl, rfl, vup_n _ _ hq, vup_n _ _ hq⟩) ?_
  · rw [mu_ne _ _ _ (by decide), mu_ne _ _ _ (by decide)]
  · rw [mu_ne _ _ _ (by decide), mu_ne _ _ _ (by decide)]
  · rw [mu_ne _ _ _ (by decide), mu_ne _ _ _ (by decide)]
  · rw [mu_ne _ _ _ (by decide), mu_ne _ _ _ (by decide)]
  · rw [mu_at _ _ _ (by decide), mu_at _ _ _ (by decide)]
  · rw [mu_at _ _ _ (by decide), mu_at _ _ _ (by decide)]
  · rw [mu_fn]; simp only [hx, if_false]; rw [mu_at _ _ _ (by decide)]
  · rw [mu_at _ _ _ (by decide), mu_fn]; exact if_neg (by omega)
  · rw [mu_self, mu_at _ _ _ (show 22 ≠ 26 by decide), mu_at _ _ _ (show 22 ≠ 27 by decide), mu_at _ _ _ (show 23 ≠ 26 by decide), mu_at _ _ _ (show 23 ≠ 27 by decide), mu_ne _ _ _ (show 27 ≠ 26 by decide), mu_fn]
    refine ⟨d1, ⟨d2.1, d2.2.1, keep_ne d2.2⟩, d3, congrArg nI (vup_s _ _ _).symm, ?_, fun j hj => ?_⟩
    · show vup (tn τ) (pM M s) (tn τ (pM M s) + 1) (pM M s) ≤ 10
      rw [vup_s]; omega
    · have hj : j < vup (tn τ) (pM M s) (tn τ (pM M s) + 1) (pM M s) := hj
      rw [vup_s] at hj
      show (if 10 * s + j = 10 * s + tn τ (pM M s) then M 23 s else M 27 (10 * s + j)) = vup (tv τ) (pM M s) (vup (tv τ (pM M s)) (tn τ (pM M s)) (tc τ (pM M s))) (pM M s) j
      rw [vup_s]
      unfold vup
      by_cases z : j = tn τ (pM M s)
      · rw [if_pos (by omega), if_pos z]; exact d3
      · rw [if_neg (by omega), if_neg z]; exact d6 j (by omega)
/-! one more -/
def begC (M : Mem) (r : Nat) (p : Nat) (kd ct : Int32) : Mem := mu (mu (mu (mu (mu M 4 r (nI p)) 5 r kd) 6 r ct) 7 r 0) 8 r 0
theorem begC_ne (M : Mem) (r p : Nat) (kd ct : Int32) {t : Nat} (h : t < 4 ∨ 8 < t) : begC M r p kd ct t = M t := by
  unfold begC
  rw [mu_ne _ _ _ (by omega), mu_ne _ _ _ (by omega), mu_ne _ _ _ (by omega), mu_ne _ _ _ (by omega), mu_ne _ _ _ (by omega)]
theorem begC_at (M : Mem) (r p : Nat) (kd ct : Int32) (x : Nat) : begC M r p kd ct 4 x = (if x = r then nI p else M 4 x) ∧ begC M r p kd ct 5 x = (if x = r then kd else M 5 x) ∧ begC M r p kd ct 6 x = (if x = r then ct else M 6 x) ∧ begC M r p kd ct 8 x = (if x = r then 0 else M 8 x) := by
  unfold begC
  refine ⟨?_, ?_, ?_, ?_⟩
  · rw [mu_at _ _ _ (by decide), mu_at _ _ _ (by decide), mu_at _ _ _ (by decide), mu_at _ _ _ (by decide), mu_x]
  · rw [mu_at _ _ _ (by decide), mu_at _ _ _ (by decide), mu_at _ _ _ (by decide), mu_x, mu_at _ _ _ (by decide)]
  · rw [mu_at _ _ _ (by decide), mu_at _ _ _ (by decide), mu_x, mu_at _ _ _ (by decide), mu_at _ _ _ (by decide)]
  · rw [mu_x, mu_at _ _ _ (by decide), mu_at _ _ _ (by decide), mu_at _ _ _ (by decide), mu_at _ _ _ (by decide)]
theorem put_okd {τ : Tr} {p : Nat} {kd ct : Int32} (hk : kd = 1 ∨ kd = 2) (hct : ct ≠ -1) : okd kd (tput τ p kd ct) p := by
  refine ⟨hk, fun z => hct ((vup_s _ _ _).symm.trans z), fun j hj => ?_⟩
  have hj : j < vup (tn τ) p 0 p := hj
  rw [vup_s] at hj; omega
theorem appendC {M : Mem} {L sp : List Nat} {r : Nat} {τ : Tr} (h : TC M L (r :: sp) τ) {p : Nat} (hp : 0 < p ∧ p ≤ 9999) (hn : p ∉ ta τ) {kd : Int32} (hk : kd = 1 ∨ kd = 2) {ct : Int32} (hct : ct ≠ -1) : f_X3_append M (nI p) kd ct = some (mu (begC M r p kd ct) 2 0 (nI (L.length + 1))) ∧ TC (mu (begC M r p kd ct) 2 0 (nI (L.length + 1))) (L ++ [r]) sp (tput τ p kd ct) := by
  obtain ⟨⟨i1, i2, i3, i4, i5⟩, h2, h3, h4, h5⟩ := id h
  have hlen : L.length < 60 := by simp at i2; omega
  have hat : M 3 L.length = nI r := i5 L.length r (by simp)
  have hr60 : r < 60 := i4 r (by simp)
  have hrk : rk M L.length = r := by unfold rk; rw [hat, cl' (by omega)]
  have hrL : r ∉ L := by
    rw [List.nodup_append] at i3
    intro z
    exact i3.2.2 r z r (by simp) rfl
  have ep : ∀ x, x ≠ r → pC (mu (begC M r p kd ct) 2 0 (nI (L.length + 1))) x = pC M x := fun x hx => by
    unfold pC; rw [mu_at _ _ _ (by decide), (begC_at M r p kd ct x).1, if_neg hx]
  have epr : pC (mu (begC M r p kd ct) 2 0 (nI (L.length + 1))) r = p := by
    unfold pC; rw [mu_at _ _ _ (by decide), (begC_at M r p kd ct r).1, if_pos rfl, cl' (by omega)]
  have hmap : L.map (pC (mu (begC M r p kd ct) 2 0 (nI (L.length + 1)))) = L.map (pC M) := List.map_congr_left (fun x hx => ep x (fun z => hrL (z ▸ hx)))
  refine ⟨?_, ⟨?_, ?_, ?_, ?_, ?_⟩, ?_, ?_, ?_, ?_⟩
  · unfold f_X3_append f_X3_append_0 f_X2_begin f_X2_begin_0
    rw [i1, if_pos (by rw [show (60 : Int32) = nI 60 from rfl, lt' (by omega) (by decide)]; exact hlen), gi hlen (by decide), cl' (by omega), hrk, if_neg (by omega), bd1_s]
    show some (mu (begC M r p kd ct) 2 0 (begC M r p kd ct 2 0 + 1)) = _
    rw [begC_ne M r p kd ct (by omega), i1, nI_1]
  · rw [mu_self, List.length_append]; rfl
  · simpa using i2
  · simpa using i3
  · simpa using i4
  · intro j x hj
    rw [mu_at _ _ _ (by decide), begC_ne M r p kd ct (by omega)]
    exact i5 j x (by simpa using hj)
  · intro x hx
    by_cases z : x = r
    · subst z
      rw [epr, mu_at _ _ _ (by decide), (begC_at M x p kd ct x).1, if_pos rfl]
      exact ⟨rfl, hp⟩
    · rw [ep x z, mu_at _ _ _ (by decide), (begC_at M r p kd ct x).1, if_neg z]
      rcases List.mem_append.mp hx with w | w
      · exact h2 x w
      · simp at w; exact absurd w z
  · rw [List.map_append, hmap]
    show eqv (List.map (pC M) L ++ List.map _ [r]) (ta τ ++ [p])
    rw [List.map_singleton, epr]
    exact eqv_app h3 (eqv_rf _)
  · show (ta τ ++ [p]).Nodup
    rw [List.nodup_append]
    exact ⟨h4, by simp, fun a ha c hc => by simp at hc; subst hc; exact fun z => hn (z ▸ ha)⟩
  · intro x hx
    rw [mu_at _ _ _ (show 5 ≠ 2 by decide), mu_at _ _ _ (show 6 ≠ 2 by decide), mu_at _ _ _ (show 8 ≠ 2 by decide), mu_ne _ _ _ (show 100 + x ≠ 2 by omega), begC_ne M r p kd ct (show 100 + x < 4 ∨ 8 < 100 + x by omega), (begC_at M r p kd ct x).2.1, (begC_at M r p kd ct x).2.2.1, (begC_at M r p kd ct x).2.2.2]
    by_cases z : x = r
    · subst z
      rw [if_pos rfl, if_pos rfl, if_pos rfl, epr]
      refine ⟨(vup_s _ _ _).symm, put_okd hk hct, (vup_s _ _ _).symm, congrArg nI (vup_s _ _ _).symm, ?_, fun j hj => ?_⟩
      · show vup (tn τ) p 0 p ≤ 10
        rw [vup_s]; omega
      · have hj : j < vup (tn τ) p 0 p := hj
        rw [vup_s] at hj; omega
    · rw [if_neg z, if_neg z, if_neg z, ep x z]
      have hxL : x ∈ L := by
        rcases List.mem_append.mp hx with w | w
        · exact w
        · simp at w; exact absurd w z
      have hne : pC M x ≠ p := fun w => hn ((TC_mem h).mpr ⟨x, hxL, w⟩)
      have := h5 x hxL
      unfold dat okd at this ⊢
      rw [show td (tput τ p kd ct) (pC M x) = td τ (pC M x) from vup_n _ _ hne, show tc (tput τ p kd ct) (pC M x) = tc τ (pC M x) from vup_n _ _ hne, show tn (tput τ p kd ct) (pC M x) = tn τ (pC M x) from vup_n _ _ hne]
      exact this
theorem MT_mk {M : Mem} {L : List Nat} (hn : L.Nodup) (h : ∀ x, x ∈ L ↔ x < 60 ∧ us M x = true) : L.Perm ((List.range' 0 60).filter (us M)) := by
  rw [List.perm_ext_iff_of_nodup hn (List.Pairwise.filter _ (List.nodup_range' (step := 1)))]
  intro x
  rw [h, List.mem_filter, List.mem_range']
  simp
theorem MT_ndL {M : Mem} {L : List Nat} {τ : Tr} {B : Nat} (h : MT M L τ B) : L.Nodup := h.1.nodup_iff.mpr (List.Pairwise.filter _ (List.nodup_range' (step := 1)))
theorem MT_free {M : Mem} {L : List Nat} {τ : Tr} {B : Nat} (h : MT M L τ B) (hl : (ta τ).length < 60) : ∃ s, s < 60 ∧ us M s = false := by
  apply Classical.byContradiction
  intro z
  have hall : (List.range' 0 60).filter (us M) = List.range' 0 60 := by
    rw [List.filter_eq_self]
    intro x hx
    rw [List.mem_range'] at hx
    obtain ⟨i, hi, e⟩ := hx
    cases w : us M x
    · exact absurd ⟨x, by omega, w⟩ z
    · rfl
  have e := h.1.length_eq
  rw [hall, List.length_range', ← List.length_map (f := pM M), (eqv_perm h.2.2.1).length_eq] at e
  omega
def MK (M : Mem) (s : Nat) (P kd ct : Int32) : Mem := mu (mu (mu (mu (mu (mu (mu M 20 s 1) 21 s P) 22 s kd) 23 s ct) 26 s 0) 25 0 (M 25 0 + 1)) 24 s (M 25 0 + 1)
theorem MK_ne (M : Mem) (s : Nat) (P kd ct : Int32) {t : Nat} (h : t < 20 ∨ 26 < t) : MK M s P kd ct t = M t := by
  unfold MK
  rw [mu_ne _ _ _ (by omega), mu_ne _ _ _ (by omega), mu_ne _ _ _ (by omega), mu_ne _ _ _ (by omega), mu_ne _ _ _ (by omega), mu_ne _ _ _ (by omega), mu_ne _ _ _ (by omega)]
theorem MK_at (M : Mem) (s : Nat) (P kd ct : Int32) (x : Nat) : MK M s P kd ct 20 x = (if x = s then 1 else M 20 x) ∧ MK M s P kd ct 21 x = (if x = s then P else M 21 x) ∧ MK M s P kd ct 22 x = (if x = s then kd else M 22 x) ∧ MK M s P kd ct 23 x = (if x = s then ct else M 23 x) ∧ MK M s P kd ct 24 x = (if x = s then M 25 0 + 1 else M 24 x) ∧ MK M s P kd ct 26 x = (if x = s then 0 else M 26 x) ∧ MK M s P kd ct 25 0 = M 25 0 + 1 := by
  unfold MK
  refine ⟨?_, ?_, ?_, ?_, ?_, ?_, ?_⟩
  · rw [mu_at _ _ _ (by decide), mu_at _ _ _ (by decide), mu_at _ _ _ (by decide), mu_at _ _ _ (by decide), mu_at _ _ _ (by decide), mu_at _ _ _ (by decide), mu_x]
  · rw [mu_at _ _ _ (by decide), mu_at _ _ _ (by decide), mu_at _ _ _ (by decide), mu_at _ _ _ (by decide), mu_at _ _ _ (by decide), mu_x, mu_at _ _ _ (by decide)]
  · rw [mu_at _ _ _ (by decide), mu_at _ _ _ (by decide), mu_at _ _ _ (by decide), mu_at _ _ _ (by decide), mu_x, mu_at _ _ _ (by decide), mu_at _ _ _ (by decide)]
  · rw [mu_at _ _ _ (by decide), mu_at _ _ _ (by decide), mu_at _ _ _ (by decide), mu_x, mu_at _ _ _ (by decide), mu_at _ _ _ (by decide), mu_at _ _ _ (by decide)]
  · rw [mu_x, mu_at _ _ _ (by decide), mu_at _ _ _ (by decide), mu_at _ _ _ (by decide), mu_at _ _ _ (by decide), mu_at _ _ _ (by decide), mu_at _ _ _ (by decide)]
  · rw [mu_at _ _ _ (by decide), mu_at _ _ _ (by decide), mu_x, mu_at _ _ _ (by decide), mu_at _ _ _ (by decide), mu_at _ _ _ (by decide), mu_at _ _ _ (by decide)]
  · rw [mu_at _ _ _ (by decide), mu_self]

/-! ===== move ===== -/
theorem ren_1 {f t q : Nat} : ∀ (P : List Nat), (∀ x ∈ P, inT f x = false → par q x = false) → (P.map (ren f t)).filter (par q) = ((P.filter (inT f)).map (mvp f t)).filter (par q)
  | [], _ => rfl
  | x :: P, h => by
    have ih := ren_1 (f := f) (t := t) (q := q) P (fun y hy => h y (by simp [hy]))
    cases r : inT f x
    · have e : ren f t x = x := by unfold ren; rw [r, if_neg (by decide)]
      rw [List.map_cons, e, List.filter_cons_of_neg (by simp [h x (by simp) r]), List.filter_cons_of_neg (by simp [r]), ih]
    · have e : ren f t x = mvp f t x := by unfold ren; rw [r, if_pos rfl]
      rw [List.map_cons, e, List.filter_cons_of_pos r, List.map_cons, List.filter_cons, List.filter_cons, ih]
theorem ren_2 {f t q : Nat} : ∀ (P : List Nat), (∀ x ∈ P, inT f x = true → par q (mvp f t x) = false) → (P.map (ren f t)).filter (par q) = (P.filter (fun x => !inT f x)).filter (par q)
  | [], _ => rfl
  | x :: P, h => by
    have ih := ren_2 (f := f) (t := t) (q := q) P (fun y hy => h y (by simp [hy]))
    cases r : inT f x
    · have e : ren f t x = x := by unfold ren; rw [r, if_neg (by decide)]
      rw [List.map_cons, e, List.filter_cons_of_pos (p := fun x => !inT f x) (by simp [r]), List.filter_cons, List.filter_cons, ih]
    · have e : ren f t x = mvp f t x := by unfold ren; rw [r, if_pos rfl]
      rw [List.map_cons, e, List.filter_cons_of_neg (by simp [h x (by simp) r]), List.filter_cons_of_neg (p := fun x => !inT f x) (by simp [r]), ih]
theorem ren_3 {f t q : Nat} : ∀ (P : List Nat), (∀ x ∈ P, inT f x = true → par q (mvp f t x) = true → mvp f t x = t) → (∀ x ∈ P, inT f x = false → x ≠ t) → no t ((P.map (ren f t)).filter (par q)) = (P.filter (fun x => !inT f x)).filter (par q)
  | [], _, _ => rfl
  | x :: P, h, h2 => by
    have ih := ren_3 (f := f) (t := t) (q := q) P (fun y hy => h y (by simp [hy])) (fun y hy => h2 y (by simp [hy]))
    cases r : inT f x
    · have e : ren f t x = x := by unfold ren; rw [r, if_neg (by decide)]
      have hx := h2 x (by simp) r
      rw [List.map_cons, e, List.filter_cons_of_pos (p := fun x => !inT f x) (by simp [r])]
      cases r2 : par q x
      · rw [List.filter_cons_of_neg (by simp [r2]), List.filter_cons_of_neg (by simp [r2]), ih]
      · rw [List.filter_cons_of_pos r2, List.filter_cons_of_pos r2, ← ih]
        unfold no
        rw [List.filter_cons_of_pos (by simp [hx])]
    · have e : ren f t x = mvp f t x := by unfold ren; rw [r, if_pos rfl]
      rw [List.map_cons, e, List.filter_cons_of_neg (p := fun x => !inT f x) (by simp [r])]
      cases r2 : par q (mvp f t x)
      · rw [List.filter_cons_of_neg (by simp [r2]), ih]
      · have := h x (by simp) r r2
        rw [List.filter_cons_of_pos r2, this, ← ih]
        unfold no
        rw [List.filter_cons_of_neg (by simp)]
theorem one_list {t : Nat} : ∀ (l : List Nat), l.Nodup → (∀ x ∈ l, x = t) → t ∈ l → l = [t]
  | [], _, _, h => by simp at h
  | x :: l, hn, ha, _ => by
    rw [List.nodup_cons] at hn
    have hx := ha x (by simp)
    cases l with
    | nil => rw [hx]
    | cons y l =>
      have hy := ha y (by simp)
      exact absurd (by rw [hx, hy]; simp) hn.1
/-- the row of the moved tree's root comes last -/
theorem moved_eqv {f t : Nat} (hf : 0 < f) (ht : 0 < t) (hf9 : f ≤ 9999) (ht9 : t ≤ 9999) {P a Q : List Nat} {w : Nat} (hP : eqv P a) (hnd : a.Nodup) (ha : ∀ x ∈ a, x ≤ 9999 ∧ inT t x = false) (hfit : ∀ x ∈ a, inT f x = true → mvp f t x ≤ 9999) (hfa : f ∈ a) (hff : inT f f = true) (hw : P.length ≤ w) (h1 : ∀ q, q ≠ t / 10 → Q.filter (par q) = (P.map (ren f t)).filter (par q)) (h2 : Q.filter (par (t / 10)) = spW w t (no t ((P.map (ren f t)).filter (par (t / 10))))) : eqv Q (a.filter (fun x => !inT f x) ++ (a.filter (inT f)).map (mvp f t)) := fun q => by
  have hPa : ∀ x ∈ P, x ≤ 9999 ∧ inT t x = false := fun x hx => ha x ((eqv_mem hP x).mp hx)
  have hPf : ∀ x ∈ P, inT f x = true → mvp f t x ≤ 9999 := fun x hx => hfit x ((eqv_mem hP x).mp hx)
  have hU : (P.filter (fun x => !inT f x)).filter (par q) = (a.filter (fun x => !inT f x)).filter (par q) := eqv_filter hP _ q
  have hV : ((P.filter (inT f)).map (mvp f t)).filter (par q) = ((a.filter (inT f)).map (mvp f t)).filter (par q) := eqv_mv hP hf ht (fun p hp => (hPa p hp).1) q
  rw [List.filter_append]
  cases hq : inT t q
  · by_cases z : q = t / 10
    · subst z
      have htop : ∀ x, x ≤ 9999 → inT f x = true → mvp f t x ≤ 9999 → par (t / 10) (mvp f t x) = true → x = f ∧ mvp f t x = t := fun x hx hi h9 hp => by
        have e : mvp f t x / 10 = t / 10 := by simpa [par] using hp
        have := (mvp_top hf ht hx hi hq (by omega) e).1
        exact ⟨this, by rw [this, mvp_f]⟩
      have e3 := ren_3 (f := f) (t := t) (q := t / 10) P (fun x hx hi hp => (htop x (hPa x hx).1 hi (hPf x hx hi) hp).2) (fun x hx hi e => by
        have := (hPa x hx).2
        rw [e] at this
        unfold inT at this
        simp at this)
      have hVt : ((a.filter (inT f)).map (mvp f t)).filter (par (t / 10)) = [t] := by
        refine one_list _ (List.Pairwise.filter _ ?_) (fun y hy => ?_) ?_
        · rw [List.pairwise_map]
          refine List.Pairwise.imp_of_mem ?_ (List.Pairwise.filter (inT f) hnd)
          intro x y hx hy hxy e
          obtain ⟨x1, x2⟩ := List.mem_filter.mp hx
          obtain ⟨y1, y2⟩ := List.mem_filter.mp hy
          exact hxy (mvp_inj hf ht (ha x x1).1 (ha y y1).1 x2 y2 e)
        · obtain ⟨y1, y2⟩ := List.mem_filter.mp hy
          obtain ⟨x, hx, e⟩ := List.mem_map.mp y1
          obtain ⟨x1, x2⟩ := List.mem_filter.mp hx
          rw [← e] at y2 ⊢
          exact (htop x (ha x x1).1 x2 (hfit x x1 x2) y2).2
        · refine List.mem_filter.mpr ⟨List.mem_map.mpr ⟨f, List.mem_filter.mpr ⟨hfa, hff⟩, mvp_f f t⟩, by simp [par]⟩
      have hl : (no t ((P.map (ren f t)).filter (par (t / 10)))).length ≤ w := by
        have e1 := List.length_filter_le (fun x => !decide (x = t)) ((P.map (ren f t)).filter (par (t / 10)))
        have e2 := List.length_filter_le (par (t / 10)) (P.map (ren f t))
        rw [List.length_map] at e2
        unfold no
        omega
      rw [h2, spW_ge hl, e3, hU, hVt]
    · have hno : ∀ x, x ≤ 9999 → inT f x = true → mvp f t x ≤ 9999 → par q (mvp f t x) = false := fun x hx hi h9 => by
        cases r : par q (mvp f t x)
        · rfl
        · have e : mvp f t x / 10 = q := by simpa [par] using r
          exact absurd (mvp_top hf ht hx hi hq (by omega) e).2 z
      rw [h1 q z, ren_2 P (fun x hx hi => hno x (hPa x hx).1 hi (hPf x hx hi)), hU]
      have : ((a.filter (inT f)).map (mvp f t)).filter (par q) = [] := by
        rw [List.filter_eq_nil_iff]
        intro y hy
        obtain ⟨x, hx, e⟩ := List.mem_map.mp hy
        obtain ⟨x1, x2⟩ := List.mem_filter.mp hx
        rw [← e, hno x (ha x x1).1 x2 (hfit x x1 x2)]
        decide
      rw [this, List.append_nil]
  · have hz : q ≠ t / 10 := fun z => by rw [z, inT_par ht ht9] at hq; exact absurd hq (by decide)
    have hno : ∀ x, x ≤ 9999 → inT t x = false → par q x = false := fun x hx hi => by
      cases r : par q x
      · rfl
      · have e : x / 10 = q := by simpa [par] using r
        rw [← e] at hq
        rw [inT_up ht hx hq] at hi
        exact absurd hi (by decide)
    rw [h1 q hz, ren_1 P (fun x hx _ => hno x (hPa x hx).1 (hPa x hx).2), hV]
    have : (a.filter (fun x => !inT f x)).filter (par q) = [] := by
      rw [List.filter_eq_nil_iff]
      intro y hy
      have y1 := (List.mem_filter.mp hy).1
      rw [hno y (ha y y1).1 (ha y y1).2]
      decide
    rw [this, List.nil_append]

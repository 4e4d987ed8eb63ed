/-! ===== while the cells are made: the first n of them, next to each other from b ===== -/
def pwl (b n : Nat) (E : Nat → va_E) : va_W := (List.range n).map (fun k => (b + k, E k))
def Pw (Z : Zt) (b n : Nat) (E : Nat → va_E) (H : Heap) : Prop := H.size = b + n ∧ va_P Z.1 vwCl (pwl b n E) H
theorem pwl_len (b n : Nat) (E : Nat → va_E) : (pwl b n E).length = n := by simp [pwl]
theorem pwl_get {b n : Nat} {E : Nat → va_E} {k : Nat} (h : k < n) : (pwl b n E)[k]? = some (b + k, E k) := by
  simp [pwl, List.getElem?_map, List.getElem?_range h]
theorem pwl_none {b n : Nat} {E : Nat → va_E} {k : Nat} (h : ¬ k < n) : (pwl b n E)[k]? = none := List.getElem?_eq_none (by rw [pwl_len]; omega)
theorem pwl_at {b n : Nat} {E : Nat → va_E} {k : Nat} {q : Nat × va_E} (h : (pwl b n E)[k]? = some q) : k < n ∧ q = (b + k, E k) := by
  by_cases hk : k < n
  · rw [pwl_get hk] at h
    cases h
    exact ⟨hk, rfl⟩
  · rw [pwl_none hk] at h
    cases h
theorem pwl_D (b n : Nat) (E : Nat → va_E) : va_D (A0 b) (pwl b n E) := by
  refine ⟨fun i j x y hi hj h => ?_, fun k q h => ?_⟩
  · rw [(pwl_at hi).2, (pwl_at hj).2] at h
    have h : b + i = b + j := h
    omega
  · rw [(pwl_at h).2]
    show b ≤ b + k
    omega
theorem pwl_push (b n : Nat) (E : Nat → va_E) (e : va_E) : pwl b n E ++ [(b + n, e)] = pwl b (n + 1) (vup E n e) := by
  apply List.ext_getElem?
  intro j
  rcases Nat.lt_trichotomy j n with h | h | h
  · rw [List.getElem?_append_left (by rw [pwl_len]; exact h), pwl_get h, pwl_get (show j < n + 1 by omega), vup_n _ _ (by omega)]
  · subst h
    rw [List.getElem?_append_right (by rw [pwl_len]; omega), pwl_len, Nat.sub_self, pwl_get (Nat.lt_succ_self j), vup_s]
    rfl
  · rw [pwl_none (by omega), List.getElem?_eq_none (by rw [List.length_append, pwl_len]; simp; omega)]
theorem pwl_set {b n : Nat} {E : Nat → va_E} {k : Nat} (e : va_E) (hk : k < n) : (pwl b n E).set k (b + k, e) = pwl b n (vup E k e) := by
  apply List.ext_getElem?
  intro j
  by_cases hj : j < n
  · by_cases z : j = k
    · subst z
      rw [List.getElem?_set_self (by rw [pwl_len]; exact hj), pwl_get hj, vup_s]
    · rw [List.getElem?_set_ne (Ne.symm z), pwl_get hj, pwl_get hj, vup_n _ _ z]
  · rw [pwl_none hj, List.getElem?_eq_none (by rw [List.length_set, pwl_len]; omega)]
theorem pwl_cong {b n : Nat} {E E' : Nat → va_E} (h : ∀ k, k < n → E k = E' k) : pwl b n E = pwl b n E' := by
  unfold pwl
  apply List.map_congr_left
  intro k hk
  rw [h k (List.mem_range.mp hk)]
theorem Pw_cong {Z : Zt} {b n : Nat} {E E' : Nat → va_E} {H : Heap} (h : Pw Z b n E H) (g : ∀ k, k < n → E k = E' k) : Pw Z b n E' H := ⟨h.1, by rw [← pwl_cong g]; exact h.2⟩
/-- all made: the world with its memory -/
theorem Pw_Wd {Z : Zt} {b : Nat} {M : Mem} {E : Nat → va_E} {H : Heap} (h : Pw Z b 156 E H) (g : ∀ k, k < 156 → E k = en Z b M k) : Wd Z b M H := by
  have := (Pw_cong h g).2
  exact this
theorem Pw_push {Z : Zt} {b n : Nat} {E : Nat → va_E} {e : va_E} {H H1 : Heap} (h : Pw Z b n E H) (z : H1.size = H.size + 1) (o : ∀ q, q < H.size → H1[q]? = H[q]?) (he : va_at Z.1 vwCl (b + n, e) H1) : Pw Z b (n + 1) (vup E n e) H1 := by
  refine ⟨by rw [z, h.1]; omega, ?_⟩
  rw [← pwl_push]
  refine (h.2.kept (fun k x hx => o x.1 ((h.2 k x hx).lt))).app (fun k x hx => ?_)
  have hz : k < 1 := (List.getElem?_eq_some_iff.mp hx).1
  rw [show k = 0 by omega] at hx
  cases hx
  exact he
theorem Pw_S {A : Nat → Prop} {H0 H H1 : Heap} {locs : List Loc} (hS : va_S A H0 H locs) (z : H1.size = H.size + 1) (o : ∀ q, q < H.size → H1[q]? = H[q]?) : va_S A H0 H1 locs := ⟨Nat.le_trans hS.1 (by omega), fun x h1 h2 => (o x (Nat.lt_of_lt_of_le h1 hS.1)).trans (hS.2.1 x h1 h2), hS.2.2⟩
section NEWROWS
variable {own : String} {p : Program} {l : Launch} {e : Env} {R : Room} {s : State} {m : MethodId} {args : Array Value} {below : List Frame} {meth : Method} {c : Code} {H : Heap} {locs : List Loc} {cells slots : Nat} {Q : State → Prop} {cc : ByteArray} {pc : Nat} {ls : Array Slot} {rest : List Value} {Z : Zt} {b n : Nat} {E : Nat → va_E}
/-- a new object: the next cell -/
theorem nw_obj {C : String} {T : u_T} {N ci index : Nat} {Ts : List Cond} {tys : List (ClassId × FieldType)} (hexec : p.tables.exec = Jvm.exec) (hb : c.code = cc) (hts : ∀ w ∈ Ts, w.before args s = true) (hin : ∀ w ∈ u_ws C T N, w ∈ Ts) (ty : Nat → FieldType) (hty : ∀ k, k < N → parseFieldDescriptor (T k).2.2.1 = some (ty k)) (hown : s.vm.findClass own = some m.cls) (hcl : (Cond.classLink own index C).before args s = true) (hinst : (Cond.instantiable C N).before args s = true) (hini : (Cond.initialized C).before args s = true)
    (hK : va_K Z.1 vwCl tys s) (hP : Pw Z b n E H) (hS : va_S (A0 b) s.heap H locs) (hc : vwCl[ci]? = some (C, T, N)) {fs : List Value} (hfs : ∀ j, j < N → defaultValue (ty j) = vp_V fs j) (hcells : cells + 1 ≤ R.cells) (hslots : slots + N ≤ R.slots) (hdg : decode cc pc = .ok (.new index, 3))
    (kk : ∀ (H1 : Heap), Pw Z b (n + 1) (vup E n (.inr (ci, fs))) H1 → va_S (A0 b) s.heap H1 locs → W p l e R s m args below meth c H1 locs (cells + 1) (slots + N) Q (F0 m (pc + 3) ls (.ref (b + n) :: rest))) : W p l e R s m args below meth c H locs cells slots Q (F0 m pc ls rest) := by
  have hKn := hK.1 ci _ hc
  refine W.newcK hexec hb hown hcl hinst hini rfl hdg hcells hslots hKn.2.1 hP.1 fun H1 kC hkC e1 z1 o1 => ?_
  have z : H1.size = H.size + 1 := by rw [z1, hP.1]
  have o : ∀ q, q < H.size → H1[q]? = H[q]? := fun q hq => o1 q (by rw [← hP.1]; exact hq)
  exact kk H1 (Pw_push hP z o ⟨_, hc, (u_born ty hts hin hKn hkC e1 hty).to hfs⟩) (Pw_S hS z o)
/-- a new row of ints, truths, longs -/
theorem nw_arr {atype : ArrayType} (hexec : p.tables.exec = Jvm.exec) (hb : c.code = cc) (harr : (Cond.arrayClass (newarray.typeOf atype)).before args s = true) {cZ : ClassId} (hz : s.vm.findClass ("[" ++ (newarray.typeOf atype).toString) = some cZ) (hP : Pw Z b n E H) (hS : va_S (A0 b) s.heap H locs)
    {i : Int32} {N' : Nat} {a0 : vp_A} (ha : ∀ cA : ClassId, vp_cell cA a0 = arrV cA N' (fun _ => defaultValue (newarray.typeOf atype))) (hn : ¬ i < 0) (hN : i.toNatClampNeg = N') (hbytes : N' * componentBytes (newarray.typeOf atype) ≤ 536870912) (hcells : cells + 1 ≤ R.cells) (hslots : slots + N' ≤ R.slots) (hdg : decode cc pc = .ok (.newarray atype, 2))
    (kk : ∀ (H1 : Heap), Pw Z b (n + 1) (vup E n (.inl (cZ, a0))) H1 → va_S (A0 b) s.heap H1 locs → W p l e R s m args below meth c H1 locs (cells + 1) (slots + N') Q (F0 m (pc + 2) ls (.ref (b + n) :: rest))) : W p l e R s m args below meth c H locs cells slots Q (F0 m pc ls (.int i :: rest)) := by
  refine va_newaK hexec hb harr rfl hdg rfl hn hN hbytes hcells hslots hP.1 fun H1 cA e1 z1 o1 _ hNm => ?_
  have hcA : cA = cZ := by rw [hz] at hNm; exact (Option.some.inj hNm).symm
  subst hcA
  have z : H1.size = H.size + 1 := by rw [z1, hP.1]
  have o : ∀ q, q < H.size → H1[q]? = H[q]? := fun q hq => o1 q (by rw [← hP.1]; exact hq)
  refine kk H1 (Pw_push hP z o ?_) (Pw_S hS z o)
  show H1[b + n]? = some (vp_cell _ _)
  rw [ha]
  exact e1
/-- a new row of objects -/
theorem nw_oarr {C : String} {index : Nat} (hexec : p.tables.exec = Jvm.exec) (hb : c.code = cc) (hown : s.vm.findClass own = some m.cls) (hclink : (Cond.classLink own index C).before args s = true) (hover : (Cond.arrayOver (.object C)).before args s = true) {cZ : ClassId} (hz : s.vm.findClass ("[" ++ (FieldType.object C).toString) = some cZ) (hP : Pw Z b n E H) (hS : va_S (A0 b) s.heap H locs)
    {i : Int32} {N' : Nat} (hn : ¬ i < 0) (hN : i.toNatClampNeg = N') (hbytes : N' * 4 ≤ 536870912) (hcells : cells + 1 ≤ R.cells) (hslots : slots + N' ≤ R.slots) (hdg : decode cc pc = .ok (.anewarray index, 3))
    (kk : ∀ (H1 : Heap), Pw Z b (n + 1) (vup E n (.inl (cZ, N', .inr (.inr (.inr (.inr (fun _ => none))))))) H1 → va_S (A0 b) s.heap H1 locs → W p l e R s m args below meth c H1 locs (cells + 1) (slots + N') Q (F0 m (pc + 3) ls (.ref (b + n) :: rest))) : W p l e R s m args below meth c H locs cells slots Q (F0 m pc ls (.int i :: rest)) := by
  subst hN
  refine W.anew hexec hb hown hclink hover rfl hdg rfl hn hbytes hcells hslots fun cA kA comp f1 f2 f3 f4 => ?_
  have hcA : cA = cZ := by rw [hz] at f1; exact (Option.some.inj f1).symm
  subst hcA
  generalize hH1 : H.push ({ cls := cA, slots := Array.replicate i.toNatClampNeg .null, vm := .none } : Cell) = H1
  have z : H1.size = H.size + 1 := by rw [← hH1, Array.size_push]
  have e1 : H1[H.size]? = some (arrV cA i.toNatClampNeg (fun _ => .null)) := by rw [← hH1, Array.getElem?_push_size, ← arrV_new]
  have o : ∀ q : Nat, q < H.size → H1[q]? = H[q]? := fun q hq => by rw [← hH1, Array.getElem?_push, if_neg (Nat.ne_of_lt hq)]
  rw [hP.1]
  refine kk H1 (Pw_push hP z o ?_) (Pw_S hS z o)
  show H1[b + n]? = some (vp_cell _ _)
  rw [← hP.1, e1, vp_cell_q]
  rfl
end NEWROWS

def f_X3_memberCount_40 (K4 : Mem → Int32 → Int32 → Int32 → Option (Int32 × Mem)) (M : Mem) (x1 : Int32) (x2 : Int32) (x3 : Int32) : Option (Int32 × Mem) :=
  K4 M x1 x2 (x3 + 1)
set_option maxHeartbeats 4000000 in
set_option maxRecDepth 100000 in
theorem w_X3_memberCount_40 {p : Program} {l : Launch} {e : Env} {s : State} {m : MethodId} {args : Array Value} {below : List Frame} {meth : Method} {c : Code} {Z : Zt} {b : Nat} (C : Cx p s m args c cX3_memberCount RX3 Z b) (hml : c.maxLocals = 4) (hr : meth.sig.returnType = (some .int)) (hlk : meth.locks = false) {r' : Int32} {M' : Mem} {K4 : Mem → Int32 → Int32 → Int32 → Option (Int32 × Mem)} (hK4 : ∀ {M : Mem} {x1 : Int32} {x2 : Int32} {x3 : Int32} (h : K4 M x1 x2 x3 = some (r', M')) {H : Heap} {locs : List Loc} {ls : Array Slot} (hS : va_S (A0 b) s.heap H locs) (hW : Wd Z b M H) (hl : lv_has ls 4 [(0, .ref (b + 1)), (1, .int x1), (2, .int x2), (3, .int x3)]), W p l e rm_X3_memberCount s m args below meth c H locs 0 0 (MQ below (Qn Z b (some (.int r')) M') args s 0 0 (A0 b)) (F0 m 4 ls [])) {M : Mem} {x1 : Int32} {x2 : Int32} {x3 : Int32} (h : f_X3_memberCount_40 K4 M x1 x2 x3 = some (r', M')) {H : Heap} {locs : List Loc} {ls : Array Slot} (hS : va_S (A0 b) s.heap H locs) (hW : Wd Z b M H) (hl : lv_has ls 4 [(0, .ref (b + 1)), (1, .int x1), (2, .int x2), (3, .int x3)]) : W p l e rm_X3_memberCount s m args below meth c H locs 0 0 (MQ below (Qn Z b (some (.int r')) M') args s 0 0 (A0 b)) (F0 m 40 ls []) := by
  unfold f_X3_memberCount_40 at h
  have hx := C.1
  have hb := C.2.1
  refine lv_iinc (v := x3 + 1) (lv' := [(3, .int (x3 + 1)), (0, .ref (b + 1)), (1, .int x1), (2, .int x2)]) hx hb dX3_memberCount_40 hl (k := 3) rfl rfl (by decide) rfl (fun ls hl => ?_)
  refine lv_goto (tgt := 4) hx hb dX3_memberCount_43 (by decide) ?_
  exact hK4 h hS hW (lv_sub hl [1, 2, 3, 0] rfl)
def f_X3_memberCount_4B (K4 : Mem → Int32 → Int32 → Int32 → Option (Int32 × Mem)) (M : Mem) (x1 : Int32) (x2 : Int32) (x3 : Int32) : Option (Int32 × Mem) :=
  if (M 2 0) ≤ x3 then some (x2, M) else if (60 : Int32) ≤ x3 then some (x2, M) else if x3 < 0 ∨ 60 ≤ x3.toNatClampNeg then none else if 60 ≤ rk M x3.toNatClampNeg then none else bd2 (f_X4_parentOf M (M 4 (rk M x3.toNatClampNeg))) (fun r30 M30 => if r30 = x1 then f_X3_memberCount_40 K4 M30 x1 (x2 + 1) x3 else f_X3_memberCount_40 K4 M30 x1 x2 x3)
def f_X3_memberCount_4 : Nat → Mem → Int32 → Int32 → Int32 → Option (Int32 × Mem)
  | 0 => fun _ _ _ _ => none
  | n + 1 => f_X3_memberCount_4B (f_X3_memberCount_4 n)
set_option maxHeartbeats 4000000 in
set_option maxRecDepth 100000 in
theorem w_X3_memberCount_4 {p : Program} {l : Launch} {e : Env} {s : State} {m : MethodId} {args : Array Value} {below : List Frame} {meth : Method} {c : Code} {Z : Zt} {b : Nat} (C : Cx p s m args c cX3_memberCount RX3 Z b) (hml : c.maxLocals = 4) (hr : meth.sig.returnType = (some .int)) (hlk : meth.locks = false) {r' : Int32} {M' : Mem} : ∀ (n : Nat) {M : Mem} {x1 : Int32} {x2 : Int32} {x3 : Int32} (h : f_X3_memberCount_4 n M x1 x2 x3 = some (r', M')) {H : Heap} {locs : List Loc} {ls : Array Slot} (hS : va_S (A0 b) s.heap H locs) (hW : Wd Z b M H) (hl : lv_has ls 4 [(0, .ref (b + 1)), (1, .int x1), (2, .int x2), (3, .int x3)]), W p l e rm_X3_memberCount s m args below meth c H locs 0 0 (MQ below (Qn Z b (some (.int r')) M') args s 0 0 (A0 b)) (F0 m 4 ls []) := by
  intro n
  induction n with
  | zero =>
    intro M x1 x2 x3 h
    cases h
  | succ n ih =>
    intro M x1 x2 x3 h H locs ls hS hW hl
    have h : f_X3_memberCount_4B (f_X3_memberCount_4 n) M x1 x2 x3 = some (r', M') := h
    unfold f_X3_memberCount_4B at h
    have hK4 := @ih
    have hx := C.1
    have hb := C.2.1
    refine lv_iload_n hx hb dX3_memberCount_4 rfl (lv_at hl 3 rfl) ?_
    refine lv_aload_n hx hb dX3_memberCount_5 rfl (lv_at hl 0 rfl) ?_
    refine gX3_18 C hW dX3_memberCount_6 ?_
    refine lv_icmp_ge (tgt := 46) hx hb dX3_memberCount_9 (by decide) (fun c9 => ?_) (fun c9 => ?_)
    · have h := (if_pos c9).symm.trans h
      refine lv_iload_n hx hb dX3_memberCount_46 rfl (lv_at hl 2 rfl) ?_
      cases h
      exact ret_i C hr hlk hS hW dX3_memberCount_47
    · have h := (if_neg c9).symm.trans h
      refine lv_iload_n hx hb dX3_memberCount_12 rfl (lv_at hl 3 rfl) ?_
      refine lv_aload_n hx hb dX3_memberCount_13 rfl (lv_at hl 0 rfl) ?_
      refine gX3_11 C hW dX3_memberCount_14 ?_
      refine alen_2 C hW dX3_memberCount_17 ?_
      refine lv_icmp_ge (tgt := 46) hx hb dX3_memberCount_18 (by decide) (fun c18 => ?_) (fun c18 => ?_)
      · have h := (if_pos c18).symm.trans h
        refine lv_iload_n hx hb dX3_memberCount_46 rfl (lv_at hl 2 rfl) ?_
        cases h
        exact ret_i C hr hlk hS hW dX3_memberCount_47
      · have h := (if_neg c18).symm.trans h
        refine lv_aload_n hx hb dX3_memberCount_21 rfl (lv_at hl 0 rfl) ?_
        refine gX3_11 C hW dX3_memberCount_22 ?_
        refine lv_iload_n hx hb dX3_memberCount_25 rfl (lv_at hl 3 rfl) ?_
        obtain ⟨g26, h⟩ := gd h
        obtain ⟨gr26, h⟩ := gd h
        have hr26 := Nat.lt_of_not_le gr26
        refine ald_row C hW g26 dX3_memberCount_26 ?_
        refine gX3_22 hr26 C hW dX3_memberCount_27 ?_
        obtain ⟨r30, M30, hc30, h⟩ := bd2_e h
        refine kX3_65 C hml hl.1 (c_X4_parentOf hc30) ⟨Nat.le_of_ble_eq_true rfl, Nat.le_of_ble_eq_true rfl⟩ ⟨Nat.le_of_ble_eq_true rfl, Nat.le_of_ble_eq_true rfl⟩ (Nat.le_of_ble_eq_true rfl) hS hW dX3_memberCount_30 (fun H locs hW hS => ?_)
        refine lv_iload_n hx hb dX3_memberCount_33 rfl (lv_at hl 1 rfl) ?_
        refine lv_icmp_ne (tgt := 40) hx hb dX3_memberCount_34 (by decide) (fun c34 => ?_) (fun c34 => ?_)
        · have h := (if_neg c34).symm.trans h
          exact w_X3_memberCount_40 C hml hr hlk hK4 h hS hW (lv_sub hl [0, 1, 2, 3] rfl)
        · have h := (if_pos c34).symm.trans h
          refine lv_iinc (v := x2 + 1) (lv' := [(2, .int (x2 + 1)), (0, .ref (b + 1)), (1, .int x1), (3, .int x3)]) hx hb dX3_memberCount_37 hl (k := 2) rfl rfl (by decide) rfl (fun ls hl => ?_)
          exact w_X3_memberCount_40 C hml hr hlk hK4 h hS hW (lv_sub hl [1, 2, 0, 3] rfl)
def f_X3_memberCount_0 (M : Mem) (x1 : Int32) : Option (Int32 × Mem) :=
  f_X3_memberCount_4 64 M x1 (0 : Int32) (0 : Int32)
set_option maxHeartbeats 4000000 in
set_option maxRecDepth 100000 in
theorem w_X3_memberCount_0 {p : Program} {l : Launch} {e : Env} {s : State} {m : MethodId} {args : Array Value} {below : List Frame} {meth : Method} {c : Code} {Z : Zt} {b : Nat} (C : Cx p s m args c cX3_memberCount RX3 Z b) (hml : c.maxLocals = 4) (hr : meth.sig.returnType = (some .int)) (hlk : meth.locks = false) {r' : Int32} {M' : Mem} {M : Mem} {x1 : Int32} (h : f_X3_memberCount_0 M x1 = some (r', M')) {H : Heap} {locs : List Loc} {ls : Array Slot} (hS : va_S (A0 b) s.heap H locs) (hW : Wd Z b M H) (hl : lv_has ls 4 [(0, .ref (b + 1)), (1, .int x1)]) : W p l e rm_X3_memberCount s m args below meth c H locs 0 0 (MQ below (Qn Z b (some (.int r')) M') args s 0 0 (A0 b)) (F0 m 0 ls []) := by
  unfold f_X3_memberCount_0 at h
  have hx := C.1
  have hb := C.2.1
  refine lv_iconst (v := (0 : Int32)) hx hb dX3_memberCount_0 (by decide) ?_
  refine lv_istore_n (lv' := [(2, .int (0 : Int32)), (0, .ref (b + 1)), (1, .int x1)]) hx hb dX3_memberCount_1 rfl hl (by decide) rfl (fun ls hl => ?_)
  refine lv_iconst (v := (0 : Int32)) hx hb dX3_memberCount_2 (by decide) ?_
  refine lv_istore_n (lv' := [(3, .int (0 : Int32)), (2, .int (0 : Int32)), (0, .ref (b + 1)), (1, .int x1)]) hx hb dX3_memberCount_3 rfl hl (by decide) rfl (fun ls hl => ?_)
  exact w_X3_memberCount_4 C hml hr hlk 64 h hS hW (lv_sub hl [2, 3, 1, 0] rfl)
def f_X3_memberCount (M : Mem) (x1 : Int32) : Option (Int32 × Mem) := f_X3_memberCount_0 M x1
set_option maxHeartbeats 4000000 in
set_option maxRecDepth 100000 in
theorem c_X3_memberCount {l : Launch} {Z : Zt} {b : Nat} {M : Mem} {x1 : Int32} {r' : Int32} {M' : Mem} (h : f_X3_memberCount M x1 = some (r', M')) : Ct l yX3_memberCount cX3_memberCount 4 (some .int) rm_X3_memberCount Z b [.ref (b + 1), .int x1] M (some (.int r')) M' := by
  refine Met.ofW (cc := cX3_memberCount) (maxL := 4) (ret := (some .int)) (by decide) rfl ?_
  intro p e s m args below meth c s₁ B hml hv
  obtain ⟨rfl, hE, hW⟩ := hv
  have C : Cx p s m [.ref (b + 1), .int x1].toArray c cX3_memberCount RX3 Z b := ⟨B.exec, B.bytes, findClass_of_methodNamed B.named, fun w hw => atoms_spec (ws := Cond.code yX3_memberCount cX3_memberCount 4 (some .int) :: wsA) B.pre w (List.mem_cons_of_mem _ hw), hE⟩
  have hl := lv_entry [.ref (b + 1), .int x1] (n := 4) (Nat.le_of_ble_eq_true rfl)
  rw [lg_entry_eq]
  generalize (lg_sl [.ref (b + 1), .int x1] ++ List.replicate (4 - (lg_sl [.ref (b + 1), .int x1]).length) Slot.unset).toArray = ls at hl ⊢
  have hl : lv_has ls 4 [(0, .ref (b + 1)), (1, .int x1)] := hl
  exact w_X3_memberCount_0 C hml B.returns B.notSynchronized h va_S.rf hW hl
def f_X4_members_0 (M : Mem) (x1 : Int32) : Option ((String ⊕ Int32) × Mem) :=
  bdx (f_X4_requirePath M x1) (fun r1 M1 => bd2 (f_X3_memberCount M1 x1) (fun r9 M9 => some (.inr r9, M9)))
set_option maxHeartbeats 4000000 in
set_option maxRecDepth 100000 in
theorem w_X4_members_0 {p : Program} {l : Launch} {e : Env} {s : State} {m : MethodId} {args : Array Value} {below : List Frame} {meth : Method} {c : Code} {Z : Zt} {b : Nat} (C : Cx p s m args c cX4_members RX4 Z b) (hml : c.maxLocals = 2) (hr : meth.sig.returnType = (some .int)) (hlk : meth.locks = false) (hlf : l.stackTraces = false) (ht : ∀ x ∈ c.exceptionTable.toList, False) {res : ((String ⊕ Int32) × Mem)} {M : Mem} {x1 : Int32} (h : f_X4_members_0 M x1 = some res) {H : Heap} {locs : List Loc} {ls : Array Slot} (hS : va_S (A0 b) s.heap H locs) (hW : Wd Z b M H) (hl : lv_has ls 2 [(0, .ref (b + 0)), (1, .int x1)]) : W p l e rm_X4_members s m args below meth c H locs 0 0 (vx_MQ below (Qx Z b (voI res.1) res.2) (XCx Z b (voI res.1) res.2) args s 1 6 (A0 b)) (F0 m 0 ls []) := by
  unfold f_X4_members_0 at h
  have hx := C.1
  have hb := C.2.1
  refine lv_iload_n hx hb dX4_members_0 rfl (lv_at hl 1 rfl) ?_
  rcases bdx_e h with ⟨E1, M1, hc1, rfl⟩ | ⟨r1, M1, hc1, h⟩
  · exact kX4_123T C hml hl.1 (c_X4_requirePath hlf hc1) ⟨Nat.le_of_ble_eq_true rfl, Nat.le_of_ble_eq_true rfl⟩ ⟨Nat.le_of_ble_eq_true rfl, Nat.le_of_ble_eq_true rfl⟩ (Nat.le_of_ble_eq_true rfl) hS hW dX4_members_1 ht hlk (Nat.le_of_ble_eq_true rfl) (Nat.le_of_ble_eq_true rfl)
  refine kX4_123R C hml hl.1 (c_X4_requirePath hlf hc1) ⟨Nat.le_of_ble_eq_true rfl, Nat.le_of_ble_eq_true rfl⟩ ⟨Nat.le_of_ble_eq_true rfl, Nat.le_of_ble_eq_true rfl⟩ (Nat.le_of_ble_eq_true rfl) hS hW dX4_members_1 (fun H locs hW hS => ?_)
  refine lv_aload_n hx hb dX4_members_4 rfl (lv_at hl 0 rfl) ?_
  refine gX4_10 C hW dX4_members_5 ?_
  refine lv_iload_n hx hb dX4_members_8 rfl (lv_at hl 1 rfl) ?_
  obtain ⟨r9, M9, hc9, h⟩ := bd2_e h
  refine kX4_137 C hml hl.1 (c_X3_memberCount hc9) ⟨Nat.le_of_ble_eq_true rfl, Nat.le_of_ble_eq_true rfl⟩ ⟨Nat.le_of_ble_eq_true rfl, Nat.le_of_ble_eq_true rfl⟩ (Nat.le_of_ble_eq_true rfl) hS hW dX4_members_9 (fun H locs hW hS => ?_)
  cases h
  exact ret_xi C hr hlk hS hW dX4_members_12 (Nat.le_of_ble_eq_true rfl) (Nat.le_of_ble_eq_true rfl)
def f_X4_members (M : Mem) (x1 : Int32) : Option ((String ⊕ Int32) × Mem) := f_X4_members_0 M x1
set_option maxHeartbeats 4000000 in
set_option maxRecDepth 100000 in
theorem c_X4_members {l : Launch} {Z : Zt} {b : Nat} (hlf : l.stackTraces = false) {M : Mem} {x1 : Int32} {res : ((String ⊕ Int32) × Mem)} (h : f_X4_members M x1 = some res) : Cx' l yX4_members cX4_members 2 (some .int) rm_X4_members 1 6 Z b [.ref (b + 0), .int x1] M (voI res.1) res.2 := by
  refine vx_ofW (cc := cX4_members) (maxL := 2) (ret := (some .int)) (by decide) rfl ?_
  intro p e s m args below meth c s₁ B hml ht hv
  obtain ⟨rfl, hE, hW⟩ := hv
  have C : Cx p s m [.ref (b + 0), .int x1].toArray c cX4_members RX4 Z b := ⟨B.exec, B.bytes, findClass_of_methodNamed B.named, fun w hw => atoms_spec (ws := Cond.code yX4_members cX4_members 2 (some .int) :: wsA) B.pre w (List.mem_cons_of_mem _ hw), hE⟩
  have hl := lv_entry [.ref (b + 0), .int x1] (n := 2) (Nat.le_of_ble_eq_true rfl)
  rw [lg_entry_eq]
  generalize (lg_sl [.ref (b + 0), .int x1] ++ List.replicate (2 - (lg_sl [.ref (b + 0), .int x1]).length) Slot.unset).toArray = ls at hl ⊢
  have hl : lv_has ls 2 [(0, .ref (b + 0)), (1, .int x1)] := hl
  exact w_X4_members_0 C hml B.returns B.notSynchronized hlf ht h va_S.rf hW hl
def f_X4_memberAt_0 (M : Mem) (x1 : Int32) (x2 : Int32) : Option ((String ⊕ Int32) × Mem) :=
  bdx (f_X4_requirePath M x1) (fun r1 M1 => bd2 (f_X3_memberIndex M1 x1 x2) (fun r14 M14 => bd2 (f_X3_pathAt M14 r14) (fun r17 M17 => if r17 = (-1 : Int32) then some (.inl "java/lang/IndexOutOfBoundsException", M17) else some (.inr r17, M17))))
set_option maxHeartbeats 4000000 in
set_option maxRecDepth 100000 in
theorem w_X4_memberAt_0 {p : Program} {l : Launch} {e : Env} {s : State} {m : MethodId} {args : Array Value} {below : List Frame} {meth : Method} {c : Code} {Z : Zt} {b : Nat} (C : Cx p s m args c cX4_memberAt RX4 Z b) (hml : c.maxLocals = 4) (hr : meth.sig.returnType = (some .int)) (hlk : meth.locks = false) (hlf : l.stackTraces = false) (ht : ∀ x ∈ c.exceptionTable.toList, False) {res : ((String ⊕ Int32) × Mem)} {M : Mem} {x1 : Int32} {x2 : Int32} (h : f_X4_memberAt_0 M x1 x2 = some res) {H : Heap} {locs : List Loc} {ls : Array Slot} (hS : va_S (A0 b) s.heap H locs) (hW : Wd Z b M H) (hl : lv_has ls 4 [(0, .ref (b + 0)), (1, .int x1), (2, .int x2)]) : W p l e rm_X4_memberAt s m args below meth c H locs 0 0 (vx_MQ below (Qx Z b (voI res.1) res.2) (XCx Z b (voI res.1) res.2) args s 2 12 (A0 b)) (F0 m 0 ls []) := by
  unfold f_X4_memberAt_0 at h
  have hx := C.1
  have hb := C.2.1
  refine lv_iload_n hx hb dX4_memberAt_0 rfl (lv_at hl 1 rfl) ?_
  rcases bdx_e h with ⟨E1, M1, hc1, rfl⟩ | ⟨r1, M1, hc1, h⟩
  · exact kX4_123T C hml hl.1 (c_X4_requirePath hlf hc1) ⟨Nat.le_of_ble_eq_true rfl, Nat.le_of_ble_eq_true rfl⟩ ⟨Nat.le_of_ble_eq_true rfl, Nat.le_of_ble_eq_true rfl⟩ (Nat.le_of_ble_eq_true rfl) hS hW dX4_memberAt_1 ht hlk (Nat.le_of_ble_eq_true rfl) (Nat.le_of_ble_eq_true rfl)
  refine kX4_123R C hml hl.1 (c_X4_requirePath hlf hc1) ⟨Nat.le_of_ble_eq_true rfl, Nat.le_of_ble_eq_true rfl⟩ ⟨Nat.le_of_ble_eq_true rfl, Nat.le_of_ble_eq_true rfl⟩ (Nat.le_of_ble_eq_true rfl) hS hW dX4_memberAt_1 (fun H locs hW hS => ?_)
  refine lv_aload_n hx hb dX4_memberAt_4 rfl (lv_at hl 0 rfl) ?_
  refine gX4_10 C hW dX4_memberAt_5 ?_
  refine lv_aload_n hx hb dX4_memberAt_8 rfl (lv_at hl 0 rfl) ?_
  refine gX4_10 C hW dX4_memberAt_9 ?_
  refine lv_iload_n hx hb dX4_memberAt_12 rfl (lv_at hl 1 rfl) ?_
  refine lv_iload_n hx hb dX4_memberAt_13 rfl (lv_at hl 2 rfl) ?_
  obtain ⟨r14, M14, hc14, h⟩ := bd2_e h
  refine kX4_140 C hml hl.1 (c_X3_memberIndex hc14) ⟨Nat.le_of_ble_eq_true rfl, Nat.le_of_ble_eq_true rfl⟩ ⟨Nat.le_of_ble_eq_true rfl, Nat.le_of_ble_eq_true rfl⟩ (Nat.le_of_ble_eq_true rfl) hS hW dX4_memberAt_14 (fun H locs hW hS => ?_)
  obtain ⟨r17, M17, hc17, h⟩ := bd2_e h
  refine kX4_144 C hml hl.1 (c_X3_pathAt hc17) ⟨Nat.le_of_ble_eq_true rfl, Nat.le_of_ble_eq_true rfl⟩ ⟨Nat.le_of_ble_eq_true rfl, Nat.le_of_ble_eq_true rfl⟩ (Nat.le_of_ble_eq_true rfl) hS hW dX4_memberAt_17 (fun H locs hW hS => ?_)
  refine lv_istore_n (lv' := [(3, .int r17), (0, .ref (b + 0)), (1, .int x1), (2, .int x2)]) hx hb dX4_memberAt_20 rfl hl (by decide) rfl (fun ls hl => ?_)
  refine lv_iload_n hx hb dX4_memberAt_21 rfl (lv_at hl 0 rfl) ?_
  refine lv_iconst (v := (-1 : Int32)) hx hb dX4_memberAt_22 (by decide) ?_
  refine lv_icmp_ne (tgt := 36) hx hb dX4_memberAt_23 (by decide) (fun c23 => ?_) (fun c23 => ?_)
  · have h := (if_neg c23).symm.trans h
    refine lv_iload_n hx hb dX4_memberAt_36 rfl (lv_at hl 0 rfl) ?_
    cases h
    exact ret_xi C hr hlk hS hW dX4_memberAt_37 (Nat.le_of_ble_eq_true rfl) (Nat.le_of_ble_eq_true rfl)
  · have h := (if_pos c23).symm.trans h
    cases h
    exact thB (is := 147) (text := "no such member") hlf C ht hlk (by decide +kernel) hS hW (hl.1.trans hml.symm) dX4_memberAt_26 dX4_memberAt_29 dX4_memberAt_30 dX4_memberAt_32 dX4_memberAt_35 ⟨Nat.le_of_ble_eq_true rfl, Nat.le_of_ble_eq_true rfl⟩ ⟨Nat.le_of_ble_eq_true rfl, Nat.le_of_ble_eq_true rfl⟩ (Nat.le_of_ble_eq_true rfl) (Nat.le_of_ble_eq_true rfl)
def f_X4_memberAt (M : Mem) (x1 : Int32) (x2 : Int32) : Option ((String ⊕ Int32) × Mem) := f_X4_memberAt_0 M x1 x2
set_option maxHeartbeats 4000000 in
set_option maxRecDepth 100000 in
theorem c_X4_memberAt {l : Launch} {Z : Zt} {b : Nat} (hlf : l.stackTraces = false) {M : Mem} {x1 : Int32} {x2 : Int32} {res : ((String ⊕ Int32) × Mem)} (h : f_X4_memberAt M x1 x2 = some res) : Cx' l yX4_memberAt cX4_memberAt 4 (some .int) rm_X4_memberAt 2 12 Z b [.ref (b + 0), .int x1, .int x2] M (voI res.1) res.2 := by
  refine vx_ofW (cc := cX4_memberAt) (maxL := 4) (ret := (some .int)) (by decide) rfl ?_
  intro p e s m args below meth c s₁ B hml ht hv
  obtain ⟨rfl, hE, hW⟩ := hv
  have C : Cx p s m [.ref (b + 0), .int x1, .int x2].toArray c cX4_memberAt RX4 Z b := ⟨B.exec, B.bytes, findClass_of_methodNamed B.named, fun w hw => atoms_spec (ws := Cond.code yX4_memberAt cX4_memberAt 4 (some .int) :: wsA) B.pre w (List.mem_cons_of_mem _ hw), hE⟩
  have hl := lv_entry [.ref (b + 0), .int x1, .int x2] (n := 4) (Nat.le_of_ble_eq_true rfl)
  rw [lg_entry_eq]
  generalize (lg_sl [.ref (b + 0), .int x1, .int x2] ++ List.replicate (4 - (lg_sl [.ref (b + 0), .int x1, .int x2]).length) Slot.unset).toArray = ls at hl ⊢
  have hl : lv_has ls 4 [(0, .ref (b + 0)), (1, .int x1), (2, .int x2)] := hl
  exact w_X4_memberAt_0 C hml B.returns B.notSynchronized hlf ht h va_S.rf hW hl
def f_X4_order_0 (M : Mem) (x1 : Int32) (x2 : Int32) (x3 : Int32) (x4 : Int32) : Option ((String ⊕ Int32) × Mem) :=
  bdx (f_X4_requireClient M x1) (fun r1 M1 => bdx (f_X4_requirePathBelowTop M1 x2) (fun r5 M5 => bdx (f_X4_requireNotNegative M5 x3) (fun r9 M9 => bdx (f_X4_requireNotNegative M9 x4) (fun r14 M14 => bd2 (f_X3_find M14 x2) (fun q22 M22 => oe q22 (some (.inr (1 : Int32), M22)) (fun k22 => if 60 ≤ k22 then none else bd2 (f_X4_parentOf M22 x2) (fun r36 M36 => bd2 (f_X1_allows M36 x1 r36 x4) (fun r41 M41 => if r41 = 0 then some (.inr (4 : Int32), M41) else bd1 (f_X3_placeMember M41 x2 x3) (fun M55 => some (.inr (0 : Int32), M55))))))))))
set_option maxHeartbeats 4000000 in
set_option maxRecDepth 100000 in
theorem w_X4_order_0 {p : Program} {l : Launch} {e : Env} {s : State} {m : MethodId} {args : Array Value} {below : List Frame} {meth : Method} {c : Code} {Z : Zt} {b : Nat} (C : Cx p s m args c cX4_order RX4 Z b) (hml : c.maxLocals = 5) (hr : meth.sig.returnType = (some .int)) (hlk : meth.locks = false) (hlf : l.stackTraces = false) (ht : ∀ x ∈ c.exceptionTable.toList, False) {res : ((String ⊕ Int32) × Mem)} {M : Mem} {x1 : Int32} {x2 : Int32} {x3 : Int32} {x4 : Int32} (h : f_X4_order_0 M x1 x2 x3 x4 = some res) {H : Heap} {locs : List Loc} {ls : Array Slot} (hS : va_S (A0 b) s.heap H locs) (hW : Wd Z b M H) (hl : lv_has ls 5 [(0, .ref (b + 0)), (1, .int x1), (2, .int x2), (3, .int x3), (4, .int x4)]) : W p l e rm_X4_order s m args below meth c H locs 0 0 (vx_MQ below (Qx Z b (voI res.1) res.2) (XCx Z b (voI res.1) res.2) args s 5 30 (A0 b)) (F0 m 0 ls []) := by
  unfold f_X4_order_0 at h
  have hx := C.1
  have hb := C.2.1
  refine lv_iload_n hx hb dX4_order_0 rfl (lv_at hl 1 rfl) ?_
  rcases bdx_e h with ⟨E1, M1, hc1, rfl⟩ | ⟨r1, M1, hc1, h⟩
  · exact kX4_31T C hml hl.1 (c_X4_requireClient hlf hc1) ⟨Nat.le_of_ble_eq_true rfl, Nat.le_of_ble_eq_true rfl⟩ ⟨Nat.le_of_ble_eq_true rfl, Nat.le_of_ble_eq_true rfl⟩ (Nat.le_of_ble_eq_true rfl) hS hW dX4_order_1 ht hlk (Nat.le_of_ble_eq_true rfl) (Nat.le_of_ble_eq_true rfl)
  refine kX4_31R C hml hl.1 (c_X4_requireClient hlf hc1) ⟨Nat.le_of_ble_eq_true rfl, Nat.le_of_ble_eq_true rfl⟩ ⟨Nat.le_of_ble_eq_true rfl, Nat.le_of_ble_eq_true rfl⟩ (Nat.le_of_ble_eq_true rfl) hS hW dX4_order_1 (fun H locs hW hS => ?_)
  refine lv_iload_n hx hb dX4_order_4 rfl (lv_at hl 2 rfl) ?_
  rcases bdx_e h with ⟨E5, M5, hc5, rfl⟩ | ⟨r5, M5, hc5, h⟩
  · exact kX4_35T C hml hl.1 (c_X4_requirePathBelowTop hlf hc5) ⟨Nat.le_of_ble_eq_true rfl, Nat.le_of_ble_eq_true rfl⟩ ⟨Nat.le_of_ble_eq_true rfl, Nat.le_of_ble_eq_true rfl⟩ (Nat.le_of_ble_eq_true rfl) hS hW dX4_order_5 ht hlk (Nat.le_of_ble_eq_true rfl) (Nat.le_of_ble_eq_true rfl)
  refine kX4_35R C hml hl.1 (c_X4_requirePathBelowTop hlf hc5) ⟨Nat.le_of_ble_eq_true rfl, Nat.le_of_ble_eq_true rfl⟩ ⟨Nat.le_of_ble_eq_true rfl, Nat.le_of_ble_eq_true rfl⟩ (Nat.le_of_ble_eq_true rfl) hS hW dX4_order_5 (fun H locs hW hS => ?_)
  refine lv_iload_n hx hb dX4_order_8 rfl (lv_at hl 3 rfl) ?_
  rcases bdx_e h with ⟨E9, M9, hc9, rfl⟩ | ⟨r9, M9, hc9, h⟩
  · exact kX4_38T C hml hl.1 (c_X4_requireNotNegative hlf hc9) ⟨Nat.le_of_ble_eq_true rfl, Nat.le_of_ble_eq_true rfl⟩ ⟨Nat.le_of_ble_eq_true rfl, Nat.le_of_ble_eq_true rfl⟩ (Nat.le_of_ble_eq_true rfl) hS hW dX4_order_9 ht hlk (Nat.le_of_ble_eq_true rfl) (Nat.le_of_ble_eq_true rfl)
  refine kX4_38R C hml hl.1 (c_X4_requireNotNegative hlf hc9) ⟨Nat.le_of_ble_eq_true rfl, Nat.le_of_ble_eq_true rfl⟩ ⟨Nat.le_of_ble_eq_true rfl, Nat.le_of_ble_eq_true rfl⟩ (Nat.le_of_ble_eq_true rfl) hS hW dX4_order_9 (fun H locs hW hS => ?_)
  refine lv_iload hx hb dX4_order_12 (lv_at hl 4 rfl) ?_
  rcases bdx_e h with ⟨E14, M14, hc14, rfl⟩ | ⟨r14, M14, hc14, h⟩
  · exact kX4_38T C hml hl.1 (c_X4_requireNotNegative hlf hc14) ⟨Nat.le_of_ble_eq_true rfl, Nat.le_of_ble_eq_true rfl⟩ ⟨Nat.le_of_ble_eq_true rfl, Nat.le_of_ble_eq_true rfl⟩ (Nat.le_of_ble_eq_true rfl) hS hW dX4_order_14 ht hlk (Nat.le_of_ble_eq_true rfl) (Nat.le_of_ble_eq_true rfl)
  refine kX4_38R C hml hl.1 (c_X4_requireNotNegative hlf hc14) ⟨Nat.le_of_ble_eq_true rfl, Nat.le_of_ble_eq_true rfl⟩ ⟨Nat.le_of_ble_eq_true rfl, Nat.le_of_ble_eq_true rfl⟩ (Nat.le_of_ble_eq_true rfl) hS hW dX4_order_14 (fun H locs hW hS => ?_)
  refine lv_aload_n hx hb dX4_order_17 rfl (lv_at hl 0 rfl) ?_
  refine gX4_10 C hW dX4_order_18 ?_
  refine lv_iload_n hx hb dX4_order_21 rfl (lv_at hl 2 rfl) ?_
  obtain ⟨q22, M22, hc22, h⟩ := bd2_e h
  refine kX4_49 C hml hl.1 (c_X3_find hc22) ⟨Nat.le_of_ble_eq_true rfl, Nat.le_of_ble_eq_true rfl⟩ ⟨Nat.le_of_ble_eq_true rfl, Nat.le_of_ble_eq_true rfl⟩ (Nat.le_of_ble_eq_true rfl) hS hW dX4_order_22 (fun H locs hW hS => ?_)
  rcases q22 with _ | k22
  · have h := oe_n h
    refine W.eq (g2 := F0 m 25 ls [.null]) rfl ?_
    refine lv_ifnonnullN hx hb dX4_order_25 ?_
    refine lv_iconst (v := (1 : Int32)) hx hb dX4_order_28 (by decide) ?_
    cases h
    exact ret_xi C hr hlk hS hW dX4_order_29 (Nat.le_of_ble_eq_true rfl) (Nat.le_of_ble_eq_true rfl)
  · obtain ⟨g22, h⟩ := gd (oe_s h)
    have hk22 := Nat.lt_of_not_le g22
    refine W.eq (g2 := F0 m 25 ls [.ref (b + (3 + 2 * k22))]) rfl ?_
    refine lv_ifnonnull (tgt := 30) hx hb dX4_order_25 (by decide) ?_
    refine lv_aload_n hx hb dX4_order_30 rfl (lv_at hl 0 rfl) ?_
    refine gX4_19 C hW dX4_order_31 ?_
    refine lv_iload_n hx hb dX4_order_34 rfl (lv_at hl 1 rfl) ?_
    refine lv_iload_n hx hb dX4_order_35 rfl (lv_at hl 2 rfl) ?_
    obtain ⟨r36, M36, hc36, h⟩ := bd2_e h
    refine kX4_41 C hml hl.1 (c_X4_parentOf hc36) ⟨Nat.le_of_ble_eq_true rfl, Nat.le_of_ble_eq_true rfl⟩ ⟨Nat.le_of_ble_eq_true rfl, Nat.le_of_ble_eq_true rfl⟩ (Nat.le_of_ble_eq_true rfl) hS hW dX4_order_36 (fun H locs hW hS => ?_)
    refine lv_iload hx hb dX4_order_39 (lv_at hl 4 rfl) ?_
    obtain ⟨r41, M41, hc41, h⟩ := bd2_e h
    refine kX4_111 C hml hl.1 (c_X1_allows hc41) ⟨Nat.le_of_ble_eq_true rfl, Nat.le_of_ble_eq_true rfl⟩ ⟨Nat.le_of_ble_eq_true rfl, Nat.le_of_ble_eq_true rfl⟩ (Nat.le_of_ble_eq_true rfl) hS hW dX4_order_41 (fun H locs hW hS => ?_)
    refine lv_if_ne (tgt := 49) hx hb dX4_order_44 (by decide) (fun c44 => ?_) (fun c44 => ?_)
    · have h := (if_neg c44).symm.trans h
      refine lv_aload_n hx hb dX4_order_49 rfl (lv_at hl 0 rfl) ?_
      refine gX4_10 C hW dX4_order_50 ?_
      refine lv_iload_n hx hb dX4_order_53 rfl (lv_at hl 2 rfl) ?_
      refine lv_iload_n hx hb dX4_order_54 rfl (lv_at hl 3 rfl) ?_
      obtain ⟨M55, hc55, h⟩ := bd1_e h
      refine kX4_149 C hml hl.1 (c_X3_placeMember hc55) ⟨Nat.le_of_ble_eq_true rfl, Nat.le_of_ble_eq_true rfl⟩ ⟨Nat.le_of_ble_eq_true rfl, Nat.le_of_ble_eq_true rfl⟩ (Nat.le_of_ble_eq_true rfl) hS hW dX4_order_55 (fun H locs hW hS => ?_)
      refine lv_iconst (v := (0 : Int32)) hx hb dX4_order_58 (by decide) ?_
      cases h
      exact ret_xi C hr hlk hS hW dX4_order_59 (Nat.le_of_ble_eq_true rfl) (Nat.le_of_ble_eq_true rfl)
    · have h := (if_pos c44).symm.trans h
      refine lv_iconst (v := (4 : Int32)) hx hb dX4_order_47 (by decide) ?_
      cases h
      exact ret_xi C hr hlk hS hW dX4_order_48 (Nat.le_of_ble_eq_true rfl) (Nat.le_of_ble_eq_true rfl)
def f_X4_order (M : Mem) (x1 : Int32) (x2 : Int32) (x3 : Int32) (x4 : Int32) : Option ((String ⊕ Int32) × Mem) := f_X4_order_0 M x1 x2 x3 x4
set_option maxHeartbeats 4000000 in
set_option maxRecDepth 100000 in
theorem c_X4_order {l : Launch} {Z : Zt} {b : Nat} (hlf : l.stackTraces = false) {M : Mem} {x1 : Int32} {x2 : Int32} {x3 : Int32} {x4 : Int32} {res : ((String ⊕ Int32) × Mem)} (h : f_X4_order M x1 x2 x3 x4 = some res) : Cx' l yX4_order cX4_order 5 (some .int) rm_X4_order 5 30 Z b [.ref (b + 0), .int x1, .int x2, .int x3, .int x4] M (voI res.1) res.2 := by
  refine vx_ofW (cc := cX4_order) (maxL := 5) (ret := (some .int)) (by decide) rfl ?_
  intro p e s m args below meth c s₁ B hml ht hv
  obtain ⟨rfl, hE, hW⟩ := hv
  have C : Cx p s m [.ref (b + 0), .int x1, .int x2, .int x3, .int x4].toArray c cX4_order RX4 Z b := ⟨B.exec, B.bytes, findClass_of_methodNamed B.named, fun w hw => atoms_spec (ws := Cond.code yX4_order cX4_order 5 (some .int) :: wsA) B.pre w (List.mem_cons_of_mem _ hw), hE⟩
  have hl := lv_entry [.ref (b + 0), .int x1, .int x2, .int x3, .int x4] (n := 5) (Nat.le_of_ble_eq_true rfl)
  rw [lg_entry_eq]
  generalize (lg_sl [.ref (b + 0), .int x1, .int x2, .int x3, .int x4] ++ List.replicate (5 - (lg_sl [.ref (b + 0), .int x1, .int x2, .int x3, .int x4]).length) Slot.unset).toArray = ls at hl ⊢
  have hl : lv_has ls 5 [(0, .ref (b + 0)), (1, .int x1), (2, .int x2), (3, .int x3), (4, .int x4)] := hl
  exact w_X4_order_0 C hml B.returns B.notSynchronized hlf ht h va_S.rf hW hl
def f_X1_bar_64 (K3 : Mem → Int32 → Int32 → Int32 → Int32 → Option (Int32 × Mem)) (M : Mem) (x1 : Int32) (x2 : Int32) (x3 : Int32) (x4 : Int32) : Option (Int32 × Mem) :=
  K3 M x1 x2 x3 (x4 + 1)
set_option maxHeartbeats 4000000 in
set_option maxRecDepth 100000 in
theorem w_X1_bar_64 {p : Program} {l : Launch} {e : Env} {s : State} {m : MethodId} {args : Array Value} {below : List Frame} {meth : Method} {c : Code} {Z : Zt} {b : Nat} (C : Cx p s m args c cX1_bar RX1 Z b) (hml : c.maxLocals = 6) (hr : meth.sig.returnType = (some .boolean)) (hlk : meth.locks = false) {r' : Int32} {M' : Mem} {K3 : Mem → Int32 → Int32 → Int32 → Int32 → Option (Int32 × Mem)} (hK3 : ∀ {M : Mem} {x1 : Int32} {x2 : Int32} {x3 : Int32} {x4 : Int32} (h : K3 M x1 x2 x3 x4 = some (r', M')) {H : Heap} {locs : List Loc} {ls : Array Slot} (hS : va_S (A0 b) s.heap H locs) (hW : Wd Z b M H) (hl : lv_has ls 6 [(0, .ref (b + 123)), (1, .int x1), (2, .int x2), (3, .int x3), (4, .int x4)]), W p l e rm_X1_bar s m args below meth c H locs 0 0 (MQ below (Qn Z b (some (.int r')) M') args s 0 0 (A0 b)) (F0 m 3 ls [])) {M : Mem} {x1 : Int32} {x2 : Int32} {x3 : Int32} {x4 : Int32} (h : f_X1_bar_64 K3 M x1 x2 x3 x4 = some (r', M')) {H : Heap} {locs : List Loc} {ls : Array Slot} (hS : va_S (A0 b) s.heap H locs) (hW : Wd Z b M H) (hl : lv_has ls 6 [(0, .ref (b + 123)), (1, .int x1), (2, .int x2), (3, .int x3), (4, .int x4)]) : W p l e rm_X1_bar s m args below meth c H locs 0 0 (MQ below (Qn Z b (some (.int r')) M') args s 0 0 (A0 b)) (F0 m 64 ls []) := by
  unfold f_X1_bar_64 at h
  have hx := C.1
  have hb := C.2.1
  refine lv_iinc (v := x4 + 1) (lv' := [(4, .int (x4 + 1)), (0, .ref (b + 123)), (1, .int x1), (2, .int x2), (3, .int x3)]) hx hb dX1_bar_64 hl (k := 4) rfl rfl (by decide) rfl (fun ls hl => ?_)
  refine lv_goto (tgt := 3) hx hb dX1_bar_67 (by decide) ?_
  exact hK3 h hS hW (lv_sub hl [1, 2, 3, 4, 0] rfl)
def f_X1_bar_37 (K3 : Mem → Int32 → Int32 → Int32 → Int32 → Option (Int32 × Mem)) (M : Mem) (x1 : Int32) (x2 : Int32) (x3 : Int32) (x4 : Int32) (z5 : Option Nat) : Option (Int32 × Mem) :=
  oe z5 (none) (fun k5 => bd2 (f_X0_covers M k5 x1) (fun r40 M40 => if r40 = 0 then (if x3 = 0 then f_X1_bar_64 K3 M40 x1 x2 x3 x4 else bd2 (f_X4_isAbove M40 x1 (M40 13 k5)) (fun r56 M56 => if r56 = 0 then f_X1_bar_64 K3 M56 x1 x2 x3 x4 else some ((1 : Int32), M56))) else some ((1 : Int32), M40)))
set_option maxHeartbeats 4000000 in
set_option maxRecDepth 100000 in
theorem w_X1_bar_37 {p : Program} {l : Launch} {e : Env} {s : State} {m : MethodId} {args : Array Value} {below : List Frame} {meth : Method} {c : Code} {Z : Zt} {b : Nat} (C : Cx p s m args c cX1_bar RX1 Z b) (hml : c.maxLocals = 6) (hr : meth.sig.returnType = (some .boolean)) (hlk : meth.locks = false) {r' : Int32} {M' : Mem} {K3 : Mem → Int32 → Int32 → Int32 → Int32 → Option (Int32 × Mem)} (hK3 : ∀ {M : Mem} {x1 : Int32} {x2 : Int32} {x3 : Int32} {x4 : Int32} (h : K3 M x1 x2 x3 x4 = some (r', M')) {H : Heap} {locs : List Loc} {ls : Array Slot} (hS : va_S (A0 b) s.heap H locs) (hW : Wd Z b M H) (hl : lv_has ls 6 [(0, .ref (b + 123)), (1, .int x1), (2, .int x2), (3, .int x3), (4, .int x4)]), W p l e rm_X1_bar s m args below meth c H locs 0 0 (MQ below (Qn Z b (some (.int r')) M') args s 0 0 (A0 b)) (F0 m 3 ls [])) {M : Mem} {x1 : Int32} {x2 : Int32} {x3 : Int32} {x4 : Int32} {z5 : Option Nat} (hz5 : ∀ k, z5 = some k → k < 30) (h : f_X1_bar_37 K3 M x1 x2 x3 x4 z5 = some (r', M')) {H : Heap} {locs : List Loc} {ls : Array Slot} (hS : va_S (A0 b) s.heap H locs) (hW : Wd Z b M H) (hl : lv_has ls 6 [(0, .ref (b + 123)), (1, .int x1), (2, .int x2), (3, .int x3), (4, .int x4), (5, rL b z5)]) : W p l e rm_X1_bar s m args below meth c H locs 0 0 (MQ below (Qn Z b (some (.int r')) M') args s 0 0 (A0 b)) (F0 m 37 ls []) := by
  unfold f_X1_bar_37 at h
  have hx := C.1
  have hb := C.2.1
  rcases z5 with _ | k5
  · have h := oe_n h
    have hl : lv_has ls 6 [(0, .ref (b + 123)), (1, .int x1), (2, .int x2), (3, .int x3), (4, .int x4), (5, .null)] := hl
    refine lv_aloadN hx hb dX1_bar_37 (lv_at hl 5 rfl) ?_
    refine lv_iload_n hx hb dX1_bar_39 rfl (lv_at hl 1 rfl) ?_
    cases h
  · have h := oe_s h
    have hk5 : k5 < 30 := hz5 _ rfl
    have hl : lv_has ls 6 [(0, .ref (b + 123)), (1, .int x1), (2, .int x2), (3, .int x3), (4, .int x4), (5, .ref (b + (125 + k5)))] := hl
    refine lv_aload hx hb dX1_bar_37 (lv_at hl 5 rfl) ?_
    refine lv_iload_n hx hb dX1_bar_39 rfl (lv_at hl 1 rfl) ?_
    obtain ⟨r40, M40, hc40, h⟩ := bd2_e h
    refine kX1_32 hk5 C hml hl.1 (c_X0_covers hk5 hc40) ⟨Nat.le_of_ble_eq_true rfl, Nat.le_of_ble_eq_true rfl⟩ ⟨Nat.le_of_ble_eq_true rfl, Nat.le_of_ble_eq_true rfl⟩ (Nat.le_of_ble_eq_true rfl) hS hW dX1_bar_40 (fun H locs hW hS => ?_)
    refine lv_if_ne (tgt := 62) hx hb dX1_bar_43 (by decide) (fun c43 => ?_) (fun c43 => ?_)
    · have h := (if_neg c43).symm.trans h
      refine lv_iconst (v := (1 : Int32)) hx hb dX1_bar_62 (by decide) ?_
      cases h
      exact ret_z C hr hlk (by decide) hS hW dX1_bar_63
    · have h := (if_pos c43).symm.trans h
      refine lv_iload_n hx hb dX1_bar_46 rfl (lv_at hl 3 rfl) ?_
      refine lv_if_eq (tgt := 64) hx hb dX1_bar_47 (by decide) (fun c47 => ?_) (fun c47 => ?_)
      · have h := (if_pos c47).symm.trans h
        exact w_X1_bar_64 C hml hr hlk hK3 h hS hW (lv_sub hl [0, 1, 2, 3, 4] rfl)
      · have h := (if_neg c47).symm.trans h
        refine lv_iload_n hx hb dX1_bar_50 rfl (lv_at hl 1 rfl) ?_
        refine lv_aload hx hb dX1_bar_51 (lv_at hl 5 rfl) ?_
        refine gX1_47 hk5 C hW dX1_bar_53 ?_
        obtain ⟨r56, M56, hc56, h⟩ := bd2_e h
        refine kX1_50 C hml hl.1 (c_X4_isAbove hc56) ⟨Nat.le_of_ble_eq_true rfl, Nat.le_of_ble_eq_true rfl⟩ ⟨Nat.le_of_ble_eq_true rfl, Nat.le_of_ble_eq_true rfl⟩ (Nat.le_of_ble_eq_true rfl) hS hW dX1_bar_56 (fun H locs hW hS => ?_)
        refine lv_if_eq (tgt := 64) hx hb dX1_bar_59 (by decide) (fun c59 => ?_) (fun c59 => ?_)
        · have h := (if_pos c59).symm.trans h
          exact w_X1_bar_64 C hml hr hlk hK3 h hS hW (lv_sub hl [0, 1, 2, 3, 4] rfl)
        · have h := (if_neg c59).symm.trans h
          refine lv_iconst (v := (1 : Int32)) hx hb dX1_bar_62 (by decide) ?_
          cases h
          exact ret_z C hr hlk (by decide) hS hW dX1_bar_63
def f_X1_bar_3B (K3 : Mem → Int32 → Int32 → Int32 → Int32 → Option (Int32 × Mem)) (M : Mem) (x1 : Int32) (x2 : Int32) (x3 : Int32) (x4 : Int32) : Option (Int32 × Mem) :=
  if (M 10 0) ≤ x4 then some ((0 : Int32), M) else bd2 (f_X1_find M x4) (fun q15 M15 => oe q15 (f_X1_bar_64 K3 M15 x1 x2 x3 x4) (fun k15 => if 30 ≤ k15 then none else if x2 = 0 then f_X1_bar_37 K3 M15 x1 x2 x3 x4 (some k15) else if (M15 14 k15) = 0 then f_X1_bar_37 K3 M15 x1 x2 x3 x4 (some k15) else f_X1_bar_64 K3 M15 x1 x2 x3 x4))
def f_X1_bar_3 : Nat → Mem → Int32 → Int32 → Int32 → Int32 → Option (Int32 × Mem)
  | 0 => fun _ _ _ _ _ => none
  | n + 1 => f_X1_bar_3B (f_X1_bar_3 n)
set_option maxHeartbeats 4000000 in
set_option maxRecDepth 100000 in
theorem w_X1_bar_3 {p : Program} {l : Launch} {e : Env} {s : State} {m : MethodId} {args : Array Value} {below : List Frame} {meth : Method} {c : Code} {Z : Zt} {b : Nat} (C : Cx p s m args c cX1_bar RX1 Z b) (hml : c.maxLocals = 6) (hr : meth.sig.returnType = (some .boolean)) (hlk : meth.locks = false) {r' : Int32} {M' : Mem} : ∀ (n : Nat) {M : Mem} {x1 : Int32} {x2 : Int32} {x3 : Int32} {x4 : Int32} (h : f_X1_bar_3 n M x1 x2 x3 x4 = some (r', M')) {H : Heap} {locs : List Loc} {ls : Array Slot} (hS : va_S (A0 b) s.heap H locs) (hW : Wd Z b M H) (hl : lv_has ls 6 [(0, .ref (b + 123)), (1, .int x1), (2, .int x2), (3, .int x3), (4, .int x4)]), W p l e rm_X1_bar s m args below meth c H locs 0 0 (MQ below (Qn Z b (some (.int r')) M') args s 0 0 (A0 b)) (F0 m 3 ls []) := by
  intro n
  induction n with
  | zero =>
    intro M x1 x2 x3 x4 h
    cases h
  | succ n ih =>
    intro M x1 x2 x3 x4 h H locs ls hS hW hl
    have h : f_X1_bar_3B (f_X1_bar_3 n) M x1 x2 x3 x4 = some (r', M') := h
    unfold f_X1_bar_3B at h
    have hK3 := @ih
    have hx := C.1
    have hb := C.2.1
    refine lv_iload hx hb dX1_bar_3 (lv_at hl 4 rfl) ?_
    refine lv_aload_n hx hb dX1_bar_5 rfl (lv_at hl 0 rfl) ?_
    refine gX1_18 C hW dX1_bar_6 ?_
    refine lv_icmp_ge (tgt := 70) hx hb dX1_bar_9 (by decide) (fun c9 => ?_) (fun c9 => ?_)
    · have h := (if_pos c9).symm.trans h
      refine lv_iconst (v := (0 : Int32)) hx hb dX1_bar_70 (by decide) ?_
      cases h
      exact ret_z C hr hlk (by decide) hS hW dX1_bar_71
    · have h := (if_neg c9).symm.trans h
      refine lv_aload_n hx hb dX1_bar_12 rfl (lv_at hl 0 rfl) ?_
      refine lv_iload hx hb dX1_bar_13 (lv_at hl 4 rfl) ?_
      obtain ⟨q15, M15, hc15, h⟩ := bd2_e h
      refine kX1_28 C hml hl.1 (c_X1_find hc15) ⟨Nat.le_of_ble_eq_true rfl, Nat.le_of_ble_eq_true rfl⟩ ⟨Nat.le_of_ble_eq_true rfl, Nat.le_of_ble_eq_true rfl⟩ (Nat.le_of_ble_eq_true rfl) hS hW dX1_bar_15 (fun H locs hW hS => ?_)
      rcases q15 with _ | k15
      · have h := oe_n h
        refine W.eq (g2 := F0 m 18 ls [.null]) rfl ?_
        refine lv_astoreN (lv' := [(5, .null), (0, .ref (b + 123)), (1, .int x1), (2, .int x2), (3, .int x3), (4, .int x4)]) hx hb dX1_bar_18 hl (by decide) rfl (fun ls hl => ?_)
        refine lv_aloadN hx hb dX1_bar_20 (lv_at hl 0 rfl) ?_
        refine lv_ifnullN (tgt := 64) hx hb dX1_bar_22 (by decide) ?_
        exact w_X1_bar_64 C hml hr hlk hK3 h hS hW (lv_sub hl [1, 2, 3, 4, 5] rfl)
      · obtain ⟨g15, h⟩ := gd (oe_s h)
        have hk15 := Nat.lt_of_not_le g15
        refine W.eq (g2 := F0 m 18 ls [.ref (b + (125 + k15))]) rfl ?_
        refine lv_astore (lv' := [(5, .ref (b + (125 + k15))), (0, .ref (b + 123)), (1, .int x1), (2, .int x2), (3, .int x3), (4, .int x4)]) hx hb dX1_bar_18 hl (by decide) rfl (fun ls hl => ?_)
        refine lv_aload hx hb dX1_bar_20 (lv_at hl 0 rfl) ?_
        refine lv_ifnull hx hb dX1_bar_22 ?_
        refine lv_iload_n hx hb dX1_bar_25 rfl (lv_at hl 3 rfl) ?_
        refine lv_if_eq (tgt := 37) hx hb dX1_bar_26 (by decide) (fun c26 => ?_) (fun c26 => ?_)
        · have h := (if_pos c26).symm.trans h
          exact w_X1_bar_37 C hml hr hlk hK3 (fun _ h => by cases h; exact hk15) h hS hW (lv_sub hl [1, 2, 3, 4, 5, 0] rfl)
        · have h := (if_neg c26).symm.trans h
          refine lv_aload hx hb dX1_bar_29 (lv_at hl 0 rfl) ?_
          refine gX1_43 hk15 C hW dX1_bar_31 ?_
          refine lv_if_ne (tgt := 64) hx hb dX1_bar_34 (by decide) (fun c34 => ?_) (fun c34 => ?_)
          · have h := (if_neg c34).symm.trans h
            exact w_X1_bar_64 C hml hr hlk hK3 h hS hW (lv_sub hl [1, 2, 3, 4, 5] rfl)
          · have h := (if_pos c34).symm.trans h
            exact w_X1_bar_37 C hml hr hlk hK3 (fun _ h => by cases h; exact hk15) h hS hW (lv_sub hl [1, 2, 3, 4, 5, 0] rfl)
def f_X1_bar_0 (M : Mem) (x1 : Int32) (x2 : Int32) (x3 : Int32) : Option (Int32 × Mem) :=
  f_X1_bar_3 64 M x1 x2 x3 (0 : Int32)
set_option maxHeartbeats 4000000 in
set_option maxRecDepth 100000 in
theorem w_X1_bar_0 {p : Program} {l : Launch} {e : Env} {s : State} {m : MethodId} {args : Array Value} {below : List Frame} {meth : Method} {c : Code} {Z : Zt} {b : Nat} (C : Cx p s m args c cX1_bar RX1 Z b) (hml : c.maxLocals = 6) (hr : meth.sig.returnType = (some .boolean)) (hlk : meth.locks = false) {r' : Int32} {M' : Mem} {M : Mem} {x1 : Int32} {x2 : Int32} {x3 : Int32} (h : f_X1_bar_0 M x1 x2 x3 = some (r', M')) {H : Heap} {locs : List Loc} {ls : Array Slot} (hS : va_S (A0 b) s.heap H locs) (hW : Wd Z b M H) (hl : lv_has ls 6 [(0, .ref (b + 123)), (1, .int x1), (2, .int x2), (3, .int x3)]) : W p l e rm_X1_bar s m args below meth c H locs 0 0 (MQ below (Qn Z b (some (.int r')) M') args s 0 0 (A0 b)) (F0 m 0 ls []) := by
  unfold f_X1_bar_0 at h
  have hx := C.1
  have hb := C.2.1
  refine lv_iconst (v := (0 : Int32)) hx hb dX1_bar_0 (by decide) ?_
  refine lv_istore (lv' := [(4, .int (0 : Int32)), (0, .ref (b + 123)), (1, .int x1), (2, .int x2), (3, .int x3)]) hx hb dX1_bar_1 hl (by decide) rfl (fun ls hl => ?_)
  exact w_X1_bar_3 C hml hr hlk 64 h hS hW (lv_sub hl [1, 2, 3, 4, 0] rfl)
def f_X1_bar (M : Mem) (x1 : Int32) (x2 : Int32) (x3 : Int32) : Option (Int32 × Mem) := f_X1_bar_0 M x1 x2 x3
set_option maxHeartbeats 4000000 in
set_option maxRecDepth 100000 in
theorem c_X1_bar {l : Launch} {Z : Zt} {b : Nat} {M : Mem} {x1 : Int32} {x2 : Int32} {x3 : Int32} {r' : Int32} {M' : Mem} (h : f_X1_bar M x1 x2 x3 = some (r', M')) : Ct l yX1_bar cX1_bar 6 (some .boolean) rm_X1_bar Z b [.ref (b + 123), .int x1, .int x2, .int x3] M (some (.int r')) M' := by
  refine Met.ofW (cc := cX1_bar) (maxL := 6) (ret := (some .boolean)) (by decide) rfl ?_
  intro p e s m args below meth c s₁ B hml hv
  obtain ⟨rfl, hE, hW⟩ := hv
  have C : Cx p s m [.ref (b + 123), .int x1, .int x2, .int x3].toArray c cX1_bar RX1 Z b := ⟨B.exec, B.bytes, findClass_of_methodNamed B.named, fun w hw => atoms_spec (ws := Cond.code yX1_bar cX1_bar 6 (some .boolean) :: wsA) B.pre w (List.mem_cons_of_mem _ hw), hE⟩
  have hl := lv_entry [.ref (b + 123), .int x1, .int x2, .int x3] (n := 6) (Nat.le_of_ble_eq_true rfl)
  rw [lg_entry_eq]
  generalize (lg_sl [.ref (b + 123), .int x1, .int x2, .int x3] ++ List.replicate (6 - (lg_sl [.ref (b + 123), .int x1, .int x2, .int x3]).length) Slot.unset).toArray = ls at hl ⊢
  have hl : lv_has ls 6 [(0, .ref (b + 123)), (1, .int x1), (2, .int x2), (3, .int x3)] := hl
  exact w_X1_bar_0 C hml B.returns B.notSynchronized h va_S.rf hW hl
def f_X1_add_0 (M : Mem) (x1 : Int32) (x2 : Int32) (x3 : Int32) (x4 : Int32) (x5 : Int32) : Option (Int32 × Mem) :=
  if (M 10 0) < (30 : Int32) then (if (M 10 0) < 0 ∨ 30 ≤ (M 10 0).toNatClampNeg then none else if x3 &&& 1 = x3 then if x4 &&& 1 = x4 then some (((mu (mu (mu (mu (mu (mu M 12 ((M 10 0).toNatClampNeg) x1) 13 ((M 10 0).toNatClampNeg) x2) 14 ((M 10 0).toNatClampNeg) x3) 15 ((M 10 0).toNatClampNeg) x4) 16 ((M 10 0).toNatClampNeg) (((mu (mu (mu (mu M 12 ((M 10 0).toNatClampNeg) x1) 13 ((M 10 0).toNatClampNeg) x2) 14 ((M 10 0).toNatClampNeg) x3) 15 ((M 10 0).toNatClampNeg) x4) 11 0) + x5)) 10 0 (((mu (mu (mu (mu (mu M 12 ((M 10 0).toNatClampNeg) x1) 13 ((M 10 0).toNatClampNeg) x2) 14 ((M 10 0).toNatClampNeg) x3) 15 ((M 10 0).toNatClampNeg) x4) 16 ((M 10 0).toNatClampNeg) (((mu (mu (mu (mu M 12 ((M 10 0).toNatClampNeg) x1) 13 ((M 10 0).toNatClampNeg) x2) 14 ((M 10 0).toNatClampNeg) x3) 15 ((M 10 0).toNatClampNeg) x4) 11 0) + x5)) 10 0) + (1 : Int32))) 10 0) - (1 : Int32), mu (mu (mu (mu (mu (mu M 12 ((M 10 0).toNatClampNeg) x1) 13 ((M 10 0).toNatClampNeg) x2) 14 ((M 10 0).toNatClampNeg) x3) 15 ((M 10 0).toNatClampNeg) x4) 16 ((M 10 0).toNatClampNeg) (((mu (mu (mu (mu M 12 ((M 10 0).toNatClampNeg) x1) 13 ((M 10 0).toNatClampNeg) x2) 14 ((M 10 0).toNatClampNeg) x3) 15 ((M 10 0).toNatClampNeg) x4) 11 0) + x5)) 10 0 (((mu (mu (mu (mu (mu M 12 ((M 10 0).toNatClampNeg) x1) 13 ((M 10 0).toNatClampNeg) x2) 14 ((M 10 0).toNatClampNeg) x3) 15 ((M 10 0).toNatClampNeg) x4) 16 ((M 10 0).toNatClampNeg) (((mu (mu (mu (mu M 12 ((M 10 0).toNatClampNeg) x1) 13 ((M 10 0).toNatClampNeg) x2) 14 ((M 10 0).toNatClampNeg) x3) 15 ((M 10 0).toNatClampNeg) x4) 11 0) + x5)) 10 0) + (1 : Int32))) else none else none) else some ((-1 : Int32), M)
set_option maxHeartbeats 4000000 in
set_option maxRecDepth 100000 in
theorem w_X1_add_0 {p : Program} {l : Launch} {e : Env} {s : State} {m : MethodId} {args : Array Value} {below : List Frame} {meth : Method} {c : Code} {Z : Zt} {b : Nat} (C : Cx p s m args c cX1_add RX1 Z b) (hml : c.maxLocals = 7) (hr : meth.sig.returnType = (some .int)) (hlk : meth.locks = false) {r' : Int32} {M' : Mem} {M : Mem} {x1 : Int32} {x2 : Int32} {x3 : Int32} {x4 : Int32} {x5 : Int32} (h : f_X1_add_0 M x1 x2 x3 x4 x5 = some (r', M')) {H : Heap} {locs : List Loc} {ls : Array Slot} (hS : va_S (A0 b) s.heap H locs) (hW : Wd Z b M H) (hl : lv_has ls 7 [(0, .ref (b + 123)), (1, .int x1), (2, .int x2), (3, .int x3), (4, .int x4), (5, .int x5)]) : W p l e rm_X1_add s m args below meth c H locs 0 0 (MQ below (Qn Z b (some (.int r')) M') args s 0 0 (A0 b)) (F0 m 0 ls []) := by
  unfold f_X1_add_0 at h
  have hx := C.1
  have hb := C.2.1
  refine lv_aload_n hx hb dX1_add_0 rfl (lv_at hl 0 rfl) ?_
  refine gX1_18 C hW dX1_add_1 ?_
  refine lv_aload_n hx hb dX1_add_4 rfl (lv_at hl 0 rfl) ?_
  refine gX1_11 C hW dX1_add_5 ?_
  refine alen_124 C hW dX1_add_8 ?_
  refine lv_icmp_lt (tgt := 14) hx hb dX1_add_9 (by decide) (fun c9 => ?_) (fun c9 => ?_)
  · have h := (if_pos c9).symm.trans h
    refine lv_aload_n hx hb dX1_add_14 rfl (lv_at hl 0 rfl) ?_
    refine gX1_11 C hW dX1_add_15 ?_
    refine lv_aload_n hx hb dX1_add_18 rfl (lv_at hl 0 rfl) ?_
    refine gX1_18 C hW dX1_add_19 ?_
    obtain ⟨g22, h⟩ := gd h
    have hr22 : (M 10 0).toNatClampNeg < 30 := Nat.lt_of_not_le fun q => g22 (Or.inr q)
    refine ald_lrow C hW g22 dX1_add_22 ?_
    refine lv_astore (lv' := [(6, .ref (b + (125 + ((M 10 0).toNatClampNeg)))), (0, .ref (b + 123)), (1, .int x1), (2, .int x2), (3, .int x3), (4, .int x4), (5, .int x5)]) hx hb dX1_add_23 hl (by decide) rfl (fun ls hl => ?_)
    refine lv_aload hx hb dX1_add_25 (lv_at hl 0 rfl) ?_
    refine lv_iload_n hx hb dX1_add_27 rfl (lv_at hl 2 rfl) ?_
    refine pX1_40 hr22 C hS hW dX1_add_28 (fun H locs hW hS => ?_)
    refine lv_aload hx hb dX1_add_31 (lv_at hl 0 rfl) ?_
    refine lv_iload_n hx hb dX1_add_33 rfl (lv_at hl 3 rfl) ?_
    refine pX1_47 hr22 C hS hW dX1_add_34 (fun H locs hW hS => ?_)
    refine lv_aload hx hb dX1_add_37 (lv_at hl 0 rfl) ?_
    refine lv_iload_n hx hb dX1_add_39 rfl (lv_at hl 4 rfl) ?_
    obtain ⟨g40, h⟩ := gdp h
    refine pX1_43 hr22 g40 C hS hW dX1_add_40 (fun H locs hW hS => ?_)
    refine lv_aload hx hb dX1_add_43 (lv_at hl 0 rfl) ?_
    refine lv_iload hx hb dX1_add_45 (lv_at hl 5 rfl) ?_
    obtain ⟨g47, h⟩ := gdp h
    refine pX1_54 hr22 g47 C hS hW dX1_add_47 (fun H locs hW hS => ?_)
    refine lv_aload hx hb dX1_add_50 (lv_at hl 0 rfl) ?_
    refine lv_aload_n hx hb dX1_add_52 rfl (lv_at hl 1 rfl) ?_
    refine gX1_22 C hW dX1_add_53 ?_
    refine lv_iload hx hb dX1_add_56 (lv_at hl 6 rfl) ?_
    refine lv_iadd hx hb dX1_add_58 ?_
    refine pX1_25 hr22 C hS hW dX1_add_59 (fun H locs hW hS => ?_)
    refine lv_aload_n hx hb dX1_add_62 rfl (lv_at hl 1 rfl) ?_
    refine lv_dup hx hb dX1_add_63 rfl ?_
    refine gX1_18 C hW dX1_add_64 ?_
    refine lv_iconst (v := (1 : Int32)) hx hb dX1_add_67 (by decide) ?_
    refine lv_iadd hx hb dX1_add_68 ?_
    refine pX1_18 C hS hW dX1_add_69 (fun H locs hW hS => ?_)
    refine lv_aload_n hx hb dX1_add_72 rfl (lv_at hl 1 rfl) ?_
    refine gX1_18 C hW dX1_add_73 ?_
    refine lv_iconst (v := (1 : Int32)) hx hb dX1_add_76 (by decide) ?_
    refine lv_isub hx hb dX1_add_77 ?_
    cases h
    exact ret_i C hr hlk hS hW dX1_add_78
  · have h := (if_neg c9).symm.trans h
    refine lv_iconst (v := (-1 : Int32)) hx hb dX1_add_12 (by decide) ?_
    cases h
    exact ret_i C hr hlk hS hW dX1_add_13
def f_X1_add (M : Mem) (x1 : Int32) (x2 : Int32) (x3 : Int32) (x4 : Int32) (x5 : Int32) : Option (Int32 × Mem) := f_X1_add_0 M x1 x2 x3 x4 x5
set_option maxHeartbeats 4000000 in
set_option maxRecDepth 100000 in
theorem c_X1_add {l : Launch} {Z : Zt} {b : Nat} {M : Mem} {x1 : Int32} {x2 : Int32} {x3 : Int32} {x4 : Int32} {x5 : Int32} {r' : Int32} {M' : Mem} (h : f_X1_add M x1 x2 x3 x4 x5 = some (r', M')) : Ct l yX1_add cX1_add 7 (some .int) rm_X1_add Z b [.ref (b + 123), .int x1, .int x2, .int x3, .int x4, .int x5] M (some (.int r')) M' := by
  refine Met.ofW (cc := cX1_add) (maxL := 7) (ret := (some .int)) (by decide) rfl ?_
  intro p e s m args below meth c s₁ B hml hv
  obtain ⟨rfl, hE, hW⟩ := hv
  have C : Cx p s m [.ref (b + 123), .int x1, .int x2, .int x3, .int x4, .int x5].toArray c cX1_add RX1 Z b := ⟨B.exec, B.bytes, findClass_of_methodNamed B.named, fun w hw => atoms_spec (ws := Cond.code yX1_add cX1_add 7 (some .int) :: wsA) B.pre w (List.mem_cons_of_mem _ hw), hE⟩
  have hl := lv_entry [.ref (b + 123), .int x1, .int x2, .int x3, .int x4, .int x5] (n := 7) (Nat.le_of_ble_eq_true rfl)
  rw [lg_entry_eq]
  generalize (lg_sl [.ref (b + 123), .int x1, .int x2, .int x3, .int x4, .int x5] ++ List.replicate (7 - (lg_sl [.ref (b + 123), .int x1, .int x2, .int x3, .int x4, .int x5]).length) Slot.unset).toArray = ls at hl ⊢
  have hl : lv_has ls 7 [(0, .ref (b + 123)), (1, .int x1), (2, .int x2), (3, .int x3), (4, .int x4), (5, .int x5)] := hl
  exact w_X1_add_0 C hml B.returns B.notSynchronized h va_S.rf hW hl
def f_X4_lock_108 (M : Mem) (x1 : Int32) (x2 : Int32) (x3 : Int32) (x4 : Int32) (x5 : Int32) : Option ((String ⊕ Int32) × Mem) :=
  bd2 (f_X1_add M x1 x2 x3 x4 x5) (fun r119 M119 => some (.inr r119, M119))
set_option maxHeartbeats 4000000 in
set_option maxRecDepth 100000 in
theorem w_X4_lock_108 {p : Program} {l : Launch} {e : Env} {s : State} {m : MethodId} {args : Array Value} {below : List Frame} {meth : Method} {c : Code} {Z : Zt} {b : Nat} (C : Cx p s m args c cX4_lock RX4 Z b) (hml : c.maxLocals = 7) (hr : meth.sig.returnType = (some .int)) (hlk : meth.locks = false) (hlf : l.stackTraces = false) (ht : ∀ x ∈ c.exceptionTable.toList, False) {res : ((String ⊕ Int32) × Mem)} {M : Mem} {x1 : Int32} {x2 : Int32} {x3 : Int32} {x4 : Int32} {x5 : Int32} (h : f_X4_lock_108 M x1 x2 x3 x4 x5 = some res) {H : Heap} {locs : List Loc} {ls : Array Slot} (hS : va_S (A0 b) s.heap H locs) (hW : Wd Z b M H) (hl : lv_has ls 7 [(0, .ref (b + 0)), (1, .int x1), (2, .int x2), (3, .int x3), (4, .int x4), (5, .int x5)]) : W p l e rm_X4_lock s m args below meth c H locs 4 24 (vx_MQ below (Qx Z b (voI res.1) res.2) (XCx Z b (voI res.1) res.2) args s 5 30 (A0 b)) (F0 m 108 ls []) := by
  unfold f_X4_lock_108 at h
  have hx := C.1
  have hb := C.2.1
  refine lv_aload_n hx hb dX4_lock_108 rfl (lv_at hl 0 rfl) ?_
  refine gX4_19 C hW dX4_lock_109 ?_
  refine lv_iload_n hx hb dX4_lock_112 rfl (lv_at hl 1 rfl) ?_
  refine lv_iload_n hx hb dX4_lock_113 rfl (lv_at hl 2 rfl) ?_
  refine lv_iload_n hx hb dX4_lock_114 rfl (lv_at hl 3 rfl) ?_
  refine lv_iload hx hb dX4_lock_115 (lv_at hl 4 rfl) ?_
  refine lv_iload hx hb dX4_lock_117 (lv_at hl 5 rfl) ?_
  obtain ⟨r119, M119, hc119, h⟩ := bd2_e h
  refine kX4_166 C hml hl.1 (c_X1_add hc119) ⟨Nat.le_of_ble_eq_true rfl, Nat.le_of_ble_eq_true rfl⟩ ⟨Nat.le_of_ble_eq_true rfl, Nat.le_of_ble_eq_true rfl⟩ (Nat.le_of_ble_eq_true rfl) hS hW dX4_lock_119 (fun H locs hW hS => ?_)
  cases h
  exact ret_xi C hr hlk hS hW dX4_lock_122 (Nat.le_of_ble_eq_true rfl) (Nat.le_of_ble_eq_true rfl)
def f_X4_lock_0 (M : Mem) (x1 : Int32) (x2 : Int32) (x3 : Int32) (x4 : Int32) (x5 : Int32) (x6 : Int32) : Option ((String ⊕ Int32) × Mem) :=
  bdx (f_X4_requireClient M x1) (fun r1 M1 => bdx (f_X4_requirePath M1 x2) (fun r5 M5 => bdx (f_X4_requireRange M5 x5 (1 : Int32) (1000 : Int32)) (fun r14 M14 => bdx (f_X4_requireNotNegative M14 x6) (fun r19 M19 => if (M19 10 0) < (30 : Int32) then bd2 (f_X1_bar M19 x2 x3 x4) (fun r52 M52 => if r52 = 0 then bd2 (f_X3_kindAt M52 x2) (fun r73 M73 => if r73 = (-1 : Int32) then bd2 (f_X4_outcomeOfWriting M73 x1 x2 (-1 : Int32) x6) (fun r86 M86 => if r86 = 0 then bd1 (f_X4_write M86 x2 (0 : Int32)) (fun M105 => f_X4_lock_108 M105 x1 x2 x3 x4 x5) else some (.inl "java/lang/IllegalStateException", M86)) else f_X4_lock_108 M73 x1 x2 x3 x4 x5) else some (.inl "java/lang/IllegalStateException", M52)) else some (.inl "java/lang/IllegalStateException", M19)))))
set_option maxHeartbeats 4000000 in
set_option maxRecDepth 100000 in
theorem w_X4_lock_0 {p : Program} {l : Launch} {e : Env} {s : State} {m : MethodId} {args : Array Value} {below : List Frame} {meth : Method} {c : Code} {Z : Zt} {b : Nat} (C : Cx p s m args c cX4_lock RX4 Z b) (hml : c.maxLocals = 7) (hr : meth.sig.returnType = (some .int)) (hlk : meth.locks = false) (hlf : l.stackTraces = false) (ht : ∀ x ∈ c.exceptionTable.toList, False) {res : ((String ⊕ Int32) × Mem)} {M : Mem} {x1 : Int32} {x2 : Int32} {x3 : Int32} {x4 : Int32} {x5 : Int32} {x6 : Int32} (h : f_X4_lock_0 M x1 x2 x3 x4 x5 x6 = some res) {H : Heap} {locs : List Loc} {ls : Array Slot} (hS : va_S (A0 b) s.heap H locs) (hW : Wd Z b M H) (hl : lv_has ls 7 [(0, .ref (b + 0)), (1, .int x1), (2, .int x2), (3, .int x3), (4, .int x4), (5, .int x5), (6, .int x6)]) : W p l e rm_X4_lock s m args below meth c H locs 0 0 (vx_MQ below (Qx Z b (voI res.1) res.2) (XCx Z b (voI res.1) res.2) args s 5 30 (A0 b)) (F0 m 0 ls []) := by
  unfold f_X4_lock_0 at h
  have hx := C.1
  have hb := C.2.1
  refine lv_iload_n hx hb dX4_lock_0 rfl (lv_at hl 1 rfl) ?_
  rcases bdx_e h with ⟨E1, M1, hc1, rfl⟩ | ⟨r1, M1, hc1, h⟩
  · exact kX4_31T C hml hl.1 (c_X4_requireClient hlf hc1) ⟨Nat.le_of_ble_eq_true rfl, Nat.le_of_ble_eq_true rfl⟩ ⟨Nat.le_of_ble_eq_true rfl, Nat.le_of_ble_eq_true rfl⟩ (Nat.le_of_ble_eq_true rfl) hS hW dX4_lock_1 ht hlk (Nat.le_of_ble_eq_true rfl) (Nat.le_of_ble_eq_true rfl)
  refine kX4_31R C hml hl.1 (c_X4_requireClient hlf hc1) ⟨Nat.le_of_ble_eq_true rfl, Nat.le_of_ble_eq_true rfl⟩ ⟨Nat.le_of_ble_eq_true rfl, Nat.le_of_ble_eq_true rfl⟩ (Nat.le_of_ble_eq_true rfl) hS hW dX4_lock_1 (fun H locs hW hS => ?_)
  refine lv_iload_n hx hb dX4_lock_4 rfl (lv_at hl 2 rfl) ?_
  rcases bdx_e h with ⟨E5, M5, hc5, rfl⟩ | ⟨r5, M5, hc5, h⟩
  · exact kX4_123T C hml hl.1 (c_X4_requirePath hlf hc5) ⟨Nat.le_of_ble_eq_true rfl, Nat.le_of_ble_eq_true rfl⟩ ⟨Nat.le_of_ble_eq_true rfl, Nat.le_of_ble_eq_true rfl⟩ (Nat.le_of_ble_eq_true rfl) hS hW dX4_lock_5 ht hlk (Nat.le_of_ble_eq_true rfl) (Nat.le_of_ble_eq_true rfl)
  refine kX4_123R C hml hl.1 (c_X4_requirePath hlf hc5) ⟨Nat.le_of_ble_eq_true rfl, Nat.le_of_ble_eq_true rfl⟩ ⟨Nat.le_of_ble_eq_true rfl, Nat.le_of_ble_eq_true rfl⟩ (Nat.le_of_ble_eq_true rfl) hS hW dX4_lock_5 (fun H locs hW hS => ?_)
  refine lv_iload hx hb dX4_lock_8 (lv_at hl 5 rfl) ?_
  refine lv_iconst (v := (1 : Int32)) hx hb dX4_lock_10 (by decide) ?_
  refine lv_sipush (v := (1000 : Int32)) hx hb dX4_lock_11 (by decide) ?_
  rcases bdx_e h with ⟨E14, M14, hc14, rfl⟩ | ⟨r14, M14, hc14, h⟩
  · exact kX4_64T C hml hl.1 (c_X4_requireRange hlf hc14) ⟨Nat.le_of_ble_eq_true rfl, Nat.le_of_ble_eq_true rfl⟩ ⟨Nat.le_of_ble_eq_true rfl, Nat.le_of_ble_eq_true rfl⟩ (Nat.le_of_ble_eq_true rfl) hS hW dX4_lock_14 ht hlk (Nat.le_of_ble_eq_true rfl) (Nat.le_of_ble_eq_true rfl)
  refine kX4_64R C hml hl.1 (c_X4_requireRange hlf hc14) ⟨Nat.le_of_ble_eq_true rfl, Nat.le_of_ble_eq_true rfl⟩ ⟨Nat.le_of_ble_eq_true rfl, Nat.le_of_ble_eq_true rfl⟩ (Nat.le_of_ble_eq_true rfl) hS hW dX4_lock_14 (fun H locs hW hS => ?_)
  refine lv_iload hx hb dX4_lock_17 (lv_at hl 6 rfl) ?_
  rcases bdx_e h with ⟨E19, M19, hc19, rfl⟩ | ⟨r19, M19, hc19, h⟩
  · exact kX4_38T C hml hl.1 (c_X4_requireNotNegative hlf hc19) ⟨Nat.le_of_ble_eq_true rfl, Nat.le_of_ble_eq_true rfl⟩ ⟨Nat.le_of_ble_eq_true rfl, Nat.le_of_ble_eq_true rfl⟩ (Nat.le_of_ble_eq_true rfl) hS hW dX4_lock_19 ht hlk (Nat.le_of_ble_eq_true rfl) (Nat.le_of_ble_eq_true rfl)
  refine kX4_38R C hml hl.1 (c_X4_requireNotNegative hlf hc19) ⟨Nat.le_of_ble_eq_true rfl, Nat.le_of_ble_eq_true rfl⟩ ⟨Nat.le_of_ble_eq_true rfl, Nat.le_of_ble_eq_true rfl⟩ (Nat.le_of_ble_eq_true rfl) hS hW dX4_lock_19 (fun H locs hW hS => ?_)
  refine lv_aload_n hx hb dX4_lock_22 rfl (lv_at hl 0 rfl) ?_
  refine gX4_19 C hW dX4_lock_23 ?_
  refine gX4_152 C hW dX4_lock_26 ?_
  refine lv_bipush (v := (30 : Int32)) hx hb dX4_lock_29 (by decide) ?_
  refine lv_icmp_lt (tgt := 44) hx hb dX4_lock_31 (by decide) (fun c31 => ?_) (fun c31 => ?_)
  · have h := (if_pos c31).symm.trans h
    refine lv_aload_n hx hb dX4_lock_44 rfl (lv_at hl 0 rfl) ?_
    refine gX4_19 C hW dX4_lock_45 ?_
    refine lv_iload_n hx hb dX4_lock_48 rfl (lv_at hl 2 rfl) ?_
    refine lv_iload_n hx hb dX4_lock_49 rfl (lv_at hl 3 rfl) ?_
    refine lv_iload hx hb dX4_lock_50 (lv_at hl 4 rfl) ?_
    obtain ⟨r52, M52, hc52, h⟩ := bd2_e h
    refine kX4_158 C hml hl.1 (c_X1_bar hc52) ⟨Nat.le_of_ble_eq_true rfl, Nat.le_of_ble_eq_true rfl⟩ ⟨Nat.le_of_ble_eq_true rfl, Nat.le_of_ble_eq_true rfl⟩ (Nat.le_of_ble_eq_true rfl) hS hW dX4_lock_52 (fun H locs hW hS => ?_)
    refine lv_if_eq (tgt := 68) hx hb dX4_lock_55 (by decide) (fun c55 => ?_) (fun c55 => ?_)
    · have h := (if_pos c55).symm.trans h
      refine lv_aload_n hx hb dX4_lock_68 rfl (lv_at hl 0 rfl) ?_
      refine gX4_10 C hW dX4_lock_69 ?_
      refine lv_iload_n hx hb dX4_lock_72 rfl (lv_at hl 2 rfl) ?_
      obtain ⟨r73, M73, hc73, h⟩ := bd2_e h
      refine kX4_126 C hml hl.1 (c_X3_kindAt hc73) ⟨Nat.le_of_ble_eq_true rfl, Nat.le_of_ble_eq_true rfl⟩ ⟨Nat.le_of_ble_eq_true rfl, Nat.le_of_ble_eq_true rfl⟩ (Nat.le_of_ble_eq_true rfl) hS hW dX4_lock_73 (fun H locs hW hS => ?_)
      refine lv_iconst (v := (-1 : Int32)) hx hb dX4_lock_76 (by decide) ?_
      refine lv_icmp_ne (tgt := 108) hx hb dX4_lock_77 (by decide) (fun c77 => ?_) (fun c77 => ?_)
      · have h := (if_neg c77).symm.trans h
        exact w_X4_lock_108 C hml hr hlk hlf ht h hS hW (lv_sub hl [0, 1, 2, 3, 4, 5] rfl)
      · have h := (if_pos c77).symm.trans h
        refine lv_aload_n hx hb dX4_lock_80 rfl (lv_at hl 0 rfl) ?_
        refine lv_iload_n hx hb dX4_lock_81 rfl (lv_at hl 1 rfl) ?_
        refine lv_iload_n hx hb dX4_lock_82 rfl (lv_at hl 2 rfl) ?_
        refine lv_iconst (v := (-1 : Int32)) hx hb dX4_lock_83 (by decide) ?_
        refine lv_iload hx hb dX4_lock_84 (lv_at hl 6 rfl) ?_
        obtain ⟨r86, M86, hc86, h⟩ := bd2_e h
        refine kX4_67 C hml hl.1 (c_X4_outcomeOfWriting hc86) ⟨Nat.le_of_ble_eq_true rfl, Nat.le_of_ble_eq_true rfl⟩ ⟨Nat.le_of_ble_eq_true rfl, Nat.le_of_ble_eq_true rfl⟩ (Nat.le_of_ble_eq_true rfl) hS hW dX4_lock_86 (fun H locs hW hS => ?_)
        refine lv_if_eq (tgt := 102) hx hb dX4_lock_89 (by decide) (fun c89 => ?_) (fun c89 => ?_)
        · have h := (if_pos c89).symm.trans h
          refine lv_aload_n hx hb dX4_lock_102 rfl (lv_at hl 0 rfl) ?_
          refine lv_iload_n hx hb dX4_lock_103 rfl (lv_at hl 2 rfl) ?_
          refine lv_iconst (v := (0 : Int32)) hx hb dX4_lock_104 (by decide) ?_
          obtain ⟨M105, hc105, h⟩ := bd1_e h
          refine kX4_71 C hml hl.1 (c_X4_write hc105) ⟨Nat.le_of_ble_eq_true rfl, Nat.le_of_ble_eq_true rfl⟩ ⟨Nat.le_of_ble_eq_true rfl, Nat.le_of_ble_eq_true rfl⟩ (Nat.le_of_ble_eq_true rfl) hS hW dX4_lock_105 (fun H locs hW hS => ?_)
          exact w_X4_lock_108 C hml hr hlk hlf ht h hS hW (lv_sub hl [0, 1, 2, 3, 4, 5] rfl)
        · have h := (if_neg c89).symm.trans h
          cases h
          exact thS (is := 164) (text := "no file can be made there") hlf C ht hlk (by decide +kernel) hS hW (hl.1.trans hml.symm) dX4_lock_92 dX4_lock_95 dX4_lock_96 dX4_lock_98 dX4_lock_101 ⟨Nat.le_of_ble_eq_true rfl, Nat.le_of_ble_eq_true rfl⟩ ⟨Nat.le_of_ble_eq_true rfl, Nat.le_of_ble_eq_true rfl⟩ (Nat.le_of_ble_eq_true rfl) (Nat.le_of_ble_eq_true rfl)
    · have h := (if_neg c55).symm.trans h
      cases h
      exact thS (is := 162) (text := "another lock is in the way") hlf C ht hlk (by decide +kernel) hS hW (hl.1.trans hml.symm) dX4_lock_58 dX4_lock_61 dX4_lock_62 dX4_lock_64 dX4_lock_67 ⟨Nat.le_of_ble_eq_true rfl, Nat.le_of_ble_eq_true rfl⟩ ⟨Nat.le_of_ble_eq_true rfl, Nat.le_of_ble_eq_true rfl⟩ (Nat.le_of_ble_eq_true rfl) (Nat.le_of_ble_eq_true rfl)
  · have h := (if_neg c31).symm.trans h
    cases h
    exact thS (is := 155) (text := "there have been too many locks") hlf C ht hlk (by decide +kernel) hS hW (hl.1.trans hml.symm) dX4_lock_34 dX4_lock_37 dX4_lock_38 dX4_lock_40 dX4_lock_43 ⟨Nat.le_of_ble_eq_true rfl, Nat.le_of_ble_eq_true rfl⟩ ⟨Nat.le_of_ble_eq_true rfl, Nat.le_of_ble_eq_true rfl⟩ (Nat.le_of_ble_eq_true rfl) (Nat.le_of_ble_eq_true rfl)
def f_X4_lock (M : Mem) (x1 : Int32) (x2 : Int32) (x3 : Int32) (x4 : Int32) (x5 : Int32) (x6 : Int32) : Option ((String ⊕ Int32) × Mem) := f_X4_lock_0 M x1 x2 x3 x4 x5 x6
set_option maxHeartbeats 4000000 in
set_option maxRecDepth 100000 in
theorem c_X4_lock {l : Launch} {Z : Zt} {b : Nat} (hlf : l.stackTraces = false) {M : Mem} {x1 : Int32} {x2 : Int32} {x3 : Int32} {x4 : Int32} {x5 : Int32} {x6 : Int32} {res : ((String ⊕ Int32) × Mem)} (h : f_X4_lock M x1 x2 x3 x4 x5 x6 = some res) : Cx' l yX4_lock cX4_lock 7 (some .int) rm_X4_lock 5 30 Z b [.ref (b + 0), .int x1, .int x2, .int x3, .int x4, .int x5, .int x6] M (voI res.1) res.2 := by
  refine vx_ofW (cc := cX4_lock) (maxL := 7) (ret := (some .int)) (by decide) rfl ?_
  intro p e s m args below meth c s₁ B hml ht hv
  obtain ⟨rfl, hE, hW⟩ := hv
  have C : Cx p s m [.ref (b + 0), .int x1, .int x2, .int x3, .int x4, .int x5, .int x6].toArray c cX4_lock RX4 Z b := ⟨B.exec, B.bytes, findClass_of_methodNamed B.named, fun w hw => atoms_spec (ws := Cond.code yX4_lock cX4_lock 7 (some .int) :: wsA) B.pre w (List.mem_cons_of_mem _ hw), hE⟩
  have hl := lv_entry [.ref (b + 0), .int x1, .int x2, .int x3, .int x4, .int x5, .int x6] (n := 7) (Nat.le_of_ble_eq_true rfl)
  rw [lg_entry_eq]
  generalize (lg_sl [.ref (b + 0), .int x1, .int x2, .int x3, .int x4, .int x5, .int x6] ++ List.replicate (7 - (lg_sl [.ref (b + 0), .int x1, .int x2, .int x3, .int x4, .int x5, .int x6]).length) Slot.unset).toArray = ls at hl ⊢
  have hl : lv_has ls 7 [(0, .ref (b + 0)), (1, .int x1), (2, .int x2), (3, .int x3), (4, .int x4), (5, .int x5), (6, .int x6)] := hl
  exact w_X4_lock_0 C hml B.returns B.notSynchronized hlf ht h va_S.rf hW hl
def f_X4_refresh_0 (M : Mem) (x1 : Int32) (x2 : Int32) (x3 : Int32) : Option ((String ⊕ Int32) × Mem) :=
  bd2 (f_X1_find M x2) (fun q5 M5 => oe q5 (some (.inl "java/lang/IndexOutOfBoundsException", M5)) (fun k5 => if 30 ≤ k5 then none else bdx (f_X4_requireClient M5 x1) (fun r26 M26 => bdx (f_X4_requireRange M26 x3 (0 : Int32) (1000 : Int32)) (fun r34 M34 => if (M34 12 k5) = x1 then some (.inr ((M34 16 k5) - (M34 11 0)), mu M34 16 k5 ((M34 11 0) + x3)) else some (.inl "java/lang/IllegalStateException", M34)))))
set_option maxHeartbeats 4000000 in
set_option maxRecDepth 100000 in
theorem w_X4_refresh_0 {p : Program} {l : Launch} {e : Env} {s : State} {m : MethodId} {args : Array Value} {below : List Frame} {meth : Method} {c : Code} {Z : Zt} {b : Nat} (C : Cx p s m args c cX4_refresh RX4 Z b) (hml : c.maxLocals = 6) (hr : meth.sig.returnType = (some .int)) (hlk : meth.locks = false) (hlf : l.stackTraces = false) (ht : ∀ x ∈ c.exceptionTable.toList, False) {res : ((String ⊕ Int32) × Mem)} {M : Mem} {x1 : Int32} {x2 : Int32} {x3 : Int32} (h : f_X4_refresh_0 M x1 x2 x3 = some res) {H : Heap} {locs : List Loc} {ls : Array Slot} (hS : va_S (A0 b) s.heap H locs) (hW : Wd Z b M H) (hl : lv_has ls 6 [(0, .ref (b + 0)), (1, .int x1), (2, .int x2), (3, .int x3)]) : W p l e rm_X4_refresh s m args below meth c H locs 0 0 (vx_MQ below (Qx Z b (voI res.1) res.2) (XCx Z b (voI res.1) res.2) args s 3 18 (A0 b)) (F0 m 0 ls []) := by
  unfold f_X4_refresh_0 at h
  have hx := C.1
  have hb := C.2.1
  refine lv_aload_n hx hb dX4_refresh_0 rfl (lv_at hl 0 rfl) ?_
  refine gX4_19 C hW dX4_refresh_1 ?_
  refine lv_iload_n hx hb dX4_refresh_4 rfl (lv_at hl 2 rfl) ?_
  obtain ⟨q5, M5, hc5, h⟩ := bd2_e h
  refine kX4_170 C hml hl.1 (c_X1_find hc5) ⟨Nat.le_of_ble_eq_true rfl, Nat.le_of_ble_eq_true rfl⟩ ⟨Nat.le_of_ble_eq_true rfl, Nat.le_of_ble_eq_true rfl⟩ (Nat.le_of_ble_eq_true rfl) hS hW dX4_refresh_5 (fun H locs hW hS => ?_)
  rcases q5 with _ | k5
  · have h := oe_n h
    refine W.eq (g2 := F0 m 8 ls [.null]) rfl ?_
    refine lv_astoreN (lv' := [(4, .null), (0, .ref (b + 0)), (1, .int x1), (2, .int x2), (3, .int x3)]) hx hb dX4_refresh_8 hl (by decide) rfl (fun ls hl => ?_)
    refine lv_aloadN hx hb dX4_refresh_10 (lv_at hl 0 rfl) ?_
    refine lv_ifnonnullN hx hb dX4_refresh_12 ?_
    cases h
    exact thB (is := 173) (text := "no such lock") hlf C ht hlk (by decide +kernel) hS hW (hl.1.trans hml.symm) dX4_refresh_15 dX4_refresh_18 dX4_refresh_19 dX4_refresh_21 dX4_refresh_24 ⟨Nat.le_of_ble_eq_true rfl, Nat.le_of_ble_eq_true rfl⟩ ⟨Nat.le_of_ble_eq_true rfl, Nat.le_of_ble_eq_true rfl⟩ (Nat.le_of_ble_eq_true rfl) (Nat.le_of_ble_eq_true rfl)
  · obtain ⟨g5, h⟩ := gd (oe_s h)
    have hk5 := Nat.lt_of_not_le g5
    refine W.eq (g2 := F0 m 8 ls [.ref (b + (125 + k5))]) rfl ?_
    refine lv_astore (lv' := [(4, .ref (b + (125 + k5))), (0, .ref (b + 0)), (1, .int x1), (2, .int x2), (3, .int x3)]) hx hb dX4_refresh_8 hl (by decide) rfl (fun ls hl => ?_)
    refine lv_aload hx hb dX4_refresh_10 (lv_at hl 0 rfl) ?_
    refine lv_ifnonnull (tgt := 25) hx hb dX4_refresh_12 (by decide) ?_
    refine lv_iload_n hx hb dX4_refresh_25 rfl (lv_at hl 2 rfl) ?_
    rcases bdx_e h with ⟨E26, M26, hc26, rfl⟩ | ⟨r26, M26, hc26, h⟩
    · exact kX4_31T C hml hl.1 (c_X4_requireClient hlf hc26) ⟨Nat.le_of_ble_eq_true rfl, Nat.le_of_ble_eq_true rfl⟩ ⟨Nat.le_of_ble_eq_true rfl, Nat.le_of_ble_eq_true rfl⟩ (Nat.le_of_ble_eq_true rfl) hS hW dX4_refresh_26 ht hlk (Nat.le_of_ble_eq_true rfl) (Nat.le_of_ble_eq_true rfl)
    refine kX4_31R C hml hl.1 (c_X4_requireClient hlf hc26) ⟨Nat.le_of_ble_eq_true rfl, Nat.le_of_ble_eq_true rfl⟩ ⟨Nat.le_of_ble_eq_true rfl, Nat.le_of_ble_eq_true rfl⟩ (Nat.le_of_ble_eq_true rfl) hS hW dX4_refresh_26 (fun H locs hW hS => ?_)
    refine lv_iload_n hx hb dX4_refresh_29 rfl (lv_at hl 4 rfl) ?_
    refine lv_iconst (v := (0 : Int32)) hx hb dX4_refresh_30 (by decide) ?_
    refine lv_sipush (v := (1000 : Int32)) hx hb dX4_refresh_31 (by decide) ?_
    rcases bdx_e h with ⟨E34, M34, hc34, rfl⟩ | ⟨r34, M34, hc34, h⟩
    · exact kX4_64T C hml hl.1 (c_X4_requireRange hlf hc34) ⟨Nat.le_of_ble_eq_true rfl, Nat.le_of_ble_eq_true rfl⟩ ⟨Nat.le_of_ble_eq_true rfl, Nat.le_of_ble_eq_true rfl⟩ (Nat.le_of_ble_eq_true rfl) hS hW dX4_refresh_34 ht hlk (Nat.le_of_ble_eq_true rfl) (Nat.le_of_ble_eq_true rfl)
    refine kX4_64R C hml hl.1 (c_X4_requireRange hlf hc34) ⟨Nat.le_of_ble_eq_true rfl, Nat.le_of_ble_eq_true rfl⟩ ⟨Nat.le_of_ble_eq_true rfl, Nat.le_of_ble_eq_true rfl⟩ (Nat.le_of_ble_eq_true rfl) hS hW dX4_refresh_34 (fun H locs hW hS => ?_)
    refine lv_aload hx hb dX4_refresh_37 (lv_at hl 0 rfl) ?_
    refine gX4_175 hk5 C hW dX4_refresh_39 ?_
    refine lv_iload_n hx hb dX4_refresh_42 rfl (lv_at hl 2 rfl) ?_
    refine lv_icmp_eq (tgt := 56) hx hb dX4_refresh_43 (by decide) (fun c43 => ?_) (fun c43 => ?_)
    · have h := (if_pos c43).symm.trans h
      refine lv_aload hx hb dX4_refresh_56 (lv_at hl 0 rfl) ?_
      refine gX4_182 hk5 C hW dX4_refresh_58 ?_
      refine lv_aload_n hx hb dX4_refresh_61 rfl (lv_at hl 1 rfl) ?_
      refine gX4_19 C hW dX4_refresh_62 ?_
      refine gX4_185 C hW dX4_refresh_65 ?_
      refine lv_isub hx hb dX4_refresh_68 ?_
      refine lv_istore (lv' := [(5, .int ((M34 16 k5) - (M34 11 0))), (4, .ref (b + (125 + k5))), (0, .ref (b + 0)), (1, .int x1), (2, .int x2), (3, .int x3)]) hx hb dX4_refresh_69 hl (by decide) rfl (fun ls hl => ?_)
      refine lv_aload hx hb dX4_refresh_71 (lv_at hl 1 rfl) ?_
      refine lv_aload_n hx hb dX4_refresh_73 rfl (lv_at hl 2 rfl) ?_
      refine gX4_19 C hW dX4_refresh_74 ?_
      refine gX4_185 C hW dX4_refresh_77 ?_
      refine lv_iload_n hx hb dX4_refresh_80 rfl (lv_at hl 5 rfl) ?_
      refine lv_iadd hx hb dX4_refresh_81 ?_
      refine pX4_182 hk5 C hS hW dX4_refresh_82 (fun H locs hW hS => ?_)
      refine lv_iload hx hb dX4_refresh_85 (lv_at hl 0 rfl) ?_
      cases h
      exact ret_xi C hr hlk hS hW dX4_refresh_87 (Nat.le_of_ble_eq_true rfl) (Nat.le_of_ble_eq_true rfl)
    · have h := (if_neg c43).symm.trans h
      cases h
      exact thS (is := 180) (text := "the lock is of another client") hlf C ht hlk (by decide +kernel) hS hW (hl.1.trans hml.symm) dX4_refresh_46 dX4_refresh_49 dX4_refresh_50 dX4_refresh_52 dX4_refresh_55 ⟨Nat.le_of_ble_eq_true rfl, Nat.le_of_ble_eq_true rfl⟩ ⟨Nat.le_of_ble_eq_true rfl, Nat.le_of_ble_eq_true rfl⟩ (Nat.le_of_ble_eq_true rfl) (Nat.le_of_ble_eq_true rfl)
def f_X4_refresh (M : Mem) (x1 : Int32) (x2 : Int32) (x3 : Int32) : Option ((String ⊕ Int32) × Mem) := f_X4_refresh_0 M x1 x2 x3
set_option maxHeartbeats 4000000 in
set_option maxRecDepth 100000 in
theorem c_X4_refresh {l : Launch} {Z : Zt} {b : Nat} (hlf : l.stackTraces = false) {M : Mem} {x1 : Int32} {x2 : Int32} {x3 : Int32} {res : ((String ⊕ Int32) × Mem)} (h : f_X4_refresh M x1 x2 x3 = some res) : Cx' l yX4_refresh cX4_refresh 6 (some .int) rm_X4_refresh 3 18 Z b [.ref (b + 0), .int x1, .int x2, .int x3] M (voI res.1) res.2 := by
  refine vx_ofW (cc := cX4_refresh) (maxL := 6) (ret := (some .int)) (by decide) rfl ?_
  intro p e s m args below meth c s₁ B hml ht hv
  obtain ⟨rfl, hE, hW⟩ := hv
  have C : Cx p s m [.ref (b + 0), .int x1, .int x2, .int x3].toArray c cX4_refresh RX4 Z b := ⟨B.exec, B.bytes, findClass_of_methodNamed B.named, fun w hw => atoms_spec (ws := Cond.code yX4_refresh cX4_refresh 6 (some .int) :: wsA) B.pre w (List.mem_cons_of_mem _ hw), hE⟩
  have hl := lv_entry [.ref (b + 0), .int x1, .int x2, .int x3] (n := 6) (Nat.le_of_ble_eq_true rfl)
  rw [lg_entry_eq]
  generalize (lg_sl [.ref (b + 0), .int x1, .int x2, .int x3] ++ List.replicate (6 - (lg_sl [.ref (b + 0), .int x1, .int x2, .int x3]).length) Slot.unset).toArray = ls at hl ⊢
  have hl : lv_has ls 6 [(0, .ref (b + 0)), (1, .int x1), (2, .int x2), (3, .int x3)] := hl
  exact w_X4_refresh_0 C hml B.returns B.notSynchronized hlf ht h va_S.rf hW hl
def f_X1_advance_46 (K12 : Mem → Int32 → Int32 → Int32 → Option (Int32 × Mem)) (M : Mem) (x2 : Int32) (x3 : Int32) (x4 : Int32) : Option (Int32 × Mem) :=
  K12 M x2 x3 (x4 + 1)
set_option maxHeartbeats 4000000 in
set_option maxRecDepth 100000 in
theorem w_X1_advance_46 {p : Program} {l : Launch} {e : Env} {s : State} {m : MethodId} {args : Array Value} {below : List Frame} {meth : Method} {c : Code} {Z : Zt} {b : Nat} (C : Cx p s m args c cX1_advance RX1 Z b) (hml : c.maxLocals = 6) (hr : meth.sig.returnType = (some .int)) (hlk : meth.locks = false) {r' : Int32} {M' : Mem} {K12 : Mem → Int32 → Int32 → Int32 → Option (Int32 × Mem)} (hK12 : ∀ {M : Mem} {x2 : Int32} {x3 : Int32} {x4 : Int32} (h : K12 M x2 x3 x4 = some (r', M')) {H : Heap} {locs : List Loc} {ls : Array Slot} (hS : va_S (A0 b) s.heap H locs) (hW : Wd Z b M H) (hl : lv_has ls 6 [(0, .ref (b + 123)), (2, .int x2), (3, .int x3), (4, .int x4)]), W p l e rm_X1_advance s m args below meth c H locs 0 0 (MQ below (Qn Z b (some (.int r')) M') args s 0 0 (A0 b)) (F0 m 12 ls [])) {M : Mem} {x2 : Int32} {x3 : Int32} {x4 : Int32} (h : f_X1_advance_46 K12 M x2 x3 x4 = some (r', M')) {H : Heap} {locs : List Loc} {ls : Array Slot} (hS : va_S (A0 b) s.heap H locs) (hW : Wd Z b M H) (hl : lv_has ls 6 [(0, .ref (b + 123)), (2, .int x2), (3, .int x3), (4, .int x4)]) : W p l e rm_X1_advance s m args below meth c H locs 0 0 (MQ below (Qn Z b (some (.int r')) M') args s 0 0 (A0 b)) (F0 m 46 ls []) := by
  unfold f_X1_advance_46 at h
  have hx := C.1
  have hb := C.2.1
  refine lv_iinc (v := x4 + 1) (lv' := [(4, .int (x4 + 1)), (0, .ref (b + 123)), (2, .int x2), (3, .int x3)]) hx hb dX1_advance_46 hl (k := 3) rfl rfl (by decide) rfl (fun ls hl => ?_)
  refine lv_goto (tgt := 12) hx hb dX1_advance_49 (by decide) ?_
  exact hK12 h hS hW (lv_sub hl [1, 2, 3, 0] rfl)
def f_X1_advance_12B (K12 : Mem → Int32 → Int32 → Int32 → Option (Int32 × Mem)) (M : Mem) (x2 : Int32) (x3 : Int32) (x4 : Int32) : Option (Int32 × Mem) :=
  if (M 10 0) ≤ x4 then some (x3, mu M 11 0 x2) else bd2 (f_X1_find M x4) (fun q24 M24 => oe q24 (f_X1_advance_46 K12 M24 x2 x3 x4) (fun k24 => if 30 ≤ k24 then none else if x2 < (M24 16 k24) then f_X1_advance_46 K12 M24 x2 x3 x4 else f_X1_advance_46 K12 M24 x2 (x3 + 1) x4))
def f_X1_advance_12 : Nat → Mem → Int32 → Int32 → Int32 → Option (Int32 × Mem)
  | 0 => fun _ _ _ _ => none
  | n + 1 => f_X1_advance_12B (f_X1_advance_12 n)
set_option maxHeartbeats 4000000 in
set_option maxRecDepth 100000 in
theorem w_X1_advance_12 {p : Program} {l : Launch} {e : Env} {s : State} {m : MethodId} {args : Array Value} {below : List Frame} {meth : Method} {c : Code} {Z : Zt} {b : Nat} (C : Cx p s m args c cX1_advance RX1 Z b) (hml : c.maxLocals = 6) (hr : meth.sig.returnType = (some .int)) (hlk : meth.locks = false) {r' : Int32} {M' : Mem} : ∀ (n : Nat) {M : Mem} {x2 : Int32} {x3 : Int32} {x4 : Int32} (h : f_X1_advance_12 n M x2 x3 x4 = some (r', M')) {H : Heap} {locs : List Loc} {ls : Array Slot} (hS : va_S (A0 b) s.heap H locs) (hW : Wd Z b M H) (hl : lv_has ls 6 [(0, .ref (b + 123)), (2, .int x2), (3, .int x3), (4, .int x4)]), W p l e rm_X1_advance s m args below meth c H locs 0 0 (MQ below (Qn Z b (some (.int r')) M') args s 0 0 (A0 b)) (F0 m 12 ls []) := by
  intro n
  induction n with
  | zero =>
    intro M x2 x3 x4 h
    cases h
  | succ n ih =>
    intro M x2 x3 x4 h H locs ls hS hW hl
    have h : f_X1_advance_12B (f_X1_advance_12 n) M x2 x3 x4 = some (r', M') := h
    unfold f_X1_advance_12B at h
    have hK12 := @ih
    have hx := C.1
    have hb := C.2.1
    refine lv_iload hx hb dX1_advance_12 (lv_at hl 3 rfl) ?_
    refine lv_aload_n hx hb dX1_advance_14 rfl (lv_at hl 0 rfl) ?_
    refine gX1_18 C hW dX1_advance_15 ?_
    refine lv_icmp_ge (tgt := 52) hx hb dX1_advance_18 (by decide) (fun c18 => ?_) (fun c18 => ?_)
    · have h := (if_pos c18).symm.trans h
      refine lv_aload_n hx hb dX1_advance_52 rfl (lv_at hl 0 rfl) ?_
      refine lv_iload_n hx hb dX1_advance_53 rfl (lv_at hl 1 rfl) ?_
      refine pX1_22 C hS hW dX1_advance_54 (fun H locs hW hS => ?_)
      refine lv_iload_n hx hb dX1_advance_57 rfl (lv_at hl 2 rfl) ?_
      cases h
      exact ret_i C hr hlk hS hW dX1_advance_58
    · have h := (if_neg c18).symm.trans h
      refine lv_aload_n hx hb dX1_advance_21 rfl (lv_at hl 0 rfl) ?_
      refine lv_iload hx hb dX1_advance_22 (lv_at hl 3 rfl) ?_
      obtain ⟨q24, M24, hc24, h⟩ := bd2_e h
      refine kX1_28 C hml hl.1 (c_X1_find hc24) ⟨Nat.le_of_ble_eq_true rfl, Nat.le_of_ble_eq_true rfl⟩ ⟨Nat.le_of_ble_eq_true rfl, Nat.le_of_ble_eq_true rfl⟩ (Nat.le_of_ble_eq_true rfl) hS hW dX1_advance_24 (fun H locs hW hS => ?_)
      rcases q24 with _ | k24
      · have h := oe_n h
        refine W.eq (g2 := F0 m 27 ls [.null]) rfl ?_
        refine lv_astoreN (lv' := [(5, .null), (0, .ref (b + 123)), (2, .int x2), (3, .int x3), (4, .int x4)]) hx hb dX1_advance_27 hl (by decide) rfl (fun ls hl => ?_)
        refine lv_aloadN hx hb dX1_advance_29 (lv_at hl 0 rfl) ?_
        refine lv_ifnullN (tgt := 46) hx hb dX1_advance_31 (by decide) ?_
        exact w_X1_advance_46 C hml hr hlk hK12 h hS hW (lv_sub hl [1, 2, 3, 4] rfl)
      · obtain ⟨g24, h⟩ := gd (oe_s h)
        have hk24 := Nat.lt_of_not_le g24
        refine W.eq (g2 := F0 m 27 ls [.ref (b + (125 + k24))]) rfl ?_
        refine lv_astore (lv' := [(5, .ref (b + (125 + k24))), (0, .ref (b + 123)), (2, .int x2), (3, .int x3), (4, .int x4)]) hx hb dX1_advance_27 hl (by decide) rfl (fun ls hl => ?_)
        refine lv_aload hx hb dX1_advance_29 (lv_at hl 0 rfl) ?_
        refine lv_ifnull hx hb dX1_advance_31 ?_
        refine lv_aload hx hb dX1_advance_34 (lv_at hl 0 rfl) ?_
        refine gX1_25 hk24 C hW dX1_advance_36 ?_
        refine lv_iload_n hx hb dX1_advance_39 rfl (lv_at hl 2 rfl) ?_
        refine lv_icmp_gt (tgt := 46) hx hb dX1_advance_40 (by decide) (fun c40 => ?_) (fun c40 => ?_)
        · have h := (if_pos c40).symm.trans h
          exact w_X1_advance_46 C hml hr hlk hK12 h hS hW (lv_sub hl [1, 2, 3, 4] rfl)
        · have h := (if_neg c40).symm.trans h
          refine lv_iinc (v := x3 + 1) (lv' := [(3, .int (x3 + 1)), (5, .ref (b + (125 + k24))), (0, .ref (b + 123)), (2, .int x2), (4, .int x4)]) hx hb dX1_advance_43 hl (k := 3) rfl rfl (by decide) rfl (fun ls hl => ?_)
          exact w_X1_advance_46 C hml hr hlk hK12 h hS hW (lv_sub hl [2, 3, 0, 4] rfl)
def f_X1_advance_0 (M : Mem) (x1 : Int32) : Option (Int32 × Mem) :=
  f_X1_advance_12 64 M ((M 11 0) + x1) (0 : Int32) (0 : Int32)
set_option maxHeartbeats 4000000 in
set_option maxRecDepth 100000 in
theorem w_X1_advance_0 {p : Program} {l : Launch} {e : Env} {s : State} {m : MethodId} {args : Array Value} {below : List Frame} {meth : Method} {c : Code} {Z : Zt} {b : Nat} (C : Cx p s m args c cX1_advance RX1 Z b) (hml : c.maxLocals = 6) (hr : meth.sig.returnType = (some .int)) (hlk : meth.locks = false) {r' : Int32} {M' : Mem} {M : Mem} {x1 : Int32} (h : f_X1_advance_0 M x1 = some (r', M')) {H : Heap} {locs : List Loc} {ls : Array Slot} (hS : va_S (A0 b) s.heap H locs) (hW : Wd Z b M H) (hl : lv_has ls 6 [(0, .ref (b + 123)), (1, .int x1)]) : W p l e rm_X1_advance s m args below meth c H locs 0 0 (MQ below (Qn Z b (some (.int r')) M') args s 0 0 (A0 b)) (F0 m 0 ls []) := by
  unfold f_X1_advance_0 at h
  have hx := C.1
  have hb := C.2.1
  refine lv_aload_n hx hb dX1_advance_0 rfl (lv_at hl 0 rfl) ?_
  refine gX1_22 C hW dX1_advance_1 ?_
  refine lv_iload_n hx hb dX1_advance_4 rfl (lv_at hl 1 rfl) ?_
  refine lv_iadd hx hb dX1_advance_5 ?_
  refine lv_istore_n (lv' := [(2, .int ((M 11 0) + x1)), (0, .ref (b + 123)), (1, .int x1)]) hx hb dX1_advance_6 rfl hl (by decide) rfl (fun ls hl => ?_)
  refine lv_iconst (v := (0 : Int32)) hx hb dX1_advance_7 (by decide) ?_
  refine lv_istore_n (lv' := [(3, .int (0 : Int32)), (2, .int ((M 11 0) + x1)), (0, .ref (b + 123)), (1, .int x1)]) hx hb dX1_advance_8 rfl hl (by decide) rfl (fun ls hl => ?_)
  refine lv_iconst (v := (0 : Int32)) hx hb dX1_advance_9 (by decide) ?_
  refine lv_istore (lv' := [(4, .int (0 : Int32)), (3, .int (0 : Int32)), (2, .int ((M 11 0) + x1)), (0, .ref (b + 123)), (1, .int x1)]) hx hb dX1_advance_10 hl (by decide) rfl (fun ls hl => ?_)
  exact w_X1_advance_12 C hml hr hlk 64 h hS hW (lv_sub hl [3, 2, 1, 0] rfl)
def f_X1_advance (M : Mem) (x1 : Int32) : Option (Int32 × Mem) := f_X1_advance_0 M x1
set_option maxHeartbeats 4000000 in
set_option maxRecDepth 100000 in
theorem c_X1_advance {l : Launch} {Z : Zt} {b : Nat} {M : Mem} {x1 : Int32} {r' : Int32} {M' : Mem} (h : f_X1_advance M x1 = some (r', M')) : Ct l yX1_advance cX1_advance 6 (some .int) rm_X1_advance Z b [.ref (b + 123), .int x1] M (some (.int r')) M' := by
  refine Met.ofW (cc := cX1_advance) (maxL := 6) (ret := (some .int)) (by decide) rfl ?_
  intro p e s m args below meth c s₁ B hml hv
  obtain ⟨rfl, hE, hW⟩ := hv
  have C : Cx p s m [.ref (b + 123), .int x1].toArray c cX1_advance RX1 Z b := ⟨B.exec, B.bytes, findClass_of_methodNamed B.named, fun w hw => atoms_spec (ws := Cond.code yX1_advance cX1_advance 6 (some .int) :: wsA) B.pre w (List.mem_cons_of_mem _ hw), hE⟩
  have hl := lv_entry [.ref (b + 123), .int x1] (n := 6) (Nat.le_of_ble_eq_true rfl)
  rw [lg_entry_eq]
  generalize (lg_sl [.ref (b + 123), .int x1] ++ List.replicate (6 - (lg_sl [.ref (b + 123), .int x1]).length) Slot.unset).toArray = ls at hl ⊢
  have hl : lv_has ls 6 [(0, .ref (b + 123)), (1, .int x1)] := hl
  exact w_X1_advance_0 C hml B.returns B.notSynchronized h va_S.rf hW hl
def f_X4_pass_0 (M : Mem) (x1 : Int32) : Option ((String ⊕ Int32) × Mem) :=
  bdx (f_X4_requireRange M x1 (1 : Int32) (1000 : Int32)) (fun r5 M5 => if ((M5 11 0) + x1) ≤ (1000000 : Int32) then bd2 (f_X1_advance M5 x1) (fun r37 M37 => some (.inr r37, M37)) else some (.inl "java/lang/IllegalStateException", M5))
set_option maxHeartbeats 4000000 in
set_option maxRecDepth 100000 in
theorem w_X4_pass_0 {p : Program} {l : Launch} {e : Env} {s : State} {m : MethodId} {args : Array Value} {below : List Frame} {meth : Method} {c : Code} {Z : Zt} {b : Nat} (C : Cx p s m args c cX4_pass RX4 Z b) (hml : c.maxLocals = 2) (hr : meth.sig.returnType = (some .int)) (hlk : meth.locks = false) (hlf : l.stackTraces = false) (ht : ∀ x ∈ c.exceptionTable.toList, False) {res : ((String ⊕ Int32) × Mem)} {M : Mem} {x1 : Int32} (h : f_X4_pass_0 M x1 = some res) {H : Heap} {locs : List Loc} {ls : Array Slot} (hS : va_S (A0 b) s.heap H locs) (hW : Wd Z b M H) (hl : lv_has ls 2 [(0, .ref (b + 0)), (1, .int x1)]) : W p l e rm_X4_pass s m args below meth c H locs 0 0 (vx_MQ below (Qx Z b (voI res.1) res.2) (XCx Z b (voI res.1) res.2) args s 2 12 (A0 b)) (F0 m 0 ls []) := by
  unfold f_X4_pass_0 at h
  have hx := C.1
  have hb := C.2.1
  refine lv_iload_n hx hb dX4_pass_0 rfl (lv_at hl 1 rfl) ?_
  refine lv_iconst (v := (1 : Int32)) hx hb dX4_pass_1 (by decide) ?_
  refine lv_sipush (v := (1000 : Int32)) hx hb dX4_pass_2 (by decide) ?_
  rcases bdx_e h with ⟨E5, M5, hc5, rfl⟩ | ⟨r5, M5, hc5, h⟩
  · exact kX4_64T C hml hl.1 (c_X4_requireRange hlf hc5) ⟨Nat.le_of_ble_eq_true rfl, Nat.le_of_ble_eq_true rfl⟩ ⟨Nat.le_of_ble_eq_true rfl, Nat.le_of_ble_eq_true rfl⟩ (Nat.le_of_ble_eq_true rfl) hS hW dX4_pass_5 ht hlk (Nat.le_of_ble_eq_true rfl) (Nat.le_of_ble_eq_true rfl)
  refine kX4_64R C hml hl.1 (c_X4_requireRange hlf hc5) ⟨Nat.le_of_ble_eq_true rfl, Nat.le_of_ble_eq_true rfl⟩ ⟨Nat.le_of_ble_eq_true rfl, Nat.le_of_ble_eq_true rfl⟩ (Nat.le_of_ble_eq_true rfl) hS hW dX4_pass_5 (fun H locs hW hS => ?_)
  refine lv_aload_n hx hb dX4_pass_8 rfl (lv_at hl 0 rfl) ?_
  refine gX4_19 C hW dX4_pass_9 ?_
  refine gX4_185 C hW dX4_pass_12 ?_
  refine lv_iload_n hx hb dX4_pass_15 rfl (lv_at hl 1 rfl) ?_
  refine lv_iadd hx hb dX4_pass_16 ?_
  refine lv_ldc (v := (1000000 : Int32)) hx hb C.2.2.1 (C.2.2.2.1 _ q550) dX4_pass_17 ?_
  refine lv_icmp_le (tgt := 32) hx hb dX4_pass_19 (by decide) (fun c19 => ?_) (fun c19 => ?_)
  · have h := (if_pos c19).symm.trans h
    refine lv_aload_n hx hb dX4_pass_32 rfl (lv_at hl 0 rfl) ?_
    refine gX4_19 C hW dX4_pass_33 ?_
    refine lv_iload_n hx hb dX4_pass_36 rfl (lv_at hl 1 rfl) ?_
    obtain ⟨r37, M37, hc37, h⟩ := bd2_e h
    refine kX4_191 C hml hl.1 (c_X1_advance hc37) ⟨Nat.le_of_ble_eq_true rfl, Nat.le_of_ble_eq_true rfl⟩ ⟨Nat.le_of_ble_eq_true rfl, Nat.le_of_ble_eq_true rfl⟩ (Nat.le_of_ble_eq_true rfl) hS hW dX4_pass_37 (fun H locs hW hS => ?_)
    cases h
    exact ret_xi C hr hlk hS hW dX4_pass_40 (Nat.le_of_ble_eq_true rfl) (Nat.le_of_ble_eq_true rfl)
  · have h := (if_neg c19).symm.trans h
    cases h
    exact thS (is := 189) (text := "the time would be too late") hlf C ht hlk (by decide +kernel) hS hW (hl.1.trans hml.symm) dX4_pass_22 dX4_pass_25 dX4_pass_26 dX4_pass_28 dX4_pass_31 ⟨Nat.le_of_ble_eq_true rfl, Nat.le_of_ble_eq_true rfl⟩ ⟨Nat.le_of_ble_eq_true rfl, Nat.le_of_ble_eq_true rfl⟩ (Nat.le_of_ble_eq_true rfl) (Nat.le_of_ble_eq_true rfl)
def f_X4_pass (M : Mem) (x1 : Int32) : Option ((String ⊕ Int32) × Mem) := f_X4_pass_0 M x1
set_option maxHeartbeats 4000000 in
set_option maxRecDepth 100000 in
theorem c_X4_pass {l : Launch} {Z : Zt} {b : Nat} (hlf : l.stackTraces = false) {M : Mem} {x1 : Int32} {res : ((String ⊕ Int32) × Mem)} (h : f_X4_pass M x1 = some res) : Cx' l yX4_pass cX4_pass 2 (some .int) rm_X4_pass 2 12 Z b [.ref (b + 0), .int x1] M (voI res.1) res.2 := by
  refine vx_ofW (cc := cX4_pass) (maxL := 2) (ret := (some .int)) (by decide) rfl ?_
  intro p e s m args below meth c s₁ B hml ht hv
  obtain ⟨rfl, hE, hW⟩ := hv
  have C : Cx p s m [.ref (b + 0), .int x1].toArray c cX4_pass RX4 Z b := ⟨B.exec, B.bytes, findClass_of_methodNamed B.named, fun w hw => atoms_spec (ws := Cond.code yX4_pass cX4_pass 2 (some .int) :: wsA) B.pre w (List.mem_cons_of_mem _ hw), hE⟩
  have hl := lv_entry [.ref (b + 0), .int x1] (n := 2) (Nat.le_of_ble_eq_true rfl)
  rw [lg_entry_eq]
  generalize (lg_sl [.ref (b + 0), .int x1] ++ List.replicate (2 - (lg_sl [.ref (b + 0), .int x1]).length) Slot.unset).toArray = ls at hl ⊢
  have hl : lv_has ls 2 [(0, .ref (b + 0)), (1, .int x1)] := hl
  exact w_X4_pass_0 C hml B.returns B.notSynchronized hlf ht h va_S.rf hW hl
def f_X4_covering_0 (M : Mem) (x1 : Int32) : Option ((String ⊕ Int32) × Mem) :=
  bdx (f_X4_requirePath M x1) (fun r1 M1 => bd2 (f_X1_tokensOver M1 x1) (fun r9 M9 => some (.inr r9, M9)))
set_option maxHeartbeats 4000000 in
set_option maxRecDepth 100000 in
theorem w_X4_covering_0 {p : Program} {l : Launch} {e : Env} {s : State} {m : MethodId} {args : Array Value} {below : List Frame} {meth : Method} {c : Code} {Z : Zt} {b : Nat} (C : Cx p s m args c cX4_covering RX4 Z b) (hml : c.maxLocals = 2) (hr : meth.sig.returnType = (some .int)) (hlk : meth.locks = false) (hlf : l.stackTraces = false) (ht : ∀ x ∈ c.exceptionTable.toList, False) {res : ((String ⊕ Int32) × Mem)} {M : Mem} {x1 : Int32} (h : f_X4_covering_0 M x1 = some res) {H : Heap} {locs : List Loc} {ls : Array Slot} (hS : va_S (A0 b) s.heap H locs) (hW : Wd Z b M H) (hl : lv_has ls 2 [(0, .ref (b + 0)), (1, .int x1)]) : W p l e rm_X4_covering s m args below meth c H locs 0 0 (vx_MQ below (Qx Z b (voI res.1) res.2) (XCx Z b (voI res.1) res.2) args s 1 6 (A0 b)) (F0 m 0 ls []) := by
  unfold f_X4_covering_0 at h
  have hx := C.1
  have hb := C.2.1
  refine lv_iload_n hx hb dX4_covering_0 rfl (lv_at hl 1 rfl) ?_
  rcases bdx_e h with ⟨E1, M1, hc1, rfl⟩ | ⟨r1, M1, hc1, h⟩
  · exact kX4_123T C hml hl.1 (c_X4_requirePath hlf hc1) ⟨Nat.le_of_ble_eq_true rfl, Nat.le_of_ble_eq_true rfl⟩ ⟨Nat.le_of_ble_eq_true rfl, Nat.le_of_ble_eq_true rfl⟩ (Nat.le_of_ble_eq_true rfl) hS hW dX4_covering_1 ht hlk (Nat.le_of_ble_eq_true rfl) (Nat.le_of_ble_eq_true rfl)
  refine kX4_123R C hml hl.1 (c_X4_requirePath hlf hc1) ⟨Nat.le_of_ble_eq_true rfl, Nat.le_of_ble_eq_true rfl⟩ ⟨Nat.le_of_ble_eq_true rfl, Nat.le_of_ble_eq_true rfl⟩ (Nat.le_of_ble_eq_true rfl) hS hW dX4_covering_1 (fun H locs hW hS => ?_)
  refine lv_aload_n hx hb dX4_covering_4 rfl (lv_at hl 0 rfl) ?_
  refine gX4_19 C hW dX4_covering_5 ?_
  refine lv_iload_n hx hb dX4_covering_8 rfl (lv_at hl 1 rfl) ?_
  obtain ⟨r9, M9, hc9, h⟩ := bd2_e h
  refine kX4_194 C hml hl.1 (c_X1_tokensOver hc9) ⟨Nat.le_of_ble_eq_true rfl, Nat.le_of_ble_eq_true rfl⟩ ⟨Nat.le_of_ble_eq_true rfl, Nat.le_of_ble_eq_true rfl⟩ (Nat.le_of_ble_eq_true rfl) hS hW dX4_covering_9 (fun H locs hW hS => ?_)
  cases h
  exact ret_xi C hr hlk hS hW dX4_covering_12 (Nat.le_of_ble_eq_true rfl) (Nat.le_of_ble_eq_true rfl)
def f_X4_covering (M : Mem) (x1 : Int32) : Option ((String ⊕ Int32) × Mem) := f_X4_covering_0 M x1
set_option maxHeartbeats 4000000 in
set_option maxRecDepth 100000 in
theorem c_X4_covering {l : Launch} {Z : Zt} {b : Nat} (hlf : l.stackTraces = false) {M : Mem} {x1 : Int32} {res : ((String ⊕ Int32) × Mem)} (h : f_X4_covering M x1 = some res) : Cx' l yX4_covering cX4_covering 2 (some .int) rm_X4_covering 1 6 Z b [.ref (b + 0), .int x1] M (voI res.1) res.2 := by
  refine vx_ofW (cc := cX4_covering) (maxL := 2) (ret := (some .int)) (by decide) rfl ?_
  intro p e s m args below meth c s₁ B hml ht hv
  obtain ⟨rfl, hE, hW⟩ := hv
  have C : Cx p s m [.ref (b + 0), .int x1].toArray c cX4_covering RX4 Z b := ⟨B.exec, B.bytes, findClass_of_methodNamed B.named, fun w hw => atoms_spec (ws := Cond.code yX4_covering cX4_covering 2 (some .int) :: wsA) B.pre w (List.mem_cons_of_mem _ hw), hE⟩
  have hl := lv_entry [.ref (b + 0), .int x1] (n := 2) (Nat.le_of_ble_eq_true rfl)
  rw [lg_entry_eq]
  generalize (lg_sl [.ref (b + 0), .int x1] ++ List.replicate (2 - (lg_sl [.ref (b + 0), .int x1]).length) Slot.unset).toArray = ls at hl ⊢
  have hl : lv_has ls 2 [(0, .ref (b + 0)), (1, .int x1)] := hl
  exact w_X4_covering_0 C hml B.returns B.notSynchronized hlf ht h va_S.rf hW hl
def f_X4_mayChange_0 (M : Mem) (x1 : Int32) (x2 : Int32) (x3 : Int32) : Option ((String ⊕ Int32) × Mem) :=
  bdx (f_X4_requireClient M x1) (fun r1 M1 => bdx (f_X4_requirePath M1 x2) (fun r5 M5 => bdx (f_X4_requireNotNegative M5 x3) (fun r9 M9 => bd2 (f_X1_allows M9 x1 x2 x3) (fun r19 M19 => if r19 &&& 1 = r19 then some (.inr r19, M19) else none))))
set_option maxHeartbeats 4000000 in
set_option maxRecDepth 100000 in
theorem w_X4_mayChange_0 {p : Program} {l : Launch} {e : Env} {s : State} {m : MethodId} {args : Array Value} {below : List Frame} {meth : Method} {c : Code} {Z : Zt} {b : Nat} (C : Cx p s m args c cX4_mayChange RX4 Z b) (hml : c.maxLocals = 4) (hr : meth.sig.returnType = (some .boolean)) (hlk : meth.locks = false) (hlf : l.stackTraces = false) (ht : ∀ x ∈ c.exceptionTable.toList, False) {res : ((String ⊕ Int32) × Mem)} {M : Mem} {x1 : Int32} {x2 : Int32} {x3 : Int32} (h : f_X4_mayChange_0 M x1 x2 x3 = some res) {H : Heap} {locs : List Loc} {ls : Array Slot} (hS : va_S (A0 b) s.heap H locs) (hW : Wd Z b M H) (hl : lv_has ls 4 [(0, .ref (b + 0)), (1, .int x1), (2, .int x2), (3, .int x3)]) : W p l e rm_X4_mayChange s m args below meth c H locs 0 0 (vx_MQ below (Qx Z b (voI res.1) res.2) (XCx Z b (voI res.1) res.2) args s 3 18 (A0 b)) (F0 m 0 ls []) := by
  unfold f_X4_mayChange_0 at h
  have hx := C.1
  have hb := C.2.1
  refine lv_iload_n hx hb dX4_mayChange_0 rfl (lv_at hl 1 rfl) ?_
  rcases bdx_e h with ⟨E1, M1, hc1, rfl⟩ | ⟨r1, M1, hc1, h⟩
  · exact kX4_31T C hml hl.1 (c_X4_requireClient hlf hc1) ⟨Nat.le_of_ble_eq_true rfl, Nat.le_of_ble_eq_true rfl⟩ ⟨Nat.le_of_ble_eq_true rfl, Nat.le_of_ble_eq_true rfl⟩ (Nat.le_of_ble_eq_true rfl) hS hW dX4_mayChange_1 ht hlk (Nat.le_of_ble_eq_true rfl) (Nat.le_of_ble_eq_true rfl)
  refine kX4_31R C hml hl.1 (c_X4_requireClient hlf hc1) ⟨Nat.le_of_ble_eq_true rfl, Nat.le_of_ble_eq_true rfl⟩ ⟨Nat.le_of_ble_eq_true rfl, Nat.le_of_ble_eq_true rfl⟩ (Nat.le_of_ble_eq_true rfl) hS hW dX4_mayChange_1 (fun H locs hW hS => ?_)
  refine lv_iload_n hx hb dX4_mayChange_4 rfl (lv_at hl 2 rfl) ?_
  rcases bdx_e h with ⟨E5, M5, hc5, rfl⟩ | ⟨r5, M5, hc5, h⟩
  · exact kX4_123T C hml hl.1 (c_X4_requirePath hlf hc5) ⟨Nat.le_of_ble_eq_true rfl, Nat.le_of_ble_eq_true rfl⟩ ⟨Nat.le_of_ble_eq_true rfl, Nat.le_of_ble_eq_true rfl⟩ (Nat.le_of_ble_eq_true rfl) hS hW dX4_mayChange_5 ht hlk (Nat.le_of_ble_eq_true rfl) (Nat.le_of_ble_eq_true rfl)
  refine kX4_123R C hml hl.1 (c_X4_requirePath hlf hc5) ⟨Nat.le_of_ble_eq_true rfl, Nat.le_of_ble_eq_true rfl⟩ ⟨Nat.le_of_ble_eq_true rfl, Nat.le_of_ble_eq_true rfl⟩ (Nat.le_of_ble_eq_true rfl) hS hW dX4_mayChange_5 (fun H locs hW hS => ?_)
  refine lv_iload_n hx hb dX4_mayChange_8 rfl (lv_at hl 3 rfl) ?_
  rcases bdx_e h with ⟨E9, M9, hc9, rfl⟩ | ⟨r9, M9, hc9, h⟩
  · exact kX4_38T C hml hl.1 (c_X4_requireNotNegative hlf hc9) ⟨Nat.le_of_ble_eq_true rfl, Nat.le_of_ble_eq_true rfl⟩ ⟨Nat.le_of_ble_eq_true rfl, Nat.le_of_ble_eq_true rfl⟩ (Nat.le_of_ble_eq_true rfl) hS hW dX4_mayChange_9 ht hlk (Nat.le_of_ble_eq_true rfl) (Nat.le_of_ble_eq_true rfl)
  refine kX4_38R C hml hl.1 (c_X4_requireNotNegative hlf hc9) ⟨Nat.le_of_ble_eq_true rfl, Nat.le_of_ble_eq_true rfl⟩ ⟨Nat.le_of_ble_eq_true rfl, Nat.le_of_ble_eq_true rfl⟩ (Nat.le_of_ble_eq_true rfl) hS hW dX4_mayChange_9 (fun H locs hW hS => ?_)
  refine lv_aload_n hx hb dX4_mayChange_12 rfl (lv_at hl 0 rfl) ?_
  refine gX4_19 C hW dX4_mayChange_13 ?_
  refine lv_iload_n hx hb dX4_mayChange_16 rfl (lv_at hl 1 rfl) ?_
  refine lv_iload_n hx hb dX4_mayChange_17 rfl (lv_at hl 2 rfl) ?_
  refine lv_iload_n hx hb dX4_mayChange_18 rfl (lv_at hl 3 rfl) ?_
  obtain ⟨r19, M19, hc19, h⟩ := bd2_e h
  refine kX4_111 C hml hl.1 (c_X1_allows hc19) ⟨Nat.le_of_ble_eq_true rfl, Nat.le_of_ble_eq_true rfl⟩ ⟨Nat.le_of_ble_eq_true rfl, Nat.le_of_ble_eq_true rfl⟩ (Nat.le_of_ble_eq_true rfl) hS hW dX4_mayChange_19 (fun H locs hW hS => ?_)
  obtain ⟨g22, h⟩ := gdp h
  cases h
  exact ret_xz C hr hlk g22 hS hW dX4_mayChange_22 (Nat.le_of_ble_eq_true rfl) (Nat.le_of_ble_eq_true rfl)
def f_X4_mayChange (M : Mem) (x1 : Int32) (x2 : Int32) (x3 : Int32) : Option ((String ⊕ Int32) × Mem) := f_X4_mayChange_0 M x1 x2 x3
set_option maxHeartbeats 4000000 in
set_option maxRecDepth 100000 in
theorem c_X4_mayChange {l : Launch} {Z : Zt} {b : Nat} (hlf : l.stackTraces = false) {M : Mem} {x1 : Int32} {x2 : Int32} {x3 : Int32} {res : ((String ⊕ Int32) × Mem)} (h : f_X4_mayChange M x1 x2 x3 = some res) : Cx' l yX4_mayChange cX4_mayChange 4 (some .boolean) rm_X4_mayChange 3 18 Z b [.ref (b + 0), .int x1, .int x2, .int x3] M (voI res.1) res.2 := by
  refine vx_ofW (cc := cX4_mayChange) (maxL := 4) (ret := (some .boolean)) (by decide) rfl ?_
  intro p e s m args below meth c s₁ B hml ht hv
  obtain ⟨rfl, hE, hW⟩ := hv
  have C : Cx p s m [.ref (b + 0), .int x1, .int x2, .int x3].toArray c cX4_mayChange RX4 Z b := ⟨B.exec, B.bytes, findClass_of_methodNamed B.named, fun w hw => atoms_spec (ws := Cond.code yX4_mayChange cX4_mayChange 4 (some .boolean) :: wsA) B.pre w (List.mem_cons_of_mem _ hw), hE⟩
  have hl := lv_entry [.ref (b + 0), .int x1, .int x2, .int x3] (n := 4) (Nat.le_of_ble_eq_true rfl)
  rw [lg_entry_eq]
  generalize (lg_sl [.ref (b + 0), .int x1, .int x2, .int x3] ++ List.replicate (4 - (lg_sl [.ref (b + 0), .int x1, .int x2, .int x3]).length) Slot.unset).toArray = ls at hl ⊢
  have hl : lv_has ls 4 [(0, .ref (b + 0)), (1, .int x1), (2, .int x2), (3, .int x3)] := hl
  exact w_X4_mayChange_0 C hml B.returns B.notSynchronized hlf ht h va_S.rf hW hl
def f_X2_addVersion_0 (M : Mem) (k0 : Nat) : Option (Int32 × Mem) :=
  if (M 8 k0) < (10 : Int32) then (if (M 8 k0) < 0 ∨ 10 ≤ (M 8 k0).toNatClampNeg then none else some (((mu (mu M (100 + k0) (M 8 k0).toNatClampNeg (M 6 k0)) 8 k0 (((mu M (100 + k0) (M 8 k0).toNatClampNeg (M 6 k0)) 8 k0) + (1 : Int32))) 8 k0) - (1 : Int32), mu (mu M (100 + k0) (M 8 k0).toNatClampNeg (M 6 k0)) 8 k0 (((mu M (100 + k0) (M 8 k0).toNatClampNeg (M 6 k0)) 8 k0) + (1 : Int32)))) else some ((-1 : Int32), M)
set_option maxHeartbeats 4000000 in
set_option maxRecDepth 100000 in
theorem w_X2_addVersion_0 {p : Program} {l : Launch} {e : Env} {s : State} {m : MethodId} {args : Array Value} {below : List Frame} {meth : Method} {c : Code} {Z : Zt} {b : Nat} (C : Cx p s m args c cX2_addVersion RX2 Z b) (hml : c.maxLocals = 1) (hr : meth.sig.returnType = (some .int)) (hlk : meth.locks = false) {r' : Int32} {M' : Mem} {M : Mem} {k0 : Nat} (hk0 : k0 < 60) (h : f_X2_addVersion_0 M k0 = some (r', M')) {H : Heap} {locs : List Loc} {ls : Array Slot} (hS : va_S (A0 b) s.heap H locs) (hW : Wd Z b M H) (hl : lv_has ls 1 [(0, .ref (b + (3 + 2 * k0)))]) : W p l e rm_X2_addVersion s m args below meth c H locs 0 0 (MQ below (Qn Z b (some (.int r')) M') args s 0 0 (A0 b)) (F0 m 0 ls []) := by
  unfold f_X2_addVersion_0 at h
  have hx := C.1
  have hb := C.2.1
  refine lv_aload_n hx hb dX2_addVersion_0 rfl (lv_at hl 0 rfl) ?_
  refine gX2_29 hk0 C hW dX2_addVersion_1 ?_
  refine lv_aload_n hx hb dX2_addVersion_4 rfl (lv_at hl 0 rfl) ?_
  refine gX2_9 hk0 C hW dX2_addVersion_5 ?_
  refine alen_V hk0 C hW dX2_addVersion_8 ?_
  refine lv_icmp_lt (tgt := 14) hx hb dX2_addVersion_9 (by decide) (fun c9 => ?_) (fun c9 => ?_)
  · have h := (if_pos c9).symm.trans h
    refine lv_aload_n hx hb dX2_addVersion_14 rfl (lv_at hl 0 rfl) ?_
    refine gX2_9 hk0 C hW dX2_addVersion_15 ?_
    refine lv_aload_n hx hb dX2_addVersion_18 rfl (lv_at hl 0 rfl) ?_
    refine gX2_29 hk0 C hW dX2_addVersion_19 ?_
    refine lv_aload_n hx hb dX2_addVersion_22 rfl (lv_at hl 0 rfl) ?_
    refine gX2_22 hk0 C hW dX2_addVersion_23 ?_
    obtain ⟨g26, h⟩ := gd h
    refine ast_V hk0 C hS hW g26 dX2_addVersion_26 (fun H locs hW hS => ?_)
    refine lv_aload_n hx hb dX2_addVersion_27 rfl (lv_at hl 0 rfl) ?_
    refine lv_dup hx hb dX2_addVersion_28 rfl ?_
    refine gX2_29 hk0 C hW dX2_addVersion_29 ?_
    refine lv_iconst (v := (1 : Int32)) hx hb dX2_addVersion_32 (by decide) ?_
    refine lv_iadd hx hb dX2_addVersion_33 ?_
    refine pX2_29 hk0 C hS hW dX2_addVersion_34 (fun H locs hW hS => ?_)
    refine lv_aload_n hx hb dX2_addVersion_37 rfl (lv_at hl 0 rfl) ?_
    refine gX2_29 hk0 C hW dX2_addVersion_38 ?_
    refine lv_iconst (v := (1 : Int32)) hx hb dX2_addVersion_41 (by decide) ?_
    refine lv_isub hx hb dX2_addVersion_42 ?_
    cases h
    exact ret_i C hr hlk hS hW dX2_addVersion_43
  · have h := (if_neg c9).symm.trans h
    refine lv_iconst (v := (-1 : Int32)) hx hb dX2_addVersion_12 (by decide) ?_
    cases h
    exact ret_i C hr hlk hS hW dX2_addVersion_13
def f_X2_addVersion (M : Mem) (k0 : Nat) : Option (Int32 × Mem) := f_X2_addVersion_0 M k0
set_option maxHeartbeats 4000000 in
set_option maxRecDepth 100000 in
theorem c_X2_addVersion {l : Launch} {Z : Zt} {b : Nat} {M : Mem} {k0 : Nat} {r' : Int32} {M' : Mem} (hk0 : k0 < 60) (h : f_X2_addVersion M k0 = some (r', M')) : Ct l yX2_addVersion cX2_addVersion 1 (some .int) rm_X2_addVersion Z b [.ref (b + (3 + 2 * k0))] M (some (.int r')) M' := by
  refine Met.ofW (cc := cX2_addVersion) (maxL := 1) (ret := (some .int)) (by decide) rfl ?_
  intro p e s m args below meth c s₁ B hml hv
  obtain ⟨rfl, hE, hW⟩ := hv
  have C : Cx p s m [.ref (b + (3 + 2 * k0))].toArray c cX2_addVersion RX2 Z b := ⟨B.exec, B.bytes, findClass_of_methodNamed B.named, fun w hw => atoms_spec (ws := Cond.code yX2_addVersion cX2_addVersion 1 (some .int) :: wsA) B.pre w (List.mem_cons_of_mem _ hw), hE⟩
  have hl := lv_entry [.ref (b + (3 + 2 * k0))] (n := 1) (Nat.le_of_ble_eq_true rfl)
  rw [lg_entry_eq]
  generalize (lg_sl [.ref (b + (3 + 2 * k0))] ++ List.replicate (1 - (lg_sl [.ref (b + (3 + 2 * k0))]).length) Slot.unset).toArray = ls at hl ⊢
  have hl : lv_has ls 1 [(0, .ref (b + (3 + 2 * k0)))] := hl
  exact w_X2_addVersion_0 C hml B.returns B.notSynchronized hk0 h va_S.rf hW hl
def f_X4_keep_0 (M : Mem) (x1 : Int32) : Option ((String ⊕ Int32) × Mem) :=
  bdx (f_X4_requirePath M x1) (fun r1 M1 => bd2 (f_X3_findFile M1 x1) (fun q9 M9 => oe q9 (some (.inl "java/lang/IllegalStateException", M9)) (fun k9 => if 60 ≤ k9 then none else if (M9 8 k9) < (10 : Int32) then bd2 (f_X2_addVersion M9 k9) (fun r47 M47 => some (.inr r47, M47)) else some (.inl "java/lang/IllegalStateException", M9))))
set_option maxHeartbeats 4000000 in
set_option maxRecDepth 100000 in
theorem w_X4_keep_0 {p : Program} {l : Launch} {e : Env} {s : State} {m : MethodId} {args : Array Value} {below : List Frame} {meth : Method} {c : Code} {Z : Zt} {b : Nat} (C : Cx p s m args c cX4_keep RX4 Z b) (hml : c.maxLocals = 3) (hr : meth.sig.returnType = (some .int)) (hlk : meth.locks = false) (hlf : l.stackTraces = false) (ht : ∀ x ∈ c.exceptionTable.toList, False) {res : ((String ⊕ Int32) × Mem)} {M : Mem} {x1 : Int32} (h : f_X4_keep_0 M x1 = some res) {H : Heap} {locs : List Loc} {ls : Array Slot} (hS : va_S (A0 b) s.heap H locs) (hW : Wd Z b M H) (hl : lv_has ls 3 [(0, .ref (b + 0)), (1, .int x1)]) : W p l e rm_X4_keep s m args below meth c H locs 0 0 (vx_MQ below (Qx Z b (voI res.1) res.2) (XCx Z b (voI res.1) res.2) args s 2 12 (A0 b)) (F0 m 0 ls []) := by
  unfold f_X4_keep_0 at h
  have hx := C.1
  have hb := C.2.1
  refine lv_iload_n hx hb dX4_keep_0 rfl (lv_at hl 1 rfl) ?_
  rcases bdx_e h with ⟨E1, M1, hc1, rfl⟩ | ⟨r1, M1, hc1, h⟩
  · exact kX4_123T C hml hl.1 (c_X4_requirePath hlf hc1) ⟨Nat.le_of_ble_eq_true rfl, Nat.le_of_ble_eq_true rfl⟩ ⟨Nat.le_of_ble_eq_true rfl, Nat.le_of_ble_eq_true rfl⟩ (Nat.le_of_ble_eq_true rfl) hS hW dX4_keep_1 ht hlk (Nat.le_of_ble_eq_true rfl) (Nat.le_of_ble_eq_true rfl)
  refine kX4_123R C hml hl.1 (c_X4_requirePath hlf hc1) ⟨Nat.le_of_ble_eq_true rfl, Nat.le_of_ble_eq_true rfl⟩ ⟨Nat.le_of_ble_eq_true rfl, Nat.le_of_ble_eq_true rfl⟩ (Nat.le_of_ble_eq_true rfl) hS hW dX4_keep_1 (fun H locs hW hS => ?_)
  refine lv_aload_n hx hb dX4_keep_4 rfl (lv_at hl 0 rfl) ?_
  refine gX4_10 C hW dX4_keep_5 ?_
  refine lv_iload_n hx hb dX4_keep_8 rfl (lv_at hl 1 rfl) ?_
  obtain ⟨q9, M9, hc9, h⟩ := bd2_e h
  refine kX4_129 C hml hl.1 (c_X3_findFile hc9) ⟨Nat.le_of_ble_eq_true rfl, Nat.le_of_ble_eq_true rfl⟩ ⟨Nat.le_of_ble_eq_true rfl, Nat.le_of_ble_eq_true rfl⟩ (Nat.le_of_ble_eq_true rfl) hS hW dX4_keep_9 (fun H locs hW hS => ?_)
  rcases q9 with _ | k9
  · have h := oe_n h
    refine W.eq (g2 := F0 m 12 ls [.null]) rfl ?_
    refine lv_astore_nN (lv' := [(2, .null), (0, .ref (b + 0)), (1, .int x1)]) hx hb dX4_keep_12 rfl hl (by decide) rfl (fun ls hl => ?_)
    refine lv_aload_nN hx hb dX4_keep_13 rfl (lv_at hl 0 rfl) ?_
    refine lv_ifnonnullN hx hb dX4_keep_14 ?_
    cases h
    exact thS (is := 197) (text := "there is no file") hlf C ht hlk (by decide +kernel) hS hW (hl.1.trans hml.symm) dX4_keep_17 dX4_keep_20 dX4_keep_21 dX4_keep_23 dX4_keep_26 ⟨Nat.le_of_ble_eq_true rfl, Nat.le_of_ble_eq_true rfl⟩ ⟨Nat.le_of_ble_eq_true rfl, Nat.le_of_ble_eq_true rfl⟩ (Nat.le_of_ble_eq_true rfl) (Nat.le_of_ble_eq_true rfl)
  · obtain ⟨g9, h⟩ := gd (oe_s h)
    have hk9 := Nat.lt_of_not_le g9
    refine W.eq (g2 := F0 m 12 ls [.ref (b + (3 + 2 * k9))]) rfl ?_
    refine lv_astore_n (lv' := [(2, .ref (b + (3 + 2 * k9))), (0, .ref (b + 0)), (1, .int x1)]) hx hb dX4_keep_12 rfl hl (by decide) rfl (fun ls hl => ?_)
    refine lv_aload_n hx hb dX4_keep_13 rfl (lv_at hl 0 rfl) ?_
    refine lv_ifnonnull (tgt := 27) hx hb dX4_keep_14 (by decide) ?_
    refine lv_aload_n hx hb dX4_keep_27 rfl (lv_at hl 0 rfl) ?_
    refine gX4_199 hk9 C hW dX4_keep_28 ?_
    refine lv_bipush (v := (10 : Int32)) hx hb dX4_keep_31 (by decide) ?_
    refine lv_icmp_lt (tgt := 46) hx hb dX4_keep_33 (by decide) (fun c33 => ?_) (fun c33 => ?_)
    · have h := (if_pos c33).symm.trans h
      refine lv_aload_n hx hb dX4_keep_46 rfl (lv_at hl 0 rfl) ?_
      obtain ⟨r47, M47, hc47, h⟩ := bd2_e h
      refine kX4_204 hk9 C hml hl.1 (c_X2_addVersion hk9 hc47) ⟨Nat.le_of_ble_eq_true rfl, Nat.le_of_ble_eq_true rfl⟩ ⟨Nat.le_of_ble_eq_true rfl, Nat.le_of_ble_eq_true rfl⟩ (Nat.le_of_ble_eq_true rfl) hS hW dX4_keep_47 (fun H locs hW hS => ?_)
      cases h
      exact ret_xi C hr hlk hS hW dX4_keep_50 (Nat.le_of_ble_eq_true rfl) (Nat.le_of_ble_eq_true rfl)
    · have h := (if_neg c33).symm.trans h
      cases h
      exact thS (is := 202) (text := "the file has too many versions") hlf C ht hlk (by decide +kernel) hS hW (hl.1.trans hml.symm) dX4_keep_36 dX4_keep_39 dX4_keep_40 dX4_keep_42 dX4_keep_45 ⟨Nat.le_of_ble_eq_true rfl, Nat.le_of_ble_eq_true rfl⟩ ⟨Nat.le_of_ble_eq_true rfl, Nat.le_of_ble_eq_true rfl⟩ (Nat.le_of_ble_eq_true rfl) (Nat.le_of_ble_eq_true rfl)
def f_X4_keep (M : Mem) (x1 : Int32) : Option ((String ⊕ Int32) × Mem) := f_X4_keep_0 M x1
set_option maxHeartbeats 4000000 in
set_option maxRecDepth 100000 in
theorem c_X4_keep {l : Launch} {Z : Zt} {b : Nat} (hlf : l.stackTraces = false) {M : Mem} {x1 : Int32} {res : ((String ⊕ Int32) × Mem)} (h : f_X4_keep M x1 = some res) : Cx' l yX4_keep cX4_keep 3 (some .int) rm_X4_keep 2 12 Z b [.ref (b + 0), .int x1] M (voI res.1) res.2 := by
  refine vx_ofW (cc := cX4_keep) (maxL := 3) (ret := (some .int)) (by decide) rfl ?_
  intro p e s m args below meth c s₁ B hml ht hv
  obtain ⟨rfl, hE, hW⟩ := hv
  have C : Cx p s m [.ref (b + 0), .int x1].toArray c cX4_keep RX4 Z b := ⟨B.exec, B.bytes, findClass_of_methodNamed B.named, fun w hw => atoms_spec (ws := Cond.code yX4_keep cX4_keep 3 (some .int) :: wsA) B.pre w (List.mem_cons_of_mem _ hw), hE⟩
  have hl := lv_entry [.ref (b + 0), .int x1] (n := 3) (Nat.le_of_ble_eq_true rfl)
  rw [lg_entry_eq]
  generalize (lg_sl [.ref (b + 0), .int x1] ++ List.replicate (3 - (lg_sl [.ref (b + 0), .int x1]).length) Slot.unset).toArray = ls at hl ⊢
  have hl : lv_has ls 3 [(0, .ref (b + 0)), (1, .int x1)] := hl
  exact w_X4_keep_0 C hml B.returns B.notSynchronized hlf ht h va_S.rf hW hl

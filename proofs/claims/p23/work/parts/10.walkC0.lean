def f_X4_requireRange_0 (M : Mem) (x0 : Int32) (x1 : Int32) (x2 : Int32) : Option ((String ⊕ Unit) × Mem) :=
  if x0 < x1 then some (.inl "java/lang/IllegalArgumentException", M) else if x0 ≤ x2 then some (.inr (), M) else some (.inl "java/lang/IllegalArgumentException", M)
set_option maxHeartbeats 4000000 in
set_option maxRecDepth 100000 in
theorem w_X4_requireRange_0 {p : Program} {l : Launch} {e : Env} {s : State} {m : MethodId} {args : Array Value} {below : List Frame} {meth : Method} {c : Code} {Z : Zt} {b : Nat} (C : Cx p s m args c cX4_requireRange RX4 Z b) (hml : c.maxLocals = 3) (hr : meth.sig.returnType = (none : Option Jvm.ClassFile.FieldType)) (hlk : meth.locks = false) (hlf : l.stackTraces = false) (ht : ∀ x ∈ c.exceptionTable.toList, False) {res : ((String ⊕ Unit) × Mem)} {M : Mem} {x0 : Int32} {x1 : Int32} {x2 : Int32} (h : f_X4_requireRange_0 M x0 x1 x2 = some res) {H : Heap} {locs : List Loc} {ls : Array Slot} (hS : va_S (A0 b) s.heap H locs) (hW : Wd Z b M H) (hl : lv_has ls 3 [(0, .int x0), (1, .int x1), (2, .int x2)]) : W p l e rm_X4_requireRange s m args below meth c H locs 0 0 (vx_MQ below (Qx Z b (voU res.1) res.2) (XCx Z b (voU res.1) res.2) args s 1 6 (A0 b)) (F0 m 0 ls []) := by
  unfold f_X4_requireRange_0 at h
  have hx := C.1
  have hb := C.2.1
  refine lv_iload_n hx hb dX4_requireRange_0 rfl (lv_at hl 0 rfl) ?_
  refine lv_iload_n hx hb dX4_requireRange_1 rfl (lv_at hl 1 rfl) ?_
  refine lv_icmp_lt (tgt := 10) hx hb dX4_requireRange_2 (by decide) (fun c2 => ?_) (fun c2 => ?_)
  · have h := (if_pos c2).symm.trans h
    cases h
    exact thA (is := 213) (text := "an argument is out of its range") hlf C ht hlk (by decide +kernel) hS hW (hl.1.trans hml.symm) dX4_requireRange_10 dX4_requireRange_13 dX4_requireRange_14 dX4_requireRange_16 dX4_requireRange_19 ⟨Nat.le_of_ble_eq_true rfl, Nat.le_of_ble_eq_true rfl⟩ ⟨Nat.le_of_ble_eq_true rfl, Nat.le_of_ble_eq_true rfl⟩ (Nat.le_of_ble_eq_true rfl) (Nat.le_of_ble_eq_true rfl)
  · have h := (if_neg c2).symm.trans h
    refine lv_iload_n hx hb dX4_requireRange_5 rfl (lv_at hl 0 rfl) ?_
    refine lv_iload_n hx hb dX4_requireRange_6 rfl (lv_at hl 2 rfl) ?_
    refine lv_icmp_le (tgt := 20) hx hb dX4_requireRange_7 (by decide) (fun c7 => ?_) (fun c7 => ?_)
    · have h := (if_pos c7).symm.trans h
      cases h
      exact ret_xv C hr hlk hS hW dX4_requireRange_20 (Nat.le_of_ble_eq_true rfl) (Nat.le_of_ble_eq_true rfl)
    · have h := (if_neg c7).symm.trans h
      cases h
      exact thA (is := 213) (text := "an argument is out of its range") hlf C ht hlk (by decide +kernel) hS hW (hl.1.trans hml.symm) dX4_requireRange_10 dX4_requireRange_13 dX4_requireRange_14 dX4_requireRange_16 dX4_requireRange_19 ⟨Nat.le_of_ble_eq_true rfl, Nat.le_of_ble_eq_true rfl⟩ ⟨Nat.le_of_ble_eq_true rfl, Nat.le_of_ble_eq_true rfl⟩ (Nat.le_of_ble_eq_true rfl) (Nat.le_of_ble_eq_true rfl)
def f_X4_requireRange (M : Mem) (x0 : Int32) (x1 : Int32) (x2 : Int32) : Option ((String ⊕ Unit) × Mem) := f_X4_requireRange_0 M x0 x1 x2
set_option maxHeartbeats 4000000 in
set_option maxRecDepth 100000 in
theorem c_X4_requireRange {l : Launch} {Z : Zt} {b : Nat} (hlf : l.stackTraces = false) {M : Mem} {x0 : Int32} {x1 : Int32} {x2 : Int32} {res : ((String ⊕ Unit) × Mem)} (h : f_X4_requireRange M x0 x1 x2 = some res) : Cx' l yX4_requireRange cX4_requireRange 3 (none : Option Jvm.ClassFile.FieldType) rm_X4_requireRange 1 6 Z b [.int x0, .int x1, .int x2] M (voU res.1) res.2 := by
  refine vx_ofW (cc := cX4_requireRange) (maxL := 3) (ret := (none : Option Jvm.ClassFile.FieldType)) (by decide) rfl ?_
  intro p e s m args below meth c s₁ B hml ht hv
  obtain ⟨rfl, hE, hW⟩ := hv
  have C : Cx p s m [.int x0, .int x1, .int x2].toArray c cX4_requireRange RX4 Z b := ⟨B.exec, B.bytes, findClass_of_methodNamed B.named, fun w hw => atoms_spec (ws := Cond.code yX4_requireRange cX4_requireRange 3 (none : Option Jvm.ClassFile.FieldType) :: wsA) B.pre w (List.mem_cons_of_mem _ hw), hE⟩
  have hl := lv_entry [.int x0, .int x1, .int x2] (n := 3) (Nat.le_of_ble_eq_true rfl)
  rw [lg_entry_eq]
  generalize (lg_sl [.int x0, .int x1, .int x2] ++ List.replicate (3 - (lg_sl [.int x0, .int x1, .int x2]).length) Slot.unset).toArray = ls at hl ⊢
  have hl : lv_has ls 3 [(0, .int x0), (1, .int x1), (2, .int x2)] := hl
  exact w_X4_requireRange_0 C hml B.returns B.notSynchronized hlf ht h va_S.rf hW hl
def f_X4_requireClient_0 (M : Mem) (x0 : Int32) : Option ((String ⊕ Unit) × Mem) :=
  bdx (f_X4_requireRange M x0 (0 : Int32) (3 : Int32)) (fun r3 M3 => some (.inr (), M3))
set_option maxHeartbeats 4000000 in
set_option maxRecDepth 100000 in
theorem w_X4_requireClient_0 {p : Program} {l : Launch} {e : Env} {s : State} {m : MethodId} {args : Array Value} {below : List Frame} {meth : Method} {c : Code} {Z : Zt} {b : Nat} (C : Cx p s m args c cX4_requireClient RX4 Z b) (hml : c.maxLocals = 1) (hr : meth.sig.returnType = (none : Option Jvm.ClassFile.FieldType)) (hlk : meth.locks = false) (hlf : l.stackTraces = false) (ht : ∀ x ∈ c.exceptionTable.toList, False) {res : ((String ⊕ Unit) × Mem)} {M : Mem} {x0 : Int32} (h : f_X4_requireClient_0 M x0 = some res) {H : Heap} {locs : List Loc} {ls : Array Slot} (hS : va_S (A0 b) s.heap H locs) (hW : Wd Z b M H) (hl : lv_has ls 1 [(0, .int x0)]) : W p l e rm_X4_requireClient s m args below meth c H locs 0 0 (vx_MQ below (Qx Z b (voU res.1) res.2) (XCx Z b (voU res.1) res.2) args s 1 6 (A0 b)) (F0 m 0 ls []) := by
  unfold f_X4_requireClient_0 at h
  have hx := C.1
  have hb := C.2.1
  refine lv_iload_n hx hb dX4_requireClient_0 rfl (lv_at hl 0 rfl) ?_
  refine lv_iconst (v := (0 : Int32)) hx hb dX4_requireClient_1 (by decide) ?_
  refine lv_iconst (v := (3 : Int32)) hx hb dX4_requireClient_2 (by decide) ?_
  rcases bdx_e h with ⟨E3, M3, hc3, rfl⟩ | ⟨r3, M3, hc3, h⟩
  · exact kX4_64T C hml hl.1 (c_X4_requireRange hlf hc3) ⟨Nat.le_of_ble_eq_true rfl, Nat.le_of_ble_eq_true rfl⟩ ⟨Nat.le_of_ble_eq_true rfl, Nat.le_of_ble_eq_true rfl⟩ (Nat.le_of_ble_eq_true rfl) hS hW dX4_requireClient_3 ht hlk (Nat.le_of_ble_eq_true rfl) (Nat.le_of_ble_eq_true rfl)
  refine kX4_64R C hml hl.1 (c_X4_requireRange hlf hc3) ⟨Nat.le_of_ble_eq_true rfl, Nat.le_of_ble_eq_true rfl⟩ ⟨Nat.le_of_ble_eq_true rfl, Nat.le_of_ble_eq_true rfl⟩ (Nat.le_of_ble_eq_true rfl) hS hW dX4_requireClient_3 (fun H locs hW hS => ?_)
  cases h
  exact ret_xv C hr hlk hS hW dX4_requireClient_6 (Nat.le_of_ble_eq_true rfl) (Nat.le_of_ble_eq_true rfl)
def f_X4_requireClient (M : Mem) (x0 : Int32) : Option ((String ⊕ Unit) × Mem) := f_X4_requireClient_0 M x0
set_option maxHeartbeats 4000000 in
set_option maxRecDepth 100000 in
theorem c_X4_requireClient {l : Launch} {Z : Zt} {b : Nat} (hlf : l.stackTraces = false) {M : Mem} {x0 : Int32} {res : ((String ⊕ Unit) × Mem)} (h : f_X4_requireClient M x0 = some res) : Cx' l yX4_requireClient cX4_requireClient 1 (none : Option Jvm.ClassFile.FieldType) rm_X4_requireClient 1 6 Z b [.int x0] M (voU res.1) res.2 := by
  refine vx_ofW (cc := cX4_requireClient) (maxL := 1) (ret := (none : Option Jvm.ClassFile.FieldType)) (by decide) rfl ?_
  intro p e s m args below meth c s₁ B hml ht hv
  obtain ⟨rfl, hE, hW⟩ := hv
  have C : Cx p s m [.int x0].toArray c cX4_requireClient RX4 Z b := ⟨B.exec, B.bytes, findClass_of_methodNamed B.named, fun w hw => atoms_spec (ws := Cond.code yX4_requireClient cX4_requireClient 1 (none : Option Jvm.ClassFile.FieldType) :: wsA) B.pre w (List.mem_cons_of_mem _ hw), hE⟩
  have hl := lv_entry [.int x0] (n := 1) (Nat.le_of_ble_eq_true rfl)
  rw [lg_entry_eq]
  generalize (lg_sl [.int x0] ++ List.replicate (1 - (lg_sl [.int x0]).length) Slot.unset).toArray = ls at hl ⊢
  have hl : lv_has ls 1 [(0, .int x0)] := hl
  exact w_X4_requireClient_0 C hml B.returns B.notSynchronized hlf ht h va_S.rf hW hl
def f_X4_isPath_17B (K17 : Mem → Int32 → Int32 → Option (Int32 × Mem)) (M : Mem) (x1 : Int32) (x2 : Int32) : Option (Int32 × Mem) :=
  if (4 : Int32) ≤ x2 then some ((1 : Int32), M) else if x1 ≤ 0 then some ((1 : Int32), M) else if (x1 - x1 / (10 : Int32) * (10 : Int32)) = 0 then some ((0 : Int32), M) else K17 M (x1 / (10 : Int32)) (x2 + 1)
def f_X4_isPath_17 : Nat → Mem → Int32 → Int32 → Option (Int32 × Mem)
  | 0 => fun _ _ _ => none
  | n + 1 => f_X4_isPath_17B (f_X4_isPath_17 n)
set_option maxHeartbeats 4000000 in
set_option maxRecDepth 100000 in
theorem w_X4_isPath_17 {p : Program} {l : Launch} {e : Env} {s : State} {m : MethodId} {args : Array Value} {below : List Frame} {meth : Method} {c : Code} {Z : Zt} {b : Nat} (C : Cx p s m args c cX4_isPath RX4 Z b) (hml : c.maxLocals = 3) (hr : meth.sig.returnType = (some .boolean)) (hlk : meth.locks = false) {r' : Int32} {M' : Mem} : ∀ (n : Nat) {M : Mem} {x1 : Int32} {x2 : Int32} (h : f_X4_isPath_17 n M x1 x2 = some (r', M')) {H : Heap} {locs : List Loc} {ls : Array Slot} (hS : va_S (A0 b) s.heap H locs) (hW : Wd Z b M H) (hl : lv_has ls 3 [(1, .int x1), (2, .int x2)]), W p l e rm_X4_isPath s m args below meth c H locs 0 0 (MQ below (Qn Z b (some (.int r')) M') args s 0 0 (A0 b)) (F0 m 17 ls []) := by
  intro n
  induction n with
  | zero =>
    intro M x1 x2 h
    cases h
  | succ n ih =>
    intro M x1 x2 h H locs ls hS hW hl
    have h : f_X4_isPath_17B (f_X4_isPath_17 n) M x1 x2 = some (r', M') := h
    unfold f_X4_isPath_17B at h
    have hK17 := @ih
    have hx := C.1
    have hb := C.2.1
    refine lv_iload_n hx hb dX4_isPath_17 rfl (lv_at hl 1 rfl) ?_
    refine lv_iconst (v := (4 : Int32)) hx hb dX4_isPath_18 (by decide) ?_
    refine lv_icmp_ge (tgt := 46) hx hb dX4_isPath_19 (by decide) (fun c19 => ?_) (fun c19 => ?_)
    · have h := (if_pos c19).symm.trans h
      refine lv_iconst (v := (1 : Int32)) hx hb dX4_isPath_46 (by decide) ?_
      cases h
      exact ret_z C hr hlk (by decide) hS hW dX4_isPath_47
    · have h := (if_neg c19).symm.trans h
      refine lv_iload_n hx hb dX4_isPath_22 rfl (lv_at hl 0 rfl) ?_
      refine lv_if_le (tgt := 46) hx hb dX4_isPath_23 (by decide) (fun c23 => ?_) (fun c23 => ?_)
      · have h := (if_pos c23).symm.trans h
        refine lv_iconst (v := (1 : Int32)) hx hb dX4_isPath_46 (by decide) ?_
        cases h
        exact ret_z C hr hlk (by decide) hS hW dX4_isPath_47
      · have h := (if_neg c23).symm.trans h
        refine lv_iload_n hx hb dX4_isPath_26 rfl (lv_at hl 0 rfl) ?_
        refine lv_bipush (v := (10 : Int32)) hx hb dX4_isPath_27 (by decide) ?_
        refine lv_irem hx hb dX4_isPath_29 (by decide) ?_
        refine lv_if_ne (tgt := 35) hx hb dX4_isPath_30 (by decide) (fun c30 => ?_) (fun c30 => ?_)
        · have h := (if_neg c30).symm.trans h
          refine lv_iload_n hx hb dX4_isPath_35 rfl (lv_at hl 0 rfl) ?_
          refine lv_bipush (v := (10 : Int32)) hx hb dX4_isPath_36 (by decide) ?_
          refine lv_idiv hx hb dX4_isPath_38 (by decide) ?_
          refine lv_istore_n (lv' := [(1, .int (x1 / (10 : Int32))), (2, .int x2)]) hx hb dX4_isPath_39 rfl hl (by decide) rfl (fun ls hl => ?_)
          refine lv_iinc (v := x2 + 1) (lv' := [(2, .int (x2 + 1)), (1, .int (x1 / (10 : Int32)))]) hx hb dX4_isPath_40 hl (k := 1) rfl rfl (by decide) rfl (fun ls hl => ?_)
          refine lv_goto (tgt := 17) hx hb dX4_isPath_43 (by decide) ?_
          exact hK17 h hS hW (lv_sub hl [1, 0] rfl)
        · have h := (if_pos c30).symm.trans h
          refine lv_iconst (v := (0 : Int32)) hx hb dX4_isPath_33 (by decide) ?_
          cases h
          exact ret_z C hr hlk (by decide) hS hW dX4_isPath_34
def f_X4_isPath_0 (M : Mem) (x0 : Int32) : Option (Int32 × Mem) :=
  if x0 < 0 then some ((0 : Int32), M) else if x0 ≤ (9999 : Int32) then f_X4_isPath_17 64 M x0 (0 : Int32) else some ((0 : Int32), M)
set_option maxHeartbeats 4000000 in
set_option maxRecDepth 100000 in
theorem w_X4_isPath_0 {p : Program} {l : Launch} {e : Env} {s : State} {m : MethodId} {args : Array Value} {below : List Frame} {meth : Method} {c : Code} {Z : Zt} {b : Nat} (C : Cx p s m args c cX4_isPath RX4 Z b) (hml : c.maxLocals = 3) (hr : meth.sig.returnType = (some .boolean)) (hlk : meth.locks = false) {r' : Int32} {M' : Mem} {M : Mem} {x0 : Int32} (h : f_X4_isPath_0 M x0 = some (r', M')) {H : Heap} {locs : List Loc} {ls : Array Slot} (hS : va_S (A0 b) s.heap H locs) (hW : Wd Z b M H) (hl : lv_has ls 3 [(0, .int x0)]) : W p l e rm_X4_isPath s m args below meth c H locs 0 0 (MQ below (Qn Z b (some (.int r')) M') args s 0 0 (A0 b)) (F0 m 0 ls []) := by
  unfold f_X4_isPath_0 at h
  have hx := C.1
  have hb := C.2.1
  refine lv_iload_n hx hb dX4_isPath_0 rfl (lv_at hl 0 rfl) ?_
  refine lv_if_lt (tgt := 11) hx hb dX4_isPath_1 (by decide) (fun c1 => ?_) (fun c1 => ?_)
  · have h := (if_pos c1).symm.trans h
    refine lv_iconst (v := (0 : Int32)) hx hb dX4_isPath_11 (by decide) ?_
    cases h
    exact ret_z C hr hlk (by decide) hS hW dX4_isPath_12
  · have h := (if_neg c1).symm.trans h
    refine lv_iload_n hx hb dX4_isPath_4 rfl (lv_at hl 0 rfl) ?_
    refine lv_sipush (v := (9999 : Int32)) hx hb dX4_isPath_5 (by decide) ?_
    refine lv_icmp_le (tgt := 13) hx hb dX4_isPath_8 (by decide) (fun c8 => ?_) (fun c8 => ?_)
    · have h := (if_pos c8).symm.trans h
      refine lv_iload_n hx hb dX4_isPath_13 rfl (lv_at hl 0 rfl) ?_
      refine lv_istore_n (lv' := [(1, .int x0), (0, .int x0)]) hx hb dX4_isPath_14 rfl hl (by decide) rfl (fun ls hl => ?_)
      refine lv_iconst (v := (0 : Int32)) hx hb dX4_isPath_15 (by decide) ?_
      refine lv_istore_n (lv' := [(2, .int (0 : Int32)), (1, .int x0), (0, .int x0)]) hx hb dX4_isPath_16 rfl hl (by decide) rfl (fun ls hl => ?_)
      exact w_X4_isPath_17 C hml hr hlk 64 h hS hW (lv_sub hl [1, 0] rfl)
    · have h := (if_neg c8).symm.trans h
      refine lv_iconst (v := (0 : Int32)) hx hb dX4_isPath_11 (by decide) ?_
      cases h
      exact ret_z C hr hlk (by decide) hS hW dX4_isPath_12
def f_X4_isPath (M : Mem) (x0 : Int32) : Option (Int32 × Mem) := f_X4_isPath_0 M x0
set_option maxHeartbeats 4000000 in
set_option maxRecDepth 100000 in
theorem c_X4_isPath {l : Launch} {Z : Zt} {b : Nat} {M : Mem} {x0 : Int32} {r' : Int32} {M' : Mem} (h : f_X4_isPath M x0 = some (r', M')) : Ct l yX4_isPath cX4_isPath 3 (some .boolean) rm_X4_isPath Z b [.int x0] M (some (.int r')) M' := by
  refine Met.ofW (cc := cX4_isPath) (maxL := 3) (ret := (some .boolean)) (by decide) rfl ?_
  intro p e s m args below meth c s₁ B hml hv
  obtain ⟨rfl, hE, hW⟩ := hv
  have C : Cx p s m [.int x0].toArray c cX4_isPath RX4 Z b := ⟨B.exec, B.bytes, findClass_of_methodNamed B.named, fun w hw => atoms_spec (ws := Cond.code yX4_isPath cX4_isPath 3 (some .boolean) :: wsA) B.pre w (List.mem_cons_of_mem _ hw), hE⟩
  have hl := lv_entry [.int x0] (n := 3) (Nat.le_of_ble_eq_true rfl)
  rw [lg_entry_eq]
  generalize (lg_sl [.int x0] ++ List.replicate (3 - (lg_sl [.int x0]).length) Slot.unset).toArray = ls at hl ⊢
  have hl : lv_has ls 3 [(0, .int x0)] := hl
  exact w_X4_isPath_0 C hml B.returns B.notSynchronized h va_S.rf hW hl
def f_X4_requirePath_0 (M : Mem) (x0 : Int32) : Option ((String ⊕ Unit) × Mem) :=
  bd2 (f_X4_isPath M x0) (fun r1 M1 => if r1 = 0 then some (.inl "java/lang/IllegalArgumentException", M1) else some (.inr (), M1))
set_option maxHeartbeats 4000000 in
set_option maxRecDepth 100000 in
theorem w_X4_requirePath_0 {p : Program} {l : Launch} {e : Env} {s : State} {m : MethodId} {args : Array Value} {below : List Frame} {meth : Method} {c : Code} {Z : Zt} {b : Nat} (C : Cx p s m args c cX4_requirePath RX4 Z b) (hml : c.maxLocals = 1) (hr : meth.sig.returnType = (none : Option Jvm.ClassFile.FieldType)) (hlk : meth.locks = false) (hlf : l.stackTraces = false) (ht : ∀ x ∈ c.exceptionTable.toList, False) {res : ((String ⊕ Unit) × Mem)} {M : Mem} {x0 : Int32} (h : f_X4_requirePath_0 M x0 = some res) {H : Heap} {locs : List Loc} {ls : Array Slot} (hS : va_S (A0 b) s.heap H locs) (hW : Wd Z b M H) (hl : lv_has ls 1 [(0, .int x0)]) : W p l e rm_X4_requirePath s m args below meth c H locs 0 0 (vx_MQ below (Qx Z b (voU res.1) res.2) (XCx Z b (voU res.1) res.2) args s 1 6 (A0 b)) (F0 m 0 ls []) := by
  unfold f_X4_requirePath_0 at h
  have hx := C.1
  have hb := C.2.1
  refine lv_iload_n hx hb dX4_requirePath_0 rfl (lv_at hl 0 rfl) ?_
  obtain ⟨r1, M1, hc1, h⟩ := bd2_e h
  refine kX4_218 C hml hl.1 (c_X4_isPath hc1) ⟨Nat.le_of_ble_eq_true rfl, Nat.le_of_ble_eq_true rfl⟩ ⟨Nat.le_of_ble_eq_true rfl, Nat.le_of_ble_eq_true rfl⟩ (Nat.le_of_ble_eq_true rfl) hS hW dX4_requirePath_1 (fun H locs hW hS => ?_)
  refine lv_if_ne (tgt := 17) hx hb dX4_requirePath_4 (by decide) (fun c4 => ?_) (fun c4 => ?_)
  · have h := (if_neg c4).symm.trans h
    cases h
    exact ret_xv C hr hlk hS hW dX4_requirePath_17 (Nat.le_of_ble_eq_true rfl) (Nat.le_of_ble_eq_true rfl)
  · have h := (if_pos c4).symm.trans h
    cases h
    exact thA (is := 221) (text := "no path") hlf C ht hlk (by decide +kernel) hS hW (hl.1.trans hml.symm) dX4_requirePath_7 dX4_requirePath_10 dX4_requirePath_11 dX4_requirePath_13 dX4_requirePath_16 ⟨Nat.le_of_ble_eq_true rfl, Nat.le_of_ble_eq_true rfl⟩ ⟨Nat.le_of_ble_eq_true rfl, Nat.le_of_ble_eq_true rfl⟩ (Nat.le_of_ble_eq_true rfl) (Nat.le_of_ble_eq_true rfl)
def f_X4_requirePath (M : Mem) (x0 : Int32) : Option ((String ⊕ Unit) × Mem) := f_X4_requirePath_0 M x0
set_option maxHeartbeats 4000000 in
set_option maxRecDepth 100000 in
theorem c_X4_requirePath {l : Launch} {Z : Zt} {b : Nat} (hlf : l.stackTraces = false) {M : Mem} {x0 : Int32} {res : ((String ⊕ Unit) × Mem)} (h : f_X4_requirePath M x0 = some res) : Cx' l yX4_requirePath cX4_requirePath 1 (none : Option Jvm.ClassFile.FieldType) rm_X4_requirePath 1 6 Z b [.int x0] M (voU res.1) res.2 := by
  refine vx_ofW (cc := cX4_requirePath) (maxL := 1) (ret := (none : Option Jvm.ClassFile.FieldType)) (by decide) rfl ?_
  intro p e s m args below meth c s₁ B hml ht hv
  obtain ⟨rfl, hE, hW⟩ := hv
  have C : Cx p s m [.int x0].toArray c cX4_requirePath RX4 Z b := ⟨B.exec, B.bytes, findClass_of_methodNamed B.named, fun w hw => atoms_spec (ws := Cond.code yX4_requirePath cX4_requirePath 1 (none : Option Jvm.ClassFile.FieldType) :: wsA) B.pre w (List.mem_cons_of_mem _ hw), hE⟩
  have hl := lv_entry [.int x0] (n := 1) (Nat.le_of_ble_eq_true rfl)
  rw [lg_entry_eq]
  generalize (lg_sl [.int x0] ++ List.replicate (1 - (lg_sl [.int x0]).length) Slot.unset).toArray = ls at hl ⊢
  have hl : lv_has ls 1 [(0, .int x0)] := hl
  exact w_X4_requirePath_0 C hml B.returns B.notSynchronized hlf ht h va_S.rf hW hl
def f_X4_requirePathBelowTop_0 (M : Mem) (x0 : Int32) : Option ((String ⊕ Unit) × Mem) :=
  bdx (f_X4_requirePath M x0) (fun r1 M1 => if x0 = 0 then some (.inl "java/lang/IllegalArgumentException", M1) else some (.inr (), M1))
set_option maxHeartbeats 4000000 in
set_option maxRecDepth 100000 in
theorem w_X4_requirePathBelowTop_0 {p : Program} {l : Launch} {e : Env} {s : State} {m : MethodId} {args : Array Value} {below : List Frame} {meth : Method} {c : Code} {Z : Zt} {b : Nat} (C : Cx p s m args c cX4_requirePathBelowTop RX4 Z b) (hml : c.maxLocals = 1) (hr : meth.sig.returnType = (none : Option Jvm.ClassFile.FieldType)) (hlk : meth.locks = false) (hlf : l.stackTraces = false) (ht : ∀ x ∈ c.exceptionTable.toList, False) {res : ((String ⊕ Unit) × Mem)} {M : Mem} {x0 : Int32} (h : f_X4_requirePathBelowTop_0 M x0 = some res) {H : Heap} {locs : List Loc} {ls : Array Slot} (hS : va_S (A0 b) s.heap H locs) (hW : Wd Z b M H) (hl : lv_has ls 1 [(0, .int x0)]) : W p l e rm_X4_requirePathBelowTop s m args below meth c H locs 0 0 (vx_MQ below (Qx Z b (voU res.1) res.2) (XCx Z b (voU res.1) res.2) args s 2 12 (A0 b)) (F0 m 0 ls []) := by
  unfold f_X4_requirePathBelowTop_0 at h
  have hx := C.1
  have hb := C.2.1
  refine lv_iload_n hx hb dX4_requirePathBelowTop_0 rfl (lv_at hl 0 rfl) ?_
  rcases bdx_e h with ⟨E1, M1, hc1, rfl⟩ | ⟨r1, M1, hc1, h⟩
  · exact kX4_123T C hml hl.1 (c_X4_requirePath hlf hc1) ⟨Nat.le_of_ble_eq_true rfl, Nat.le_of_ble_eq_true rfl⟩ ⟨Nat.le_of_ble_eq_true rfl, Nat.le_of_ble_eq_true rfl⟩ (Nat.le_of_ble_eq_true rfl) hS hW dX4_requirePathBelowTop_1 ht hlk (Nat.le_of_ble_eq_true rfl) (Nat.le_of_ble_eq_true rfl)
  refine kX4_123R C hml hl.1 (c_X4_requirePath hlf hc1) ⟨Nat.le_of_ble_eq_true rfl, Nat.le_of_ble_eq_true rfl⟩ ⟨Nat.le_of_ble_eq_true rfl, Nat.le_of_ble_eq_true rfl⟩ (Nat.le_of_ble_eq_true rfl) hS hW dX4_requirePathBelowTop_1 (fun H locs hW hS => ?_)
  refine lv_iload_n hx hb dX4_requirePathBelowTop_4 rfl (lv_at hl 0 rfl) ?_
  refine lv_if_ne (tgt := 18) hx hb dX4_requirePathBelowTop_5 (by decide) (fun c5 => ?_) (fun c5 => ?_)
  · have h := (if_neg c5).symm.trans h
    cases h
    exact ret_xv C hr hlk hS hW dX4_requirePathBelowTop_18 (Nat.le_of_ble_eq_true rfl) (Nat.le_of_ble_eq_true rfl)
  · have h := (if_pos c5).symm.trans h
    cases h
    exact thA (is := 223) (text := "the top can\'t be asked for here") hlf C ht hlk (by decide +kernel) hS hW (hl.1.trans hml.symm) dX4_requirePathBelowTop_8 dX4_requirePathBelowTop_11 dX4_requirePathBelowTop_12 dX4_requirePathBelowTop_14 dX4_requirePathBelowTop_17 ⟨Nat.le_of_ble_eq_true rfl, Nat.le_of_ble_eq_true rfl⟩ ⟨Nat.le_of_ble_eq_true rfl, Nat.le_of_ble_eq_true rfl⟩ (Nat.le_of_ble_eq_true rfl) (Nat.le_of_ble_eq_true rfl)
def f_X4_requirePathBelowTop (M : Mem) (x0 : Int32) : Option ((String ⊕ Unit) × Mem) := f_X4_requirePathBelowTop_0 M x0
set_option maxHeartbeats 4000000 in
set_option maxRecDepth 100000 in
theorem c_X4_requirePathBelowTop {l : Launch} {Z : Zt} {b : Nat} (hlf : l.stackTraces = false) {M : Mem} {x0 : Int32} {res : ((String ⊕ Unit) × Mem)} (h : f_X4_requirePathBelowTop M x0 = some res) : Cx' l yX4_requirePathBelowTop cX4_requirePathBelowTop 1 (none : Option Jvm.ClassFile.FieldType) rm_X4_requirePathBelowTop 2 12 Z b [.int x0] M (voU res.1) res.2 := by
  refine vx_ofW (cc := cX4_requirePathBelowTop) (maxL := 1) (ret := (none : Option Jvm.ClassFile.FieldType)) (by decide) rfl ?_
  intro p e s m args below meth c s₁ B hml ht hv
  obtain ⟨rfl, hE, hW⟩ := hv
  have C : Cx p s m [.int x0].toArray c cX4_requirePathBelowTop RX4 Z b := ⟨B.exec, B.bytes, findClass_of_methodNamed B.named, fun w hw => atoms_spec (ws := Cond.code yX4_requirePathBelowTop cX4_requirePathBelowTop 1 (none : Option Jvm.ClassFile.FieldType) :: wsA) B.pre w (List.mem_cons_of_mem _ hw), hE⟩
  have hl := lv_entry [.int x0] (n := 1) (Nat.le_of_ble_eq_true rfl)
  rw [lg_entry_eq]
  generalize (lg_sl [.int x0] ++ List.replicate (1 - (lg_sl [.int x0]).length) Slot.unset).toArray = ls at hl ⊢
  have hl : lv_has ls 1 [(0, .int x0)] := hl
  exact w_X4_requirePathBelowTop_0 C hml B.returns B.notSynchronized hlf ht h va_S.rf hW hl
def f_X4_requireNotNegative_0 (M : Mem) (x0 : Int32) : Option ((String ⊕ Unit) × Mem) :=
  if 0 ≤ x0 then some (.inr (), M) else some (.inl "java/lang/IllegalArgumentException", M)
set_option maxHeartbeats 4000000 in
set_option maxRecDepth 100000 in
theorem w_X4_requireNotNegative_0 {p : Program} {l : Launch} {e : Env} {s : State} {m : MethodId} {args : Array Value} {below : List Frame} {meth : Method} {c : Code} {Z : Zt} {b : Nat} (C : Cx p s m args c cX4_requireNotNegative RX4 Z b) (hml : c.maxLocals = 1) (hr : meth.sig.returnType = (none : Option Jvm.ClassFile.FieldType)) (hlk : meth.locks = false) (hlf : l.stackTraces = false) (ht : ∀ x ∈ c.exceptionTable.toList, False) {res : ((String ⊕ Unit) × Mem)} {M : Mem} {x0 : Int32} (h : f_X4_requireNotNegative_0 M x0 = some res) {H : Heap} {locs : List Loc} {ls : Array Slot} (hS : va_S (A0 b) s.heap H locs) (hW : Wd Z b M H) (hl : lv_has ls 1 [(0, .int x0)]) : W p l e rm_X4_requireNotNegative s m args below meth c H locs 0 0 (vx_MQ below (Qx Z b (voU res.1) res.2) (XCx Z b (voU res.1) res.2) args s 1 6 (A0 b)) (F0 m 0 ls []) := by
  unfold f_X4_requireNotNegative_0 at h
  have hx := C.1
  have hb := C.2.1
  refine lv_iload_n hx hb dX4_requireNotNegative_0 rfl (lv_at hl 0 rfl) ?_
  refine lv_if_ge (tgt := 14) hx hb dX4_requireNotNegative_1 (by decide) (fun c1 => ?_) (fun c1 => ?_)
  · have h := (if_pos c1).symm.trans h
    cases h
    exact ret_xv C hr hlk hS hW dX4_requireNotNegative_14 (Nat.le_of_ble_eq_true rfl) (Nat.le_of_ble_eq_true rfl)
  · have h := (if_neg c1).symm.trans h
    cases h
    exact thA (is := 216) (text := "an argument is below 0") hlf C ht hlk (by decide +kernel) hS hW (hl.1.trans hml.symm) dX4_requireNotNegative_4 dX4_requireNotNegative_7 dX4_requireNotNegative_8 dX4_requireNotNegative_10 dX4_requireNotNegative_13 ⟨Nat.le_of_ble_eq_true rfl, Nat.le_of_ble_eq_true rfl⟩ ⟨Nat.le_of_ble_eq_true rfl, Nat.le_of_ble_eq_true rfl⟩ (Nat.le_of_ble_eq_true rfl) (Nat.le_of_ble_eq_true rfl)
def f_X4_requireNotNegative (M : Mem) (x0 : Int32) : Option ((String ⊕ Unit) × Mem) := f_X4_requireNotNegative_0 M x0
set_option maxHeartbeats 4000000 in
set_option maxRecDepth 100000 in
theorem c_X4_requireNotNegative {l : Launch} {Z : Zt} {b : Nat} (hlf : l.stackTraces = false) {M : Mem} {x0 : Int32} {res : ((String ⊕ Unit) × Mem)} (h : f_X4_requireNotNegative M x0 = some res) : Cx' l yX4_requireNotNegative cX4_requireNotNegative 1 (none : Option Jvm.ClassFile.FieldType) rm_X4_requireNotNegative 1 6 Z b [.int x0] M (voU res.1) res.2 := by
  refine vx_ofW (cc := cX4_requireNotNegative) (maxL := 1) (ret := (none : Option Jvm.ClassFile.FieldType)) (by decide) rfl ?_
  intro p e s m args below meth c s₁ B hml ht hv
  obtain ⟨rfl, hE, hW⟩ := hv
  have C : Cx p s m [.int x0].toArray c cX4_requireNotNegative RX4 Z b := ⟨B.exec, B.bytes, findClass_of_methodNamed B.named, fun w hw => atoms_spec (ws := Cond.code yX4_requireNotNegative cX4_requireNotNegative 1 (none : Option Jvm.ClassFile.FieldType) :: wsA) B.pre w (List.mem_cons_of_mem _ hw), hE⟩
  have hl := lv_entry [.int x0] (n := 1) (Nat.le_of_ble_eq_true rfl)
  rw [lg_entry_eq]
  generalize (lg_sl [.int x0] ++ List.replicate (1 - (lg_sl [.int x0]).length) Slot.unset).toArray = ls at hl ⊢
  have hl : lv_has ls 1 [(0, .int x0)] := hl
  exact w_X4_requireNotNegative_0 C hml B.returns B.notSynchronized hlf ht h va_S.rf hW hl
def f_X4_parentOf_0 (M : Mem) (x0 : Int32) : Option (Int32 × Mem) :=
  some (x0 / (10 : Int32), M)
set_option maxHeartbeats 4000000 in
set_option maxRecDepth 100000 in
theorem w_X4_parentOf_0 {p : Program} {l : Launch} {e : Env} {s : State} {m : MethodId} {args : Array Value} {below : List Frame} {meth : Method} {c : Code} {Z : Zt} {b : Nat} (C : Cx p s m args c cX4_parentOf RX4 Z b) (hml : c.maxLocals = 1) (hr : meth.sig.returnType = (some .int)) (hlk : meth.locks = false) {r' : Int32} {M' : Mem} {M : Mem} {x0 : Int32} (h : f_X4_parentOf_0 M x0 = some (r', M')) {H : Heap} {locs : List Loc} {ls : Array Slot} (hS : va_S (A0 b) s.heap H locs) (hW : Wd Z b M H) (hl : lv_has ls 1 [(0, .int x0)]) : W p l e rm_X4_parentOf s m args below meth c H locs 0 0 (MQ below (Qn Z b (some (.int r')) M') args s 0 0 (A0 b)) (F0 m 0 ls []) := by
  unfold f_X4_parentOf_0 at h
  have hx := C.1
  have hb := C.2.1
  refine lv_iload_n hx hb dX4_parentOf_0 rfl (lv_at hl 0 rfl) ?_
  refine lv_bipush (v := (10 : Int32)) hx hb dX4_parentOf_1 (by decide) ?_
  refine lv_idiv hx hb dX4_parentOf_3 (by decide) ?_
  cases h
  exact ret_i C hr hlk hS hW dX4_parentOf_4
def f_X4_parentOf (M : Mem) (x0 : Int32) : Option (Int32 × Mem) := f_X4_parentOf_0 M x0
set_option maxHeartbeats 4000000 in
set_option maxRecDepth 100000 in
theorem c_X4_parentOf {l : Launch} {Z : Zt} {b : Nat} {M : Mem} {x0 : Int32} {r' : Int32} {M' : Mem} (h : f_X4_parentOf M x0 = some (r', M')) : Ct l yX4_parentOf cX4_parentOf 1 (some .int) rm_X4_parentOf Z b [.int x0] M (some (.int r')) M' := by
  refine Met.ofW (cc := cX4_parentOf) (maxL := 1) (ret := (some .int)) (by decide) rfl ?_
  intro p e s m args below meth c s₁ B hml hv
  obtain ⟨rfl, hE, hW⟩ := hv
  have C : Cx p s m [.int x0].toArray c cX4_parentOf RX4 Z b := ⟨B.exec, B.bytes, findClass_of_methodNamed B.named, fun w hw => atoms_spec (ws := Cond.code yX4_parentOf cX4_parentOf 1 (some .int) :: wsA) B.pre w (List.mem_cons_of_mem _ hw), hE⟩
  have hl := lv_entry [.int x0] (n := 1) (Nat.le_of_ble_eq_true rfl)
  rw [lg_entry_eq]
  generalize (lg_sl [.int x0] ++ List.replicate (1 - (lg_sl [.int x0]).length) Slot.unset).toArray = ls at hl ⊢
  have hl : lv_has ls 1 [(0, .int x0)] := hl
  exact w_X4_parentOf_0 C hml B.returns B.notSynchronized h va_S.rf hW hl
def f_X3_indexOf_2B (K2 : Mem → Int32 → Int32 → Option (Int32 × Mem)) (M : Mem) (x1 : Int32) (x2 : Int32) : Option (Int32 × Mem) :=
  if (M 2 0) ≤ x2 then some ((-1 : Int32), M) else if (60 : Int32) ≤ x2 then some ((-1 : Int32), M) else if x2 < 0 ∨ 60 ≤ x2.toNatClampNeg then none else if 60 ≤ rk M x2.toNatClampNeg then none else if (M 4 (rk M x2.toNatClampNeg)) = x1 then some (x2, M) else K2 M x1 (x2 + 1)
def f_X3_indexOf_2 : Nat → Mem → Int32 → Int32 → Option (Int32 × Mem)
  | 0 => fun _ _ _ => none
  | n + 1 => f_X3_indexOf_2B (f_X3_indexOf_2 n)
set_option maxHeartbeats 4000000 in
set_option maxRecDepth 100000 in
theorem w_X3_indexOf_2 {p : Program} {l : Launch} {e : Env} {s : State} {m : MethodId} {args : Array Value} {below : List Frame} {meth : Method} {c : Code} {Z : Zt} {b : Nat} (C : Cx p s m args c cX3_indexOf RX3 Z b) (hml : c.maxLocals = 3) (hr : meth.sig.returnType = (some .int)) (hlk : meth.locks = false) {r' : Int32} {M' : Mem} : ∀ (n : Nat) {M : Mem} {x1 : Int32} {x2 : Int32} (h : f_X3_indexOf_2 n M x1 x2 = some (r', M')) {H : Heap} {locs : List Loc} {ls : Array Slot} (hS : va_S (A0 b) s.heap H locs) (hW : Wd Z b M H) (hl : lv_has ls 3 [(0, .ref (b + 1)), (1, .int x1), (2, .int x2)]), W p l e rm_X3_indexOf s m args below meth c H locs 0 0 (MQ below (Qn Z b (some (.int r')) M') args s 0 0 (A0 b)) (F0 m 2 ls []) := by
  intro n
  induction n with
  | zero =>
    intro M x1 x2 h
    cases h
  | succ n ih =>
    intro M x1 x2 h H locs ls hS hW hl
    have h : f_X3_indexOf_2B (f_X3_indexOf_2 n) M x1 x2 = some (r', M') := h
    unfold f_X3_indexOf_2B at h
    have hK2 := @ih
    have hx := C.1
    have hb := C.2.1
    refine lv_iload_n hx hb dX3_indexOf_2 rfl (lv_at hl 2 rfl) ?_
    refine lv_aload_n hx hb dX3_indexOf_3 rfl (lv_at hl 0 rfl) ?_
    refine gX3_18 C hW dX3_indexOf_4 ?_
    refine lv_icmp_ge (tgt := 40) hx hb dX3_indexOf_7 (by decide) (fun c7 => ?_) (fun c7 => ?_)
    · have h := (if_pos c7).symm.trans h
      refine lv_iconst (v := (-1 : Int32)) hx hb dX3_indexOf_40 (by decide) ?_
      cases h
      exact ret_i C hr hlk hS hW dX3_indexOf_41
    · have h := (if_neg c7).symm.trans h
      refine lv_iload_n hx hb dX3_indexOf_10 rfl (lv_at hl 2 rfl) ?_
      refine lv_aload_n hx hb dX3_indexOf_11 rfl (lv_at hl 0 rfl) ?_
      refine gX3_11 C hW dX3_indexOf_12 ?_
      refine alen_2 C hW dX3_indexOf_15 ?_
      refine lv_icmp_ge (tgt := 40) hx hb dX3_indexOf_16 (by decide) (fun c16 => ?_) (fun c16 => ?_)
      · have h := (if_pos c16).symm.trans h
        refine lv_iconst (v := (-1 : Int32)) hx hb dX3_indexOf_40 (by decide) ?_
        cases h
        exact ret_i C hr hlk hS hW dX3_indexOf_41
      · have h := (if_neg c16).symm.trans h
        refine lv_aload_n hx hb dX3_indexOf_19 rfl (lv_at hl 0 rfl) ?_
        refine gX3_11 C hW dX3_indexOf_20 ?_
        refine lv_iload_n hx hb dX3_indexOf_23 rfl (lv_at hl 2 rfl) ?_
        obtain ⟨g24, h⟩ := gd h
        obtain ⟨gr24, h⟩ := gd h
        have hr24 := Nat.lt_of_not_le gr24
        refine ald_row C hW g24 dX3_indexOf_24 ?_
        refine gX3_22 hr24 C hW dX3_indexOf_25 ?_
        refine lv_iload_n hx hb dX3_indexOf_28 rfl (lv_at hl 1 rfl) ?_
        refine lv_icmp_ne (tgt := 34) hx hb dX3_indexOf_29 (by decide) (fun c29 => ?_) (fun c29 => ?_)
        · have h := (if_neg c29).symm.trans h
          refine lv_iinc (v := x2 + 1) (lv' := [(2, .int (x2 + 1)), (0, .ref (b + 1)), (1, .int x1)]) hx hb dX3_indexOf_34 hl (k := 2) rfl rfl (by decide) rfl (fun ls hl => ?_)
          refine lv_goto (tgt := 2) hx hb dX3_indexOf_37 (by decide) ?_
          exact hK2 h hS hW (lv_sub hl [1, 2, 0] rfl)
        · have h := (if_pos c29).symm.trans h
          refine lv_iload_n hx hb dX3_indexOf_32 rfl (lv_at hl 2 rfl) ?_
          cases h
          exact ret_i C hr hlk hS hW dX3_indexOf_33
def f_X3_indexOf_0 (M : Mem) (x1 : Int32) : Option (Int32 × Mem) :=
  f_X3_indexOf_2 64 M x1 (0 : Int32)
set_option maxHeartbeats 4000000 in
set_option maxRecDepth 100000 in
theorem w_X3_indexOf_0 {p : Program} {l : Launch} {e : Env} {s : State} {m : MethodId} {args : Array Value} {below : List Frame} {meth : Method} {c : Code} {Z : Zt} {b : Nat} (C : Cx p s m args c cX3_indexOf RX3 Z b) (hml : c.maxLocals = 3) (hr : meth.sig.returnType = (some .int)) (hlk : meth.locks = false) {r' : Int32} {M' : Mem} {M : Mem} {x1 : Int32} (h : f_X3_indexOf_0 M x1 = some (r', M')) {H : Heap} {locs : List Loc} {ls : Array Slot} (hS : va_S (A0 b) s.heap H locs) (hW : Wd Z b M H) (hl : lv_has ls 3 [(0, .ref (b + 1)), (1, .int x1)]) : W p l e rm_X3_indexOf s m args below meth c H locs 0 0 (MQ below (Qn Z b (some (.int r')) M') args s 0 0 (A0 b)) (F0 m 0 ls []) := by
  unfold f_X3_indexOf_0 at h
  have hx := C.1
  have hb := C.2.1
  refine lv_iconst (v := (0 : Int32)) hx hb dX3_indexOf_0 (by decide) ?_
  refine lv_istore_n (lv' := [(2, .int (0 : Int32)), (0, .ref (b + 1)), (1, .int x1)]) hx hb dX3_indexOf_1 rfl hl (by decide) rfl (fun ls hl => ?_)
  exact w_X3_indexOf_2 C hml hr hlk 64 h hS hW (lv_sub hl [1, 2, 0] rfl)
def f_X3_indexOf (M : Mem) (x1 : Int32) : Option (Int32 × Mem) := f_X3_indexOf_0 M x1
set_option maxHeartbeats 4000000 in
set_option maxRecDepth 100000 in
theorem c_X3_indexOf {l : Launch} {Z : Zt} {b : Nat} {M : Mem} {x1 : Int32} {r' : Int32} {M' : Mem} (h : f_X3_indexOf M x1 = some (r', M')) : Ct l yX3_indexOf cX3_indexOf 3 (some .int) rm_X3_indexOf Z b [.ref (b + 1), .int x1] M (some (.int r')) M' := by
  refine Met.ofW (cc := cX3_indexOf) (maxL := 3) (ret := (some .int)) (by decide) rfl ?_
  intro p e s m args below meth c s₁ B hml hv
  obtain ⟨rfl, hE, hW⟩ := hv
  have C : Cx p s m [.ref (b + 1), .int x1].toArray c cX3_indexOf RX3 Z b := ⟨B.exec, B.bytes, findClass_of_methodNamed B.named, fun w hw => atoms_spec (ws := Cond.code yX3_indexOf cX3_indexOf 3 (some .int) :: wsA) B.pre w (List.mem_cons_of_mem _ hw), hE⟩
  have hl := lv_entry [.ref (b + 1), .int x1] (n := 3) (Nat.le_of_ble_eq_true rfl)
  rw [lg_entry_eq]
  generalize (lg_sl [.ref (b + 1), .int x1] ++ List.replicate (3 - (lg_sl [.ref (b + 1), .int x1]).length) Slot.unset).toArray = ls at hl ⊢
  have hl : lv_has ls 3 [(0, .ref (b + 1)), (1, .int x1)] := hl
  exact w_X3_indexOf_0 C hml B.returns B.notSynchronized h va_S.rf hW hl
def f_X3_find_0 (M : Mem) (x1 : Int32) : Option (Option Nat × Mem) :=
  bd2 (f_X3_indexOf M x1) (fun r2 M2 => if r2 < 0 then some (none, M2) else if r2 < (60 : Int32) then (if r2 < 0 ∨ 60 ≤ r2.toNatClampNeg then none else if 60 ≤ rk M2 r2.toNatClampNeg then none else some (some (rk M2 r2.toNatClampNeg), M2)) else some (none, M2))
set_option maxHeartbeats 4000000 in
set_option maxRecDepth 100000 in
theorem w_X3_find_0 {p : Program} {l : Launch} {e : Env} {s : State} {m : MethodId} {args : Array Value} {below : List Frame} {meth : Method} {c : Code} {Z : Zt} {b : Nat} (C : Cx p s m args c cX3_find RX3 Z b) (hml : c.maxLocals = 3) (hr : meth.sig.returnType = (some (.object "ShelfServer$Resource"))) (hlk : meth.locks = false) {r' : Option Nat} {M' : Mem} {M : Mem} {x1 : Int32} (h : f_X3_find_0 M x1 = some (r', M')) {H : Heap} {locs : List Loc} {ls : Array Slot} (hS : va_S (A0 b) s.heap H locs) (hW : Wd Z b M H) (hl : lv_has ls 3 [(0, .ref (b + 1)), (1, .int x1)]) : W p l e rm_X3_find s m args below meth c H locs 0 0 (MQ below (Qn Z b (some (rR b r')) M') args s 0 0 (A0 b)) (F0 m 0 ls []) := by
  unfold f_X3_find_0 at h
  have hx := C.1
  have hb := C.2.1
  refine lv_aload_n hx hb dX3_find_0 rfl (lv_at hl 0 rfl) ?_
  refine lv_iload_n hx hb dX3_find_1 rfl (lv_at hl 1 rfl) ?_
  obtain ⟨r2, M2, hc2, h⟩ := bd2_e h
  refine kX3_25 C hml hl.1 (c_X3_indexOf hc2) ⟨Nat.le_of_ble_eq_true rfl, Nat.le_of_ble_eq_true rfl⟩ ⟨Nat.le_of_ble_eq_true rfl, Nat.le_of_ble_eq_true rfl⟩ (Nat.le_of_ble_eq_true rfl) hS hW dX3_find_2 (fun H locs hW hS => ?_)
  refine lv_istore_n (lv' := [(2, .int r2), (0, .ref (b + 1)), (1, .int x1)]) hx hb dX3_find_5 rfl hl (by decide) rfl (fun ls hl => ?_)
  refine lv_iload_n hx hb dX3_find_6 rfl (lv_at hl 0 rfl) ?_
  refine lv_if_lt (tgt := 19) hx hb dX3_find_7 (by decide) (fun c7 => ?_) (fun c7 => ?_)
  · have h := (if_pos c7).symm.trans h
    refine lv_null hx hb dX3_find_19 ?_
    refine lv_goto (tgt := 29) hx hb dX3_find_20 (by decide) ?_
    cases h
    exact ret_q C hr hlk (Or.inl rfl) hS hW dX3_find_29
  · have h := (if_neg c7).symm.trans h
    refine lv_iload_n hx hb dX3_find_10 rfl (lv_at hl 0 rfl) ?_
    refine lv_aload_n hx hb dX3_find_11 rfl (lv_at hl 1 rfl) ?_
    refine gX3_11 C hW dX3_find_12 ?_
    refine alen_2 C hW dX3_find_15 ?_
    refine lv_icmp_lt (tgt := 23) hx hb dX3_find_16 (by decide) (fun c16 => ?_) (fun c16 => ?_)
    · have h := (if_pos c16).symm.trans h
      refine lv_aload_n hx hb dX3_find_23 rfl (lv_at hl 1 rfl) ?_
      refine gX3_11 C hW dX3_find_24 ?_
      refine lv_iload_n hx hb dX3_find_27 rfl (lv_at hl 0 rfl) ?_
      obtain ⟨g28, h⟩ := gd h
      obtain ⟨gr28, h⟩ := gd h
      have hr28 := Nat.lt_of_not_le gr28
      refine ald_row C hW g28 dX3_find_28 ?_
      cases h
      exact ret_q C hr hlk (Or.inr ⟨_, rfl⟩) hS hW dX3_find_29
    · have h := (if_neg c16).symm.trans h
      refine lv_null hx hb dX3_find_19 ?_
      refine lv_goto (tgt := 29) hx hb dX3_find_20 (by decide) ?_
      cases h
      exact ret_q C hr hlk (Or.inl rfl) hS hW dX3_find_29
def f_X3_find (M : Mem) (x1 : Int32) : Option (Option Nat × Mem) := f_X3_find_0 M x1
set_option maxHeartbeats 4000000 in
set_option maxRecDepth 100000 in
theorem c_X3_find {l : Launch} {Z : Zt} {b : Nat} {M : Mem} {x1 : Int32} {r' : Option Nat} {M' : Mem} (h : f_X3_find M x1 = some (r', M')) : Ct l yX3_find cX3_find 3 (some (.object "ShelfServer$Resource")) rm_X3_find Z b [.ref (b + 1), .int x1] M (some (rR b r')) M' := by
  refine Met.ofW (cc := cX3_find) (maxL := 3) (ret := (some (.object "ShelfServer$Resource"))) (by decide) rfl ?_
  intro p e s m args below meth c s₁ B hml hv
  obtain ⟨rfl, hE, hW⟩ := hv
  have C : Cx p s m [.ref (b + 1), .int x1].toArray c cX3_find RX3 Z b := ⟨B.exec, B.bytes, findClass_of_methodNamed B.named, fun w hw => atoms_spec (ws := Cond.code yX3_find cX3_find 3 (some (.object "ShelfServer$Resource")) :: wsA) B.pre w (List.mem_cons_of_mem _ hw), hE⟩
  have hl := lv_entry [.ref (b + 1), .int x1] (n := 3) (Nat.le_of_ble_eq_true rfl)
  rw [lg_entry_eq]
  generalize (lg_sl [.ref (b + 1), .int x1] ++ List.replicate (3 - (lg_sl [.ref (b + 1), .int x1]).length) Slot.unset).toArray = ls at hl ⊢
  have hl : lv_has ls 3 [(0, .ref (b + 1)), (1, .int x1)] := hl
  exact w_X3_find_0 C hml B.returns B.notSynchronized h va_S.rf hW hl
def f_X3_kindAt_0 (M : Mem) (x1 : Int32) : Option (Int32 × Mem) :=
  if x1 = 0 then some ((2 : Int32), M) else bd2 (f_X3_find M x1) (fun q8 M8 => oe q8 (some ((-1 : Int32), M8)) (fun k8 => if 60 ≤ k8 then none else some (M8 5 k8, M8)))
set_option maxHeartbeats 4000000 in
set_option maxRecDepth 100000 in
theorem w_X3_kindAt_0 {p : Program} {l : Launch} {e : Env} {s : State} {m : MethodId} {args : Array Value} {below : List Frame} {meth : Method} {c : Code} {Z : Zt} {b : Nat} (C : Cx p s m args c cX3_kindAt RX3 Z b) (hml : c.maxLocals = 3) (hr : meth.sig.returnType = (some .int)) (hlk : meth.locks = false) {r' : Int32} {M' : Mem} {M : Mem} {x1 : Int32} (h : f_X3_kindAt_0 M x1 = some (r', M')) {H : Heap} {locs : List Loc} {ls : Array Slot} (hS : va_S (A0 b) s.heap H locs) (hW : Wd Z b M H) (hl : lv_has ls 3 [(0, .ref (b + 1)), (1, .int x1)]) : W p l e rm_X3_kindAt s m args below meth c H locs 0 0 (MQ below (Qn Z b (some (.int r')) M') args s 0 0 (A0 b)) (F0 m 0 ls []) := by
  unfold f_X3_kindAt_0 at h
  have hx := C.1
  have hb := C.2.1
  refine lv_iload_n hx hb dX3_kindAt_0 rfl (lv_at hl 1 rfl) ?_
  refine lv_if_ne (tgt := 6) hx hb dX3_kindAt_1 (by decide) (fun c1 => ?_) (fun c1 => ?_)
  · have h := (if_neg c1).symm.trans h
    refine lv_aload_n hx hb dX3_kindAt_6 rfl (lv_at hl 0 rfl) ?_
    refine lv_iload_n hx hb dX3_kindAt_7 rfl (lv_at hl 1 rfl) ?_
    obtain ⟨q8, M8, hc8, h⟩ := bd2_e h
    refine kX3_33 C hml hl.1 (c_X3_find hc8) ⟨Nat.le_of_ble_eq_true rfl, Nat.le_of_ble_eq_true rfl⟩ ⟨Nat.le_of_ble_eq_true rfl, Nat.le_of_ble_eq_true rfl⟩ (Nat.le_of_ble_eq_true rfl) hS hW dX3_kindAt_8 (fun H locs hW hS => ?_)
    rcases q8 with _ | k8
    · have h := oe_n h
      refine W.eq (g2 := F0 m 11 ls [.null]) rfl ?_
      refine lv_astore_nN (lv' := [(2, .null), (0, .ref (b + 1)), (1, .int x1)]) hx hb dX3_kindAt_11 rfl hl (by decide) rfl (fun ls hl => ?_)
      refine lv_aload_nN hx hb dX3_kindAt_12 rfl (lv_at hl 0 rfl) ?_
      refine lv_ifnonnullN hx hb dX3_kindAt_13 ?_
      refine lv_iconst (v := (-1 : Int32)) hx hb dX3_kindAt_16 (by decide) ?_
      refine lv_goto (tgt := 24) hx hb dX3_kindAt_17 (by decide) ?_
      cases h
      exact ret_i C hr hlk hS hW dX3_kindAt_24
    · obtain ⟨g8, h⟩ := gd (oe_s h)
      have hk8 := Nat.lt_of_not_le g8
      refine W.eq (g2 := F0 m 11 ls [.ref (b + (3 + 2 * k8))]) rfl ?_
      refine lv_astore_n (lv' := [(2, .ref (b + (3 + 2 * k8))), (0, .ref (b + 1)), (1, .int x1)]) hx hb dX3_kindAt_11 rfl hl (by decide) rfl (fun ls hl => ?_)
      refine lv_aload_n hx hb dX3_kindAt_12 rfl (lv_at hl 0 rfl) ?_
      refine lv_ifnonnull (tgt := 20) hx hb dX3_kindAt_13 (by decide) ?_
      refine lv_aload_n hx hb dX3_kindAt_20 rfl (lv_at hl 0 rfl) ?_
      refine gX3_37 hk8 C hW dX3_kindAt_21 ?_
      cases h
      exact ret_i C hr hlk hS hW dX3_kindAt_24
  · have h := (if_pos c1).symm.trans h
    refine lv_iconst (v := (2 : Int32)) hx hb dX3_kindAt_4 (by decide) ?_
    cases h
    exact ret_i C hr hlk hS hW dX3_kindAt_5
def f_X3_kindAt (M : Mem) (x1 : Int32) : Option (Int32 × Mem) := f_X3_kindAt_0 M x1
set_option maxHeartbeats 4000000 in
set_option maxRecDepth 100000 in
theorem c_X3_kindAt {l : Launch} {Z : Zt} {b : Nat} {M : Mem} {x1 : Int32} {r' : Int32} {M' : Mem} (h : f_X3_kindAt M x1 = some (r', M')) : Ct l yX3_kindAt cX3_kindAt 3 (some .int) rm_X3_kindAt Z b [.ref (b + 1), .int x1] M (some (.int r')) M' := by
  refine Met.ofW (cc := cX3_kindAt) (maxL := 3) (ret := (some .int)) (by decide) rfl ?_
  intro p e s m args below meth c s₁ B hml hv
  obtain ⟨rfl, hE, hW⟩ := hv
  have C : Cx p s m [.ref (b + 1), .int x1].toArray c cX3_kindAt RX3 Z b := ⟨B.exec, B.bytes, findClass_of_methodNamed B.named, fun w hw => atoms_spec (ws := Cond.code yX3_kindAt cX3_kindAt 3 (some .int) :: wsA) B.pre w (List.mem_cons_of_mem _ hw), hE⟩
  have hl := lv_entry [.ref (b + 1), .int x1] (n := 3) (Nat.le_of_ble_eq_true rfl)
  rw [lg_entry_eq]
  generalize (lg_sl [.ref (b + 1), .int x1] ++ List.replicate (3 - (lg_sl [.ref (b + 1), .int x1]).length) Slot.unset).toArray = ls at hl ⊢
  have hl : lv_has ls 3 [(0, .ref (b + 1)), (1, .int x1)] := hl
  exact w_X3_kindAt_0 C hml B.returns B.notSynchronized h va_S.rf hW hl
def f_X3_isCollection_0 (M : Mem) (x1 : Int32) : Option (Int32 × Mem) :=
  bd2 (f_X3_kindAt M x1) (fun r2 M2 => if r2 = (2 : Int32) then some ((1 : Int32), M2) else some ((0 : Int32), M2))
set_option maxHeartbeats 4000000 in
set_option maxRecDepth 100000 in
theorem w_X3_isCollection_0 {p : Program} {l : Launch} {e : Env} {s : State} {m : MethodId} {args : Array Value} {below : List Frame} {meth : Method} {c : Code} {Z : Zt} {b : Nat} (C : Cx p s m args c cX3_isCollection RX3 Z b) (hml : c.maxLocals = 2) (hr : meth.sig.returnType = (some .boolean)) (hlk : meth.locks = false) {r' : Int32} {M' : Mem} {M : Mem} {x1 : Int32} (h : f_X3_isCollection_0 M x1 = some (r', M')) {H : Heap} {locs : List Loc} {ls : Array Slot} (hS : va_S (A0 b) s.heap H locs) (hW : Wd Z b M H) (hl : lv_has ls 2 [(0, .ref (b + 1)), (1, .int x1)]) : W p l e rm_X3_isCollection s m args below meth c H locs 0 0 (MQ below (Qn Z b (some (.int r')) M') args s 0 0 (A0 b)) (F0 m 0 ls []) := by
  unfold f_X3_isCollection_0 at h
  have hx := C.1
  have hb := C.2.1
  refine lv_aload_n hx hb dX3_isCollection_0 rfl (lv_at hl 0 rfl) ?_
  refine lv_iload_n hx hb dX3_isCollection_1 rfl (lv_at hl 1 rfl) ?_
  obtain ⟨r2, M2, hc2, h⟩ := bd2_e h
  refine kX3_40 C hml hl.1 (c_X3_kindAt hc2) ⟨Nat.le_of_ble_eq_true rfl, Nat.le_of_ble_eq_true rfl⟩ ⟨Nat.le_of_ble_eq_true rfl, Nat.le_of_ble_eq_true rfl⟩ (Nat.le_of_ble_eq_true rfl) hS hW dX3_isCollection_2 (fun H locs hW hS => ?_)
  refine lv_iconst (v := (2 : Int32)) hx hb dX3_isCollection_5 (by decide) ?_
  refine lv_icmp_ne (tgt := 13) hx hb dX3_isCollection_6 (by decide) (fun c6 => ?_) (fun c6 => ?_)
  · have h := (if_neg c6).symm.trans h
    refine lv_iconst (v := (0 : Int32)) hx hb dX3_isCollection_13 (by decide) ?_
    cases h
    exact ret_z C hr hlk (by decide) hS hW dX3_isCollection_14
  · have h := (if_pos c6).symm.trans h
    refine lv_iconst (v := (1 : Int32)) hx hb dX3_isCollection_9 (by decide) ?_
    refine lv_goto (tgt := 14) hx hb dX3_isCollection_10 (by decide) ?_
    cases h
    exact ret_z C hr hlk (by decide) hS hW dX3_isCollection_14
def f_X3_isCollection (M : Mem) (x1 : Int32) : Option (Int32 × Mem) := f_X3_isCollection_0 M x1
set_option maxHeartbeats 4000000 in
set_option maxRecDepth 100000 in
theorem c_X3_isCollection {l : Launch} {Z : Zt} {b : Nat} {M : Mem} {x1 : Int32} {r' : Int32} {M' : Mem} (h : f_X3_isCollection M x1 = some (r', M')) : Ct l yX3_isCollection cX3_isCollection 2 (some .boolean) rm_X3_isCollection Z b [.ref (b + 1), .int x1] M (some (.int r')) M' := by
  refine Met.ofW (cc := cX3_isCollection) (maxL := 2) (ret := (some .boolean)) (by decide) rfl ?_
  intro p e s m args below meth c s₁ B hml hv
  obtain ⟨rfl, hE, hW⟩ := hv
  have C : Cx p s m [.ref (b + 1), .int x1].toArray c cX3_isCollection RX3 Z b := ⟨B.exec, B.bytes, findClass_of_methodNamed B.named, fun w hw => atoms_spec (ws := Cond.code yX3_isCollection cX3_isCollection 2 (some .boolean) :: wsA) B.pre w (List.mem_cons_of_mem _ hw), hE⟩
  have hl := lv_entry [.ref (b + 1), .int x1] (n := 2) (Nat.le_of_ble_eq_true rfl)
  rw [lg_entry_eq]
  generalize (lg_sl [.ref (b + 1), .int x1] ++ List.replicate (2 - (lg_sl [.ref (b + 1), .int x1]).length) Slot.unset).toArray = ls at hl ⊢
  have hl : lv_has ls 2 [(0, .ref (b + 1)), (1, .int x1)] := hl
  exact w_X3_isCollection_0 C hml B.returns B.notSynchronized h va_S.rf hW hl
def f_X1_find_0 (M : Mem) (x1 : Int32) : Option (Option Nat × Mem) :=
  if x1 < 0 then some (none, M) else if (M 10 0) ≤ x1 then some (none, M) else if x1 < (30 : Int32) then (if x1 < 0 ∨ 30 ≤ x1.toNatClampNeg then none else if (M 16 x1.toNatClampNeg) ≤ (M 11 0) then some (none, M) else if x1 < 0 ∨ 30 ≤ x1.toNatClampNeg then none else some (some x1.toNatClampNeg, M)) else some (none, M)
set_option maxHeartbeats 4000000 in
set_option maxRecDepth 100000 in
theorem w_X1_find_0 {p : Program} {l : Launch} {e : Env} {s : State} {m : MethodId} {args : Array Value} {below : List Frame} {meth : Method} {c : Code} {Z : Zt} {b : Nat} (C : Cx p s m args c cX1_find RX1 Z b) (hml : c.maxLocals = 2) (hr : meth.sig.returnType = (some (.object "ShelfServer$Lock"))) (hlk : meth.locks = false) {r' : Option Nat} {M' : Mem} {M : Mem} {x1 : Int32} (h : f_X1_find_0 M x1 = some (r', M')) {H : Heap} {locs : List Loc} {ls : Array Slot} (hS : va_S (A0 b) s.heap H locs) (hW : Wd Z b M H) (hl : lv_has ls 2 [(0, .ref (b + 123)), (1, .int x1)]) : W p l e rm_X1_find s m args below meth c H locs 0 0 (MQ below (Qn Z b (some (rL b r')) M') args s 0 0 (A0 b)) (F0 m 0 ls []) := by
  unfold f_X1_find_0 at h
  have hx := C.1
  have hb := C.2.1
  refine lv_iload_n hx hb dX1_find_0 rfl (lv_at hl 1 rfl) ?_
  refine lv_if_lt (tgt := 21) hx hb dX1_find_1 (by decide) (fun c1 => ?_) (fun c1 => ?_)
  · have h := (if_pos c1).symm.trans h
    refine lv_null hx hb dX1_find_21 ?_
    cases h
    exact ret_q C hr hlk (Or.inl rfl) hS hW dX1_find_22
  · have h := (if_neg c1).symm.trans h
    refine lv_iload_n hx hb dX1_find_4 rfl (lv_at hl 1 rfl) ?_
    refine lv_aload_n hx hb dX1_find_5 rfl (lv_at hl 0 rfl) ?_
    refine gX1_18 C hW dX1_find_6 ?_
    refine lv_icmp_ge (tgt := 21) hx hb dX1_find_9 (by decide) (fun c9 => ?_) (fun c9 => ?_)
    · have h := (if_pos c9).symm.trans h
      refine lv_null hx hb dX1_find_21 ?_
      cases h
      exact ret_q C hr hlk (Or.inl rfl) hS hW dX1_find_22
    · have h := (if_neg c9).symm.trans h
      refine lv_iload_n hx hb dX1_find_12 rfl (lv_at hl 1 rfl) ?_
      refine lv_aload_n hx hb dX1_find_13 rfl (lv_at hl 0 rfl) ?_
      refine gX1_11 C hW dX1_find_14 ?_
      refine alen_124 C hW dX1_find_17 ?_
      refine lv_icmp_lt (tgt := 23) hx hb dX1_find_18 (by decide) (fun c18 => ?_) (fun c18 => ?_)
      · have h := (if_pos c18).symm.trans h
        refine lv_aload_n hx hb dX1_find_23 rfl (lv_at hl 0 rfl) ?_
        refine gX1_11 C hW dX1_find_24 ?_
        refine lv_iload_n hx hb dX1_find_27 rfl (lv_at hl 1 rfl) ?_
        obtain ⟨g28, h⟩ := gd h
        have hr28 : x1.toNatClampNeg < 30 := Nat.lt_of_not_le fun q => g28 (Or.inr q)
        refine ald_lrow C hW g28 dX1_find_28 ?_
        refine gX1_25 hr28 C hW dX1_find_29 ?_
        refine lv_aload_n hx hb dX1_find_32 rfl (lv_at hl 0 rfl) ?_
        refine gX1_22 C hW dX1_find_33 ?_
        refine lv_icmp_le (tgt := 48) hx hb dX1_find_36 (by decide) (fun c36 => ?_) (fun c36 => ?_)
        · have h := (if_pos c36).symm.trans h
          refine lv_null hx hb dX1_find_48 ?_
          cases h
          exact ret_q C hr hlk (Or.inl rfl) hS hW dX1_find_49
        · have h := (if_neg c36).symm.trans h
          refine lv_aload_n hx hb dX1_find_39 rfl (lv_at hl 0 rfl) ?_
          refine gX1_11 C hW dX1_find_40 ?_
          refine lv_iload_n hx hb dX1_find_43 rfl (lv_at hl 1 rfl) ?_
          obtain ⟨g44, h⟩ := gd h
          have hr44 : x1.toNatClampNeg < 30 := Nat.lt_of_not_le fun q => g44 (Or.inr q)
          refine ald_lrow C hW g44 dX1_find_44 ?_
          refine lv_goto (tgt := 49) hx hb dX1_find_45 (by decide) ?_
          cases h
          exact ret_q C hr hlk (Or.inr ⟨_, rfl⟩) hS hW dX1_find_49
      · have h := (if_neg c18).symm.trans h
        refine lv_null hx hb dX1_find_21 ?_
        cases h
        exact ret_q C hr hlk (Or.inl rfl) hS hW dX1_find_22
def f_X1_find (M : Mem) (x1 : Int32) : Option (Option Nat × Mem) := f_X1_find_0 M x1
set_option maxHeartbeats 4000000 in
set_option maxRecDepth 100000 in
theorem c_X1_find {l : Launch} {Z : Zt} {b : Nat} {M : Mem} {x1 : Int32} {r' : Option Nat} {M' : Mem} (h : f_X1_find M x1 = some (r', M')) : Ct l yX1_find cX1_find 2 (some (.object "ShelfServer$Lock")) rm_X1_find Z b [.ref (b + 123), .int x1] M (some (rL b r')) M' := by
  refine Met.ofW (cc := cX1_find) (maxL := 2) (ret := (some (.object "ShelfServer$Lock"))) (by decide) rfl ?_
  intro p e s m args below meth c s₁ B hml hv
  obtain ⟨rfl, hE, hW⟩ := hv
  have C : Cx p s m [.ref (b + 123), .int x1].toArray c cX1_find RX1 Z b := ⟨B.exec, B.bytes, findClass_of_methodNamed B.named, fun w hw => atoms_spec (ws := Cond.code yX1_find cX1_find 2 (some (.object "ShelfServer$Lock")) :: wsA) B.pre w (List.mem_cons_of_mem _ hw), hE⟩
  have hl := lv_entry [.ref (b + 123), .int x1] (n := 2) (Nat.le_of_ble_eq_true rfl)
  rw [lg_entry_eq]
  generalize (lg_sl [.ref (b + 123), .int x1] ++ List.replicate (2 - (lg_sl [.ref (b + 123), .int x1]).length) Slot.unset).toArray = ls at hl ⊢
  have hl : lv_has ls 2 [(0, .ref (b + 123)), (1, .int x1)] := hl
  exact w_X1_find_0 C hml B.returns B.notSynchronized h va_S.rf hW hl
def f_X4_isAbove_4B (K4 : Mem → Int32 → Int32 → Int32 → Option (Int32 × Mem)) (M : Mem) (x0 : Int32) (x2 : Int32) (x3 : Int32) : Option (Int32 × Mem) :=
  if (4 : Int32) ≤ x3 then some ((0 : Int32), M) else if x2 ≤ 0 then some ((0 : Int32), M) else if (x2 / (10 : Int32)) = x0 then some ((1 : Int32), M) else K4 M x0 (x2 / (10 : Int32)) (x3 + 1)
def f_X4_isAbove_4 : Nat → Mem → Int32 → Int32 → Int32 → Option (Int32 × Mem)
  | 0 => fun _ _ _ _ => none
  | n + 1 => f_X4_isAbove_4B (f_X4_isAbove_4 n)
set_option maxHeartbeats 4000000 in
set_option maxRecDepth 100000 in
theorem w_X4_isAbove_4 {p : Program} {l : Launch} {e : Env} {s : State} {m : MethodId} {args : Array Value} {below : List Frame} {meth : Method} {c : Code} {Z : Zt} {b : Nat} (C : Cx p s m args c cX4_isAbove RX4 Z b) (hml : c.maxLocals = 4) (hr : meth.sig.returnType = (some .boolean)) (hlk : meth.locks = false) {r' : Int32} {M' : Mem} : ∀ (n : Nat) {M : Mem} {x0 : Int32} {x2 : Int32} {x3 : Int32} (h : f_X4_isAbove_4 n M x0 x2 x3 = some (r', M')) {H : Heap} {locs : List Loc} {ls : Array Slot} (hS : va_S (A0 b) s.heap H locs) (hW : Wd Z b M H) (hl : lv_has ls 4 [(0, .int x0), (2, .int x2), (3, .int x3)]), W p l e rm_X4_isAbove s m args below meth c H locs 0 0 (MQ below (Qn Z b (some (.int r')) M') args s 0 0 (A0 b)) (F0 m 4 ls []) := by
  intro n
  induction n with
  | zero =>
    intro M x0 x2 x3 h
    cases h
  | succ n ih =>
    intro M x0 x2 x3 h H locs ls hS hW hl
    have h : f_X4_isAbove_4B (f_X4_isAbove_4 n) M x0 x2 x3 = some (r', M') := h
    unfold f_X4_isAbove_4B at h
    have hK4 := @ih
    have hx := C.1
    have hb := C.2.1
    refine lv_iload_n hx hb dX4_isAbove_4 rfl (lv_at hl 2 rfl) ?_
    refine lv_iconst (v := (4 : Int32)) hx hb dX4_isAbove_5 (by decide) ?_
    refine lv_icmp_ge (tgt := 31) hx hb dX4_isAbove_6 (by decide) (fun c6 => ?_) (fun c6 => ?_)
    · have h := (if_pos c6).symm.trans h
      refine lv_iconst (v := (0 : Int32)) hx hb dX4_isAbove_31 (by decide) ?_
      cases h
      exact ret_z C hr hlk (by decide) hS hW dX4_isAbove_32
    · have h := (if_neg c6).symm.trans h
      refine lv_iload_n hx hb dX4_isAbove_9 rfl (lv_at hl 1 rfl) ?_
      refine lv_if_le (tgt := 31) hx hb dX4_isAbove_10 (by decide) (fun c10 => ?_) (fun c10 => ?_)
      · have h := (if_pos c10).symm.trans h
        refine lv_iconst (v := (0 : Int32)) hx hb dX4_isAbove_31 (by decide) ?_
        cases h
        exact ret_z C hr hlk (by decide) hS hW dX4_isAbove_32
      · have h := (if_neg c10).symm.trans h
        refine lv_iload_n hx hb dX4_isAbove_13 rfl (lv_at hl 1 rfl) ?_
        refine lv_bipush (v := (10 : Int32)) hx hb dX4_isAbove_14 (by decide) ?_
        refine lv_idiv hx hb dX4_isAbove_16 (by decide) ?_
        refine lv_istore_n (lv' := [(2, .int (x2 / (10 : Int32))), (0, .int x0), (3, .int x3)]) hx hb dX4_isAbove_17 rfl hl (by decide) rfl (fun ls hl => ?_)
        refine lv_iload_n hx hb dX4_isAbove_18 rfl (lv_at hl 0 rfl) ?_
        refine lv_iload_n hx hb dX4_isAbove_19 rfl (lv_at hl 1 rfl) ?_
        refine lv_icmp_ne (tgt := 25) hx hb dX4_isAbove_20 (by decide) (fun c20 => ?_) (fun c20 => ?_)
        · have h := (if_neg c20).symm.trans h
          refine lv_iinc (v := x3 + 1) (lv' := [(3, .int (x3 + 1)), (2, .int (x2 / (10 : Int32))), (0, .int x0)]) hx hb dX4_isAbove_25 hl (k := 2) rfl rfl (by decide) rfl (fun ls hl => ?_)
          refine lv_goto (tgt := 4) hx hb dX4_isAbove_28 (by decide) ?_
          exact hK4 h hS hW (lv_sub hl [2, 1, 0] rfl)
        · have h := (if_pos c20).symm.trans h
          refine lv_iconst (v := (1 : Int32)) hx hb dX4_isAbove_23 (by decide) ?_
          cases h
          exact ret_z C hr hlk (by decide) hS hW dX4_isAbove_24
def f_X4_isAbove_0 (M : Mem) (x0 : Int32) (x1 : Int32) : Option (Int32 × Mem) :=
  f_X4_isAbove_4 64 M x0 x1 (0 : Int32)
set_option maxHeartbeats 4000000 in
set_option maxRecDepth 100000 in
theorem w_X4_isAbove_0 {p : Program} {l : Launch} {e : Env} {s : State} {m : MethodId} {args : Array Value} {below : List Frame} {meth : Method} {c : Code} {Z : Zt} {b : Nat} (C : Cx p s m args c cX4_isAbove RX4 Z b) (hml : c.maxLocals = 4) (hr : meth.sig.returnType = (some .boolean)) (hlk : meth.locks = false) {r' : Int32} {M' : Mem} {M : Mem} {x0 : Int32} {x1 : Int32} (h : f_X4_isAbove_0 M x0 x1 = some (r', M')) {H : Heap} {locs : List Loc} {ls : Array Slot} (hS : va_S (A0 b) s.heap H locs) (hW : Wd Z b M H) (hl : lv_has ls 4 [(0, .int x0), (1, .int x1)]) : W p l e rm_X4_isAbove s m args below meth c H locs 0 0 (MQ below (Qn Z b (some (.int r')) M') args s 0 0 (A0 b)) (F0 m 0 ls []) := by
  unfold f_X4_isAbove_0 at h
  have hx := C.1
  have hb := C.2.1
  refine lv_iload_n hx hb dX4_isAbove_0 rfl (lv_at hl 1 rfl) ?_
  refine lv_istore_n (lv' := [(2, .int x1), (0, .int x0), (1, .int x1)]) hx hb dX4_isAbove_1 rfl hl (by decide) rfl (fun ls hl => ?_)
  refine lv_iconst (v := (0 : Int32)) hx hb dX4_isAbove_2 (by decide) ?_
  refine lv_istore_n (lv' := [(3, .int (0 : Int32)), (2, .int x1), (0, .int x0), (1, .int x1)]) hx hb dX4_isAbove_3 rfl hl (by decide) rfl (fun ls hl => ?_)
  exact w_X4_isAbove_4 C hml hr hlk 64 h hS hW (lv_sub hl [2, 1, 0] rfl)
def f_X4_isAbove (M : Mem) (x0 : Int32) (x1 : Int32) : Option (Int32 × Mem) := f_X4_isAbove_0 M x0 x1
set_option maxHeartbeats 4000000 in
set_option maxRecDepth 100000 in
theorem c_X4_isAbove {l : Launch} {Z : Zt} {b : Nat} {M : Mem} {x0 : Int32} {x1 : Int32} {r' : Int32} {M' : Mem} (h : f_X4_isAbove M x0 x1 = some (r', M')) : Ct l yX4_isAbove cX4_isAbove 4 (some .boolean) rm_X4_isAbove Z b [.int x0, .int x1] M (some (.int r')) M' := by
  refine Met.ofW (cc := cX4_isAbove) (maxL := 4) (ret := (some .boolean)) (by decide) rfl ?_
  intro p e s m args below meth c s₁ B hml hv
  obtain ⟨rfl, hE, hW⟩ := hv
  have C : Cx p s m [.int x0, .int x1].toArray c cX4_isAbove RX4 Z b := ⟨B.exec, B.bytes, findClass_of_methodNamed B.named, fun w hw => atoms_spec (ws := Cond.code yX4_isAbove cX4_isAbove 4 (some .boolean) :: wsA) B.pre w (List.mem_cons_of_mem _ hw), hE⟩
  have hl := lv_entry [.int x0, .int x1] (n := 4) (Nat.le_of_ble_eq_true rfl)
  rw [lg_entry_eq]
  generalize (lg_sl [.int x0, .int x1] ++ List.replicate (4 - (lg_sl [.int x0, .int x1]).length) Slot.unset).toArray = ls at hl ⊢
  have hl : lv_has ls 4 [(0, .int x0), (1, .int x1)] := hl
  exact w_X4_isAbove_0 C hml B.returns B.notSynchronized h va_S.rf hW hl
def f_X0_covers_0 (M : Mem) (k0 : Nat) (x1 : Int32) : Option (Int32 × Mem) :=
  if x1 = (M 13 k0) then some ((1 : Int32), M) else if (M 15 k0) = 0 then some ((0 : Int32), M) else bd2 (f_X4_isAbove M (M 13 k0) x1) (fun r20 M20 => if r20 = 0 then some ((0 : Int32), M20) else some ((1 : Int32), M20))
set_option maxHeartbeats 4000000 in
set_option maxRecDepth 100000 in
theorem w_X0_covers_0 {p : Program} {l : Launch} {e : Env} {s : State} {m : MethodId} {args : Array Value} {below : List Frame} {meth : Method} {c : Code} {Z : Zt} {b : Nat} (C : Cx p s m args c cX0_covers RX0 Z b) (hml : c.maxLocals = 2) (hr : meth.sig.returnType = (some .boolean)) (hlk : meth.locks = false) {r' : Int32} {M' : Mem} {M : Mem} {k0 : Nat} {x1 : Int32} (hk0 : k0 < 30) (h : f_X0_covers_0 M k0 x1 = some (r', M')) {H : Heap} {locs : List Loc} {ls : Array Slot} (hS : va_S (A0 b) s.heap H locs) (hW : Wd Z b M H) (hl : lv_has ls 2 [(0, .ref (b + (125 + k0))), (1, .int x1)]) : W p l e rm_X0_covers s m args below meth c H locs 0 0 (MQ below (Qn Z b (some (.int r')) M') args s 0 0 (A0 b)) (F0 m 0 ls []) := by
  unfold f_X0_covers_0 at h
  have hx := C.1
  have hb := C.2.1
  refine lv_iload_n hx hb dX0_covers_0 rfl (lv_at hl 1 rfl) ?_
  refine lv_aload_n hx hb dX0_covers_1 rfl (lv_at hl 0 rfl) ?_
  refine gX0_7 hk0 C hW dX0_covers_2 ?_
  refine lv_icmp_eq (tgt := 26) hx hb dX0_covers_5 (by decide) (fun c5 => ?_) (fun c5 => ?_)
  · have h := (if_pos c5).symm.trans h
    refine lv_iconst (v := (1 : Int32)) hx hb dX0_covers_26 (by decide) ?_
    refine lv_goto (tgt := 31) hx hb dX0_covers_27 (by decide) ?_
    cases h
    exact ret_z C hr hlk (by decide) hS hW dX0_covers_31
  · have h := (if_neg c5).symm.trans h
    refine lv_aload_n hx hb dX0_covers_8 rfl (lv_at hl 0 rfl) ?_
    refine gX0_13 hk0 C hW dX0_covers_9 ?_
    refine lv_if_eq (tgt := 30) hx hb dX0_covers_12 (by decide) (fun c12 => ?_) (fun c12 => ?_)
    · have h := (if_pos c12).symm.trans h
      refine lv_iconst (v := (0 : Int32)) hx hb dX0_covers_30 (by decide) ?_
      cases h
      exact ret_z C hr hlk (by decide) hS hW dX0_covers_31
    · have h := (if_neg c12).symm.trans h
      refine lv_aload_n hx hb dX0_covers_15 rfl (lv_at hl 0 rfl) ?_
      refine gX0_7 hk0 C hW dX0_covers_16 ?_
      refine lv_iload_n hx hb dX0_covers_19 rfl (lv_at hl 1 rfl) ?_
      obtain ⟨r20, M20, hc20, h⟩ := bd2_e h
      refine kX0_17 C hml hl.1 (c_X4_isAbove hc20) ⟨Nat.le_of_ble_eq_true rfl, Nat.le_of_ble_eq_true rfl⟩ ⟨Nat.le_of_ble_eq_true rfl, Nat.le_of_ble_eq_true rfl⟩ (Nat.le_of_ble_eq_true rfl) hS hW dX0_covers_20 (fun H locs hW hS => ?_)
      refine lv_if_eq (tgt := 30) hx hb dX0_covers_23 (by decide) (fun c23 => ?_) (fun c23 => ?_)
      · have h := (if_pos c23).symm.trans h
        refine lv_iconst (v := (0 : Int32)) hx hb dX0_covers_30 (by decide) ?_
        cases h
        exact ret_z C hr hlk (by decide) hS hW dX0_covers_31
      · have h := (if_neg c23).symm.trans h
        refine lv_iconst (v := (1 : Int32)) hx hb dX0_covers_26 (by decide) ?_
        refine lv_goto (tgt := 31) hx hb dX0_covers_27 (by decide) ?_
        cases h
        exact ret_z C hr hlk (by decide) hS hW dX0_covers_31
def f_X0_covers (M : Mem) (k0 : Nat) (x1 : Int32) : Option (Int32 × Mem) := f_X0_covers_0 M k0 x1
set_option maxHeartbeats 4000000 in
set_option maxRecDepth 100000 in
theorem c_X0_covers {l : Launch} {Z : Zt} {b : Nat} {M : Mem} {k0 : Nat} {x1 : Int32} {r' : Int32} {M' : Mem} (hk0 : k0 < 30) (h : f_X0_covers M k0 x1 = some (r', M')) : Ct l yX0_covers cX0_covers 2 (some .boolean) rm_X0_covers Z b [.ref (b + (125 + k0)), .int x1] M (some (.int r')) M' := by
  refine Met.ofW (cc := cX0_covers) (maxL := 2) (ret := (some .boolean)) (by decide) rfl ?_
  intro p e s m args below meth c s₁ B hml hv
  obtain ⟨rfl, hE, hW⟩ := hv
  have C : Cx p s m [.ref (b + (125 + k0)), .int x1].toArray c cX0_covers RX0 Z b := ⟨B.exec, B.bytes, findClass_of_methodNamed B.named, fun w hw => atoms_spec (ws := Cond.code yX0_covers cX0_covers 2 (some .boolean) :: wsA) B.pre w (List.mem_cons_of_mem _ hw), hE⟩
  have hl := lv_entry [.ref (b + (125 + k0)), .int x1] (n := 2) (Nat.le_of_ble_eq_true rfl)
  rw [lg_entry_eq]
  generalize (lg_sl [.ref (b + (125 + k0)), .int x1] ++ List.replicate (2 - (lg_sl [.ref (b + (125 + k0)), .int x1]).length) Slot.unset).toArray = ls at hl ⊢
  have hl : lv_has ls 2 [(0, .ref (b + (125 + k0))), (1, .int x1)] := hl
  exact w_X0_covers_0 C hml B.returns B.notSynchronized hk0 h va_S.rf hW hl

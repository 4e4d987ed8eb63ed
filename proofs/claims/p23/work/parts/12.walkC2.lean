def f_X3_markTree_2B (K2 : Mem → Int32 → Int32 → Option Mem) (M : Mem) (x1 : Int32) (x2 : Int32) : Option Mem :=
  if (M 2 0) ≤ x2 then some M else if (60 : Int32) ≤ x2 then some M else if x2 < 0 ∨ 60 ≤ x2.toNatClampNeg then none else if 60 ≤ rk M x2.toNatClampNeg then none else if x2 < 0 ∨ 60 ≤ x2.toNatClampNeg then none else if 60 ≤ rk M x2.toNatClampNeg then none else bd2 (f_X4_isIn M x1 (M 4 (rk M x2.toNatClampNeg))) (fun r35 M35 => if r35 &&& 1 = r35 then K2 (mu M35 7 (rk M x2.toNatClampNeg) r35) x1 (x2 + 1) else none)
def f_X3_markTree_2 : Nat → Mem → Int32 → Int32 → Option Mem
  | 0 => fun _ _ _ => none
  | n + 1 => f_X3_markTree_2B (f_X3_markTree_2 n)
set_option maxHeartbeats 4000000 in
set_option maxRecDepth 100000 in
theorem w_X3_markTree_2 {p : Program} {l : Launch} {e : Env} {s : State} {m : MethodId} {args : Array Value} {below : List Frame} {meth : Method} {c : Code} {Z : Zt} {b : Nat} (C : Cx p s m args c cX3_markTree RX3 Z b) (hml : c.maxLocals = 3) (hr : meth.sig.returnType = (none : Option Jvm.ClassFile.FieldType)) (hlk : meth.locks = false) {M' : Mem} : ∀ (n : Nat) {M : Mem} {x1 : Int32} {x2 : Int32} (h : f_X3_markTree_2 n M x1 x2 = some M') {H : Heap} {locs : List Loc} {ls : Array Slot} (hS : va_S (A0 b) s.heap H locs) (hW : Wd Z b M H) (hl : lv_has ls 3 [(0, .ref (b + 1)), (1, .int x1), (2, .int x2)]), W p l e rm_X3_markTree s m args below meth c H locs 0 0 (MQ below (Qn Z b none M') args s 0 0 (A0 b)) (F0 m 2 ls []) := by
  intro n
  induction n with
  | zero =>
    intro M x1 x2 h
    cases h
  | succ n ih =>
    intro M x1 x2 h H locs ls hS hW hl
    have h : f_X3_markTree_2B (f_X3_markTree_2 n) M x1 x2 = some M' := h
    unfold f_X3_markTree_2B at h
    have hK2 := @ih
    have hx := C.1
    have hb := C.2.1
    refine lv_iload_n hx hb dX3_markTree_2 rfl (lv_at hl 2 rfl) ?_
    refine lv_aload_n hx hb dX3_markTree_3 rfl (lv_at hl 0 rfl) ?_
    refine gX3_18 C hW dX3_markTree_4 ?_
    refine lv_icmp_ge (tgt := 47) hx hb dX3_markTree_7 (by decide) (fun c7 => ?_) (fun c7 => ?_)
    · have h := (if_pos c7).symm.trans h
      cases h
      exact ret_v C hr hlk hS hW dX3_markTree_47
    · have h := (if_neg c7).symm.trans h
      refine lv_iload_n hx hb dX3_markTree_10 rfl (lv_at hl 2 rfl) ?_
      refine lv_aload_n hx hb dX3_markTree_11 rfl (lv_at hl 0 rfl) ?_
      refine gX3_11 C hW dX3_markTree_12 ?_
      refine alen_2 C hW dX3_markTree_15 ?_
      refine lv_icmp_ge (tgt := 47) hx hb dX3_markTree_16 (by decide) (fun c16 => ?_) (fun c16 => ?_)
      · have h := (if_pos c16).symm.trans h
        cases h
        exact ret_v C hr hlk hS hW dX3_markTree_47
      · have h := (if_neg c16).symm.trans h
        refine lv_aload_n hx hb dX3_markTree_19 rfl (lv_at hl 0 rfl) ?_
        refine gX3_11 C hW dX3_markTree_20 ?_
        refine lv_iload_n hx hb dX3_markTree_23 rfl (lv_at hl 2 rfl) ?_
        obtain ⟨g24, h⟩ := gd h
        obtain ⟨gr24, h⟩ := gd h
        have hr24 := Nat.lt_of_not_le gr24
        refine ald_row C hW g24 dX3_markTree_24 ?_
        refine lv_iload_n hx hb dX3_markTree_25 rfl (lv_at hl 1 rfl) ?_
        refine lv_aload_n hx hb dX3_markTree_26 rfl (lv_at hl 0 rfl) ?_
        refine gX3_11 C hW dX3_markTree_27 ?_
        refine lv_iload_n hx hb dX3_markTree_30 rfl (lv_at hl 2 rfl) ?_
        obtain ⟨g31, h⟩ := gd h
        obtain ⟨gr31, h⟩ := gd h
        have hr31 := Nat.lt_of_not_le gr31
        refine ald_row C hW g31 dX3_markTree_31 ?_
        refine gX3_22 hr31 C hW dX3_markTree_32 ?_
        obtain ⟨r35, M35, hc35, h⟩ := bd2_e h
        refine kX3_47 C hml hl.1 (c_X4_isIn hc35) ⟨Nat.le_of_ble_eq_true rfl, Nat.le_of_ble_eq_true rfl⟩ ⟨Nat.le_of_ble_eq_true rfl, Nat.le_of_ble_eq_true rfl⟩ (Nat.le_of_ble_eq_true rfl) hS hW dX3_markTree_35 (fun H locs hW hS => ?_)
        obtain ⟨g38, h⟩ := gdp h
        refine pX3_29 hr24 g38 C hS hW dX3_markTree_38 (fun H locs hW hS => ?_)
        refine lv_iinc (v := x2 + 1) (lv' := [(2, .int (x2 + 1)), (0, .ref (b + 1)), (1, .int x1)]) hx hb dX3_markTree_41 hl (k := 2) rfl rfl (by decide) rfl (fun ls hl => ?_)
        refine lv_goto (tgt := 2) hx hb dX3_markTree_44 (by decide) ?_
        exact hK2 h hS hW (lv_sub hl [1, 2, 0] rfl)
def f_X3_markTree_0 (M : Mem) (x1 : Int32) : Option Mem :=
  f_X3_markTree_2 64 M x1 (0 : Int32)
set_option maxHeartbeats 4000000 in
set_option maxRecDepth 100000 in
theorem w_X3_markTree_0 {p : Program} {l : Launch} {e : Env} {s : State} {m : MethodId} {args : Array Value} {below : List Frame} {meth : Method} {c : Code} {Z : Zt} {b : Nat} (C : Cx p s m args c cX3_markTree RX3 Z b) (hml : c.maxLocals = 3) (hr : meth.sig.returnType = (none : Option Jvm.ClassFile.FieldType)) (hlk : meth.locks = false) {M' : Mem} {M : Mem} {x1 : Int32} (h : f_X3_markTree_0 M x1 = some M') {H : Heap} {locs : List Loc} {ls : Array Slot} (hS : va_S (A0 b) s.heap H locs) (hW : Wd Z b M H) (hl : lv_has ls 3 [(0, .ref (b + 1)), (1, .int x1)]) : W p l e rm_X3_markTree s m args below meth c H locs 0 0 (MQ below (Qn Z b none M') args s 0 0 (A0 b)) (F0 m 0 ls []) := by
  unfold f_X3_markTree_0 at h
  have hx := C.1
  have hb := C.2.1
  refine lv_iconst (v := (0 : Int32)) hx hb dX3_markTree_0 (by decide) ?_
  refine lv_istore_n (lv' := [(2, .int (0 : Int32)), (0, .ref (b + 1)), (1, .int x1)]) hx hb dX3_markTree_1 rfl hl (by decide) rfl (fun ls hl => ?_)
  exact w_X3_markTree_2 C hml hr hlk 64 h hS hW (lv_sub hl [1, 2, 0] rfl)
def f_X3_markTree (M : Mem) (x1 : Int32) : Option Mem := f_X3_markTree_0 M x1
set_option maxHeartbeats 4000000 in
set_option maxRecDepth 100000 in
theorem c_X3_markTree {l : Launch} {Z : Zt} {b : Nat} {M : Mem} {x1 : Int32} {M' : Mem} (h : f_X3_markTree M x1 = some M') : Ct l yX3_markTree cX3_markTree 3 (none : Option Jvm.ClassFile.FieldType) rm_X3_markTree Z b [.ref (b + 1), .int x1] M none M' := by
  refine Met.ofW (cc := cX3_markTree) (maxL := 3) (ret := (none : Option Jvm.ClassFile.FieldType)) (by decide) rfl ?_
  intro p e s m args below meth c s₁ B hml hv
  obtain ⟨rfl, hE, hW⟩ := hv
  have C : Cx p s m [.ref (b + 1), .int x1].toArray c cX3_markTree RX3 Z b := ⟨B.exec, B.bytes, findClass_of_methodNamed B.named, fun w hw => atoms_spec (ws := Cond.code yX3_markTree cX3_markTree 3 (none : Option Jvm.ClassFile.FieldType) :: wsA) B.pre w (List.mem_cons_of_mem _ hw), hE⟩
  have hl := lv_entry [.ref (b + 1), .int x1] (n := 3) (Nat.le_of_ble_eq_true rfl)
  rw [lg_entry_eq]
  generalize (lg_sl [.ref (b + 1), .int x1] ++ List.replicate (3 - (lg_sl [.ref (b + 1), .int x1]).length) Slot.unset).toArray = ls at hl ⊢
  have hl : lv_has ls 3 [(0, .ref (b + 1)), (1, .int x1)] := hl
  exact w_X3_markTree_0 C hml B.returns B.notSynchronized h va_S.rf hW hl
def f_X3_spareUpFrom_45 (K2 : Mem → Int32 → Int32 → Option Mem) (M : Mem) (x1 : Int32) (x2 : Int32) : Option Mem :=
  K2 M x1 (x2 + 1)
set_option maxHeartbeats 4000000 in
set_option maxRecDepth 100000 in
theorem w_X3_spareUpFrom_45 {p : Program} {l : Launch} {e : Env} {s : State} {m : MethodId} {args : Array Value} {below : List Frame} {meth : Method} {c : Code} {Z : Zt} {b : Nat} (C : Cx p s m args c cX3_spareUpFrom RX3 Z b) (hml : c.maxLocals = 3) (hr : meth.sig.returnType = (none : Option Jvm.ClassFile.FieldType)) (hlk : meth.locks = false) {M' : Mem} {K2 : Mem → Int32 → Int32 → Option Mem} (hK2 : ∀ {M : Mem} {x1 : Int32} {x2 : Int32} (h : K2 M x1 x2 = some M') {H : Heap} {locs : List Loc} {ls : Array Slot} (hS : va_S (A0 b) s.heap H locs) (hW : Wd Z b M H) (hl : lv_has ls 3 [(0, .ref (b + 1)), (1, .int x1), (2, .int x2)]), W p l e rm_X3_spareUpFrom s m args below meth c H locs 0 0 (MQ below (Qn Z b none M') args s 0 0 (A0 b)) (F0 m 2 ls [])) {M : Mem} {x1 : Int32} {x2 : Int32} (h : f_X3_spareUpFrom_45 K2 M x1 x2 = some M') {H : Heap} {locs : List Loc} {ls : Array Slot} (hS : va_S (A0 b) s.heap H locs) (hW : Wd Z b M H) (hl : lv_has ls 3 [(0, .ref (b + 1)), (1, .int x1), (2, .int x2)]) : W p l e rm_X3_spareUpFrom s m args below meth c H locs 0 0 (MQ below (Qn Z b none M') args s 0 0 (A0 b)) (F0 m 45 ls []) := by
  unfold f_X3_spareUpFrom_45 at h
  have hx := C.1
  have hb := C.2.1
  refine lv_iinc (v := x2 + 1) (lv' := [(2, .int (x2 + 1)), (0, .ref (b + 1)), (1, .int x1)]) hx hb dX3_spareUpFrom_45 hl (k := 2) rfl rfl (by decide) rfl (fun ls hl => ?_)
  refine lv_goto (tgt := 2) hx hb dX3_spareUpFrom_48 (by decide) ?_
  exact hK2 h hS hW (lv_sub hl [1, 2, 0] rfl)
def f_X3_spareUpFrom_2B (K2 : Mem → Int32 → Int32 → Option Mem) (M : Mem) (x1 : Int32) (x2 : Int32) : Option Mem :=
  if (M 2 0) ≤ x2 then some M else if (60 : Int32) ≤ x2 then some M else if x2 < 0 ∨ 60 ≤ x2.toNatClampNeg then none else if 60 ≤ rk M x2.toNatClampNeg then none else bd2 (f_X4_isIn M (M 4 (rk M x2.toNatClampNeg)) x1) (fun r29 M29 => if r29 = 0 then f_X3_spareUpFrom_45 K2 M29 x1 x2 else if x2 < 0 ∨ 60 ≤ x2.toNatClampNeg then none else if 60 ≤ rk M29 x2.toNatClampNeg then none else f_X3_spareUpFrom_45 K2 (mu M29 7 (rk M29 x2.toNatClampNeg) (0 : Int32)) x1 x2)
def f_X3_spareUpFrom_2 : Nat → Mem → Int32 → Int32 → Option Mem
  | 0 => fun _ _ _ => none
  | n + 1 => f_X3_spareUpFrom_2B (f_X3_spareUpFrom_2 n)
set_option maxHeartbeats 4000000 in
set_option maxRecDepth 100000 in
theorem w_X3_spareUpFrom_2 {p : Program} {l : Launch} {e : Env} {s : State} {m : MethodId} {args : Array Value} {below : List Frame} {meth : Method} {c : Code} {Z : Zt} {b : Nat} (C : Cx p s m args c cX3_spareUpFrom RX3 Z b) (hml : c.maxLocals = 3) (hr : meth.sig.returnType = (none : Option Jvm.ClassFile.FieldType)) (hlk : meth.locks = false) {M' : Mem} : ∀ (n : Nat) {M : Mem} {x1 : Int32} {x2 : Int32} (h : f_X3_spareUpFrom_2 n M x1 x2 = some M') {H : Heap} {locs : List Loc} {ls : Array Slot} (hS : va_S (A0 b) s.heap H locs) (hW : Wd Z b M H) (hl : lv_has ls 3 [(0, .ref (b + 1)), (1, .int x1), (2, .int x2)]), W p l e rm_X3_spareUpFrom s m args below meth c H locs 0 0 (MQ below (Qn Z b none M') args s 0 0 (A0 b)) (F0 m 2 ls []) := by
  intro n
  induction n with
  | zero =>
    intro M x1 x2 h
    cases h
  | succ n ih =>
    intro M x1 x2 h H locs ls hS hW hl
    have h : f_X3_spareUpFrom_2B (f_X3_spareUpFrom_2 n) M x1 x2 = some M' := h
    unfold f_X3_spareUpFrom_2B at h
    have hK2 := @ih
    have hx := C.1
    have hb := C.2.1
    refine lv_iload_n hx hb dX3_spareUpFrom_2 rfl (lv_at hl 2 rfl) ?_
    refine lv_aload_n hx hb dX3_spareUpFrom_3 rfl (lv_at hl 0 rfl) ?_
    refine gX3_18 C hW dX3_spareUpFrom_4 ?_
    refine lv_icmp_ge (tgt := 51) hx hb dX3_spareUpFrom_7 (by decide) (fun c7 => ?_) (fun c7 => ?_)
    · have h := (if_pos c7).symm.trans h
      cases h
      exact ret_v C hr hlk hS hW dX3_spareUpFrom_51
    · have h := (if_neg c7).symm.trans h
      refine lv_iload_n hx hb dX3_spareUpFrom_10 rfl (lv_at hl 2 rfl) ?_
      refine lv_aload_n hx hb dX3_spareUpFrom_11 rfl (lv_at hl 0 rfl) ?_
      refine gX3_11 C hW dX3_spareUpFrom_12 ?_
      refine alen_2 C hW dX3_spareUpFrom_15 ?_
      refine lv_icmp_ge (tgt := 51) hx hb dX3_spareUpFrom_16 (by decide) (fun c16 => ?_) (fun c16 => ?_)
      · have h := (if_pos c16).symm.trans h
        cases h
        exact ret_v C hr hlk hS hW dX3_spareUpFrom_51
      · have h := (if_neg c16).symm.trans h
        refine lv_aload_n hx hb dX3_spareUpFrom_19 rfl (lv_at hl 0 rfl) ?_
        refine gX3_11 C hW dX3_spareUpFrom_20 ?_
        refine lv_iload_n hx hb dX3_spareUpFrom_23 rfl (lv_at hl 2 rfl) ?_
        obtain ⟨g24, h⟩ := gd h
        obtain ⟨gr24, h⟩ := gd h
        have hr24 := Nat.lt_of_not_le gr24
        refine ald_row C hW g24 dX3_spareUpFrom_24 ?_
        refine gX3_22 hr24 C hW dX3_spareUpFrom_25 ?_
        refine lv_iload_n hx hb dX3_spareUpFrom_28 rfl (lv_at hl 1 rfl) ?_
        obtain ⟨r29, M29, hc29, h⟩ := bd2_e h
        refine kX3_47 C hml hl.1 (c_X4_isIn hc29) ⟨Nat.le_of_ble_eq_true rfl, Nat.le_of_ble_eq_true rfl⟩ ⟨Nat.le_of_ble_eq_true rfl, Nat.le_of_ble_eq_true rfl⟩ (Nat.le_of_ble_eq_true rfl) hS hW dX3_spareUpFrom_29 (fun H locs hW hS => ?_)
        refine lv_if_eq (tgt := 45) hx hb dX3_spareUpFrom_32 (by decide) (fun c32 => ?_) (fun c32 => ?_)
        · have h := (if_pos c32).symm.trans h
          exact w_X3_spareUpFrom_45 C hml hr hlk hK2 h hS hW (lv_sub hl [0, 1, 2] rfl)
        · have h := (if_neg c32).symm.trans h
          refine lv_aload_n hx hb dX3_spareUpFrom_35 rfl (lv_at hl 0 rfl) ?_
          refine gX3_11 C hW dX3_spareUpFrom_36 ?_
          refine lv_iload_n hx hb dX3_spareUpFrom_39 rfl (lv_at hl 2 rfl) ?_
          obtain ⟨g40, h⟩ := gd h
          obtain ⟨gr40, h⟩ := gd h
          have hr40 := Nat.lt_of_not_le gr40
          refine ald_row C hW g40 dX3_spareUpFrom_40 ?_
          refine lv_iconst (v := (0 : Int32)) hx hb dX3_spareUpFrom_41 (by decide) ?_
          refine pX3_29 hr40 (by decide) C hS hW dX3_spareUpFrom_42 (fun H locs hW hS => ?_)
          exact w_X3_spareUpFrom_45 C hml hr hlk hK2 h hS hW (lv_sub hl [0, 1, 2] rfl)
def f_X3_spareUpFrom_0 (M : Mem) (x1 : Int32) : Option Mem :=
  f_X3_spareUpFrom_2 64 M x1 (0 : Int32)
set_option maxHeartbeats 4000000 in
set_option maxRecDepth 100000 in
theorem w_X3_spareUpFrom_0 {p : Program} {l : Launch} {e : Env} {s : State} {m : MethodId} {args : Array Value} {below : List Frame} {meth : Method} {c : Code} {Z : Zt} {b : Nat} (C : Cx p s m args c cX3_spareUpFrom RX3 Z b) (hml : c.maxLocals = 3) (hr : meth.sig.returnType = (none : Option Jvm.ClassFile.FieldType)) (hlk : meth.locks = false) {M' : Mem} {M : Mem} {x1 : Int32} (h : f_X3_spareUpFrom_0 M x1 = some M') {H : Heap} {locs : List Loc} {ls : Array Slot} (hS : va_S (A0 b) s.heap H locs) (hW : Wd Z b M H) (hl : lv_has ls 3 [(0, .ref (b + 1)), (1, .int x1)]) : W p l e rm_X3_spareUpFrom s m args below meth c H locs 0 0 (MQ below (Qn Z b none M') args s 0 0 (A0 b)) (F0 m 0 ls []) := by
  unfold f_X3_spareUpFrom_0 at h
  have hx := C.1
  have hb := C.2.1
  refine lv_iconst (v := (0 : Int32)) hx hb dX3_spareUpFrom_0 (by decide) ?_
  refine lv_istore_n (lv' := [(2, .int (0 : Int32)), (0, .ref (b + 1)), (1, .int x1)]) hx hb dX3_spareUpFrom_1 rfl hl (by decide) rfl (fun ls hl => ?_)
  exact w_X3_spareUpFrom_2 C hml hr hlk 64 h hS hW (lv_sub hl [1, 2, 0] rfl)
def f_X3_spareUpFrom (M : Mem) (x1 : Int32) : Option Mem := f_X3_spareUpFrom_0 M x1
set_option maxHeartbeats 4000000 in
set_option maxRecDepth 100000 in
theorem c_X3_spareUpFrom {l : Launch} {Z : Zt} {b : Nat} {M : Mem} {x1 : Int32} {M' : Mem} (h : f_X3_spareUpFrom M x1 = some M') : Ct l yX3_spareUpFrom cX3_spareUpFrom 3 (none : Option Jvm.ClassFile.FieldType) rm_X3_spareUpFrom Z b [.ref (b + 1), .int x1] M none M' := by
  refine Met.ofW (cc := cX3_spareUpFrom) (maxL := 3) (ret := (none : Option Jvm.ClassFile.FieldType)) (by decide) rfl ?_
  intro p e s m args below meth c s₁ B hml hv
  obtain ⟨rfl, hE, hW⟩ := hv
  have C : Cx p s m [.ref (b + 1), .int x1].toArray c cX3_spareUpFrom RX3 Z b := ⟨B.exec, B.bytes, findClass_of_methodNamed B.named, fun w hw => atoms_spec (ws := Cond.code yX3_spareUpFrom cX3_spareUpFrom 3 (none : Option Jvm.ClassFile.FieldType) :: wsA) B.pre w (List.mem_cons_of_mem _ hw), hE⟩
  have hl := lv_entry [.ref (b + 1), .int x1] (n := 3) (Nat.le_of_ble_eq_true rfl)
  rw [lg_entry_eq]
  generalize (lg_sl [.ref (b + 1), .int x1] ++ List.replicate (3 - (lg_sl [.ref (b + 1), .int x1]).length) Slot.unset).toArray = ls at hl ⊢
  have hl : lv_has ls 3 [(0, .ref (b + 1)), (1, .int x1)] := hl
  exact w_X3_spareUpFrom_0 C hml B.returns B.notSynchronized h va_S.rf hW hl
def f_X4_spareFailures_2B (K2 : Mem → Int32 → Option Mem) (M : Mem) (x1 : Int32) : Option Mem :=
  if (M 0 0) ≤ x1 then some M else if (60 : Int32) ≤ x1 then some M else if x1 < 0 ∨ 60 ≤ x1.toNatClampNeg then none else bd1 (f_X3_spareUpFrom M (M 1 x1.toNatClampNeg)) (fun M29 => K2 M29 (x1 + 1))
def f_X4_spareFailures_2 : Nat → Mem → Int32 → Option Mem
  | 0 => fun _ _ => none
  | n + 1 => f_X4_spareFailures_2B (f_X4_spareFailures_2 n)
set_option maxHeartbeats 4000000 in
set_option maxRecDepth 100000 in
theorem w_X4_spareFailures_2 {p : Program} {l : Launch} {e : Env} {s : State} {m : MethodId} {args : Array Value} {below : List Frame} {meth : Method} {c : Code} {Z : Zt} {b : Nat} (C : Cx p s m args c cX4_spareFailures RX4 Z b) (hml : c.maxLocals = 2) (hr : meth.sig.returnType = (none : Option Jvm.ClassFile.FieldType)) (hlk : meth.locks = false) {M' : Mem} : ∀ (n : Nat) {M : Mem} {x1 : Int32} (h : f_X4_spareFailures_2 n M x1 = some M') {H : Heap} {locs : List Loc} {ls : Array Slot} (hS : va_S (A0 b) s.heap H locs) (hW : Wd Z b M H) (hl : lv_has ls 2 [(0, .ref (b + 0)), (1, .int x1)]), W p l e rm_X4_spareFailures s m args below meth c H locs 0 0 (MQ below (Qn Z b none M') args s 0 0 (A0 b)) (F0 m 2 ls []) := by
  intro n
  induction n with
  | zero =>
    intro M x1 h
    cases h
  | succ n ih =>
    intro M x1 h H locs ls hS hW hl
    have h : f_X4_spareFailures_2B (f_X4_spareFailures_2 n) M x1 = some M' := h
    unfold f_X4_spareFailures_2B at h
    have hK2 := @ih
    have hx := C.1
    have hb := C.2.1
    refine lv_iload_n hx hb dX4_spareFailures_2 rfl (lv_at hl 1 rfl) ?_
    refine lv_aload_n hx hb dX4_spareFailures_3 rfl (lv_at hl 0 rfl) ?_
    refine gX4_27 C hW dX4_spareFailures_4 ?_
    refine lv_icmp_ge (tgt := 38) hx hb dX4_spareFailures_7 (by decide) (fun c7 => ?_) (fun c7 => ?_)
    · have h := (if_pos c7).symm.trans h
      cases h
      exact ret_v C hr hlk hS hW dX4_spareFailures_38
    · have h := (if_neg c7).symm.trans h
      refine lv_iload_n hx hb dX4_spareFailures_10 rfl (lv_at hl 1 rfl) ?_
      refine lv_aload_n hx hb dX4_spareFailures_11 rfl (lv_at hl 0 rfl) ?_
      refine gX4_23 C hW dX4_spareFailures_12 ?_
      refine alen_155 C hW dX4_spareFailures_15 ?_
      refine lv_icmp_ge (tgt := 38) hx hb dX4_spareFailures_16 (by decide) (fun c16 => ?_) (fun c16 => ?_)
      · have h := (if_pos c16).symm.trans h
        cases h
        exact ret_v C hr hlk hS hW dX4_spareFailures_38
      · have h := (if_neg c16).symm.trans h
        refine lv_aload_n hx hb dX4_spareFailures_19 rfl (lv_at hl 0 rfl) ?_
        refine gX4_10 C hW dX4_spareFailures_20 ?_
        refine lv_aload_n hx hb dX4_spareFailures_23 rfl (lv_at hl 0 rfl) ?_
        refine gX4_23 C hW dX4_spareFailures_24 ?_
        refine lv_iload_n hx hb dX4_spareFailures_27 rfl (lv_at hl 1 rfl) ?_
        obtain ⟨g28, h⟩ := gd h
        refine ald_155 C hW g28 dX4_spareFailures_28 ?_
        obtain ⟨M29, hc29, h⟩ := bd1_e h
        refine kX4_240 C hml hl.1 (c_X3_spareUpFrom hc29) ⟨Nat.le_of_ble_eq_true rfl, Nat.le_of_ble_eq_true rfl⟩ ⟨Nat.le_of_ble_eq_true rfl, Nat.le_of_ble_eq_true rfl⟩ (Nat.le_of_ble_eq_true rfl) hS hW dX4_spareFailures_29 (fun H locs hW hS => ?_)
        refine lv_iinc (v := x1 + 1) (lv' := [(1, .int (x1 + 1)), (0, .ref (b + 0))]) hx hb dX4_spareFailures_32 hl (k := 1) rfl rfl (by decide) rfl (fun ls hl => ?_)
        refine lv_goto (tgt := 2) hx hb dX4_spareFailures_35 (by decide) ?_
        exact hK2 h hS hW (lv_sub hl [1, 0] rfl)
def f_X4_spareFailures_0 (M : Mem) : Option Mem :=
  f_X4_spareFailures_2 64 M (0 : Int32)
set_option maxHeartbeats 4000000 in
set_option maxRecDepth 100000 in
theorem w_X4_spareFailures_0 {p : Program} {l : Launch} {e : Env} {s : State} {m : MethodId} {args : Array Value} {below : List Frame} {meth : Method} {c : Code} {Z : Zt} {b : Nat} (C : Cx p s m args c cX4_spareFailures RX4 Z b) (hml : c.maxLocals = 2) (hr : meth.sig.returnType = (none : Option Jvm.ClassFile.FieldType)) (hlk : meth.locks = false) {M' : Mem} {M : Mem} (h : f_X4_spareFailures_0 M = some M') {H : Heap} {locs : List Loc} {ls : Array Slot} (hS : va_S (A0 b) s.heap H locs) (hW : Wd Z b M H) (hl : lv_has ls 2 [(0, .ref (b + 0))]) : W p l e rm_X4_spareFailures s m args below meth c H locs 0 0 (MQ below (Qn Z b none M') args s 0 0 (A0 b)) (F0 m 0 ls []) := by
  unfold f_X4_spareFailures_0 at h
  have hx := C.1
  have hb := C.2.1
  refine lv_iconst (v := (0 : Int32)) hx hb dX4_spareFailures_0 (by decide) ?_
  refine lv_istore_n (lv' := [(1, .int (0 : Int32)), (0, .ref (b + 0))]) hx hb dX4_spareFailures_1 rfl hl (by decide) rfl (fun ls hl => ?_)
  exact w_X4_spareFailures_2 C hml hr hlk 64 h hS hW (lv_sub hl [1, 0] rfl)
def f_X4_spareFailures (M : Mem) : Option Mem := f_X4_spareFailures_0 M
set_option maxHeartbeats 4000000 in
set_option maxRecDepth 100000 in
theorem c_X4_spareFailures {l : Launch} {Z : Zt} {b : Nat} {M : Mem} {M' : Mem} (h : f_X4_spareFailures M = some M') : Ct l yX4_spareFailures cX4_spareFailures 2 (none : Option Jvm.ClassFile.FieldType) rm_X4_spareFailures Z b [.ref (b + 0)] M none M' := by
  refine Met.ofW (cc := cX4_spareFailures) (maxL := 2) (ret := (none : Option Jvm.ClassFile.FieldType)) (by decide) rfl ?_
  intro p e s m args below meth c s₁ B hml hv
  obtain ⟨rfl, hE, hW⟩ := hv
  have C : Cx p s m [.ref (b + 0)].toArray c cX4_spareFailures RX4 Z b := ⟨B.exec, B.bytes, findClass_of_methodNamed B.named, fun w hw => atoms_spec (ws := Cond.code yX4_spareFailures cX4_spareFailures 2 (none : Option Jvm.ClassFile.FieldType) :: wsA) B.pre w (List.mem_cons_of_mem _ hw), hE⟩
  have hl := lv_entry [.ref (b + 0)] (n := 2) (Nat.le_of_ble_eq_true rfl)
  rw [lg_entry_eq]
  generalize (lg_sl [.ref (b + 0)] ++ List.replicate (2 - (lg_sl [.ref (b + 0)]).length) Slot.unset).toArray = ls at hl ⊢
  have hl : lv_has ls 2 [(0, .ref (b + 0))] := hl
  exact w_X4_spareFailures_0 C hml B.returns B.notSynchronized h va_S.rf hW hl
def f_X3_isGoingAt_0 (M : Mem) (x1 : Int32) : Option (Int32 × Mem) :=
  if x1 < 0 then some ((0 : Int32), M) else if (M 2 0) ≤ x1 then some ((0 : Int32), M) else if (60 : Int32) ≤ x1 then some ((0 : Int32), M) else if x1 < 0 ∨ 60 ≤ x1.toNatClampNeg then none else if 60 ≤ rk M x1.toNatClampNeg then none else if (M 7 (rk M x1.toNatClampNeg)) = 0 then some ((0 : Int32), M) else some ((1 : Int32), M)
set_option maxHeartbeats 4000000 in
set_option maxRecDepth 100000 in
theorem w_X3_isGoingAt_0 {p : Program} {l : Launch} {e : Env} {s : State} {m : MethodId} {args : Array Value} {below : List Frame} {meth : Method} {c : Code} {Z : Zt} {b : Nat} (C : Cx p s m args c cX3_isGoingAt RX3 Z b) (hml : c.maxLocals = 2) (hr : meth.sig.returnType = (some .boolean)) (hlk : meth.locks = false) {r' : Int32} {M' : Mem} {M : Mem} {x1 : Int32} (h : f_X3_isGoingAt_0 M x1 = some (r', M')) {H : Heap} {locs : List Loc} {ls : Array Slot} (hS : va_S (A0 b) s.heap H locs) (hW : Wd Z b M H) (hl : lv_has ls 2 [(0, .ref (b + 1)), (1, .int x1)]) : W p l e rm_X3_isGoingAt s m args below meth c H locs 0 0 (MQ below (Qn Z b (some (.int r')) M') args s 0 0 (A0 b)) (F0 m 0 ls []) := by
  unfold f_X3_isGoingAt_0 at h
  have hx := C.1
  have hb := C.2.1
  refine lv_iload_n hx hb dX3_isGoingAt_0 rfl (lv_at hl 1 rfl) ?_
  refine lv_if_lt (tgt := 37) hx hb dX3_isGoingAt_1 (by decide) (fun c1 => ?_) (fun c1 => ?_)
  · have h := (if_pos c1).symm.trans h
    refine lv_iconst (v := (0 : Int32)) hx hb dX3_isGoingAt_37 (by decide) ?_
    cases h
    exact ret_z C hr hlk (by decide) hS hW dX3_isGoingAt_38
  · have h := (if_neg c1).symm.trans h
    refine lv_iload_n hx hb dX3_isGoingAt_4 rfl (lv_at hl 1 rfl) ?_
    refine lv_aload_n hx hb dX3_isGoingAt_5 rfl (lv_at hl 0 rfl) ?_
    refine gX3_18 C hW dX3_isGoingAt_6 ?_
    refine lv_icmp_ge (tgt := 37) hx hb dX3_isGoingAt_9 (by decide) (fun c9 => ?_) (fun c9 => ?_)
    · have h := (if_pos c9).symm.trans h
      refine lv_iconst (v := (0 : Int32)) hx hb dX3_isGoingAt_37 (by decide) ?_
      cases h
      exact ret_z C hr hlk (by decide) hS hW dX3_isGoingAt_38
    · have h := (if_neg c9).symm.trans h
      refine lv_iload_n hx hb dX3_isGoingAt_12 rfl (lv_at hl 1 rfl) ?_
      refine lv_aload_n hx hb dX3_isGoingAt_13 rfl (lv_at hl 0 rfl) ?_
      refine gX3_11 C hW dX3_isGoingAt_14 ?_
      refine alen_2 C hW dX3_isGoingAt_17 ?_
      refine lv_icmp_ge (tgt := 37) hx hb dX3_isGoingAt_18 (by decide) (fun c18 => ?_) (fun c18 => ?_)
      · have h := (if_pos c18).symm.trans h
        refine lv_iconst (v := (0 : Int32)) hx hb dX3_isGoingAt_37 (by decide) ?_
        cases h
        exact ret_z C hr hlk (by decide) hS hW dX3_isGoingAt_38
      · have h := (if_neg c18).symm.trans h
        refine lv_aload_n hx hb dX3_isGoingAt_21 rfl (lv_at hl 0 rfl) ?_
        refine gX3_11 C hW dX3_isGoingAt_22 ?_
        refine lv_iload_n hx hb dX3_isGoingAt_25 rfl (lv_at hl 1 rfl) ?_
        obtain ⟨g26, h⟩ := gd h
        obtain ⟨gr26, h⟩ := gd h
        have hr26 := Nat.lt_of_not_le gr26
        refine ald_row C hW g26 dX3_isGoingAt_26 ?_
        refine gX3_29 hr26 C hW dX3_isGoingAt_27 ?_
        refine lv_if_eq (tgt := 37) hx hb dX3_isGoingAt_30 (by decide) (fun c30 => ?_) (fun c30 => ?_)
        · have h := (if_pos c30).symm.trans h
          refine lv_iconst (v := (0 : Int32)) hx hb dX3_isGoingAt_37 (by decide) ?_
          cases h
          exact ret_z C hr hlk (by decide) hS hW dX3_isGoingAt_38
        · have h := (if_neg c30).symm.trans h
          refine lv_iconst (v := (1 : Int32)) hx hb dX3_isGoingAt_33 (by decide) ?_
          refine lv_goto (tgt := 38) hx hb dX3_isGoingAt_34 (by decide) ?_
          cases h
          exact ret_z C hr hlk (by decide) hS hW dX3_isGoingAt_38
def f_X3_isGoingAt (M : Mem) (x1 : Int32) : Option (Int32 × Mem) := f_X3_isGoingAt_0 M x1
set_option maxHeartbeats 4000000 in
set_option maxRecDepth 100000 in
theorem c_X3_isGoingAt {l : Launch} {Z : Zt} {b : Nat} {M : Mem} {x1 : Int32} {r' : Int32} {M' : Mem} (h : f_X3_isGoingAt M x1 = some (r', M')) : Ct l yX3_isGoingAt cX3_isGoingAt 2 (some .boolean) rm_X3_isGoingAt Z b [.ref (b + 1), .int x1] M (some (.int r')) M' := by
  refine Met.ofW (cc := cX3_isGoingAt) (maxL := 2) (ret := (some .boolean)) (by decide) rfl ?_
  intro p e s m args below meth c s₁ B hml hv
  obtain ⟨rfl, hE, hW⟩ := hv
  have C : Cx p s m [.ref (b + 1), .int x1].toArray c cX3_isGoingAt RX3 Z b := ⟨B.exec, B.bytes, findClass_of_methodNamed B.named, fun w hw => atoms_spec (ws := Cond.code yX3_isGoingAt cX3_isGoingAt 2 (some .boolean) :: wsA) B.pre w (List.mem_cons_of_mem _ hw), hE⟩
  have hl := lv_entry [.ref (b + 1), .int x1] (n := 2) (Nat.le_of_ble_eq_true rfl)
  rw [lg_entry_eq]
  generalize (lg_sl [.ref (b + 1), .int x1] ++ List.replicate (2 - (lg_sl [.ref (b + 1), .int x1]).length) Slot.unset).toArray = ls at hl ⊢
  have hl : lv_has ls 2 [(0, .ref (b + 1)), (1, .int x1)] := hl
  exact w_X3_isGoingAt_0 C hml B.returns B.notSynchronized h va_S.rf hW hl
def f_X1_dropAt_36 (K2 : Mem → Int32 → Int32 → Option Mem) (M : Mem) (x1 : Int32) (x2 : Int32) : Option Mem :=
  K2 M x1 (x2 + 1)
set_option maxHeartbeats 4000000 in
set_option maxRecDepth 100000 in
theorem w_X1_dropAt_36 {p : Program} {l : Launch} {e : Env} {s : State} {m : MethodId} {args : Array Value} {below : List Frame} {meth : Method} {c : Code} {Z : Zt} {b : Nat} (C : Cx p s m args c cX1_dropAt RX1 Z b) (hml : c.maxLocals = 4) (hr : meth.sig.returnType = (none : Option Jvm.ClassFile.FieldType)) (hlk : meth.locks = false) {M' : Mem} {K2 : Mem → Int32 → Int32 → Option Mem} (hK2 : ∀ {M : Mem} {x1 : Int32} {x2 : Int32} (h : K2 M x1 x2 = some M') {H : Heap} {locs : List Loc} {ls : Array Slot} (hS : va_S (A0 b) s.heap H locs) (hW : Wd Z b M H) (hl : lv_has ls 4 [(0, .ref (b + 123)), (1, .int x1), (2, .int x2)]), W p l e rm_X1_dropAt s m args below meth c H locs 0 0 (MQ below (Qn Z b none M') args s 0 0 (A0 b)) (F0 m 2 ls [])) {M : Mem} {x1 : Int32} {x2 : Int32} (h : f_X1_dropAt_36 K2 M x1 x2 = some M') {H : Heap} {locs : List Loc} {ls : Array Slot} (hS : va_S (A0 b) s.heap H locs) (hW : Wd Z b M H) (hl : lv_has ls 4 [(0, .ref (b + 123)), (1, .int x1), (2, .int x2)]) : W p l e rm_X1_dropAt s m args below meth c H locs 0 0 (MQ below (Qn Z b none M') args s 0 0 (A0 b)) (F0 m 36 ls []) := by
  unfold f_X1_dropAt_36 at h
  have hx := C.1
  have hb := C.2.1
  refine lv_iinc (v := x2 + 1) (lv' := [(2, .int (x2 + 1)), (0, .ref (b + 123)), (1, .int x1)]) hx hb dX1_dropAt_36 hl (k := 2) rfl rfl (by decide) rfl (fun ls hl => ?_)
  refine lv_goto (tgt := 2) hx hb dX1_dropAt_39 (by decide) ?_
  exact hK2 h hS hW (lv_sub hl [1, 2, 0] rfl)
def f_X1_dropAt_2B (K2 : Mem → Int32 → Int32 → Option Mem) (M : Mem) (x1 : Int32) (x2 : Int32) : Option Mem :=
  if (M 10 0) ≤ x2 then some M else bd2 (f_X1_find M x2) (fun q12 M12 => oe q12 (f_X1_dropAt_36 K2 M12 x1 x2) (fun k12 => if 30 ≤ k12 then none else if (M12 13 k12) = x1 then f_X1_dropAt_36 K2 (mu M12 16 k12 (M12 11 0)) x1 x2 else f_X1_dropAt_36 K2 M12 x1 x2))
def f_X1_dropAt_2 : Nat → Mem → Int32 → Int32 → Option Mem
  | 0 => fun _ _ _ => none
  | n + 1 => f_X1_dropAt_2B (f_X1_dropAt_2 n)
set_option maxHeartbeats 4000000 in
set_option maxRecDepth 100000 in
theorem w_X1_dropAt_2 {p : Program} {l : Launch} {e : Env} {s : State} {m : MethodId} {args : Array Value} {below : List Frame} {meth : Method} {c : Code} {Z : Zt} {b : Nat} (C : Cx p s m args c cX1_dropAt RX1 Z b) (hml : c.maxLocals = 4) (hr : meth.sig.returnType = (none : Option Jvm.ClassFile.FieldType)) (hlk : meth.locks = false) {M' : Mem} : ∀ (n : Nat) {M : Mem} {x1 : Int32} {x2 : Int32} (h : f_X1_dropAt_2 n M x1 x2 = some M') {H : Heap} {locs : List Loc} {ls : Array Slot} (hS : va_S (A0 b) s.heap H locs) (hW : Wd Z b M H) (hl : lv_has ls 4 [(0, .ref (b + 123)), (1, .int x1), (2, .int x2)]), W p l e rm_X1_dropAt s m args below meth c H locs 0 0 (MQ below (Qn Z b none M') args s 0 0 (A0 b)) (F0 m 2 ls []) := by
  intro n
  induction n with
  | zero =>
    intro M x1 x2 h
    cases h
  | succ n ih =>
    intro M x1 x2 h H locs ls hS hW hl
    have h : f_X1_dropAt_2B (f_X1_dropAt_2 n) M x1 x2 = some M' := h
    unfold f_X1_dropAt_2B at h
    have hK2 := @ih
    have hx := C.1
    have hb := C.2.1
    refine lv_iload_n hx hb dX1_dropAt_2 rfl (lv_at hl 2 rfl) ?_
    refine lv_aload_n hx hb dX1_dropAt_3 rfl (lv_at hl 0 rfl) ?_
    refine gX1_18 C hW dX1_dropAt_4 ?_
    refine lv_icmp_ge (tgt := 42) hx hb dX1_dropAt_7 (by decide) (fun c7 => ?_) (fun c7 => ?_)
    · have h := (if_pos c7).symm.trans h
      cases h
      exact ret_v C hr hlk hS hW dX1_dropAt_42
    · have h := (if_neg c7).symm.trans h
      refine lv_aload_n hx hb dX1_dropAt_10 rfl (lv_at hl 0 rfl) ?_
      refine lv_iload_n hx hb dX1_dropAt_11 rfl (lv_at hl 2 rfl) ?_
      obtain ⟨q12, M12, hc12, h⟩ := bd2_e h
      refine kX1_28 C hml hl.1 (c_X1_find hc12) ⟨Nat.le_of_ble_eq_true rfl, Nat.le_of_ble_eq_true rfl⟩ ⟨Nat.le_of_ble_eq_true rfl, Nat.le_of_ble_eq_true rfl⟩ (Nat.le_of_ble_eq_true rfl) hS hW dX1_dropAt_12 (fun H locs hW hS => ?_)
      rcases q12 with _ | k12
      · have h := oe_n h
        refine W.eq (g2 := F0 m 15 ls [.null]) rfl ?_
        refine lv_astore_nN (lv' := [(3, .null), (0, .ref (b + 123)), (1, .int x1), (2, .int x2)]) hx hb dX1_dropAt_15 rfl hl (by decide) rfl (fun ls hl => ?_)
        refine lv_aload_nN hx hb dX1_dropAt_16 rfl (lv_at hl 0 rfl) ?_
        refine lv_ifnullN (tgt := 36) hx hb dX1_dropAt_17 (by decide) ?_
        exact w_X1_dropAt_36 C hml hr hlk hK2 h hS hW (lv_sub hl [1, 2, 3] rfl)
      · obtain ⟨g12, h⟩ := gd (oe_s h)
        have hk12 := Nat.lt_of_not_le g12
        refine W.eq (g2 := F0 m 15 ls [.ref (b + (125 + k12))]) rfl ?_
        refine lv_astore_n (lv' := [(3, .ref (b + (125 + k12))), (0, .ref (b + 123)), (1, .int x1), (2, .int x2)]) hx hb dX1_dropAt_15 rfl hl (by decide) rfl (fun ls hl => ?_)
        refine lv_aload_n hx hb dX1_dropAt_16 rfl (lv_at hl 0 rfl) ?_
        refine lv_ifnull hx hb dX1_dropAt_17 ?_
        refine lv_aload_n hx hb dX1_dropAt_20 rfl (lv_at hl 0 rfl) ?_
        refine gX1_47 hk12 C hW dX1_dropAt_21 ?_
        refine lv_iload_n hx hb dX1_dropAt_24 rfl (lv_at hl 2 rfl) ?_
        refine lv_icmp_ne (tgt := 36) hx hb dX1_dropAt_25 (by decide) (fun c25 => ?_) (fun c25 => ?_)
        · have h := (if_neg c25).symm.trans h
          exact w_X1_dropAt_36 C hml hr hlk hK2 h hS hW (lv_sub hl [1, 2, 3] rfl)
        · have h := (if_pos c25).symm.trans h
          refine lv_aload_n hx hb dX1_dropAt_28 rfl (lv_at hl 0 rfl) ?_
          refine lv_aload_n hx hb dX1_dropAt_29 rfl (lv_at hl 1 rfl) ?_
          refine gX1_22 C hW dX1_dropAt_30 ?_
          refine pX1_25 hk12 C hS hW dX1_dropAt_33 (fun H locs hW hS => ?_)
          exact w_X1_dropAt_36 C hml hr hlk hK2 h hS hW (lv_sub hl [1, 2, 3] rfl)
def f_X1_dropAt_0 (M : Mem) (x1 : Int32) : Option Mem :=
  f_X1_dropAt_2 64 M x1 (0 : Int32)
set_option maxHeartbeats 4000000 in
set_option maxRecDepth 100000 in
theorem w_X1_dropAt_0 {p : Program} {l : Launch} {e : Env} {s : State} {m : MethodId} {args : Array Value} {below : List Frame} {meth : Method} {c : Code} {Z : Zt} {b : Nat} (C : Cx p s m args c cX1_dropAt RX1 Z b) (hml : c.maxLocals = 4) (hr : meth.sig.returnType = (none : Option Jvm.ClassFile.FieldType)) (hlk : meth.locks = false) {M' : Mem} {M : Mem} {x1 : Int32} (h : f_X1_dropAt_0 M x1 = some M') {H : Heap} {locs : List Loc} {ls : Array Slot} (hS : va_S (A0 b) s.heap H locs) (hW : Wd Z b M H) (hl : lv_has ls 4 [(0, .ref (b + 123)), (1, .int x1)]) : W p l e rm_X1_dropAt s m args below meth c H locs 0 0 (MQ below (Qn Z b none M') args s 0 0 (A0 b)) (F0 m 0 ls []) := by
  unfold f_X1_dropAt_0 at h
  have hx := C.1
  have hb := C.2.1
  refine lv_iconst (v := (0 : Int32)) hx hb dX1_dropAt_0 (by decide) ?_
  refine lv_istore_n (lv' := [(2, .int (0 : Int32)), (0, .ref (b + 123)), (1, .int x1)]) hx hb dX1_dropAt_1 rfl hl (by decide) rfl (fun ls hl => ?_)
  exact w_X1_dropAt_2 C hml hr hlk 64 h hS hW (lv_sub hl [1, 2, 0] rfl)
def f_X1_dropAt (M : Mem) (x1 : Int32) : Option Mem := f_X1_dropAt_0 M x1
set_option maxHeartbeats 4000000 in
set_option maxRecDepth 100000 in
theorem c_X1_dropAt {l : Launch} {Z : Zt} {b : Nat} {M : Mem} {x1 : Int32} {M' : Mem} (h : f_X1_dropAt M x1 = some M') : Ct l yX1_dropAt cX1_dropAt 4 (none : Option Jvm.ClassFile.FieldType) rm_X1_dropAt Z b [.ref (b + 123), .int x1] M none M' := by
  refine Met.ofW (cc := cX1_dropAt) (maxL := 4) (ret := (none : Option Jvm.ClassFile.FieldType)) (by decide) rfl ?_
  intro p e s m args below meth c s₁ B hml hv
  obtain ⟨rfl, hE, hW⟩ := hv
  have C : Cx p s m [.ref (b + 123), .int x1].toArray c cX1_dropAt RX1 Z b := ⟨B.exec, B.bytes, findClass_of_methodNamed B.named, fun w hw => atoms_spec (ws := Cond.code yX1_dropAt cX1_dropAt 4 (none : Option Jvm.ClassFile.FieldType) :: wsA) B.pre w (List.mem_cons_of_mem _ hw), hE⟩
  have hl := lv_entry [.ref (b + 123), .int x1] (n := 4) (Nat.le_of_ble_eq_true rfl)
  rw [lg_entry_eq]
  generalize (lg_sl [.ref (b + 123), .int x1] ++ List.replicate (4 - (lg_sl [.ref (b + 123), .int x1]).length) Slot.unset).toArray = ls at hl ⊢
  have hl : lv_has ls 4 [(0, .ref (b + 123)), (1, .int x1)] := hl
  exact w_X1_dropAt_0 C hml B.returns B.notSynchronized h va_S.rf hW hl
def f_X3_removeMarked_63 (M : Mem) (x1 : Int32) : Option Mem :=
  some (mu M 2 0 x1)
set_option maxHeartbeats 4000000 in
set_option maxRecDepth 100000 in
theorem w_X3_removeMarked_63 {p : Program} {l : Launch} {e : Env} {s : State} {m : MethodId} {args : Array Value} {below : List Frame} {meth : Method} {c : Code} {Z : Zt} {b : Nat} (C : Cx p s m args c cX3_removeMarked RX3 Z b) (hml : c.maxLocals = 4) (hr : meth.sig.returnType = (none : Option Jvm.ClassFile.FieldType)) (hlk : meth.locks = false) {M' : Mem} {M : Mem} {x1 : Int32} (h : f_X3_removeMarked_63 M x1 = some M') {H : Heap} {locs : List Loc} {ls : Array Slot} (hS : va_S (A0 b) s.heap H locs) (hW : Wd Z b M H) (hl : lv_has ls 4 [(0, .ref (b + 1)), (1, .int x1)]) : W p l e rm_X3_removeMarked s m args below meth c H locs 0 0 (MQ below (Qn Z b none M') args s 0 0 (A0 b)) (F0 m 63 ls []) := by
  unfold f_X3_removeMarked_63 at h
  have hx := C.1
  have hb := C.2.1
  refine lv_aload_n hx hb dX3_removeMarked_63 rfl (lv_at hl 0 rfl) ?_
  refine lv_iload_n hx hb dX3_removeMarked_64 rfl (lv_at hl 1 rfl) ?_
  refine pX3_18 C hS hW dX3_removeMarked_65 (fun H locs hW hS => ?_)
  cases h
  exact ret_v C hr hlk hS hW dX3_removeMarked_68
def f_X3_removeMarked_57 (K4 : Mem → Int32 → Int32 → Option Mem) (M : Mem) (x1 : Int32) (x2 : Int32) : Option Mem :=
  K4 M x1 (x2 + 1)
set_option maxHeartbeats 4000000 in
set_option maxRecDepth 100000 in
theorem w_X3_removeMarked_57 {p : Program} {l : Launch} {e : Env} {s : State} {m : MethodId} {args : Array Value} {below : List Frame} {meth : Method} {c : Code} {Z : Zt} {b : Nat} (C : Cx p s m args c cX3_removeMarked RX3 Z b) (hml : c.maxLocals = 4) (hr : meth.sig.returnType = (none : Option Jvm.ClassFile.FieldType)) (hlk : meth.locks = false) {M' : Mem} {K4 : Mem → Int32 → Int32 → Option Mem} (hK4 : ∀ {M : Mem} {x1 : Int32} {x2 : Int32} (h : K4 M x1 x2 = some M') {H : Heap} {locs : List Loc} {ls : Array Slot} (hS : va_S (A0 b) s.heap H locs) (hW : Wd Z b M H) (hl : lv_has ls 4 [(0, .ref (b + 1)), (1, .int x1), (2, .int x2)]), W p l e rm_X3_removeMarked s m args below meth c H locs 0 0 (MQ below (Qn Z b none M') args s 0 0 (A0 b)) (F0 m 4 ls [])) {M : Mem} {x1 : Int32} {x2 : Int32} (h : f_X3_removeMarked_57 K4 M x1 x2 = some M') {H : Heap} {locs : List Loc} {ls : Array Slot} (hS : va_S (A0 b) s.heap H locs) (hW : Wd Z b M H) (hl : lv_has ls 4 [(0, .ref (b + 1)), (1, .int x1), (2, .int x2)]) : W p l e rm_X3_removeMarked s m args below meth c H locs 0 0 (MQ below (Qn Z b none M') args s 0 0 (A0 b)) (F0 m 57 ls []) := by
  unfold f_X3_removeMarked_57 at h
  have hx := C.1
  have hb := C.2.1
  refine lv_iinc (v := x2 + 1) (lv' := [(2, .int (x2 + 1)), (0, .ref (b + 1)), (1, .int x1)]) hx hb dX3_removeMarked_57 hl (k := 2) rfl rfl (by decide) rfl (fun ls hl => ?_)
  refine lv_goto (tgt := 4) hx hb dX3_removeMarked_60 (by decide) ?_
  exact hK4 h hS hW (lv_sub hl [1, 2, 0] rfl)
def f_X3_removeMarked_4B (K4 : Mem → Int32 → Int32 → Option Mem) (M : Mem) (x1 : Int32) (x2 : Int32) : Option Mem :=
  if (M 2 0) ≤ x2 then f_X3_removeMarked_63 M x1 else if (60 : Int32) ≤ x2 then f_X3_removeMarked_63 M x1 else if x2 < 0 ∨ 60 ≤ x2.toNatClampNeg then none else if 60 ≤ rk M x2.toNatClampNeg then none else if (M 7 (rk M x2.toNatClampNeg)) = 0 then (if x1 < 0 ∨ 60 ≤ x1.toNatClampNeg then none else if 60 ≤ rk M x1.toNatClampNeg then none else if x2 < 0 ∨ 60 ≤ x2.toNatClampNeg then none else if x1 < 0 ∨ 60 ≤ x1.toNatClampNeg then none else f_X3_removeMarked_57 K4 (mu (mu M 3 x2.toNatClampNeg (nI (rk M x1.toNatClampNeg))) 3 x1.toNatClampNeg (nI (rk M x2.toNatClampNeg))) (x1 + 1) x2) else f_X3_removeMarked_57 K4 M x1 x2
def f_X3_removeMarked_4 : Nat → Mem → Int32 → Int32 → Option Mem
  | 0 => fun _ _ _ => none
  | n + 1 => f_X3_removeMarked_4B (f_X3_removeMarked_4 n)
set_option maxHeartbeats 4000000 in
set_option maxRecDepth 100000 in
theorem w_X3_removeMarked_4 {p : Program} {l : Launch} {e : Env} {s : State} {m : MethodId} {args : Array Value} {below : List Frame} {meth : Method} {c : Code} {Z : Zt} {b : Nat} (C : Cx p s m args c cX3_removeMarked RX3 Z b) (hml : c.maxLocals = 4) (hr : meth.sig.returnType = (none : Option Jvm.ClassFile.FieldType)) (hlk : meth.locks = false) {M' : Mem} : ∀ (n : Nat) {M : Mem} {x1 : Int32} {x2 : Int32} (h : f_X3_removeMarked_4 n M x1 x2 = some M') {H : Heap} {locs : List Loc} {ls : Array Slot} (hS : va_S (A0 b) s.heap H locs) (hW : Wd Z b M H) (hl : lv_has ls 4 [(0, .ref (b + 1)), (1, .int x1), (2, .int x2)]), W p l e rm_X3_removeMarked s m args below meth c H locs 0 0 (MQ below (Qn Z b none M') args s 0 0 (A0 b)) (F0 m 4 ls []) := by
  intro n
  induction n with
  | zero =>
    intro M x1 x2 h
    cases h
  | succ n ih =>
    intro M x1 x2 h H locs ls hS hW hl
    have h : f_X3_removeMarked_4B (f_X3_removeMarked_4 n) M x1 x2 = some M' := h
    unfold f_X3_removeMarked_4B at h
    have hK4 := @ih
    have hx := C.1
    have hb := C.2.1
    refine lv_iload_n hx hb dX3_removeMarked_4 rfl (lv_at hl 2 rfl) ?_
    refine lv_aload_n hx hb dX3_removeMarked_5 rfl (lv_at hl 0 rfl) ?_
    refine gX3_18 C hW dX3_removeMarked_6 ?_
    refine lv_icmp_ge (tgt := 63) hx hb dX3_removeMarked_9 (by decide) (fun c9 => ?_) (fun c9 => ?_)
    · have h := (if_pos c9).symm.trans h
      exact w_X3_removeMarked_63 C hml hr hlk h hS hW (lv_sub hl [0, 1] rfl)
    · have h := (if_neg c9).symm.trans h
      refine lv_iload_n hx hb dX3_removeMarked_12 rfl (lv_at hl 2 rfl) ?_
      refine lv_aload_n hx hb dX3_removeMarked_13 rfl (lv_at hl 0 rfl) ?_
      refine gX3_11 C hW dX3_removeMarked_14 ?_
      refine alen_2 C hW dX3_removeMarked_17 ?_
      refine lv_icmp_ge (tgt := 63) hx hb dX3_removeMarked_18 (by decide) (fun c18 => ?_) (fun c18 => ?_)
      · have h := (if_pos c18).symm.trans h
        exact w_X3_removeMarked_63 C hml hr hlk h hS hW (lv_sub hl [0, 1] rfl)
      · have h := (if_neg c18).symm.trans h
        refine lv_aload_n hx hb dX3_removeMarked_21 rfl (lv_at hl 0 rfl) ?_
        refine gX3_11 C hW dX3_removeMarked_22 ?_
        refine lv_iload_n hx hb dX3_removeMarked_25 rfl (lv_at hl 2 rfl) ?_
        obtain ⟨g26, h⟩ := gd h
        obtain ⟨gr26, h⟩ := gd h
        have hr26 := Nat.lt_of_not_le gr26
        refine ald_row C hW g26 dX3_removeMarked_26 ?_
        refine lv_astore_n (lv' := [(3, .ref (b + (3 + 2 * (rk M x2.toNatClampNeg)))), (0, .ref (b + 1)), (1, .int x1), (2, .int x2)]) hx hb dX3_removeMarked_27 rfl hl (by decide) rfl (fun ls hl => ?_)
        refine lv_aload_n hx hb dX3_removeMarked_28 rfl (lv_at hl 0 rfl) ?_
        refine gX3_29 hr26 C hW dX3_removeMarked_29 ?_
        refine lv_if_ne (tgt := 57) hx hb dX3_removeMarked_32 (by decide) (fun c32 => ?_) (fun c32 => ?_)
        · have h := (if_neg c32).symm.trans h
          exact w_X3_removeMarked_57 C hml hr hlk hK4 h hS hW (lv_sub hl [1, 2, 3] rfl)
        · have h := (if_pos c32).symm.trans h
          refine lv_aload_n hx hb dX3_removeMarked_35 rfl (lv_at hl 1 rfl) ?_
          refine gX3_11 C hW dX3_removeMarked_36 ?_
          refine lv_iload_n hx hb dX3_removeMarked_39 rfl (lv_at hl 3 rfl) ?_
          refine lv_aload_n hx hb dX3_removeMarked_40 rfl (lv_at hl 1 rfl) ?_
          refine gX3_11 C hW dX3_removeMarked_41 ?_
          refine lv_iload_n hx hb dX3_removeMarked_44 rfl (lv_at hl 2 rfl) ?_
          obtain ⟨g45, h⟩ := gd h
          obtain ⟨gr45, h⟩ := gd h
          have hr45 := Nat.lt_of_not_le gr45
          refine ald_row C hW g45 dX3_removeMarked_45 ?_
          obtain ⟨g46, h⟩ := gd h
          refine ast_row hr45 C hS hW g46 dX3_removeMarked_46 (fun H locs hW hS => ?_)
          refine lv_aload_n hx hb dX3_removeMarked_47 rfl (lv_at hl 1 rfl) ?_
          refine gX3_11 C hW dX3_removeMarked_48 ?_
          refine lv_iload_n hx hb dX3_removeMarked_51 rfl (lv_at hl 2 rfl) ?_
          refine lv_aload_n hx hb dX3_removeMarked_52 rfl (lv_at hl 0 rfl) ?_
          obtain ⟨g53, h⟩ := gd h
          refine ast_row hr26 C hS hW g53 dX3_removeMarked_53 (fun H locs hW hS => ?_)
          refine lv_iinc (v := x1 + 1) (lv' := [(1, .int (x1 + 1)), (3, .ref (b + (3 + 2 * (rk M x2.toNatClampNeg)))), (0, .ref (b + 1)), (2, .int x2)]) hx hb dX3_removeMarked_54 hl (k := 2) rfl rfl (by decide) rfl (fun ls hl => ?_)
          exact w_X3_removeMarked_57 C hml hr hlk hK4 h hS hW (lv_sub hl [2, 0, 3] rfl)
def f_X3_removeMarked_0 (M : Mem) : Option Mem :=
  f_X3_removeMarked_4 64 M (0 : Int32) (0 : Int32)
set_option maxHeartbeats 4000000 in
set_option maxRecDepth 100000 in
theorem w_X3_removeMarked_0 {p : Program} {l : Launch} {e : Env} {s : State} {m : MethodId} {args : Array Value} {below : List Frame} {meth : Method} {c : Code} {Z : Zt} {b : Nat} (C : Cx p s m args c cX3_removeMarked RX3 Z b) (hml : c.maxLocals = 4) (hr : meth.sig.returnType = (none : Option Jvm.ClassFile.FieldType)) (hlk : meth.locks = false) {M' : Mem} {M : Mem} (h : f_X3_removeMarked_0 M = some M') {H : Heap} {locs : List Loc} {ls : Array Slot} (hS : va_S (A0 b) s.heap H locs) (hW : Wd Z b M H) (hl : lv_has ls 4 [(0, .ref (b + 1))]) : W p l e rm_X3_removeMarked s m args below meth c H locs 0 0 (MQ below (Qn Z b none M') args s 0 0 (A0 b)) (F0 m 0 ls []) := by
  unfold f_X3_removeMarked_0 at h
  have hx := C.1
  have hb := C.2.1
  refine lv_iconst (v := (0 : Int32)) hx hb dX3_removeMarked_0 (by decide) ?_
  refine lv_istore_n (lv' := [(1, .int (0 : Int32)), (0, .ref (b + 1))]) hx hb dX3_removeMarked_1 rfl hl (by decide) rfl (fun ls hl => ?_)
  refine lv_iconst (v := (0 : Int32)) hx hb dX3_removeMarked_2 (by decide) ?_
  refine lv_istore_n (lv' := [(2, .int (0 : Int32)), (1, .int (0 : Int32)), (0, .ref (b + 1))]) hx hb dX3_removeMarked_3 rfl hl (by decide) rfl (fun ls hl => ?_)
  exact w_X3_removeMarked_4 C hml hr hlk 64 h hS hW (lv_sub hl [2, 1, 0] rfl)
def f_X3_removeMarked (M : Mem) : Option Mem := f_X3_removeMarked_0 M
set_option maxHeartbeats 4000000 in
set_option maxRecDepth 100000 in
theorem c_X3_removeMarked {l : Launch} {Z : Zt} {b : Nat} {M : Mem} {M' : Mem} (h : f_X3_removeMarked M = some M') : Ct l yX3_removeMarked cX3_removeMarked 4 (none : Option Jvm.ClassFile.FieldType) rm_X3_removeMarked Z b [.ref (b + 1)] M none M' := by
  refine Met.ofW (cc := cX3_removeMarked) (maxL := 4) (ret := (none : Option Jvm.ClassFile.FieldType)) (by decide) rfl ?_
  intro p e s m args below meth c s₁ B hml hv
  obtain ⟨rfl, hE, hW⟩ := hv
  have C : Cx p s m [.ref (b + 1)].toArray c cX3_removeMarked RX3 Z b := ⟨B.exec, B.bytes, findClass_of_methodNamed B.named, fun w hw => atoms_spec (ws := Cond.code yX3_removeMarked cX3_removeMarked 4 (none : Option Jvm.ClassFile.FieldType) :: wsA) B.pre w (List.mem_cons_of_mem _ hw), hE⟩
  have hl := lv_entry [.ref (b + 1)] (n := 4) (Nat.le_of_ble_eq_true rfl)
  rw [lg_entry_eq]
  generalize (lg_sl [.ref (b + 1)] ++ List.replicate (4 - (lg_sl [.ref (b + 1)]).length) Slot.unset).toArray = ls at hl ⊢
  have hl : lv_has ls 4 [(0, .ref (b + 1))] := hl
  exact w_X3_removeMarked_0 C hml B.returns B.notSynchronized h va_S.rf hW hl
def f_X4_removeMarked_39 (K2 : Mem → Int32 → Option Mem) (M : Mem) (x1 : Int32) : Option Mem :=
  K2 M (x1 + 1)
set_option maxHeartbeats 4000000 in
set_option maxRecDepth 100000 in
theorem w_X4_removeMarked_39 {p : Program} {l : Launch} {e : Env} {s : State} {m : MethodId} {args : Array Value} {below : List Frame} {meth : Method} {c : Code} {Z : Zt} {b : Nat} (C : Cx p s m args c cX4_removeMarked RX4 Z b) (hml : c.maxLocals = 2) (hr : meth.sig.returnType = (none : Option Jvm.ClassFile.FieldType)) (hlk : meth.locks = false) {M' : Mem} {K2 : Mem → Int32 → Option Mem} (hK2 : ∀ {M : Mem} {x1 : Int32} (h : K2 M x1 = some M') {H : Heap} {locs : List Loc} {ls : Array Slot} (hS : va_S (A0 b) s.heap H locs) (hW : Wd Z b M H) (hl : lv_has ls 2 [(0, .ref (b + 0)), (1, .int x1)]), W p l e rm_X4_removeMarked s m args below meth c H locs 0 0 (MQ below (Qn Z b none M') args s 0 0 (A0 b)) (F0 m 2 ls [])) {M : Mem} {x1 : Int32} (h : f_X4_removeMarked_39 K2 M x1 = some M') {H : Heap} {locs : List Loc} {ls : Array Slot} (hS : va_S (A0 b) s.heap H locs) (hW : Wd Z b M H) (hl : lv_has ls 2 [(0, .ref (b + 0)), (1, .int x1)]) : W p l e rm_X4_removeMarked s m args below meth c H locs 0 0 (MQ below (Qn Z b none M') args s 0 0 (A0 b)) (F0 m 39 ls []) := by
  unfold f_X4_removeMarked_39 at h
  have hx := C.1
  have hb := C.2.1
  refine lv_iinc (v := x1 + 1) (lv' := [(1, .int (x1 + 1)), (0, .ref (b + 0))]) hx hb dX4_removeMarked_39 hl (k := 1) rfl rfl (by decide) rfl (fun ls hl => ?_)
  refine lv_goto (tgt := 2) hx hb dX4_removeMarked_42 (by decide) ?_
  exact hK2 h hS hW (lv_sub hl [1, 0] rfl)
def f_X4_removeMarked_2B (K2 : Mem → Int32 → Option Mem) (M : Mem) (x1 : Int32) : Option Mem :=
  if (M 2 0) ≤ x1 then bd1 (f_X3_removeMarked M) (fun M49 => some M49) else bd2 (f_X3_isGoingAt M x1) (fun r18 M18 => if r18 = 0 then f_X4_removeMarked_39 K2 M18 x1 else bd2 (f_X3_pathAt M18 x1) (fun r33 M33 => bd1 (f_X1_dropAt M33 r33) (fun M36 => f_X4_removeMarked_39 K2 M36 x1)))
def f_X4_removeMarked_2 : Nat → Mem → Int32 → Option Mem
  | 0 => fun _ _ => none
  | n + 1 => f_X4_removeMarked_2B (f_X4_removeMarked_2 n)
set_option maxHeartbeats 4000000 in
set_option maxRecDepth 100000 in
theorem w_X4_removeMarked_2 {p : Program} {l : Launch} {e : Env} {s : State} {m : MethodId} {args : Array Value} {below : List Frame} {meth : Method} {c : Code} {Z : Zt} {b : Nat} (C : Cx p s m args c cX4_removeMarked RX4 Z b) (hml : c.maxLocals = 2) (hr : meth.sig.returnType = (none : Option Jvm.ClassFile.FieldType)) (hlk : meth.locks = false) {M' : Mem} : ∀ (n : Nat) {M : Mem} {x1 : Int32} (h : f_X4_removeMarked_2 n M x1 = some M') {H : Heap} {locs : List Loc} {ls : Array Slot} (hS : va_S (A0 b) s.heap H locs) (hW : Wd Z b M H) (hl : lv_has ls 2 [(0, .ref (b + 0)), (1, .int x1)]), W p l e rm_X4_removeMarked s m args below meth c H locs 0 0 (MQ below (Qn Z b none M') args s 0 0 (A0 b)) (F0 m 2 ls []) := by
  intro n
  induction n with
  | zero =>
    intro M x1 h
    cases h
  | succ n ih =>
    intro M x1 h H locs ls hS hW hl
    have h : f_X4_removeMarked_2B (f_X4_removeMarked_2 n) M x1 = some M' := h
    unfold f_X4_removeMarked_2B at h
    have hK2 := @ih
    have hx := C.1
    have hb := C.2.1
    refine lv_iload_n hx hb dX4_removeMarked_2 rfl (lv_at hl 1 rfl) ?_
    refine lv_aload_n hx hb dX4_removeMarked_3 rfl (lv_at hl 0 rfl) ?_
    refine gX4_10 C hW dX4_removeMarked_4 ?_
    refine gX4_57 C hW dX4_removeMarked_7 ?_
    refine lv_icmp_ge (tgt := 45) hx hb dX4_removeMarked_10 (by decide) (fun c10 => ?_) (fun c10 => ?_)
    · have h := (if_pos c10).symm.trans h
      refine lv_aload_n hx hb dX4_removeMarked_45 rfl (lv_at hl 0 rfl) ?_
      refine gX4_10 C hW dX4_removeMarked_46 ?_
      obtain ⟨M49, hc49, h⟩ := bd1_e h
      refine kX4_249 C hml hl.1 (c_X3_removeMarked hc49) ⟨Nat.le_of_ble_eq_true rfl, Nat.le_of_ble_eq_true rfl⟩ ⟨Nat.le_of_ble_eq_true rfl, Nat.le_of_ble_eq_true rfl⟩ (Nat.le_of_ble_eq_true rfl) hS hW dX4_removeMarked_49 (fun H locs hW hS => ?_)
      cases h
      exact ret_v C hr hlk hS hW dX4_removeMarked_52
    · have h := (if_neg c10).symm.trans h
      refine lv_aload_n hx hb dX4_removeMarked_13 rfl (lv_at hl 0 rfl) ?_
      refine gX4_10 C hW dX4_removeMarked_14 ?_
      refine lv_iload_n hx hb dX4_removeMarked_17 rfl (lv_at hl 1 rfl) ?_
      obtain ⟨r18, M18, hc18, h⟩ := bd2_e h
      refine kX4_243 C hml hl.1 (c_X3_isGoingAt hc18) ⟨Nat.le_of_ble_eq_true rfl, Nat.le_of_ble_eq_true rfl⟩ ⟨Nat.le_of_ble_eq_true rfl, Nat.le_of_ble_eq_true rfl⟩ (Nat.le_of_ble_eq_true rfl) hS hW dX4_removeMarked_18 (fun H locs hW hS => ?_)
      refine lv_if_eq (tgt := 39) hx hb dX4_removeMarked_21 (by decide) (fun c21 => ?_) (fun c21 => ?_)
      · have h := (if_pos c21).symm.trans h
        exact w_X4_removeMarked_39 C hml hr hlk hK2 h hS hW (lv_sub hl [0, 1] rfl)
      · have h := (if_neg c21).symm.trans h
        refine lv_aload_n hx hb dX4_removeMarked_24 rfl (lv_at hl 0 rfl) ?_
        refine gX4_19 C hW dX4_removeMarked_25 ?_
        refine lv_aload_n hx hb dX4_removeMarked_28 rfl (lv_at hl 0 rfl) ?_
        refine gX4_10 C hW dX4_removeMarked_29 ?_
        refine lv_iload_n hx hb dX4_removeMarked_32 rfl (lv_at hl 1 rfl) ?_
        obtain ⟨r33, M33, hc33, h⟩ := bd2_e h
        refine kX4_144 C hml hl.1 (c_X3_pathAt hc33) ⟨Nat.le_of_ble_eq_true rfl, Nat.le_of_ble_eq_true rfl⟩ ⟨Nat.le_of_ble_eq_true rfl, Nat.le_of_ble_eq_true rfl⟩ (Nat.le_of_ble_eq_true rfl) hS hW dX4_removeMarked_33 (fun H locs hW hS => ?_)
        obtain ⟨M36, hc36, h⟩ := bd1_e h
        refine kX4_246 C hml hl.1 (c_X1_dropAt hc36) ⟨Nat.le_of_ble_eq_true rfl, Nat.le_of_ble_eq_true rfl⟩ ⟨Nat.le_of_ble_eq_true rfl, Nat.le_of_ble_eq_true rfl⟩ (Nat.le_of_ble_eq_true rfl) hS hW dX4_removeMarked_36 (fun H locs hW hS => ?_)
        exact w_X4_removeMarked_39 C hml hr hlk hK2 h hS hW (lv_sub hl [0, 1] rfl)
def f_X4_removeMarked_0 (M : Mem) : Option Mem :=
  f_X4_removeMarked_2 64 M (0 : Int32)
set_option maxHeartbeats 4000000 in
set_option maxRecDepth 100000 in
theorem w_X4_removeMarked_0 {p : Program} {l : Launch} {e : Env} {s : State} {m : MethodId} {args : Array Value} {below : List Frame} {meth : Method} {c : Code} {Z : Zt} {b : Nat} (C : Cx p s m args c cX4_removeMarked RX4 Z b) (hml : c.maxLocals = 2) (hr : meth.sig.returnType = (none : Option Jvm.ClassFile.FieldType)) (hlk : meth.locks = false) {M' : Mem} {M : Mem} (h : f_X4_removeMarked_0 M = some M') {H : Heap} {locs : List Loc} {ls : Array Slot} (hS : va_S (A0 b) s.heap H locs) (hW : Wd Z b M H) (hl : lv_has ls 2 [(0, .ref (b + 0))]) : W p l e rm_X4_removeMarked s m args below meth c H locs 0 0 (MQ below (Qn Z b none M') args s 0 0 (A0 b)) (F0 m 0 ls []) := by
  unfold f_X4_removeMarked_0 at h
  have hx := C.1
  have hb := C.2.1
  refine lv_iconst (v := (0 : Int32)) hx hb dX4_removeMarked_0 (by decide) ?_
  refine lv_istore_n (lv' := [(1, .int (0 : Int32)), (0, .ref (b + 0))]) hx hb dX4_removeMarked_1 rfl hl (by decide) rfl (fun ls hl => ?_)
  exact w_X4_removeMarked_2 C hml hr hlk 64 h hS hW (lv_sub hl [1, 0] rfl)
def f_X4_removeMarked (M : Mem) : Option Mem := f_X4_removeMarked_0 M
set_option maxHeartbeats 4000000 in
set_option maxRecDepth 100000 in
theorem c_X4_removeMarked {l : Launch} {Z : Zt} {b : Nat} {M : Mem} {M' : Mem} (h : f_X4_removeMarked M = some M') : Ct l yX4_removeMarked cX4_removeMarked 2 (none : Option Jvm.ClassFile.FieldType) rm_X4_removeMarked Z b [.ref (b + 0)] M none M' := by
  refine Met.ofW (cc := cX4_removeMarked) (maxL := 2) (ret := (none : Option Jvm.ClassFile.FieldType)) (by decide) rfl ?_
  intro p e s m args below meth c s₁ B hml hv
  obtain ⟨rfl, hE, hW⟩ := hv
  have C : Cx p s m [.ref (b + 0)].toArray c cX4_removeMarked RX4 Z b := ⟨B.exec, B.bytes, findClass_of_methodNamed B.named, fun w hw => atoms_spec (ws := Cond.code yX4_removeMarked cX4_removeMarked 2 (none : Option Jvm.ClassFile.FieldType) :: wsA) B.pre w (List.mem_cons_of_mem _ hw), hE⟩
  have hl := lv_entry [.ref (b + 0)] (n := 2) (Nat.le_of_ble_eq_true rfl)
  rw [lg_entry_eq]
  generalize (lg_sl [.ref (b + 0)] ++ List.replicate (2 - (lg_sl [.ref (b + 0)]).length) Slot.unset).toArray = ls at hl ⊢
  have hl : lv_has ls 2 [(0, .ref (b + 0))] := hl
  exact w_X4_removeMarked_0 C hml B.returns B.notSynchronized h va_S.rf hW hl
def f_X4_delete_0 (M : Mem) (x1 : Int32) (x2 : Int32) (x3 : Int32) : Option ((String ⊕ Int32) × Mem) :=
  bdx (f_X4_requireClient M x1) (fun r1 M1 => bdx (f_X4_requirePathBelowTop M1 x2) (fun r5 M5 => bdx (f_X4_requireNotNegative M5 x3) (fun r9 M9 => bd2 (f_X3_find (mu M9 0 0 (0 : Int32)) x2) (fun q22 M22 => oe q22 (some (.inr (1 : Int32), M22)) (fun k22 => if 60 ≤ k22 then none else bd2 (f_X4_allowsWithParent M22 x1 x2 x3) (fun r34 M34 => if r34 = 0 then some (.inr (4 : Int32), M34) else bd1 (f_X4_noteFailures M34 x1 x2 x3) (fun M46 => bd1 (f_X3_markTree M46 x2) (fun M54 => bd1 (f_X4_spareFailures M54) (fun M58 => bd1 (f_X4_removeMarked M58) (fun M62 => if (M62 0 0) = 0 then some (.inr (0 : Int32), M62) else some (.inr (6 : Int32), M62)))))))))))
set_option maxHeartbeats 4000000 in
set_option maxRecDepth 100000 in
theorem w_X4_delete_0 {p : Program} {l : Launch} {e : Env} {s : State} {m : MethodId} {args : Array Value} {below : List Frame} {meth : Method} {c : Code} {Z : Zt} {b : Nat} (C : Cx p s m args c cX4_delete RX4 Z b) (hml : c.maxLocals = 4) (hr : meth.sig.returnType = (some .int)) (hlk : meth.locks = false) (hlf : l.stackTraces = false) (ht : ∀ x ∈ c.exceptionTable.toList, False) {res : ((String ⊕ Int32) × Mem)} {M : Mem} {x1 : Int32} {x2 : Int32} {x3 : Int32} (h : f_X4_delete_0 M x1 x2 x3 = some res) {H : Heap} {locs : List Loc} {ls : Array Slot} (hS : va_S (A0 b) s.heap H locs) (hW : Wd Z b M H) (hl : lv_has ls 4 [(0, .ref (b + 0)), (1, .int x1), (2, .int x2), (3, .int x3)]) : W p l e rm_X4_delete s m args below meth c H locs 0 0 (vx_MQ below (Qx Z b (voI res.1) res.2) (XCx Z b (voI res.1) res.2) args s 4 24 (A0 b)) (F0 m 0 ls []) := by
  unfold f_X4_delete_0 at h
  have hx := C.1
  have hb := C.2.1
  refine lv_iload_n hx hb dX4_delete_0 rfl (lv_at hl 1 rfl) ?_
  rcases bdx_e h with ⟨E1, M1, hc1, rfl⟩ | ⟨r1, M1, hc1, h⟩
  · exact kX4_31T C hml hl.1 (c_X4_requireClient hlf hc1) ⟨Nat.le_of_ble_eq_true rfl, Nat.le_of_ble_eq_true rfl⟩ ⟨Nat.le_of_ble_eq_true rfl, Nat.le_of_ble_eq_true rfl⟩ (Nat.le_of_ble_eq_true rfl) hS hW dX4_delete_1 ht hlk (Nat.le_of_ble_eq_true rfl) (Nat.le_of_ble_eq_true rfl)
  refine kX4_31R C hml hl.1 (c_X4_requireClient hlf hc1) ⟨Nat.le_of_ble_eq_true rfl, Nat.le_of_ble_eq_true rfl⟩ ⟨Nat.le_of_ble_eq_true rfl, Nat.le_of_ble_eq_true rfl⟩ (Nat.le_of_ble_eq_true rfl) hS hW dX4_delete_1 (fun H locs hW hS => ?_)
  refine lv_iload_n hx hb dX4_delete_4 rfl (lv_at hl 2 rfl) ?_
  rcases bdx_e h with ⟨E5, M5, hc5, rfl⟩ | ⟨r5, M5, hc5, h⟩
  · exact kX4_35T C hml hl.1 (c_X4_requirePathBelowTop hlf hc5) ⟨Nat.le_of_ble_eq_true rfl, Nat.le_of_ble_eq_true rfl⟩ ⟨Nat.le_of_ble_eq_true rfl, Nat.le_of_ble_eq_true rfl⟩ (Nat.le_of_ble_eq_true rfl) hS hW dX4_delete_5 ht hlk (Nat.le_of_ble_eq_true rfl) (Nat.le_of_ble_eq_true rfl)
  refine kX4_35R C hml hl.1 (c_X4_requirePathBelowTop hlf hc5) ⟨Nat.le_of_ble_eq_true rfl, Nat.le_of_ble_eq_true rfl⟩ ⟨Nat.le_of_ble_eq_true rfl, Nat.le_of_ble_eq_true rfl⟩ (Nat.le_of_ble_eq_true rfl) hS hW dX4_delete_5 (fun H locs hW hS => ?_)
  refine lv_iload_n hx hb dX4_delete_8 rfl (lv_at hl 3 rfl) ?_
  rcases bdx_e h with ⟨E9, M9, hc9, rfl⟩ | ⟨r9, M9, hc9, h⟩
  · exact kX4_38T C hml hl.1 (c_X4_requireNotNegative hlf hc9) ⟨Nat.le_of_ble_eq_true rfl, Nat.le_of_ble_eq_true rfl⟩ ⟨Nat.le_of_ble_eq_true rfl, Nat.le_of_ble_eq_true rfl⟩ (Nat.le_of_ble_eq_true rfl) hS hW dX4_delete_9 ht hlk (Nat.le_of_ble_eq_true rfl) (Nat.le_of_ble_eq_true rfl)
  refine kX4_38R C hml hl.1 (c_X4_requireNotNegative hlf hc9) ⟨Nat.le_of_ble_eq_true rfl, Nat.le_of_ble_eq_true rfl⟩ ⟨Nat.le_of_ble_eq_true rfl, Nat.le_of_ble_eq_true rfl⟩ (Nat.le_of_ble_eq_true rfl) hS hW dX4_delete_9 (fun H locs hW hS => ?_)
  refine lv_aload_n hx hb dX4_delete_12 rfl (lv_at hl 0 rfl) ?_
  refine lv_iconst (v := (0 : Int32)) hx hb dX4_delete_13 (by decide) ?_
  refine pX4_27 C hS hW dX4_delete_14 (fun H locs hW hS => ?_)
  refine lv_aload_n hx hb dX4_delete_17 rfl (lv_at hl 0 rfl) ?_
  refine gX4_10 C hW dX4_delete_18 ?_
  refine lv_iload_n hx hb dX4_delete_21 rfl (lv_at hl 2 rfl) ?_
  obtain ⟨q22, M22, hc22, h⟩ := bd2_e h
  refine kX4_49 C hml hl.1 (c_X3_find hc22) ⟨Nat.le_of_ble_eq_true rfl, Nat.le_of_ble_eq_true rfl⟩ ⟨Nat.le_of_ble_eq_true rfl, Nat.le_of_ble_eq_true rfl⟩ (Nat.le_of_ble_eq_true rfl) hS hW dX4_delete_22 (fun H locs hW hS => ?_)
  rcases q22 with _ | k22
  · have h := oe_n h
    refine W.eq (g2 := F0 m 25 ls [.null]) rfl ?_
    refine lv_ifnonnullN hx hb dX4_delete_25 ?_
    refine lv_iconst (v := (1 : Int32)) hx hb dX4_delete_28 (by decide) ?_
    cases h
    exact ret_xi C hr hlk hS hW dX4_delete_29 (Nat.le_of_ble_eq_true rfl) (Nat.le_of_ble_eq_true rfl)
  · obtain ⟨g22, h⟩ := gd (oe_s h)
    have hk22 := Nat.lt_of_not_le g22
    refine W.eq (g2 := F0 m 25 ls [.ref (b + (3 + 2 * k22))]) rfl ?_
    refine lv_ifnonnull (tgt := 30) hx hb dX4_delete_25 (by decide) ?_
    refine lv_aload_n hx hb dX4_delete_30 rfl (lv_at hl 0 rfl) ?_
    refine lv_iload_n hx hb dX4_delete_31 rfl (lv_at hl 1 rfl) ?_
    refine lv_iload_n hx hb dX4_delete_32 rfl (lv_at hl 2 rfl) ?_
    refine lv_iload_n hx hb dX4_delete_33 rfl (lv_at hl 3 rfl) ?_
    obtain ⟨r34, M34, hc34, h⟩ := bd2_e h
    refine kX4_53 C hml hl.1 (c_X4_allowsWithParent hc34) ⟨Nat.le_of_ble_eq_true rfl, Nat.le_of_ble_eq_true rfl⟩ ⟨Nat.le_of_ble_eq_true rfl, Nat.le_of_ble_eq_true rfl⟩ (Nat.le_of_ble_eq_true rfl) hS hW dX4_delete_34 (fun H locs hW hS => ?_)
    refine lv_if_ne (tgt := 42) hx hb dX4_delete_37 (by decide) (fun c37 => ?_) (fun c37 => ?_)
    · have h := (if_neg c37).symm.trans h
      refine lv_aload_n hx hb dX4_delete_42 rfl (lv_at hl 0 rfl) ?_
      refine lv_iload_n hx hb dX4_delete_43 rfl (lv_at hl 1 rfl) ?_
      refine lv_iload_n hx hb dX4_delete_44 rfl (lv_at hl 2 rfl) ?_
      refine lv_iload_n hx hb dX4_delete_45 rfl (lv_at hl 3 rfl) ?_
      obtain ⟨M46, hc46, h⟩ := bd1_e h
      refine kX4_75 C hml hl.1 (c_X4_noteFailures hc46) ⟨Nat.le_of_ble_eq_true rfl, Nat.le_of_ble_eq_true rfl⟩ ⟨Nat.le_of_ble_eq_true rfl, Nat.le_of_ble_eq_true rfl⟩ (Nat.le_of_ble_eq_true rfl) hS hW dX4_delete_46 (fun H locs hW hS => ?_)
      refine lv_aload_n hx hb dX4_delete_49 rfl (lv_at hl 0 rfl) ?_
      refine gX4_10 C hW dX4_delete_50 ?_
      refine lv_iload_n hx hb dX4_delete_53 rfl (lv_at hl 2 rfl) ?_
      obtain ⟨M54, hc54, h⟩ := bd1_e h
      refine kX4_78 C hml hl.1 (c_X3_markTree hc54) ⟨Nat.le_of_ble_eq_true rfl, Nat.le_of_ble_eq_true rfl⟩ ⟨Nat.le_of_ble_eq_true rfl, Nat.le_of_ble_eq_true rfl⟩ (Nat.le_of_ble_eq_true rfl) hS hW dX4_delete_54 (fun H locs hW hS => ?_)
      refine lv_aload_n hx hb dX4_delete_57 rfl (lv_at hl 0 rfl) ?_
      obtain ⟨M58, hc58, h⟩ := bd1_e h
      refine kX4_81 C hml hl.1 (c_X4_spareFailures hc58) ⟨Nat.le_of_ble_eq_true rfl, Nat.le_of_ble_eq_true rfl⟩ ⟨Nat.le_of_ble_eq_true rfl, Nat.le_of_ble_eq_true rfl⟩ (Nat.le_of_ble_eq_true rfl) hS hW dX4_delete_58 (fun H locs hW hS => ?_)
      refine lv_aload_n hx hb dX4_delete_61 rfl (lv_at hl 0 rfl) ?_
      obtain ⟨M62, hc62, h⟩ := bd1_e h
      refine kX4_84 C hml hl.1 (c_X4_removeMarked hc62) ⟨Nat.le_of_ble_eq_true rfl, Nat.le_of_ble_eq_true rfl⟩ ⟨Nat.le_of_ble_eq_true rfl, Nat.le_of_ble_eq_true rfl⟩ (Nat.le_of_ble_eq_true rfl) hS hW dX4_delete_62 (fun H locs hW hS => ?_)
      refine lv_aload_n hx hb dX4_delete_65 rfl (lv_at hl 0 rfl) ?_
      refine gX4_27 C hW dX4_delete_66 ?_
      refine lv_if_ne (tgt := 76) hx hb dX4_delete_69 (by decide) (fun c69 => ?_) (fun c69 => ?_)
      · have h := (if_neg c69).symm.trans h
        refine lv_bipush (v := (6 : Int32)) hx hb dX4_delete_76 (by decide) ?_
        cases h
        exact ret_xi C hr hlk hS hW dX4_delete_78 (Nat.le_of_ble_eq_true rfl) (Nat.le_of_ble_eq_true rfl)
      · have h := (if_pos c69).symm.trans h
        refine lv_iconst (v := (0 : Int32)) hx hb dX4_delete_72 (by decide) ?_
        refine lv_goto (tgt := 78) hx hb dX4_delete_73 (by decide) ?_
        cases h
        exact ret_xi C hr hlk hS hW dX4_delete_78 (Nat.le_of_ble_eq_true rfl) (Nat.le_of_ble_eq_true rfl)
    · have h := (if_pos c37).symm.trans h
      refine lv_iconst (v := (4 : Int32)) hx hb dX4_delete_40 (by decide) ?_
      cases h
      exact ret_xi C hr hlk hS hW dX4_delete_41 (Nat.le_of_ble_eq_true rfl) (Nat.le_of_ble_eq_true rfl)
def f_X4_delete (M : Mem) (x1 : Int32) (x2 : Int32) (x3 : Int32) : Option ((String ⊕ Int32) × Mem) := f_X4_delete_0 M x1 x2 x3
set_option maxHeartbeats 4000000 in
set_option maxRecDepth 100000 in
theorem c_X4_delete {l : Launch} {Z : Zt} {b : Nat} (hlf : l.stackTraces = false) {M : Mem} {x1 : Int32} {x2 : Int32} {x3 : Int32} {res : ((String ⊕ Int32) × Mem)} (h : f_X4_delete M x1 x2 x3 = some res) : Cx' l yX4_delete cX4_delete 4 (some .int) rm_X4_delete 4 24 Z b [.ref (b + 0), .int x1, .int x2, .int x3] M (voI res.1) res.2 := by
  refine vx_ofW (cc := cX4_delete) (maxL := 4) (ret := (some .int)) (by decide) rfl ?_
  intro p e s m args below meth c s₁ B hml ht hv
  obtain ⟨rfl, hE, hW⟩ := hv
  have C : Cx p s m [.ref (b + 0), .int x1, .int x2, .int x3].toArray c cX4_delete RX4 Z b := ⟨B.exec, B.bytes, findClass_of_methodNamed B.named, fun w hw => atoms_spec (ws := Cond.code yX4_delete cX4_delete 4 (some .int) :: wsA) B.pre w (List.mem_cons_of_mem _ hw), hE⟩
  have hl := lv_entry [.ref (b + 0), .int x1, .int x2, .int x3] (n := 4) (Nat.le_of_ble_eq_true rfl)
  rw [lg_entry_eq]
  generalize (lg_sl [.ref (b + 0), .int x1, .int x2, .int x3] ++ List.replicate (4 - (lg_sl [.ref (b + 0), .int x1, .int x2, .int x3]).length) Slot.unset).toArray = ls at hl ⊢
  have hl : lv_has ls 4 [(0, .ref (b + 0)), (1, .int x1), (2, .int x2), (3, .int x3)] := hl
  exact w_X4_delete_0 C hml B.returns B.notSynchronized hlf ht h va_S.rf hW hl
def f_X4_failures_0 (M : Mem) : Option (Int32 × Mem) :=
  some (M 0 0, M)
set_option maxHeartbeats 4000000 in
set_option maxRecDepth 100000 in
theorem w_X4_failures_0 {p : Program} {l : Launch} {e : Env} {s : State} {m : MethodId} {args : Array Value} {below : List Frame} {meth : Method} {c : Code} {Z : Zt} {b : Nat} (C : Cx p s m args c cX4_failures RX4 Z b) (hml : c.maxLocals = 1) (hr : meth.sig.returnType = (some .int)) (hlk : meth.locks = false) {r' : Int32} {M' : Mem} {M : Mem} (h : f_X4_failures_0 M = some (r', M')) {H : Heap} {locs : List Loc} {ls : Array Slot} (hS : va_S (A0 b) s.heap H locs) (hW : Wd Z b M H) (hl : lv_has ls 1 [(0, .ref (b + 0))]) : W p l e rm_X4_failures s m args below meth c H locs 0 0 (MQ below (Qn Z b (some (.int r')) M') args s 0 0 (A0 b)) (F0 m 0 ls []) := by
  unfold f_X4_failures_0 at h
  have hx := C.1
  have hb := C.2.1
  refine lv_aload_n hx hb dX4_failures_0 rfl (lv_at hl 0 rfl) ?_
  refine gX4_27 C hW dX4_failures_1 ?_
  cases h
  exact ret_i C hr hlk hS hW dX4_failures_4
def f_X4_failures (M : Mem) : Option (Int32 × Mem) := f_X4_failures_0 M
set_option maxHeartbeats 4000000 in
set_option maxRecDepth 100000 in
theorem c_X4_failures {l : Launch} {Z : Zt} {b : Nat} {M : Mem} {r' : Int32} {M' : Mem} (h : f_X4_failures M = some (r', M')) : Ct l yX4_failures cX4_failures 1 (some .int) rm_X4_failures Z b [.ref (b + 0)] M (some (.int r')) M' := by
  refine Met.ofW (cc := cX4_failures) (maxL := 1) (ret := (some .int)) (by decide) rfl ?_
  intro p e s m args below meth c s₁ B hml hv
  obtain ⟨rfl, hE, hW⟩ := hv
  have C : Cx p s m [.ref (b + 0)].toArray c cX4_failures RX4 Z b := ⟨B.exec, B.bytes, findClass_of_methodNamed B.named, fun w hw => atoms_spec (ws := Cond.code yX4_failures cX4_failures 1 (some .int) :: wsA) B.pre w (List.mem_cons_of_mem _ hw), hE⟩
  have hl := lv_entry [.ref (b + 0)] (n := 1) (Nat.le_of_ble_eq_true rfl)
  rw [lg_entry_eq]
  generalize (lg_sl [.ref (b + 0)] ++ List.replicate (1 - (lg_sl [.ref (b + 0)]).length) Slot.unset).toArray = ls at hl ⊢
  have hl : lv_has ls 1 [(0, .ref (b + 0))] := hl
  exact w_X4_failures_0 C hml B.returns B.notSynchronized h va_S.rf hW hl
def f_X4_failureAt_0 (M : Mem) (x1 : Int32) : Option ((String ⊕ Int32) × Mem) :=
  if x1 < 0 then some (.inl "java/lang/IndexOutOfBoundsException", M) else if (M 0 0) ≤ x1 then some (.inl "java/lang/IndexOutOfBoundsException", M) else if x1 < (60 : Int32) then (if x1 < 0 ∨ 60 ≤ x1.toNatClampNeg then none else some (.inr (M 1 x1.toNatClampNeg), M)) else some (.inl "java/lang/IndexOutOfBoundsException", M)
set_option maxHeartbeats 4000000 in
set_option maxRecDepth 100000 in
theorem w_X4_failureAt_0 {p : Program} {l : Launch} {e : Env} {s : State} {m : MethodId} {args : Array Value} {below : List Frame} {meth : Method} {c : Code} {Z : Zt} {b : Nat} (C : Cx p s m args c cX4_failureAt RX4 Z b) (hml : c.maxLocals = 2) (hr : meth.sig.returnType = (some .int)) (hlk : meth.locks = false) (hlf : l.stackTraces = false) (ht : ∀ x ∈ c.exceptionTable.toList, False) {res : ((String ⊕ Int32) × Mem)} {M : Mem} {x1 : Int32} (h : f_X4_failureAt_0 M x1 = some res) {H : Heap} {locs : List Loc} {ls : Array Slot} (hS : va_S (A0 b) s.heap H locs) (hW : Wd Z b M H) (hl : lv_has ls 2 [(0, .ref (b + 0)), (1, .int x1)]) : W p l e rm_X4_failureAt s m args below meth c H locs 0 0 (vx_MQ below (Qx Z b (voI res.1) res.2) (XCx Z b (voI res.1) res.2) args s 1 6 (A0 b)) (F0 m 0 ls []) := by
  unfold f_X4_failureAt_0 at h
  have hx := C.1
  have hb := C.2.1
  refine lv_iload_n hx hb dX4_failureAt_0 rfl (lv_at hl 1 rfl) ?_
  refine lv_if_lt (tgt := 21) hx hb dX4_failureAt_1 (by decide) (fun c1 => ?_) (fun c1 => ?_)
  · have h := (if_pos c1).symm.trans h
    cases h
    exact thB (is := 89) (text := "no such failure") hlf C ht hlk (by decide +kernel) hS hW (hl.1.trans hml.symm) dX4_failureAt_21 dX4_failureAt_24 dX4_failureAt_25 dX4_failureAt_27 dX4_failureAt_30 ⟨Nat.le_of_ble_eq_true rfl, Nat.le_of_ble_eq_true rfl⟩ ⟨Nat.le_of_ble_eq_true rfl, Nat.le_of_ble_eq_true rfl⟩ (Nat.le_of_ble_eq_true rfl) (Nat.le_of_ble_eq_true rfl)
  · have h := (if_neg c1).symm.trans h
    refine lv_iload_n hx hb dX4_failureAt_4 rfl (lv_at hl 1 rfl) ?_
    refine lv_aload_n hx hb dX4_failureAt_5 rfl (lv_at hl 0 rfl) ?_
    refine gX4_27 C hW dX4_failureAt_6 ?_
    refine lv_icmp_ge (tgt := 21) hx hb dX4_failureAt_9 (by decide) (fun c9 => ?_) (fun c9 => ?_)
    · have h := (if_pos c9).symm.trans h
      cases h
      exact thB (is := 89) (text := "no such failure") hlf C ht hlk (by decide +kernel) hS hW (hl.1.trans hml.symm) dX4_failureAt_21 dX4_failureAt_24 dX4_failureAt_25 dX4_failureAt_27 dX4_failureAt_30 ⟨Nat.le_of_ble_eq_true rfl, Nat.le_of_ble_eq_true rfl⟩ ⟨Nat.le_of_ble_eq_true rfl, Nat.le_of_ble_eq_true rfl⟩ (Nat.le_of_ble_eq_true rfl) (Nat.le_of_ble_eq_true rfl)
    · have h := (if_neg c9).symm.trans h
      refine lv_iload_n hx hb dX4_failureAt_12 rfl (lv_at hl 1 rfl) ?_
      refine lv_aload_n hx hb dX4_failureAt_13 rfl (lv_at hl 0 rfl) ?_
      refine gX4_23 C hW dX4_failureAt_14 ?_
      refine alen_155 C hW dX4_failureAt_17 ?_
      refine lv_icmp_lt (tgt := 31) hx hb dX4_failureAt_18 (by decide) (fun c18 => ?_) (fun c18 => ?_)
      · have h := (if_pos c18).symm.trans h
        refine lv_aload_n hx hb dX4_failureAt_31 rfl (lv_at hl 0 rfl) ?_
        refine gX4_23 C hW dX4_failureAt_32 ?_
        refine lv_iload_n hx hb dX4_failureAt_35 rfl (lv_at hl 1 rfl) ?_
        obtain ⟨g36, h⟩ := gd h
        refine ald_155 C hW g36 dX4_failureAt_36 ?_
        cases h
        exact ret_xi C hr hlk hS hW dX4_failureAt_37 (Nat.le_of_ble_eq_true rfl) (Nat.le_of_ble_eq_true rfl)
      · have h := (if_neg c18).symm.trans h
        cases h
        exact thB (is := 89) (text := "no such failure") hlf C ht hlk (by decide +kernel) hS hW (hl.1.trans hml.symm) dX4_failureAt_21 dX4_failureAt_24 dX4_failureAt_25 dX4_failureAt_27 dX4_failureAt_30 ⟨Nat.le_of_ble_eq_true rfl, Nat.le_of_ble_eq_true rfl⟩ ⟨Nat.le_of_ble_eq_true rfl, Nat.le_of_ble_eq_true rfl⟩ (Nat.le_of_ble_eq_true rfl) (Nat.le_of_ble_eq_true rfl)
def f_X4_failureAt (M : Mem) (x1 : Int32) : Option ((String ⊕ Int32) × Mem) := f_X4_failureAt_0 M x1
set_option maxHeartbeats 4000000 in
set_option maxRecDepth 100000 in
theorem c_X4_failureAt {l : Launch} {Z : Zt} {b : Nat} (hlf : l.stackTraces = false) {M : Mem} {x1 : Int32} {res : ((String ⊕ Int32) × Mem)} (h : f_X4_failureAt M x1 = some res) : Cx' l yX4_failureAt cX4_failureAt 2 (some .int) rm_X4_failureAt 1 6 Z b [.ref (b + 0), .int x1] M (voI res.1) res.2 := by
  refine vx_ofW (cc := cX4_failureAt) (maxL := 2) (ret := (some .int)) (by decide) rfl ?_
  intro p e s m args below meth c s₁ B hml ht hv
  obtain ⟨rfl, hE, hW⟩ := hv
  have C : Cx p s m [.ref (b + 0), .int x1].toArray c cX4_failureAt RX4 Z b := ⟨B.exec, B.bytes, findClass_of_methodNamed B.named, fun w hw => atoms_spec (ws := Cond.code yX4_failureAt cX4_failureAt 2 (some .int) :: wsA) B.pre w (List.mem_cons_of_mem _ hw), hE⟩
  have hl := lv_entry [.ref (b + 0), .int x1] (n := 2) (Nat.le_of_ble_eq_true rfl)
  rw [lg_entry_eq]
  generalize (lg_sl [.ref (b + 0), .int x1] ++ List.replicate (2 - (lg_sl [.ref (b + 0), .int x1]).length) Slot.unset).toArray = ls at hl ⊢
  have hl : lv_has ls 2 [(0, .ref (b + 0)), (1, .int x1)] := hl
  exact w_X4_failureAt_0 C hml B.returns B.notSynchronized hlf ht h va_S.rf hW hl
def f_X4_requireTransfer_0 (M : Mem) (x0 : Int32) (x1 : Int32) (x2 : Int32) (x3 : Int32) : Option ((String ⊕ Unit) × Mem) :=
  bdx (f_X4_requireClient M x0) (fun r1 M1 => bdx (f_X4_requirePathBelowTop M1 x1) (fun r5 M5 => bdx (f_X4_requirePathBelowTop M5 x2) (fun r9 M9 => bdx (f_X4_requireNotNegative M9 x3) (fun r13 M13 => bd2 (f_X4_isIn M13 x1 x2) (fun r18 M18 => if r18 = 0 then bd2 (f_X4_isIn M18 x2 x1) (fun r26 M26 => if r26 = 0 then some (.inr (), M26) else some (.inl "java/lang/IllegalArgumentException", M26)) else some (.inl "java/lang/IllegalArgumentException", M18))))))
set_option maxHeartbeats 4000000 in
set_option maxRecDepth 100000 in
theorem w_X4_requireTransfer_0 {p : Program} {l : Launch} {e : Env} {s : State} {m : MethodId} {args : Array Value} {below : List Frame} {meth : Method} {c : Code} {Z : Zt} {b : Nat} (C : Cx p s m args c cX4_requireTransfer RX4 Z b) (hml : c.maxLocals = 4) (hr : meth.sig.returnType = (none : Option Jvm.ClassFile.FieldType)) (hlk : meth.locks = false) (hlf : l.stackTraces = false) (ht : ∀ x ∈ c.exceptionTable.toList, False) {res : ((String ⊕ Unit) × Mem)} {M : Mem} {x0 : Int32} {x1 : Int32} {x2 : Int32} {x3 : Int32} (h : f_X4_requireTransfer_0 M x0 x1 x2 x3 = some res) {H : Heap} {locs : List Loc} {ls : Array Slot} (hS : va_S (A0 b) s.heap H locs) (hW : Wd Z b M H) (hl : lv_has ls 4 [(0, .int x0), (1, .int x1), (2, .int x2), (3, .int x3)]) : W p l e rm_X4_requireTransfer s m args below meth c H locs 0 0 (vx_MQ below (Qx Z b (voU res.1) res.2) (XCx Z b (voU res.1) res.2) args s 7 42 (A0 b)) (F0 m 0 ls []) := by
  unfold f_X4_requireTransfer_0 at h
  have hx := C.1
  have hb := C.2.1
  refine lv_iload_n hx hb dX4_requireTransfer_0 rfl (lv_at hl 0 rfl) ?_
  rcases bdx_e h with ⟨E1, M1, hc1, rfl⟩ | ⟨r1, M1, hc1, h⟩
  · exact kX4_31T C hml hl.1 (c_X4_requireClient hlf hc1) ⟨Nat.le_of_ble_eq_true rfl, Nat.le_of_ble_eq_true rfl⟩ ⟨Nat.le_of_ble_eq_true rfl, Nat.le_of_ble_eq_true rfl⟩ (Nat.le_of_ble_eq_true rfl) hS hW dX4_requireTransfer_1 ht hlk (Nat.le_of_ble_eq_true rfl) (Nat.le_of_ble_eq_true rfl)
  refine kX4_31R C hml hl.1 (c_X4_requireClient hlf hc1) ⟨Nat.le_of_ble_eq_true rfl, Nat.le_of_ble_eq_true rfl⟩ ⟨Nat.le_of_ble_eq_true rfl, Nat.le_of_ble_eq_true rfl⟩ (Nat.le_of_ble_eq_true rfl) hS hW dX4_requireTransfer_1 (fun H locs hW hS => ?_)
  refine lv_iload_n hx hb dX4_requireTransfer_4 rfl (lv_at hl 1 rfl) ?_
  rcases bdx_e h with ⟨E5, M5, hc5, rfl⟩ | ⟨r5, M5, hc5, h⟩
  · exact kX4_35T C hml hl.1 (c_X4_requirePathBelowTop hlf hc5) ⟨Nat.le_of_ble_eq_true rfl, Nat.le_of_ble_eq_true rfl⟩ ⟨Nat.le_of_ble_eq_true rfl, Nat.le_of_ble_eq_true rfl⟩ (Nat.le_of_ble_eq_true rfl) hS hW dX4_requireTransfer_5 ht hlk (Nat.le_of_ble_eq_true rfl) (Nat.le_of_ble_eq_true rfl)
  refine kX4_35R C hml hl.1 (c_X4_requirePathBelowTop hlf hc5) ⟨Nat.le_of_ble_eq_true rfl, Nat.le_of_ble_eq_true rfl⟩ ⟨Nat.le_of_ble_eq_true rfl, Nat.le_of_ble_eq_true rfl⟩ (Nat.le_of_ble_eq_true rfl) hS hW dX4_requireTransfer_5 (fun H locs hW hS => ?_)
  refine lv_iload_n hx hb dX4_requireTransfer_8 rfl (lv_at hl 2 rfl) ?_
  rcases bdx_e h with ⟨E9, M9, hc9, rfl⟩ | ⟨r9, M9, hc9, h⟩
  · exact kX4_35T C hml hl.1 (c_X4_requirePathBelowTop hlf hc9) ⟨Nat.le_of_ble_eq_true rfl, Nat.le_of_ble_eq_true rfl⟩ ⟨Nat.le_of_ble_eq_true rfl, Nat.le_of_ble_eq_true rfl⟩ (Nat.le_of_ble_eq_true rfl) hS hW dX4_requireTransfer_9 ht hlk (Nat.le_of_ble_eq_true rfl) (Nat.le_of_ble_eq_true rfl)
  refine kX4_35R C hml hl.1 (c_X4_requirePathBelowTop hlf hc9) ⟨Nat.le_of_ble_eq_true rfl, Nat.le_of_ble_eq_true rfl⟩ ⟨Nat.le_of_ble_eq_true rfl, Nat.le_of_ble_eq_true rfl⟩ (Nat.le_of_ble_eq_true rfl) hS hW dX4_requireTransfer_9 (fun H locs hW hS => ?_)
  refine lv_iload_n hx hb dX4_requireTransfer_12 rfl (lv_at hl 3 rfl) ?_
  rcases bdx_e h with ⟨E13, M13, hc13, rfl⟩ | ⟨r13, M13, hc13, h⟩
  · exact kX4_38T C hml hl.1 (c_X4_requireNotNegative hlf hc13) ⟨Nat.le_of_ble_eq_true rfl, Nat.le_of_ble_eq_true rfl⟩ ⟨Nat.le_of_ble_eq_true rfl, Nat.le_of_ble_eq_true rfl⟩ (Nat.le_of_ble_eq_true rfl) hS hW dX4_requireTransfer_13 ht hlk (Nat.le_of_ble_eq_true rfl) (Nat.le_of_ble_eq_true rfl)
  refine kX4_38R C hml hl.1 (c_X4_requireNotNegative hlf hc13) ⟨Nat.le_of_ble_eq_true rfl, Nat.le_of_ble_eq_true rfl⟩ ⟨Nat.le_of_ble_eq_true rfl, Nat.le_of_ble_eq_true rfl⟩ (Nat.le_of_ble_eq_true rfl) hS hW dX4_requireTransfer_13 (fun H locs hW hS => ?_)
  refine lv_iload_n hx hb dX4_requireTransfer_16 rfl (lv_at hl 1 rfl) ?_
  refine lv_iload_n hx hb dX4_requireTransfer_17 rfl (lv_at hl 2 rfl) ?_
  obtain ⟨r18, M18, hc18, h⟩ := bd2_e h
  refine kX4_225 C hml hl.1 (c_X4_isIn hc18) ⟨Nat.le_of_ble_eq_true rfl, Nat.le_of_ble_eq_true rfl⟩ ⟨Nat.le_of_ble_eq_true rfl, Nat.le_of_ble_eq_true rfl⟩ (Nat.le_of_ble_eq_true rfl) hS hW dX4_requireTransfer_18 (fun H locs hW hS => ?_)
  refine lv_if_ne (tgt := 32) hx hb dX4_requireTransfer_21 (by decide) (fun c21 => ?_) (fun c21 => ?_)
  · have h := (if_neg c21).symm.trans h
    cases h
    exact thA (is := 229) (text := "one path is the other, or above it") hlf C ht hlk (by decide +kernel) hS hW (hl.1.trans hml.symm) dX4_requireTransfer_32 dX4_requireTransfer_35 dX4_requireTransfer_36 dX4_requireTransfer_38 dX4_requireTransfer_41 ⟨Nat.le_of_ble_eq_true rfl, Nat.le_of_ble_eq_true rfl⟩ ⟨Nat.le_of_ble_eq_true rfl, Nat.le_of_ble_eq_true rfl⟩ (Nat.le_of_ble_eq_true rfl) (Nat.le_of_ble_eq_true rfl)
  · have h := (if_pos c21).symm.trans h
    refine lv_iload_n hx hb dX4_requireTransfer_24 rfl (lv_at hl 2 rfl) ?_
    refine lv_iload_n hx hb dX4_requireTransfer_25 rfl (lv_at hl 1 rfl) ?_
    obtain ⟨r26, M26, hc26, h⟩ := bd2_e h
    refine kX4_225 C hml hl.1 (c_X4_isIn hc26) ⟨Nat.le_of_ble_eq_true rfl, Nat.le_of_ble_eq_true rfl⟩ ⟨Nat.le_of_ble_eq_true rfl, Nat.le_of_ble_eq_true rfl⟩ (Nat.le_of_ble_eq_true rfl) hS hW dX4_requireTransfer_26 (fun H locs hW hS => ?_)
    refine lv_if_eq (tgt := 42) hx hb dX4_requireTransfer_29 (by decide) (fun c29 => ?_) (fun c29 => ?_)
    · have h := (if_pos c29).symm.trans h
      cases h
      exact ret_xv C hr hlk hS hW dX4_requireTransfer_42 (Nat.le_of_ble_eq_true rfl) (Nat.le_of_ble_eq_true rfl)
    · have h := (if_neg c29).symm.trans h
      cases h
      exact thA (is := 229) (text := "one path is the other, or above it") hlf C ht hlk (by decide +kernel) hS hW (hl.1.trans hml.symm) dX4_requireTransfer_32 dX4_requireTransfer_35 dX4_requireTransfer_36 dX4_requireTransfer_38 dX4_requireTransfer_41 ⟨Nat.le_of_ble_eq_true rfl, Nat.le_of_ble_eq_true rfl⟩ ⟨Nat.le_of_ble_eq_true rfl, Nat.le_of_ble_eq_true rfl⟩ (Nat.le_of_ble_eq_true rfl) (Nat.le_of_ble_eq_true rfl)
def f_X4_requireTransfer (M : Mem) (x0 : Int32) (x1 : Int32) (x2 : Int32) (x3 : Int32) : Option ((String ⊕ Unit) × Mem) := f_X4_requireTransfer_0 M x0 x1 x2 x3
set_option maxHeartbeats 4000000 in
set_option maxRecDepth 100000 in
theorem c_X4_requireTransfer {l : Launch} {Z : Zt} {b : Nat} (hlf : l.stackTraces = false) {M : Mem} {x0 : Int32} {x1 : Int32} {x2 : Int32} {x3 : Int32} {res : ((String ⊕ Unit) × Mem)} (h : f_X4_requireTransfer M x0 x1 x2 x3 = some res) : Cx' l yX4_requireTransfer cX4_requireTransfer 4 (none : Option Jvm.ClassFile.FieldType) rm_X4_requireTransfer 7 42 Z b [.int x0, .int x1, .int x2, .int x3] M (voU res.1) res.2 := by
  refine vx_ofW (cc := cX4_requireTransfer) (maxL := 4) (ret := (none : Option Jvm.ClassFile.FieldType)) (by decide) rfl ?_
  intro p e s m args below meth c s₁ B hml ht hv
  obtain ⟨rfl, hE, hW⟩ := hv
  have C : Cx p s m [.int x0, .int x1, .int x2, .int x3].toArray c cX4_requireTransfer RX4 Z b := ⟨B.exec, B.bytes, findClass_of_methodNamed B.named, fun w hw => atoms_spec (ws := Cond.code yX4_requireTransfer cX4_requireTransfer 4 (none : Option Jvm.ClassFile.FieldType) :: wsA) B.pre w (List.mem_cons_of_mem _ hw), hE⟩
  have hl := lv_entry [.int x0, .int x1, .int x2, .int x3] (n := 4) (Nat.le_of_ble_eq_true rfl)
  rw [lg_entry_eq]
  generalize (lg_sl [.int x0, .int x1, .int x2, .int x3] ++ List.replicate (4 - (lg_sl [.int x0, .int x1, .int x2, .int x3]).length) Slot.unset).toArray = ls at hl ⊢
  have hl : lv_has ls 4 [(0, .int x0), (1, .int x1), (2, .int x2), (3, .int x3)] := hl
  exact w_X4_requireTransfer_0 C hml B.returns B.notSynchronized hlf ht h va_S.rf hW hl
def f_X4_moved_37 (M : Mem) (x0 : Int32) (x1 : Int32) (x2 : Int32) (x4 : Int32) : Option (Int32 × Mem) :=
  some (x0 + ((x2 - x1) * x4), M)
set_option maxHeartbeats 4000000 in
set_option maxRecDepth 100000 in
theorem w_X4_moved_37 {p : Program} {l : Launch} {e : Env} {s : State} {m : MethodId} {args : Array Value} {below : List Frame} {meth : Method} {c : Code} {Z : Zt} {b : Nat} (C : Cx p s m args c cX4_moved RX4 Z b) (hml : c.maxLocals = 6) (hr : meth.sig.returnType = (some .int)) (hlk : meth.locks = false) {r' : Int32} {M' : Mem} {M : Mem} {x0 : Int32} {x1 : Int32} {x2 : Int32} {x4 : Int32} (h : f_X4_moved_37 M x0 x1 x2 x4 = some (r', M')) {H : Heap} {locs : List Loc} {ls : Array Slot} (hS : va_S (A0 b) s.heap H locs) (hW : Wd Z b M H) (hl : lv_has ls 6 [(0, .int x0), (1, .int x1), (2, .int x2), (4, .int x4)]) : W p l e rm_X4_moved s m args below meth c H locs 0 0 (MQ below (Qn Z b (some (.int r')) M') args s 0 0 (A0 b)) (F0 m 37 ls []) := by
  unfold f_X4_moved_37 at h
  have hx := C.1
  have hb := C.2.1
  refine lv_iload_n hx hb dX4_moved_37 rfl (lv_at hl 0 rfl) ?_
  refine lv_iload_n hx hb dX4_moved_38 rfl (lv_at hl 2 rfl) ?_
  refine lv_iload_n hx hb dX4_moved_39 rfl (lv_at hl 1 rfl) ?_
  refine lv_isub hx hb dX4_moved_40 ?_
  refine lv_iload hx hb dX4_moved_41 (lv_at hl 3 rfl) ?_
  refine lv_imul hx hb dX4_moved_43 ?_
  refine lv_iadd hx hb dX4_moved_44 ?_
  cases h
  exact ret_i C hr hlk hS hW dX4_moved_45
def f_X4_moved_8B (K8 : Mem → Int32 → Int32 → Int32 → Int32 → Int32 → Int32 → Option (Int32 × Mem)) (M : Mem) (x0 : Int32) (x1 : Int32) (x2 : Int32) (x3 : Int32) (x4 : Int32) (x5 : Int32) : Option (Int32 × Mem) :=
  if (4 : Int32) ≤ x5 then f_X4_moved_37 M x0 x1 x2 x4 else if x3 ≤ x1 then f_X4_moved_37 M x0 x1 x2 x4 else K8 M x0 x1 x2 (x3 / (10 : Int32)) (x4 * (10 : Int32)) (x5 + 1)
def f_X4_moved_8 : Nat → Mem → Int32 → Int32 → Int32 → Int32 → Int32 → Int32 → Option (Int32 × Mem)
  | 0 => fun _ _ _ _ _ _ _ => none
  | n + 1 => f_X4_moved_8B (f_X4_moved_8 n)
set_option maxHeartbeats 4000000 in
set_option maxRecDepth 100000 in
theorem w_X4_moved_8 {p : Program} {l : Launch} {e : Env} {s : State} {m : MethodId} {args : Array Value} {below : List Frame} {meth : Method} {c : Code} {Z : Zt} {b : Nat} (C : Cx p s m args c cX4_moved RX4 Z b) (hml : c.maxLocals = 6) (hr : meth.sig.returnType = (some .int)) (hlk : meth.locks = false) {r' : Int32} {M' : Mem} : ∀ (n : Nat) {M : Mem} {x0 : Int32} {x1 : Int32} {x2 : Int32} {x3 : Int32} {x4 : Int32} {x5 : Int32} (h : f_X4_moved_8 n M x0 x1 x2 x3 x4 x5 = some (r', M')) {H : Heap} {locs : List Loc} {ls : Array Slot} (hS : va_S (A0 b) s.heap H locs) (hW : Wd Z b M H) (hl : lv_has ls 6 [(0, .int x0), (1, .int x1), (2, .int x2), (3, .int x3), (4, .int x4), (5, .int x5)]), W p l e rm_X4_moved s m args below meth c H locs 0 0 (MQ below (Qn Z b (some (.int r')) M') args s 0 0 (A0 b)) (F0 m 8 ls []) := by
  intro n
  induction n with
  | zero =>
    intro M x0 x1 x2 x3 x4 x5 h
    cases h
  | succ n ih =>
    intro M x0 x1 x2 x3 x4 x5 h H locs ls hS hW hl
    have h : f_X4_moved_8B (f_X4_moved_8 n) M x0 x1 x2 x3 x4 x5 = some (r', M') := h
    unfold f_X4_moved_8B at h
    have hK8 := @ih
    have hx := C.1
    have hb := C.2.1
    refine lv_iload hx hb dX4_moved_8 (lv_at hl 5 rfl) ?_
    refine lv_iconst (v := (4 : Int32)) hx hb dX4_moved_10 (by decide) ?_
    refine lv_icmp_ge (tgt := 37) hx hb dX4_moved_11 (by decide) (fun c11 => ?_) (fun c11 => ?_)
    · have h := (if_pos c11).symm.trans h
      exact w_X4_moved_37 C hml hr hlk h hS hW (lv_sub hl [0, 1, 2, 4] rfl)
    · have h := (if_neg c11).symm.trans h
      refine lv_iload_n hx hb dX4_moved_14 rfl (lv_at hl 3 rfl) ?_
      refine lv_iload_n hx hb dX4_moved_15 rfl (lv_at hl 1 rfl) ?_
      refine lv_icmp_le (tgt := 37) hx hb dX4_moved_16 (by decide) (fun c16 => ?_) (fun c16 => ?_)
      · have h := (if_pos c16).symm.trans h
        exact w_X4_moved_37 C hml hr hlk h hS hW (lv_sub hl [0, 1, 2, 4] rfl)
      · have h := (if_neg c16).symm.trans h
        refine lv_iload_n hx hb dX4_moved_19 rfl (lv_at hl 3 rfl) ?_
        refine lv_bipush (v := (10 : Int32)) hx hb dX4_moved_20 (by decide) ?_
        refine lv_idiv hx hb dX4_moved_22 (by decide) ?_
        refine lv_istore_n (lv' := [(3, .int (x3 / (10 : Int32))), (0, .int x0), (1, .int x1), (2, .int x2), (4, .int x4), (5, .int x5)]) hx hb dX4_moved_23 rfl hl (by decide) rfl (fun ls hl => ?_)
        refine lv_iload hx hb dX4_moved_24 (lv_at hl 4 rfl) ?_
        refine lv_bipush (v := (10 : Int32)) hx hb dX4_moved_26 (by decide) ?_
        refine lv_imul hx hb dX4_moved_28 ?_
        refine lv_istore (lv' := [(4, .int (x4 * (10 : Int32))), (3, .int (x3 / (10 : Int32))), (0, .int x0), (1, .int x1), (2, .int x2), (5, .int x5)]) hx hb dX4_moved_29 hl (by decide) rfl (fun ls hl => ?_)
        refine lv_iinc (v := x5 + 1) (lv' := [(5, .int (x5 + 1)), (4, .int (x4 * (10 : Int32))), (3, .int (x3 / (10 : Int32))), (0, .int x0), (1, .int x1), (2, .int x2)]) hx hb dX4_moved_31 hl (k := 5) rfl rfl (by decide) rfl (fun ls hl => ?_)
        refine lv_goto (tgt := 8) hx hb dX4_moved_34 (by decide) ?_
        exact hK8 h hS hW (lv_sub hl [3, 4, 5, 2, 1, 0] rfl)
def f_X4_moved_0 (M : Mem) (x0 : Int32) (x1 : Int32) (x2 : Int32) : Option (Int32 × Mem) :=
  f_X4_moved_8 64 M x0 x1 x2 x0 (1 : Int32) (0 : Int32)
set_option maxHeartbeats 4000000 in
set_option maxRecDepth 100000 in
theorem w_X4_moved_0 {p : Program} {l : Launch} {e : Env} {s : State} {m : MethodId} {args : Array Value} {below : List Frame} {meth : Method} {c : Code} {Z : Zt} {b : Nat} (C : Cx p s m args c cX4_moved RX4 Z b) (hml : c.maxLocals = 6) (hr : meth.sig.returnType = (some .int)) (hlk : meth.locks = false) {r' : Int32} {M' : Mem} {M : Mem} {x0 : Int32} {x1 : Int32} {x2 : Int32} (h : f_X4_moved_0 M x0 x1 x2 = some (r', M')) {H : Heap} {locs : List Loc} {ls : Array Slot} (hS : va_S (A0 b) s.heap H locs) (hW : Wd Z b M H) (hl : lv_has ls 6 [(0, .int x0), (1, .int x1), (2, .int x2)]) : W p l e rm_X4_moved s m args below meth c H locs 0 0 (MQ below (Qn Z b (some (.int r')) M') args s 0 0 (A0 b)) (F0 m 0 ls []) := by
  unfold f_X4_moved_0 at h
  have hx := C.1
  have hb := C.2.1
  refine lv_iload_n hx hb dX4_moved_0 rfl (lv_at hl 0 rfl) ?_
  refine lv_istore_n (lv' := [(3, .int x0), (0, .int x0), (1, .int x1), (2, .int x2)]) hx hb dX4_moved_1 rfl hl (by decide) rfl (fun ls hl => ?_)
  refine lv_iconst (v := (1 : Int32)) hx hb dX4_moved_2 (by decide) ?_
  refine lv_istore (lv' := [(4, .int (1 : Int32)), (3, .int x0), (0, .int x0), (1, .int x1), (2, .int x2)]) hx hb dX4_moved_3 hl (by decide) rfl (fun ls hl => ?_)
  refine lv_iconst (v := (0 : Int32)) hx hb dX4_moved_5 (by decide) ?_
  refine lv_istore (lv' := [(5, .int (0 : Int32)), (4, .int (1 : Int32)), (3, .int x0), (0, .int x0), (1, .int x1), (2, .int x2)]) hx hb dX4_moved_6 hl (by decide) rfl (fun ls hl => ?_)
  exact w_X4_moved_8 C hml hr hlk 64 h hS hW (lv_sub hl [3, 4, 5, 2, 1, 0] rfl)
def f_X4_moved (M : Mem) (x0 : Int32) (x1 : Int32) (x2 : Int32) : Option (Int32 × Mem) := f_X4_moved_0 M x0 x1 x2
set_option maxHeartbeats 4000000 in
set_option maxRecDepth 100000 in
theorem c_X4_moved {l : Launch} {Z : Zt} {b : Nat} {M : Mem} {x0 : Int32} {x1 : Int32} {x2 : Int32} {r' : Int32} {M' : Mem} (h : f_X4_moved M x0 x1 x2 = some (r', M')) : Ct l yX4_moved cX4_moved 6 (some .int) rm_X4_moved Z b [.int x0, .int x1, .int x2] M (some (.int r')) M' := by
  refine Met.ofW (cc := cX4_moved) (maxL := 6) (ret := (some .int)) (by decide) rfl ?_
  intro p e s m args below meth c s₁ B hml hv
  obtain ⟨rfl, hE, hW⟩ := hv
  have C : Cx p s m [.int x0, .int x1, .int x2].toArray c cX4_moved RX4 Z b := ⟨B.exec, B.bytes, findClass_of_methodNamed B.named, fun w hw => atoms_spec (ws := Cond.code yX4_moved cX4_moved 6 (some .int) :: wsA) B.pre w (List.mem_cons_of_mem _ hw), hE⟩
  have hl := lv_entry [.int x0, .int x1, .int x2] (n := 6) (Nat.le_of_ble_eq_true rfl)
  rw [lg_entry_eq]
  generalize (lg_sl [.int x0, .int x1, .int x2] ++ List.replicate (6 - (lg_sl [.int x0, .int x1, .int x2]).length) Slot.unset).toArray = ls at hl ⊢
  have hl : lv_has ls 6 [(0, .int x0), (1, .int x1), (2, .int x2)] := hl
  exact w_X4_moved_0 C hml B.returns B.notSynchronized h va_S.rf hW hl
def f_X3_fits_57 (K2 : Mem → Int32 → Int32 → Int32 → Option (Int32 × Mem)) (M : Mem) (x1 : Int32) (x2 : Int32) (x3 : Int32) : Option (Int32 × Mem) :=
  K2 M x1 x2 (x3 + 1)
set_option maxHeartbeats 4000000 in
set_option maxRecDepth 100000 in
theorem w_X3_fits_57 {p : Program} {l : Launch} {e : Env} {s : State} {m : MethodId} {args : Array Value} {below : List Frame} {meth : Method} {c : Code} {Z : Zt} {b : Nat} (C : Cx p s m args c cX3_fits RX3 Z b) (hml : c.maxLocals = 4) (hr : meth.sig.returnType = (some .boolean)) (hlk : meth.locks = false) {r' : Int32} {M' : Mem} {K2 : Mem → Int32 → Int32 → Int32 → Option (Int32 × Mem)} (hK2 : ∀ {M : Mem} {x1 : Int32} {x2 : Int32} {x3 : Int32} (h : K2 M x1 x2 x3 = some (r', M')) {H : Heap} {locs : List Loc} {ls : Array Slot} (hS : va_S (A0 b) s.heap H locs) (hW : Wd Z b M H) (hl : lv_has ls 4 [(0, .ref (b + 1)), (1, .int x1), (2, .int x2), (3, .int x3)]), W p l e rm_X3_fits s m args below meth c H locs 0 0 (MQ below (Qn Z b (some (.int r')) M') args s 0 0 (A0 b)) (F0 m 2 ls [])) {M : Mem} {x1 : Int32} {x2 : Int32} {x3 : Int32} (h : f_X3_fits_57 K2 M x1 x2 x3 = some (r', M')) {H : Heap} {locs : List Loc} {ls : Array Slot} (hS : va_S (A0 b) s.heap H locs) (hW : Wd Z b M H) (hl : lv_has ls 4 [(0, .ref (b + 1)), (1, .int x1), (2, .int x2), (3, .int x3)]) : W p l e rm_X3_fits s m args below meth c H locs 0 0 (MQ below (Qn Z b (some (.int r')) M') args s 0 0 (A0 b)) (F0 m 57 ls []) := by
  unfold f_X3_fits_57 at h
  have hx := C.1
  have hb := C.2.1
  refine lv_iinc (v := x3 + 1) (lv' := [(3, .int (x3 + 1)), (0, .ref (b + 1)), (1, .int x1), (2, .int x2)]) hx hb dX3_fits_57 hl (k := 3) rfl rfl (by decide) rfl (fun ls hl => ?_)
  refine lv_goto (tgt := 2) hx hb dX3_fits_60 (by decide) ?_
  exact hK2 h hS hW (lv_sub hl [1, 2, 3, 0] rfl)
def f_X3_fits_2B (K2 : Mem → Int32 → Int32 → Int32 → Option (Int32 × Mem)) (M : Mem) (x1 : Int32) (x2 : Int32) (x3 : Int32) : Option (Int32 × Mem) :=
  if (M 2 0) ≤ x3 then some ((1 : Int32), M) else if (60 : Int32) ≤ x3 then some ((1 : Int32), M) else if x3 < 0 ∨ 60 ≤ x3.toNatClampNeg then none else if 60 ≤ rk M x3.toNatClampNeg then none else bd2 (f_X4_isIn M x1 (M 4 (rk M x3.toNatClampNeg))) (fun r29 M29 => if r29 = 0 then f_X3_fits_57 K2 M29 x1 x2 x3 else if x3 < 0 ∨ 60 ≤ x3.toNatClampNeg then none else if 60 ≤ rk M29 x3.toNatClampNeg then none else bd2 (f_X4_moved M29 (M29 4 (rk M29 x3.toNatClampNeg)) x1 x2) (fun r46 M46 => if r46 ≤ (9999 : Int32) then f_X3_fits_57 K2 M46 x1 x2 x3 else some ((0 : Int32), M46)))
def f_X3_fits_2 : Nat → Mem → Int32 → Int32 → Int32 → Option (Int32 × Mem)
  | 0 => fun _ _ _ _ => none
  | n + 1 => f_X3_fits_2B (f_X3_fits_2 n)
set_option maxHeartbeats 4000000 in
set_option maxRecDepth 100000 in
theorem w_X3_fits_2 {p : Program} {l : Launch} {e : Env} {s : State} {m : MethodId} {args : Array Value} {below : List Frame} {meth : Method} {c : Code} {Z : Zt} {b : Nat} (C : Cx p s m args c cX3_fits RX3 Z b) (hml : c.maxLocals = 4) (hr : meth.sig.returnType = (some .boolean)) (hlk : meth.locks = false) {r' : Int32} {M' : Mem} : ∀ (n : Nat) {M : Mem} {x1 : Int32} {x2 : Int32} {x3 : Int32} (h : f_X3_fits_2 n M x1 x2 x3 = some (r', M')) {H : Heap} {locs : List Loc} {ls : Array Slot} (hS : va_S (A0 b) s.heap H locs) (hW : Wd Z b M H) (hl : lv_has ls 4 [(0, .ref (b + 1)), (1, .int x1), (2, .int x2), (3, .int x3)]), W p l e rm_X3_fits s m args below meth c H locs 0 0 (MQ below (Qn Z b (some (.int r')) M') args s 0 0 (A0 b)) (F0 m 2 ls []) := by
  intro n
  induction n with
  | zero =>
    intro M x1 x2 x3 h
    cases h
  | succ n ih =>
    intro M x1 x2 x3 h H locs ls hS hW hl
    have h : f_X3_fits_2B (f_X3_fits_2 n) M x1 x2 x3 = some (r', M') := h
    unfold f_X3_fits_2B at h
    have hK2 := @ih
    have hx := C.1
    have hb := C.2.1
    refine lv_iload_n hx hb dX3_fits_2 rfl (lv_at hl 3 rfl) ?_
    refine lv_aload_n hx hb dX3_fits_3 rfl (lv_at hl 0 rfl) ?_
    refine gX3_18 C hW dX3_fits_4 ?_
    refine lv_icmp_ge (tgt := 63) hx hb dX3_fits_7 (by decide) (fun c7 => ?_) (fun c7 => ?_)
    · have h := (if_pos c7).symm.trans h
      refine lv_iconst (v := (1 : Int32)) hx hb dX3_fits_63 (by decide) ?_
      cases h
      exact ret_z C hr hlk (by decide) hS hW dX3_fits_64
    · have h := (if_neg c7).symm.trans h
      refine lv_iload_n hx hb dX3_fits_10 rfl (lv_at hl 3 rfl) ?_
      refine lv_aload_n hx hb dX3_fits_11 rfl (lv_at hl 0 rfl) ?_
      refine gX3_11 C hW dX3_fits_12 ?_
      refine alen_2 C hW dX3_fits_15 ?_
      refine lv_icmp_ge (tgt := 63) hx hb dX3_fits_16 (by decide) (fun c16 => ?_) (fun c16 => ?_)
      · have h := (if_pos c16).symm.trans h
        refine lv_iconst (v := (1 : Int32)) hx hb dX3_fits_63 (by decide) ?_
        cases h
        exact ret_z C hr hlk (by decide) hS hW dX3_fits_64
      · have h := (if_neg c16).symm.trans h
        refine lv_iload_n hx hb dX3_fits_19 rfl (lv_at hl 1 rfl) ?_
        refine lv_aload_n hx hb dX3_fits_20 rfl (lv_at hl 0 rfl) ?_
        refine gX3_11 C hW dX3_fits_21 ?_
        refine lv_iload_n hx hb dX3_fits_24 rfl (lv_at hl 3 rfl) ?_
        obtain ⟨g25, h⟩ := gd h
        obtain ⟨gr25, h⟩ := gd h
        have hr25 := Nat.lt_of_not_le gr25
        refine ald_row C hW g25 dX3_fits_25 ?_
        refine gX3_22 hr25 C hW dX3_fits_26 ?_
        obtain ⟨r29, M29, hc29, h⟩ := bd2_e h
        refine kX3_47 C hml hl.1 (c_X4_isIn hc29) ⟨Nat.le_of_ble_eq_true rfl, Nat.le_of_ble_eq_true rfl⟩ ⟨Nat.le_of_ble_eq_true rfl, Nat.le_of_ble_eq_true rfl⟩ (Nat.le_of_ble_eq_true rfl) hS hW dX3_fits_29 (fun H locs hW hS => ?_)
        refine lv_if_eq (tgt := 57) hx hb dX3_fits_32 (by decide) (fun c32 => ?_) (fun c32 => ?_)
        · have h := (if_pos c32).symm.trans h
          exact w_X3_fits_57 C hml hr hlk hK2 h hS hW (lv_sub hl [0, 1, 2, 3] rfl)
        · have h := (if_neg c32).symm.trans h
          refine lv_aload_n hx hb dX3_fits_35 rfl (lv_at hl 0 rfl) ?_
          refine gX3_11 C hW dX3_fits_36 ?_
          refine lv_iload_n hx hb dX3_fits_39 rfl (lv_at hl 3 rfl) ?_
          obtain ⟨g40, h⟩ := gd h
          obtain ⟨gr40, h⟩ := gd h
          have hr40 := Nat.lt_of_not_le gr40
          refine ald_row C hW g40 dX3_fits_40 ?_
          refine gX3_22 hr40 C hW dX3_fits_41 ?_
          refine lv_iload_n hx hb dX3_fits_44 rfl (lv_at hl 1 rfl) ?_
          refine lv_iload_n hx hb dX3_fits_45 rfl (lv_at hl 2 rfl) ?_
          obtain ⟨r46, M46, hc46, h⟩ := bd2_e h
          refine kX3_51 C hml hl.1 (c_X4_moved hc46) ⟨Nat.le_of_ble_eq_true rfl, Nat.le_of_ble_eq_true rfl⟩ ⟨Nat.le_of_ble_eq_true rfl, Nat.le_of_ble_eq_true rfl⟩ (Nat.le_of_ble_eq_true rfl) hS hW dX3_fits_46 (fun H locs hW hS => ?_)
          refine lv_sipush (v := (9999 : Int32)) hx hb dX3_fits_49 (by decide) ?_
          refine lv_icmp_le (tgt := 57) hx hb dX3_fits_52 (by decide) (fun c52 => ?_) (fun c52 => ?_)
          · have h := (if_pos c52).symm.trans h
            exact w_X3_fits_57 C hml hr hlk hK2 h hS hW (lv_sub hl [0, 1, 2, 3] rfl)
          · have h := (if_neg c52).symm.trans h
            refine lv_iconst (v := (0 : Int32)) hx hb dX3_fits_55 (by decide) ?_
            cases h
            exact ret_z C hr hlk (by decide) hS hW dX3_fits_56
def f_X3_fits_0 (M : Mem) (x1 : Int32) (x2 : Int32) : Option (Int32 × Mem) :=
  f_X3_fits_2 64 M x1 x2 (0 : Int32)
set_option maxHeartbeats 4000000 in
set_option maxRecDepth 100000 in
theorem w_X3_fits_0 {p : Program} {l : Launch} {e : Env} {s : State} {m : MethodId} {args : Array Value} {below : List Frame} {meth : Method} {c : Code} {Z : Zt} {b : Nat} (C : Cx p s m args c cX3_fits RX3 Z b) (hml : c.maxLocals = 4) (hr : meth.sig.returnType = (some .boolean)) (hlk : meth.locks = false) {r' : Int32} {M' : Mem} {M : Mem} {x1 : Int32} {x2 : Int32} (h : f_X3_fits_0 M x1 x2 = some (r', M')) {H : Heap} {locs : List Loc} {ls : Array Slot} (hS : va_S (A0 b) s.heap H locs) (hW : Wd Z b M H) (hl : lv_has ls 4 [(0, .ref (b + 1)), (1, .int x1), (2, .int x2)]) : W p l e rm_X3_fits s m args below meth c H locs 0 0 (MQ below (Qn Z b (some (.int r')) M') args s 0 0 (A0 b)) (F0 m 0 ls []) := by
  unfold f_X3_fits_0 at h
  have hx := C.1
  have hb := C.2.1
  refine lv_iconst (v := (0 : Int32)) hx hb dX3_fits_0 (by decide) ?_
  refine lv_istore_n (lv' := [(3, .int (0 : Int32)), (0, .ref (b + 1)), (1, .int x1), (2, .int x2)]) hx hb dX3_fits_1 rfl hl (by decide) rfl (fun ls hl => ?_)
  exact w_X3_fits_2 C hml hr hlk 64 h hS hW (lv_sub hl [1, 2, 3, 0] rfl)
def f_X3_fits (M : Mem) (x1 : Int32) (x2 : Int32) : Option (Int32 × Mem) := f_X3_fits_0 M x1 x2
set_option maxHeartbeats 4000000 in
set_option maxRecDepth 100000 in
theorem c_X3_fits {l : Launch} {Z : Zt} {b : Nat} {M : Mem} {x1 : Int32} {x2 : Int32} {r' : Int32} {M' : Mem} (h : f_X3_fits M x1 x2 = some (r', M')) : Ct l yX3_fits cX3_fits 4 (some .boolean) rm_X3_fits Z b [.ref (b + 1), .int x1, .int x2] M (some (.int r')) M' := by
  refine Met.ofW (cc := cX3_fits) (maxL := 4) (ret := (some .boolean)) (by decide) rfl ?_
  intro p e s m args below meth c s₁ B hml hv
  obtain ⟨rfl, hE, hW⟩ := hv
  have C : Cx p s m [.ref (b + 1), .int x1, .int x2].toArray c cX3_fits RX3 Z b := ⟨B.exec, B.bytes, findClass_of_methodNamed B.named, fun w hw => atoms_spec (ws := Cond.code yX3_fits cX3_fits 4 (some .boolean) :: wsA) B.pre w (List.mem_cons_of_mem _ hw), hE⟩
  have hl := lv_entry [.ref (b + 1), .int x1, .int x2] (n := 4) (Nat.le_of_ble_eq_true rfl)
  rw [lg_entry_eq]
  generalize (lg_sl [.ref (b + 1), .int x1, .int x2] ++ List.replicate (4 - (lg_sl [.ref (b + 1), .int x1, .int x2]).length) Slot.unset).toArray = ls at hl ⊢
  have hl : lv_has ls 4 [(0, .ref (b + 1)), (1, .int x1), (2, .int x2)] := hl
  exact w_X3_fits_0 C hml B.returns B.notSynchronized h va_S.rf hW hl
def f_X4_allowsTree_51 (K3 : Mem → Int32 → Int32 → Int32 → Int32 → Option (Int32 × Mem)) (M : Mem) (x1 : Int32) (x2 : Int32) (x3 : Int32) (x4 : Int32) : Option (Int32 × Mem) :=
  K3 M x1 x2 x3 (x4 + 1)
set_option maxHeartbeats 4000000 in
set_option maxRecDepth 100000 in
theorem w_X4_allowsTree_51 {p : Program} {l : Launch} {e : Env} {s : State} {m : MethodId} {args : Array Value} {below : List Frame} {meth : Method} {c : Code} {Z : Zt} {b : Nat} (C : Cx p s m args c cX4_allowsTree RX4 Z b) (hml : c.maxLocals = 6) (hr : meth.sig.returnType = (some .boolean)) (hlk : meth.locks = false) {r' : Int32} {M' : Mem} {K3 : Mem → Int32 → Int32 → Int32 → Int32 → Option (Int32 × Mem)} (hK3 : ∀ {M : Mem} {x1 : Int32} {x2 : Int32} {x3 : Int32} {x4 : Int32} (h : K3 M x1 x2 x3 x4 = some (r', M')) {H : Heap} {locs : List Loc} {ls : Array Slot} (hS : va_S (A0 b) s.heap H locs) (hW : Wd Z b M H) (hl : lv_has ls 6 [(0, .ref (b + 0)), (1, .int x1), (2, .int x2), (3, .int x3), (4, .int x4)]), W p l e rm_X4_allowsTree s m args below meth c H locs 0 0 (MQ below (Qn Z b (some (.int r')) M') args s 0 0 (A0 b)) (F0 m 3 ls [])) {M : Mem} {x1 : Int32} {x2 : Int32} {x3 : Int32} {x4 : Int32} (h : f_X4_allowsTree_51 K3 M x1 x2 x3 x4 = some (r', M')) {H : Heap} {locs : List Loc} {ls : Array Slot} (hS : va_S (A0 b) s.heap H locs) (hW : Wd Z b M H) (hl : lv_has ls 6 [(0, .ref (b + 0)), (1, .int x1), (2, .int x2), (3, .int x3), (4, .int x4)]) : W p l e rm_X4_allowsTree s m args below meth c H locs 0 0 (MQ below (Qn Z b (some (.int r')) M') args s 0 0 (A0 b)) (F0 m 51 ls []) := by
  unfold f_X4_allowsTree_51 at h
  have hx := C.1
  have hb := C.2.1
  refine lv_iinc (v := x4 + 1) (lv' := [(4, .int (x4 + 1)), (0, .ref (b + 0)), (1, .int x1), (2, .int x2), (3, .int x3)]) hx hb dX4_allowsTree_51 hl (k := 4) rfl rfl (by decide) rfl (fun ls hl => ?_)
  refine lv_goto (tgt := 3) hx hb dX4_allowsTree_54 (by decide) ?_
  exact hK3 h hS hW (lv_sub hl [1, 2, 3, 4, 0] rfl)
def f_X4_allowsTree_3B (K3 : Mem → Int32 → Int32 → Int32 → Int32 → Option (Int32 × Mem)) (M : Mem) (x1 : Int32) (x2 : Int32) (x3 : Int32) (x4 : Int32) : Option (Int32 × Mem) :=
  if (M 2 0) ≤ x4 then some ((1 : Int32), M) else bd2 (f_X3_pathAt M x4) (fun r21 M21 => bd2 (f_X4_isIn M21 x2 r21) (fun r29 M29 => if r29 = 0 then f_X4_allowsTree_51 K3 M29 x1 x2 x3 x4 else bd2 (f_X1_allows M29 x1 r21 x3) (fun r43 M43 => if r43 = 0 then some ((0 : Int32), M43) else f_X4_allowsTree_51 K3 M43 x1 x2 x3 x4)))
def f_X4_allowsTree_3 : Nat → Mem → Int32 → Int32 → Int32 → Int32 → Option (Int32 × Mem)
  | 0 => fun _ _ _ _ _ => none
  | n + 1 => f_X4_allowsTree_3B (f_X4_allowsTree_3 n)
set_option maxHeartbeats 4000000 in
set_option maxRecDepth 100000 in
theorem w_X4_allowsTree_3 {p : Program} {l : Launch} {e : Env} {s : State} {m : MethodId} {args : Array Value} {below : List Frame} {meth : Method} {c : Code} {Z : Zt} {b : Nat} (C : Cx p s m args c cX4_allowsTree RX4 Z b) (hml : c.maxLocals = 6) (hr : meth.sig.returnType = (some .boolean)) (hlk : meth.locks = false) {r' : Int32} {M' : Mem} : ∀ (n : Nat) {M : Mem} {x1 : Int32} {x2 : Int32} {x3 : Int32} {x4 : Int32} (h : f_X4_allowsTree_3 n M x1 x2 x3 x4 = some (r', M')) {H : Heap} {locs : List Loc} {ls : Array Slot} (hS : va_S (A0 b) s.heap H locs) (hW : Wd Z b M H) (hl : lv_has ls 6 [(0, .ref (b + 0)), (1, .int x1), (2, .int x2), (3, .int x3), (4, .int x4)]), W p l e rm_X4_allowsTree s m args below meth c H locs 0 0 (MQ below (Qn Z b (some (.int r')) M') args s 0 0 (A0 b)) (F0 m 3 ls []) := by
  intro n
  induction n with
  | zero =>
    intro M x1 x2 x3 x4 h
    cases h
  | succ n ih =>
    intro M x1 x2 x3 x4 h H locs ls hS hW hl
    have h : f_X4_allowsTree_3B (f_X4_allowsTree_3 n) M x1 x2 x3 x4 = some (r', M') := h
    unfold f_X4_allowsTree_3B at h
    have hK3 := @ih
    have hx := C.1
    have hb := C.2.1
    refine lv_iload hx hb dX4_allowsTree_3 (lv_at hl 4 rfl) ?_
    refine lv_aload_n hx hb dX4_allowsTree_5 rfl (lv_at hl 0 rfl) ?_
    refine gX4_10 C hW dX4_allowsTree_6 ?_
    refine gX4_57 C hW dX4_allowsTree_9 ?_
    refine lv_icmp_ge (tgt := 57) hx hb dX4_allowsTree_12 (by decide) (fun c12 => ?_) (fun c12 => ?_)
    · have h := (if_pos c12).symm.trans h
      refine lv_iconst (v := (1 : Int32)) hx hb dX4_allowsTree_57 (by decide) ?_
      cases h
      exact ret_z C hr hlk (by decide) hS hW dX4_allowsTree_58
    · have h := (if_neg c12).symm.trans h
      refine lv_aload_n hx hb dX4_allowsTree_15 rfl (lv_at hl 0 rfl) ?_
      refine gX4_10 C hW dX4_allowsTree_16 ?_
      refine lv_iload hx hb dX4_allowsTree_19 (lv_at hl 4 rfl) ?_
      obtain ⟨r21, M21, hc21, h⟩ := bd2_e h
      refine kX4_144 C hml hl.1 (c_X3_pathAt hc21) ⟨Nat.le_of_ble_eq_true rfl, Nat.le_of_ble_eq_true rfl⟩ ⟨Nat.le_of_ble_eq_true rfl, Nat.le_of_ble_eq_true rfl⟩ (Nat.le_of_ble_eq_true rfl) hS hW dX4_allowsTree_21 (fun H locs hW hS => ?_)
      refine lv_istore (lv' := [(5, .int r21), (0, .ref (b + 0)), (1, .int x1), (2, .int x2), (3, .int x3), (4, .int x4)]) hx hb dX4_allowsTree_24 hl (by decide) rfl (fun ls hl => ?_)
      refine lv_iload_n hx hb dX4_allowsTree_26 rfl (lv_at hl 3 rfl) ?_
      refine lv_iload hx hb dX4_allowsTree_27 (lv_at hl 0 rfl) ?_
      obtain ⟨r29, M29, hc29, h⟩ := bd2_e h
      refine kX4_225 C hml hl.1 (c_X4_isIn hc29) ⟨Nat.le_of_ble_eq_true rfl, Nat.le_of_ble_eq_true rfl⟩ ⟨Nat.le_of_ble_eq_true rfl, Nat.le_of_ble_eq_true rfl⟩ (Nat.le_of_ble_eq_true rfl) hS hW dX4_allowsTree_29 (fun H locs hW hS => ?_)
      refine lv_if_eq (tgt := 51) hx hb dX4_allowsTree_32 (by decide) (fun c32 => ?_) (fun c32 => ?_)
      · have h := (if_pos c32).symm.trans h
        exact w_X4_allowsTree_51 C hml hr hlk hK3 h hS hW (lv_sub hl [1, 2, 3, 4, 5] rfl)
      · have h := (if_neg c32).symm.trans h
        refine lv_aload_n hx hb dX4_allowsTree_35 rfl (lv_at hl 1 rfl) ?_
        refine gX4_19 C hW dX4_allowsTree_36 ?_
        refine lv_iload_n hx hb dX4_allowsTree_39 rfl (lv_at hl 2 rfl) ?_
        refine lv_iload hx hb dX4_allowsTree_40 (lv_at hl 0 rfl) ?_
        refine lv_iload_n hx hb dX4_allowsTree_42 rfl (lv_at hl 4 rfl) ?_
        obtain ⟨r43, M43, hc43, h⟩ := bd2_e h
        refine kX4_111 C hml hl.1 (c_X1_allows hc43) ⟨Nat.le_of_ble_eq_true rfl, Nat.le_of_ble_eq_true rfl⟩ ⟨Nat.le_of_ble_eq_true rfl, Nat.le_of_ble_eq_true rfl⟩ (Nat.le_of_ble_eq_true rfl) hS hW dX4_allowsTree_43 (fun H locs hW hS => ?_)
        refine lv_if_ne (tgt := 51) hx hb dX4_allowsTree_46 (by decide) (fun c46 => ?_) (fun c46 => ?_)
        · have h := (if_neg c46).symm.trans h
          exact w_X4_allowsTree_51 C hml hr hlk hK3 h hS hW (lv_sub hl [1, 2, 3, 4, 5] rfl)
        · have h := (if_pos c46).symm.trans h
          refine lv_iconst (v := (0 : Int32)) hx hb dX4_allowsTree_49 (by decide) ?_
          cases h
          exact ret_z C hr hlk (by decide) hS hW dX4_allowsTree_50
def f_X4_allowsTree_0 (M : Mem) (x1 : Int32) (x2 : Int32) (x3 : Int32) : Option (Int32 × Mem) :=
  f_X4_allowsTree_3 64 M x1 x2 x3 (0 : Int32)
set_option maxHeartbeats 4000000 in
set_option maxRecDepth 100000 in
theorem w_X4_allowsTree_0 {p : Program} {l : Launch} {e : Env} {s : State} {m : MethodId} {args : Array Value} {below : List Frame} {meth : Method} {c : Code} {Z : Zt} {b : Nat} (C : Cx p s m args c cX4_allowsTree RX4 Z b) (hml : c.maxLocals = 6) (hr : meth.sig.returnType = (some .boolean)) (hlk : meth.locks = false) {r' : Int32} {M' : Mem} {M : Mem} {x1 : Int32} {x2 : Int32} {x3 : Int32} (h : f_X4_allowsTree_0 M x1 x2 x3 = some (r', M')) {H : Heap} {locs : List Loc} {ls : Array Slot} (hS : va_S (A0 b) s.heap H locs) (hW : Wd Z b M H) (hl : lv_has ls 6 [(0, .ref (b + 0)), (1, .int x1), (2, .int x2), (3, .int x3)]) : W p l e rm_X4_allowsTree s m args below meth c H locs 0 0 (MQ below (Qn Z b (some (.int r')) M') args s 0 0 (A0 b)) (F0 m 0 ls []) := by
  unfold f_X4_allowsTree_0 at h
  have hx := C.1
  have hb := C.2.1
  refine lv_iconst (v := (0 : Int32)) hx hb dX4_allowsTree_0 (by decide) ?_
  refine lv_istore (lv' := [(4, .int (0 : Int32)), (0, .ref (b + 0)), (1, .int x1), (2, .int x2), (3, .int x3)]) hx hb dX4_allowsTree_1 hl (by decide) rfl (fun ls hl => ?_)
  exact w_X4_allowsTree_3 C hml hr hlk 64 h hS hW (lv_sub hl [1, 2, 3, 4, 0] rfl)
def f_X4_allowsTree (M : Mem) (x1 : Int32) (x2 : Int32) (x3 : Int32) : Option (Int32 × Mem) := f_X4_allowsTree_0 M x1 x2 x3
set_option maxHeartbeats 4000000 in
set_option maxRecDepth 100000 in
theorem c_X4_allowsTree {l : Launch} {Z : Zt} {b : Nat} {M : Mem} {x1 : Int32} {x2 : Int32} {x3 : Int32} {r' : Int32} {M' : Mem} (h : f_X4_allowsTree M x1 x2 x3 = some (r', M')) : Ct l yX4_allowsTree cX4_allowsTree 6 (some .boolean) rm_X4_allowsTree Z b [.ref (b + 0), .int x1, .int x2, .int x3] M (some (.int r')) M' := by
  refine Met.ofW (cc := cX4_allowsTree) (maxL := 6) (ret := (some .boolean)) (by decide) rfl ?_
  intro p e s m args below meth c s₁ B hml hv
  obtain ⟨rfl, hE, hW⟩ := hv
  have C : Cx p s m [.ref (b + 0), .int x1, .int x2, .int x3].toArray c cX4_allowsTree RX4 Z b := ⟨B.exec, B.bytes, findClass_of_methodNamed B.named, fun w hw => atoms_spec (ws := Cond.code yX4_allowsTree cX4_allowsTree 6 (some .boolean) :: wsA) B.pre w (List.mem_cons_of_mem _ hw), hE⟩
  have hl := lv_entry [.ref (b + 0), .int x1, .int x2, .int x3] (n := 6) (Nat.le_of_ble_eq_true rfl)
  rw [lg_entry_eq]
  generalize (lg_sl [.ref (b + 0), .int x1, .int x2, .int x3] ++ List.replicate (6 - (lg_sl [.ref (b + 0), .int x1, .int x2, .int x3]).length) Slot.unset).toArray = ls at hl ⊢
  have hl : lv_has ls 6 [(0, .ref (b + 0)), (1, .int x1), (2, .int x2), (3, .int x3)] := hl
  exact w_X4_allowsTree_0 C hml B.returns B.notSynchronized h va_S.rf hW hl

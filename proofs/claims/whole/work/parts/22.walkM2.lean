def f_X5_carries_153 (K38 : Mem → Int32 → Int32 → Int32 → Int32 → Option Mem) (M : Mem) (x1 : Int32) (x2 : Int32) (x3 : Int32) : Option Mem :=
  bd2 (f_X5_lowest M) (fun r154 M154 => K38 M154 x1 x2 x3 r154)
set_option maxHeartbeats 4000000 in
set_option maxRecDepth 100000 in
theorem w_X5_carries_153 {p : Program} {l : Launch} {e : Env} {s : State} {m : MethodId} {args : Array Value} {below : List Frame} {meth : Method} {c : Code} {Z : Zt} {b : Nat} (C : Cx p s m args c cX5_carries RX5 Z b) (hml : c.maxLocals = 7) (hr : meth.sig.returnType = (none : Option Jvm.ClassFile.FieldType)) (hlk : meth.locks = false) {M' : Mem} {K38 : Mem → Int32 → Int32 → Int32 → Int32 → Option Mem} (hK38 : ∀ {M : Mem} {x1 : Int32} {x2 : Int32} {x3 : Int32} {x4 : Int32} (h : K38 M x1 x2 x3 x4 = some M') {H : Heap} {locs : List Loc} {ls : Array Slot} (hS : va_S (A0 b) s.heap H locs) (hW : Wd Z b M H) (hl : lv_has ls 7 [(0, .ref (b + 156)), (1, .int x1), (2, .int x2), (3, .int x3), (4, .int x4)]), W p l e rm_X5_carries s m args below meth c H locs 0 0 (MQ below (Qn Z b none M') args s 0 0 (A0 b)) (F0 m 38 ls [])) {M : Mem} {x1 : Int32} {x2 : Int32} {x3 : Int32} (h : f_X5_carries_153 K38 M x1 x2 x3 = some M') {H : Heap} {locs : List Loc} {ls : Array Slot} (hS : va_S (A0 b) s.heap H locs) (hW : Wd Z b M H) (hl : lv_has ls 7 [(0, .ref (b + 156)), (1, .int x1), (2, .int x2), (3, .int x3)]) : W p l e rm_X5_carries s m args below meth c H locs 0 0 (MQ below (Qn Z b none M') args s 0 0 (A0 b)) (F0 m 153 ls []) := by
  unfold f_X5_carries_153 at h
  have hx := C.1
  have hb := C.2.1
  refine lv_aload_n hx hb dX5_carries_153 rfl (lv_at hl 0 rfl) ?_
  obtain ⟨r154, M154, hc154, h⟩ := bd2_e h
  refine kX5_144 C hml hl.1 (c_X5_lowest hc154) ⟨Nat.le_of_ble_eq_true rfl, Nat.le_of_ble_eq_true rfl⟩ ⟨Nat.le_of_ble_eq_true rfl, Nat.le_of_ble_eq_true rfl⟩ (Nat.le_of_ble_eq_true rfl) hS hW dX5_carries_154 (fun H locs hW hS => ?_)
  refine lv_istore (lv' := [(4, .int r154), (0, .ref (b + 156)), (1, .int x1), (2, .int x2), (3, .int x3)]) hx hb dX5_carries_157 hl (by decide) rfl (fun ls hl => ?_)
  refine lv_goto (tgt := 38) hx hb dX5_carries_159 (by decide) ?_
  exact hK38 h hS hW (lv_sub hl [1, 2, 3, 4, 0] rfl)
def f_X5_carries_38B (K38 : Mem → Int32 → Int32 → Int32 → Int32 → Option Mem) (M : Mem) (x1 : Int32) (x2 : Int32) (x3 : Int32) (x4 : Int32) : Option Mem :=
  if x4 < 0 then some M else if x4 < 0 ∨ 60 ≤ x4.toNatClampNeg then none else if x4 < 0 ∨ 60 ≤ x4.toNatClampNeg then none else bd2 (f_X5_power (mu M 37 x4.toNatClampNeg ((0 : Int32) &&& 1)) ((mu M 37 x4.toNatClampNeg ((0 : Int32) &&& 1)) 21 x4.toNatClampNeg) x1) (fun r59 M59 => if x4 < 0 ∨ 60 ≤ x4.toNatClampNeg then none else if r59 = 0 then none else if x3 = 0 then (if x4 < 0 ∨ 60 ≤ x4.toNatClampNeg then none else if x4 < 0 ∨ 60 ≤ x4.toNatClampNeg then none else bd2 (f_X5_makes M59 ((x2 * r59) + ((M59 21 x4.toNatClampNeg) - (M59 21 x4.toNatClampNeg) / r59 * r59)) (M59 22 x4.toNatClampNeg) (M59 23 x4.toNatClampNeg)) (fun r149 M149 => f_X5_carries_153 K38 M149 x1 x2 x3)) else bd1 (f_X5_goes M59 x4) (fun M88 => if x4 < 0 ∨ 60 ≤ x4.toNatClampNeg then none else if x4 < 0 ∨ 60 ≤ x4.toNatClampNeg then none else if x4 < 0 ∨ 60 ≤ x4.toNatClampNeg then none else f_X5_carries_153 K38 (mu (mu (mu (mu M88 20 x4.toNatClampNeg ((1 : Int32) &&& 1)) 21 x4.toNatClampNeg ((x2 * r59) + ((M59 21 x4.toNatClampNeg) - (M59 21 x4.toNatClampNeg) / r59 * r59))) 25 0 (((mu (mu M88 20 x4.toNatClampNeg ((1 : Int32) &&& 1)) 21 x4.toNatClampNeg ((x2 * r59) + ((M59 21 x4.toNatClampNeg) - (M59 21 x4.toNatClampNeg) / r59 * r59))) 25 0) + (1 : Int32))) 24 x4.toNatClampNeg ((mu (mu (mu M88 20 x4.toNatClampNeg ((1 : Int32) &&& 1)) 21 x4.toNatClampNeg ((x2 * r59) + ((M59 21 x4.toNatClampNeg) - (M59 21 x4.toNatClampNeg) / r59 * r59))) 25 0 (((mu (mu M88 20 x4.toNatClampNeg ((1 : Int32) &&& 1)) 21 x4.toNatClampNeg ((x2 * r59) + ((M59 21 x4.toNatClampNeg) - (M59 21 x4.toNatClampNeg) / r59 * r59))) 25 0) + (1 : Int32))) 25 0)) x1 x2 x3))
def f_X5_carries_38 : Nat → Mem → Int32 → Int32 → Int32 → Int32 → Option Mem
  | 0 => fun _ _ _ _ _ => none
  | n + 1 => f_X5_carries_38B (f_X5_carries_38 n)
set_option maxHeartbeats 4000000 in
set_option maxRecDepth 100000 in
theorem w_X5_carries_38 {p : Program} {l : Launch} {e : Env} {s : State} {m : MethodId} {args : Array Value} {below : List Frame} {meth : Method} {c : Code} {Z : Zt} {b : Nat} (C : Cx p s m args c cX5_carries RX5 Z b) (hml : c.maxLocals = 7) (hr : meth.sig.returnType = (none : Option Jvm.ClassFile.FieldType)) (hlk : meth.locks = false) {M' : Mem} : ∀ (n : Nat) {M : Mem} {x1 : Int32} {x2 : Int32} {x3 : Int32} {x4 : Int32} (h : f_X5_carries_38 n M x1 x2 x3 x4 = some M') {H : Heap} {locs : List Loc} {ls : Array Slot} (hS : va_S (A0 b) s.heap H locs) (hW : Wd Z b M H) (hl : lv_has ls 7 [(0, .ref (b + 156)), (1, .int x1), (2, .int x2), (3, .int x3), (4, .int x4)]), W p l e rm_X5_carries s m args below meth c H locs 0 0 (MQ below (Qn Z b none M') args s 0 0 (A0 b)) (F0 m 38 ls []) := by
  intro n
  induction n with
  | zero =>
    intro M x1 x2 x3 x4 h
    cases h
  | succ n ih =>
    intro M x1 x2 x3 x4 h H locs ls hS hW hl
    have h : f_X5_carries_38B (f_X5_carries_38 n) M x1 x2 x3 x4 = some M' := h
    unfold f_X5_carries_38B at h
    have hK38 := @ih
    have hx := C.1
    have hb := C.2.1
    refine lv_iload hx hb dX5_carries_38 (lv_at hl 4 rfl) ?_
    refine lv_if_lt (tgt := 162) hx hb dX5_carries_40 (by decide) (fun c40 => ?_) (fun c40 => ?_)
    · have h := (if_pos c40).symm.trans h
      cases h
      exact ret_v C hr hlk hS hW dX5_carries_162
    · have h := (if_neg c40).symm.trans h
      refine lv_aload_n hx hb dX5_carries_43 rfl (lv_at hl 0 rfl) ?_
      refine gX5_50 C hW dX5_carries_44 ?_
      refine lv_iload hx hb dX5_carries_47 (lv_at hl 4 rfl) ?_
      refine lv_iconst (v := (0 : Int32)) hx hb dX5_carries_49 (by decide) ?_
      obtain ⟨g50, h⟩ := gd h
      refine ast_170 C hS hW g50 dX5_carries_50 (fun H locs hW hS => ?_)
      refine lv_aload_n hx hb dX5_carries_51 rfl (lv_at hl 0 rfl) ?_
      refine gX5_13 C hW dX5_carries_52 ?_
      refine lv_iload hx hb dX5_carries_55 (lv_at hl 4 rfl) ?_
      obtain ⟨g57, h⟩ := gd h
      refine ald_158 C hW g57 dX5_carries_57 ?_
      refine lv_iload_n hx hb dX5_carries_58 rfl (lv_at hl 1 rfl) ?_
      obtain ⟨r59, M59, hc59, h⟩ := bd2_e h
      refine kX5_147 C hml hl.1 (c_X5_power hc59) ⟨Nat.le_of_ble_eq_true rfl, Nat.le_of_ble_eq_true rfl⟩ ⟨Nat.le_of_ble_eq_true rfl, Nat.le_of_ble_eq_true rfl⟩ (Nat.le_of_ble_eq_true rfl) hS hW dX5_carries_59 (fun H locs hW hS => ?_)
      refine lv_istore (lv' := [(5, .int r59), (0, .ref (b + 156)), (1, .int x1), (2, .int x2), (3, .int x3), (4, .int x4)]) hx hb dX5_carries_62 hl (by decide) rfl (fun ls hl => ?_)
      refine lv_iload_n hx hb dX5_carries_64 rfl (lv_at hl 3 rfl) ?_
      refine lv_iload hx hb dX5_carries_65 (lv_at hl 0 rfl) ?_
      refine lv_imul hx hb dX5_carries_67 ?_
      refine lv_aload_n hx hb dX5_carries_68 rfl (lv_at hl 1 rfl) ?_
      refine gX5_13 C hW dX5_carries_69 ?_
      refine lv_iload hx hb dX5_carries_72 (lv_at hl 5 rfl) ?_
      obtain ⟨g74, h⟩ := gd h
      refine ald_158 C hW g74 dX5_carries_74 ?_
      refine lv_iload hx hb dX5_carries_75 (lv_at hl 0 rfl) ?_
      obtain ⟨g77, h⟩ := gd h
      refine lv_irem hx hb dX5_carries_77 g77 ?_
      refine lv_iadd hx hb dX5_carries_78 ?_
      refine lv_istore (lv' := [(6, .int ((x2 * r59) + ((M59 21 x4.toNatClampNeg) - (M59 21 x4.toNatClampNeg) / r59 * r59))), (5, .int r59), (0, .ref (b + 156)), (1, .int x1), (2, .int x2), (3, .int x3), (4, .int x4)]) hx hb dX5_carries_79 hl (by decide) rfl (fun ls hl => ?_)
      refine lv_iload_n hx hb dX5_carries_81 rfl (lv_at hl 5 rfl) ?_
      refine lv_if_eq (tgt := 132) hx hb dX5_carries_82 (by decide) (fun c82 => ?_) (fun c82 => ?_)
      · have h := (if_pos c82).symm.trans h
        refine lv_aload_n hx hb dX5_carries_132 rfl (lv_at hl 2 rfl) ?_
        refine lv_iload hx hb dX5_carries_133 (lv_at hl 0 rfl) ?_
        refine lv_aload_n hx hb dX5_carries_135 rfl (lv_at hl 2 rfl) ?_
        refine gX5_17 C hW dX5_carries_136 ?_
        refine lv_iload hx hb dX5_carries_139 (lv_at hl 6 rfl) ?_
        obtain ⟨g141, h⟩ := gd h
        refine ald_159 C hW g141 dX5_carries_141 ?_
        refine lv_aload_n hx hb dX5_carries_142 rfl (lv_at hl 2 rfl) ?_
        refine gX5_20 C hW dX5_carries_143 ?_
        refine lv_iload hx hb dX5_carries_146 (lv_at hl 6 rfl) ?_
        obtain ⟨g148, h⟩ := gd h
        refine ald_160 C hW g148 dX5_carries_148 ?_
        obtain ⟨r149, M149, hc149, h⟩ := bd2_e h
        refine kX5_119 C hml hl.1 (c_X5_makes hc149) ⟨Nat.le_of_ble_eq_true rfl, Nat.le_of_ble_eq_true rfl⟩ ⟨Nat.le_of_ble_eq_true rfl, Nat.le_of_ble_eq_true rfl⟩ (Nat.le_of_ble_eq_true rfl) hS hW dX5_carries_149 (fun H locs hW hS => ?_)
        refine lv_pop hx hb dX5_carries_152 rfl ?_
        exact w_X5_carries_153 C hml hr hlk hK38 h hS hW (lv_sub hl [2, 3, 4, 5] rfl)
      · have h := (if_neg c82).symm.trans h
        refine lv_aload_n hx hb dX5_carries_85 rfl (lv_at hl 2 rfl) ?_
        refine lv_iload hx hb dX5_carries_86 (lv_at hl 6 rfl) ?_
        obtain ⟨M88, hc88, h⟩ := bd1_e h
        refine kX5_130 C hml hl.1 (c_X5_goes hc88) ⟨Nat.le_of_ble_eq_true rfl, Nat.le_of_ble_eq_true rfl⟩ ⟨Nat.le_of_ble_eq_true rfl, Nat.le_of_ble_eq_true rfl⟩ (Nat.le_of_ble_eq_true rfl) hS hW dX5_carries_88 (fun H locs hW hS => ?_)
        refine lv_aload_n hx hb dX5_carries_91 rfl (lv_at hl 2 rfl) ?_
        refine gX5_7 C hW dX5_carries_92 ?_
        refine lv_iload hx hb dX5_carries_95 (lv_at hl 6 rfl) ?_
        refine lv_iconst (v := (1 : Int32)) hx hb dX5_carries_97 (by decide) ?_
        obtain ⟨g98, h⟩ := gd h
        refine ast_157 C hS hW g98 dX5_carries_98 (fun H locs hW hS => ?_)
        refine lv_aload_n hx hb dX5_carries_99 rfl (lv_at hl 2 rfl) ?_
        refine gX5_13 C hW dX5_carries_100 ?_
        refine lv_iload hx hb dX5_carries_103 (lv_at hl 6 rfl) ?_
        refine lv_iload hx hb dX5_carries_105 (lv_at hl 0 rfl) ?_
        obtain ⟨g107, h⟩ := gd h
        refine ast_158 C hS hW g107 dX5_carries_107 (fun H locs hW hS => ?_)
        refine lv_aload_n hx hb dX5_carries_108 rfl (lv_at hl 2 rfl) ?_
        refine lv_dup hx hb dX5_carries_109 rfl ?_
        refine gX5_82 C hW dX5_carries_110 ?_
        refine lv_iconst (v := (1 : Int32)) hx hb dX5_carries_113 (by decide) ?_
        refine lv_iadd hx hb dX5_carries_114 ?_
        refine pX5_82 C hS hW dX5_carries_115 (fun H locs hW hS => ?_)
        refine lv_aload_n hx hb dX5_carries_118 rfl (lv_at hl 2 rfl) ?_
        refine gX5_23 C hW dX5_carries_119 ?_
        refine lv_iload hx hb dX5_carries_122 (lv_at hl 6 rfl) ?_
        refine lv_aload_n hx hb dX5_carries_124 rfl (lv_at hl 2 rfl) ?_
        refine gX5_82 C hW dX5_carries_125 ?_
        obtain ⟨g128, h⟩ := gd h
        refine ast_161 C hS hW g128 dX5_carries_128 (fun H locs hW hS => ?_)
        refine lv_goto (tgt := 153) hx hb dX5_carries_129 (by decide) ?_
        exact w_X5_carries_153 C hml hr hlk hK38 h hS hW (lv_sub hl [2, 3, 4, 5] rfl)
def f_X5_carries_26 (K3 : Mem → Int32 → Int32 → Int32 → Int32 → Option Mem) (M : Mem) (x1 : Int32) (x2 : Int32) (x3 : Int32) (x4 : Int32) : Option Mem :=
  K3 M x1 x2 x3 (x4 + 1)
set_option maxHeartbeats 4000000 in
set_option maxRecDepth 100000 in
theorem w_X5_carries_26 {p : Program} {l : Launch} {e : Env} {s : State} {m : MethodId} {args : Array Value} {below : List Frame} {meth : Method} {c : Code} {Z : Zt} {b : Nat} (C : Cx p s m args c cX5_carries RX5 Z b) (hml : c.maxLocals = 7) (hr : meth.sig.returnType = (none : Option Jvm.ClassFile.FieldType)) (hlk : meth.locks = false) {M' : Mem} {K3 : Mem → Int32 → Int32 → Int32 → Int32 → Option Mem} (hK3 : ∀ {M : Mem} {x1 : Int32} {x2 : Int32} {x3 : Int32} {x4 : Int32} (h : K3 M x1 x2 x3 x4 = some M') {H : Heap} {locs : List Loc} {ls : Array Slot} (hS : va_S (A0 b) s.heap H locs) (hW : Wd Z b M H) (hl : lv_has ls 7 [(0, .ref (b + 156)), (1, .int x1), (2, .int x2), (3, .int x3), (4, .int x4)]), W p l e rm_X5_carries s m args below meth c H locs 0 0 (MQ below (Qn Z b none M') args s 0 0 (A0 b)) (F0 m 3 ls [])) {M : Mem} {x1 : Int32} {x2 : Int32} {x3 : Int32} {x4 : Int32} (h : f_X5_carries_26 K3 M x1 x2 x3 x4 = some M') {H : Heap} {locs : List Loc} {ls : Array Slot} (hS : va_S (A0 b) s.heap H locs) (hW : Wd Z b M H) (hl : lv_has ls 7 [(0, .ref (b + 156)), (1, .int x1), (2, .int x2), (3, .int x3), (4, .int x4)]) : W p l e rm_X5_carries s m args below meth c H locs 0 0 (MQ below (Qn Z b none M') args s 0 0 (A0 b)) (F0 m 26 ls []) := by
  unfold f_X5_carries_26 at h
  have hx := C.1
  have hb := C.2.1
  refine lv_iinc (v := x4 + 1) (lv' := [(4, .int (x4 + 1)), (0, .ref (b + 156)), (1, .int x1), (2, .int x2), (3, .int x3)]) hx hb dX5_carries_26 hl (k := 4) rfl rfl (by decide) rfl (fun ls hl => ?_)
  refine lv_goto (tgt := 3) hx hb dX5_carries_29 (by decide) ?_
  exact hK3 h hS hW (lv_sub hl [1, 2, 3, 4, 0] rfl)
def f_X5_carries_3B (K3 : Mem → Int32 → Int32 → Int32 → Int32 → Option Mem) (M : Mem) (x1 : Int32) (x2 : Int32) (x3 : Int32) (x4 : Int32) : Option Mem :=
  if (60 : Int32) ≤ x4 then bd2 (f_X5_lowest M) (fun r33 M33 => f_X5_carries_38 64 M33 x1 x2 x3 r33) else bd2 (f_X5_isOf M x4 x2) (fun r14 M14 => if r14 = 0 then f_X5_carries_26 K3 M14 x1 x2 x3 x4 else bd1 (f_X5_goes M14 x4) (fun M23 => f_X5_carries_26 K3 M23 x1 x2 x3 x4))
def f_X5_carries_3 : Nat → Mem → Int32 → Int32 → Int32 → Int32 → Option Mem
  | 0 => fun _ _ _ _ _ => none
  | n + 1 => f_X5_carries_3B (f_X5_carries_3 n)
set_option maxHeartbeats 4000000 in
set_option maxRecDepth 100000 in
theorem w_X5_carries_3 {p : Program} {l : Launch} {e : Env} {s : State} {m : MethodId} {args : Array Value} {below : List Frame} {meth : Method} {c : Code} {Z : Zt} {b : Nat} (C : Cx p s m args c cX5_carries RX5 Z b) (hml : c.maxLocals = 7) (hr : meth.sig.returnType = (none : Option Jvm.ClassFile.FieldType)) (hlk : meth.locks = false) {M' : Mem} : ∀ (n : Nat) {M : Mem} {x1 : Int32} {x2 : Int32} {x3 : Int32} {x4 : Int32} (h : f_X5_carries_3 n M x1 x2 x3 x4 = some M') {H : Heap} {locs : List Loc} {ls : Array Slot} (hS : va_S (A0 b) s.heap H locs) (hW : Wd Z b M H) (hl : lv_has ls 7 [(0, .ref (b + 156)), (1, .int x1), (2, .int x2), (3, .int x3), (4, .int x4)]), W p l e rm_X5_carries s m args below meth c H locs 0 0 (MQ below (Qn Z b none M') args s 0 0 (A0 b)) (F0 m 3 ls []) := by
  intro n
  induction n with
  | zero =>
    intro M x1 x2 x3 x4 h
    cases h
  | succ n ih =>
    intro M x1 x2 x3 x4 h H locs ls hS hW hl
    have h : f_X5_carries_3B (f_X5_carries_3 n) M x1 x2 x3 x4 = some M' := h
    unfold f_X5_carries_3B at h
    have hK3 := @ih
    have hx := C.1
    have hb := C.2.1
    refine lv_iload hx hb dX5_carries_3 (lv_at hl 4 rfl) ?_
    refine lv_bipush (v := (60 : Int32)) hx hb dX5_carries_5 (by decide) ?_
    refine lv_icmp_ge (tgt := 32) hx hb dX5_carries_7 (by decide) (fun c7 => ?_) (fun c7 => ?_)
    · have h := (if_pos c7).symm.trans h
      refine lv_aload_n hx hb dX5_carries_32 rfl (lv_at hl 0 rfl) ?_
      obtain ⟨r33, M33, hc33, h⟩ := bd2_e h
      refine kX5_144 C hml hl.1 (c_X5_lowest hc33) ⟨Nat.le_of_ble_eq_true rfl, Nat.le_of_ble_eq_true rfl⟩ ⟨Nat.le_of_ble_eq_true rfl, Nat.le_of_ble_eq_true rfl⟩ (Nat.le_of_ble_eq_true rfl) hS hW dX5_carries_33 (fun H locs hW hS => ?_)
      refine lv_istore (lv' := [(4, .int r33), (0, .ref (b + 156)), (1, .int x1), (2, .int x2), (3, .int x3)]) hx hb dX5_carries_36 hl (by decide) rfl (fun ls hl => ?_)
      exact w_X5_carries_38 C hml hr hlk 64 h hS hW (lv_sub hl [1, 2, 3, 4, 0] rfl)
    · have h := (if_neg c7).symm.trans h
      refine lv_aload_n hx hb dX5_carries_10 rfl (lv_at hl 0 rfl) ?_
      refine lv_iload hx hb dX5_carries_11 (lv_at hl 4 rfl) ?_
      refine lv_iload_n hx hb dX5_carries_13 rfl (lv_at hl 2 rfl) ?_
      obtain ⟨r14, M14, hc14, h⟩ := bd2_e h
      refine kX5_100 C hml hl.1 (c_X5_isOf hc14) ⟨Nat.le_of_ble_eq_true rfl, Nat.le_of_ble_eq_true rfl⟩ ⟨Nat.le_of_ble_eq_true rfl, Nat.le_of_ble_eq_true rfl⟩ (Nat.le_of_ble_eq_true rfl) hS hW dX5_carries_14 (fun H locs hW hS => ?_)
      refine lv_if_eq (tgt := 26) hx hb dX5_carries_17 (by decide) (fun c17 => ?_) (fun c17 => ?_)
      · have h := (if_pos c17).symm.trans h
        exact w_X5_carries_26 C hml hr hlk hK3 h hS hW (lv_sub hl [0, 1, 2, 3, 4] rfl)
      · have h := (if_neg c17).symm.trans h
        refine lv_aload_n hx hb dX5_carries_20 rfl (lv_at hl 0 rfl) ?_
        refine lv_iload hx hb dX5_carries_21 (lv_at hl 4 rfl) ?_
        obtain ⟨M23, hc23, h⟩ := bd1_e h
        refine kX5_130 C hml hl.1 (c_X5_goes hc23) ⟨Nat.le_of_ble_eq_true rfl, Nat.le_of_ble_eq_true rfl⟩ ⟨Nat.le_of_ble_eq_true rfl, Nat.le_of_ble_eq_true rfl⟩ (Nat.le_of_ble_eq_true rfl) hS hW dX5_carries_23 (fun H locs hW hS => ?_)
        exact w_X5_carries_26 C hml hr hlk hK3 h hS hW (lv_sub hl [0, 1, 2, 3, 4] rfl)
def f_X5_carries_0 (M : Mem) (x1 : Int32) (x2 : Int32) (x3 : Int32) : Option Mem :=
  f_X5_carries_3 64 M x1 x2 x3 (0 : Int32)
set_option maxHeartbeats 4000000 in
set_option maxRecDepth 100000 in
theorem w_X5_carries_0 {p : Program} {l : Launch} {e : Env} {s : State} {m : MethodId} {args : Array Value} {below : List Frame} {meth : Method} {c : Code} {Z : Zt} {b : Nat} (C : Cx p s m args c cX5_carries RX5 Z b) (hml : c.maxLocals = 7) (hr : meth.sig.returnType = (none : Option Jvm.ClassFile.FieldType)) (hlk : meth.locks = false) {M' : Mem} {M : Mem} {x1 : Int32} {x2 : Int32} {x3 : Int32} (h : f_X5_carries_0 M x1 x2 x3 = some M') {H : Heap} {locs : List Loc} {ls : Array Slot} (hS : va_S (A0 b) s.heap H locs) (hW : Wd Z b M H) (hl : lv_has ls 7 [(0, .ref (b + 156)), (1, .int x1), (2, .int x2), (3, .int x3)]) : W p l e rm_X5_carries s m args below meth c H locs 0 0 (MQ below (Qn Z b none M') args s 0 0 (A0 b)) (F0 m 0 ls []) := by
  unfold f_X5_carries_0 at h
  have hx := C.1
  have hb := C.2.1
  refine lv_iconst (v := (0 : Int32)) hx hb dX5_carries_0 (by decide) ?_
  refine lv_istore (lv' := [(4, .int (0 : Int32)), (0, .ref (b + 156)), (1, .int x1), (2, .int x2), (3, .int x3)]) hx hb dX5_carries_1 hl (by decide) rfl (fun ls hl => ?_)
  exact w_X5_carries_3 C hml hr hlk 64 h hS hW (lv_sub hl [1, 2, 3, 4, 0] rfl)
def f_X5_carries (M : Mem) (x1 : Int32) (x2 : Int32) (x3 : Int32) : Option Mem := f_X5_carries_0 M x1 x2 x3
set_option maxHeartbeats 4000000 in
set_option maxRecDepth 100000 in
theorem c_X5_carries {l : Launch} {Z : Zt} {b : Nat} {M : Mem} {x1 : Int32} {x2 : Int32} {x3 : Int32} {M' : Mem} (h : f_X5_carries M x1 x2 x3 = some M') : Ct l yX5_carries cX5_carries 7 (none : Option Jvm.ClassFile.FieldType) rm_X5_carries Z b [.ref (b + 156), .int x1, .int x2, .int x3] M none M' := by
  refine Met.ofW (cc := cX5_carries) (maxL := 7) (ret := (none : Option Jvm.ClassFile.FieldType)) (by decide) rfl ?_
  intro p e s m args below meth c s₁ B hml hv
  obtain ⟨rfl, hE, hW⟩ := hv
  have C : Cx p s m [.ref (b + 156), .int x1, .int x2, .int x3].toArray c cX5_carries RX5 Z b := ⟨B.exec, B.bytes, findClass_of_methodNamed B.named, fun w hw => atoms_spec (ws := Cond.code yX5_carries cX5_carries 7 (none : Option Jvm.ClassFile.FieldType) :: wsA) B.pre w (List.mem_cons_of_mem _ hw), hE⟩
  have hl := lv_entry [.ref (b + 156), .int x1, .int x2, .int x3] (n := 7) (Nat.le_of_ble_eq_true rfl)
  rw [lg_entry_eq]
  generalize (lg_sl [.ref (b + 156), .int x1, .int x2, .int x3] ++ List.replicate (7 - (lg_sl [.ref (b + 156), .int x1, .int x2, .int x3]).length) Slot.unset).toArray = ls at hl ⊢
  have hl : lv_has ls 7 [(0, .ref (b + 156)), (1, .int x1), (2, .int x2), (3, .int x3)] := hl
  exact w_X5_carries_0 C hml B.returns B.notSynchronized h va_S.rf hW hl
def f_X5_brings_345 (M : Mem) (x2 : Int32) (x3 : Int32) (x6 : Int32) (xs0 : Int32) : Option (Int32 × Mem) :=
  if xs0 = 0 then bd1 (f_X5_carries M x2 x3 x6) (fun M357 => some (xs0, M357)) else some (xs0, M)
set_option maxHeartbeats 4000000 in
set_option maxRecDepth 100000 in
theorem w_X5_brings_345 {p : Program} {l : Launch} {e : Env} {s : State} {m : MethodId} {args : Array Value} {below : List Frame} {meth : Method} {c : Code} {Z : Zt} {b : Nat} (C : Cx p s m args c cX5_brings RX5 Z b) (hml : c.maxLocals = 13) (hr : meth.sig.returnType = (some .int)) (hlk : meth.locks = false) {r' : Int32} {M' : Mem} {M : Mem} {x2 : Int32} {x3 : Int32} {x6 : Int32} {xs0 : Int32} (h : f_X5_brings_345 M x2 x3 x6 xs0 = some (r', M')) {H : Heap} {locs : List Loc} {ls : Array Slot} (hS : va_S (A0 b) s.heap H locs) (hW : Wd Z b M H) (hl : lv_has ls 13 [(0, .ref (b + 156)), (2, .int x2), (3, .int x3), (6, .int x6)]) : W p l e rm_X5_brings s m args below meth c H locs 0 0 (MQ below (Qn Z b (some (.int r')) M') args s 0 0 (A0 b)) (F0 m 345 ls [.int xs0]) := by
  unfold f_X5_brings_345 at h
  have hx := C.1
  have hb := C.2.1
  refine lv_istore (lv' := [(12, .int xs0), (0, .ref (b + 156)), (2, .int x2), (3, .int x3), (6, .int x6)]) hx hb dX5_brings_345 hl (by decide) rfl (fun ls hl => ?_)
  refine lv_iload hx hb dX5_brings_347 (lv_at hl 0 rfl) ?_
  refine lv_if_ne (tgt := 360) hx hb dX5_brings_349 (by decide) (fun c349 => ?_) (fun c349 => ?_)
  · have h := (if_neg c349).symm.trans h
    refine lv_iload hx hb dX5_brings_360 (lv_at hl 0 rfl) ?_
    cases h
    exact ret_i C hr hlk hS hW dX5_brings_362
  · have h := (if_pos c349).symm.trans h
    refine lv_aload_n hx hb dX5_brings_352 rfl (lv_at hl 1 rfl) ?_
    refine lv_iload_n hx hb dX5_brings_353 rfl (lv_at hl 2 rfl) ?_
    refine lv_iload_n hx hb dX5_brings_354 rfl (lv_at hl 3 rfl) ?_
    refine lv_iload hx hb dX5_brings_355 (lv_at hl 4 rfl) ?_
    obtain ⟨M357, hc357, h⟩ := bd1_e h
    refine kX5_140 C hml hl.1 (c_X5_carries hc357) ⟨Nat.le_of_ble_eq_true rfl, Nat.le_of_ble_eq_true rfl⟩ ⟨Nat.le_of_ble_eq_true rfl, Nat.le_of_ble_eq_true rfl⟩ (Nat.le_of_ble_eq_true rfl) hS hW dX5_brings_357 (fun H locs hW hS => ?_)
    refine lv_iload hx hb dX5_brings_360 (lv_at hl 0 rfl) ?_
    cases h
    exact ret_i C hr hlk hS hW dX5_brings_362
def f_X5_brings_344 (M : Mem) (x2 : Int32) (x3 : Int32) (x6 : Int32) : Option (Int32 × Mem) :=
  f_X5_brings_345 M x2 x3 x6 (0 : Int32)
set_option maxHeartbeats 4000000 in
set_option maxRecDepth 100000 in
theorem w_X5_brings_344 {p : Program} {l : Launch} {e : Env} {s : State} {m : MethodId} {args : Array Value} {below : List Frame} {meth : Method} {c : Code} {Z : Zt} {b : Nat} (C : Cx p s m args c cX5_brings RX5 Z b) (hml : c.maxLocals = 13) (hr : meth.sig.returnType = (some .int)) (hlk : meth.locks = false) {r' : Int32} {M' : Mem} {M : Mem} {x2 : Int32} {x3 : Int32} {x6 : Int32} (h : f_X5_brings_344 M x2 x3 x6 = some (r', M')) {H : Heap} {locs : List Loc} {ls : Array Slot} (hS : va_S (A0 b) s.heap H locs) (hW : Wd Z b M H) (hl : lv_has ls 13 [(0, .ref (b + 156)), (2, .int x2), (3, .int x3), (6, .int x6)]) : W p l e rm_X5_brings s m args below meth c H locs 0 0 (MQ below (Qn Z b (some (.int r')) M') args s 0 0 (A0 b)) (F0 m 344 ls []) := by
  unfold f_X5_brings_344 at h
  have hx := C.1
  have hb := C.2.1
  refine lv_iconst (v := (0 : Int32)) hx hb dX5_brings_344 (by decide) ?_
  exact w_X5_brings_345 C hml hr hlk h hS hW (lv_sub hl [0, 1, 2, 3] rfl)
def f_X5_brings_311 (M : Mem) (x2 : Int32) (x3 : Int32) (x6 : Int32) (x9 : Int32) (x10 : Int32) (x11 : Int32) : Option (Int32 × Mem) :=
  if x11 = 0 then f_X5_brings_345 M x2 x3 x6 (4 : Int32) else if x6 = 0 then bd2 (f_X5_count M) (fun r326 M326 => if ((r326 - x10) + x9) ≤ (60 : Int32) then f_X5_brings_344 M326 x2 x3 x6 else f_X5_brings_345 M326 x2 x3 x6 (5 : Int32)) else f_X5_brings_344 M x2 x3 x6
set_option maxHeartbeats 4000000 in
set_option maxRecDepth 100000 in
theorem w_X5_brings_311 {p : Program} {l : Launch} {e : Env} {s : State} {m : MethodId} {args : Array Value} {below : List Frame} {meth : Method} {c : Code} {Z : Zt} {b : Nat} (C : Cx p s m args c cX5_brings RX5 Z b) (hml : c.maxLocals = 13) (hr : meth.sig.returnType = (some .int)) (hlk : meth.locks = false) {r' : Int32} {M' : Mem} {M : Mem} {x2 : Int32} {x3 : Int32} {x6 : Int32} {x9 : Int32} {x10 : Int32} {x11 : Int32} (h : f_X5_brings_311 M x2 x3 x6 x9 x10 x11 = some (r', M')) {H : Heap} {locs : List Loc} {ls : Array Slot} (hS : va_S (A0 b) s.heap H locs) (hW : Wd Z b M H) (hl : lv_has ls 13 [(0, .ref (b + 156)), (2, .int x2), (3, .int x3), (6, .int x6), (9, .int x9), (10, .int x10), (11, .int x11)]) : W p l e rm_X5_brings s m args below meth c H locs 0 0 (MQ below (Qn Z b (some (.int r')) M') args s 0 0 (A0 b)) (F0 m 311 ls []) := by
  unfold f_X5_brings_311 at h
  have hx := C.1
  have hb := C.2.1
  refine lv_iload hx hb dX5_brings_311 (lv_at hl 6 rfl) ?_
  refine lv_if_ne (tgt := 320) hx hb dX5_brings_313 (by decide) (fun c313 => ?_) (fun c313 => ?_)
  · have h := (if_neg c313).symm.trans h
    refine lv_iload hx hb dX5_brings_320 (lv_at hl 3 rfl) ?_
    refine lv_if_ne (tgt := 344) hx hb dX5_brings_322 (by decide) (fun c322 => ?_) (fun c322 => ?_)
    · have h := (if_neg c322).symm.trans h
      exact w_X5_brings_344 C hml hr hlk h hS hW (lv_sub hl [0, 1, 2, 3] rfl)
    · have h := (if_pos c322).symm.trans h
      refine lv_aload_n hx hb dX5_brings_325 rfl (lv_at hl 0 rfl) ?_
      obtain ⟨r326, M326, hc326, h⟩ := bd2_e h
      refine kX5_115 C hml hl.1 (c_X5_count hc326) ⟨Nat.le_of_ble_eq_true rfl, Nat.le_of_ble_eq_true rfl⟩ ⟨Nat.le_of_ble_eq_true rfl, Nat.le_of_ble_eq_true rfl⟩ (Nat.le_of_ble_eq_true rfl) hS hW dX5_brings_326 (fun H locs hW hS => ?_)
      refine lv_iload hx hb dX5_brings_329 (lv_at hl 5 rfl) ?_
      refine lv_isub hx hb dX5_brings_331 ?_
      refine lv_iload hx hb dX5_brings_332 (lv_at hl 4 rfl) ?_
      refine lv_iadd hx hb dX5_brings_334 ?_
      refine lv_bipush (v := (60 : Int32)) hx hb dX5_brings_335 (by decide) ?_
      refine lv_icmp_le (tgt := 344) hx hb dX5_brings_337 (by decide) (fun c337 => ?_) (fun c337 => ?_)
      · have h := (if_pos c337).symm.trans h
        exact w_X5_brings_344 C hml hr hlk h hS hW (lv_sub hl [0, 1, 2, 3] rfl)
      · have h := (if_neg c337).symm.trans h
        refine lv_iconst (v := (5 : Int32)) hx hb dX5_brings_340 (by decide) ?_
        refine lv_goto (tgt := 345) hx hb dX5_brings_341 (by decide) ?_
        exact w_X5_brings_345 C hml hr hlk h hS hW (lv_sub hl [0, 1, 2, 3] rfl)
  · have h := (if_pos c313).symm.trans h
    refine lv_iconst (v := (4 : Int32)) hx hb dX5_brings_316 (by decide) ?_
    refine lv_goto (tgt := 345) hx hb dX5_brings_317 (by decide) ?_
    exact w_X5_brings_345 C hml hr hlk h hS hW (lv_sub hl [0, 1, 2, 3] rfl)
def f_X5_brings_283 (M : Mem) (x2 : Int32) (x3 : Int32) (x4 : Int32) (x6 : Int32) (x8 : Int32) (x9 : Int32) (x10 : Int32) (xs0 : Int32) : Option (Int32 × Mem) :=
  if x8 = 0 then f_X5_brings_345 M x2 x3 x6 (1 : Int32) else bd2 (f_X5_place M x3) (fun r296 M296 => if r296 < 0 then f_X5_brings_311 M296 x2 x3 x6 x9 x10 xs0 else if x4 = 0 then f_X5_brings_345 M296 x2 x3 x6 (2 : Int32) else f_X5_brings_311 M296 x2 x3 x6 x9 x10 xs0)
set_option maxHeartbeats 4000000 in
set_option maxRecDepth 100000 in
theorem w_X5_brings_283 {p : Program} {l : Launch} {e : Env} {s : State} {m : MethodId} {args : Array Value} {below : List Frame} {meth : Method} {c : Code} {Z : Zt} {b : Nat} (C : Cx p s m args c cX5_brings RX5 Z b) (hml : c.maxLocals = 13) (hr : meth.sig.returnType = (some .int)) (hlk : meth.locks = false) {r' : Int32} {M' : Mem} {M : Mem} {x2 : Int32} {x3 : Int32} {x4 : Int32} {x6 : Int32} {x8 : Int32} {x9 : Int32} {x10 : Int32} {xs0 : Int32} (h : f_X5_brings_283 M x2 x3 x4 x6 x8 x9 x10 xs0 = some (r', M')) {H : Heap} {locs : List Loc} {ls : Array Slot} (hS : va_S (A0 b) s.heap H locs) (hW : Wd Z b M H) (hl : lv_has ls 13 [(0, .ref (b + 156)), (2, .int x2), (3, .int x3), (4, .int x4), (6, .int x6), (8, .int x8), (9, .int x9), (10, .int x10)]) : W p l e rm_X5_brings s m args below meth c H locs 0 0 (MQ below (Qn Z b (some (.int r')) M') args s 0 0 (A0 b)) (F0 m 283 ls [.int xs0]) := by
  unfold f_X5_brings_283 at h
  have hx := C.1
  have hb := C.2.1
  refine lv_istore (lv' := [(11, .int xs0), (0, .ref (b + 156)), (2, .int x2), (3, .int x3), (4, .int x4), (6, .int x6), (8, .int x8), (9, .int x9), (10, .int x10)]) hx hb dX5_brings_283 hl (by decide) rfl (fun ls hl => ?_)
  refine lv_iload hx hb dX5_brings_285 (lv_at hl 6 rfl) ?_
  refine lv_if_ne (tgt := 294) hx hb dX5_brings_287 (by decide) (fun c287 => ?_) (fun c287 => ?_)
  · have h := (if_neg c287).symm.trans h
    refine lv_aload_n hx hb dX5_brings_294 rfl (lv_at hl 1 rfl) ?_
    refine lv_iload_n hx hb dX5_brings_295 rfl (lv_at hl 3 rfl) ?_
    obtain ⟨r296, M296, hc296, h⟩ := bd2_e h
    refine kX5_74 C hml hl.1 (c_X5_place hc296) ⟨Nat.le_of_ble_eq_true rfl, Nat.le_of_ble_eq_true rfl⟩ ⟨Nat.le_of_ble_eq_true rfl, Nat.le_of_ble_eq_true rfl⟩ (Nat.le_of_ble_eq_true rfl) hS hW dX5_brings_296 (fun H locs hW hS => ?_)
    refine lv_if_lt (tgt := 311) hx hb dX5_brings_299 (by decide) (fun c299 => ?_) (fun c299 => ?_)
    · have h := (if_pos c299).symm.trans h
      exact w_X5_brings_311 C hml hr hlk h hS hW (lv_sub hl [1, 2, 3, 5, 7, 8, 0] rfl)
    · have h := (if_neg c299).symm.trans h
      refine lv_iload hx hb dX5_brings_302 (lv_at hl 4 rfl) ?_
      refine lv_if_ne (tgt := 311) hx hb dX5_brings_304 (by decide) (fun c304 => ?_) (fun c304 => ?_)
      · have h := (if_neg c304).symm.trans h
        exact w_X5_brings_311 C hml hr hlk h hS hW (lv_sub hl [1, 2, 3, 5, 7, 8, 0] rfl)
      · have h := (if_pos c304).symm.trans h
        refine lv_iconst (v := (2 : Int32)) hx hb dX5_brings_307 (by decide) ?_
        refine lv_goto (tgt := 345) hx hb dX5_brings_308 (by decide) ?_
        exact w_X5_brings_345 C hml hr hlk h hS hW (lv_sub hl [1, 2, 3, 5] rfl)
  · have h := (if_pos c287).symm.trans h
    refine lv_iconst (v := (1 : Int32)) hx hb dX5_brings_290 (by decide) ?_
    refine lv_goto (tgt := 345) hx hb dX5_brings_291 (by decide) ?_
    exact w_X5_brings_345 C hml hr hlk h hS hW (lv_sub hl [1, 2, 3, 5] rfl)
def f_X5_brings_282 (M : Mem) (x2 : Int32) (x3 : Int32) (x4 : Int32) (x6 : Int32) (x8 : Int32) (x9 : Int32) (x10 : Int32) : Option (Int32 × Mem) :=
  f_X5_brings_283 M x2 x3 x4 x6 x8 x9 x10 (0 : Int32)
set_option maxHeartbeats 4000000 in
set_option maxRecDepth 100000 in
theorem w_X5_brings_282 {p : Program} {l : Launch} {e : Env} {s : State} {m : MethodId} {args : Array Value} {below : List Frame} {meth : Method} {c : Code} {Z : Zt} {b : Nat} (C : Cx p s m args c cX5_brings RX5 Z b) (hml : c.maxLocals = 13) (hr : meth.sig.returnType = (some .int)) (hlk : meth.locks = false) {r' : Int32} {M' : Mem} {M : Mem} {x2 : Int32} {x3 : Int32} {x4 : Int32} {x6 : Int32} {x8 : Int32} {x9 : Int32} {x10 : Int32} (h : f_X5_brings_282 M x2 x3 x4 x6 x8 x9 x10 = some (r', M')) {H : Heap} {locs : List Loc} {ls : Array Slot} (hS : va_S (A0 b) s.heap H locs) (hW : Wd Z b M H) (hl : lv_has ls 13 [(0, .ref (b + 156)), (2, .int x2), (3, .int x3), (4, .int x4), (6, .int x6), (8, .int x8), (9, .int x9), (10, .int x10)]) : W p l e rm_X5_brings s m args below meth c H locs 0 0 (MQ below (Qn Z b (some (.int r')) M') args s 0 0 (A0 b)) (F0 m 282 ls []) := by
  unfold f_X5_brings_282 at h
  have hx := C.1
  have hb := C.2.1
  refine lv_iconst (v := (0 : Int32)) hx hb dX5_brings_282 (by decide) ?_
  exact w_X5_brings_283 C hml hr hlk h hS hW (lv_sub hl [0, 1, 2, 3, 4, 5, 6, 7] rfl)
def f_X5_brings_278 (M : Mem) (x2 : Int32) (x3 : Int32) (x4 : Int32) (x6 : Int32) (x8 : Int32) (x9 : Int32) (x10 : Int32) : Option (Int32 × Mem) :=
  f_X5_brings_283 M x2 x3 x4 x6 x8 x9 x10 (1 : Int32)
set_option maxHeartbeats 4000000 in
set_option maxRecDepth 100000 in
theorem w_X5_brings_278 {p : Program} {l : Launch} {e : Env} {s : State} {m : MethodId} {args : Array Value} {below : List Frame} {meth : Method} {c : Code} {Z : Zt} {b : Nat} (C : Cx p s m args c cX5_brings RX5 Z b) (hml : c.maxLocals = 13) (hr : meth.sig.returnType = (some .int)) (hlk : meth.locks = false) {r' : Int32} {M' : Mem} {M : Mem} {x2 : Int32} {x3 : Int32} {x4 : Int32} {x6 : Int32} {x8 : Int32} {x9 : Int32} {x10 : Int32} (h : f_X5_brings_278 M x2 x3 x4 x6 x8 x9 x10 = some (r', M')) {H : Heap} {locs : List Loc} {ls : Array Slot} (hS : va_S (A0 b) s.heap H locs) (hW : Wd Z b M H) (hl : lv_has ls 13 [(0, .ref (b + 156)), (2, .int x2), (3, .int x3), (4, .int x4), (6, .int x6), (8, .int x8), (9, .int x9), (10, .int x10)]) : W p l e rm_X5_brings s m args below meth c H locs 0 0 (MQ below (Qn Z b (some (.int r')) M') args s 0 0 (A0 b)) (F0 m 278 ls []) := by
  unfold f_X5_brings_278 at h
  have hx := C.1
  have hb := C.2.1
  refine lv_iconst (v := (1 : Int32)) hx hb dX5_brings_278 (by decide) ?_
  refine lv_goto (tgt := 283) hx hb dX5_brings_279 (by decide) ?_
  exact w_X5_brings_283 C hml hr hlk h hS hW (lv_sub hl [0, 1, 2, 3, 4, 5, 6, 7] rfl)
def f_X5_brings_241 (M : Mem) (x1 : Int32) (x2 : Int32) (x3 : Int32) (x4 : Int32) (x5 : Int32) (x6 : Int32) (x8 : Int32) (x9 : Int32) (x10 : Int32) (xs0 : Int32) : Option (Int32 × Mem) :=
  if xs0 = 0 then f_X5_brings_282 M x2 x3 x4 x6 x8 x9 x10 else if x6 = 0 then f_X5_brings_278 M x2 x3 x4 x6 x8 x9 x10 else bd2 (f_X5_may M x1 (x2 / (10 : Int32)) x5) (fun r261 M261 => if r261 = 0 then f_X5_brings_282 M261 x2 x3 x4 x6 x8 x9 x10 else bd2 (f_X5_mayAll M261 x1 x2 x5) (fun r272 M272 => if r272 = 0 then f_X5_brings_282 M272 x2 x3 x4 x6 x8 x9 x10 else f_X5_brings_278 M272 x2 x3 x4 x6 x8 x9 x10))
set_option maxHeartbeats 4000000 in
set_option maxRecDepth 100000 in
theorem w_X5_brings_241 {p : Program} {l : Launch} {e : Env} {s : State} {m : MethodId} {args : Array Value} {below : List Frame} {meth : Method} {c : Code} {Z : Zt} {b : Nat} (C : Cx p s m args c cX5_brings RX5 Z b) (hml : c.maxLocals = 13) (hr : meth.sig.returnType = (some .int)) (hlk : meth.locks = false) {r' : Int32} {M' : Mem} {M : Mem} {x1 : Int32} {x2 : Int32} {x3 : Int32} {x4 : Int32} {x5 : Int32} {x6 : Int32} {x8 : Int32} {x9 : Int32} {x10 : Int32} {xs0 : Int32} (h : f_X5_brings_241 M x1 x2 x3 x4 x5 x6 x8 x9 x10 xs0 = some (r', M')) {H : Heap} {locs : List Loc} {ls : Array Slot} (hS : va_S (A0 b) s.heap H locs) (hW : Wd Z b M H) (hl : lv_has ls 13 [(0, .ref (b + 156)), (1, .int x1), (2, .int x2), (3, .int x3), (4, .int x4), (5, .int x5), (6, .int x6), (8, .int x8), (9, .int x9), (10, .int x10)]) : W p l e rm_X5_brings s m args below meth c H locs 0 0 (MQ below (Qn Z b (some (.int r')) M') args s 0 0 (A0 b)) (F0 m 241 ls [.int xs0]) := by
  unfold f_X5_brings_241 at h
  have hx := C.1
  have hb := C.2.1
  refine lv_istore (lv' := [(11, .int xs0), (0, .ref (b + 156)), (1, .int x1), (2, .int x2), (3, .int x3), (4, .int x4), (5, .int x5), (6, .int x6), (8, .int x8), (9, .int x9), (10, .int x10)]) hx hb dX5_brings_241 hl (by decide) rfl (fun ls hl => ?_)
  refine lv_iload hx hb dX5_brings_243 (lv_at hl 0 rfl) ?_
  refine lv_if_eq (tgt := 282) hx hb dX5_brings_245 (by decide) (fun c245 => ?_) (fun c245 => ?_)
  · have h := (if_pos c245).symm.trans h
    exact w_X5_brings_282 C hml hr hlk h hS hW (lv_sub hl [1, 3, 4, 5, 7, 8, 9, 10] rfl)
  · have h := (if_neg c245).symm.trans h
    refine lv_iload hx hb dX5_brings_248 (lv_at hl 7 rfl) ?_
    refine lv_if_eq (tgt := 278) hx hb dX5_brings_250 (by decide) (fun c250 => ?_) (fun c250 => ?_)
    · have h := (if_pos c250).symm.trans h
      exact w_X5_brings_278 C hml hr hlk h hS hW (lv_sub hl [1, 3, 4, 5, 7, 8, 9, 10] rfl)
    · have h := (if_neg c250).symm.trans h
      refine lv_aload_n hx hb dX5_brings_253 rfl (lv_at hl 1 rfl) ?_
      refine lv_iload_n hx hb dX5_brings_254 rfl (lv_at hl 2 rfl) ?_
      refine lv_iload_n hx hb dX5_brings_255 rfl (lv_at hl 3 rfl) ?_
      refine lv_bipush (v := (10 : Int32)) hx hb dX5_brings_256 (by decide) ?_
      refine lv_idiv hx hb dX5_brings_258 (by decide) ?_
      refine lv_iload hx hb dX5_brings_259 (lv_at hl 6 rfl) ?_
      obtain ⟨r261, M261, hc261, h⟩ := bd2_e h
      refine kX5_103 C hml hl.1 (c_X5_may hc261) ⟨Nat.le_of_ble_eq_true rfl, Nat.le_of_ble_eq_true rfl⟩ ⟨Nat.le_of_ble_eq_true rfl, Nat.le_of_ble_eq_true rfl⟩ (Nat.le_of_ble_eq_true rfl) hS hW dX5_brings_261 (fun H locs hW hS => ?_)
      refine lv_if_eq (tgt := 282) hx hb dX5_brings_264 (by decide) (fun c264 => ?_) (fun c264 => ?_)
      · have h := (if_pos c264).symm.trans h
        exact w_X5_brings_282 C hml hr hlk h hS hW (lv_sub hl [1, 3, 4, 5, 7, 8, 9, 10] rfl)
      · have h := (if_neg c264).symm.trans h
        refine lv_aload_n hx hb dX5_brings_267 rfl (lv_at hl 1 rfl) ?_
        refine lv_iload_n hx hb dX5_brings_268 rfl (lv_at hl 2 rfl) ?_
        refine lv_iload_n hx hb dX5_brings_269 rfl (lv_at hl 3 rfl) ?_
        refine lv_iload hx hb dX5_brings_270 (lv_at hl 6 rfl) ?_
        obtain ⟨r272, M272, hc272, h⟩ := bd2_e h
        refine kX5_137 C hml hl.1 (c_X5_mayAll hc272) ⟨Nat.le_of_ble_eq_true rfl, Nat.le_of_ble_eq_true rfl⟩ ⟨Nat.le_of_ble_eq_true rfl, Nat.le_of_ble_eq_true rfl⟩ (Nat.le_of_ble_eq_true rfl) hS hW dX5_brings_272 (fun H locs hW hS => ?_)
        refine lv_if_eq (tgt := 282) hx hb dX5_brings_275 (by decide) (fun c275 => ?_) (fun c275 => ?_)
        · have h := (if_pos c275).symm.trans h
          exact w_X5_brings_282 C hml hr hlk h hS hW (lv_sub hl [1, 3, 4, 5, 7, 8, 9, 10] rfl)
        · have h := (if_neg c275).symm.trans h
          exact w_X5_brings_278 C hml hr hlk h hS hW (lv_sub hl [1, 3, 4, 5, 7, 8, 9, 10] rfl)
def f_X5_brings_240 (M : Mem) (x1 : Int32) (x2 : Int32) (x3 : Int32) (x4 : Int32) (x5 : Int32) (x6 : Int32) (x8 : Int32) (x9 : Int32) (x10 : Int32) : Option (Int32 × Mem) :=
  f_X5_brings_241 M x1 x2 x3 x4 x5 x6 x8 x9 x10 (0 : Int32)
set_option maxHeartbeats 4000000 in
set_option maxRecDepth 100000 in
theorem w_X5_brings_240 {p : Program} {l : Launch} {e : Env} {s : State} {m : MethodId} {args : Array Value} {below : List Frame} {meth : Method} {c : Code} {Z : Zt} {b : Nat} (C : Cx p s m args c cX5_brings RX5 Z b) (hml : c.maxLocals = 13) (hr : meth.sig.returnType = (some .int)) (hlk : meth.locks = false) {r' : Int32} {M' : Mem} {M : Mem} {x1 : Int32} {x2 : Int32} {x3 : Int32} {x4 : Int32} {x5 : Int32} {x6 : Int32} {x8 : Int32} {x9 : Int32} {x10 : Int32} (h : f_X5_brings_240 M x1 x2 x3 x4 x5 x6 x8 x9 x10 = some (r', M')) {H : Heap} {locs : List Loc} {ls : Array Slot} (hS : va_S (A0 b) s.heap H locs) (hW : Wd Z b M H) (hl : lv_has ls 13 [(0, .ref (b + 156)), (1, .int x1), (2, .int x2), (3, .int x3), (4, .int x4), (5, .int x5), (6, .int x6), (8, .int x8), (9, .int x9), (10, .int x10)]) : W p l e rm_X5_brings s m args below meth c H locs 0 0 (MQ below (Qn Z b (some (.int r')) M') args s 0 0 (A0 b)) (F0 m 240 ls []) := by
  unfold f_X5_brings_240 at h
  have hx := C.1
  have hb := C.2.1
  refine lv_iconst (v := (0 : Int32)) hx hb dX5_brings_240 (by decide) ?_
  exact w_X5_brings_241 C hml hr hlk h hS hW (lv_sub hl [0, 1, 2, 3, 4, 5, 6, 7, 8, 9] rfl)
def f_X5_brings_205 (K103 : Mem → Int32 → Int32 → Int32 → Int32 → Int32 → Int32 → Int32 → Int32 → Int32 → Int32 → Option (Int32 × Mem)) (M : Mem) (x1 : Int32) (x2 : Int32) (x3 : Int32) (x4 : Int32) (x5 : Int32) (x6 : Int32) (x8 : Int32) (x9 : Int32) (x11 : Int32) (xs0 : Int32) (xs1 : Int32) : Option (Int32 × Mem) :=
  K103 M x1 x2 x3 x4 x5 x6 x8 x9 (xs0 + xs1) (x11 + 1)
set_option maxHeartbeats 4000000 in
set_option maxRecDepth 100000 in
theorem w_X5_brings_205 {p : Program} {l : Launch} {e : Env} {s : State} {m : MethodId} {args : Array Value} {below : List Frame} {meth : Method} {c : Code} {Z : Zt} {b : Nat} (C : Cx p s m args c cX5_brings RX5 Z b) (hml : c.maxLocals = 13) (hr : meth.sig.returnType = (some .int)) (hlk : meth.locks = false) {r' : Int32} {M' : Mem} {K103 : Mem → Int32 → Int32 → Int32 → Int32 → Int32 → Int32 → Int32 → Int32 → Int32 → Int32 → Option (Int32 × Mem)} (hK103 : ∀ {M : Mem} {x1 : Int32} {x2 : Int32} {x3 : Int32} {x4 : Int32} {x5 : Int32} {x6 : Int32} {x8 : Int32} {x9 : Int32} {x10 : Int32} {x11 : Int32} (h : K103 M x1 x2 x3 x4 x5 x6 x8 x9 x10 x11 = some (r', M')) {H : Heap} {locs : List Loc} {ls : Array Slot} (hS : va_S (A0 b) s.heap H locs) (hW : Wd Z b M H) (hl : lv_has ls 13 [(0, .ref (b + 156)), (1, .int x1), (2, .int x2), (3, .int x3), (4, .int x4), (5, .int x5), (6, .int x6), (8, .int x8), (9, .int x9), (10, .int x10), (11, .int x11)]), W p l e rm_X5_brings s m args below meth c H locs 0 0 (MQ below (Qn Z b (some (.int r')) M') args s 0 0 (A0 b)) (F0 m 103 ls [])) {M : Mem} {x1 : Int32} {x2 : Int32} {x3 : Int32} {x4 : Int32} {x5 : Int32} {x6 : Int32} {x8 : Int32} {x9 : Int32} {x11 : Int32} {xs0 : Int32} {xs1 : Int32} (h : f_X5_brings_205 K103 M x1 x2 x3 x4 x5 x6 x8 x9 x11 xs0 xs1 = some (r', M')) {H : Heap} {locs : List Loc} {ls : Array Slot} (hS : va_S (A0 b) s.heap H locs) (hW : Wd Z b M H) (hl : lv_has ls 13 [(0, .ref (b + 156)), (1, .int x1), (2, .int x2), (3, .int x3), (4, .int x4), (5, .int x5), (6, .int x6), (8, .int x8), (9, .int x9), (11, .int x11)]) : W p l e rm_X5_brings s m args below meth c H locs 0 0 (MQ below (Qn Z b (some (.int r')) M') args s 0 0 (A0 b)) (F0 m 205 ls [.int xs1, .int xs0]) := by
  unfold f_X5_brings_205 at h
  have hx := C.1
  have hb := C.2.1
  refine lv_iadd hx hb dX5_brings_205 ?_
  refine lv_istore (lv' := [(10, .int (xs0 + xs1)), (0, .ref (b + 156)), (1, .int x1), (2, .int x2), (3, .int x3), (4, .int x4), (5, .int x5), (6, .int x6), (8, .int x8), (9, .int x9), (11, .int x11)]) hx hb dX5_brings_206 hl (by decide) rfl (fun ls hl => ?_)
  refine lv_iinc (v := x11 + 1) (lv' := [(11, .int (x11 + 1)), (10, .int (xs0 + xs1)), (0, .ref (b + 156)), (1, .int x1), (2, .int x2), (3, .int x3), (4, .int x4), (5, .int x5), (6, .int x6), (8, .int x8), (9, .int x9)]) hx hb dX5_brings_208 hl (k := 10) rfl rfl (by decide) rfl (fun ls hl => ?_)
  refine lv_goto (tgt := 103) hx hb dX5_brings_211 (by decide) ?_
  exact hK103 h hS hW (lv_sub hl [2, 3, 4, 5, 6, 7, 8, 9, 10, 1, 0] rfl)
def f_X5_brings_185 (K103 : Mem → Int32 → Int32 → Int32 → Int32 → Int32 → Int32 → Int32 → Int32 → Int32 → Int32 → Option (Int32 × Mem)) (M : Mem) (x1 : Int32) (x2 : Int32) (x3 : Int32) (x4 : Int32) (x5 : Int32) (x6 : Int32) (x8 : Int32) (x10 : Int32) (x11 : Int32) (xs0 : Int32) (xs1 : Int32) : Option (Int32 × Mem) :=
  bd2 (f_X5_isOf M x11 x3) (fun r194 M194 => if r194 = 0 then f_X5_brings_205 K103 M194 x1 x2 x3 x4 x5 x6 x8 (xs0 + xs1) x11 x10 (0 : Int32) else f_X5_brings_205 K103 M194 x1 x2 x3 x4 x5 x6 x8 (xs0 + xs1) x11 x10 (1 : Int32))
set_option maxHeartbeats 4000000 in
set_option maxRecDepth 100000 in
theorem w_X5_brings_185 {p : Program} {l : Launch} {e : Env} {s : State} {m : MethodId} {args : Array Value} {below : List Frame} {meth : Method} {c : Code} {Z : Zt} {b : Nat} (C : Cx p s m args c cX5_brings RX5 Z b) (hml : c.maxLocals = 13) (hr : meth.sig.returnType = (some .int)) (hlk : meth.locks = false) {r' : Int32} {M' : Mem} {K103 : Mem → Int32 → Int32 → Int32 → Int32 → Int32 → Int32 → Int32 → Int32 → Int32 → Int32 → Option (Int32 × Mem)} (hK103 : ∀ {M : Mem} {x1 : Int32} {x2 : Int32} {x3 : Int32} {x4 : Int32} {x5 : Int32} {x6 : Int32} {x8 : Int32} {x9 : Int32} {x10 : Int32} {x11 : Int32} (h : K103 M x1 x2 x3 x4 x5 x6 x8 x9 x10 x11 = some (r', M')) {H : Heap} {locs : List Loc} {ls : Array Slot} (hS : va_S (A0 b) s.heap H locs) (hW : Wd Z b M H) (hl : lv_has ls 13 [(0, .ref (b + 156)), (1, .int x1), (2, .int x2), (3, .int x3), (4, .int x4), (5, .int x5), (6, .int x6), (8, .int x8), (9, .int x9), (10, .int x10), (11, .int x11)]), W p l e rm_X5_brings s m args below meth c H locs 0 0 (MQ below (Qn Z b (some (.int r')) M') args s 0 0 (A0 b)) (F0 m 103 ls [])) {M : Mem} {x1 : Int32} {x2 : Int32} {x3 : Int32} {x4 : Int32} {x5 : Int32} {x6 : Int32} {x8 : Int32} {x10 : Int32} {x11 : Int32} {xs0 : Int32} {xs1 : Int32} (h : f_X5_brings_185 K103 M x1 x2 x3 x4 x5 x6 x8 x10 x11 xs0 xs1 = some (r', M')) {H : Heap} {locs : List Loc} {ls : Array Slot} (hS : va_S (A0 b) s.heap H locs) (hW : Wd Z b M H) (hl : lv_has ls 13 [(0, .ref (b + 156)), (1, .int x1), (2, .int x2), (3, .int x3), (4, .int x4), (5, .int x5), (6, .int x6), (8, .int x8), (10, .int x10), (11, .int x11)]) : W p l e rm_X5_brings s m args below meth c H locs 0 0 (MQ below (Qn Z b (some (.int r')) M') args s 0 0 (A0 b)) (F0 m 185 ls [.int xs1, .int xs0]) := by
  unfold f_X5_brings_185 at h
  have hx := C.1
  have hb := C.2.1
  refine lv_iadd hx hb dX5_brings_185 ?_
  refine lv_istore (lv' := [(9, .int (xs0 + xs1)), (0, .ref (b + 156)), (1, .int x1), (2, .int x2), (3, .int x3), (4, .int x4), (5, .int x5), (6, .int x6), (8, .int x8), (10, .int x10), (11, .int x11)]) hx hb dX5_brings_186 hl (by decide) rfl (fun ls hl => ?_)
  refine lv_iload hx hb dX5_brings_188 (lv_at hl 9 rfl) ?_
  refine lv_aload_n hx hb dX5_brings_190 rfl (lv_at hl 1 rfl) ?_
  refine lv_iload hx hb dX5_brings_191 (lv_at hl 10 rfl) ?_
  refine lv_iload_n hx hb dX5_brings_193 rfl (lv_at hl 4 rfl) ?_
  obtain ⟨r194, M194, hc194, h⟩ := bd2_e h
  refine kX5_100 C hml hl.1 (c_X5_isOf hc194) ⟨Nat.le_of_ble_eq_true rfl, Nat.le_of_ble_eq_true rfl⟩ ⟨Nat.le_of_ble_eq_true rfl, Nat.le_of_ble_eq_true rfl⟩ (Nat.le_of_ble_eq_true rfl) hS hW dX5_brings_194 (fun H locs hW hS => ?_)
  refine lv_if_eq (tgt := 204) hx hb dX5_brings_197 (by decide) (fun c197 => ?_) (fun c197 => ?_)
  · have h := (if_pos c197).symm.trans h
    refine lv_iconst (v := (0 : Int32)) hx hb dX5_brings_204 (by decide) ?_
    exact w_X5_brings_205 C hml hr hlk hK103 h hS hW (lv_sub hl [1, 2, 3, 4, 5, 6, 7, 8, 0, 10] rfl)
  · have h := (if_neg c197).symm.trans h
    refine lv_iconst (v := (1 : Int32)) hx hb dX5_brings_200 (by decide) ?_
    refine lv_goto (tgt := 205) hx hb dX5_brings_201 (by decide) ?_
    exact w_X5_brings_205 C hml hr hlk hK103 h hS hW (lv_sub hl [1, 2, 3, 4, 5, 6, 7, 8, 0, 10] rfl)
def f_X5_brings_165 (K103 : Mem → Int32 → Int32 → Int32 → Int32 → Int32 → Int32 → Int32 → Int32 → Int32 → Int32 → Option (Int32 × Mem)) (M : Mem) (x1 : Int32) (x2 : Int32) (x3 : Int32) (x4 : Int32) (x5 : Int32) (x6 : Int32) (x9 : Int32) (x10 : Int32) (x11 : Int32) (xs0 : Int32) (xs1 : Int32) : Option (Int32 × Mem) :=
  if x11 < 0 ∨ 60 ≤ x11.toNatClampNeg then none else if (M 37 x11.toNatClampNeg) = 0 then f_X5_brings_185 K103 M x1 x2 x3 x4 x5 x6 (xs0 &&& xs1) x10 x11 x9 (0 : Int32) else f_X5_brings_185 K103 M x1 x2 x3 x4 x5 x6 (xs0 &&& xs1) x10 x11 x9 (1 : Int32)
set_option maxHeartbeats 4000000 in
set_option maxRecDepth 100000 in
theorem w_X5_brings_165 {p : Program} {l : Launch} {e : Env} {s : State} {m : MethodId} {args : Array Value} {below : List Frame} {meth : Method} {c : Code} {Z : Zt} {b : Nat} (C : Cx p s m args c cX5_brings RX5 Z b) (hml : c.maxLocals = 13) (hr : meth.sig.returnType = (some .int)) (hlk : meth.locks = false) {r' : Int32} {M' : Mem} {K103 : Mem → Int32 → Int32 → Int32 → Int32 → Int32 → Int32 → Int32 → Int32 → Int32 → Int32 → Option (Int32 × Mem)} (hK103 : ∀ {M : Mem} {x1 : Int32} {x2 : Int32} {x3 : Int32} {x4 : Int32} {x5 : Int32} {x6 : Int32} {x8 : Int32} {x9 : Int32} {x10 : Int32} {x11 : Int32} (h : K103 M x1 x2 x3 x4 x5 x6 x8 x9 x10 x11 = some (r', M')) {H : Heap} {locs : List Loc} {ls : Array Slot} (hS : va_S (A0 b) s.heap H locs) (hW : Wd Z b M H) (hl : lv_has ls 13 [(0, .ref (b + 156)), (1, .int x1), (2, .int x2), (3, .int x3), (4, .int x4), (5, .int x5), (6, .int x6), (8, .int x8), (9, .int x9), (10, .int x10), (11, .int x11)]), W p l e rm_X5_brings s m args below meth c H locs 0 0 (MQ below (Qn Z b (some (.int r')) M') args s 0 0 (A0 b)) (F0 m 103 ls [])) {M : Mem} {x1 : Int32} {x2 : Int32} {x3 : Int32} {x4 : Int32} {x5 : Int32} {x6 : Int32} {x9 : Int32} {x10 : Int32} {x11 : Int32} {xs0 : Int32} {xs1 : Int32} (h : f_X5_brings_165 K103 M x1 x2 x3 x4 x5 x6 x9 x10 x11 xs0 xs1 = some (r', M')) {H : Heap} {locs : List Loc} {ls : Array Slot} (hS : va_S (A0 b) s.heap H locs) (hW : Wd Z b M H) (hl : lv_has ls 13 [(0, .ref (b + 156)), (1, .int x1), (2, .int x2), (3, .int x3), (4, .int x4), (5, .int x5), (6, .int x6), (9, .int x9), (10, .int x10), (11, .int x11)]) : W p l e rm_X5_brings s m args below meth c H locs 0 0 (MQ below (Qn Z b (some (.int r')) M') args s 0 0 (A0 b)) (F0 m 165 ls [.int xs1, .int xs0]) := by
  unfold f_X5_brings_165 at h
  have hx := C.1
  have hb := C.2.1
  refine lv_iand hx hb dX5_brings_165 ?_
  refine lv_istore (lv' := [(8, .int (xs0 &&& xs1)), (0, .ref (b + 156)), (1, .int x1), (2, .int x2), (3, .int x3), (4, .int x4), (5, .int x5), (6, .int x6), (9, .int x9), (10, .int x10), (11, .int x11)]) hx hb dX5_brings_166 hl (by decide) rfl (fun ls hl => ?_)
  refine lv_iload hx hb dX5_brings_168 (lv_at hl 8 rfl) ?_
  refine lv_aload_n hx hb dX5_brings_170 rfl (lv_at hl 1 rfl) ?_
  refine gX5_50 C hW dX5_brings_171 ?_
  refine lv_iload hx hb dX5_brings_174 (lv_at hl 10 rfl) ?_
  obtain ⟨g176, h⟩ := gd h
  refine ald_170 C hW g176 dX5_brings_176 ?_
  refine lv_if_eq (tgt := 184) hx hb dX5_brings_177 (by decide) (fun c177 => ?_) (fun c177 => ?_)
  · have h := (if_pos c177).symm.trans h
    refine lv_iconst (v := (0 : Int32)) hx hb dX5_brings_184 (by decide) ?_
    exact w_X5_brings_185 C hml hr hlk hK103 h hS hW (lv_sub hl [1, 2, 3, 4, 5, 6, 7, 0, 9, 10] rfl)
  · have h := (if_neg c177).symm.trans h
    refine lv_iconst (v := (1 : Int32)) hx hb dX5_brings_180 (by decide) ?_
    refine lv_goto (tgt := 185) hx hb dX5_brings_181 (by decide) ?_
    exact w_X5_brings_185 C hml hr hlk hK103 h hS hW (lv_sub hl [1, 2, 3, 4, 5, 6, 7, 0, 9, 10] rfl)
def f_X5_brings_160 (K103 : Mem → Int32 → Int32 → Int32 → Int32 → Int32 → Int32 → Int32 → Int32 → Int32 → Int32 → Option (Int32 × Mem)) (M : Mem) (x1 : Int32) (x2 : Int32) (x3 : Int32) (x4 : Int32) (x5 : Int32) (x6 : Int32) (x9 : Int32) (x10 : Int32) (x11 : Int32) (xs0 : Int32) : Option (Int32 × Mem) :=
  f_X5_brings_165 K103 M x1 x2 x3 x4 x5 x6 x9 x10 x11 xs0 (1 : Int32)
set_option maxHeartbeats 4000000 in
set_option maxRecDepth 100000 in
theorem w_X5_brings_160 {p : Program} {l : Launch} {e : Env} {s : State} {m : MethodId} {args : Array Value} {below : List Frame} {meth : Method} {c : Code} {Z : Zt} {b : Nat} (C : Cx p s m args c cX5_brings RX5 Z b) (hml : c.maxLocals = 13) (hr : meth.sig.returnType = (some .int)) (hlk : meth.locks = false) {r' : Int32} {M' : Mem} {K103 : Mem → Int32 → Int32 → Int32 → Int32 → Int32 → Int32 → Int32 → Int32 → Int32 → Int32 → Option (Int32 × Mem)} (hK103 : ∀ {M : Mem} {x1 : Int32} {x2 : Int32} {x3 : Int32} {x4 : Int32} {x5 : Int32} {x6 : Int32} {x8 : Int32} {x9 : Int32} {x10 : Int32} {x11 : Int32} (h : K103 M x1 x2 x3 x4 x5 x6 x8 x9 x10 x11 = some (r', M')) {H : Heap} {locs : List Loc} {ls : Array Slot} (hS : va_S (A0 b) s.heap H locs) (hW : Wd Z b M H) (hl : lv_has ls 13 [(0, .ref (b + 156)), (1, .int x1), (2, .int x2), (3, .int x3), (4, .int x4), (5, .int x5), (6, .int x6), (8, .int x8), (9, .int x9), (10, .int x10), (11, .int x11)]), W p l e rm_X5_brings s m args below meth c H locs 0 0 (MQ below (Qn Z b (some (.int r')) M') args s 0 0 (A0 b)) (F0 m 103 ls [])) {M : Mem} {x1 : Int32} {x2 : Int32} {x3 : Int32} {x4 : Int32} {x5 : Int32} {x6 : Int32} {x9 : Int32} {x10 : Int32} {x11 : Int32} {xs0 : Int32} (h : f_X5_brings_160 K103 M x1 x2 x3 x4 x5 x6 x9 x10 x11 xs0 = some (r', M')) {H : Heap} {locs : List Loc} {ls : Array Slot} (hS : va_S (A0 b) s.heap H locs) (hW : Wd Z b M H) (hl : lv_has ls 13 [(0, .ref (b + 156)), (1, .int x1), (2, .int x2), (3, .int x3), (4, .int x4), (5, .int x5), (6, .int x6), (9, .int x9), (10, .int x10), (11, .int x11)]) : W p l e rm_X5_brings s m args below meth c H locs 0 0 (MQ below (Qn Z b (some (.int r')) M') args s 0 0 (A0 b)) (F0 m 160 ls [.int xs0]) := by
  unfold f_X5_brings_160 at h
  have hx := C.1
  have hb := C.2.1
  refine lv_iconst (v := (1 : Int32)) hx hb dX5_brings_160 (by decide) ?_
  refine lv_goto (tgt := 165) hx hb dX5_brings_161 (by decide) ?_
  exact w_X5_brings_165 C hml hr hlk hK103 h hS hW (lv_sub hl [0, 1, 2, 3, 4, 5, 6, 7, 8, 9] rfl)
def f_X5_brings_103B (K103 : Mem → Int32 → Int32 → Int32 → Int32 → Int32 → Int32 → Int32 → Int32 → Int32 → Int32 → Option (Int32 × Mem)) (M : Mem) (x1 : Int32) (x2 : Int32) (x3 : Int32) (x4 : Int32) (x5 : Int32) (x6 : Int32) (x8 : Int32) (x9 : Int32) (x10 : Int32) (x11 : Int32) : Option (Int32 × Mem) :=
  if (60 : Int32) ≤ x11 then bd2 (f_X5_mayMake M x1 x3 x5) (fun r219 M219 => if r219 = 0 then f_X5_brings_240 M219 x1 x2 x3 x4 x5 x6 x8 x9 x10 else bd2 (f_X5_mayAll M219 x1 x3 x5) (fun r230 M230 => if r230 = 0 then f_X5_brings_240 M230 x1 x2 x3 x4 x5 x6 x8 x9 x10 else f_X5_brings_241 M230 x1 x2 x3 x4 x5 x6 x8 x9 x10 (1 : Int32))) else bd2 (f_X5_isOf M x11 x2) (fun r120 M120 => if x11 < 0 ∨ 60 ≤ x11.toNatClampNeg then none else if x11 < 0 ∨ 60 ≤ x11.toNatClampNeg then none else if ((mu M120 37 x11.toNatClampNeg (r120 &&& 1)) 37 x11.toNatClampNeg) = 0 then f_X5_brings_160 K103 (mu M120 37 x11.toNatClampNeg (r120 &&& 1)) x1 x2 x3 x4 x5 x6 x9 x10 x11 x8 else bd2 (f_X5_digits (mu M120 37 x11.toNatClampNeg (r120 &&& 1)) x3) (fun r137 M137 => if x11 < 0 ∨ 60 ≤ x11.toNatClampNeg then none else bd2 (f_X5_digits M137 (M137 21 x11.toNatClampNeg)) (fun r147 M147 => bd2 (f_X5_digits M147 x2) (fun r152 M152 => if (5 : Int32) ≤ ((r137 + r147) - r152) then f_X5_brings_165 K103 M152 x1 x2 x3 x4 x5 x6 x9 x10 x11 x8 (0 : Int32) else f_X5_brings_160 K103 M152 x1 x2 x3 x4 x5 x6 x9 x10 x11 x8))))
def f_X5_brings_103 : Nat → Mem → Int32 → Int32 → Int32 → Int32 → Int32 → Int32 → Int32 → Int32 → Int32 → Int32 → Option (Int32 × Mem)
  | 0 => fun _ _ _ _ _ _ _ _ _ _ _ => none
  | n + 1 => f_X5_brings_103B (f_X5_brings_103 n)
set_option maxHeartbeats 4000000 in
set_option maxRecDepth 100000 in
theorem w_X5_brings_103 {p : Program} {l : Launch} {e : Env} {s : State} {m : MethodId} {args : Array Value} {below : List Frame} {meth : Method} {c : Code} {Z : Zt} {b : Nat} (C : Cx p s m args c cX5_brings RX5 Z b) (hml : c.maxLocals = 13) (hr : meth.sig.returnType = (some .int)) (hlk : meth.locks = false) {r' : Int32} {M' : Mem} : ∀ (n : Nat) {M : Mem} {x1 : Int32} {x2 : Int32} {x3 : Int32} {x4 : Int32} {x5 : Int32} {x6 : Int32} {x8 : Int32} {x9 : Int32} {x10 : Int32} {x11 : Int32} (h : f_X5_brings_103 n M x1 x2 x3 x4 x5 x6 x8 x9 x10 x11 = some (r', M')) {H : Heap} {locs : List Loc} {ls : Array Slot} (hS : va_S (A0 b) s.heap H locs) (hW : Wd Z b M H) (hl : lv_has ls 13 [(0, .ref (b + 156)), (1, .int x1), (2, .int x2), (3, .int x3), (4, .int x4), (5, .int x5), (6, .int x6), (8, .int x8), (9, .int x9), (10, .int x10), (11, .int x11)]), W p l e rm_X5_brings s m args below meth c H locs 0 0 (MQ below (Qn Z b (some (.int r')) M') args s 0 0 (A0 b)) (F0 m 103 ls []) := by
  intro n
  induction n with
  | zero =>
    intro M x1 x2 x3 x4 x5 x6 x8 x9 x10 x11 h
    cases h
  | succ n ih =>
    intro M x1 x2 x3 x4 x5 x6 x8 x9 x10 x11 h H locs ls hS hW hl
    have h : f_X5_brings_103B (f_X5_brings_103 n) M x1 x2 x3 x4 x5 x6 x8 x9 x10 x11 = some (r', M') := h
    unfold f_X5_brings_103B at h
    have hK103 := @ih
    have hx := C.1
    have hb := C.2.1
    refine lv_iload hx hb dX5_brings_103 (lv_at hl 10 rfl) ?_
    refine lv_bipush (v := (60 : Int32)) hx hb dX5_brings_105 (by decide) ?_
    refine lv_icmp_ge (tgt := 214) hx hb dX5_brings_107 (by decide) (fun c107 => ?_) (fun c107 => ?_)
    · have h := (if_pos c107).symm.trans h
      refine lv_aload_n hx hb dX5_brings_214 rfl (lv_at hl 0 rfl) ?_
      refine lv_iload_n hx hb dX5_brings_215 rfl (lv_at hl 1 rfl) ?_
      refine lv_iload_n hx hb dX5_brings_216 rfl (lv_at hl 3 rfl) ?_
      refine lv_iload hx hb dX5_brings_217 (lv_at hl 5 rfl) ?_
      obtain ⟨r219, M219, hc219, h⟩ := bd2_e h
      refine kX5_112 C hml hl.1 (c_X5_mayMake hc219) ⟨Nat.le_of_ble_eq_true rfl, Nat.le_of_ble_eq_true rfl⟩ ⟨Nat.le_of_ble_eq_true rfl, Nat.le_of_ble_eq_true rfl⟩ (Nat.le_of_ble_eq_true rfl) hS hW dX5_brings_219 (fun H locs hW hS => ?_)
      refine lv_if_eq (tgt := 240) hx hb dX5_brings_222 (by decide) (fun c222 => ?_) (fun c222 => ?_)
      · have h := (if_pos c222).symm.trans h
        exact w_X5_brings_240 C hml hr hlk h hS hW (lv_sub hl [0, 1, 2, 3, 4, 5, 6, 7, 8, 9] rfl)
      · have h := (if_neg c222).symm.trans h
        refine lv_aload_n hx hb dX5_brings_225 rfl (lv_at hl 0 rfl) ?_
        refine lv_iload_n hx hb dX5_brings_226 rfl (lv_at hl 1 rfl) ?_
        refine lv_iload_n hx hb dX5_brings_227 rfl (lv_at hl 3 rfl) ?_
        refine lv_iload hx hb dX5_brings_228 (lv_at hl 5 rfl) ?_
        obtain ⟨r230, M230, hc230, h⟩ := bd2_e h
        refine kX5_137 C hml hl.1 (c_X5_mayAll hc230) ⟨Nat.le_of_ble_eq_true rfl, Nat.le_of_ble_eq_true rfl⟩ ⟨Nat.le_of_ble_eq_true rfl, Nat.le_of_ble_eq_true rfl⟩ (Nat.le_of_ble_eq_true rfl) hS hW dX5_brings_230 (fun H locs hW hS => ?_)
        refine lv_if_eq (tgt := 240) hx hb dX5_brings_233 (by decide) (fun c233 => ?_) (fun c233 => ?_)
        · have h := (if_pos c233).symm.trans h
          exact w_X5_brings_240 C hml hr hlk h hS hW (lv_sub hl [0, 1, 2, 3, 4, 5, 6, 7, 8, 9] rfl)
        · have h := (if_neg c233).symm.trans h
          refine lv_iconst (v := (1 : Int32)) hx hb dX5_brings_236 (by decide) ?_
          refine lv_goto (tgt := 241) hx hb dX5_brings_237 (by decide) ?_
          exact w_X5_brings_241 C hml hr hlk h hS hW (lv_sub hl [0, 1, 2, 3, 4, 5, 6, 7, 8, 9] rfl)
    · have h := (if_neg c107).symm.trans h
      refine lv_aload_n hx hb dX5_brings_110 rfl (lv_at hl 0 rfl) ?_
      refine gX5_50 C hW dX5_brings_111 ?_
      refine lv_iload hx hb dX5_brings_114 (lv_at hl 10 rfl) ?_
      refine lv_aload_n hx hb dX5_brings_116 rfl (lv_at hl 0 rfl) ?_
      refine lv_iload hx hb dX5_brings_117 (lv_at hl 10 rfl) ?_
      refine lv_iload_n hx hb dX5_brings_119 rfl (lv_at hl 2 rfl) ?_
      obtain ⟨r120, M120, hc120, h⟩ := bd2_e h
      refine kX5_100 C hml hl.1 (c_X5_isOf hc120) ⟨Nat.le_of_ble_eq_true rfl, Nat.le_of_ble_eq_true rfl⟩ ⟨Nat.le_of_ble_eq_true rfl, Nat.le_of_ble_eq_true rfl⟩ (Nat.le_of_ble_eq_true rfl) hS hW dX5_brings_120 (fun H locs hW hS => ?_)
      obtain ⟨g123, h⟩ := gd h
      refine ast_170 C hS hW g123 dX5_brings_123 (fun H locs hW hS => ?_)
      refine lv_iload hx hb dX5_brings_124 (lv_at hl 7 rfl) ?_
      refine lv_aload_n hx hb dX5_brings_126 rfl (lv_at hl 0 rfl) ?_
      refine gX5_50 C hW dX5_brings_127 ?_
      refine lv_iload hx hb dX5_brings_130 (lv_at hl 10 rfl) ?_
      obtain ⟨g132, h⟩ := gd h
      refine ald_170 C hW g132 dX5_brings_132 ?_
      refine lv_if_eq (tgt := 160) hx hb dX5_brings_133 (by decide) (fun c133 => ?_) (fun c133 => ?_)
      · have h := (if_pos c133).symm.trans h
        exact w_X5_brings_160 C hml hr hlk hK103 h hS hW (lv_sub hl [0, 1, 2, 3, 4, 5, 6, 8, 9, 10] rfl)
      · have h := (if_neg c133).symm.trans h
        refine lv_iload_n hx hb dX5_brings_136 rfl (lv_at hl 3 rfl) ?_
        obtain ⟨r137, M137, hc137, h⟩ := bd2_e h
        refine kX5_134 C hml hl.1 (c_X5_digits hc137) ⟨Nat.le_of_ble_eq_true rfl, Nat.le_of_ble_eq_true rfl⟩ ⟨Nat.le_of_ble_eq_true rfl, Nat.le_of_ble_eq_true rfl⟩ (Nat.le_of_ble_eq_true rfl) hS hW dX5_brings_137 (fun H locs hW hS => ?_)
        refine lv_aload_n hx hb dX5_brings_140 rfl (lv_at hl 0 rfl) ?_
        refine gX5_13 C hW dX5_brings_141 ?_
        refine lv_iload hx hb dX5_brings_144 (lv_at hl 10 rfl) ?_
        obtain ⟨g146, h⟩ := gd h
        refine ald_158 C hW g146 dX5_brings_146 ?_
        obtain ⟨r147, M147, hc147, h⟩ := bd2_e h
        refine kX5_134 C hml hl.1 (c_X5_digits hc147) ⟨Nat.le_of_ble_eq_true rfl, Nat.le_of_ble_eq_true rfl⟩ ⟨Nat.le_of_ble_eq_true rfl, Nat.le_of_ble_eq_true rfl⟩ (Nat.le_of_ble_eq_true rfl) hS hW dX5_brings_147 (fun H locs hW hS => ?_)
        refine lv_iadd hx hb dX5_brings_150 ?_
        refine lv_iload_n hx hb dX5_brings_151 rfl (lv_at hl 2 rfl) ?_
        obtain ⟨r152, M152, hc152, h⟩ := bd2_e h
        refine kX5_134 C hml hl.1 (c_X5_digits hc152) ⟨Nat.le_of_ble_eq_true rfl, Nat.le_of_ble_eq_true rfl⟩ ⟨Nat.le_of_ble_eq_true rfl, Nat.le_of_ble_eq_true rfl⟩ (Nat.le_of_ble_eq_true rfl) hS hW dX5_brings_152 (fun H locs hW hS => ?_)
        refine lv_isub hx hb dX5_brings_155 ?_
        refine lv_iconst (v := (5 : Int32)) hx hb dX5_brings_156 (by decide) ?_
        refine lv_icmp_ge (tgt := 164) hx hb dX5_brings_157 (by decide) (fun c157 => ?_) (fun c157 => ?_)
        · have h := (if_pos c157).symm.trans h
          refine lv_iconst (v := (0 : Int32)) hx hb dX5_brings_164 (by decide) ?_
          exact w_X5_brings_165 C hml hr hlk hK103 h hS hW (lv_sub hl [0, 1, 2, 3, 4, 5, 6, 8, 9, 10] rfl)
        · have h := (if_neg c157).symm.trans h
          exact w_X5_brings_160 C hml hr hlk hK103 h hS hW (lv_sub hl [0, 1, 2, 3, 4, 5, 6, 8, 9, 10] rfl)
def f_X5_brings_92 (M : Mem) (x1 : Int32) (x2 : Int32) (x3 : Int32) (x4 : Int32) (x5 : Int32) (x6 : Int32) (xs0 : Int32) : Option (Int32 × Mem) :=
  f_X5_brings_103 64 M x1 x2 x3 x4 x5 x6 xs0 (0 : Int32) (0 : Int32) (0 : Int32)
set_option maxHeartbeats 4000000 in
set_option maxRecDepth 100000 in
theorem w_X5_brings_92 {p : Program} {l : Launch} {e : Env} {s : State} {m : MethodId} {args : Array Value} {below : List Frame} {meth : Method} {c : Code} {Z : Zt} {b : Nat} (C : Cx p s m args c cX5_brings RX5 Z b) (hml : c.maxLocals = 13) (hr : meth.sig.returnType = (some .int)) (hlk : meth.locks = false) {r' : Int32} {M' : Mem} {M : Mem} {x1 : Int32} {x2 : Int32} {x3 : Int32} {x4 : Int32} {x5 : Int32} {x6 : Int32} {xs0 : Int32} (h : f_X5_brings_92 M x1 x2 x3 x4 x5 x6 xs0 = some (r', M')) {H : Heap} {locs : List Loc} {ls : Array Slot} (hS : va_S (A0 b) s.heap H locs) (hW : Wd Z b M H) (hl : lv_has ls 13 [(0, .ref (b + 156)), (1, .int x1), (2, .int x2), (3, .int x3), (4, .int x4), (5, .int x5), (6, .int x6)]) : W p l e rm_X5_brings s m args below meth c H locs 0 0 (MQ below (Qn Z b (some (.int r')) M') args s 0 0 (A0 b)) (F0 m 92 ls [.int xs0]) := by
  unfold f_X5_brings_92 at h
  have hx := C.1
  have hb := C.2.1
  refine lv_istore (lv' := [(8, .int xs0), (0, .ref (b + 156)), (1, .int x1), (2, .int x2), (3, .int x3), (4, .int x4), (5, .int x5), (6, .int x6)]) hx hb dX5_brings_92 hl (by decide) rfl (fun ls hl => ?_)
  refine lv_iconst (v := (0 : Int32)) hx hb dX5_brings_94 (by decide) ?_
  refine lv_istore (lv' := [(9, .int (0 : Int32)), (8, .int xs0), (0, .ref (b + 156)), (1, .int x1), (2, .int x2), (3, .int x3), (4, .int x4), (5, .int x5), (6, .int x6)]) hx hb dX5_brings_95 hl (by decide) rfl (fun ls hl => ?_)
  refine lv_iconst (v := (0 : Int32)) hx hb dX5_brings_97 (by decide) ?_
  refine lv_istore (lv' := [(10, .int (0 : Int32)), (9, .int (0 : Int32)), (8, .int xs0), (0, .ref (b + 156)), (1, .int x1), (2, .int x2), (3, .int x3), (4, .int x4), (5, .int x5), (6, .int x6)]) hx hb dX5_brings_98 hl (by decide) rfl (fun ls hl => ?_)
  refine lv_iconst (v := (0 : Int32)) hx hb dX5_brings_100 (by decide) ?_
  refine lv_istore (lv' := [(11, .int (0 : Int32)), (10, .int (0 : Int32)), (9, .int (0 : Int32)), (8, .int xs0), (0, .ref (b + 156)), (1, .int x1), (2, .int x2), (3, .int x3), (4, .int x4), (5, .int x5), (6, .int x6)]) hx hb dX5_brings_101 hl (by decide) rfl (fun ls hl => ?_)
  exact w_X5_brings_103 C hml hr hlk 64 h hS hW (lv_sub hl [4, 5, 6, 7, 8, 9, 10, 3, 2, 1, 0] rfl)
def f_X5_brings_91 (M : Mem) (x1 : Int32) (x2 : Int32) (x3 : Int32) (x4 : Int32) (x5 : Int32) (x6 : Int32) : Option (Int32 × Mem) :=
  f_X5_brings_92 M x1 x2 x3 x4 x5 x6 (0 : Int32)
set_option maxHeartbeats 4000000 in
set_option maxRecDepth 100000 in
theorem w_X5_brings_91 {p : Program} {l : Launch} {e : Env} {s : State} {m : MethodId} {args : Array Value} {below : List Frame} {meth : Method} {c : Code} {Z : Zt} {b : Nat} (C : Cx p s m args c cX5_brings RX5 Z b) (hml : c.maxLocals = 13) (hr : meth.sig.returnType = (some .int)) (hlk : meth.locks = false) {r' : Int32} {M' : Mem} {M : Mem} {x1 : Int32} {x2 : Int32} {x3 : Int32} {x4 : Int32} {x5 : Int32} {x6 : Int32} (h : f_X5_brings_91 M x1 x2 x3 x4 x5 x6 = some (r', M')) {H : Heap} {locs : List Loc} {ls : Array Slot} (hS : va_S (A0 b) s.heap H locs) (hW : Wd Z b M H) (hl : lv_has ls 13 [(0, .ref (b + 156)), (1, .int x1), (2, .int x2), (3, .int x3), (4, .int x4), (5, .int x5), (6, .int x6)]) : W p l e rm_X5_brings s m args below meth c H locs 0 0 (MQ below (Qn Z b (some (.int r')) M') args s 0 0 (A0 b)) (F0 m 91 ls []) := by
  unfold f_X5_brings_91 at h
  have hx := C.1
  have hb := C.2.1
  refine lv_iconst (v := (0 : Int32)) hx hb dX5_brings_91 (by decide) ?_
  exact w_X5_brings_92 C hml hr hlk h hS hW (lv_sub hl [0, 1, 2, 3, 4, 5, 6] rfl)
def f_X5_brings_57 (M : Mem) (x1 : Int32) (x2 : Int32) (x3 : Int32) (x4 : Int32) (x5 : Int32) (x6 : Int32) (x7 : Int32) (xs1 : Int32) : Option (Int32 × Mem) :=
  if x7 = 0 then some ((0 : Int32), mu M 39 0 xs1) else bd2 (f_X5_place (mu M 39 0 xs1) x2) (fun r69 M69 => if r69 < 0 then f_X5_brings_91 M69 x1 x2 x3 x4 x5 x6 else bd2 (f_X5_kinds M69 (x3 / (10 : Int32))) (fun r80 M80 => if r80 = (2 : Int32) then f_X5_brings_92 M80 x1 x2 x3 x4 x5 x6 (1 : Int32) else f_X5_brings_91 M80 x1 x2 x3 x4 x5 x6))
set_option maxHeartbeats 4000000 in
set_option maxRecDepth 100000 in
theorem w_X5_brings_57 {p : Program} {l : Launch} {e : Env} {s : State} {m : MethodId} {args : Array Value} {below : List Frame} {meth : Method} {c : Code} {Z : Zt} {b : Nat} (C : Cx p s m args c cX5_brings RX5 Z b) (hml : c.maxLocals = 13) (hr : meth.sig.returnType = (some .int)) (hlk : meth.locks = false) {r' : Int32} {M' : Mem} {M : Mem} {x1 : Int32} {x2 : Int32} {x3 : Int32} {x4 : Int32} {x5 : Int32} {x6 : Int32} {x7 : Int32} {xs1 : Int32} (h : f_X5_brings_57 M x1 x2 x3 x4 x5 x6 x7 xs1 = some (r', M')) {H : Heap} {locs : List Loc} {ls : Array Slot} (hS : va_S (A0 b) s.heap H locs) (hW : Wd Z b M H) (hl : lv_has ls 13 [(0, .ref (b + 156)), (1, .int x1), (2, .int x2), (3, .int x3), (4, .int x4), (5, .int x5), (6, .int x6), (7, .int x7)]) : W p l e rm_X5_brings s m args below meth c H locs 0 0 (MQ below (Qn Z b (some (.int r')) M') args s 0 0 (A0 b)) (F0 m 57 ls [.int xs1, .ref (b + 156)]) := by
  unfold f_X5_brings_57 at h
  have hx := C.1
  have hb := C.2.1
  refine pX5_56 C hS hW dX5_brings_57 (fun H locs hW hS => ?_)
  refine lv_iload hx hb dX5_brings_60 (lv_at hl 7 rfl) ?_
  refine lv_if_ne (tgt := 67) hx hb dX5_brings_62 (by decide) (fun c62 => ?_) (fun c62 => ?_)
  · have h := (if_neg c62).symm.trans h
    refine lv_aload_n hx hb dX5_brings_67 rfl (lv_at hl 0 rfl) ?_
    refine lv_iload_n hx hb dX5_brings_68 rfl (lv_at hl 2 rfl) ?_
    obtain ⟨r69, M69, hc69, h⟩ := bd2_e h
    refine kX5_74 C hml hl.1 (c_X5_place hc69) ⟨Nat.le_of_ble_eq_true rfl, Nat.le_of_ble_eq_true rfl⟩ ⟨Nat.le_of_ble_eq_true rfl, Nat.le_of_ble_eq_true rfl⟩ (Nat.le_of_ble_eq_true rfl) hS hW dX5_brings_69 (fun H locs hW hS => ?_)
    refine lv_if_lt (tgt := 91) hx hb dX5_brings_72 (by decide) (fun c72 => ?_) (fun c72 => ?_)
    · have h := (if_pos c72).symm.trans h
      exact w_X5_brings_91 C hml hr hlk h hS hW (lv_sub hl [0, 1, 2, 3, 4, 5, 6] rfl)
    · have h := (if_neg c72).symm.trans h
      refine lv_aload_n hx hb dX5_brings_75 rfl (lv_at hl 0 rfl) ?_
      refine lv_iload_n hx hb dX5_brings_76 rfl (lv_at hl 3 rfl) ?_
      refine lv_bipush (v := (10 : Int32)) hx hb dX5_brings_77 (by decide) ?_
      refine lv_idiv hx hb dX5_brings_79 (by decide) ?_
      obtain ⟨r80, M80, hc80, h⟩ := bd2_e h
      refine kX5_109 C hml hl.1 (c_X5_kinds hc80) ⟨Nat.le_of_ble_eq_true rfl, Nat.le_of_ble_eq_true rfl⟩ ⟨Nat.le_of_ble_eq_true rfl, Nat.le_of_ble_eq_true rfl⟩ (Nat.le_of_ble_eq_true rfl) hS hW dX5_brings_80 (fun H locs hW hS => ?_)
      refine lv_iconst (v := (2 : Int32)) hx hb dX5_brings_83 (by decide) ?_
      refine lv_icmp_ne (tgt := 91) hx hb dX5_brings_84 (by decide) (fun c84 => ?_) (fun c84 => ?_)
      · have h := (if_neg c84).symm.trans h
        exact w_X5_brings_91 C hml hr hlk h hS hW (lv_sub hl [0, 1, 2, 3, 4, 5, 6] rfl)
      · have h := (if_pos c84).symm.trans h
        refine lv_iconst (v := (1 : Int32)) hx hb dX5_brings_87 (by decide) ?_
        refine lv_goto (tgt := 92) hx hb dX5_brings_88 (by decide) ?_
        exact w_X5_brings_92 C hml hr hlk h hS hW (lv_sub hl [0, 1, 2, 3, 4, 5, 6] rfl)
  · have h := (if_pos c62).symm.trans h
    refine lv_iconst (v := (0 : Int32)) hx hb dX5_brings_65 (by decide) ?_
    cases h
    exact ret_i C hr hlk hS hW dX5_brings_66
def f_X5_brings_44 (M : Mem) (x1 : Int32) (x2 : Int32) (x3 : Int32) (x4 : Int32) (x5 : Int32) (x6 : Int32) (xs0 : Int32) : Option (Int32 × Mem) :=
  if xs0 = 0 then f_X5_brings_57 M x1 x2 x3 x4 x5 x6 xs0 (1 : Int32) else f_X5_brings_57 M x1 x2 x3 x4 x5 x6 xs0 (0 : Int32)
set_option maxHeartbeats 4000000 in
set_option maxRecDepth 100000 in
theorem w_X5_brings_44 {p : Program} {l : Launch} {e : Env} {s : State} {m : MethodId} {args : Array Value} {below : List Frame} {meth : Method} {c : Code} {Z : Zt} {b : Nat} (C : Cx p s m args c cX5_brings RX5 Z b) (hml : c.maxLocals = 13) (hr : meth.sig.returnType = (some .int)) (hlk : meth.locks = false) {r' : Int32} {M' : Mem} {M : Mem} {x1 : Int32} {x2 : Int32} {x3 : Int32} {x4 : Int32} {x5 : Int32} {x6 : Int32} {xs0 : Int32} (h : f_X5_brings_44 M x1 x2 x3 x4 x5 x6 xs0 = some (r', M')) {H : Heap} {locs : List Loc} {ls : Array Slot} (hS : va_S (A0 b) s.heap H locs) (hW : Wd Z b M H) (hl : lv_has ls 13 [(0, .ref (b + 156)), (1, .int x1), (2, .int x2), (3, .int x3), (4, .int x4), (5, .int x5), (6, .int x6)]) : W p l e rm_X5_brings s m args below meth c H locs 0 0 (MQ below (Qn Z b (some (.int r')) M') args s 0 0 (A0 b)) (F0 m 44 ls [.int xs0]) := by
  unfold f_X5_brings_44 at h
  have hx := C.1
  have hb := C.2.1
  refine lv_istore (lv' := [(7, .int xs0), (0, .ref (b + 156)), (1, .int x1), (2, .int x2), (3, .int x3), (4, .int x4), (5, .int x5), (6, .int x6)]) hx hb dX5_brings_44 hl (by decide) rfl (fun ls hl => ?_)
  refine lv_aload_n hx hb dX5_brings_46 rfl (lv_at hl 1 rfl) ?_
  refine lv_iload hx hb dX5_brings_47 (lv_at hl 0 rfl) ?_
  refine lv_if_eq (tgt := 56) hx hb dX5_brings_49 (by decide) (fun c49 => ?_) (fun c49 => ?_)
  · have h := (if_pos c49).symm.trans h
    refine lv_iconst (v := (1 : Int32)) hx hb dX5_brings_56 (by decide) ?_
    exact w_X5_brings_57 C hml hr hlk h hS hW (lv_sub hl [1, 2, 3, 4, 5, 6, 7, 0] rfl)
  · have h := (if_neg c49).symm.trans h
    refine lv_iconst (v := (0 : Int32)) hx hb dX5_brings_52 (by decide) ?_
    refine lv_goto (tgt := 57) hx hb dX5_brings_53 (by decide) ?_
    exact w_X5_brings_57 C hml hr hlk h hS hW (lv_sub hl [1, 2, 3, 4, 5, 6, 7, 0] rfl)
def f_X5_brings_43 (M : Mem) (x1 : Int32) (x2 : Int32) (x3 : Int32) (x4 : Int32) (x5 : Int32) (x6 : Int32) : Option (Int32 × Mem) :=
  f_X5_brings_44 M x1 x2 x3 x4 x5 x6 (0 : Int32)
set_option maxHeartbeats 4000000 in
set_option maxRecDepth 100000 in
theorem w_X5_brings_43 {p : Program} {l : Launch} {e : Env} {s : State} {m : MethodId} {args : Array Value} {below : List Frame} {meth : Method} {c : Code} {Z : Zt} {b : Nat} (C : Cx p s m args c cX5_brings RX5 Z b) (hml : c.maxLocals = 13) (hr : meth.sig.returnType = (some .int)) (hlk : meth.locks = false) {r' : Int32} {M' : Mem} {M : Mem} {x1 : Int32} {x2 : Int32} {x3 : Int32} {x4 : Int32} {x5 : Int32} {x6 : Int32} (h : f_X5_brings_43 M x1 x2 x3 x4 x5 x6 = some (r', M')) {H : Heap} {locs : List Loc} {ls : Array Slot} (hS : va_S (A0 b) s.heap H locs) (hW : Wd Z b M H) (hl : lv_has ls 13 [(0, .ref (b + 156)), (1, .int x1), (2, .int x2), (3, .int x3), (4, .int x4), (5, .int x5), (6, .int x6)]) : W p l e rm_X5_brings s m args below meth c H locs 0 0 (MQ below (Qn Z b (some (.int r')) M') args s 0 0 (A0 b)) (F0 m 43 ls []) := by
  unfold f_X5_brings_43 at h
  have hx := C.1
  have hb := C.2.1
  refine lv_iconst (v := (0 : Int32)) hx hb dX5_brings_43 (by decide) ?_
  exact w_X5_brings_44 C hml hr hlk h hS hW (lv_sub hl [0, 1, 2, 3, 4, 5, 6] rfl)
def f_X5_brings_0 (M : Mem) (x1 : Int32) (x2 : Int32) (x3 : Int32) (x4 : Int32) (x5 : Int32) (x6 : Int32) : Option (Int32 × Mem) :=
  bd2 (f_X5_isRight M x1 x2 x5) (fun r5 M5 => if r5 = 0 then f_X5_brings_43 M5 x1 x2 x3 x4 x5 x6 else bd2 (f_X5_isName M5 x3) (fun r12 M12 => if r12 = 0 then f_X5_brings_43 M12 x1 x2 x3 x4 x5 x6 else if x2 = x3 then f_X5_brings_43 M12 x1 x2 x3 x4 x5 x6 else bd2 (f_X5_isAbove M12 x2 x3) (fun r25 M25 => if r25 = 0 then bd2 (f_X5_isAbove M25 x3 x2) (fun r33 M33 => if r33 = 0 then f_X5_brings_44 M33 x1 x2 x3 x4 x5 x6 (1 : Int32) else f_X5_brings_43 M33 x1 x2 x3 x4 x5 x6) else f_X5_brings_43 M25 x1 x2 x3 x4 x5 x6)))
set_option maxHeartbeats 4000000 in
set_option maxRecDepth 100000 in
theorem w_X5_brings_0 {p : Program} {l : Launch} {e : Env} {s : State} {m : MethodId} {args : Array Value} {below : List Frame} {meth : Method} {c : Code} {Z : Zt} {b : Nat} (C : Cx p s m args c cX5_brings RX5 Z b) (hml : c.maxLocals = 13) (hr : meth.sig.returnType = (some .int)) (hlk : meth.locks = false) {r' : Int32} {M' : Mem} {M : Mem} {x1 : Int32} {x2 : Int32} {x3 : Int32} {x4 : Int32} {x5 : Int32} {x6 : Int32} (h : f_X5_brings_0 M x1 x2 x3 x4 x5 x6 = some (r', M')) {H : Heap} {locs : List Loc} {ls : Array Slot} (hS : va_S (A0 b) s.heap H locs) (hW : Wd Z b M H) (hl : lv_has ls 13 [(0, .ref (b + 156)), (1, .int x1), (2, .int x2), (3, .int x3), (4, .int x4), (5, .int x5), (6, .int x6)]) : W p l e rm_X5_brings s m args below meth c H locs 0 0 (MQ below (Qn Z b (some (.int r')) M') args s 0 0 (A0 b)) (F0 m 0 ls []) := by
  unfold f_X5_brings_0 at h
  have hx := C.1
  have hb := C.2.1
  refine lv_aload_n hx hb dX5_brings_0 rfl (lv_at hl 0 rfl) ?_
  refine lv_iload_n hx hb dX5_brings_1 rfl (lv_at hl 1 rfl) ?_
  refine lv_iload_n hx hb dX5_brings_2 rfl (lv_at hl 2 rfl) ?_
  refine lv_iload hx hb dX5_brings_3 (lv_at hl 5 rfl) ?_
  obtain ⟨r5, M5, hc5, h⟩ := bd2_e h
  refine kX5_106 C hml hl.1 (c_X5_isRight hc5) ⟨Nat.le_of_ble_eq_true rfl, Nat.le_of_ble_eq_true rfl⟩ ⟨Nat.le_of_ble_eq_true rfl, Nat.le_of_ble_eq_true rfl⟩ (Nat.le_of_ble_eq_true rfl) hS hW dX5_brings_5 (fun H locs hW hS => ?_)
  refine lv_if_eq (tgt := 43) hx hb dX5_brings_8 (by decide) (fun c8 => ?_) (fun c8 => ?_)
  · have h := (if_pos c8).symm.trans h
    exact w_X5_brings_43 C hml hr hlk h hS hW (lv_sub hl [0, 1, 2, 3, 4, 5, 6] rfl)
  · have h := (if_neg c8).symm.trans h
    refine lv_iload_n hx hb dX5_brings_11 rfl (lv_at hl 3 rfl) ?_
    obtain ⟨r12, M12, hc12, h⟩ := bd2_e h
    refine kX5_71 C hml hl.1 (c_X5_isName hc12) ⟨Nat.le_of_ble_eq_true rfl, Nat.le_of_ble_eq_true rfl⟩ ⟨Nat.le_of_ble_eq_true rfl, Nat.le_of_ble_eq_true rfl⟩ (Nat.le_of_ble_eq_true rfl) hS hW dX5_brings_12 (fun H locs hW hS => ?_)
    refine lv_if_eq (tgt := 43) hx hb dX5_brings_15 (by decide) (fun c15 => ?_) (fun c15 => ?_)
    · have h := (if_pos c15).symm.trans h
      exact w_X5_brings_43 C hml hr hlk h hS hW (lv_sub hl [0, 1, 2, 3, 4, 5, 6] rfl)
    · have h := (if_neg c15).symm.trans h
      refine lv_iload_n hx hb dX5_brings_18 rfl (lv_at hl 2 rfl) ?_
      refine lv_iload_n hx hb dX5_brings_19 rfl (lv_at hl 3 rfl) ?_
      refine lv_icmp_eq (tgt := 43) hx hb dX5_brings_20 (by decide) (fun c20 => ?_) (fun c20 => ?_)
      · have h := (if_pos c20).symm.trans h
        exact w_X5_brings_43 C hml hr hlk h hS hW (lv_sub hl [0, 1, 2, 3, 4, 5, 6] rfl)
      · have h := (if_neg c20).symm.trans h
        refine lv_iload_n hx hb dX5_brings_23 rfl (lv_at hl 2 rfl) ?_
        refine lv_iload_n hx hb dX5_brings_24 rfl (lv_at hl 3 rfl) ?_
        obtain ⟨r25, M25, hc25, h⟩ := bd2_e h
        refine kX5_78 C hml hl.1 (c_X5_isAbove hc25) ⟨Nat.le_of_ble_eq_true rfl, Nat.le_of_ble_eq_true rfl⟩ ⟨Nat.le_of_ble_eq_true rfl, Nat.le_of_ble_eq_true rfl⟩ (Nat.le_of_ble_eq_true rfl) hS hW dX5_brings_25 (fun H locs hW hS => ?_)
        refine lv_if_ne (tgt := 43) hx hb dX5_brings_28 (by decide) (fun c28 => ?_) (fun c28 => ?_)
        · have h := (if_neg c28).symm.trans h
          exact w_X5_brings_43 C hml hr hlk h hS hW (lv_sub hl [0, 1, 2, 3, 4, 5, 6] rfl)
        · have h := (if_pos c28).symm.trans h
          refine lv_iload_n hx hb dX5_brings_31 rfl (lv_at hl 3 rfl) ?_
          refine lv_iload_n hx hb dX5_brings_32 rfl (lv_at hl 2 rfl) ?_
          obtain ⟨r33, M33, hc33, h⟩ := bd2_e h
          refine kX5_78 C hml hl.1 (c_X5_isAbove hc33) ⟨Nat.le_of_ble_eq_true rfl, Nat.le_of_ble_eq_true rfl⟩ ⟨Nat.le_of_ble_eq_true rfl, Nat.le_of_ble_eq_true rfl⟩ (Nat.le_of_ble_eq_true rfl) hS hW dX5_brings_33 (fun H locs hW hS => ?_)
          refine lv_if_ne (tgt := 43) hx hb dX5_brings_36 (by decide) (fun c36 => ?_) (fun c36 => ?_)
          · have h := (if_neg c36).symm.trans h
            exact w_X5_brings_43 C hml hr hlk h hS hW (lv_sub hl [0, 1, 2, 3, 4, 5, 6] rfl)
          · have h := (if_pos c36).symm.trans h
            refine lv_iconst (v := (1 : Int32)) hx hb dX5_brings_39 (by decide) ?_
            refine lv_goto (tgt := 44) hx hb dX5_brings_40 (by decide) ?_
            exact w_X5_brings_44 C hml hr hlk h hS hW (lv_sub hl [0, 1, 2, 3, 4, 5, 6] rfl)
def f_X5_brings (M : Mem) (x1 : Int32) (x2 : Int32) (x3 : Int32) (x4 : Int32) (x5 : Int32) (x6 : Int32) : Option (Int32 × Mem) := f_X5_brings_0 M x1 x2 x3 x4 x5 x6
set_option maxHeartbeats 4000000 in
set_option maxRecDepth 100000 in
theorem c_X5_brings {l : Launch} {Z : Zt} {b : Nat} {M : Mem} {x1 : Int32} {x2 : Int32} {x3 : Int32} {x4 : Int32} {x5 : Int32} {x6 : Int32} {r' : Int32} {M' : Mem} (h : f_X5_brings M x1 x2 x3 x4 x5 x6 = some (r', M')) : Ct l yX5_brings cX5_brings 13 (some .int) rm_X5_brings Z b [.ref (b + 156), .int x1, .int x2, .int x3, .int x4, .int x5, .int x6] M (some (.int r')) M' := by
  refine Met.ofW (cc := cX5_brings) (maxL := 13) (ret := (some .int)) (by decide) rfl ?_
  intro p e s m args below meth c s₁ B hml hv
  obtain ⟨rfl, hE, hW⟩ := hv
  have C : Cx p s m [.ref (b + 156), .int x1, .int x2, .int x3, .int x4, .int x5, .int x6].toArray c cX5_brings RX5 Z b := ⟨B.exec, B.bytes, findClass_of_methodNamed B.named, fun w hw => atoms_spec (ws := Cond.code yX5_brings cX5_brings 13 (some .int) :: wsA) B.pre w (List.mem_cons_of_mem _ hw), hE⟩
  have hl := lv_entry [.ref (b + 156), .int x1, .int x2, .int x3, .int x4, .int x5, .int x6] (n := 13) (Nat.le_of_ble_eq_true rfl)
  rw [lg_entry_eq]
  generalize (lg_sl [.ref (b + 156), .int x1, .int x2, .int x3, .int x4, .int x5, .int x6] ++ List.replicate (13 - (lg_sl [.ref (b + 156), .int x1, .int x2, .int x3, .int x4, .int x5, .int x6]).length) Slot.unset).toArray = ls at hl ⊢
  have hl : lv_has ls 13 [(0, .ref (b + 156)), (1, .int x1), (2, .int x2), (3, .int x3), (4, .int x4), (5, .int x5), (6, .int x6)] := hl
  exact w_X5_brings_0 C hml B.returns B.notSynchronized h va_S.rf hW hl
def f_X5_copy_0 (M : Mem) (x1 : Int32) (x2 : Int32) (x3 : Int32) (x4 : Int32) (x5 : Int32) : Option (Int32 × Mem) :=
  bd2 (f_X5_brings M x1 x2 x3 x4 x5 (0 : Int32)) (fun r9 M9 => some (r9, M9))
set_option maxHeartbeats 4000000 in
set_option maxRecDepth 100000 in
theorem w_X5_copy_0 {p : Program} {l : Launch} {e : Env} {s : State} {m : MethodId} {args : Array Value} {below : List Frame} {meth : Method} {c : Code} {Z : Zt} {b : Nat} (C : Cx p s m args c cX5_copy RX5 Z b) (hml : c.maxLocals = 6) (hr : meth.sig.returnType = (some .int)) (hlk : meth.locks = false) {r' : Int32} {M' : Mem} {M : Mem} {x1 : Int32} {x2 : Int32} {x3 : Int32} {x4 : Int32} {x5 : Int32} (h : f_X5_copy_0 M x1 x2 x3 x4 x5 = some (r', M')) {H : Heap} {locs : List Loc} {ls : Array Slot} (hS : va_S (A0 b) s.heap H locs) (hW : Wd Z b M H) (hl : lv_has ls 6 [(0, .ref (b + 156)), (1, .int x1), (2, .int x2), (3, .int x3), (4, .int x4), (5, .int x5)]) : W p l e rm_X5_copy s m args below meth c H locs 0 0 (MQ below (Qn Z b (some (.int r')) M') args s 0 0 (A0 b)) (F0 m 0 ls []) := by
  unfold f_X5_copy_0 at h
  have hx := C.1
  have hb := C.2.1
  refine lv_aload_n hx hb dX5_copy_0 rfl (lv_at hl 0 rfl) ?_
  refine lv_iload_n hx hb dX5_copy_1 rfl (lv_at hl 1 rfl) ?_
  refine lv_iload_n hx hb dX5_copy_2 rfl (lv_at hl 2 rfl) ?_
  refine lv_iload_n hx hb dX5_copy_3 rfl (lv_at hl 3 rfl) ?_
  refine lv_iload hx hb dX5_copy_4 (lv_at hl 4 rfl) ?_
  refine lv_iload hx hb dX5_copy_6 (lv_at hl 5 rfl) ?_
  refine lv_iconst (v := (0 : Int32)) hx hb dX5_copy_8 (by decide) ?_
  obtain ⟨r9, M9, hc9, h⟩ := bd2_e h
  refine kX5_151 C hml hl.1 (c_X5_brings hc9) ⟨Nat.le_of_ble_eq_true rfl, Nat.le_of_ble_eq_true rfl⟩ ⟨Nat.le_of_ble_eq_true rfl, Nat.le_of_ble_eq_true rfl⟩ (Nat.le_of_ble_eq_true rfl) hS hW dX5_copy_9 (fun H locs hW hS => ?_)
  cases h
  exact ret_i C hr hlk hS hW dX5_copy_12
def f_X5_copy (M : Mem) (x1 : Int32) (x2 : Int32) (x3 : Int32) (x4 : Int32) (x5 : Int32) : Option (Int32 × Mem) := f_X5_copy_0 M x1 x2 x3 x4 x5
set_option maxHeartbeats 4000000 in
set_option maxRecDepth 100000 in
theorem c_X5_copy {l : Launch} {Z : Zt} {b : Nat} {M : Mem} {x1 : Int32} {x2 : Int32} {x3 : Int32} {x4 : Int32} {x5 : Int32} {r' : Int32} {M' : Mem} (h : f_X5_copy M x1 x2 x3 x4 x5 = some (r', M')) : Ct l yX5_copy cX5_copy 6 (some .int) rm_X5_copy Z b [.ref (b + 156), .int x1, .int x2, .int x3, .int x4, .int x5] M (some (.int r')) M' := by
  refine Met.ofW (cc := cX5_copy) (maxL := 6) (ret := (some .int)) (by decide) rfl ?_
  intro p e s m args below meth c s₁ B hml hv
  obtain ⟨rfl, hE, hW⟩ := hv
  have C : Cx p s m [.ref (b + 156), .int x1, .int x2, .int x3, .int x4, .int x5].toArray c cX5_copy RX5 Z b := ⟨B.exec, B.bytes, findClass_of_methodNamed B.named, fun w hw => atoms_spec (ws := Cond.code yX5_copy cX5_copy 6 (some .int) :: wsA) B.pre w (List.mem_cons_of_mem _ hw), hE⟩
  have hl := lv_entry [.ref (b + 156), .int x1, .int x2, .int x3, .int x4, .int x5] (n := 6) (Nat.le_of_ble_eq_true rfl)
  rw [lg_entry_eq]
  generalize (lg_sl [.ref (b + 156), .int x1, .int x2, .int x3, .int x4, .int x5] ++ List.replicate (6 - (lg_sl [.ref (b + 156), .int x1, .int x2, .int x3, .int x4, .int x5]).length) Slot.unset).toArray = ls at hl ⊢
  have hl : lv_has ls 6 [(0, .ref (b + 156)), (1, .int x1), (2, .int x2), (3, .int x3), (4, .int x4), (5, .int x5)] := hl
  exact w_X5_copy_0 C hml B.returns B.notSynchronized h va_S.rf hW hl
def f_X5_move_0 (M : Mem) (x1 : Int32) (x2 : Int32) (x3 : Int32) (x4 : Int32) (x5 : Int32) : Option (Int32 × Mem) :=
  bd2 (f_X5_brings M x1 x2 x3 x4 x5 (1 : Int32)) (fun r9 M9 => some (r9, M9))
set_option maxHeartbeats 4000000 in
set_option maxRecDepth 100000 in
theorem w_X5_move_0 {p : Program} {l : Launch} {e : Env} {s : State} {m : MethodId} {args : Array Value} {below : List Frame} {meth : Method} {c : Code} {Z : Zt} {b : Nat} (C : Cx p s m args c cX5_move RX5 Z b) (hml : c.maxLocals = 6) (hr : meth.sig.returnType = (some .int)) (hlk : meth.locks = false) {r' : Int32} {M' : Mem} {M : Mem} {x1 : Int32} {x2 : Int32} {x3 : Int32} {x4 : Int32} {x5 : Int32} (h : f_X5_move_0 M x1 x2 x3 x4 x5 = some (r', M')) {H : Heap} {locs : List Loc} {ls : Array Slot} (hS : va_S (A0 b) s.heap H locs) (hW : Wd Z b M H) (hl : lv_has ls 6 [(0, .ref (b + 156)), (1, .int x1), (2, .int x2), (3, .int x3), (4, .int x4), (5, .int x5)]) : W p l e rm_X5_move s m args below meth c H locs 0 0 (MQ below (Qn Z b (some (.int r')) M') args s 0 0 (A0 b)) (F0 m 0 ls []) := by
  unfold f_X5_move_0 at h
  have hx := C.1
  have hb := C.2.1
  refine lv_aload_n hx hb dX5_move_0 rfl (lv_at hl 0 rfl) ?_
  refine lv_iload_n hx hb dX5_move_1 rfl (lv_at hl 1 rfl) ?_
  refine lv_iload_n hx hb dX5_move_2 rfl (lv_at hl 2 rfl) ?_
  refine lv_iload_n hx hb dX5_move_3 rfl (lv_at hl 3 rfl) ?_
  refine lv_iload hx hb dX5_move_4 (lv_at hl 4 rfl) ?_
  refine lv_iload hx hb dX5_move_6 (lv_at hl 5 rfl) ?_
  refine lv_iconst (v := (1 : Int32)) hx hb dX5_move_8 (by decide) ?_
  obtain ⟨r9, M9, hc9, h⟩ := bd2_e h
  refine kX5_151 C hml hl.1 (c_X5_brings hc9) ⟨Nat.le_of_ble_eq_true rfl, Nat.le_of_ble_eq_true rfl⟩ ⟨Nat.le_of_ble_eq_true rfl, Nat.le_of_ble_eq_true rfl⟩ (Nat.le_of_ble_eq_true rfl) hS hW dX5_move_9 (fun H locs hW hS => ?_)
  cases h
  exact ret_i C hr hlk hS hW dX5_move_12
def f_X5_move (M : Mem) (x1 : Int32) (x2 : Int32) (x3 : Int32) (x4 : Int32) (x5 : Int32) : Option (Int32 × Mem) := f_X5_move_0 M x1 x2 x3 x4 x5
set_option maxHeartbeats 4000000 in
set_option maxRecDepth 100000 in
theorem c_X5_move {l : Launch} {Z : Zt} {b : Nat} {M : Mem} {x1 : Int32} {x2 : Int32} {x3 : Int32} {x4 : Int32} {x5 : Int32} {r' : Int32} {M' : Mem} (h : f_X5_move M x1 x2 x3 x4 x5 = some (r', M')) : Ct l yX5_move cX5_move 6 (some .int) rm_X5_move Z b [.ref (b + 156), .int x1, .int x2, .int x3, .int x4, .int x5] M (some (.int r')) M' := by
  refine Met.ofW (cc := cX5_move) (maxL := 6) (ret := (some .int)) (by decide) rfl ?_
  intro p e s m args below meth c s₁ B hml hv
  obtain ⟨rfl, hE, hW⟩ := hv
  have C : Cx p s m [.ref (b + 156), .int x1, .int x2, .int x3, .int x4, .int x5].toArray c cX5_move RX5 Z b := ⟨B.exec, B.bytes, findClass_of_methodNamed B.named, fun w hw => atoms_spec (ws := Cond.code yX5_move cX5_move 6 (some .int) :: wsA) B.pre w (List.mem_cons_of_mem _ hw), hE⟩
  have hl := lv_entry [.ref (b + 156), .int x1, .int x2, .int x3, .int x4, .int x5] (n := 6) (Nat.le_of_ble_eq_true rfl)
  rw [lg_entry_eq]
  generalize (lg_sl [.ref (b + 156), .int x1, .int x2, .int x3, .int x4, .int x5] ++ List.replicate (6 - (lg_sl [.ref (b + 156), .int x1, .int x2, .int x3, .int x4, .int x5]).length) Slot.unset).toArray = ls at hl ⊢
  have hl : lv_has ls 6 [(0, .ref (b + 156)), (1, .int x1), (2, .int x2), (3, .int x3), (4, .int x4), (5, .int x5)] := hl
  exact w_X5_move_0 C hml B.returns B.notSynchronized h va_S.rf hW hl
def f_X5_asks_13 (M : Mem) (xs1 : Int32) : Option (Int32 × Mem) :=
  if ((mu M 39 0 xs1) 39 0) = 0 then some ((1 : Int32), mu M 39 0 xs1) else some ((0 : Int32), mu M 39 0 xs1)
set_option maxHeartbeats 4000000 in
set_option maxRecDepth 100000 in
theorem w_X5_asks_13 {p : Program} {l : Launch} {e : Env} {s : State} {m : MethodId} {args : Array Value} {below : List Frame} {meth : Method} {c : Code} {Z : Zt} {b : Nat} (C : Cx p s m args c cX5_asks RX5 Z b) (hml : c.maxLocals = 2) (hr : meth.sig.returnType = (some .boolean)) (hlk : meth.locks = false) {r' : Int32} {M' : Mem} {M : Mem} {xs1 : Int32} (h : f_X5_asks_13 M xs1 = some (r', M')) {H : Heap} {locs : List Loc} {ls : Array Slot} (hS : va_S (A0 b) s.heap H locs) (hW : Wd Z b M H) (hl : lv_has ls 2 [(0, .ref (b + 156))]) : W p l e rm_X5_asks s m args below meth c H locs 0 0 (MQ below (Qn Z b (some (.int r')) M') args s 0 0 (A0 b)) (F0 m 13 ls [.int xs1, .ref (b + 156)]) := by
  unfold f_X5_asks_13 at h
  have hx := C.1
  have hb := C.2.1
  refine pX5_56 C hS hW dX5_asks_13 (fun H locs hW hS => ?_)
  refine lv_aload_n hx hb dX5_asks_16 rfl (lv_at hl 0 rfl) ?_
  refine gX5_56 C hW dX5_asks_17 ?_
  refine lv_if_ne (tgt := 27) hx hb dX5_asks_20 (by decide) (fun c20 => ?_) (fun c20 => ?_)
  · have h := (if_neg c20).symm.trans h
    refine lv_iconst (v := (0 : Int32)) hx hb dX5_asks_27 (by decide) ?_
    cases h
    exact ret_z C hr hlk (by decide) hS hW dX5_asks_28
  · have h := (if_pos c20).symm.trans h
    refine lv_iconst (v := (1 : Int32)) hx hb dX5_asks_23 (by decide) ?_
    refine lv_goto (tgt := 28) hx hb dX5_asks_24 (by decide) ?_
    cases h
    exact ret_z C hr hlk (by decide) hS hW dX5_asks_28
def f_X5_asks_0 (M : Mem) (x1 : Int32) : Option (Int32 × Mem) :=
  bd2 (f_X5_isPath M x1) (fun r2 M2 => if r2 = 0 then f_X5_asks_13 M2 (1 : Int32) else f_X5_asks_13 M2 (0 : Int32))
set_option maxHeartbeats 4000000 in
set_option maxRecDepth 100000 in
theorem w_X5_asks_0 {p : Program} {l : Launch} {e : Env} {s : State} {m : MethodId} {args : Array Value} {below : List Frame} {meth : Method} {c : Code} {Z : Zt} {b : Nat} (C : Cx p s m args c cX5_asks RX5 Z b) (hml : c.maxLocals = 2) (hr : meth.sig.returnType = (some .boolean)) (hlk : meth.locks = false) {r' : Int32} {M' : Mem} {M : Mem} {x1 : Int32} (h : f_X5_asks_0 M x1 = some (r', M')) {H : Heap} {locs : List Loc} {ls : Array Slot} (hS : va_S (A0 b) s.heap H locs) (hW : Wd Z b M H) (hl : lv_has ls 2 [(0, .ref (b + 156)), (1, .int x1)]) : W p l e rm_X5_asks s m args below meth c H locs 0 0 (MQ below (Qn Z b (some (.int r')) M') args s 0 0 (A0 b)) (F0 m 0 ls []) := by
  unfold f_X5_asks_0 at h
  have hx := C.1
  have hb := C.2.1
  refine lv_aload_n hx hb dX5_asks_0 rfl (lv_at hl 0 rfl) ?_
  refine lv_iload_n hx hb dX5_asks_1 rfl (lv_at hl 1 rfl) ?_
  obtain ⟨r2, M2, hc2, h⟩ := bd2_e h
  refine kX5_64 C hml hl.1 (c_X5_isPath hc2) ⟨Nat.le_of_ble_eq_true rfl, Nat.le_of_ble_eq_true rfl⟩ ⟨Nat.le_of_ble_eq_true rfl, Nat.le_of_ble_eq_true rfl⟩ (Nat.le_of_ble_eq_true rfl) hS hW dX5_asks_2 (fun H locs hW hS => ?_)
  refine lv_if_eq (tgt := 12) hx hb dX5_asks_5 (by decide) (fun c5 => ?_) (fun c5 => ?_)
  · have h := (if_pos c5).symm.trans h
    refine lv_iconst (v := (1 : Int32)) hx hb dX5_asks_12 (by decide) ?_
    exact w_X5_asks_13 C hml hr hlk h hS hW (lv_sub hl [0] rfl)
  · have h := (if_neg c5).symm.trans h
    refine lv_iconst (v := (0 : Int32)) hx hb dX5_asks_8 (by decide) ?_
    refine lv_goto (tgt := 13) hx hb dX5_asks_9 (by decide) ?_
    exact w_X5_asks_13 C hml hr hlk h hS hW (lv_sub hl [0] rfl)
def f_X5_asks (M : Mem) (x1 : Int32) : Option (Int32 × Mem) := f_X5_asks_0 M x1
set_option maxHeartbeats 4000000 in
set_option maxRecDepth 100000 in
theorem c_X5_asks {l : Launch} {Z : Zt} {b : Nat} {M : Mem} {x1 : Int32} {r' : Int32} {M' : Mem} (h : f_X5_asks M x1 = some (r', M')) : Ct l yX5_asks cX5_asks 2 (some .boolean) rm_X5_asks Z b [.ref (b + 156), .int x1] M (some (.int r')) M' := by
  refine Met.ofW (cc := cX5_asks) (maxL := 2) (ret := (some .boolean)) (by decide) rfl ?_
  intro p e s m args below meth c s₁ B hml hv
  obtain ⟨rfl, hE, hW⟩ := hv
  have C : Cx p s m [.ref (b + 156), .int x1].toArray c cX5_asks RX5 Z b := ⟨B.exec, B.bytes, findClass_of_methodNamed B.named, fun w hw => atoms_spec (ws := Cond.code yX5_asks cX5_asks 2 (some .boolean) :: wsA) B.pre w (List.mem_cons_of_mem _ hw), hE⟩
  have hl := lv_entry [.ref (b + 156), .int x1] (n := 2) (Nat.le_of_ble_eq_true rfl)
  rw [lg_entry_eq]
  generalize (lg_sl [.ref (b + 156), .int x1] ++ List.replicate (2 - (lg_sl [.ref (b + 156), .int x1]).length) Slot.unset).toArray = ls at hl ⊢
  have hl : lv_has ls 2 [(0, .ref (b + 156)), (1, .int x1)] := hl
  exact w_X5_asks_0 C hml B.returns B.notSynchronized h va_S.rf hW hl
def f_X5_kindOf_0 (M : Mem) (x1 : Int32) : Option (Int32 × Mem) :=
  bd2 (f_X5_asks M x1) (fun r2 M2 => if r2 = 0 then some ((0 : Int32), M2) else bd2 (f_X5_kinds M2 x1) (fun r10 M10 => some (r10, M10)))
set_option maxHeartbeats 4000000 in
set_option maxRecDepth 100000 in
theorem w_X5_kindOf_0 {p : Program} {l : Launch} {e : Env} {s : State} {m : MethodId} {args : Array Value} {below : List Frame} {meth : Method} {c : Code} {Z : Zt} {b : Nat} (C : Cx p s m args c cX5_kindOf RX5 Z b) (hml : c.maxLocals = 2) (hr : meth.sig.returnType = (some .int)) (hlk : meth.locks = false) {r' : Int32} {M' : Mem} {M : Mem} {x1 : Int32} (h : f_X5_kindOf_0 M x1 = some (r', M')) {H : Heap} {locs : List Loc} {ls : Array Slot} (hS : va_S (A0 b) s.heap H locs) (hW : Wd Z b M H) (hl : lv_has ls 2 [(0, .ref (b + 156)), (1, .int x1)]) : W p l e rm_X5_kindOf s m args below meth c H locs 0 0 (MQ below (Qn Z b (some (.int r')) M') args s 0 0 (A0 b)) (F0 m 0 ls []) := by
  unfold f_X5_kindOf_0 at h
  have hx := C.1
  have hb := C.2.1
  refine lv_aload_n hx hb dX5_kindOf_0 rfl (lv_at hl 0 rfl) ?_
  refine lv_iload_n hx hb dX5_kindOf_1 rfl (lv_at hl 1 rfl) ?_
  obtain ⟨r2, M2, hc2, h⟩ := bd2_e h
  refine kX5_155 C hml hl.1 (c_X5_asks hc2) ⟨Nat.le_of_ble_eq_true rfl, Nat.le_of_ble_eq_true rfl⟩ ⟨Nat.le_of_ble_eq_true rfl, Nat.le_of_ble_eq_true rfl⟩ (Nat.le_of_ble_eq_true rfl) hS hW dX5_kindOf_2 (fun H locs hW hS => ?_)
  refine lv_if_eq (tgt := 16) hx hb dX5_kindOf_5 (by decide) (fun c5 => ?_) (fun c5 => ?_)
  · have h := (if_pos c5).symm.trans h
    refine lv_iconst (v := (0 : Int32)) hx hb dX5_kindOf_16 (by decide) ?_
    cases h
    exact ret_i C hr hlk hS hW dX5_kindOf_17
  · have h := (if_neg c5).symm.trans h
    refine lv_aload_n hx hb dX5_kindOf_8 rfl (lv_at hl 0 rfl) ?_
    refine lv_iload_n hx hb dX5_kindOf_9 rfl (lv_at hl 1 rfl) ?_
    obtain ⟨r10, M10, hc10, h⟩ := bd2_e h
    refine kX5_109 C hml hl.1 (c_X5_kinds hc10) ⟨Nat.le_of_ble_eq_true rfl, Nat.le_of_ble_eq_true rfl⟩ ⟨Nat.le_of_ble_eq_true rfl, Nat.le_of_ble_eq_true rfl⟩ (Nat.le_of_ble_eq_true rfl) hS hW dX5_kindOf_10 (fun H locs hW hS => ?_)
    refine lv_goto (tgt := 17) hx hb dX5_kindOf_13 (by decide) ?_
    cases h
    exact ret_i C hr hlk hS hW dX5_kindOf_17
def f_X5_kindOf (M : Mem) (x1 : Int32) : Option (Int32 × Mem) := f_X5_kindOf_0 M x1
set_option maxHeartbeats 4000000 in
set_option maxRecDepth 100000 in
theorem c_X5_kindOf {l : Launch} {Z : Zt} {b : Nat} {M : Mem} {x1 : Int32} {r' : Int32} {M' : Mem} (h : f_X5_kindOf M x1 = some (r', M')) : Ct l yX5_kindOf cX5_kindOf 2 (some .int) rm_X5_kindOf Z b [.ref (b + 156), .int x1] M (some (.int r')) M' := by
  refine Met.ofW (cc := cX5_kindOf) (maxL := 2) (ret := (some .int)) (by decide) rfl ?_
  intro p e s m args below meth c s₁ B hml hv
  obtain ⟨rfl, hE, hW⟩ := hv
  have C : Cx p s m [.ref (b + 156), .int x1].toArray c cX5_kindOf RX5 Z b := ⟨B.exec, B.bytes, findClass_of_methodNamed B.named, fun w hw => atoms_spec (ws := Cond.code yX5_kindOf cX5_kindOf 2 (some .int) :: wsA) B.pre w (List.mem_cons_of_mem _ hw), hE⟩
  have hl := lv_entry [.ref (b + 156), .int x1] (n := 2) (Nat.le_of_ble_eq_true rfl)
  rw [lg_entry_eq]
  generalize (lg_sl [.ref (b + 156), .int x1] ++ List.replicate (2 - (lg_sl [.ref (b + 156), .int x1]).length) Slot.unset).toArray = ls at hl ⊢
  have hl : lv_has ls 2 [(0, .ref (b + 156)), (1, .int x1)] := hl
  exact w_X5_kindOf_0 C hml B.returns B.notSynchronized h va_S.rf hW hl
def f_X5_content_0 (M : Mem) (x1 : Int32) : Option (Int32 × Mem) :=
  bd2 (f_X5_asks M x1) (fun r2 M2 => if r2 = 0 then some ((0 : Int32), M2) else bd2 (f_X5_kinds M2 x1) (fun r14 M14 => if r14 = (1 : Int32) then bd2 (f_X5_place M14 x1) (fun r27 M27 => if r27 < 0 ∨ 60 ≤ r27.toNatClampNeg then none else some (M27 23 r27.toNatClampNeg, M27)) else some ((-1 : Int32), M14)))
set_option maxHeartbeats 4000000 in
set_option maxRecDepth 100000 in
theorem w_X5_content_0 {p : Program} {l : Launch} {e : Env} {s : State} {m : MethodId} {args : Array Value} {below : List Frame} {meth : Method} {c : Code} {Z : Zt} {b : Nat} (C : Cx p s m args c cX5_content RX5 Z b) (hml : c.maxLocals = 2) (hr : meth.sig.returnType = (some .int)) (hlk : meth.locks = false) {r' : Int32} {M' : Mem} {M : Mem} {x1 : Int32} (h : f_X5_content_0 M x1 = some (r', M')) {H : Heap} {locs : List Loc} {ls : Array Slot} (hS : va_S (A0 b) s.heap H locs) (hW : Wd Z b M H) (hl : lv_has ls 2 [(0, .ref (b + 156)), (1, .int x1)]) : W p l e rm_X5_content s m args below meth c H locs 0 0 (MQ below (Qn Z b (some (.int r')) M') args s 0 0 (A0 b)) (F0 m 0 ls []) := by
  unfold f_X5_content_0 at h
  have hx := C.1
  have hb := C.2.1
  refine lv_aload_n hx hb dX5_content_0 rfl (lv_at hl 0 rfl) ?_
  refine lv_iload_n hx hb dX5_content_1 rfl (lv_at hl 1 rfl) ?_
  obtain ⟨r2, M2, hc2, h⟩ := bd2_e h
  refine kX5_155 C hml hl.1 (c_X5_asks hc2) ⟨Nat.le_of_ble_eq_true rfl, Nat.le_of_ble_eq_true rfl⟩ ⟨Nat.le_of_ble_eq_true rfl, Nat.le_of_ble_eq_true rfl⟩ (Nat.le_of_ble_eq_true rfl) hS hW dX5_content_2 (fun H locs hW hS => ?_)
  refine lv_if_ne (tgt := 12) hx hb dX5_content_5 (by decide) (fun c5 => ?_) (fun c5 => ?_)
  · have h := (if_neg c5).symm.trans h
    refine lv_aload_n hx hb dX5_content_12 rfl (lv_at hl 0 rfl) ?_
    refine lv_iload_n hx hb dX5_content_13 rfl (lv_at hl 1 rfl) ?_
    obtain ⟨r14, M14, hc14, h⟩ := bd2_e h
    refine kX5_109 C hml hl.1 (c_X5_kinds hc14) ⟨Nat.le_of_ble_eq_true rfl, Nat.le_of_ble_eq_true rfl⟩ ⟨Nat.le_of_ble_eq_true rfl, Nat.le_of_ble_eq_true rfl⟩ (Nat.le_of_ble_eq_true rfl) hS hW dX5_content_14 (fun H locs hW hS => ?_)
    refine lv_iconst (v := (1 : Int32)) hx hb dX5_content_17 (by decide) ?_
    refine lv_icmp_ne (tgt := 34) hx hb dX5_content_18 (by decide) (fun c18 => ?_) (fun c18 => ?_)
    · have h := (if_neg c18).symm.trans h
      refine lv_iconst (v := (-1 : Int32)) hx hb dX5_content_34 (by decide) ?_
      cases h
      exact ret_i C hr hlk hS hW dX5_content_35
    · have h := (if_pos c18).symm.trans h
      refine lv_aload_n hx hb dX5_content_21 rfl (lv_at hl 0 rfl) ?_
      refine gX5_20 C hW dX5_content_22 ?_
      refine lv_aload_n hx hb dX5_content_25 rfl (lv_at hl 0 rfl) ?_
      refine lv_iload_n hx hb dX5_content_26 rfl (lv_at hl 1 rfl) ?_
      obtain ⟨r27, M27, hc27, h⟩ := bd2_e h
      refine kX5_74 C hml hl.1 (c_X5_place hc27) ⟨Nat.le_of_ble_eq_true rfl, Nat.le_of_ble_eq_true rfl⟩ ⟨Nat.le_of_ble_eq_true rfl, Nat.le_of_ble_eq_true rfl⟩ (Nat.le_of_ble_eq_true rfl) hS hW dX5_content_27 (fun H locs hW hS => ?_)
      obtain ⟨g30, h⟩ := gd h
      refine ald_160 C hW g30 dX5_content_30 ?_
      refine lv_goto (tgt := 35) hx hb dX5_content_31 (by decide) ?_
      cases h
      exact ret_i C hr hlk hS hW dX5_content_35
  · have h := (if_pos c5).symm.trans h
    refine lv_iconst (v := (0 : Int32)) hx hb dX5_content_8 (by decide) ?_
    refine lv_goto (tgt := 35) hx hb dX5_content_9 (by decide) ?_
    cases h
    exact ret_i C hr hlk hS hW dX5_content_35
def f_X5_content (M : Mem) (x1 : Int32) : Option (Int32 × Mem) := f_X5_content_0 M x1
set_option maxHeartbeats 4000000 in
set_option maxRecDepth 100000 in
theorem c_X5_content {l : Launch} {Z : Zt} {b : Nat} {M : Mem} {x1 : Int32} {r' : Int32} {M' : Mem} (h : f_X5_content M x1 = some (r', M')) : Ct l yX5_content cX5_content 2 (some .int) rm_X5_content Z b [.ref (b + 156), .int x1] M (some (.int r')) M' := by
  refine Met.ofW (cc := cX5_content) (maxL := 2) (ret := (some .int)) (by decide) rfl ?_
  intro p e s m args below meth c s₁ B hml hv
  obtain ⟨rfl, hE, hW⟩ := hv
  have C : Cx p s m [.ref (b + 156), .int x1].toArray c cX5_content RX5 Z b := ⟨B.exec, B.bytes, findClass_of_methodNamed B.named, fun w hw => atoms_spec (ws := Cond.code yX5_content cX5_content 2 (some .int) :: wsA) B.pre w (List.mem_cons_of_mem _ hw), hE⟩
  have hl := lv_entry [.ref (b + 156), .int x1] (n := 2) (Nat.le_of_ble_eq_true rfl)
  rw [lg_entry_eq]
  generalize (lg_sl [.ref (b + 156), .int x1] ++ List.replicate (2 - (lg_sl [.ref (b + 156), .int x1]).length) Slot.unset).toArray = ls at hl ⊢
  have hl : lv_has ls 2 [(0, .ref (b + 156)), (1, .int x1)] := hl
  exact w_X5_content_0 C hml B.returns B.notSynchronized h va_S.rf hW hl
def f_X5_resources_0 (M : Mem) : Option (Int32 × Mem) :=
  bd2 (f_X5_count (mu M 39 0 (0 : Int32))) (fun r6 M6 => some (r6, M6))
set_option maxHeartbeats 4000000 in
set_option maxRecDepth 100000 in
theorem w_X5_resources_0 {p : Program} {l : Launch} {e : Env} {s : State} {m : MethodId} {args : Array Value} {below : List Frame} {meth : Method} {c : Code} {Z : Zt} {b : Nat} (C : Cx p s m args c cX5_resources RX5 Z b) (hml : c.maxLocals = 1) (hr : meth.sig.returnType = (some .int)) (hlk : meth.locks = false) {r' : Int32} {M' : Mem} {M : Mem} (h : f_X5_resources_0 M = some (r', M')) {H : Heap} {locs : List Loc} {ls : Array Slot} (hS : va_S (A0 b) s.heap H locs) (hW : Wd Z b M H) (hl : lv_has ls 1 [(0, .ref (b + 156))]) : W p l e rm_X5_resources s m args below meth c H locs 0 0 (MQ below (Qn Z b (some (.int r')) M') args s 0 0 (A0 b)) (F0 m 0 ls []) := by
  unfold f_X5_resources_0 at h
  have hx := C.1
  have hb := C.2.1
  refine lv_aload_n hx hb dX5_resources_0 rfl (lv_at hl 0 rfl) ?_
  refine lv_iconst (v := (0 : Int32)) hx hb dX5_resources_1 (by decide) ?_
  refine pX5_56 C hS hW dX5_resources_2 (fun H locs hW hS => ?_)
  refine lv_aload_n hx hb dX5_resources_5 rfl (lv_at hl 0 rfl) ?_
  obtain ⟨r6, M6, hc6, h⟩ := bd2_e h
  refine kX5_115 C hml hl.1 (c_X5_count hc6) ⟨Nat.le_of_ble_eq_true rfl, Nat.le_of_ble_eq_true rfl⟩ ⟨Nat.le_of_ble_eq_true rfl, Nat.le_of_ble_eq_true rfl⟩ (Nat.le_of_ble_eq_true rfl) hS hW dX5_resources_6 (fun H locs hW hS => ?_)
  cases h
  exact ret_i C hr hlk hS hW dX5_resources_9
def f_X5_resources (M : Mem) : Option (Int32 × Mem) := f_X5_resources_0 M
set_option maxHeartbeats 4000000 in
set_option maxRecDepth 100000 in
theorem c_X5_resources {l : Launch} {Z : Zt} {b : Nat} {M : Mem} {r' : Int32} {M' : Mem} (h : f_X5_resources M = some (r', M')) : Ct l yX5_resources cX5_resources 1 (some .int) rm_X5_resources Z b [.ref (b + 156)] M (some (.int r')) M' := by
  refine Met.ofW (cc := cX5_resources) (maxL := 1) (ret := (some .int)) (by decide) rfl ?_
  intro p e s m args below meth c s₁ B hml hv
  obtain ⟨rfl, hE, hW⟩ := hv
  have C : Cx p s m [.ref (b + 156)].toArray c cX5_resources RX5 Z b := ⟨B.exec, B.bytes, findClass_of_methodNamed B.named, fun w hw => atoms_spec (ws := Cond.code yX5_resources cX5_resources 1 (some .int) :: wsA) B.pre w (List.mem_cons_of_mem _ hw), hE⟩
  have hl := lv_entry [.ref (b + 156)] (n := 1) (Nat.le_of_ble_eq_true rfl)
  rw [lg_entry_eq]
  generalize (lg_sl [.ref (b + 156)] ++ List.replicate (1 - (lg_sl [.ref (b + 156)]).length) Slot.unset).toArray = ls at hl ⊢
  have hl : lv_has ls 1 [(0, .ref (b + 156))] := hl
  exact w_X5_resources_0 C hml B.returns B.notSynchronized h va_S.rf hW hl
def f_X5_isMember_0 (M : Mem) (x1 : Int32) (x2 : Int32) : Option (Int32 × Mem) :=
  if x1 < 0 ∨ 60 ≤ x1.toNatClampNeg then none else if (M 20 x1.toNatClampNeg) = 0 then some ((0 : Int32), M) else if x1 < 0 ∨ 60 ≤ x1.toNatClampNeg then none else if ((M 21 x1.toNatClampNeg) / (10 : Int32)) = x2 then some ((1 : Int32), M) else some ((0 : Int32), M)
set_option maxHeartbeats 4000000 in
set_option maxRecDepth 100000 in
theorem w_X5_isMember_0 {p : Program} {l : Launch} {e : Env} {s : State} {m : MethodId} {args : Array Value} {below : List Frame} {meth : Method} {c : Code} {Z : Zt} {b : Nat} (C : Cx p s m args c cX5_isMember RX5 Z b) (hml : c.maxLocals = 3) (hr : meth.sig.returnType = (some .boolean)) (hlk : meth.locks = false) {r' : Int32} {M' : Mem} {M : Mem} {x1 : Int32} {x2 : Int32} (h : f_X5_isMember_0 M x1 x2 = some (r', M')) {H : Heap} {locs : List Loc} {ls : Array Slot} (hS : va_S (A0 b) s.heap H locs) (hW : Wd Z b M H) (hl : lv_has ls 3 [(0, .ref (b + 156)), (1, .int x1), (2, .int x2)]) : W p l e rm_X5_isMember s m args below meth c H locs 0 0 (MQ below (Qn Z b (some (.int r')) M') args s 0 0 (A0 b)) (F0 m 0 ls []) := by
  unfold f_X5_isMember_0 at h
  have hx := C.1
  have hb := C.2.1
  refine lv_aload_n hx hb dX5_isMember_0 rfl (lv_at hl 0 rfl) ?_
  refine gX5_7 C hW dX5_isMember_1 ?_
  refine lv_iload_n hx hb dX5_isMember_4 rfl (lv_at hl 1 rfl) ?_
  obtain ⟨g5, h⟩ := gd h
  refine ald_157 C hW g5 dX5_isMember_5 ?_
  refine lv_if_eq (tgt := 26) hx hb dX5_isMember_6 (by decide) (fun c6 => ?_) (fun c6 => ?_)
  · have h := (if_pos c6).symm.trans h
    refine lv_iconst (v := (0 : Int32)) hx hb dX5_isMember_26 (by decide) ?_
    cases h
    exact ret_z C hr hlk (by decide) hS hW dX5_isMember_27
  · have h := (if_neg c6).symm.trans h
    refine lv_aload_n hx hb dX5_isMember_9 rfl (lv_at hl 0 rfl) ?_
    refine gX5_13 C hW dX5_isMember_10 ?_
    refine lv_iload_n hx hb dX5_isMember_13 rfl (lv_at hl 1 rfl) ?_
    obtain ⟨g14, h⟩ := gd h
    refine ald_158 C hW g14 dX5_isMember_14 ?_
    refine lv_bipush (v := (10 : Int32)) hx hb dX5_isMember_15 (by decide) ?_
    refine lv_idiv hx hb dX5_isMember_17 (by decide) ?_
    refine lv_iload_n hx hb dX5_isMember_18 rfl (lv_at hl 2 rfl) ?_
    refine lv_icmp_ne (tgt := 26) hx hb dX5_isMember_19 (by decide) (fun c19 => ?_) (fun c19 => ?_)
    · have h := (if_neg c19).symm.trans h
      refine lv_iconst (v := (0 : Int32)) hx hb dX5_isMember_26 (by decide) ?_
      cases h
      exact ret_z C hr hlk (by decide) hS hW dX5_isMember_27
    · have h := (if_pos c19).symm.trans h
      refine lv_iconst (v := (1 : Int32)) hx hb dX5_isMember_22 (by decide) ?_
      refine lv_goto (tgt := 27) hx hb dX5_isMember_23 (by decide) ?_
      cases h
      exact ret_z C hr hlk (by decide) hS hW dX5_isMember_27
def f_X5_isMember (M : Mem) (x1 : Int32) (x2 : Int32) : Option (Int32 × Mem) := f_X5_isMember_0 M x1 x2
set_option maxHeartbeats 4000000 in
set_option maxRecDepth 100000 in
theorem c_X5_isMember {l : Launch} {Z : Zt} {b : Nat} {M : Mem} {x1 : Int32} {x2 : Int32} {r' : Int32} {M' : Mem} (h : f_X5_isMember M x1 x2 = some (r', M')) : Ct l yX5_isMember cX5_isMember 3 (some .boolean) rm_X5_isMember Z b [.ref (b + 156), .int x1, .int x2] M (some (.int r')) M' := by
  refine Met.ofW (cc := cX5_isMember) (maxL := 3) (ret := (some .boolean)) (by decide) rfl ?_
  intro p e s m args below meth c s₁ B hml hv
  obtain ⟨rfl, hE, hW⟩ := hv
  have C : Cx p s m [.ref (b + 156), .int x1, .int x2].toArray c cX5_isMember RX5 Z b := ⟨B.exec, B.bytes, findClass_of_methodNamed B.named, fun w hw => atoms_spec (ws := Cond.code yX5_isMember cX5_isMember 3 (some .boolean) :: wsA) B.pre w (List.mem_cons_of_mem _ hw), hE⟩
  have hl := lv_entry [.ref (b + 156), .int x1, .int x2] (n := 3) (Nat.le_of_ble_eq_true rfl)
  rw [lg_entry_eq]
  generalize (lg_sl [.ref (b + 156), .int x1, .int x2] ++ List.replicate (3 - (lg_sl [.ref (b + 156), .int x1, .int x2]).length) Slot.unset).toArray = ls at hl ⊢
  have hl : lv_has ls 3 [(0, .ref (b + 156)), (1, .int x1), (2, .int x2)] := hl
  exact w_X5_isMember_0 C hml B.returns B.notSynchronized h va_S.rf hW hl
def f_X5_membersOf_25 (K4 : Mem → Int32 → Int32 → Int32 → Option (Int32 × Mem)) (M : Mem) (x1 : Int32) (x3 : Int32) (xs0 : Int32) (xs1 : Int32) : Option (Int32 × Mem) :=
  K4 M x1 (xs0 + xs1) (x3 + 1)
set_option maxHeartbeats 4000000 in
set_option maxRecDepth 100000 in
theorem w_X5_membersOf_25 {p : Program} {l : Launch} {e : Env} {s : State} {m : MethodId} {args : Array Value} {below : List Frame} {meth : Method} {c : Code} {Z : Zt} {b : Nat} (C : Cx p s m args c cX5_membersOf RX5 Z b) (hml : c.maxLocals = 4) (hr : meth.sig.returnType = (some .int)) (hlk : meth.locks = false) {r' : Int32} {M' : Mem} {K4 : Mem → Int32 → Int32 → Int32 → Option (Int32 × Mem)} (hK4 : ∀ {M : Mem} {x1 : Int32} {x2 : Int32} {x3 : Int32} (h : K4 M x1 x2 x3 = some (r', M')) {H : Heap} {locs : List Loc} {ls : Array Slot} (hS : va_S (A0 b) s.heap H locs) (hW : Wd Z b M H) (hl : lv_has ls 4 [(0, .ref (b + 156)), (1, .int x1), (2, .int x2), (3, .int x3)]), W p l e rm_X5_membersOf s m args below meth c H locs 0 0 (MQ below (Qn Z b (some (.int r')) M') args s 0 0 (A0 b)) (F0 m 4 ls [])) {M : Mem} {x1 : Int32} {x3 : Int32} {xs0 : Int32} {xs1 : Int32} (h : f_X5_membersOf_25 K4 M x1 x3 xs0 xs1 = some (r', M')) {H : Heap} {locs : List Loc} {ls : Array Slot} (hS : va_S (A0 b) s.heap H locs) (hW : Wd Z b M H) (hl : lv_has ls 4 [(0, .ref (b + 156)), (1, .int x1), (3, .int x3)]) : W p l e rm_X5_membersOf s m args below meth c H locs 0 0 (MQ below (Qn Z b (some (.int r')) M') args s 0 0 (A0 b)) (F0 m 25 ls [.int xs1, .int xs0]) := by
  unfold f_X5_membersOf_25 at h
  have hx := C.1
  have hb := C.2.1
  refine lv_iadd hx hb dX5_membersOf_25 ?_
  refine lv_istore_n (lv' := [(2, .int (xs0 + xs1)), (0, .ref (b + 156)), (1, .int x1), (3, .int x3)]) hx hb dX5_membersOf_26 rfl hl (by decide) rfl (fun ls hl => ?_)
  refine lv_iinc (v := x3 + 1) (lv' := [(3, .int (x3 + 1)), (2, .int (xs0 + xs1)), (0, .ref (b + 156)), (1, .int x1)]) hx hb dX5_membersOf_27 hl (k := 3) rfl rfl (by decide) rfl (fun ls hl => ?_)
  refine lv_goto (tgt := 4) hx hb dX5_membersOf_30 (by decide) ?_
  exact hK4 h hS hW (lv_sub hl [2, 3, 1, 0] rfl)
def f_X5_membersOf_4B (K4 : Mem → Int32 → Int32 → Int32 → Option (Int32 × Mem)) (M : Mem) (x1 : Int32) (x2 : Int32) (x3 : Int32) : Option (Int32 × Mem) :=
  if (60 : Int32) ≤ x3 then some (x2, M) else bd2 (f_X5_isMember M x3 x1) (fun r14 M14 => if r14 = 0 then f_X5_membersOf_25 K4 M14 x1 x3 x2 (0 : Int32) else f_X5_membersOf_25 K4 M14 x1 x3 x2 (1 : Int32))
def f_X5_membersOf_4 : Nat → Mem → Int32 → Int32 → Int32 → Option (Int32 × Mem)
  | 0 => fun _ _ _ _ => none
  | n + 1 => f_X5_membersOf_4B (f_X5_membersOf_4 n)
set_option maxHeartbeats 4000000 in
set_option maxRecDepth 100000 in
theorem w_X5_membersOf_4 {p : Program} {l : Launch} {e : Env} {s : State} {m : MethodId} {args : Array Value} {below : List Frame} {meth : Method} {c : Code} {Z : Zt} {b : Nat} (C : Cx p s m args c cX5_membersOf RX5 Z b) (hml : c.maxLocals = 4) (hr : meth.sig.returnType = (some .int)) (hlk : meth.locks = false) {r' : Int32} {M' : Mem} : ∀ (n : Nat) {M : Mem} {x1 : Int32} {x2 : Int32} {x3 : Int32} (h : f_X5_membersOf_4 n M x1 x2 x3 = some (r', M')) {H : Heap} {locs : List Loc} {ls : Array Slot} (hS : va_S (A0 b) s.heap H locs) (hW : Wd Z b M H) (hl : lv_has ls 4 [(0, .ref (b + 156)), (1, .int x1), (2, .int x2), (3, .int x3)]), W p l e rm_X5_membersOf s m args below meth c H locs 0 0 (MQ below (Qn Z b (some (.int r')) M') args s 0 0 (A0 b)) (F0 m 4 ls []) := by
  intro n
  induction n with
  | zero =>
    intro M x1 x2 x3 h
    cases h
  | succ n ih =>
    intro M x1 x2 x3 h H locs ls hS hW hl
    have h : f_X5_membersOf_4B (f_X5_membersOf_4 n) M x1 x2 x3 = some (r', M') := h
    unfold f_X5_membersOf_4B at h
    have hK4 := @ih
    have hx := C.1
    have hb := C.2.1
    refine lv_iload_n hx hb dX5_membersOf_4 rfl (lv_at hl 3 rfl) ?_
    refine lv_bipush (v := (60 : Int32)) hx hb dX5_membersOf_5 (by decide) ?_
    refine lv_icmp_ge (tgt := 33) hx hb dX5_membersOf_7 (by decide) (fun c7 => ?_) (fun c7 => ?_)
    · have h := (if_pos c7).symm.trans h
      refine lv_iload_n hx hb dX5_membersOf_33 rfl (lv_at hl 2 rfl) ?_
      cases h
      exact ret_i C hr hlk hS hW dX5_membersOf_34
    · have h := (if_neg c7).symm.trans h
      refine lv_iload_n hx hb dX5_membersOf_10 rfl (lv_at hl 2 rfl) ?_
      refine lv_aload_n hx hb dX5_membersOf_11 rfl (lv_at hl 0 rfl) ?_
      refine lv_iload_n hx hb dX5_membersOf_12 rfl (lv_at hl 3 rfl) ?_
      refine lv_iload_n hx hb dX5_membersOf_13 rfl (lv_at hl 1 rfl) ?_
      obtain ⟨r14, M14, hc14, h⟩ := bd2_e h
      refine kX5_158 C hml hl.1 (c_X5_isMember hc14) ⟨Nat.le_of_ble_eq_true rfl, Nat.le_of_ble_eq_true rfl⟩ ⟨Nat.le_of_ble_eq_true rfl, Nat.le_of_ble_eq_true rfl⟩ (Nat.le_of_ble_eq_true rfl) hS hW dX5_membersOf_14 (fun H locs hW hS => ?_)
      refine lv_if_eq (tgt := 24) hx hb dX5_membersOf_17 (by decide) (fun c17 => ?_) (fun c17 => ?_)
      · have h := (if_pos c17).symm.trans h
        refine lv_iconst (v := (0 : Int32)) hx hb dX5_membersOf_24 (by decide) ?_
        exact w_X5_membersOf_25 C hml hr hlk hK4 h hS hW (lv_sub hl [0, 1, 3] rfl)
      · have h := (if_neg c17).symm.trans h
        refine lv_iconst (v := (1 : Int32)) hx hb dX5_membersOf_20 (by decide) ?_
        refine lv_goto (tgt := 25) hx hb dX5_membersOf_21 (by decide) ?_
        exact w_X5_membersOf_25 C hml hr hlk hK4 h hS hW (lv_sub hl [0, 1, 3] rfl)
def f_X5_membersOf_0 (M : Mem) (x1 : Int32) : Option (Int32 × Mem) :=
  f_X5_membersOf_4 64 M x1 (0 : Int32) (0 : Int32)
set_option maxHeartbeats 4000000 in
set_option maxRecDepth 100000 in
theorem w_X5_membersOf_0 {p : Program} {l : Launch} {e : Env} {s : State} {m : MethodId} {args : Array Value} {below : List Frame} {meth : Method} {c : Code} {Z : Zt} {b : Nat} (C : Cx p s m args c cX5_membersOf RX5 Z b) (hml : c.maxLocals = 4) (hr : meth.sig.returnType = (some .int)) (hlk : meth.locks = false) {r' : Int32} {M' : Mem} {M : Mem} {x1 : Int32} (h : f_X5_membersOf_0 M x1 = some (r', M')) {H : Heap} {locs : List Loc} {ls : Array Slot} (hS : va_S (A0 b) s.heap H locs) (hW : Wd Z b M H) (hl : lv_has ls 4 [(0, .ref (b + 156)), (1, .int x1)]) : W p l e rm_X5_membersOf s m args below meth c H locs 0 0 (MQ below (Qn Z b (some (.int r')) M') args s 0 0 (A0 b)) (F0 m 0 ls []) := by
  unfold f_X5_membersOf_0 at h
  have hx := C.1
  have hb := C.2.1
  refine lv_iconst (v := (0 : Int32)) hx hb dX5_membersOf_0 (by decide) ?_
  refine lv_istore_n (lv' := [(2, .int (0 : Int32)), (0, .ref (b + 156)), (1, .int x1)]) hx hb dX5_membersOf_1 rfl hl (by decide) rfl (fun ls hl => ?_)
  refine lv_iconst (v := (0 : Int32)) hx hb dX5_membersOf_2 (by decide) ?_
  refine lv_istore_n (lv' := [(3, .int (0 : Int32)), (2, .int (0 : Int32)), (0, .ref (b + 156)), (1, .int x1)]) hx hb dX5_membersOf_3 rfl hl (by decide) rfl (fun ls hl => ?_)
  exact w_X5_membersOf_4 C hml hr hlk 64 h hS hW (lv_sub hl [2, 3, 1, 0] rfl)
def f_X5_membersOf (M : Mem) (x1 : Int32) : Option (Int32 × Mem) := f_X5_membersOf_0 M x1
set_option maxHeartbeats 4000000 in
set_option maxRecDepth 100000 in
theorem c_X5_membersOf {l : Launch} {Z : Zt} {b : Nat} {M : Mem} {x1 : Int32} {r' : Int32} {M' : Mem} (h : f_X5_membersOf M x1 = some (r', M')) : Ct l yX5_membersOf cX5_membersOf 4 (some .int) rm_X5_membersOf Z b [.ref (b + 156), .int x1] M (some (.int r')) M' := by
  refine Met.ofW (cc := cX5_membersOf) (maxL := 4) (ret := (some .int)) (by decide) rfl ?_
  intro p e s m args below meth c s₁ B hml hv
  obtain ⟨rfl, hE, hW⟩ := hv
  have C : Cx p s m [.ref (b + 156), .int x1].toArray c cX5_membersOf RX5 Z b := ⟨B.exec, B.bytes, findClass_of_methodNamed B.named, fun w hw => atoms_spec (ws := Cond.code yX5_membersOf cX5_membersOf 4 (some .int) :: wsA) B.pre w (List.mem_cons_of_mem _ hw), hE⟩
  have hl := lv_entry [.ref (b + 156), .int x1] (n := 4) (Nat.le_of_ble_eq_true rfl)
  rw [lg_entry_eq]
  generalize (lg_sl [.ref (b + 156), .int x1] ++ List.replicate (4 - (lg_sl [.ref (b + 156), .int x1]).length) Slot.unset).toArray = ls at hl ⊢
  have hl : lv_has ls 4 [(0, .ref (b + 156)), (1, .int x1)] := hl
  exact w_X5_membersOf_0 C hml B.returns B.notSynchronized h va_S.rf hW hl
def f_X5_members_0 (M : Mem) (x1 : Int32) : Option (Int32 × Mem) :=
  bd2 (f_X5_asks M x1) (fun r2 M2 => if r2 = 0 then some ((0 : Int32), M2) else bd2 (f_X5_membersOf M2 x1) (fun r10 M10 => some (r10, M10)))
set_option maxHeartbeats 4000000 in
set_option maxRecDepth 100000 in
theorem w_X5_members_0 {p : Program} {l : Launch} {e : Env} {s : State} {m : MethodId} {args : Array Value} {below : List Frame} {meth : Method} {c : Code} {Z : Zt} {b : Nat} (C : Cx p s m args c cX5_members RX5 Z b) (hml : c.maxLocals = 2) (hr : meth.sig.returnType = (some .int)) (hlk : meth.locks = false) {r' : Int32} {M' : Mem} {M : Mem} {x1 : Int32} (h : f_X5_members_0 M x1 = some (r', M')) {H : Heap} {locs : List Loc} {ls : Array Slot} (hS : va_S (A0 b) s.heap H locs) (hW : Wd Z b M H) (hl : lv_has ls 2 [(0, .ref (b + 156)), (1, .int x1)]) : W p l e rm_X5_members s m args below meth c H locs 0 0 (MQ below (Qn Z b (some (.int r')) M') args s 0 0 (A0 b)) (F0 m 0 ls []) := by
  unfold f_X5_members_0 at h
  have hx := C.1
  have hb := C.2.1
  refine lv_aload_n hx hb dX5_members_0 rfl (lv_at hl 0 rfl) ?_
  refine lv_iload_n hx hb dX5_members_1 rfl (lv_at hl 1 rfl) ?_
  obtain ⟨r2, M2, hc2, h⟩ := bd2_e h
  refine kX5_155 C hml hl.1 (c_X5_asks hc2) ⟨Nat.le_of_ble_eq_true rfl, Nat.le_of_ble_eq_true rfl⟩ ⟨Nat.le_of_ble_eq_true rfl, Nat.le_of_ble_eq_true rfl⟩ (Nat.le_of_ble_eq_true rfl) hS hW dX5_members_2 (fun H locs hW hS => ?_)
  refine lv_if_eq (tgt := 16) hx hb dX5_members_5 (by decide) (fun c5 => ?_) (fun c5 => ?_)
  · have h := (if_pos c5).symm.trans h
    refine lv_iconst (v := (0 : Int32)) hx hb dX5_members_16 (by decide) ?_
    cases h
    exact ret_i C hr hlk hS hW dX5_members_17
  · have h := (if_neg c5).symm.trans h
    refine lv_aload_n hx hb dX5_members_8 rfl (lv_at hl 0 rfl) ?_
    refine lv_iload_n hx hb dX5_members_9 rfl (lv_at hl 1 rfl) ?_
    obtain ⟨r10, M10, hc10, h⟩ := bd2_e h
    refine kX5_161 C hml hl.1 (c_X5_membersOf hc10) ⟨Nat.le_of_ble_eq_true rfl, Nat.le_of_ble_eq_true rfl⟩ ⟨Nat.le_of_ble_eq_true rfl, Nat.le_of_ble_eq_true rfl⟩ (Nat.le_of_ble_eq_true rfl) hS hW dX5_members_10 (fun H locs hW hS => ?_)
    refine lv_goto (tgt := 17) hx hb dX5_members_13 (by decide) ?_
    cases h
    exact ret_i C hr hlk hS hW dX5_members_17
def f_X5_members (M : Mem) (x1 : Int32) : Option (Int32 × Mem) := f_X5_members_0 M x1
set_option maxHeartbeats 4000000 in
set_option maxRecDepth 100000 in
theorem c_X5_members {l : Launch} {Z : Zt} {b : Nat} {M : Mem} {x1 : Int32} {r' : Int32} {M' : Mem} (h : f_X5_members M x1 = some (r', M')) : Ct l yX5_members cX5_members 2 (some .int) rm_X5_members Z b [.ref (b + 156), .int x1] M (some (.int r')) M' := by
  refine Met.ofW (cc := cX5_members) (maxL := 2) (ret := (some .int)) (by decide) rfl ?_
  intro p e s m args below meth c s₁ B hml hv
  obtain ⟨rfl, hE, hW⟩ := hv
  have C : Cx p s m [.ref (b + 156), .int x1].toArray c cX5_members RX5 Z b := ⟨B.exec, B.bytes, findClass_of_methodNamed B.named, fun w hw => atoms_spec (ws := Cond.code yX5_members cX5_members 2 (some .int) :: wsA) B.pre w (List.mem_cons_of_mem _ hw), hE⟩
  have hl := lv_entry [.ref (b + 156), .int x1] (n := 2) (Nat.le_of_ble_eq_true rfl)
  rw [lg_entry_eq]
  generalize (lg_sl [.ref (b + 156), .int x1] ++ List.replicate (2 - (lg_sl [.ref (b + 156), .int x1]).length) Slot.unset).toArray = ls at hl ⊢
  have hl : lv_has ls 2 [(0, .ref (b + 156)), (1, .int x1)] := hl
  exact w_X5_members_0 C hml B.returns B.notSynchronized h va_S.rf hW hl
def f_X5_memberOf_90 (K5 : Mem → Int32 → Int32 → Int32 → Int32 → Option (Int32 × Mem)) (M : Mem) (x1 : Int32) (x2 : Int32) (x4 : Int32) (xs0 : Int32) : Option (Int32 × Mem) :=
  K5 M x1 x2 xs0 (x4 + 1)
set_option maxHeartbeats 4000000 in
set_option maxRecDepth 100000 in
theorem w_X5_memberOf_90 {p : Program} {l : Launch} {e : Env} {s : State} {m : MethodId} {args : Array Value} {below : List Frame} {meth : Method} {c : Code} {Z : Zt} {b : Nat} (C : Cx p s m args c cX5_memberOf RX5 Z b) (hml : c.maxLocals = 7) (hr : meth.sig.returnType = (some .int)) (hlk : meth.locks = false) {r' : Int32} {M' : Mem} {K5 : Mem → Int32 → Int32 → Int32 → Int32 → Option (Int32 × Mem)} (hK5 : ∀ {M : Mem} {x1 : Int32} {x2 : Int32} {x3 : Int32} {x4 : Int32} (h : K5 M x1 x2 x3 x4 = some (r', M')) {H : Heap} {locs : List Loc} {ls : Array Slot} (hS : va_S (A0 b) s.heap H locs) (hW : Wd Z b M H) (hl : lv_has ls 7 [(0, .ref (b + 156)), (1, .int x1), (2, .int x2), (3, .int x3), (4, .int x4)]), W p l e rm_X5_memberOf s m args below meth c H locs 0 0 (MQ below (Qn Z b (some (.int r')) M') args s 0 0 (A0 b)) (F0 m 5 ls [])) {M : Mem} {x1 : Int32} {x2 : Int32} {x4 : Int32} {xs0 : Int32} (h : f_X5_memberOf_90 K5 M x1 x2 x4 xs0 = some (r', M')) {H : Heap} {locs : List Loc} {ls : Array Slot} (hS : va_S (A0 b) s.heap H locs) (hW : Wd Z b M H) (hl : lv_has ls 7 [(0, .ref (b + 156)), (1, .int x1), (2, .int x2), (4, .int x4)]) : W p l e rm_X5_memberOf s m args below meth c H locs 0 0 (MQ below (Qn Z b (some (.int r')) M') args s 0 0 (A0 b)) (F0 m 90 ls [.int xs0]) := by
  unfold f_X5_memberOf_90 at h
  have hx := C.1
  have hb := C.2.1
  refine lv_istore_n (lv' := [(3, .int xs0), (0, .ref (b + 156)), (1, .int x1), (2, .int x2), (4, .int x4)]) hx hb dX5_memberOf_90 rfl hl (by decide) rfl (fun ls hl => ?_)
  refine lv_iinc (v := x4 + 1) (lv' := [(4, .int (x4 + 1)), (3, .int xs0), (0, .ref (b + 156)), (1, .int x1), (2, .int x2)]) hx hb dX5_memberOf_91 hl (k := 4) rfl rfl (by decide) rfl (fun ls hl => ?_)
  refine lv_goto (tgt := 5) hx hb dX5_memberOf_94 (by decide) ?_
  exact hK5 h hS hW (lv_sub hl [2, 3, 4, 1, 0] rfl)
def f_X5_memberOf_89 (K5 : Mem → Int32 → Int32 → Int32 → Int32 → Option (Int32 × Mem)) (M : Mem) (x1 : Int32) (x2 : Int32) (x3 : Int32) (x4 : Int32) : Option (Int32 × Mem) :=
  f_X5_memberOf_90 K5 M x1 x2 x4 x3
set_option maxHeartbeats 4000000 in
set_option maxRecDepth 100000 in
theorem w_X5_memberOf_89 {p : Program} {l : Launch} {e : Env} {s : State} {m : MethodId} {args : Array Value} {below : List Frame} {meth : Method} {c : Code} {Z : Zt} {b : Nat} (C : Cx p s m args c cX5_memberOf RX5 Z b) (hml : c.maxLocals = 7) (hr : meth.sig.returnType = (some .int)) (hlk : meth.locks = false) {r' : Int32} {M' : Mem} {K5 : Mem → Int32 → Int32 → Int32 → Int32 → Option (Int32 × Mem)} (hK5 : ∀ {M : Mem} {x1 : Int32} {x2 : Int32} {x3 : Int32} {x4 : Int32} (h : K5 M x1 x2 x3 x4 = some (r', M')) {H : Heap} {locs : List Loc} {ls : Array Slot} (hS : va_S (A0 b) s.heap H locs) (hW : Wd Z b M H) (hl : lv_has ls 7 [(0, .ref (b + 156)), (1, .int x1), (2, .int x2), (3, .int x3), (4, .int x4)]), W p l e rm_X5_memberOf s m args below meth c H locs 0 0 (MQ below (Qn Z b (some (.int r')) M') args s 0 0 (A0 b)) (F0 m 5 ls [])) {M : Mem} {x1 : Int32} {x2 : Int32} {x3 : Int32} {x4 : Int32} (h : f_X5_memberOf_89 K5 M x1 x2 x3 x4 = some (r', M')) {H : Heap} {locs : List Loc} {ls : Array Slot} (hS : va_S (A0 b) s.heap H locs) (hW : Wd Z b M H) (hl : lv_has ls 7 [(0, .ref (b + 156)), (1, .int x1), (2, .int x2), (3, .int x3), (4, .int x4)]) : W p l e rm_X5_memberOf s m args below meth c H locs 0 0 (MQ below (Qn Z b (some (.int r')) M') args s 0 0 (A0 b)) (F0 m 89 ls []) := by
  unfold f_X5_memberOf_89 at h
  have hx := C.1
  have hb := C.2.1
  refine lv_iload_n hx hb dX5_memberOf_89 rfl (lv_at hl 3 rfl) ?_
  exact w_X5_memberOf_90 C hml hr hlk hK5 h hS hW (lv_sub hl [0, 1, 2, 4] rfl)
def f_X5_memberOf_59 (K5 : Mem → Int32 → Int32 → Int32 → Int32 → Option (Int32 × Mem)) (K18 : Mem → Int32 → Int32 → Int32 → Int32 → Int32 → Int32 → Option (Int32 × Mem)) (M : Mem) (x1 : Int32) (x2 : Int32) (x3 : Int32) (x4 : Int32) (x6 : Int32) (xs0 : Int32) (xs1 : Int32) : Option (Int32 × Mem) :=
  K18 M x1 x2 x3 x4 (xs0 + xs1) (x6 + 1)
set_option maxHeartbeats 4000000 in
set_option maxRecDepth 100000 in
theorem w_X5_memberOf_59 {p : Program} {l : Launch} {e : Env} {s : State} {m : MethodId} {args : Array Value} {below : List Frame} {meth : Method} {c : Code} {Z : Zt} {b : Nat} (C : Cx p s m args c cX5_memberOf RX5 Z b) (hml : c.maxLocals = 7) (hr : meth.sig.returnType = (some .int)) (hlk : meth.locks = false) {r' : Int32} {M' : Mem} {K5 : Mem → Int32 → Int32 → Int32 → Int32 → Option (Int32 × Mem)} (hK5 : ∀ {M : Mem} {x1 : Int32} {x2 : Int32} {x3 : Int32} {x4 : Int32} (h : K5 M x1 x2 x3 x4 = some (r', M')) {H : Heap} {locs : List Loc} {ls : Array Slot} (hS : va_S (A0 b) s.heap H locs) (hW : Wd Z b M H) (hl : lv_has ls 7 [(0, .ref (b + 156)), (1, .int x1), (2, .int x2), (3, .int x3), (4, .int x4)]), W p l e rm_X5_memberOf s m args below meth c H locs 0 0 (MQ below (Qn Z b (some (.int r')) M') args s 0 0 (A0 b)) (F0 m 5 ls [])) {K18 : Mem → Int32 → Int32 → Int32 → Int32 → Int32 → Int32 → Option (Int32 × Mem)} (hK18 : ∀ {M : Mem} {x1 : Int32} {x2 : Int32} {x3 : Int32} {x4 : Int32} {x5 : Int32} {x6 : Int32} (h : K18 M x1 x2 x3 x4 x5 x6 = some (r', M')) {H : Heap} {locs : List Loc} {ls : Array Slot} (hS : va_S (A0 b) s.heap H locs) (hW : Wd Z b M H) (hl : lv_has ls 7 [(0, .ref (b + 156)), (1, .int x1), (2, .int x2), (3, .int x3), (4, .int x4), (5, .int x5), (6, .int x6)]), W p l e rm_X5_memberOf s m args below meth c H locs 0 0 (MQ below (Qn Z b (some (.int r')) M') args s 0 0 (A0 b)) (F0 m 18 ls [])) {M : Mem} {x1 : Int32} {x2 : Int32} {x3 : Int32} {x4 : Int32} {x6 : Int32} {xs0 : Int32} {xs1 : Int32} (h : f_X5_memberOf_59 K5 K18 M x1 x2 x3 x4 x6 xs0 xs1 = some (r', M')) {H : Heap} {locs : List Loc} {ls : Array Slot} (hS : va_S (A0 b) s.heap H locs) (hW : Wd Z b M H) (hl : lv_has ls 7 [(0, .ref (b + 156)), (1, .int x1), (2, .int x2), (3, .int x3), (4, .int x4), (6, .int x6)]) : W p l e rm_X5_memberOf s m args below meth c H locs 0 0 (MQ below (Qn Z b (some (.int r')) M') args s 0 0 (A0 b)) (F0 m 59 ls [.int xs1, .int xs0]) := by
  unfold f_X5_memberOf_59 at h
  have hx := C.1
  have hb := C.2.1
  refine lv_iadd hx hb dX5_memberOf_59 ?_
  refine lv_istore (lv' := [(5, .int (xs0 + xs1)), (0, .ref (b + 156)), (1, .int x1), (2, .int x2), (3, .int x3), (4, .int x4), (6, .int x6)]) hx hb dX5_memberOf_60 hl (by decide) rfl (fun ls hl => ?_)
  refine lv_iinc (v := x6 + 1) (lv' := [(6, .int (x6 + 1)), (5, .int (xs0 + xs1)), (0, .ref (b + 156)), (1, .int x1), (2, .int x2), (3, .int x3), (4, .int x4)]) hx hb dX5_memberOf_62 hl (k := 6) rfl rfl (by decide) rfl (fun ls hl => ?_)
  refine lv_goto (tgt := 18) hx hb dX5_memberOf_65 (by decide) ?_
  exact hK18 h hS hW (lv_sub hl [2, 3, 4, 5, 6, 1, 0] rfl)
def f_X5_memberOf_58 (K5 : Mem → Int32 → Int32 → Int32 → Int32 → Option (Int32 × Mem)) (K18 : Mem → Int32 → Int32 → Int32 → Int32 → Int32 → Int32 → Option (Int32 × Mem)) (M : Mem) (x1 : Int32) (x2 : Int32) (x3 : Int32) (x4 : Int32) (x6 : Int32) (xs0 : Int32) : Option (Int32 × Mem) :=
  f_X5_memberOf_59 K5 K18 M x1 x2 x3 x4 x6 xs0 (0 : Int32)
set_option maxHeartbeats 4000000 in
set_option maxRecDepth 100000 in
theorem w_X5_memberOf_58 {p : Program} {l : Launch} {e : Env} {s : State} {m : MethodId} {args : Array Value} {below : List Frame} {meth : Method} {c : Code} {Z : Zt} {b : Nat} (C : Cx p s m args c cX5_memberOf RX5 Z b) (hml : c.maxLocals = 7) (hr : meth.sig.returnType = (some .int)) (hlk : meth.locks = false) {r' : Int32} {M' : Mem} {K5 : Mem → Int32 → Int32 → Int32 → Int32 → Option (Int32 × Mem)} (hK5 : ∀ {M : Mem} {x1 : Int32} {x2 : Int32} {x3 : Int32} {x4 : Int32} (h : K5 M x1 x2 x3 x4 = some (r', M')) {H : Heap} {locs : List Loc} {ls : Array Slot} (hS : va_S (A0 b) s.heap H locs) (hW : Wd Z b M H) (hl : lv_has ls 7 [(0, .ref (b + 156)), (1, .int x1), (2, .int x2), (3, .int x3), (4, .int x4)]), W p l e rm_X5_memberOf s m args below meth c H locs 0 0 (MQ below (Qn Z b (some (.int r')) M') args s 0 0 (A0 b)) (F0 m 5 ls [])) {K18 : Mem → Int32 → Int32 → Int32 → Int32 → Int32 → Int32 → Option (Int32 × Mem)} (hK18 : ∀ {M : Mem} {x1 : Int32} {x2 : Int32} {x3 : Int32} {x4 : Int32} {x5 : Int32} {x6 : Int32} (h : K18 M x1 x2 x3 x4 x5 x6 = some (r', M')) {H : Heap} {locs : List Loc} {ls : Array Slot} (hS : va_S (A0 b) s.heap H locs) (hW : Wd Z b M H) (hl : lv_has ls 7 [(0, .ref (b + 156)), (1, .int x1), (2, .int x2), (3, .int x3), (4, .int x4), (5, .int x5), (6, .int x6)]), W p l e rm_X5_memberOf s m args below meth c H locs 0 0 (MQ below (Qn Z b (some (.int r')) M') args s 0 0 (A0 b)) (F0 m 18 ls [])) {M : Mem} {x1 : Int32} {x2 : Int32} {x3 : Int32} {x4 : Int32} {x6 : Int32} {xs0 : Int32} (h : f_X5_memberOf_58 K5 K18 M x1 x2 x3 x4 x6 xs0 = some (r', M')) {H : Heap} {locs : List Loc} {ls : Array Slot} (hS : va_S (A0 b) s.heap H locs) (hW : Wd Z b M H) (hl : lv_has ls 7 [(0, .ref (b + 156)), (1, .int x1), (2, .int x2), (3, .int x3), (4, .int x4), (6, .int x6)]) : W p l e rm_X5_memberOf s m args below meth c H locs 0 0 (MQ below (Qn Z b (some (.int r')) M') args s 0 0 (A0 b)) (F0 m 58 ls [.int xs0]) := by
  unfold f_X5_memberOf_58 at h
  have hx := C.1
  have hb := C.2.1
  refine lv_iconst (v := (0 : Int32)) hx hb dX5_memberOf_58 (by decide) ?_
  exact w_X5_memberOf_59 C hml hr hlk hK5 hK18 h hS hW (lv_sub hl [0, 1, 2, 3, 4, 5] rfl)
def f_X5_memberOf_18B (K5 : Mem → Int32 → Int32 → Int32 → Int32 → Option (Int32 × Mem)) (K18 : Mem → Int32 → Int32 → Int32 → Int32 → Int32 → Int32 → Option (Int32 × Mem)) (M : Mem) (x1 : Int32) (x2 : Int32) (x3 : Int32) (x4 : Int32) (x5 : Int32) (x6 : Int32) : Option (Int32 × Mem) :=
  if (60 : Int32) ≤ x6 then bd2 (f_X5_isMember M x4 x1) (fun r72 M72 => if r72 = 0 then f_X5_memberOf_89 K5 M72 x1 x2 x3 x4 else if x5 = x2 then f_X5_memberOf_90 K5 M72 x1 x2 x4 x4 else f_X5_memberOf_89 K5 M72 x1 x2 x3 x4) else bd2 (f_X5_isMember M x6 x1) (fun r31 M31 => if r31 = 0 then f_X5_memberOf_58 K5 K18 M31 x1 x2 x3 x4 x6 x5 else if x6 < 0 ∨ 60 ≤ x6.toNatClampNeg then none else if x4 < 0 ∨ 60 ≤ x4.toNatClampNeg then none else if (M31 24 x4.toNatClampNeg) ≤ (M31 24 x6.toNatClampNeg) then f_X5_memberOf_58 K5 K18 M31 x1 x2 x3 x4 x6 x5 else f_X5_memberOf_59 K5 K18 M31 x1 x2 x3 x4 x6 x5 (1 : Int32))
def f_X5_memberOf_18 (K5 : Mem → Int32 → Int32 → Int32 → Int32 → Option (Int32 × Mem)) : Nat → Mem → Int32 → Int32 → Int32 → Int32 → Int32 → Int32 → Option (Int32 × Mem)
  | 0 => fun _ _ _ _ _ _ _ => none
  | n + 1 => f_X5_memberOf_18B K5 (f_X5_memberOf_18 K5 n)
set_option maxHeartbeats 4000000 in
set_option maxRecDepth 100000 in
theorem w_X5_memberOf_18 {p : Program} {l : Launch} {e : Env} {s : State} {m : MethodId} {args : Array Value} {below : List Frame} {meth : Method} {c : Code} {Z : Zt} {b : Nat} (C : Cx p s m args c cX5_memberOf RX5 Z b) (hml : c.maxLocals = 7) (hr : meth.sig.returnType = (some .int)) (hlk : meth.locks = false) {r' : Int32} {M' : Mem} {K5 : Mem → Int32 → Int32 → Int32 → Int32 → Option (Int32 × Mem)} (hK5 : ∀ {M : Mem} {x1 : Int32} {x2 : Int32} {x3 : Int32} {x4 : Int32} (h : K5 M x1 x2 x3 x4 = some (r', M')) {H : Heap} {locs : List Loc} {ls : Array Slot} (hS : va_S (A0 b) s.heap H locs) (hW : Wd Z b M H) (hl : lv_has ls 7 [(0, .ref (b + 156)), (1, .int x1), (2, .int x2), (3, .int x3), (4, .int x4)]), W p l e rm_X5_memberOf s m args below meth c H locs 0 0 (MQ below (Qn Z b (some (.int r')) M') args s 0 0 (A0 b)) (F0 m 5 ls [])) : ∀ (n : Nat) {M : Mem} {x1 : Int32} {x2 : Int32} {x3 : Int32} {x4 : Int32} {x5 : Int32} {x6 : Int32} (h : f_X5_memberOf_18 K5 n M x1 x2 x3 x4 x5 x6 = some (r', M')) {H : Heap} {locs : List Loc} {ls : Array Slot} (hS : va_S (A0 b) s.heap H locs) (hW : Wd Z b M H) (hl : lv_has ls 7 [(0, .ref (b + 156)), (1, .int x1), (2, .int x2), (3, .int x3), (4, .int x4), (5, .int x5), (6, .int x6)]), W p l e rm_X5_memberOf s m args below meth c H locs 0 0 (MQ below (Qn Z b (some (.int r')) M') args s 0 0 (A0 b)) (F0 m 18 ls []) := by
  intro n
  induction n with
  | zero =>
    intro M x1 x2 x3 x4 x5 x6 h
    cases h
  | succ n ih =>
    intro M x1 x2 x3 x4 x5 x6 h H locs ls hS hW hl
    have h : f_X5_memberOf_18B K5 (f_X5_memberOf_18 K5 n) M x1 x2 x3 x4 x5 x6 = some (r', M') := h
    unfold f_X5_memberOf_18B at h
    have hK18 := @ih
    have hx := C.1
    have hb := C.2.1
    refine lv_iload hx hb dX5_memberOf_18 (lv_at hl 6 rfl) ?_
    refine lv_bipush (v := (60 : Int32)) hx hb dX5_memberOf_20 (by decide) ?_
    refine lv_icmp_ge (tgt := 68) hx hb dX5_memberOf_22 (by decide) (fun c22 => ?_) (fun c22 => ?_)
    · have h := (if_pos c22).symm.trans h
      refine lv_aload_n hx hb dX5_memberOf_68 rfl (lv_at hl 0 rfl) ?_
      refine lv_iload hx hb dX5_memberOf_69 (lv_at hl 4 rfl) ?_
      refine lv_iload_n hx hb dX5_memberOf_71 rfl (lv_at hl 1 rfl) ?_
      obtain ⟨r72, M72, hc72, h⟩ := bd2_e h
      refine kX5_158 C hml hl.1 (c_X5_isMember hc72) ⟨Nat.le_of_ble_eq_true rfl, Nat.le_of_ble_eq_true rfl⟩ ⟨Nat.le_of_ble_eq_true rfl, Nat.le_of_ble_eq_true rfl⟩ (Nat.le_of_ble_eq_true rfl) hS hW dX5_memberOf_72 (fun H locs hW hS => ?_)
      refine lv_if_eq (tgt := 89) hx hb dX5_memberOf_75 (by decide) (fun c75 => ?_) (fun c75 => ?_)
      · have h := (if_pos c75).symm.trans h
        exact w_X5_memberOf_89 C hml hr hlk hK5 h hS hW (lv_sub hl [0, 1, 2, 3, 4] rfl)
      · have h := (if_neg c75).symm.trans h
        refine lv_iload hx hb dX5_memberOf_78 (lv_at hl 5 rfl) ?_
        refine lv_iload_n hx hb dX5_memberOf_80 rfl (lv_at hl 2 rfl) ?_
        refine lv_icmp_ne (tgt := 89) hx hb dX5_memberOf_81 (by decide) (fun c81 => ?_) (fun c81 => ?_)
        · have h := (if_neg c81).symm.trans h
          exact w_X5_memberOf_89 C hml hr hlk hK5 h hS hW (lv_sub hl [0, 1, 2, 3, 4] rfl)
        · have h := (if_pos c81).symm.trans h
          refine lv_iload hx hb dX5_memberOf_84 (lv_at hl 4 rfl) ?_
          refine lv_goto (tgt := 90) hx hb dX5_memberOf_86 (by decide) ?_
          exact w_X5_memberOf_90 C hml hr hlk hK5 h hS hW (lv_sub hl [0, 1, 2, 4] rfl)
    · have h := (if_neg c22).symm.trans h
      refine lv_iload hx hb dX5_memberOf_25 (lv_at hl 5 rfl) ?_
      refine lv_aload_n hx hb dX5_memberOf_27 rfl (lv_at hl 0 rfl) ?_
      refine lv_iload hx hb dX5_memberOf_28 (lv_at hl 6 rfl) ?_
      refine lv_iload_n hx hb dX5_memberOf_30 rfl (lv_at hl 1 rfl) ?_
      obtain ⟨r31, M31, hc31, h⟩ := bd2_e h
      refine kX5_158 C hml hl.1 (c_X5_isMember hc31) ⟨Nat.le_of_ble_eq_true rfl, Nat.le_of_ble_eq_true rfl⟩ ⟨Nat.le_of_ble_eq_true rfl, Nat.le_of_ble_eq_true rfl⟩ (Nat.le_of_ble_eq_true rfl) hS hW dX5_memberOf_31 (fun H locs hW hS => ?_)
      refine lv_if_eq (tgt := 58) hx hb dX5_memberOf_34 (by decide) (fun c34 => ?_) (fun c34 => ?_)
      · have h := (if_pos c34).symm.trans h
        exact w_X5_memberOf_58 C hml hr hlk hK5 hK18 h hS hW (lv_sub hl [0, 1, 2, 3, 4, 6] rfl)
      · have h := (if_neg c34).symm.trans h
        refine lv_aload_n hx hb dX5_memberOf_37 rfl (lv_at hl 0 rfl) ?_
        refine gX5_23 C hW dX5_memberOf_38 ?_
        refine lv_iload hx hb dX5_memberOf_41 (lv_at hl 6 rfl) ?_
        obtain ⟨g43, h⟩ := gd h
        refine ald_161 C hW g43 dX5_memberOf_43 ?_
        refine lv_aload_n hx hb dX5_memberOf_44 rfl (lv_at hl 0 rfl) ?_
        refine gX5_23 C hW dX5_memberOf_45 ?_
        refine lv_iload hx hb dX5_memberOf_48 (lv_at hl 4 rfl) ?_
        obtain ⟨g50, h⟩ := gd h
        refine ald_161 C hW g50 dX5_memberOf_50 ?_
        refine lv_icmp_ge (tgt := 58) hx hb dX5_memberOf_51 (by decide) (fun c51 => ?_) (fun c51 => ?_)
        · have h := (if_pos c51).symm.trans h
          exact w_X5_memberOf_58 C hml hr hlk hK5 hK18 h hS hW (lv_sub hl [0, 1, 2, 3, 4, 6] rfl)
        · have h := (if_neg c51).symm.trans h
          refine lv_iconst (v := (1 : Int32)) hx hb dX5_memberOf_54 (by decide) ?_
          refine lv_goto (tgt := 59) hx hb dX5_memberOf_55 (by decide) ?_
          exact w_X5_memberOf_59 C hml hr hlk hK5 hK18 h hS hW (lv_sub hl [0, 1, 2, 3, 4, 6] rfl)
def f_X5_memberOf_5B (K5 : Mem → Int32 → Int32 → Int32 → Int32 → Option (Int32 × Mem)) (M : Mem) (x1 : Int32) (x2 : Int32) (x3 : Int32) (x4 : Int32) : Option (Int32 × Mem) :=
  if (60 : Int32) ≤ x4 then some (x3, M) else f_X5_memberOf_18 K5 64 M x1 x2 x3 x4 (0 : Int32) (0 : Int32)
def f_X5_memberOf_5 : Nat → Mem → Int32 → Int32 → Int32 → Int32 → Option (Int32 × Mem)
  | 0 => fun _ _ _ _ _ => none
  | n + 1 => f_X5_memberOf_5B (f_X5_memberOf_5 n)
set_option maxHeartbeats 4000000 in
set_option maxRecDepth 100000 in
theorem w_X5_memberOf_5 {p : Program} {l : Launch} {e : Env} {s : State} {m : MethodId} {args : Array Value} {below : List Frame} {meth : Method} {c : Code} {Z : Zt} {b : Nat} (C : Cx p s m args c cX5_memberOf RX5 Z b) (hml : c.maxLocals = 7) (hr : meth.sig.returnType = (some .int)) (hlk : meth.locks = false) {r' : Int32} {M' : Mem} : ∀ (n : Nat) {M : Mem} {x1 : Int32} {x2 : Int32} {x3 : Int32} {x4 : Int32} (h : f_X5_memberOf_5 n M x1 x2 x3 x4 = some (r', M')) {H : Heap} {locs : List Loc} {ls : Array Slot} (hS : va_S (A0 b) s.heap H locs) (hW : Wd Z b M H) (hl : lv_has ls 7 [(0, .ref (b + 156)), (1, .int x1), (2, .int x2), (3, .int x3), (4, .int x4)]), W p l e rm_X5_memberOf s m args below meth c H locs 0 0 (MQ below (Qn Z b (some (.int r')) M') args s 0 0 (A0 b)) (F0 m 5 ls []) := by
  intro n
  induction n with
  | zero =>
    intro M x1 x2 x3 x4 h
    cases h
  | succ n ih =>
    intro M x1 x2 x3 x4 h H locs ls hS hW hl
    have h : f_X5_memberOf_5B (f_X5_memberOf_5 n) M x1 x2 x3 x4 = some (r', M') := h
    unfold f_X5_memberOf_5B at h
    have hK5 := @ih
    have hx := C.1
    have hb := C.2.1
    refine lv_iload hx hb dX5_memberOf_5 (lv_at hl 4 rfl) ?_
    refine lv_bipush (v := (60 : Int32)) hx hb dX5_memberOf_7 (by decide) ?_
    refine lv_icmp_ge (tgt := 97) hx hb dX5_memberOf_9 (by decide) (fun c9 => ?_) (fun c9 => ?_)
    · have h := (if_pos c9).symm.trans h
      refine lv_iload_n hx hb dX5_memberOf_97 rfl (lv_at hl 3 rfl) ?_
      cases h
      exact ret_i C hr hlk hS hW dX5_memberOf_98
    · have h := (if_neg c9).symm.trans h
      refine lv_iconst (v := (0 : Int32)) hx hb dX5_memberOf_12 (by decide) ?_
      refine lv_istore (lv' := [(5, .int (0 : Int32)), (0, .ref (b + 156)), (1, .int x1), (2, .int x2), (3, .int x3), (4, .int x4)]) hx hb dX5_memberOf_13 hl (by decide) rfl (fun ls hl => ?_)
      refine lv_iconst (v := (0 : Int32)) hx hb dX5_memberOf_15 (by decide) ?_
      refine lv_istore (lv' := [(6, .int (0 : Int32)), (5, .int (0 : Int32)), (0, .ref (b + 156)), (1, .int x1), (2, .int x2), (3, .int x3), (4, .int x4)]) hx hb dX5_memberOf_16 hl (by decide) rfl (fun ls hl => ?_)
      exact w_X5_memberOf_18 C hml hr hlk hK5 64 h hS hW (lv_sub hl [2, 3, 4, 5, 6, 1, 0] rfl)
def f_X5_memberOf_0 (M : Mem) (x1 : Int32) (x2 : Int32) : Option (Int32 × Mem) :=
  f_X5_memberOf_5 64 M x1 x2 (-1 : Int32) (0 : Int32)
set_option maxHeartbeats 4000000 in
set_option maxRecDepth 100000 in
theorem w_X5_memberOf_0 {p : Program} {l : Launch} {e : Env} {s : State} {m : MethodId} {args : Array Value} {below : List Frame} {meth : Method} {c : Code} {Z : Zt} {b : Nat} (C : Cx p s m args c cX5_memberOf RX5 Z b) (hml : c.maxLocals = 7) (hr : meth.sig.returnType = (some .int)) (hlk : meth.locks = false) {r' : Int32} {M' : Mem} {M : Mem} {x1 : Int32} {x2 : Int32} (h : f_X5_memberOf_0 M x1 x2 = some (r', M')) {H : Heap} {locs : List Loc} {ls : Array Slot} (hS : va_S (A0 b) s.heap H locs) (hW : Wd Z b M H) (hl : lv_has ls 7 [(0, .ref (b + 156)), (1, .int x1), (2, .int x2)]) : W p l e rm_X5_memberOf s m args below meth c H locs 0 0 (MQ below (Qn Z b (some (.int r')) M') args s 0 0 (A0 b)) (F0 m 0 ls []) := by
  unfold f_X5_memberOf_0 at h
  have hx := C.1
  have hb := C.2.1
  refine lv_iconst (v := (-1 : Int32)) hx hb dX5_memberOf_0 (by decide) ?_
  refine lv_istore_n (lv' := [(3, .int (-1 : Int32)), (0, .ref (b + 156)), (1, .int x1), (2, .int x2)]) hx hb dX5_memberOf_1 rfl hl (by decide) rfl (fun ls hl => ?_)
  refine lv_iconst (v := (0 : Int32)) hx hb dX5_memberOf_2 (by decide) ?_
  refine lv_istore (lv' := [(4, .int (0 : Int32)), (3, .int (-1 : Int32)), (0, .ref (b + 156)), (1, .int x1), (2, .int x2)]) hx hb dX5_memberOf_3 hl (by decide) rfl (fun ls hl => ?_)
  exact w_X5_memberOf_5 C hml hr hlk 64 h hS hW (lv_sub hl [2, 3, 4, 1, 0] rfl)
def f_X5_memberOf (M : Mem) (x1 : Int32) (x2 : Int32) : Option (Int32 × Mem) := f_X5_memberOf_0 M x1 x2
set_option maxHeartbeats 4000000 in
set_option maxRecDepth 100000 in
theorem c_X5_memberOf {l : Launch} {Z : Zt} {b : Nat} {M : Mem} {x1 : Int32} {x2 : Int32} {r' : Int32} {M' : Mem} (h : f_X5_memberOf M x1 x2 = some (r', M')) : Ct l yX5_memberOf cX5_memberOf 7 (some .int) rm_X5_memberOf Z b [.ref (b + 156), .int x1, .int x2] M (some (.int r')) M' := by
  refine Met.ofW (cc := cX5_memberOf) (maxL := 7) (ret := (some .int)) (by decide) rfl ?_
  intro p e s m args below meth c s₁ B hml hv
  obtain ⟨rfl, hE, hW⟩ := hv
  have C : Cx p s m [.ref (b + 156), .int x1, .int x2].toArray c cX5_memberOf RX5 Z b := ⟨B.exec, B.bytes, findClass_of_methodNamed B.named, fun w hw => atoms_spec (ws := Cond.code yX5_memberOf cX5_memberOf 7 (some .int) :: wsA) B.pre w (List.mem_cons_of_mem _ hw), hE⟩
  have hl := lv_entry [.ref (b + 156), .int x1, .int x2] (n := 7) (Nat.le_of_ble_eq_true rfl)
  rw [lg_entry_eq]
  generalize (lg_sl [.ref (b + 156), .int x1, .int x2] ++ List.replicate (7 - (lg_sl [.ref (b + 156), .int x1, .int x2]).length) Slot.unset).toArray = ls at hl ⊢
  have hl : lv_has ls 7 [(0, .ref (b + 156)), (1, .int x1), (2, .int x2)] := hl
  exact w_X5_memberOf_0 C hml B.returns B.notSynchronized h va_S.rf hW hl
def f_X5_memberAt_27 (M : Mem) (x3 : Int32) (xs1 : Int32) : Option (Int32 × Mem) :=
  if ((mu M 39 0 xs1) 39 0) ≤ 0 then (if x3 < 0 ∨ 60 ≤ x3.toNatClampNeg then none else some ((mu M 39 0 xs1) 21 x3.toNatClampNeg, mu M 39 0 xs1)) else some ((0 : Int32), mu M 39 0 xs1)
set_option maxHeartbeats 4000000 in
set_option maxRecDepth 100000 in
theorem w_X5_memberAt_27 {p : Program} {l : Launch} {e : Env} {s : State} {m : MethodId} {args : Array Value} {below : List Frame} {meth : Method} {c : Code} {Z : Zt} {b : Nat} (C : Cx p s m args c cX5_memberAt RX5 Z b) (hml : c.maxLocals = 4) (hr : meth.sig.returnType = (some .int)) (hlk : meth.locks = false) {r' : Int32} {M' : Mem} {M : Mem} {x3 : Int32} {xs1 : Int32} (h : f_X5_memberAt_27 M x3 xs1 = some (r', M')) {H : Heap} {locs : List Loc} {ls : Array Slot} (hS : va_S (A0 b) s.heap H locs) (hW : Wd Z b M H) (hl : lv_has ls 4 [(0, .ref (b + 156)), (3, .int x3)]) : W p l e rm_X5_memberAt s m args below meth c H locs 0 0 (MQ below (Qn Z b (some (.int r')) M') args s 0 0 (A0 b)) (F0 m 27 ls [.int xs1, .ref (b + 156)]) := by
  unfold f_X5_memberAt_27 at h
  have hx := C.1
  have hb := C.2.1
  refine pX5_56 C hS hW dX5_memberAt_27 (fun H locs hW hS => ?_)
  refine lv_aload_n hx hb dX5_memberAt_30 rfl (lv_at hl 0 rfl) ?_
  refine gX5_56 C hW dX5_memberAt_31 ?_
  refine lv_if_le (tgt := 41) hx hb dX5_memberAt_34 (by decide) (fun c34 => ?_) (fun c34 => ?_)
  · have h := (if_pos c34).symm.trans h
    refine lv_aload_n hx hb dX5_memberAt_41 rfl (lv_at hl 0 rfl) ?_
    refine gX5_13 C hW dX5_memberAt_42 ?_
    refine lv_iload_n hx hb dX5_memberAt_45 rfl (lv_at hl 1 rfl) ?_
    obtain ⟨g46, h⟩ := gd h
    refine ald_158 C hW g46 dX5_memberAt_46 ?_
    cases h
    exact ret_i C hr hlk hS hW dX5_memberAt_47
  · have h := (if_neg c34).symm.trans h
    refine lv_iconst (v := (0 : Int32)) hx hb dX5_memberAt_37 (by decide) ?_
    refine lv_goto (tgt := 47) hx hb dX5_memberAt_38 (by decide) ?_
    cases h
    exact ret_i C hr hlk hS hW dX5_memberAt_47
def f_X5_memberAt_0 (M : Mem) (x1 : Int32) (x2 : Int32) : Option (Int32 × Mem) :=
  bd2 (f_X5_asks M x1) (fun r2 M2 => if r2 = 0 then some ((0 : Int32), M2) else bd2 (f_X5_memberOf M2 x1 x2) (fun r13 M13 => if 0 ≤ r13 then f_X5_memberAt_27 M13 r13 (0 : Int32) else f_X5_memberAt_27 M13 r13 (2 : Int32)))
set_option maxHeartbeats 4000000 in
set_option maxRecDepth 100000 in
theorem w_X5_memberAt_0 {p : Program} {l : Launch} {e : Env} {s : State} {m : MethodId} {args : Array Value} {below : List Frame} {meth : Method} {c : Code} {Z : Zt} {b : Nat} (C : Cx p s m args c cX5_memberAt RX5 Z b) (hml : c.maxLocals = 4) (hr : meth.sig.returnType = (some .int)) (hlk : meth.locks = false) {r' : Int32} {M' : Mem} {M : Mem} {x1 : Int32} {x2 : Int32} (h : f_X5_memberAt_0 M x1 x2 = some (r', M')) {H : Heap} {locs : List Loc} {ls : Array Slot} (hS : va_S (A0 b) s.heap H locs) (hW : Wd Z b M H) (hl : lv_has ls 4 [(0, .ref (b + 156)), (1, .int x1), (2, .int x2)]) : W p l e rm_X5_memberAt s m args below meth c H locs 0 0 (MQ below (Qn Z b (some (.int r')) M') args s 0 0 (A0 b)) (F0 m 0 ls []) := by
  unfold f_X5_memberAt_0 at h
  have hx := C.1
  have hb := C.2.1
  refine lv_aload_n hx hb dX5_memberAt_0 rfl (lv_at hl 0 rfl) ?_
  refine lv_iload_n hx hb dX5_memberAt_1 rfl (lv_at hl 1 rfl) ?_
  obtain ⟨r2, M2, hc2, h⟩ := bd2_e h
  refine kX5_155 C hml hl.1 (c_X5_asks hc2) ⟨Nat.le_of_ble_eq_true rfl, Nat.le_of_ble_eq_true rfl⟩ ⟨Nat.le_of_ble_eq_true rfl, Nat.le_of_ble_eq_true rfl⟩ (Nat.le_of_ble_eq_true rfl) hS hW dX5_memberAt_2 (fun H locs hW hS => ?_)
  refine lv_if_ne (tgt := 10) hx hb dX5_memberAt_5 (by decide) (fun c5 => ?_) (fun c5 => ?_)
  · have h := (if_neg c5).symm.trans h
    refine lv_aload_n hx hb dX5_memberAt_10 rfl (lv_at hl 0 rfl) ?_
    refine lv_iload_n hx hb dX5_memberAt_11 rfl (lv_at hl 1 rfl) ?_
    refine lv_iload_n hx hb dX5_memberAt_12 rfl (lv_at hl 2 rfl) ?_
    obtain ⟨r13, M13, hc13, h⟩ := bd2_e h
    refine kX5_164 C hml hl.1 (c_X5_memberOf hc13) ⟨Nat.le_of_ble_eq_true rfl, Nat.le_of_ble_eq_true rfl⟩ ⟨Nat.le_of_ble_eq_true rfl, Nat.le_of_ble_eq_true rfl⟩ (Nat.le_of_ble_eq_true rfl) hS hW dX5_memberAt_13 (fun H locs hW hS => ?_)
    refine lv_istore_n (lv' := [(3, .int r13), (0, .ref (b + 156)), (1, .int x1), (2, .int x2)]) hx hb dX5_memberAt_16 rfl hl (by decide) rfl (fun ls hl => ?_)
    refine lv_aload_n hx hb dX5_memberAt_17 rfl (lv_at hl 1 rfl) ?_
    refine lv_iload_n hx hb dX5_memberAt_18 rfl (lv_at hl 0 rfl) ?_
    refine lv_if_ge (tgt := 26) hx hb dX5_memberAt_19 (by decide) (fun c19 => ?_) (fun c19 => ?_)
    · have h := (if_pos c19).symm.trans h
      refine lv_iconst (v := (0 : Int32)) hx hb dX5_memberAt_26 (by decide) ?_
      exact w_X5_memberAt_27 C hml hr hlk h hS hW (lv_sub hl [1, 0] rfl)
    · have h := (if_neg c19).symm.trans h
      refine lv_iconst (v := (2 : Int32)) hx hb dX5_memberAt_22 (by decide) ?_
      refine lv_goto (tgt := 27) hx hb dX5_memberAt_23 (by decide) ?_
      exact w_X5_memberAt_27 C hml hr hlk h hS hW (lv_sub hl [1, 0] rfl)
  · have h := (if_pos c5).symm.trans h
    refine lv_iconst (v := (0 : Int32)) hx hb dX5_memberAt_8 (by decide) ?_
    cases h
    exact ret_i C hr hlk hS hW dX5_memberAt_9
def f_X5_memberAt (M : Mem) (x1 : Int32) (x2 : Int32) : Option (Int32 × Mem) := f_X5_memberAt_0 M x1 x2
set_option maxHeartbeats 4000000 in
set_option maxRecDepth 100000 in
theorem c_X5_memberAt {l : Launch} {Z : Zt} {b : Nat} {M : Mem} {x1 : Int32} {x2 : Int32} {r' : Int32} {M' : Mem} (h : f_X5_memberAt M x1 x2 = some (r', M')) : Ct l yX5_memberAt cX5_memberAt 4 (some .int) rm_X5_memberAt Z b [.ref (b + 156), .int x1, .int x2] M (some (.int r')) M' := by
  refine Met.ofW (cc := cX5_memberAt) (maxL := 4) (ret := (some .int)) (by decide) rfl ?_
  intro p e s m args below meth c s₁ B hml hv
  obtain ⟨rfl, hE, hW⟩ := hv
  have C : Cx p s m [.ref (b + 156), .int x1, .int x2].toArray c cX5_memberAt RX5 Z b := ⟨B.exec, B.bytes, findClass_of_methodNamed B.named, fun w hw => atoms_spec (ws := Cond.code yX5_memberAt cX5_memberAt 4 (some .int) :: wsA) B.pre w (List.mem_cons_of_mem _ hw), hE⟩
  have hl := lv_entry [.ref (b + 156), .int x1, .int x2] (n := 4) (Nat.le_of_ble_eq_true rfl)
  rw [lg_entry_eq]
  generalize (lg_sl [.ref (b + 156), .int x1, .int x2] ++ List.replicate (4 - (lg_sl [.ref (b + 156), .int x1, .int x2]).length) Slot.unset).toArray = ls at hl ⊢
  have hl : lv_has ls 4 [(0, .ref (b + 156)), (1, .int x1), (2, .int x2)] := hl
  exact w_X5_memberAt_0 C hml B.returns B.notSynchronized h va_S.rf hW hl
def f_X5_order_123B (K123 : Mem → Int32 → Int32 → Int32 → Int32 → Int32 → Option (Int32 × Mem)) (M : Mem) (x2 : Int32) (x3 : Int32) (x7 : Int32) (x8 : Int32) (x9 : Int32) : Option (Int32 × Mem) :=
  if x8 ≤ x9 then some (x7, M) else bd2 (f_X5_memberOf M (x2 / (10 : Int32)) x3) (fun r136 M136 => if r136 < 0 ∨ 60 ≤ r136.toNatClampNeg then none else K123 (mu (mu M136 25 0 ((M136 25 0) + (1 : Int32))) 24 r136.toNatClampNeg ((mu M136 25 0 ((M136 25 0) + (1 : Int32))) 25 0)) x2 x3 x7 x8 (x9 + 1))
def f_X5_order_123 : Nat → Mem → Int32 → Int32 → Int32 → Int32 → Int32 → Option (Int32 × Mem)
  | 0 => fun _ _ _ _ _ _ => none
  | n + 1 => f_X5_order_123B (f_X5_order_123 n)
set_option maxHeartbeats 4000000 in
set_option maxRecDepth 100000 in
theorem w_X5_order_123 {p : Program} {l : Launch} {e : Env} {s : State} {m : MethodId} {args : Array Value} {below : List Frame} {meth : Method} {c : Code} {Z : Zt} {b : Nat} (C : Cx p s m args c cX5_order RX5 Z b) (hml : c.maxLocals = 11) (hr : meth.sig.returnType = (some .int)) (hlk : meth.locks = false) {r' : Int32} {M' : Mem} : ∀ (n : Nat) {M : Mem} {x2 : Int32} {x3 : Int32} {x7 : Int32} {x8 : Int32} {x9 : Int32} (h : f_X5_order_123 n M x2 x3 x7 x8 x9 = some (r', M')) {H : Heap} {locs : List Loc} {ls : Array Slot} (hS : va_S (A0 b) s.heap H locs) (hW : Wd Z b M H) (hl : lv_has ls 11 [(0, .ref (b + 156)), (2, .int x2), (3, .int x3), (7, .int x7), (8, .int x8), (9, .int x9)]), W p l e rm_X5_order s m args below meth c H locs 0 0 (MQ below (Qn Z b (some (.int r')) M') args s 0 0 (A0 b)) (F0 m 123 ls []) := by
  intro n
  induction n with
  | zero =>
    intro M x2 x3 x7 x8 x9 h
    cases h
  | succ n ih =>
    intro M x2 x3 x7 x8 x9 h H locs ls hS hW hl
    have h : f_X5_order_123B (f_X5_order_123 n) M x2 x3 x7 x8 x9 = some (r', M') := h
    unfold f_X5_order_123B at h
    have hK123 := @ih
    have hx := C.1
    have hb := C.2.1
    refine lv_iload hx hb dX5_order_123 (lv_at hl 5 rfl) ?_
    refine lv_iload hx hb dX5_order_125 (lv_at hl 4 rfl) ?_
    refine lv_icmp_ge (tgt := 168) hx hb dX5_order_127 (by decide) (fun c127 => ?_) (fun c127 => ?_)
    · have h := (if_pos c127).symm.trans h
      refine lv_iload hx hb dX5_order_168 (lv_at hl 3 rfl) ?_
      cases h
      exact ret_i C hr hlk hS hW dX5_order_170
    · have h := (if_neg c127).symm.trans h
      refine lv_aload_n hx hb dX5_order_130 rfl (lv_at hl 0 rfl) ?_
      refine lv_iload_n hx hb dX5_order_131 rfl (lv_at hl 1 rfl) ?_
      refine lv_bipush (v := (10 : Int32)) hx hb dX5_order_132 (by decide) ?_
      refine lv_idiv hx hb dX5_order_134 (by decide) ?_
      refine lv_iload_n hx hb dX5_order_135 rfl (lv_at hl 2 rfl) ?_
      obtain ⟨r136, M136, hc136, h⟩ := bd2_e h
      refine kX5_164 C hml hl.1 (c_X5_memberOf hc136) ⟨Nat.le_of_ble_eq_true rfl, Nat.le_of_ble_eq_true rfl⟩ ⟨Nat.le_of_ble_eq_true rfl, Nat.le_of_ble_eq_true rfl⟩ (Nat.le_of_ble_eq_true rfl) hS hW dX5_order_136 (fun H locs hW hS => ?_)
      refine lv_istore (lv' := [(10, .int r136), (0, .ref (b + 156)), (2, .int x2), (3, .int x3), (7, .int x7), (8, .int x8), (9, .int x9)]) hx hb dX5_order_139 hl (by decide) rfl (fun ls hl => ?_)
      refine lv_aload_n hx hb dX5_order_141 rfl (lv_at hl 1 rfl) ?_
      refine lv_dup hx hb dX5_order_142 rfl ?_
      refine gX5_82 C hW dX5_order_143 ?_
      refine lv_iconst (v := (1 : Int32)) hx hb dX5_order_146 (by decide) ?_
      refine lv_iadd hx hb dX5_order_147 ?_
      refine pX5_82 C hS hW dX5_order_148 (fun H locs hW hS => ?_)
      refine lv_aload_n hx hb dX5_order_151 rfl (lv_at hl 1 rfl) ?_
      refine gX5_23 C hW dX5_order_152 ?_
      refine lv_iload hx hb dX5_order_155 (lv_at hl 0 rfl) ?_
      refine lv_aload_n hx hb dX5_order_157 rfl (lv_at hl 1 rfl) ?_
      refine gX5_82 C hW dX5_order_158 ?_
      obtain ⟨g161, h⟩ := gd h
      refine ast_161 C hS hW g161 dX5_order_161 (fun H locs hW hS => ?_)
      refine lv_iinc (v := x9 + 1) (lv' := [(9, .int (x9 + 1)), (10, .int r136), (0, .ref (b + 156)), (2, .int x2), (3, .int x3), (7, .int x7), (8, .int x8)]) hx hb dX5_order_162 hl (k := 6) rfl rfl (by decide) rfl (fun ls hl => ?_)
      refine lv_goto (tgt := 123) hx hb dX5_order_165 (by decide) ?_
      exact hK123 h hS hW (lv_sub hl [2, 3, 4, 5, 6, 0] rfl)
def f_X5_order_78 (M : Mem) (x2 : Int32) (x3 : Int32) (x6 : Int32) (xs0 : Int32) : Option (Int32 × Mem) :=
  if xs0 = 0 then (if x6 < 0 ∨ 60 ≤ x6.toNatClampNeg then none else bd2 (f_X5_membersOf (mu (mu M 25 0 ((M 25 0) + (1 : Int32))) 24 x6.toNatClampNeg ((mu M 25 0 ((M 25 0) + (1 : Int32))) 25 0)) (x2 / (10 : Int32))) (fun r111 M111 => f_X5_order_123 64 M111 x2 x3 xs0 ((r111 - (1 : Int32)) - x3) (0 : Int32))) else some (xs0, M)
set_option maxHeartbeats 4000000 in
set_option maxRecDepth 100000 in
theorem w_X5_order_78 {p : Program} {l : Launch} {e : Env} {s : State} {m : MethodId} {args : Array Value} {below : List Frame} {meth : Method} {c : Code} {Z : Zt} {b : Nat} (C : Cx p s m args c cX5_order RX5 Z b) (hml : c.maxLocals = 11) (hr : meth.sig.returnType = (some .int)) (hlk : meth.locks = false) {r' : Int32} {M' : Mem} {M : Mem} {x2 : Int32} {x3 : Int32} {x6 : Int32} {xs0 : Int32} (h : f_X5_order_78 M x2 x3 x6 xs0 = some (r', M')) {H : Heap} {locs : List Loc} {ls : Array Slot} (hS : va_S (A0 b) s.heap H locs) (hW : Wd Z b M H) (hl : lv_has ls 11 [(0, .ref (b + 156)), (2, .int x2), (3, .int x3), (6, .int x6)]) : W p l e rm_X5_order s m args below meth c H locs 0 0 (MQ below (Qn Z b (some (.int r')) M') args s 0 0 (A0 b)) (F0 m 78 ls [.int xs0]) := by
  unfold f_X5_order_78 at h
  have hx := C.1
  have hb := C.2.1
  refine lv_istore (lv' := [(7, .int xs0), (0, .ref (b + 156)), (2, .int x2), (3, .int x3), (6, .int x6)]) hx hb dX5_order_78 hl (by decide) rfl (fun ls hl => ?_)
  refine lv_iload hx hb dX5_order_80 (lv_at hl 0 rfl) ?_
  refine lv_if_ne (tgt := 168) hx hb dX5_order_82 (by decide) (fun c82 => ?_) (fun c82 => ?_)
  · have h := (if_neg c82).symm.trans h
    refine lv_iload hx hb dX5_order_168 (lv_at hl 0 rfl) ?_
    cases h
    exact ret_i C hr hlk hS hW dX5_order_170
  · have h := (if_pos c82).symm.trans h
    refine lv_aload_n hx hb dX5_order_85 rfl (lv_at hl 1 rfl) ?_
    refine lv_dup hx hb dX5_order_86 rfl ?_
    refine gX5_82 C hW dX5_order_87 ?_
    refine lv_iconst (v := (1 : Int32)) hx hb dX5_order_90 (by decide) ?_
    refine lv_iadd hx hb dX5_order_91 ?_
    refine pX5_82 C hS hW dX5_order_92 (fun H locs hW hS => ?_)
    refine lv_aload_n hx hb dX5_order_95 rfl (lv_at hl 1 rfl) ?_
    refine gX5_23 C hW dX5_order_96 ?_
    refine lv_iload hx hb dX5_order_99 (lv_at hl 4 rfl) ?_
    refine lv_aload_n hx hb dX5_order_101 rfl (lv_at hl 1 rfl) ?_
    refine gX5_82 C hW dX5_order_102 ?_
    obtain ⟨g105, h⟩ := gd h
    refine ast_161 C hS hW g105 dX5_order_105 (fun H locs hW hS => ?_)
    refine lv_aload_n hx hb dX5_order_106 rfl (lv_at hl 1 rfl) ?_
    refine lv_iload_n hx hb dX5_order_107 rfl (lv_at hl 2 rfl) ?_
    refine lv_bipush (v := (10 : Int32)) hx hb dX5_order_108 (by decide) ?_
    refine lv_idiv hx hb dX5_order_110 (by decide) ?_
    obtain ⟨r111, M111, hc111, h⟩ := bd2_e h
    refine kX5_161 C hml hl.1 (c_X5_membersOf hc111) ⟨Nat.le_of_ble_eq_true rfl, Nat.le_of_ble_eq_true rfl⟩ ⟨Nat.le_of_ble_eq_true rfl, Nat.le_of_ble_eq_true rfl⟩ (Nat.le_of_ble_eq_true rfl) hS hW dX5_order_111 (fun H locs hW hS => ?_)
    refine lv_iconst (v := (1 : Int32)) hx hb dX5_order_114 (by decide) ?_
    refine lv_isub hx hb dX5_order_115 ?_
    refine lv_iload_n hx hb dX5_order_116 rfl (lv_at hl 3 rfl) ?_
    refine lv_isub hx hb dX5_order_117 ?_
    refine lv_istore (lv' := [(8, .int ((r111 - (1 : Int32)) - x3)), (7, .int xs0), (0, .ref (b + 156)), (2, .int x2), (3, .int x3), (6, .int x6)]) hx hb dX5_order_118 hl (by decide) rfl (fun ls hl => ?_)
    refine lv_iconst (v := (0 : Int32)) hx hb dX5_order_120 (by decide) ?_
    refine lv_istore (lv' := [(9, .int (0 : Int32)), (8, .int ((r111 - (1 : Int32)) - x3)), (7, .int xs0), (0, .ref (b + 156)), (2, .int x2), (3, .int x3), (6, .int x6)]) hx hb dX5_order_121 hl (by decide) rfl (fun ls hl => ?_)
    exact w_X5_order_123 C hml hr hlk 64 h hS hW (lv_sub hl [3, 4, 5, 2, 1, 0] rfl)
def f_X5_order_33 (M : Mem) (x1 : Int32) (x2 : Int32) (x3 : Int32) (x4 : Int32) (x5 : Int32) (xs1 : Int32) : Option (Int32 × Mem) :=
  if x5 = 0 then some ((0 : Int32), mu M 39 0 xs1) else bd2 (f_X5_place (mu M 39 0 xs1) x2) (fun r45 M45 => if 0 ≤ r45 then bd2 (f_X5_may M45 x1 (x2 / (10 : Int32)) x4) (fun r67 M67 => if r67 = 0 then f_X5_order_78 M67 x2 x3 r45 (4 : Int32) else f_X5_order_78 M67 x2 x3 r45 (0 : Int32)) else f_X5_order_78 M45 x2 x3 r45 (1 : Int32))
set_option maxHeartbeats 4000000 in
set_option maxRecDepth 100000 in
theorem w_X5_order_33 {p : Program} {l : Launch} {e : Env} {s : State} {m : MethodId} {args : Array Value} {below : List Frame} {meth : Method} {c : Code} {Z : Zt} {b : Nat} (C : Cx p s m args c cX5_order RX5 Z b) (hml : c.maxLocals = 11) (hr : meth.sig.returnType = (some .int)) (hlk : meth.locks = false) {r' : Int32} {M' : Mem} {M : Mem} {x1 : Int32} {x2 : Int32} {x3 : Int32} {x4 : Int32} {x5 : Int32} {xs1 : Int32} (h : f_X5_order_33 M x1 x2 x3 x4 x5 xs1 = some (r', M')) {H : Heap} {locs : List Loc} {ls : Array Slot} (hS : va_S (A0 b) s.heap H locs) (hW : Wd Z b M H) (hl : lv_has ls 11 [(0, .ref (b + 156)), (1, .int x1), (2, .int x2), (3, .int x3), (4, .int x4), (5, .int x5)]) : W p l e rm_X5_order s m args below meth c H locs 0 0 (MQ below (Qn Z b (some (.int r')) M') args s 0 0 (A0 b)) (F0 m 33 ls [.int xs1, .ref (b + 156)]) := by
  unfold f_X5_order_33 at h
  have hx := C.1
  have hb := C.2.1
  refine pX5_56 C hS hW dX5_order_33 (fun H locs hW hS => ?_)
  refine lv_iload hx hb dX5_order_36 (lv_at hl 5 rfl) ?_
  refine lv_if_ne (tgt := 43) hx hb dX5_order_38 (by decide) (fun c38 => ?_) (fun c38 => ?_)
  · have h := (if_neg c38).symm.trans h
    refine lv_aload_n hx hb dX5_order_43 rfl (lv_at hl 0 rfl) ?_
    refine lv_iload_n hx hb dX5_order_44 rfl (lv_at hl 2 rfl) ?_
    obtain ⟨r45, M45, hc45, h⟩ := bd2_e h
    refine kX5_74 C hml hl.1 (c_X5_place hc45) ⟨Nat.le_of_ble_eq_true rfl, Nat.le_of_ble_eq_true rfl⟩ ⟨Nat.le_of_ble_eq_true rfl, Nat.le_of_ble_eq_true rfl⟩ (Nat.le_of_ble_eq_true rfl) hS hW dX5_order_45 (fun H locs hW hS => ?_)
    refine lv_istore (lv' := [(6, .int r45), (0, .ref (b + 156)), (1, .int x1), (2, .int x2), (3, .int x3), (4, .int x4), (5, .int x5)]) hx hb dX5_order_48 hl (by decide) rfl (fun ls hl => ?_)
    refine lv_iload hx hb dX5_order_50 (lv_at hl 0 rfl) ?_
    refine lv_if_ge (tgt := 59) hx hb dX5_order_52 (by decide) (fun c52 => ?_) (fun c52 => ?_)
    · have h := (if_pos c52).symm.trans h
      refine lv_aload_n hx hb dX5_order_59 rfl (lv_at hl 1 rfl) ?_
      refine lv_iload_n hx hb dX5_order_60 rfl (lv_at hl 2 rfl) ?_
      refine lv_iload_n hx hb dX5_order_61 rfl (lv_at hl 3 rfl) ?_
      refine lv_bipush (v := (10 : Int32)) hx hb dX5_order_62 (by decide) ?_
      refine lv_idiv hx hb dX5_order_64 (by decide) ?_
      refine lv_iload hx hb dX5_order_65 (lv_at hl 5 rfl) ?_
      obtain ⟨r67, M67, hc67, h⟩ := bd2_e h
      refine kX5_103 C hml hl.1 (c_X5_may hc67) ⟨Nat.le_of_ble_eq_true rfl, Nat.le_of_ble_eq_true rfl⟩ ⟨Nat.le_of_ble_eq_true rfl, Nat.le_of_ble_eq_true rfl⟩ (Nat.le_of_ble_eq_true rfl) hS hW dX5_order_67 (fun H locs hW hS => ?_)
      refine lv_if_eq (tgt := 77) hx hb dX5_order_70 (by decide) (fun c70 => ?_) (fun c70 => ?_)
      · have h := (if_pos c70).symm.trans h
        refine lv_iconst (v := (4 : Int32)) hx hb dX5_order_77 (by decide) ?_
        exact w_X5_order_78 C hml hr hlk h hS hW (lv_sub hl [1, 3, 4, 0] rfl)
      · have h := (if_neg c70).symm.trans h
        refine lv_iconst (v := (0 : Int32)) hx hb dX5_order_73 (by decide) ?_
        refine lv_goto (tgt := 78) hx hb dX5_order_74 (by decide) ?_
        exact w_X5_order_78 C hml hr hlk h hS hW (lv_sub hl [1, 3, 4, 0] rfl)
    · have h := (if_neg c52).symm.trans h
      refine lv_iconst (v := (1 : Int32)) hx hb dX5_order_55 (by decide) ?_
      refine lv_goto (tgt := 78) hx hb dX5_order_56 (by decide) ?_
      exact w_X5_order_78 C hml hr hlk h hS hW (lv_sub hl [1, 3, 4, 0] rfl)
  · have h := (if_pos c38).symm.trans h
    refine lv_iconst (v := (0 : Int32)) hx hb dX5_order_41 (by decide) ?_
    cases h
    exact ret_i C hr hlk hS hW dX5_order_42
def f_X5_order_20 (M : Mem) (x1 : Int32) (x2 : Int32) (x3 : Int32) (x4 : Int32) (xs0 : Int32) : Option (Int32 × Mem) :=
  if xs0 = 0 then f_X5_order_33 M x1 x2 x3 x4 xs0 (1 : Int32) else f_X5_order_33 M x1 x2 x3 x4 xs0 (0 : Int32)
set_option maxHeartbeats 4000000 in
set_option maxRecDepth 100000 in
theorem w_X5_order_20 {p : Program} {l : Launch} {e : Env} {s : State} {m : MethodId} {args : Array Value} {below : List Frame} {meth : Method} {c : Code} {Z : Zt} {b : Nat} (C : Cx p s m args c cX5_order RX5 Z b) (hml : c.maxLocals = 11) (hr : meth.sig.returnType = (some .int)) (hlk : meth.locks = false) {r' : Int32} {M' : Mem} {M : Mem} {x1 : Int32} {x2 : Int32} {x3 : Int32} {x4 : Int32} {xs0 : Int32} (h : f_X5_order_20 M x1 x2 x3 x4 xs0 = some (r', M')) {H : Heap} {locs : List Loc} {ls : Array Slot} (hS : va_S (A0 b) s.heap H locs) (hW : Wd Z b M H) (hl : lv_has ls 11 [(0, .ref (b + 156)), (1, .int x1), (2, .int x2), (3, .int x3), (4, .int x4)]) : W p l e rm_X5_order s m args below meth c H locs 0 0 (MQ below (Qn Z b (some (.int r')) M') args s 0 0 (A0 b)) (F0 m 20 ls [.int xs0]) := by
  unfold f_X5_order_20 at h
  have hx := C.1
  have hb := C.2.1
  refine lv_istore (lv' := [(5, .int xs0), (0, .ref (b + 156)), (1, .int x1), (2, .int x2), (3, .int x3), (4, .int x4)]) hx hb dX5_order_20 hl (by decide) rfl (fun ls hl => ?_)
  refine lv_aload_n hx hb dX5_order_22 rfl (lv_at hl 1 rfl) ?_
  refine lv_iload hx hb dX5_order_23 (lv_at hl 0 rfl) ?_
  refine lv_if_eq (tgt := 32) hx hb dX5_order_25 (by decide) (fun c25 => ?_) (fun c25 => ?_)
  · have h := (if_pos c25).symm.trans h
    refine lv_iconst (v := (1 : Int32)) hx hb dX5_order_32 (by decide) ?_
    exact w_X5_order_33 C hml hr hlk h hS hW (lv_sub hl [1, 2, 3, 4, 5, 0] rfl)
  · have h := (if_neg c25).symm.trans h
    refine lv_iconst (v := (0 : Int32)) hx hb dX5_order_28 (by decide) ?_
    refine lv_goto (tgt := 33) hx hb dX5_order_29 (by decide) ?_
    exact w_X5_order_33 C hml hr hlk h hS hW (lv_sub hl [1, 2, 3, 4, 5, 0] rfl)
def f_X5_order_19 (M : Mem) (x1 : Int32) (x2 : Int32) (x3 : Int32) (x4 : Int32) : Option (Int32 × Mem) :=
  f_X5_order_20 M x1 x2 x3 x4 (0 : Int32)
set_option maxHeartbeats 4000000 in
set_option maxRecDepth 100000 in
theorem w_X5_order_19 {p : Program} {l : Launch} {e : Env} {s : State} {m : MethodId} {args : Array Value} {below : List Frame} {meth : Method} {c : Code} {Z : Zt} {b : Nat} (C : Cx p s m args c cX5_order RX5 Z b) (hml : c.maxLocals = 11) (hr : meth.sig.returnType = (some .int)) (hlk : meth.locks = false) {r' : Int32} {M' : Mem} {M : Mem} {x1 : Int32} {x2 : Int32} {x3 : Int32} {x4 : Int32} (h : f_X5_order_19 M x1 x2 x3 x4 = some (r', M')) {H : Heap} {locs : List Loc} {ls : Array Slot} (hS : va_S (A0 b) s.heap H locs) (hW : Wd Z b M H) (hl : lv_has ls 11 [(0, .ref (b + 156)), (1, .int x1), (2, .int x2), (3, .int x3), (4, .int x4)]) : W p l e rm_X5_order s m args below meth c H locs 0 0 (MQ below (Qn Z b (some (.int r')) M') args s 0 0 (A0 b)) (F0 m 19 ls []) := by
  unfold f_X5_order_19 at h
  have hx := C.1
  have hb := C.2.1
  refine lv_iconst (v := (0 : Int32)) hx hb dX5_order_19 (by decide) ?_
  exact w_X5_order_20 C hml hr hlk h hS hW (lv_sub hl [0, 1, 2, 3, 4] rfl)
def f_X5_order_0 (M : Mem) (x1 : Int32) (x2 : Int32) (x3 : Int32) (x4 : Int32) : Option (Int32 × Mem) :=
  bd2 (f_X5_isRight M x1 x2 x4) (fun r5 M5 => if r5 = 0 then f_X5_order_19 M5 x1 x2 x3 x4 else if x3 < 0 then f_X5_order_19 M5 x1 x2 x3 x4 else f_X5_order_20 M5 x1 x2 x3 x4 (1 : Int32))
set_option maxHeartbeats 4000000 in
set_option maxRecDepth 100000 in
theorem w_X5_order_0 {p : Program} {l : Launch} {e : Env} {s : State} {m : MethodId} {args : Array Value} {below : List Frame} {meth : Method} {c : Code} {Z : Zt} {b : Nat} (C : Cx p s m args c cX5_order RX5 Z b) (hml : c.maxLocals = 11) (hr : meth.sig.returnType = (some .int)) (hlk : meth.locks = false) {r' : Int32} {M' : Mem} {M : Mem} {x1 : Int32} {x2 : Int32} {x3 : Int32} {x4 : Int32} (h : f_X5_order_0 M x1 x2 x3 x4 = some (r', M')) {H : Heap} {locs : List Loc} {ls : Array Slot} (hS : va_S (A0 b) s.heap H locs) (hW : Wd Z b M H) (hl : lv_has ls 11 [(0, .ref (b + 156)), (1, .int x1), (2, .int x2), (3, .int x3), (4, .int x4)]) : W p l e rm_X5_order s m args below meth c H locs 0 0 (MQ below (Qn Z b (some (.int r')) M') args s 0 0 (A0 b)) (F0 m 0 ls []) := by
  unfold f_X5_order_0 at h
  have hx := C.1
  have hb := C.2.1
  refine lv_aload_n hx hb dX5_order_0 rfl (lv_at hl 0 rfl) ?_
  refine lv_iload_n hx hb dX5_order_1 rfl (lv_at hl 1 rfl) ?_
  refine lv_iload_n hx hb dX5_order_2 rfl (lv_at hl 2 rfl) ?_
  refine lv_iload hx hb dX5_order_3 (lv_at hl 4 rfl) ?_
  obtain ⟨r5, M5, hc5, h⟩ := bd2_e h
  refine kX5_106 C hml hl.1 (c_X5_isRight hc5) ⟨Nat.le_of_ble_eq_true rfl, Nat.le_of_ble_eq_true rfl⟩ ⟨Nat.le_of_ble_eq_true rfl, Nat.le_of_ble_eq_true rfl⟩ (Nat.le_of_ble_eq_true rfl) hS hW dX5_order_5 (fun H locs hW hS => ?_)
  refine lv_if_eq (tgt := 19) hx hb dX5_order_8 (by decide) (fun c8 => ?_) (fun c8 => ?_)
  · have h := (if_pos c8).symm.trans h
    exact w_X5_order_19 C hml hr hlk h hS hW (lv_sub hl [0, 1, 2, 3, 4] rfl)
  · have h := (if_neg c8).symm.trans h
    refine lv_iload_n hx hb dX5_order_11 rfl (lv_at hl 3 rfl) ?_
    refine lv_if_lt (tgt := 19) hx hb dX5_order_12 (by decide) (fun c12 => ?_) (fun c12 => ?_)
    · have h := (if_pos c12).symm.trans h
      exact w_X5_order_19 C hml hr hlk h hS hW (lv_sub hl [0, 1, 2, 3, 4] rfl)
    · have h := (if_neg c12).symm.trans h
      refine lv_iconst (v := (1 : Int32)) hx hb dX5_order_15 (by decide) ?_
      refine lv_goto (tgt := 20) hx hb dX5_order_16 (by decide) ?_
      exact w_X5_order_20 C hml hr hlk h hS hW (lv_sub hl [0, 1, 2, 3, 4] rfl)
def f_X5_order (M : Mem) (x1 : Int32) (x2 : Int32) (x3 : Int32) (x4 : Int32) : Option (Int32 × Mem) := f_X5_order_0 M x1 x2 x3 x4
set_option maxHeartbeats 4000000 in
set_option maxRecDepth 100000 in
theorem c_X5_order {l : Launch} {Z : Zt} {b : Nat} {M : Mem} {x1 : Int32} {x2 : Int32} {x3 : Int32} {x4 : Int32} {r' : Int32} {M' : Mem} (h : f_X5_order M x1 x2 x3 x4 = some (r', M')) : Ct l yX5_order cX5_order 11 (some .int) rm_X5_order Z b [.ref (b + 156), .int x1, .int x2, .int x3, .int x4] M (some (.int r')) M' := by
  refine Met.ofW (cc := cX5_order) (maxL := 11) (ret := (some .int)) (by decide) rfl ?_
  intro p e s m args below meth c s₁ B hml hv
  obtain ⟨rfl, hE, hW⟩ := hv
  have C : Cx p s m [.ref (b + 156), .int x1, .int x2, .int x3, .int x4].toArray c cX5_order RX5 Z b := ⟨B.exec, B.bytes, findClass_of_methodNamed B.named, fun w hw => atoms_spec (ws := Cond.code yX5_order cX5_order 11 (some .int) :: wsA) B.pre w (List.mem_cons_of_mem _ hw), hE⟩
  have hl := lv_entry [.ref (b + 156), .int x1, .int x2, .int x3, .int x4] (n := 11) (Nat.le_of_ble_eq_true rfl)
  rw [lg_entry_eq]
  generalize (lg_sl [.ref (b + 156), .int x1, .int x2, .int x3, .int x4] ++ List.replicate (11 - (lg_sl [.ref (b + 156), .int x1, .int x2, .int x3, .int x4]).length) Slot.unset).toArray = ls at hl ⊢
  have hl : lv_has ls 11 [(0, .ref (b + 156)), (1, .int x1), (2, .int x2), (3, .int x3), (4, .int x4)] := hl
  exact w_X5_order_0 C hml B.returns B.notSynchronized h va_S.rf hW hl

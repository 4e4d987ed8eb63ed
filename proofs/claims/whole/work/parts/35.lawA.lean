def f_L_law_1627 (xs : Nat → Int32) (L : Nat) (K23 : Mem → Int32 → Option (Int32 × Mem)) (M : Mem) (x4 : Int32) : Option (Int32 × Mem) :=
  K23 M (x4 + 7)
set_option maxHeartbeats 4000000 in
set_option maxRecDepth 100000 in
theorem w_L_law_1627 {p : Program} {l : Launch} {e : Env} {s : State} {m : MethodId} {below : List Frame} {meth : Method} {c : Code} {Z : Zt} {b sb L : Nat} {xs : Nat → Int32} (C : Cx p s m #[Value.ref sb] c cL_law RL Z b) (hml : c.maxLocals = 7) (hr : meth.sig.returnType = ret) (hlk : meth.locks = false) (hlf : l.stackTraces = false) (hX : va_X sb L xs s s.heap) (hbl : sb < s.heap.size) (hbb : b = s.heap.size) (n : Nat) {K23 : Mem → Int32 → Option (Int32 × Mem)} (hK23 : ∀ {M : Mem} {x4 : Int32} {M' : Mem} (h : K23 M x4 = some (1, M')) {H : Heap} {locs : List Loc} {ls : Array Slot} {cells slots : Nat} (hS : va_S (A0 b) s.heap H locs) (hW : Wd Z b M H) (hl : lv_has ls 7 [(0, .ref sb), (1, .ref (b + 0)), (2, .ref (b + 156)), (3, .ref (b + 172)), (4, .int x4)]) (hcs : cells + 8 * n ≤ 601024 ∧ slots + 48 * n ≤ 7293034), W p l e room_1 s m #[Value.ref sb] below meth c H locs cells slots (lw_Z below #[Value.ref sb] s) (F0 m 23 ls [])) {M : Mem} {x4 : Int32} {M' : Mem} (h : f_L_law_1627 xs L K23 M x4 = some (1, M')) {H : Heap} {locs : List Loc} {ls : Array Slot} {cells slots : Nat} (hS : va_S (A0 b) s.heap H locs) (hW : Wd Z b M H) (hl : lv_has ls 7 [(0, .ref sb), (1, .ref (b + 0)), (2, .ref (b + 156)), (3, .ref (b + 172)), (4, .int x4)]) (hcs : cells + 1 + 8 * n ≤ 601024 ∧ slots + 6 + 48 * n ≤ 7293034) : W p l e room_1 s m #[Value.ref sb] below meth c H locs cells slots (lw_Z below #[Value.ref sb] s) (F0 m 1627 ls []) := by
  unfold f_L_law_1627 at h
  have hx := C.1
  have hb := C.2.1
  have hbA : ¬ A0 b sb := by unfold A0; omega
  refine lv_iinc (v := x4 + 7) (lv' := [(4, .int (x4 + 7)), (0, .ref sb), (1, .ref (b + 0)), (2, .ref (b + 156)), (3, .ref (b + 172))]) hx hb dL_law_1627 hl (k := 4) rfl rfl (by decide) rfl (fun ls hl => ?_)
  refine lv_goto (tgt := 23) hx hb dL_law_1630 (by decide) ?_
  exact hK23 h hS hW (lv_sub hl [1, 2, 3, 4, 0] rfl) ⟨by omega, by omega⟩
def f_L_law_213 (xs : Nat → Int32) (L : Nat) (K23 : Mem → Int32 → Option (Int32 × Mem)) (M : Mem) (x4 : Int32) : Option (Int32 × Mem) :=
  f_L_law_1627 xs L K23 M x4
set_option maxHeartbeats 4000000 in
set_option maxRecDepth 100000 in
theorem w_L_law_213 {p : Program} {l : Launch} {e : Env} {s : State} {m : MethodId} {below : List Frame} {meth : Method} {c : Code} {Z : Zt} {b sb L : Nat} {xs : Nat → Int32} (C : Cx p s m #[Value.ref sb] c cL_law RL Z b) (hml : c.maxLocals = 7) (hr : meth.sig.returnType = ret) (hlk : meth.locks = false) (hlf : l.stackTraces = false) (hX : va_X sb L xs s s.heap) (hbl : sb < s.heap.size) (hbb : b = s.heap.size) (n : Nat) {K23 : Mem → Int32 → Option (Int32 × Mem)} (hK23 : ∀ {M : Mem} {x4 : Int32} {M' : Mem} (h : K23 M x4 = some (1, M')) {H : Heap} {locs : List Loc} {ls : Array Slot} {cells slots : Nat} (hS : va_S (A0 b) s.heap H locs) (hW : Wd Z b M H) (hl : lv_has ls 7 [(0, .ref sb), (1, .ref (b + 0)), (2, .ref (b + 156)), (3, .ref (b + 172)), (4, .int x4)]) (hcs : cells + 8 * n ≤ 601024 ∧ slots + 48 * n ≤ 7293034), W p l e room_1 s m #[Value.ref sb] below meth c H locs cells slots (lw_Z below #[Value.ref sb] s) (F0 m 23 ls [])) {M : Mem} {x4 : Int32} {M' : Mem} (h : f_L_law_213 xs L K23 M x4 = some (1, M')) {H : Heap} {locs : List Loc} {ls : Array Slot} {cells slots : Nat} (hS : va_S (A0 b) s.heap H locs) (hW : Wd Z b M H) (hl : lv_has ls 7 [(0, .ref sb), (1, .ref (b + 0)), (2, .ref (b + 156)), (3, .ref (b + 172)), (4, .int x4)]) (hcs : cells + 4 + 8 * n ≤ 601024 ∧ slots + 24 + 48 * n ≤ 7293034) : W p l e room_1 s m #[Value.ref sb] below meth c H locs cells slots (lw_Z below #[Value.ref sb] s) (F0 m 213 ls []) := by
  unfold f_L_law_213 at h
  have hx := C.1
  have hb := C.2.1
  have hbA : ¬ A0 b sb := by unfold A0; omega
  refine lv_goto (tgt := 1627) hx hb dL_law_213 (by decide) ?_
  exact w_L_law_1627 C hml hr hlk hlf hX hbl hbb n hK23 h hS hW (lv_sub hl [0, 1, 2, 3, 4] rfl) ⟨by omega, by omega⟩
def f_L_law_136 (xs : Nat → Int32) (L : Nat) (K23 : Mem → Int32 → Option (Int32 × Mem)) (M : Mem) (x4 : Int32) : Option (Int32 × Mem) :=
  if (x4 + (1 : Int32)) < 0 ∨ L ≤ (x4 + (1 : Int32)).toNatClampNeg then none else if (x4 + (2 : Int32)) < 0 ∨ L ≤ (x4 + (2 : Int32)).toNatClampNeg then none else if (x4 + (3 : Int32)) < 0 ∨ L ≤ (x4 + (3 : Int32)).toNatClampNeg then none else bd2 (f_L_makeCollection M (xs (x4 + (1 : Int32)).toNatClampNeg) (xs (x4 + (2 : Int32)).toNatClampNeg) (xs (x4 + (3 : Int32)).toNatClampNeg)) (fun r156 M156 => if (x4 + (1 : Int32)) < 0 ∨ L ≤ (x4 + (1 : Int32)).toNatClampNeg then none else if (x4 + (2 : Int32)) < 0 ∨ L ≤ (x4 + (2 : Int32)).toNatClampNeg then none else if (x4 + (3 : Int32)) < 0 ∨ L ≤ (x4 + (3 : Int32)).toNatClampNeg then none else bd2 (f_X5_makeCollection M156 (xs (x4 + (1 : Int32)).toNatClampNeg) (xs (x4 + (2 : Int32)).toNatClampNeg) (xs (x4 + (3 : Int32)).toNatClampNeg)) (fun r180 M180 => bd2 (f_X5_thrown M180) (fun r186 M186 => if r186 = r156 then (if r156 = 0 then (if (0 : Int32) < 0 ∨ 1 ≤ (0 : Int32).toNatClampNeg then none else if (lg_cmp (M186 40 (0 : Int32).toNatClampNeg).toInt64 r180.toInt64) = 0 then f_L_law_213 xs L K23 M186 x4 else some ((0 : Int32), M186)) else f_L_law_213 xs L K23 M186 x4) else some ((0 : Int32), M186))))
set_option maxHeartbeats 4000000 in
set_option maxRecDepth 100000 in
theorem w_L_law_136 {p : Program} {l : Launch} {e : Env} {s : State} {m : MethodId} {below : List Frame} {meth : Method} {c : Code} {Z : Zt} {b sb L : Nat} {xs : Nat → Int32} (C : Cx p s m #[Value.ref sb] c cL_law RL Z b) (hml : c.maxLocals = 7) (hr : meth.sig.returnType = ret) (hlk : meth.locks = false) (hlf : l.stackTraces = false) (hX : va_X sb L xs s s.heap) (hbl : sb < s.heap.size) (hbb : b = s.heap.size) (n : Nat) {K23 : Mem → Int32 → Option (Int32 × Mem)} (hK23 : ∀ {M : Mem} {x4 : Int32} {M' : Mem} (h : K23 M x4 = some (1, M')) {H : Heap} {locs : List Loc} {ls : Array Slot} {cells slots : Nat} (hS : va_S (A0 b) s.heap H locs) (hW : Wd Z b M H) (hl : lv_has ls 7 [(0, .ref sb), (1, .ref (b + 0)), (2, .ref (b + 156)), (3, .ref (b + 172)), (4, .int x4)]) (hcs : cells + 8 * n ≤ 601024 ∧ slots + 48 * n ≤ 7293034), W p l e room_1 s m #[Value.ref sb] below meth c H locs cells slots (lw_Z below #[Value.ref sb] s) (F0 m 23 ls [])) {M : Mem} {x4 : Int32} {M' : Mem} (h : f_L_law_136 xs L K23 M x4 = some (1, M')) {H : Heap} {locs : List Loc} {ls : Array Slot} {cells slots : Nat} (hS : va_S (A0 b) s.heap H locs) (hW : Wd Z b M H) (hl : lv_has ls 7 [(0, .ref sb), (1, .ref (b + 0)), (2, .ref (b + 156)), (3, .ref (b + 172)), (4, .int x4)]) (hcs : cells + 8 + 8 * n ≤ 601024 ∧ slots + 48 + 48 * n ≤ 7293034) : W p l e room_1 s m #[Value.ref sb] below meth c H locs cells slots (lw_Z below #[Value.ref sb] s) (F0 m 136 ls []) := by
  unfold f_L_law_136 at h
  have hx := C.1
  have hb := C.2.1
  have hbA : ¬ A0 b sb := by unfold A0; omega
  refine lv_aload_n hx hb dL_law_136 rfl (lv_at hl 1 rfl) ?_
  refine lv_aload_n hx hb dL_law_137 rfl (lv_at hl 0 rfl) ?_
  refine lv_iload hx hb dL_law_138 (lv_at hl 4 rfl) ?_
  refine lv_iconst (v := (1 : Int32)) hx hb dL_law_140 (by decide) ?_
  refine lv_iadd hx hb dL_law_141 ?_
  obtain ⟨g142, h⟩ := gd h
  refine va_sld hx hb hX hbl hbA hS g142 dL_law_142 ?_
  refine lv_aload_n hx hb dL_law_143 rfl (lv_at hl 0 rfl) ?_
  refine lv_iload hx hb dL_law_144 (lv_at hl 4 rfl) ?_
  refine lv_iconst (v := (2 : Int32)) hx hb dL_law_146 (by decide) ?_
  refine lv_iadd hx hb dL_law_147 ?_
  obtain ⟨g148, h⟩ := gd h
  refine va_sld hx hb hX hbl hbA hS g148 dL_law_148 ?_
  refine lv_aload_n hx hb dL_law_149 rfl (lv_at hl 0 rfl) ?_
  refine lv_iload hx hb dL_law_150 (lv_at hl 4 rfl) ?_
  refine lv_iconst (v := (3 : Int32)) hx hb dL_law_152 (by decide) ?_
  refine lv_iadd hx hb dL_law_153 ?_
  obtain ⟨g154, h⟩ := gd h
  refine va_sld hx hb hX hbl hbA hS g154 dL_law_154 ?_
  refine lv_aload_n hx hb dL_law_155 rfl (lv_at hl 3 rfl) ?_
  obtain ⟨r156, M156, hc156, h⟩ := bd2_e h
  refine kL_81 C hml hl.1 (c_L_makeCollection hlf hc156) ⟨Nat.le_of_ble_eq_true rfl, Nat.le_of_ble_eq_true rfl⟩ ⟨by show _ ≤ 601024; omega, by show _ ≤ 7293034; omega⟩ (Nat.le_of_ble_eq_true rfl) hS hW dL_law_156 (fun H locs hW hS => ?_)
  refine lv_istore (lv' := [(5, .int r156), (0, .ref sb), (1, .ref (b + 0)), (2, .ref (b + 156)), (3, .ref (b + 172)), (4, .int x4)]) hx hb dL_law_159 hl (by decide) rfl (fun ls hl => ?_)
  refine lv_aload_n hx hb dL_law_161 rfl (lv_at hl 3 rfl) ?_
  refine lv_aload_n hx hb dL_law_162 rfl (lv_at hl 1 rfl) ?_
  refine lv_iload hx hb dL_law_163 (lv_at hl 5 rfl) ?_
  refine lv_iconst (v := (1 : Int32)) hx hb dL_law_165 (by decide) ?_
  refine lv_iadd hx hb dL_law_166 ?_
  obtain ⟨g167, h⟩ := gd h
  refine va_sld hx hb hX hbl hbA hS g167 dL_law_167 ?_
  refine lv_aload_n hx hb dL_law_168 rfl (lv_at hl 1 rfl) ?_
  refine lv_iload hx hb dL_law_169 (lv_at hl 5 rfl) ?_
  refine lv_iconst (v := (2 : Int32)) hx hb dL_law_171 (by decide) ?_
  refine lv_iadd hx hb dL_law_172 ?_
  obtain ⟨g173, h⟩ := gd h
  refine va_sld hx hb hX hbl hbA hS g173 dL_law_173 ?_
  refine lv_aload_n hx hb dL_law_174 rfl (lv_at hl 1 rfl) ?_
  refine lv_iload hx hb dL_law_175 (lv_at hl 5 rfl) ?_
  refine lv_iconst (v := (3 : Int32)) hx hb dL_law_177 (by decide) ?_
  refine lv_iadd hx hb dL_law_178 ?_
  obtain ⟨g179, h⟩ := gd h
  refine va_sld hx hb hX hbl hbA hS g179 dL_law_179 ?_
  obtain ⟨r180, M180, hc180, h⟩ := bd2_e h
  refine kL_86 C hml hl.1 (c_X5_makeCollection hc180) ⟨Nat.le_of_ble_eq_true rfl, Nat.le_of_ble_eq_true rfl⟩ ⟨by show _ ≤ 601024; omega, by show _ ≤ 7293034; omega⟩ (Nat.le_of_ble_eq_true rfl) hS hW dL_law_180 (fun H locs hW hS => ?_)
  refine lv_istore (lv' := [(6, .int r180), (5, .int r156), (0, .ref sb), (1, .ref (b + 0)), (2, .ref (b + 156)), (3, .ref (b + 172)), (4, .int x4)]) hx hb dL_law_183 hl (by decide) rfl (fun ls hl => ?_)
  refine lv_aload_n hx hb dL_law_185 rfl (lv_at hl 4 rfl) ?_
  obtain ⟨r186, M186, hc186, h⟩ := bd2_e h
  refine kL_87 C hml hl.1 (c_X5_thrown hc186) ⟨Nat.le_of_ble_eq_true rfl, Nat.le_of_ble_eq_true rfl⟩ ⟨by show _ ≤ 601024; omega, by show _ ≤ 7293034; omega⟩ (Nat.le_of_ble_eq_true rfl) hS hW dL_law_186 (fun H locs hW hS => ?_)
  refine lv_iload hx hb dL_law_189 (lv_at hl 1 rfl) ?_
  refine lv_icmp_eq (tgt := 196) hx hb dL_law_191 (by decide) (fun c191 => ?_) (fun c191 => ?_)
  · have h := (if_pos c191).symm.trans h
    refine lv_iload hx hb dL_law_196 (lv_at hl 1 rfl) ?_
    refine lv_if_ne (tgt := 213) hx hb dL_law_198 (by decide) (fun c198 => ?_) (fun c198 => ?_)
    · have h := (if_neg c198).symm.trans h
      exact w_L_law_213 C hml hr hlk hlf hX hbl hbb n hK23 h hS hW (lv_sub hl [2, 3, 4, 5, 6] rfl) ⟨by omega, by omega⟩
    · have h := (if_pos c198).symm.trans h
      refine lv_aload_n hx hb dL_law_201 rfl (lv_at hl 5 rfl) ?_
      refine lv_iconst (v := (0 : Int32)) hx hb dL_law_202 (by decide) ?_
      obtain ⟨g203, h⟩ := gd h
      refine ald_172 C hW g203 dL_law_203 ?_
      refine lv_iload hx hb dL_law_204 (lv_at hl 0 rfl) ?_
      refine lv_i2l (v := r180.toInt64) hx hb dL_law_206 rfl ?_
      refine W.lcmp hx hb dL_law_207 ?_
      refine lv_if_eq (tgt := 213) hx hb dL_law_208 (by decide) (fun c208 => ?_) (fun c208 => ?_)
      · have h := (if_pos c208).symm.trans h
        exact w_L_law_213 C hml hr hlk hlf hX hbl hbb n hK23 h hS hW (lv_sub hl [2, 3, 4, 5, 6] rfl) ⟨by omega, by omega⟩
      · have h := (if_neg c208).symm.trans h
        refine lv_iconst (v := (0 : Int32)) hx hb dL_law_211 (by decide) ?_
        exact absurd (show (0 : Int32) = 1 from congrArg Prod.fst (Option.some.inj h)) (by decide)
  · have h := (if_neg c191).symm.trans h
    refine lv_iconst (v := (0 : Int32)) hx hb dL_law_194 (by decide) ?_
    exact absurd (show (0 : Int32) = 1 from congrArg Prod.fst (Option.some.inj h)) (by decide)
def f_L_law_317 (xs : Nat → Int32) (L : Nat) (K23 : Mem → Int32 → Option (Int32 × Mem)) (M : Mem) (x4 : Int32) : Option (Int32 × Mem) :=
  f_L_law_1627 xs L K23 M x4
set_option maxHeartbeats 4000000 in
set_option maxRecDepth 100000 in
theorem w_L_law_317 {p : Program} {l : Launch} {e : Env} {s : State} {m : MethodId} {below : List Frame} {meth : Method} {c : Code} {Z : Zt} {b sb L : Nat} {xs : Nat → Int32} (C : Cx p s m #[Value.ref sb] c cL_law RL Z b) (hml : c.maxLocals = 7) (hr : meth.sig.returnType = ret) (hlk : meth.locks = false) (hlf : l.stackTraces = false) (hX : va_X sb L xs s s.heap) (hbl : sb < s.heap.size) (hbb : b = s.heap.size) (n : Nat) {K23 : Mem → Int32 → Option (Int32 × Mem)} (hK23 : ∀ {M : Mem} {x4 : Int32} {M' : Mem} (h : K23 M x4 = some (1, M')) {H : Heap} {locs : List Loc} {ls : Array Slot} {cells slots : Nat} (hS : va_S (A0 b) s.heap H locs) (hW : Wd Z b M H) (hl : lv_has ls 7 [(0, .ref sb), (1, .ref (b + 0)), (2, .ref (b + 156)), (3, .ref (b + 172)), (4, .int x4)]) (hcs : cells + 8 * n ≤ 601024 ∧ slots + 48 * n ≤ 7293034), W p l e room_1 s m #[Value.ref sb] below meth c H locs cells slots (lw_Z below #[Value.ref sb] s) (F0 m 23 ls [])) {M : Mem} {x4 : Int32} {M' : Mem} (h : f_L_law_317 xs L K23 M x4 = some (1, M')) {H : Heap} {locs : List Loc} {ls : Array Slot} {cells slots : Nat} (hS : va_S (A0 b) s.heap H locs) (hW : Wd Z b M H) (hl : lv_has ls 7 [(0, .ref sb), (1, .ref (b + 0)), (2, .ref (b + 156)), (3, .ref (b + 172)), (4, .int x4)]) (hcs : cells + 2 + 8 * n ≤ 601024 ∧ slots + 12 + 48 * n ≤ 7293034) : W p l e room_1 s m #[Value.ref sb] below meth c H locs cells slots (lw_Z below #[Value.ref sb] s) (F0 m 317 ls []) := by
  unfold f_L_law_317 at h
  have hx := C.1
  have hb := C.2.1
  have hbA : ¬ A0 b sb := by unfold A0; omega
  refine lv_goto (tgt := 1627) hx hb dL_law_317 (by decide) ?_
  exact w_L_law_1627 C hml hr hlk hlf hX hbl hbb n hK23 h hS hW (lv_sub hl [0, 1, 2, 3, 4] rfl) ⟨by omega, by omega⟩
def f_L_law_216 (xs : Nat → Int32) (L : Nat) (K23 : Mem → Int32 → Option (Int32 × Mem)) (M : Mem) (x4 : Int32) : Option (Int32 × Mem) :=
  if (x4 + (1 : Int32)) < 0 ∨ L ≤ (x4 + (1 : Int32)).toNatClampNeg then none else if (x4 + (2 : Int32)) < 0 ∨ L ≤ (x4 + (2 : Int32)).toNatClampNeg then none else if (x4 + (3 : Int32)) < 0 ∨ L ≤ (x4 + (3 : Int32)).toNatClampNeg then none else if (x4 + (4 : Int32)) < 0 ∨ L ≤ (x4 + (4 : Int32)).toNatClampNeg then none else if (x4 + (5 : Int32)) < 0 ∨ L ≤ (x4 + (5 : Int32)).toNatClampNeg then none else bd2 (f_L_put M (xs (x4 + (1 : Int32)).toNatClampNeg) (xs (x4 + (2 : Int32)).toNatClampNeg) (xs (x4 + (3 : Int32)).toNatClampNeg) (xs (x4 + (4 : Int32)).toNatClampNeg) (xs (x4 + (5 : Int32)).toNatClampNeg)) (fun r248 M248 => if (x4 + (1 : Int32)) < 0 ∨ L ≤ (x4 + (1 : Int32)).toNatClampNeg then none else if (x4 + (2 : Int32)) < 0 ∨ L ≤ (x4 + (2 : Int32)).toNatClampNeg then none else if (x4 + (3 : Int32)) < 0 ∨ L ≤ (x4 + (3 : Int32)).toNatClampNeg then none else if (x4 + (4 : Int32)) < 0 ∨ L ≤ (x4 + (4 : Int32)).toNatClampNeg then none else if (x4 + (5 : Int32)) < 0 ∨ L ≤ (x4 + (5 : Int32)).toNatClampNeg then none else bd2 (f_X5_put M248 (xs (x4 + (1 : Int32)).toNatClampNeg) (xs (x4 + (2 : Int32)).toNatClampNeg) (xs (x4 + (3 : Int32)).toNatClampNeg) (xs (x4 + (4 : Int32)).toNatClampNeg) (xs (x4 + (5 : Int32)).toNatClampNeg)) (fun r284 M284 => bd2 (f_X5_thrown M284) (fun r290 M290 => if r290 = r248 then (if r248 = 0 then (if (0 : Int32) < 0 ∨ 1 ≤ (0 : Int32).toNatClampNeg then none else if (lg_cmp (M290 40 (0 : Int32).toNatClampNeg).toInt64 r284.toInt64) = 0 then f_L_law_317 xs L K23 M290 x4 else some ((0 : Int32), M290)) else f_L_law_317 xs L K23 M290 x4) else some ((0 : Int32), M290))))
set_option maxHeartbeats 4000000 in
set_option maxRecDepth 100000 in
theorem w_L_law_216 {p : Program} {l : Launch} {e : Env} {s : State} {m : MethodId} {below : List Frame} {meth : Method} {c : Code} {Z : Zt} {b sb L : Nat} {xs : Nat → Int32} (C : Cx p s m #[Value.ref sb] c cL_law RL Z b) (hml : c.maxLocals = 7) (hr : meth.sig.returnType = ret) (hlk : meth.locks = false) (hlf : l.stackTraces = false) (hX : va_X sb L xs s s.heap) (hbl : sb < s.heap.size) (hbb : b = s.heap.size) (n : Nat) {K23 : Mem → Int32 → Option (Int32 × Mem)} (hK23 : ∀ {M : Mem} {x4 : Int32} {M' : Mem} (h : K23 M x4 = some (1, M')) {H : Heap} {locs : List Loc} {ls : Array Slot} {cells slots : Nat} (hS : va_S (A0 b) s.heap H locs) (hW : Wd Z b M H) (hl : lv_has ls 7 [(0, .ref sb), (1, .ref (b + 0)), (2, .ref (b + 156)), (3, .ref (b + 172)), (4, .int x4)]) (hcs : cells + 8 * n ≤ 601024 ∧ slots + 48 * n ≤ 7293034), W p l e room_1 s m #[Value.ref sb] below meth c H locs cells slots (lw_Z below #[Value.ref sb] s) (F0 m 23 ls [])) {M : Mem} {x4 : Int32} {M' : Mem} (h : f_L_law_216 xs L K23 M x4 = some (1, M')) {H : Heap} {locs : List Loc} {ls : Array Slot} {cells slots : Nat} (hS : va_S (A0 b) s.heap H locs) (hW : Wd Z b M H) (hl : lv_has ls 7 [(0, .ref sb), (1, .ref (b + 0)), (2, .ref (b + 156)), (3, .ref (b + 172)), (4, .int x4)]) (hcs : cells + 8 + 8 * n ≤ 601024 ∧ slots + 48 + 48 * n ≤ 7293034) : W p l e room_1 s m #[Value.ref sb] below meth c H locs cells slots (lw_Z below #[Value.ref sb] s) (F0 m 216 ls []) := by
  unfold f_L_law_216 at h
  have hx := C.1
  have hb := C.2.1
  have hbA : ¬ A0 b sb := by unfold A0; omega
  refine lv_aload_n hx hb dL_law_216 rfl (lv_at hl 1 rfl) ?_
  refine lv_aload_n hx hb dL_law_217 rfl (lv_at hl 0 rfl) ?_
  refine lv_iload hx hb dL_law_218 (lv_at hl 4 rfl) ?_
  refine lv_iconst (v := (1 : Int32)) hx hb dL_law_220 (by decide) ?_
  refine lv_iadd hx hb dL_law_221 ?_
  obtain ⟨g222, h⟩ := gd h
  refine va_sld hx hb hX hbl hbA hS g222 dL_law_222 ?_
  refine lv_aload_n hx hb dL_law_223 rfl (lv_at hl 0 rfl) ?_
  refine lv_iload hx hb dL_law_224 (lv_at hl 4 rfl) ?_
  refine lv_iconst (v := (2 : Int32)) hx hb dL_law_226 (by decide) ?_
  refine lv_iadd hx hb dL_law_227 ?_
  obtain ⟨g228, h⟩ := gd h
  refine va_sld hx hb hX hbl hbA hS g228 dL_law_228 ?_
  refine lv_aload_n hx hb dL_law_229 rfl (lv_at hl 0 rfl) ?_
  refine lv_iload hx hb dL_law_230 (lv_at hl 4 rfl) ?_
  refine lv_iconst (v := (3 : Int32)) hx hb dL_law_232 (by decide) ?_
  refine lv_iadd hx hb dL_law_233 ?_
  obtain ⟨g234, h⟩ := gd h
  refine va_sld hx hb hX hbl hbA hS g234 dL_law_234 ?_
  refine lv_aload_n hx hb dL_law_235 rfl (lv_at hl 0 rfl) ?_
  refine lv_iload hx hb dL_law_236 (lv_at hl 4 rfl) ?_
  refine lv_iconst (v := (4 : Int32)) hx hb dL_law_238 (by decide) ?_
  refine lv_iadd hx hb dL_law_239 ?_
  obtain ⟨g240, h⟩ := gd h
  refine va_sld hx hb hX hbl hbA hS g240 dL_law_240 ?_
  refine lv_aload_n hx hb dL_law_241 rfl (lv_at hl 0 rfl) ?_
  refine lv_iload hx hb dL_law_242 (lv_at hl 4 rfl) ?_
  refine lv_iconst (v := (5 : Int32)) hx hb dL_law_244 (by decide) ?_
  refine lv_iadd hx hb dL_law_245 ?_
  obtain ⟨g246, h⟩ := gd h
  refine va_sld hx hb hX hbl hbA hS g246 dL_law_246 ?_
  refine lv_aload_n hx hb dL_law_247 rfl (lv_at hl 3 rfl) ?_
  obtain ⟨r248, M248, hc248, h⟩ := bd2_e h
  refine kL_91 C hml hl.1 (c_L_put hlf hc248) ⟨Nat.le_of_ble_eq_true rfl, Nat.le_of_ble_eq_true rfl⟩ ⟨by show _ ≤ 601024; omega, by show _ ≤ 7293034; omega⟩ (Nat.le_of_ble_eq_true rfl) hS hW dL_law_248 (fun H locs hW hS => ?_)
  refine lv_istore (lv' := [(5, .int r248), (0, .ref sb), (1, .ref (b + 0)), (2, .ref (b + 156)), (3, .ref (b + 172)), (4, .int x4)]) hx hb dL_law_251 hl (by decide) rfl (fun ls hl => ?_)
  refine lv_aload_n hx hb dL_law_253 rfl (lv_at hl 3 rfl) ?_
  refine lv_aload_n hx hb dL_law_254 rfl (lv_at hl 1 rfl) ?_
  refine lv_iload hx hb dL_law_255 (lv_at hl 5 rfl) ?_
  refine lv_iconst (v := (1 : Int32)) hx hb dL_law_257 (by decide) ?_
  refine lv_iadd hx hb dL_law_258 ?_
  obtain ⟨g259, h⟩ := gd h
  refine va_sld hx hb hX hbl hbA hS g259 dL_law_259 ?_
  refine lv_aload_n hx hb dL_law_260 rfl (lv_at hl 1 rfl) ?_
  refine lv_iload hx hb dL_law_261 (lv_at hl 5 rfl) ?_
  refine lv_iconst (v := (2 : Int32)) hx hb dL_law_263 (by decide) ?_
  refine lv_iadd hx hb dL_law_264 ?_
  obtain ⟨g265, h⟩ := gd h
  refine va_sld hx hb hX hbl hbA hS g265 dL_law_265 ?_
  refine lv_aload_n hx hb dL_law_266 rfl (lv_at hl 1 rfl) ?_
  refine lv_iload hx hb dL_law_267 (lv_at hl 5 rfl) ?_
  refine lv_iconst (v := (3 : Int32)) hx hb dL_law_269 (by decide) ?_
  refine lv_iadd hx hb dL_law_270 ?_
  obtain ⟨g271, h⟩ := gd h
  refine va_sld hx hb hX hbl hbA hS g271 dL_law_271 ?_
  refine lv_aload_n hx hb dL_law_272 rfl (lv_at hl 1 rfl) ?_
  refine lv_iload hx hb dL_law_273 (lv_at hl 5 rfl) ?_
  refine lv_iconst (v := (4 : Int32)) hx hb dL_law_275 (by decide) ?_
  refine lv_iadd hx hb dL_law_276 ?_
  obtain ⟨g277, h⟩ := gd h
  refine va_sld hx hb hX hbl hbA hS g277 dL_law_277 ?_
  refine lv_aload_n hx hb dL_law_278 rfl (lv_at hl 1 rfl) ?_
  refine lv_iload hx hb dL_law_279 (lv_at hl 5 rfl) ?_
  refine lv_iconst (v := (5 : Int32)) hx hb dL_law_281 (by decide) ?_
  refine lv_iadd hx hb dL_law_282 ?_
  obtain ⟨g283, h⟩ := gd h
  refine va_sld hx hb hX hbl hbA hS g283 dL_law_283 ?_
  obtain ⟨r284, M284, hc284, h⟩ := bd2_e h
  refine kL_94 C hml hl.1 (c_X5_put hc284) ⟨Nat.le_of_ble_eq_true rfl, Nat.le_of_ble_eq_true rfl⟩ ⟨by show _ ≤ 601024; omega, by show _ ≤ 7293034; omega⟩ (Nat.le_of_ble_eq_true rfl) hS hW dL_law_284 (fun H locs hW hS => ?_)
  refine lv_istore (lv' := [(6, .int r284), (5, .int r248), (0, .ref sb), (1, .ref (b + 0)), (2, .ref (b + 156)), (3, .ref (b + 172)), (4, .int x4)]) hx hb dL_law_287 hl (by decide) rfl (fun ls hl => ?_)
  refine lv_aload_n hx hb dL_law_289 rfl (lv_at hl 4 rfl) ?_
  obtain ⟨r290, M290, hc290, h⟩ := bd2_e h
  refine kL_87 C hml hl.1 (c_X5_thrown hc290) ⟨Nat.le_of_ble_eq_true rfl, Nat.le_of_ble_eq_true rfl⟩ ⟨by show _ ≤ 601024; omega, by show _ ≤ 7293034; omega⟩ (Nat.le_of_ble_eq_true rfl) hS hW dL_law_290 (fun H locs hW hS => ?_)
  refine lv_iload hx hb dL_law_293 (lv_at hl 1 rfl) ?_
  refine lv_icmp_eq (tgt := 300) hx hb dL_law_295 (by decide) (fun c295 => ?_) (fun c295 => ?_)
  · have h := (if_pos c295).symm.trans h
    refine lv_iload hx hb dL_law_300 (lv_at hl 1 rfl) ?_
    refine lv_if_ne (tgt := 317) hx hb dL_law_302 (by decide) (fun c302 => ?_) (fun c302 => ?_)
    · have h := (if_neg c302).symm.trans h
      exact w_L_law_317 C hml hr hlk hlf hX hbl hbb n hK23 h hS hW (lv_sub hl [2, 3, 4, 5, 6] rfl) ⟨by omega, by omega⟩
    · have h := (if_pos c302).symm.trans h
      refine lv_aload_n hx hb dL_law_305 rfl (lv_at hl 5 rfl) ?_
      refine lv_iconst (v := (0 : Int32)) hx hb dL_law_306 (by decide) ?_
      obtain ⟨g307, h⟩ := gd h
      refine ald_172 C hW g307 dL_law_307 ?_
      refine lv_iload hx hb dL_law_308 (lv_at hl 0 rfl) ?_
      refine lv_i2l (v := r284.toInt64) hx hb dL_law_310 rfl ?_
      refine W.lcmp hx hb dL_law_311 ?_
      refine lv_if_eq (tgt := 317) hx hb dL_law_312 (by decide) (fun c312 => ?_) (fun c312 => ?_)
      · have h := (if_pos c312).symm.trans h
        exact w_L_law_317 C hml hr hlk hlf hX hbl hbb n hK23 h hS hW (lv_sub hl [2, 3, 4, 5, 6] rfl) ⟨by omega, by omega⟩
      · have h := (if_neg c312).symm.trans h
        refine lv_iconst (v := (0 : Int32)) hx hb dL_law_315 (by decide) ?_
        exact absurd (show (0 : Int32) = 1 from congrArg Prod.fst (Option.some.inj h)) (by decide)
  · have h := (if_neg c295).symm.trans h
    refine lv_iconst (v := (0 : Int32)) hx hb dL_law_298 (by decide) ?_
    exact absurd (show (0 : Int32) = 1 from congrArg Prod.fst (Option.some.inj h)) (by decide)
def f_L_law_397 (xs : Nat → Int32) (L : Nat) (K23 : Mem → Int32 → Option (Int32 × Mem)) (M : Mem) (x4 : Int32) : Option (Int32 × Mem) :=
  f_L_law_1627 xs L K23 M x4
set_option maxHeartbeats 4000000 in
set_option maxRecDepth 100000 in
theorem w_L_law_397 {p : Program} {l : Launch} {e : Env} {s : State} {m : MethodId} {below : List Frame} {meth : Method} {c : Code} {Z : Zt} {b sb L : Nat} {xs : Nat → Int32} (C : Cx p s m #[Value.ref sb] c cL_law RL Z b) (hml : c.maxLocals = 7) (hr : meth.sig.returnType = ret) (hlk : meth.locks = false) (hlf : l.stackTraces = false) (hX : va_X sb L xs s s.heap) (hbl : sb < s.heap.size) (hbb : b = s.heap.size) (n : Nat) {K23 : Mem → Int32 → Option (Int32 × Mem)} (hK23 : ∀ {M : Mem} {x4 : Int32} {M' : Mem} (h : K23 M x4 = some (1, M')) {H : Heap} {locs : List Loc} {ls : Array Slot} {cells slots : Nat} (hS : va_S (A0 b) s.heap H locs) (hW : Wd Z b M H) (hl : lv_has ls 7 [(0, .ref sb), (1, .ref (b + 0)), (2, .ref (b + 156)), (3, .ref (b + 172)), (4, .int x4)]) (hcs : cells + 8 * n ≤ 601024 ∧ slots + 48 * n ≤ 7293034), W p l e room_1 s m #[Value.ref sb] below meth c H locs cells slots (lw_Z below #[Value.ref sb] s) (F0 m 23 ls [])) {M : Mem} {x4 : Int32} {M' : Mem} (h : f_L_law_397 xs L K23 M x4 = some (1, M')) {H : Heap} {locs : List Loc} {ls : Array Slot} {cells slots : Nat} (hS : va_S (A0 b) s.heap H locs) (hW : Wd Z b M H) (hl : lv_has ls 7 [(0, .ref sb), (1, .ref (b + 0)), (2, .ref (b + 156)), (3, .ref (b + 172)), (4, .int x4)]) (hcs : cells + 4 + 8 * n ≤ 601024 ∧ slots + 24 + 48 * n ≤ 7293034) : W p l e room_1 s m #[Value.ref sb] below meth c H locs cells slots (lw_Z below #[Value.ref sb] s) (F0 m 397 ls []) := by
  unfold f_L_law_397 at h
  have hx := C.1
  have hb := C.2.1
  have hbA : ¬ A0 b sb := by unfold A0; omega
  refine lv_goto (tgt := 1627) hx hb dL_law_397 (by decide) ?_
  exact w_L_law_1627 C hml hr hlk hlf hX hbl hbb n hK23 h hS hW (lv_sub hl [0, 1, 2, 3, 4] rfl) ⟨by omega, by omega⟩
def f_L_law_320 (xs : Nat → Int32) (L : Nat) (K23 : Mem → Int32 → Option (Int32 × Mem)) (M : Mem) (x4 : Int32) : Option (Int32 × Mem) :=
  if (x4 + (1 : Int32)) < 0 ∨ L ≤ (x4 + (1 : Int32)).toNatClampNeg then none else if (x4 + (2 : Int32)) < 0 ∨ L ≤ (x4 + (2 : Int32)).toNatClampNeg then none else if (x4 + (3 : Int32)) < 0 ∨ L ≤ (x4 + (3 : Int32)).toNatClampNeg then none else bd2 (f_L_delete M (xs (x4 + (1 : Int32)).toNatClampNeg) (xs (x4 + (2 : Int32)).toNatClampNeg) (xs (x4 + (3 : Int32)).toNatClampNeg)) (fun r340 M340 => if (x4 + (1 : Int32)) < 0 ∨ L ≤ (x4 + (1 : Int32)).toNatClampNeg then none else if (x4 + (2 : Int32)) < 0 ∨ L ≤ (x4 + (2 : Int32)).toNatClampNeg then none else if (x4 + (3 : Int32)) < 0 ∨ L ≤ (x4 + (3 : Int32)).toNatClampNeg then none else bd2 (f_X5_delete M340 (xs (x4 + (1 : Int32)).toNatClampNeg) (xs (x4 + (2 : Int32)).toNatClampNeg) (xs (x4 + (3 : Int32)).toNatClampNeg)) (fun r364 M364 => bd2 (f_X5_thrown M364) (fun r370 M370 => if r370 = r340 then (if r340 = 0 then (if (0 : Int32) < 0 ∨ 1 ≤ (0 : Int32).toNatClampNeg then none else if (lg_cmp (M370 40 (0 : Int32).toNatClampNeg).toInt64 r364.toInt64) = 0 then f_L_law_397 xs L K23 M370 x4 else some ((0 : Int32), M370)) else f_L_law_397 xs L K23 M370 x4) else some ((0 : Int32), M370))))
set_option maxHeartbeats 4000000 in
set_option maxRecDepth 100000 in
theorem w_L_law_320 {p : Program} {l : Launch} {e : Env} {s : State} {m : MethodId} {below : List Frame} {meth : Method} {c : Code} {Z : Zt} {b sb L : Nat} {xs : Nat → Int32} (C : Cx p s m #[Value.ref sb] c cL_law RL Z b) (hml : c.maxLocals = 7) (hr : meth.sig.returnType = ret) (hlk : meth.locks = false) (hlf : l.stackTraces = false) (hX : va_X sb L xs s s.heap) (hbl : sb < s.heap.size) (hbb : b = s.heap.size) (n : Nat) {K23 : Mem → Int32 → Option (Int32 × Mem)} (hK23 : ∀ {M : Mem} {x4 : Int32} {M' : Mem} (h : K23 M x4 = some (1, M')) {H : Heap} {locs : List Loc} {ls : Array Slot} {cells slots : Nat} (hS : va_S (A0 b) s.heap H locs) (hW : Wd Z b M H) (hl : lv_has ls 7 [(0, .ref sb), (1, .ref (b + 0)), (2, .ref (b + 156)), (3, .ref (b + 172)), (4, .int x4)]) (hcs : cells + 8 * n ≤ 601024 ∧ slots + 48 * n ≤ 7293034), W p l e room_1 s m #[Value.ref sb] below meth c H locs cells slots (lw_Z below #[Value.ref sb] s) (F0 m 23 ls [])) {M : Mem} {x4 : Int32} {M' : Mem} (h : f_L_law_320 xs L K23 M x4 = some (1, M')) {H : Heap} {locs : List Loc} {ls : Array Slot} {cells slots : Nat} (hS : va_S (A0 b) s.heap H locs) (hW : Wd Z b M H) (hl : lv_has ls 7 [(0, .ref sb), (1, .ref (b + 0)), (2, .ref (b + 156)), (3, .ref (b + 172)), (4, .int x4)]) (hcs : cells + 8 + 8 * n ≤ 601024 ∧ slots + 48 + 48 * n ≤ 7293034) : W p l e room_1 s m #[Value.ref sb] below meth c H locs cells slots (lw_Z below #[Value.ref sb] s) (F0 m 320 ls []) := by
  unfold f_L_law_320 at h
  have hx := C.1
  have hb := C.2.1
  have hbA : ¬ A0 b sb := by unfold A0; omega
  refine lv_aload_n hx hb dL_law_320 rfl (lv_at hl 1 rfl) ?_
  refine lv_aload_n hx hb dL_law_321 rfl (lv_at hl 0 rfl) ?_
  refine lv_iload hx hb dL_law_322 (lv_at hl 4 rfl) ?_
  refine lv_iconst (v := (1 : Int32)) hx hb dL_law_324 (by decide) ?_
  refine lv_iadd hx hb dL_law_325 ?_
  obtain ⟨g326, h⟩ := gd h
  refine va_sld hx hb hX hbl hbA hS g326 dL_law_326 ?_
  refine lv_aload_n hx hb dL_law_327 rfl (lv_at hl 0 rfl) ?_
  refine lv_iload hx hb dL_law_328 (lv_at hl 4 rfl) ?_
  refine lv_iconst (v := (2 : Int32)) hx hb dL_law_330 (by decide) ?_
  refine lv_iadd hx hb dL_law_331 ?_
  obtain ⟨g332, h⟩ := gd h
  refine va_sld hx hb hX hbl hbA hS g332 dL_law_332 ?_
  refine lv_aload_n hx hb dL_law_333 rfl (lv_at hl 0 rfl) ?_
  refine lv_iload hx hb dL_law_334 (lv_at hl 4 rfl) ?_
  refine lv_iconst (v := (3 : Int32)) hx hb dL_law_336 (by decide) ?_
  refine lv_iadd hx hb dL_law_337 ?_
  obtain ⟨g338, h⟩ := gd h
  refine va_sld hx hb hX hbl hbA hS g338 dL_law_338 ?_
  refine lv_aload_n hx hb dL_law_339 rfl (lv_at hl 3 rfl) ?_
  obtain ⟨r340, M340, hc340, h⟩ := bd2_e h
  refine kL_95 C hml hl.1 (c_L_delete hlf hc340) ⟨Nat.le_of_ble_eq_true rfl, Nat.le_of_ble_eq_true rfl⟩ ⟨by show _ ≤ 601024; omega, by show _ ≤ 7293034; omega⟩ (Nat.le_of_ble_eq_true rfl) hS hW dL_law_340 (fun H locs hW hS => ?_)
  refine lv_istore (lv' := [(5, .int r340), (0, .ref sb), (1, .ref (b + 0)), (2, .ref (b + 156)), (3, .ref (b + 172)), (4, .int x4)]) hx hb dL_law_343 hl (by decide) rfl (fun ls hl => ?_)
  refine lv_aload_n hx hb dL_law_345 rfl (lv_at hl 3 rfl) ?_
  refine lv_aload_n hx hb dL_law_346 rfl (lv_at hl 1 rfl) ?_
  refine lv_iload hx hb dL_law_347 (lv_at hl 5 rfl) ?_
  refine lv_iconst (v := (1 : Int32)) hx hb dL_law_349 (by decide) ?_
  refine lv_iadd hx hb dL_law_350 ?_
  obtain ⟨g351, h⟩ := gd h
  refine va_sld hx hb hX hbl hbA hS g351 dL_law_351 ?_
  refine lv_aload_n hx hb dL_law_352 rfl (lv_at hl 1 rfl) ?_
  refine lv_iload hx hb dL_law_353 (lv_at hl 5 rfl) ?_
  refine lv_iconst (v := (2 : Int32)) hx hb dL_law_355 (by decide) ?_
  refine lv_iadd hx hb dL_law_356 ?_
  obtain ⟨g357, h⟩ := gd h
  refine va_sld hx hb hX hbl hbA hS g357 dL_law_357 ?_
  refine lv_aload_n hx hb dL_law_358 rfl (lv_at hl 1 rfl) ?_
  refine lv_iload hx hb dL_law_359 (lv_at hl 5 rfl) ?_
  refine lv_iconst (v := (3 : Int32)) hx hb dL_law_361 (by decide) ?_
  refine lv_iadd hx hb dL_law_362 ?_
  obtain ⟨g363, h⟩ := gd h
  refine va_sld hx hb hX hbl hbA hS g363 dL_law_363 ?_
  obtain ⟨r364, M364, hc364, h⟩ := bd2_e h
  refine kL_97 C hml hl.1 (c_X5_delete hc364) ⟨Nat.le_of_ble_eq_true rfl, Nat.le_of_ble_eq_true rfl⟩ ⟨by show _ ≤ 601024; omega, by show _ ≤ 7293034; omega⟩ (Nat.le_of_ble_eq_true rfl) hS hW dL_law_364 (fun H locs hW hS => ?_)
  refine lv_istore (lv' := [(6, .int r364), (5, .int r340), (0, .ref sb), (1, .ref (b + 0)), (2, .ref (b + 156)), (3, .ref (b + 172)), (4, .int x4)]) hx hb dL_law_367 hl (by decide) rfl (fun ls hl => ?_)
  refine lv_aload_n hx hb dL_law_369 rfl (lv_at hl 4 rfl) ?_
  obtain ⟨r370, M370, hc370, h⟩ := bd2_e h
  refine kL_87 C hml hl.1 (c_X5_thrown hc370) ⟨Nat.le_of_ble_eq_true rfl, Nat.le_of_ble_eq_true rfl⟩ ⟨by show _ ≤ 601024; omega, by show _ ≤ 7293034; omega⟩ (Nat.le_of_ble_eq_true rfl) hS hW dL_law_370 (fun H locs hW hS => ?_)
  refine lv_iload hx hb dL_law_373 (lv_at hl 1 rfl) ?_
  refine lv_icmp_eq (tgt := 380) hx hb dL_law_375 (by decide) (fun c375 => ?_) (fun c375 => ?_)
  · have h := (if_pos c375).symm.trans h
    refine lv_iload hx hb dL_law_380 (lv_at hl 1 rfl) ?_
    refine lv_if_ne (tgt := 397) hx hb dL_law_382 (by decide) (fun c382 => ?_) (fun c382 => ?_)
    · have h := (if_neg c382).symm.trans h
      exact w_L_law_397 C hml hr hlk hlf hX hbl hbb n hK23 h hS hW (lv_sub hl [2, 3, 4, 5, 6] rfl) ⟨by omega, by omega⟩
    · have h := (if_pos c382).symm.trans h
      refine lv_aload_n hx hb dL_law_385 rfl (lv_at hl 5 rfl) ?_
      refine lv_iconst (v := (0 : Int32)) hx hb dL_law_386 (by decide) ?_
      obtain ⟨g387, h⟩ := gd h
      refine ald_172 C hW g387 dL_law_387 ?_
      refine lv_iload hx hb dL_law_388 (lv_at hl 0 rfl) ?_
      refine lv_i2l (v := r364.toInt64) hx hb dL_law_390 rfl ?_
      refine W.lcmp hx hb dL_law_391 ?_
      refine lv_if_eq (tgt := 397) hx hb dL_law_392 (by decide) (fun c392 => ?_) (fun c392 => ?_)
      · have h := (if_pos c392).symm.trans h
        exact w_L_law_397 C hml hr hlk hlf hX hbl hbb n hK23 h hS hW (lv_sub hl [2, 3, 4, 5, 6] rfl) ⟨by omega, by omega⟩
      · have h := (if_neg c392).symm.trans h
        refine lv_iconst (v := (0 : Int32)) hx hb dL_law_395 (by decide) ?_
        exact absurd (show (0 : Int32) = 1 from congrArg Prod.fst (Option.some.inj h)) (by decide)
  · have h := (if_neg c375).symm.trans h
    refine lv_iconst (v := (0 : Int32)) hx hb dL_law_378 (by decide) ?_
    exact absurd (show (0 : Int32) = 1 from congrArg Prod.fst (Option.some.inj h)) (by decide)
def f_L_law_400 (xs : Nat → Int32) (L : Nat) (K23 : Mem → Int32 → Option (Int32 × Mem)) (M : Mem) (x4 : Int32) : Option (Int32 × Mem) :=
  bd2 (f_X4_failures M) (fun r401 M401 => bd2 (f_X5_failures M401) (fun r405 M405 => if r401 = r405 then f_L_law_1627 xs L K23 M405 x4 else some ((0 : Int32), M405)))
set_option maxHeartbeats 4000000 in
set_option maxRecDepth 100000 in
theorem w_L_law_400 {p : Program} {l : Launch} {e : Env} {s : State} {m : MethodId} {below : List Frame} {meth : Method} {c : Code} {Z : Zt} {b sb L : Nat} {xs : Nat → Int32} (C : Cx p s m #[Value.ref sb] c cL_law RL Z b) (hml : c.maxLocals = 7) (hr : meth.sig.returnType = ret) (hlk : meth.locks = false) (hlf : l.stackTraces = false) (hX : va_X sb L xs s s.heap) (hbl : sb < s.heap.size) (hbb : b = s.heap.size) (n : Nat) {K23 : Mem → Int32 → Option (Int32 × Mem)} (hK23 : ∀ {M : Mem} {x4 : Int32} {M' : Mem} (h : K23 M x4 = some (1, M')) {H : Heap} {locs : List Loc} {ls : Array Slot} {cells slots : Nat} (hS : va_S (A0 b) s.heap H locs) (hW : Wd Z b M H) (hl : lv_has ls 7 [(0, .ref sb), (1, .ref (b + 0)), (2, .ref (b + 156)), (3, .ref (b + 172)), (4, .int x4)]) (hcs : cells + 8 * n ≤ 601024 ∧ slots + 48 * n ≤ 7293034), W p l e room_1 s m #[Value.ref sb] below meth c H locs cells slots (lw_Z below #[Value.ref sb] s) (F0 m 23 ls [])) {M : Mem} {x4 : Int32} {M' : Mem} (h : f_L_law_400 xs L K23 M x4 = some (1, M')) {H : Heap} {locs : List Loc} {ls : Array Slot} {cells slots : Nat} (hS : va_S (A0 b) s.heap H locs) (hW : Wd Z b M H) (hl : lv_has ls 7 [(0, .ref sb), (1, .ref (b + 0)), (2, .ref (b + 156)), (3, .ref (b + 172)), (4, .int x4)]) (hcs : cells + 8 + 8 * n ≤ 601024 ∧ slots + 48 + 48 * n ≤ 7293034) : W p l e room_1 s m #[Value.ref sb] below meth c H locs cells slots (lw_Z below #[Value.ref sb] s) (F0 m 400 ls []) := by
  unfold f_L_law_400 at h
  have hx := C.1
  have hb := C.2.1
  have hbA : ¬ A0 b sb := by unfold A0; omega
  refine lv_aload_n hx hb dL_law_400 rfl (lv_at hl 1 rfl) ?_
  obtain ⟨r401, M401, hc401, h⟩ := bd2_e h
  refine kL_98 C hml hl.1 (c_X4_failures hc401) ⟨Nat.le_of_ble_eq_true rfl, Nat.le_of_ble_eq_true rfl⟩ ⟨by show _ ≤ 601024; omega, by show _ ≤ 7293034; omega⟩ (Nat.le_of_ble_eq_true rfl) hS hW dL_law_401 (fun H locs hW hS => ?_)
  refine lv_aload_n hx hb dL_law_404 rfl (lv_at hl 2 rfl) ?_
  obtain ⟨r405, M405, hc405, h⟩ := bd2_e h
  refine kL_101 C hml hl.1 (c_X5_failures hc405) ⟨Nat.le_of_ble_eq_true rfl, Nat.le_of_ble_eq_true rfl⟩ ⟨by show _ ≤ 601024; omega, by show _ ≤ 7293034; omega⟩ (Nat.le_of_ble_eq_true rfl) hS hW dL_law_405 (fun H locs hW hS => ?_)
  refine lv_icmp_eq (tgt := 1627) hx hb dL_law_408 (by decide) (fun c408 => ?_) (fun c408 => ?_)
  · have h := (if_pos c408).symm.trans h
    exact w_L_law_1627 C hml hr hlk hlf hX hbl hbb n hK23 h hS hW (lv_sub hl [0, 1, 2, 3, 4] rfl) ⟨by omega, by omega⟩
  · have h := (if_neg c408).symm.trans h
    refine lv_iconst (v := (0 : Int32)) hx hb dL_law_411 (by decide) ?_
    exact absurd (show (0 : Int32) = 1 from congrArg Prod.fst (Option.some.inj h)) (by decide)
def f_L_law_466 (xs : Nat → Int32) (L : Nat) (K23 : Mem → Int32 → Option (Int32 × Mem)) (M : Mem) (x4 : Int32) : Option (Int32 × Mem) :=
  f_L_law_1627 xs L K23 M x4
set_option maxHeartbeats 4000000 in
set_option maxRecDepth 100000 in
theorem w_L_law_466 {p : Program} {l : Launch} {e : Env} {s : State} {m : MethodId} {below : List Frame} {meth : Method} {c : Code} {Z : Zt} {b sb L : Nat} {xs : Nat → Int32} (C : Cx p s m #[Value.ref sb] c cL_law RL Z b) (hml : c.maxLocals = 7) (hr : meth.sig.returnType = ret) (hlk : meth.locks = false) (hlf : l.stackTraces = false) (hX : va_X sb L xs s s.heap) (hbl : sb < s.heap.size) (hbb : b = s.heap.size) (n : Nat) {K23 : Mem → Int32 → Option (Int32 × Mem)} (hK23 : ∀ {M : Mem} {x4 : Int32} {M' : Mem} (h : K23 M x4 = some (1, M')) {H : Heap} {locs : List Loc} {ls : Array Slot} {cells slots : Nat} (hS : va_S (A0 b) s.heap H locs) (hW : Wd Z b M H) (hl : lv_has ls 7 [(0, .ref sb), (1, .ref (b + 0)), (2, .ref (b + 156)), (3, .ref (b + 172)), (4, .int x4)]) (hcs : cells + 8 * n ≤ 601024 ∧ slots + 48 * n ≤ 7293034), W p l e room_1 s m #[Value.ref sb] below meth c H locs cells slots (lw_Z below #[Value.ref sb] s) (F0 m 23 ls [])) {M : Mem} {x4 : Int32} {M' : Mem} (h : f_L_law_466 xs L K23 M x4 = some (1, M')) {H : Heap} {locs : List Loc} {ls : Array Slot} {cells slots : Nat} (hS : va_S (A0 b) s.heap H locs) (hW : Wd Z b M H) (hl : lv_has ls 7 [(0, .ref sb), (1, .ref (b + 0)), (2, .ref (b + 156)), (3, .ref (b + 172)), (4, .int x4)]) (hcs : cells + 7 + 8 * n ≤ 601024 ∧ slots + 42 + 48 * n ≤ 7293034) : W p l e room_1 s m #[Value.ref sb] below meth c H locs cells slots (lw_Z below #[Value.ref sb] s) (F0 m 466 ls []) := by
  unfold f_L_law_466 at h
  have hx := C.1
  have hb := C.2.1
  have hbA : ¬ A0 b sb := by unfold A0; omega
  refine lv_goto (tgt := 1627) hx hb dL_law_466 (by decide) ?_
  exact w_L_law_1627 C hml hr hlk hlf hX hbl hbb n hK23 h hS hW (lv_sub hl [0, 1, 2, 3, 4] rfl) ⟨by omega, by omega⟩
def f_L_law_413 (xs : Nat → Int32) (L : Nat) (K23 : Mem → Int32 → Option (Int32 × Mem)) (M : Mem) (x4 : Int32) : Option (Int32 × Mem) :=
  if (x4 + (1 : Int32)) < 0 ∨ L ≤ (x4 + (1 : Int32)).toNatClampNeg then none else bd2 (f_L_failureAt M (xs (x4 + (1 : Int32)).toNatClampNeg)) (fun r421 M421 => if (x4 + (1 : Int32)) < 0 ∨ L ≤ (x4 + (1 : Int32)).toNatClampNeg then none else bd2 (f_X5_failureAt M421 (xs (x4 + (1 : Int32)).toNatClampNeg)) (fun r433 M433 => bd2 (f_X5_thrown M433) (fun r439 M439 => if r439 = r421 then (if r421 = 0 then (if (0 : Int32) < 0 ∨ 1 ≤ (0 : Int32).toNatClampNeg then none else if (lg_cmp (M439 40 (0 : Int32).toNatClampNeg).toInt64 r433.toInt64) = 0 then f_L_law_466 xs L K23 M439 x4 else some ((0 : Int32), M439)) else f_L_law_466 xs L K23 M439 x4) else some ((0 : Int32), M439))))
set_option maxHeartbeats 4000000 in
set_option maxRecDepth 100000 in
theorem w_L_law_413 {p : Program} {l : Launch} {e : Env} {s : State} {m : MethodId} {below : List Frame} {meth : Method} {c : Code} {Z : Zt} {b sb L : Nat} {xs : Nat → Int32} (C : Cx p s m #[Value.ref sb] c cL_law RL Z b) (hml : c.maxLocals = 7) (hr : meth.sig.returnType = ret) (hlk : meth.locks = false) (hlf : l.stackTraces = false) (hX : va_X sb L xs s s.heap) (hbl : sb < s.heap.size) (hbb : b = s.heap.size) (n : Nat) {K23 : Mem → Int32 → Option (Int32 × Mem)} (hK23 : ∀ {M : Mem} {x4 : Int32} {M' : Mem} (h : K23 M x4 = some (1, M')) {H : Heap} {locs : List Loc} {ls : Array Slot} {cells slots : Nat} (hS : va_S (A0 b) s.heap H locs) (hW : Wd Z b M H) (hl : lv_has ls 7 [(0, .ref sb), (1, .ref (b + 0)), (2, .ref (b + 156)), (3, .ref (b + 172)), (4, .int x4)]) (hcs : cells + 8 * n ≤ 601024 ∧ slots + 48 * n ≤ 7293034), W p l e room_1 s m #[Value.ref sb] below meth c H locs cells slots (lw_Z below #[Value.ref sb] s) (F0 m 23 ls [])) {M : Mem} {x4 : Int32} {M' : Mem} (h : f_L_law_413 xs L K23 M x4 = some (1, M')) {H : Heap} {locs : List Loc} {ls : Array Slot} {cells slots : Nat} (hS : va_S (A0 b) s.heap H locs) (hW : Wd Z b M H) (hl : lv_has ls 7 [(0, .ref sb), (1, .ref (b + 0)), (2, .ref (b + 156)), (3, .ref (b + 172)), (4, .int x4)]) (hcs : cells + 8 + 8 * n ≤ 601024 ∧ slots + 48 + 48 * n ≤ 7293034) : W p l e room_1 s m #[Value.ref sb] below meth c H locs cells slots (lw_Z below #[Value.ref sb] s) (F0 m 413 ls []) := by
  unfold f_L_law_413 at h
  have hx := C.1
  have hb := C.2.1
  have hbA : ¬ A0 b sb := by unfold A0; omega
  refine lv_aload_n hx hb dL_law_413 rfl (lv_at hl 1 rfl) ?_
  refine lv_aload_n hx hb dL_law_414 rfl (lv_at hl 0 rfl) ?_
  refine lv_iload hx hb dL_law_415 (lv_at hl 4 rfl) ?_
  refine lv_iconst (v := (1 : Int32)) hx hb dL_law_417 (by decide) ?_
  refine lv_iadd hx hb dL_law_418 ?_
  obtain ⟨g419, h⟩ := gd h
  refine va_sld hx hb hX hbl hbA hS g419 dL_law_419 ?_
  refine lv_aload_n hx hb dL_law_420 rfl (lv_at hl 3 rfl) ?_
  obtain ⟨r421, M421, hc421, h⟩ := bd2_e h
  refine kL_102 C hml hl.1 (c_L_failureAt hlf hc421) ⟨Nat.le_of_ble_eq_true rfl, Nat.le_of_ble_eq_true rfl⟩ ⟨by show _ ≤ 601024; omega, by show _ ≤ 7293034; omega⟩ (Nat.le_of_ble_eq_true rfl) hS hW dL_law_421 (fun H locs hW hS => ?_)
  refine lv_istore (lv' := [(5, .int r421), (0, .ref sb), (1, .ref (b + 0)), (2, .ref (b + 156)), (3, .ref (b + 172)), (4, .int x4)]) hx hb dL_law_424 hl (by decide) rfl (fun ls hl => ?_)
  refine lv_aload_n hx hb dL_law_426 rfl (lv_at hl 3 rfl) ?_
  refine lv_aload_n hx hb dL_law_427 rfl (lv_at hl 1 rfl) ?_
  refine lv_iload hx hb dL_law_428 (lv_at hl 5 rfl) ?_
  refine lv_iconst (v := (1 : Int32)) hx hb dL_law_430 (by decide) ?_
  refine lv_iadd hx hb dL_law_431 ?_
  obtain ⟨g432, h⟩ := gd h
  refine va_sld hx hb hX hbl hbA hS g432 dL_law_432 ?_
  obtain ⟨r433, M433, hc433, h⟩ := bd2_e h
  refine kL_105 C hml hl.1 (c_X5_failureAt hc433) ⟨Nat.le_of_ble_eq_true rfl, Nat.le_of_ble_eq_true rfl⟩ ⟨by show _ ≤ 601024; omega, by show _ ≤ 7293034; omega⟩ (Nat.le_of_ble_eq_true rfl) hS hW dL_law_433 (fun H locs hW hS => ?_)
  refine lv_istore (lv' := [(6, .int r433), (5, .int r421), (0, .ref sb), (1, .ref (b + 0)), (2, .ref (b + 156)), (3, .ref (b + 172)), (4, .int x4)]) hx hb dL_law_436 hl (by decide) rfl (fun ls hl => ?_)
  refine lv_aload_n hx hb dL_law_438 rfl (lv_at hl 4 rfl) ?_
  obtain ⟨r439, M439, hc439, h⟩ := bd2_e h
  refine kL_87 C hml hl.1 (c_X5_thrown hc439) ⟨Nat.le_of_ble_eq_true rfl, Nat.le_of_ble_eq_true rfl⟩ ⟨by show _ ≤ 601024; omega, by show _ ≤ 7293034; omega⟩ (Nat.le_of_ble_eq_true rfl) hS hW dL_law_439 (fun H locs hW hS => ?_)
  refine lv_iload hx hb dL_law_442 (lv_at hl 1 rfl) ?_
  refine lv_icmp_eq (tgt := 449) hx hb dL_law_444 (by decide) (fun c444 => ?_) (fun c444 => ?_)
  · have h := (if_pos c444).symm.trans h
    refine lv_iload hx hb dL_law_449 (lv_at hl 1 rfl) ?_
    refine lv_if_ne (tgt := 466) hx hb dL_law_451 (by decide) (fun c451 => ?_) (fun c451 => ?_)
    · have h := (if_neg c451).symm.trans h
      exact w_L_law_466 C hml hr hlk hlf hX hbl hbb n hK23 h hS hW (lv_sub hl [2, 3, 4, 5, 6] rfl) ⟨by omega, by omega⟩
    · have h := (if_pos c451).symm.trans h
      refine lv_aload_n hx hb dL_law_454 rfl (lv_at hl 5 rfl) ?_
      refine lv_iconst (v := (0 : Int32)) hx hb dL_law_455 (by decide) ?_
      obtain ⟨g456, h⟩ := gd h
      refine ald_172 C hW g456 dL_law_456 ?_
      refine lv_iload hx hb dL_law_457 (lv_at hl 0 rfl) ?_
      refine lv_i2l (v := r433.toInt64) hx hb dL_law_459 rfl ?_
      refine W.lcmp hx hb dL_law_460 ?_
      refine lv_if_eq (tgt := 466) hx hb dL_law_461 (by decide) (fun c461 => ?_) (fun c461 => ?_)
      · have h := (if_pos c461).symm.trans h
        exact w_L_law_466 C hml hr hlk hlf hX hbl hbb n hK23 h hS hW (lv_sub hl [2, 3, 4, 5, 6] rfl) ⟨by omega, by omega⟩
      · have h := (if_neg c461).symm.trans h
        refine lv_iconst (v := (0 : Int32)) hx hb dL_law_464 (by decide) ?_
        exact absurd (show (0 : Int32) = 1 from congrArg Prod.fst (Option.some.inj h)) (by decide)
  · have h := (if_neg c444).symm.trans h
    refine lv_iconst (v := (0 : Int32)) hx hb dL_law_447 (by decide) ?_
    exact absurd (show (0 : Int32) = 1 from congrArg Prod.fst (Option.some.inj h)) (by decide)
def f_L_law_586 (xs : Nat → Int32) (L : Nat) (K23 : Mem → Int32 → Option (Int32 × Mem)) (M : Mem) (x4 : Int32) : Option (Int32 × Mem) :=
  f_L_law_1627 xs L K23 M x4
set_option maxHeartbeats 4000000 in
set_option maxRecDepth 100000 in
theorem w_L_law_586 {p : Program} {l : Launch} {e : Env} {s : State} {m : MethodId} {below : List Frame} {meth : Method} {c : Code} {Z : Zt} {b sb L : Nat} {xs : Nat → Int32} (C : Cx p s m #[Value.ref sb] c cL_law RL Z b) (hml : c.maxLocals = 7) (hr : meth.sig.returnType = ret) (hlk : meth.locks = false) (hlf : l.stackTraces = false) (hX : va_X sb L xs s s.heap) (hbl : sb < s.heap.size) (hbb : b = s.heap.size) (n : Nat) {K23 : Mem → Int32 → Option (Int32 × Mem)} (hK23 : ∀ {M : Mem} {x4 : Int32} {M' : Mem} (h : K23 M x4 = some (1, M')) {H : Heap} {locs : List Loc} {ls : Array Slot} {cells slots : Nat} (hS : va_S (A0 b) s.heap H locs) (hW : Wd Z b M H) (hl : lv_has ls 7 [(0, .ref sb), (1, .ref (b + 0)), (2, .ref (b + 156)), (3, .ref (b + 172)), (4, .int x4)]) (hcs : cells + 8 * n ≤ 601024 ∧ slots + 48 * n ≤ 7293034), W p l e room_1 s m #[Value.ref sb] below meth c H locs cells slots (lw_Z below #[Value.ref sb] s) (F0 m 23 ls [])) {M : Mem} {x4 : Int32} {M' : Mem} (h : f_L_law_586 xs L K23 M x4 = some (1, M')) {H : Heap} {locs : List Loc} {ls : Array Slot} {cells slots : Nat} (hS : va_S (A0 b) s.heap H locs) (hW : Wd Z b M H) (hl : lv_has ls 7 [(0, .ref sb), (1, .ref (b + 0)), (2, .ref (b + 156)), (3, .ref (b + 172)), (4, .int x4)]) (hcs : cells + 1 + 8 * n ≤ 601024 ∧ slots + 6 + 48 * n ≤ 7293034) : W p l e room_1 s m #[Value.ref sb] below meth c H locs cells slots (lw_Z below #[Value.ref sb] s) (F0 m 586 ls []) := by
  unfold f_L_law_586 at h
  have hx := C.1
  have hb := C.2.1
  have hbA : ¬ A0 b sb := by unfold A0; omega
  refine lv_goto (tgt := 1627) hx hb dL_law_586 (by decide) ?_
  exact w_L_law_1627 C hml hr hlk hlf hX hbl hbb n hK23 h hS hW (lv_sub hl [0, 1, 2, 3, 4] rfl) ⟨by omega, by omega⟩
def f_L_law_547 (xs : Nat → Int32) (L : Nat) (K23 : Mem → Int32 → Option (Int32 × Mem)) (M : Mem) (x4 : Int32) (x5 : Int32) (xs1 : Int32) (xs2 : Int32) (xs3 : Int32) (xs4 : Int32) : Option (Int32 × Mem) :=
  if (x4 + (5 : Int32)) < 0 ∨ L ≤ (x4 + (5 : Int32)).toNatClampNeg then none else bd2 (f_X5_copy M xs1 xs2 xs3 xs4 (xs (x4 + (5 : Int32)).toNatClampNeg)) (fun r553 M553 => bd2 (f_X5_thrown M553) (fun r559 M559 => if r559 = x5 then (if x5 = 0 then (if (0 : Int32) < 0 ∨ 1 ≤ (0 : Int32).toNatClampNeg then none else if (lg_cmp (M559 40 (0 : Int32).toNatClampNeg).toInt64 r553.toInt64) = 0 then f_L_law_586 xs L K23 M559 x4 else some ((0 : Int32), M559)) else f_L_law_586 xs L K23 M559 x4) else some ((0 : Int32), M559)))
set_option maxHeartbeats 4000000 in
set_option maxRecDepth 100000 in
theorem w_L_law_547 {p : Program} {l : Launch} {e : Env} {s : State} {m : MethodId} {below : List Frame} {meth : Method} {c : Code} {Z : Zt} {b sb L : Nat} {xs : Nat → Int32} (C : Cx p s m #[Value.ref sb] c cL_law RL Z b) (hml : c.maxLocals = 7) (hr : meth.sig.returnType = ret) (hlk : meth.locks = false) (hlf : l.stackTraces = false) (hX : va_X sb L xs s s.heap) (hbl : sb < s.heap.size) (hbb : b = s.heap.size) (n : Nat) {K23 : Mem → Int32 → Option (Int32 × Mem)} (hK23 : ∀ {M : Mem} {x4 : Int32} {M' : Mem} (h : K23 M x4 = some (1, M')) {H : Heap} {locs : List Loc} {ls : Array Slot} {cells slots : Nat} (hS : va_S (A0 b) s.heap H locs) (hW : Wd Z b M H) (hl : lv_has ls 7 [(0, .ref sb), (1, .ref (b + 0)), (2, .ref (b + 156)), (3, .ref (b + 172)), (4, .int x4)]) (hcs : cells + 8 * n ≤ 601024 ∧ slots + 48 * n ≤ 7293034), W p l e room_1 s m #[Value.ref sb] below meth c H locs cells slots (lw_Z below #[Value.ref sb] s) (F0 m 23 ls [])) {M : Mem} {x4 : Int32} {x5 : Int32} {xs1 : Int32} {xs2 : Int32} {xs3 : Int32} {xs4 : Int32} {M' : Mem} (h : f_L_law_547 xs L K23 M x4 x5 xs1 xs2 xs3 xs4 = some (1, M')) {H : Heap} {locs : List Loc} {ls : Array Slot} {cells slots : Nat} (hS : va_S (A0 b) s.heap H locs) (hW : Wd Z b M H) (hl : lv_has ls 7 [(0, .ref sb), (1, .ref (b + 0)), (2, .ref (b + 156)), (3, .ref (b + 172)), (4, .int x4), (5, .int x5)]) (hcs : cells + 1 + 8 * n ≤ 601024 ∧ slots + 6 + 48 * n ≤ 7293034) : W p l e room_1 s m #[Value.ref sb] below meth c H locs cells slots (lw_Z below #[Value.ref sb] s) (F0 m 547 ls [.int xs4, .int xs3, .int xs2, .int xs1, .ref (b + 156)]) := by
  unfold f_L_law_547 at h
  have hx := C.1
  have hb := C.2.1
  have hbA : ¬ A0 b sb := by unfold A0; omega
  refine lv_aload_n hx hb dL_law_547 rfl (lv_at hl 0 rfl) ?_
  refine lv_iload hx hb dL_law_548 (lv_at hl 4 rfl) ?_
  refine lv_iconst (v := (5 : Int32)) hx hb dL_law_550 (by decide) ?_
  refine lv_iadd hx hb dL_law_551 ?_
  obtain ⟨g552, h⟩ := gd h
  refine va_sld hx hb hX hbl hbA hS g552 dL_law_552 ?_
  obtain ⟨r553, M553, hc553, h⟩ := bd2_e h
  refine kL_109 C hml hl.1 (c_X5_copy hc553) ⟨Nat.le_of_ble_eq_true rfl, Nat.le_of_ble_eq_true rfl⟩ ⟨by show _ ≤ 601024; omega, by show _ ≤ 7293034; omega⟩ (Nat.le_of_ble_eq_true rfl) hS hW dL_law_553 (fun H locs hW hS => ?_)
  refine lv_istore (lv' := [(6, .int r553), (0, .ref sb), (1, .ref (b + 0)), (2, .ref (b + 156)), (3, .ref (b + 172)), (4, .int x4), (5, .int x5)]) hx hb dL_law_556 hl (by decide) rfl (fun ls hl => ?_)
  refine lv_aload_n hx hb dL_law_558 rfl (lv_at hl 3 rfl) ?_
  obtain ⟨r559, M559, hc559, h⟩ := bd2_e h
  refine kL_87 C hml hl.1 (c_X5_thrown hc559) ⟨Nat.le_of_ble_eq_true rfl, Nat.le_of_ble_eq_true rfl⟩ ⟨by show _ ≤ 601024; omega, by show _ ≤ 7293034; omega⟩ (Nat.le_of_ble_eq_true rfl) hS hW dL_law_559 (fun H locs hW hS => ?_)
  refine lv_iload hx hb dL_law_562 (lv_at hl 6 rfl) ?_
  refine lv_icmp_eq (tgt := 569) hx hb dL_law_564 (by decide) (fun c564 => ?_) (fun c564 => ?_)
  · have h := (if_pos c564).symm.trans h
    refine lv_iload hx hb dL_law_569 (lv_at hl 6 rfl) ?_
    refine lv_if_ne (tgt := 586) hx hb dL_law_571 (by decide) (fun c571 => ?_) (fun c571 => ?_)
    · have h := (if_neg c571).symm.trans h
      exact w_L_law_586 C hml hr hlk hlf hX hbl hbb n hK23 h hS hW (lv_sub hl [1, 2, 3, 4, 5] rfl) ⟨by omega, by omega⟩
    · have h := (if_pos c571).symm.trans h
      refine lv_aload_n hx hb dL_law_574 rfl (lv_at hl 4 rfl) ?_
      refine lv_iconst (v := (0 : Int32)) hx hb dL_law_575 (by decide) ?_
      obtain ⟨g576, h⟩ := gd h
      refine ald_172 C hW g576 dL_law_576 ?_
      refine lv_iload hx hb dL_law_577 (lv_at hl 0 rfl) ?_
      refine lv_i2l (v := r553.toInt64) hx hb dL_law_579 rfl ?_
      refine W.lcmp hx hb dL_law_580 ?_
      refine lv_if_eq (tgt := 586) hx hb dL_law_581 (by decide) (fun c581 => ?_) (fun c581 => ?_)
      · have h := (if_pos c581).symm.trans h
        exact w_L_law_586 C hml hr hlk hlf hX hbl hbb n hK23 h hS hW (lv_sub hl [1, 2, 3, 4, 5] rfl) ⟨by omega, by omega⟩
      · have h := (if_neg c581).symm.trans h
        refine lv_iconst (v := (0 : Int32)) hx hb dL_law_584 (by decide) ?_
        exact absurd (show (0 : Int32) = 1 from congrArg Prod.fst (Option.some.inj h)) (by decide)
  · have h := (if_neg c564).symm.trans h
    refine lv_iconst (v := (0 : Int32)) hx hb dL_law_567 (by decide) ?_
    exact absurd (show (0 : Int32) = 1 from congrArg Prod.fst (Option.some.inj h)) (by decide)
def f_L_law_502 (xs : Nat → Int32) (L : Nat) (K23 : Mem → Int32 → Option (Int32 × Mem)) (M : Mem) (x4 : Int32) (xs1 : Int32) (xs2 : Int32) (xs3 : Int32) (xs4 : Int32) : Option (Int32 × Mem) :=
  if (x4 + (5 : Int32)) < 0 ∨ L ≤ (x4 + (5 : Int32)).toNatClampNeg then none else bd2 (f_L_copy M xs1 xs2 xs3 xs4 (xs (x4 + (5 : Int32)).toNatClampNeg)) (fun r509 M509 => if (x4 + (1 : Int32)) < 0 ∨ L ≤ (x4 + (1 : Int32)).toNatClampNeg then none else if (x4 + (2 : Int32)) < 0 ∨ L ≤ (x4 + (2 : Int32)).toNatClampNeg then none else if (x4 + (3 : Int32)) < 0 ∨ L ≤ (x4 + (3 : Int32)).toNatClampNeg then none else if (x4 + (4 : Int32)) < 0 ∨ L ≤ (x4 + (4 : Int32)).toNatClampNeg then none else if (xs (x4 + (4 : Int32)).toNatClampNeg) = 0 then f_L_law_547 xs L K23 M509 x4 r509 (xs (x4 + (1 : Int32)).toNatClampNeg) (xs (x4 + (2 : Int32)).toNatClampNeg) (xs (x4 + (3 : Int32)).toNatClampNeg) (0 : Int32) else f_L_law_547 xs L K23 M509 x4 r509 (xs (x4 + (1 : Int32)).toNatClampNeg) (xs (x4 + (2 : Int32)).toNatClampNeg) (xs (x4 + (3 : Int32)).toNatClampNeg) (1 : Int32))
set_option maxHeartbeats 4000000 in
set_option maxRecDepth 100000 in
theorem w_L_law_502 {p : Program} {l : Launch} {e : Env} {s : State} {m : MethodId} {below : List Frame} {meth : Method} {c : Code} {Z : Zt} {b sb L : Nat} {xs : Nat → Int32} (C : Cx p s m #[Value.ref sb] c cL_law RL Z b) (hml : c.maxLocals = 7) (hr : meth.sig.returnType = ret) (hlk : meth.locks = false) (hlf : l.stackTraces = false) (hX : va_X sb L xs s s.heap) (hbl : sb < s.heap.size) (hbb : b = s.heap.size) (n : Nat) {K23 : Mem → Int32 → Option (Int32 × Mem)} (hK23 : ∀ {M : Mem} {x4 : Int32} {M' : Mem} (h : K23 M x4 = some (1, M')) {H : Heap} {locs : List Loc} {ls : Array Slot} {cells slots : Nat} (hS : va_S (A0 b) s.heap H locs) (hW : Wd Z b M H) (hl : lv_has ls 7 [(0, .ref sb), (1, .ref (b + 0)), (2, .ref (b + 156)), (3, .ref (b + 172)), (4, .int x4)]) (hcs : cells + 8 * n ≤ 601024 ∧ slots + 48 * n ≤ 7293034), W p l e room_1 s m #[Value.ref sb] below meth c H locs cells slots (lw_Z below #[Value.ref sb] s) (F0 m 23 ls [])) {M : Mem} {x4 : Int32} {xs1 : Int32} {xs2 : Int32} {xs3 : Int32} {xs4 : Int32} {M' : Mem} (h : f_L_law_502 xs L K23 M x4 xs1 xs2 xs3 xs4 = some (1, M')) {H : Heap} {locs : List Loc} {ls : Array Slot} {cells slots : Nat} (hS : va_S (A0 b) s.heap H locs) (hW : Wd Z b M H) (hl : lv_has ls 7 [(0, .ref sb), (1, .ref (b + 0)), (2, .ref (b + 156)), (3, .ref (b + 172)), (4, .int x4)]) (hcs : cells + 8 + 8 * n ≤ 601024 ∧ slots + 48 + 48 * n ≤ 7293034) : W p l e room_1 s m #[Value.ref sb] below meth c H locs cells slots (lw_Z below #[Value.ref sb] s) (F0 m 502 ls [.int xs4, .int xs3, .int xs2, .int xs1, .ref (b + 0)]) := by
  unfold f_L_law_502 at h
  have hx := C.1
  have hb := C.2.1
  have hbA : ¬ A0 b sb := by unfold A0; omega
  refine lv_aload_n hx hb dL_law_502 rfl (lv_at hl 0 rfl) ?_
  refine lv_iload hx hb dL_law_503 (lv_at hl 4 rfl) ?_
  refine lv_iconst (v := (5 : Int32)) hx hb dL_law_505 (by decide) ?_
  refine lv_iadd hx hb dL_law_506 ?_
  obtain ⟨g507, h⟩ := gd h
  refine va_sld hx hb hX hbl hbA hS g507 dL_law_507 ?_
  refine lv_aload_n hx hb dL_law_508 rfl (lv_at hl 3 rfl) ?_
  obtain ⟨r509, M509, hc509, h⟩ := bd2_e h
  refine kL_106 C hml hl.1 (c_L_copy hlf hc509) ⟨Nat.le_of_ble_eq_true rfl, Nat.le_of_ble_eq_true rfl⟩ ⟨by show _ ≤ 601024; omega, by show _ ≤ 7293034; omega⟩ (Nat.le_of_ble_eq_true rfl) hS hW dL_law_509 (fun H locs hW hS => ?_)
  refine lv_istore (lv' := [(5, .int r509), (0, .ref sb), (1, .ref (b + 0)), (2, .ref (b + 156)), (3, .ref (b + 172)), (4, .int x4)]) hx hb dL_law_512 hl (by decide) rfl (fun ls hl => ?_)
  refine lv_aload_n hx hb dL_law_514 rfl (lv_at hl 3 rfl) ?_
  refine lv_aload_n hx hb dL_law_515 rfl (lv_at hl 1 rfl) ?_
  refine lv_iload hx hb dL_law_516 (lv_at hl 5 rfl) ?_
  refine lv_iconst (v := (1 : Int32)) hx hb dL_law_518 (by decide) ?_
  refine lv_iadd hx hb dL_law_519 ?_
  obtain ⟨g520, h⟩ := gd h
  refine va_sld hx hb hX hbl hbA hS g520 dL_law_520 ?_
  refine lv_aload_n hx hb dL_law_521 rfl (lv_at hl 1 rfl) ?_
  refine lv_iload hx hb dL_law_522 (lv_at hl 5 rfl) ?_
  refine lv_iconst (v := (2 : Int32)) hx hb dL_law_524 (by decide) ?_
  refine lv_iadd hx hb dL_law_525 ?_
  obtain ⟨g526, h⟩ := gd h
  refine va_sld hx hb hX hbl hbA hS g526 dL_law_526 ?_
  refine lv_aload_n hx hb dL_law_527 rfl (lv_at hl 1 rfl) ?_
  refine lv_iload hx hb dL_law_528 (lv_at hl 5 rfl) ?_
  refine lv_iconst (v := (3 : Int32)) hx hb dL_law_530 (by decide) ?_
  refine lv_iadd hx hb dL_law_531 ?_
  obtain ⟨g532, h⟩ := gd h
  refine va_sld hx hb hX hbl hbA hS g532 dL_law_532 ?_
  refine lv_aload_n hx hb dL_law_533 rfl (lv_at hl 1 rfl) ?_
  refine lv_iload hx hb dL_law_534 (lv_at hl 5 rfl) ?_
  refine lv_iconst (v := (4 : Int32)) hx hb dL_law_536 (by decide) ?_
  refine lv_iadd hx hb dL_law_537 ?_
  obtain ⟨g538, h⟩ := gd h
  refine va_sld hx hb hX hbl hbA hS g538 dL_law_538 ?_
  refine lv_if_eq (tgt := 546) hx hb dL_law_539 (by decide) (fun c539 => ?_) (fun c539 => ?_)
  · have h := (if_pos c539).symm.trans h
    refine lv_iconst (v := (0 : Int32)) hx hb dL_law_546 (by decide) ?_
    exact w_L_law_547 C hml hr hlk hlf hX hbl hbb n hK23 h hS hW (lv_sub hl [1, 2, 3, 4, 5, 0] rfl) ⟨by omega, by omega⟩
  · have h := (if_neg c539).symm.trans h
    refine lv_iconst (v := (1 : Int32)) hx hb dL_law_542 (by decide) ?_
    refine lv_goto (tgt := 547) hx hb dL_law_543 (by decide) ?_
    exact w_L_law_547 C hml hr hlk hlf hX hbl hbb n hK23 h hS hW (lv_sub hl [1, 2, 3, 4, 5, 0] rfl) ⟨by omega, by omega⟩
def f_L_law_469 (xs : Nat → Int32) (L : Nat) (K23 : Mem → Int32 → Option (Int32 × Mem)) (M : Mem) (x4 : Int32) : Option (Int32 × Mem) :=
  if (x4 + (1 : Int32)) < 0 ∨ L ≤ (x4 + (1 : Int32)).toNatClampNeg then none else if (x4 + (2 : Int32)) < 0 ∨ L ≤ (x4 + (2 : Int32)).toNatClampNeg then none else if (x4 + (3 : Int32)) < 0 ∨ L ≤ (x4 + (3 : Int32)).toNatClampNeg then none else if (x4 + (4 : Int32)) < 0 ∨ L ≤ (x4 + (4 : Int32)).toNatClampNeg then none else if (xs (x4 + (4 : Int32)).toNatClampNeg) = 0 then f_L_law_502 xs L K23 M x4 (xs (x4 + (1 : Int32)).toNatClampNeg) (xs (x4 + (2 : Int32)).toNatClampNeg) (xs (x4 + (3 : Int32)).toNatClampNeg) (0 : Int32) else f_L_law_502 xs L K23 M x4 (xs (x4 + (1 : Int32)).toNatClampNeg) (xs (x4 + (2 : Int32)).toNatClampNeg) (xs (x4 + (3 : Int32)).toNatClampNeg) (1 : Int32)
set_option maxHeartbeats 4000000 in
set_option maxRecDepth 100000 in
theorem w_L_law_469 {p : Program} {l : Launch} {e : Env} {s : State} {m : MethodId} {below : List Frame} {meth : Method} {c : Code} {Z : Zt} {b sb L : Nat} {xs : Nat → Int32} (C : Cx p s m #[Value.ref sb] c cL_law RL Z b) (hml : c.maxLocals = 7) (hr : meth.sig.returnType = ret) (hlk : meth.locks = false) (hlf : l.stackTraces = false) (hX : va_X sb L xs s s.heap) (hbl : sb < s.heap.size) (hbb : b = s.heap.size) (n : Nat) {K23 : Mem → Int32 → Option (Int32 × Mem)} (hK23 : ∀ {M : Mem} {x4 : Int32} {M' : Mem} (h : K23 M x4 = some (1, M')) {H : Heap} {locs : List Loc} {ls : Array Slot} {cells slots : Nat} (hS : va_S (A0 b) s.heap H locs) (hW : Wd Z b M H) (hl : lv_has ls 7 [(0, .ref sb), (1, .ref (b + 0)), (2, .ref (b + 156)), (3, .ref (b + 172)), (4, .int x4)]) (hcs : cells + 8 * n ≤ 601024 ∧ slots + 48 * n ≤ 7293034), W p l e room_1 s m #[Value.ref sb] below meth c H locs cells slots (lw_Z below #[Value.ref sb] s) (F0 m 23 ls [])) {M : Mem} {x4 : Int32} {M' : Mem} (h : f_L_law_469 xs L K23 M x4 = some (1, M')) {H : Heap} {locs : List Loc} {ls : Array Slot} {cells slots : Nat} (hS : va_S (A0 b) s.heap H locs) (hW : Wd Z b M H) (hl : lv_has ls 7 [(0, .ref sb), (1, .ref (b + 0)), (2, .ref (b + 156)), (3, .ref (b + 172)), (4, .int x4)]) (hcs : cells + 8 + 8 * n ≤ 601024 ∧ slots + 48 + 48 * n ≤ 7293034) : W p l e room_1 s m #[Value.ref sb] below meth c H locs cells slots (lw_Z below #[Value.ref sb] s) (F0 m 469 ls []) := by
  unfold f_L_law_469 at h
  have hx := C.1
  have hb := C.2.1
  have hbA : ¬ A0 b sb := by unfold A0; omega
  refine lv_aload_n hx hb dL_law_469 rfl (lv_at hl 1 rfl) ?_
  refine lv_aload_n hx hb dL_law_470 rfl (lv_at hl 0 rfl) ?_
  refine lv_iload hx hb dL_law_471 (lv_at hl 4 rfl) ?_
  refine lv_iconst (v := (1 : Int32)) hx hb dL_law_473 (by decide) ?_
  refine lv_iadd hx hb dL_law_474 ?_
  obtain ⟨g475, h⟩ := gd h
  refine va_sld hx hb hX hbl hbA hS g475 dL_law_475 ?_
  refine lv_aload_n hx hb dL_law_476 rfl (lv_at hl 0 rfl) ?_
  refine lv_iload hx hb dL_law_477 (lv_at hl 4 rfl) ?_
  refine lv_iconst (v := (2 : Int32)) hx hb dL_law_479 (by decide) ?_
  refine lv_iadd hx hb dL_law_480 ?_
  obtain ⟨g481, h⟩ := gd h
  refine va_sld hx hb hX hbl hbA hS g481 dL_law_481 ?_
  refine lv_aload_n hx hb dL_law_482 rfl (lv_at hl 0 rfl) ?_
  refine lv_iload hx hb dL_law_483 (lv_at hl 4 rfl) ?_
  refine lv_iconst (v := (3 : Int32)) hx hb dL_law_485 (by decide) ?_
  refine lv_iadd hx hb dL_law_486 ?_
  obtain ⟨g487, h⟩ := gd h
  refine va_sld hx hb hX hbl hbA hS g487 dL_law_487 ?_
  refine lv_aload_n hx hb dL_law_488 rfl (lv_at hl 0 rfl) ?_
  refine lv_iload hx hb dL_law_489 (lv_at hl 4 rfl) ?_
  refine lv_iconst (v := (4 : Int32)) hx hb dL_law_491 (by decide) ?_
  refine lv_iadd hx hb dL_law_492 ?_
  obtain ⟨g493, h⟩ := gd h
  refine va_sld hx hb hX hbl hbA hS g493 dL_law_493 ?_
  refine lv_if_eq (tgt := 501) hx hb dL_law_494 (by decide) (fun c494 => ?_) (fun c494 => ?_)
  · have h := (if_pos c494).symm.trans h
    refine lv_iconst (v := (0 : Int32)) hx hb dL_law_501 (by decide) ?_
    exact w_L_law_502 C hml hr hlk hlf hX hbl hbb n hK23 h hS hW (lv_sub hl [0, 1, 2, 3, 4] rfl) ⟨by omega, by omega⟩
  · have h := (if_neg c494).symm.trans h
    refine lv_iconst (v := (1 : Int32)) hx hb dL_law_497 (by decide) ?_
    refine lv_goto (tgt := 502) hx hb dL_law_498 (by decide) ?_
    exact w_L_law_502 C hml hr hlk hlf hX hbl hbb n hK23 h hS hW (lv_sub hl [0, 1, 2, 3, 4] rfl) ⟨by omega, by omega⟩
def f_L_law_706 (xs : Nat → Int32) (L : Nat) (K23 : Mem → Int32 → Option (Int32 × Mem)) (M : Mem) (x4 : Int32) : Option (Int32 × Mem) :=
  f_L_law_1627 xs L K23 M x4
set_option maxHeartbeats 4000000 in
set_option maxRecDepth 100000 in
theorem w_L_law_706 {p : Program} {l : Launch} {e : Env} {s : State} {m : MethodId} {below : List Frame} {meth : Method} {c : Code} {Z : Zt} {b sb L : Nat} {xs : Nat → Int32} (C : Cx p s m #[Value.ref sb] c cL_law RL Z b) (hml : c.maxLocals = 7) (hr : meth.sig.returnType = ret) (hlk : meth.locks = false) (hlf : l.stackTraces = false) (hX : va_X sb L xs s s.heap) (hbl : sb < s.heap.size) (hbb : b = s.heap.size) (n : Nat) {K23 : Mem → Int32 → Option (Int32 × Mem)} (hK23 : ∀ {M : Mem} {x4 : Int32} {M' : Mem} (h : K23 M x4 = some (1, M')) {H : Heap} {locs : List Loc} {ls : Array Slot} {cells slots : Nat} (hS : va_S (A0 b) s.heap H locs) (hW : Wd Z b M H) (hl : lv_has ls 7 [(0, .ref sb), (1, .ref (b + 0)), (2, .ref (b + 156)), (3, .ref (b + 172)), (4, .int x4)]) (hcs : cells + 8 * n ≤ 601024 ∧ slots + 48 * n ≤ 7293034), W p l e room_1 s m #[Value.ref sb] below meth c H locs cells slots (lw_Z below #[Value.ref sb] s) (F0 m 23 ls [])) {M : Mem} {x4 : Int32} {M' : Mem} (h : f_L_law_706 xs L K23 M x4 = some (1, M')) {H : Heap} {locs : List Loc} {ls : Array Slot} {cells slots : Nat} (hS : va_S (A0 b) s.heap H locs) (hW : Wd Z b M H) (hl : lv_has ls 7 [(0, .ref sb), (1, .ref (b + 0)), (2, .ref (b + 156)), (3, .ref (b + 172)), (4, .int x4)]) (hcs : cells + 1 + 8 * n ≤ 601024 ∧ slots + 6 + 48 * n ≤ 7293034) : W p l e room_1 s m #[Value.ref sb] below meth c H locs cells slots (lw_Z below #[Value.ref sb] s) (F0 m 706 ls []) := by
  unfold f_L_law_706 at h
  have hx := C.1
  have hb := C.2.1
  have hbA : ¬ A0 b sb := by unfold A0; omega
  refine lv_goto (tgt := 1627) hx hb dL_law_706 (by decide) ?_
  exact w_L_law_1627 C hml hr hlk hlf hX hbl hbb n hK23 h hS hW (lv_sub hl [0, 1, 2, 3, 4] rfl) ⟨by omega, by omega⟩
def f_L_law_667 (xs : Nat → Int32) (L : Nat) (K23 : Mem → Int32 → Option (Int32 × Mem)) (M : Mem) (x4 : Int32) (x5 : Int32) (xs1 : Int32) (xs2 : Int32) (xs3 : Int32) (xs4 : Int32) : Option (Int32 × Mem) :=
  if (x4 + (5 : Int32)) < 0 ∨ L ≤ (x4 + (5 : Int32)).toNatClampNeg then none else bd2 (f_X5_move M xs1 xs2 xs3 xs4 (xs (x4 + (5 : Int32)).toNatClampNeg)) (fun r673 M673 => bd2 (f_X5_thrown M673) (fun r679 M679 => if r679 = x5 then (if x5 = 0 then (if (0 : Int32) < 0 ∨ 1 ≤ (0 : Int32).toNatClampNeg then none else if (lg_cmp (M679 40 (0 : Int32).toNatClampNeg).toInt64 r673.toInt64) = 0 then f_L_law_706 xs L K23 M679 x4 else some ((0 : Int32), M679)) else f_L_law_706 xs L K23 M679 x4) else some ((0 : Int32), M679)))
set_option maxHeartbeats 4000000 in
set_option maxRecDepth 100000 in
theorem w_L_law_667 {p : Program} {l : Launch} {e : Env} {s : State} {m : MethodId} {below : List Frame} {meth : Method} {c : Code} {Z : Zt} {b sb L : Nat} {xs : Nat → Int32} (C : Cx p s m #[Value.ref sb] c cL_law RL Z b) (hml : c.maxLocals = 7) (hr : meth.sig.returnType = ret) (hlk : meth.locks = false) (hlf : l.stackTraces = false) (hX : va_X sb L xs s s.heap) (hbl : sb < s.heap.size) (hbb : b = s.heap.size) (n : Nat) {K23 : Mem → Int32 → Option (Int32 × Mem)} (hK23 : ∀ {M : Mem} {x4 : Int32} {M' : Mem} (h : K23 M x4 = some (1, M')) {H : Heap} {locs : List Loc} {ls : Array Slot} {cells slots : Nat} (hS : va_S (A0 b) s.heap H locs) (hW : Wd Z b M H) (hl : lv_has ls 7 [(0, .ref sb), (1, .ref (b + 0)), (2, .ref (b + 156)), (3, .ref (b + 172)), (4, .int x4)]) (hcs : cells + 8 * n ≤ 601024 ∧ slots + 48 * n ≤ 7293034), W p l e room_1 s m #[Value.ref sb] below meth c H locs cells slots (lw_Z below #[Value.ref sb] s) (F0 m 23 ls [])) {M : Mem} {x4 : Int32} {x5 : Int32} {xs1 : Int32} {xs2 : Int32} {xs3 : Int32} {xs4 : Int32} {M' : Mem} (h : f_L_law_667 xs L K23 M x4 x5 xs1 xs2 xs3 xs4 = some (1, M')) {H : Heap} {locs : List Loc} {ls : Array Slot} {cells slots : Nat} (hS : va_S (A0 b) s.heap H locs) (hW : Wd Z b M H) (hl : lv_has ls 7 [(0, .ref sb), (1, .ref (b + 0)), (2, .ref (b + 156)), (3, .ref (b + 172)), (4, .int x4), (5, .int x5)]) (hcs : cells + 1 + 8 * n ≤ 601024 ∧ slots + 6 + 48 * n ≤ 7293034) : W p l e room_1 s m #[Value.ref sb] below meth c H locs cells slots (lw_Z below #[Value.ref sb] s) (F0 m 667 ls [.int xs4, .int xs3, .int xs2, .int xs1, .ref (b + 156)]) := by
  unfold f_L_law_667 at h
  have hx := C.1
  have hb := C.2.1
  have hbA : ¬ A0 b sb := by unfold A0; omega
  refine lv_aload_n hx hb dL_law_667 rfl (lv_at hl 0 rfl) ?_
  refine lv_iload hx hb dL_law_668 (lv_at hl 4 rfl) ?_
  refine lv_iconst (v := (5 : Int32)) hx hb dL_law_670 (by decide) ?_
  refine lv_iadd hx hb dL_law_671 ?_
  obtain ⟨g672, h⟩ := gd h
  refine va_sld hx hb hX hbl hbA hS g672 dL_law_672 ?_
  obtain ⟨r673, M673, hc673, h⟩ := bd2_e h
  refine kL_112 C hml hl.1 (c_X5_move hc673) ⟨Nat.le_of_ble_eq_true rfl, Nat.le_of_ble_eq_true rfl⟩ ⟨by show _ ≤ 601024; omega, by show _ ≤ 7293034; omega⟩ (Nat.le_of_ble_eq_true rfl) hS hW dL_law_673 (fun H locs hW hS => ?_)
  refine lv_istore (lv' := [(6, .int r673), (0, .ref sb), (1, .ref (b + 0)), (2, .ref (b + 156)), (3, .ref (b + 172)), (4, .int x4), (5, .int x5)]) hx hb dL_law_676 hl (by decide) rfl (fun ls hl => ?_)
  refine lv_aload_n hx hb dL_law_678 rfl (lv_at hl 3 rfl) ?_
  obtain ⟨r679, M679, hc679, h⟩ := bd2_e h
  refine kL_87 C hml hl.1 (c_X5_thrown hc679) ⟨Nat.le_of_ble_eq_true rfl, Nat.le_of_ble_eq_true rfl⟩ ⟨by show _ ≤ 601024; omega, by show _ ≤ 7293034; omega⟩ (Nat.le_of_ble_eq_true rfl) hS hW dL_law_679 (fun H locs hW hS => ?_)
  refine lv_iload hx hb dL_law_682 (lv_at hl 6 rfl) ?_
  refine lv_icmp_eq (tgt := 689) hx hb dL_law_684 (by decide) (fun c684 => ?_) (fun c684 => ?_)
  · have h := (if_pos c684).symm.trans h
    refine lv_iload hx hb dL_law_689 (lv_at hl 6 rfl) ?_
    refine lv_if_ne (tgt := 706) hx hb dL_law_691 (by decide) (fun c691 => ?_) (fun c691 => ?_)
    · have h := (if_neg c691).symm.trans h
      exact w_L_law_706 C hml hr hlk hlf hX hbl hbb n hK23 h hS hW (lv_sub hl [1, 2, 3, 4, 5] rfl) ⟨by omega, by omega⟩
    · have h := (if_pos c691).symm.trans h
      refine lv_aload_n hx hb dL_law_694 rfl (lv_at hl 4 rfl) ?_
      refine lv_iconst (v := (0 : Int32)) hx hb dL_law_695 (by decide) ?_
      obtain ⟨g696, h⟩ := gd h
      refine ald_172 C hW g696 dL_law_696 ?_
      refine lv_iload hx hb dL_law_697 (lv_at hl 0 rfl) ?_
      refine lv_i2l (v := r673.toInt64) hx hb dL_law_699 rfl ?_
      refine W.lcmp hx hb dL_law_700 ?_
      refine lv_if_eq (tgt := 706) hx hb dL_law_701 (by decide) (fun c701 => ?_) (fun c701 => ?_)
      · have h := (if_pos c701).symm.trans h
        exact w_L_law_706 C hml hr hlk hlf hX hbl hbb n hK23 h hS hW (lv_sub hl [1, 2, 3, 4, 5] rfl) ⟨by omega, by omega⟩
      · have h := (if_neg c701).symm.trans h
        refine lv_iconst (v := (0 : Int32)) hx hb dL_law_704 (by decide) ?_
        exact absurd (show (0 : Int32) = 1 from congrArg Prod.fst (Option.some.inj h)) (by decide)
  · have h := (if_neg c684).symm.trans h
    refine lv_iconst (v := (0 : Int32)) hx hb dL_law_687 (by decide) ?_
    exact absurd (show (0 : Int32) = 1 from congrArg Prod.fst (Option.some.inj h)) (by decide)
def f_L_law_622 (xs : Nat → Int32) (L : Nat) (K23 : Mem → Int32 → Option (Int32 × Mem)) (M : Mem) (x4 : Int32) (xs1 : Int32) (xs2 : Int32) (xs3 : Int32) (xs4 : Int32) : Option (Int32 × Mem) :=
  if (x4 + (5 : Int32)) < 0 ∨ L ≤ (x4 + (5 : Int32)).toNatClampNeg then none else bd2 (f_L_move M xs1 xs2 xs3 xs4 (xs (x4 + (5 : Int32)).toNatClampNeg)) (fun r629 M629 => if (x4 + (1 : Int32)) < 0 ∨ L ≤ (x4 + (1 : Int32)).toNatClampNeg then none else if (x4 + (2 : Int32)) < 0 ∨ L ≤ (x4 + (2 : Int32)).toNatClampNeg then none else if (x4 + (3 : Int32)) < 0 ∨ L ≤ (x4 + (3 : Int32)).toNatClampNeg then none else if (x4 + (4 : Int32)) < 0 ∨ L ≤ (x4 + (4 : Int32)).toNatClampNeg then none else if (xs (x4 + (4 : Int32)).toNatClampNeg) = 0 then f_L_law_667 xs L K23 M629 x4 r629 (xs (x4 + (1 : Int32)).toNatClampNeg) (xs (x4 + (2 : Int32)).toNatClampNeg) (xs (x4 + (3 : Int32)).toNatClampNeg) (0 : Int32) else f_L_law_667 xs L K23 M629 x4 r629 (xs (x4 + (1 : Int32)).toNatClampNeg) (xs (x4 + (2 : Int32)).toNatClampNeg) (xs (x4 + (3 : Int32)).toNatClampNeg) (1 : Int32))
set_option maxHeartbeats 4000000 in
set_option maxRecDepth 100000 in
theorem w_L_law_622 {p : Program} {l : Launch} {e : Env} {s : State} {m : MethodId} {below : List Frame} {meth : Method} {c : Code} {Z : Zt} {b sb L : Nat} {xs : Nat → Int32} (C : Cx p s m #[Value.ref sb] c cL_law RL Z b) (hml : c.maxLocals = 7) (hr : meth.sig.returnType = ret) (hlk : meth.locks = false) (hlf : l.stackTraces = false) (hX : va_X sb L xs s s.heap) (hbl : sb < s.heap.size) (hbb : b = s.heap.size) (n : Nat) {K23 : Mem → Int32 → Option (Int32 × Mem)} (hK23 : ∀ {M : Mem} {x4 : Int32} {M' : Mem} (h : K23 M x4 = some (1, M')) {H : Heap} {locs : List Loc} {ls : Array Slot} {cells slots : Nat} (hS : va_S (A0 b) s.heap H locs) (hW : Wd Z b M H) (hl : lv_has ls 7 [(0, .ref sb), (1, .ref (b + 0)), (2, .ref (b + 156)), (3, .ref (b + 172)), (4, .int x4)]) (hcs : cells + 8 * n ≤ 601024 ∧ slots + 48 * n ≤ 7293034), W p l e room_1 s m #[Value.ref sb] below meth c H locs cells slots (lw_Z below #[Value.ref sb] s) (F0 m 23 ls [])) {M : Mem} {x4 : Int32} {xs1 : Int32} {xs2 : Int32} {xs3 : Int32} {xs4 : Int32} {M' : Mem} (h : f_L_law_622 xs L K23 M x4 xs1 xs2 xs3 xs4 = some (1, M')) {H : Heap} {locs : List Loc} {ls : Array Slot} {cells slots : Nat} (hS : va_S (A0 b) s.heap H locs) (hW : Wd Z b M H) (hl : lv_has ls 7 [(0, .ref sb), (1, .ref (b + 0)), (2, .ref (b + 156)), (3, .ref (b + 172)), (4, .int x4)]) (hcs : cells + 8 + 8 * n ≤ 601024 ∧ slots + 48 + 48 * n ≤ 7293034) : W p l e room_1 s m #[Value.ref sb] below meth c H locs cells slots (lw_Z below #[Value.ref sb] s) (F0 m 622 ls [.int xs4, .int xs3, .int xs2, .int xs1, .ref (b + 0)]) := by
  unfold f_L_law_622 at h
  have hx := C.1
  have hb := C.2.1
  have hbA : ¬ A0 b sb := by unfold A0; omega
  refine lv_aload_n hx hb dL_law_622 rfl (lv_at hl 0 rfl) ?_
  refine lv_iload hx hb dL_law_623 (lv_at hl 4 rfl) ?_
  refine lv_iconst (v := (5 : Int32)) hx hb dL_law_625 (by decide) ?_
  refine lv_iadd hx hb dL_law_626 ?_
  obtain ⟨g627, h⟩ := gd h
  refine va_sld hx hb hX hbl hbA hS g627 dL_law_627 ?_
  refine lv_aload_n hx hb dL_law_628 rfl (lv_at hl 3 rfl) ?_
  obtain ⟨r629, M629, hc629, h⟩ := bd2_e h
  refine kL_110 C hml hl.1 (c_L_move hlf hc629) ⟨Nat.le_of_ble_eq_true rfl, Nat.le_of_ble_eq_true rfl⟩ ⟨by show _ ≤ 601024; omega, by show _ ≤ 7293034; omega⟩ (Nat.le_of_ble_eq_true rfl) hS hW dL_law_629 (fun H locs hW hS => ?_)
  refine lv_istore (lv' := [(5, .int r629), (0, .ref sb), (1, .ref (b + 0)), (2, .ref (b + 156)), (3, .ref (b + 172)), (4, .int x4)]) hx hb dL_law_632 hl (by decide) rfl (fun ls hl => ?_)
  refine lv_aload_n hx hb dL_law_634 rfl (lv_at hl 3 rfl) ?_
  refine lv_aload_n hx hb dL_law_635 rfl (lv_at hl 1 rfl) ?_
  refine lv_iload hx hb dL_law_636 (lv_at hl 5 rfl) ?_
  refine lv_iconst (v := (1 : Int32)) hx hb dL_law_638 (by decide) ?_
  refine lv_iadd hx hb dL_law_639 ?_
  obtain ⟨g640, h⟩ := gd h
  refine va_sld hx hb hX hbl hbA hS g640 dL_law_640 ?_
  refine lv_aload_n hx hb dL_law_641 rfl (lv_at hl 1 rfl) ?_
  refine lv_iload hx hb dL_law_642 (lv_at hl 5 rfl) ?_
  refine lv_iconst (v := (2 : Int32)) hx hb dL_law_644 (by decide) ?_
  refine lv_iadd hx hb dL_law_645 ?_
  obtain ⟨g646, h⟩ := gd h
  refine va_sld hx hb hX hbl hbA hS g646 dL_law_646 ?_
  refine lv_aload_n hx hb dL_law_647 rfl (lv_at hl 1 rfl) ?_
  refine lv_iload hx hb dL_law_648 (lv_at hl 5 rfl) ?_
  refine lv_iconst (v := (3 : Int32)) hx hb dL_law_650 (by decide) ?_
  refine lv_iadd hx hb dL_law_651 ?_
  obtain ⟨g652, h⟩ := gd h
  refine va_sld hx hb hX hbl hbA hS g652 dL_law_652 ?_
  refine lv_aload_n hx hb dL_law_653 rfl (lv_at hl 1 rfl) ?_
  refine lv_iload hx hb dL_law_654 (lv_at hl 5 rfl) ?_
  refine lv_iconst (v := (4 : Int32)) hx hb dL_law_656 (by decide) ?_
  refine lv_iadd hx hb dL_law_657 ?_
  obtain ⟨g658, h⟩ := gd h
  refine va_sld hx hb hX hbl hbA hS g658 dL_law_658 ?_
  refine lv_if_eq (tgt := 666) hx hb dL_law_659 (by decide) (fun c659 => ?_) (fun c659 => ?_)
  · have h := (if_pos c659).symm.trans h
    refine lv_iconst (v := (0 : Int32)) hx hb dL_law_666 (by decide) ?_
    exact w_L_law_667 C hml hr hlk hlf hX hbl hbb n hK23 h hS hW (lv_sub hl [1, 2, 3, 4, 5, 0] rfl) ⟨by omega, by omega⟩
  · have h := (if_neg c659).symm.trans h
    refine lv_iconst (v := (1 : Int32)) hx hb dL_law_662 (by decide) ?_
    refine lv_goto (tgt := 667) hx hb dL_law_663 (by decide) ?_
    exact w_L_law_667 C hml hr hlk hlf hX hbl hbb n hK23 h hS hW (lv_sub hl [1, 2, 3, 4, 5, 0] rfl) ⟨by omega, by omega⟩
def f_L_law_589 (xs : Nat → Int32) (L : Nat) (K23 : Mem → Int32 → Option (Int32 × Mem)) (M : Mem) (x4 : Int32) : Option (Int32 × Mem) :=
  if (x4 + (1 : Int32)) < 0 ∨ L ≤ (x4 + (1 : Int32)).toNatClampNeg then none else if (x4 + (2 : Int32)) < 0 ∨ L ≤ (x4 + (2 : Int32)).toNatClampNeg then none else if (x4 + (3 : Int32)) < 0 ∨ L ≤ (x4 + (3 : Int32)).toNatClampNeg then none else if (x4 + (4 : Int32)) < 0 ∨ L ≤ (x4 + (4 : Int32)).toNatClampNeg then none else if (xs (x4 + (4 : Int32)).toNatClampNeg) = 0 then f_L_law_622 xs L K23 M x4 (xs (x4 + (1 : Int32)).toNatClampNeg) (xs (x4 + (2 : Int32)).toNatClampNeg) (xs (x4 + (3 : Int32)).toNatClampNeg) (0 : Int32) else f_L_law_622 xs L K23 M x4 (xs (x4 + (1 : Int32)).toNatClampNeg) (xs (x4 + (2 : Int32)).toNatClampNeg) (xs (x4 + (3 : Int32)).toNatClampNeg) (1 : Int32)
set_option maxHeartbeats 4000000 in
set_option maxRecDepth 100000 in
theorem w_L_law_589 {p : Program} {l : Launch} {e : Env} {s : State} {m : MethodId} {below : List Frame} {meth : Method} {c : Code} {Z : Zt} {b sb L : Nat} {xs : Nat → Int32} (C : Cx p s m #[Value.ref sb] c cL_law RL Z b) (hml : c.maxLocals = 7) (hr : meth.sig.returnType = ret) (hlk : meth.locks = false) (hlf : l.stackTraces = false) (hX : va_X sb L xs s s.heap) (hbl : sb < s.heap.size) (hbb : b = s.heap.size) (n : Nat) {K23 : Mem → Int32 → Option (Int32 × Mem)} (hK23 : ∀ {M : Mem} {x4 : Int32} {M' : Mem} (h : K23 M x4 = some (1, M')) {H : Heap} {locs : List Loc} {ls : Array Slot} {cells slots : Nat} (hS : va_S (A0 b) s.heap H locs) (hW : Wd Z b M H) (hl : lv_has ls 7 [(0, .ref sb), (1, .ref (b + 0)), (2, .ref (b + 156)), (3, .ref (b + 172)), (4, .int x4)]) (hcs : cells + 8 * n ≤ 601024 ∧ slots + 48 * n ≤ 7293034), W p l e room_1 s m #[Value.ref sb] below meth c H locs cells slots (lw_Z below #[Value.ref sb] s) (F0 m 23 ls [])) {M : Mem} {x4 : Int32} {M' : Mem} (h : f_L_law_589 xs L K23 M x4 = some (1, M')) {H : Heap} {locs : List Loc} {ls : Array Slot} {cells slots : Nat} (hS : va_S (A0 b) s.heap H locs) (hW : Wd Z b M H) (hl : lv_has ls 7 [(0, .ref sb), (1, .ref (b + 0)), (2, .ref (b + 156)), (3, .ref (b + 172)), (4, .int x4)]) (hcs : cells + 8 + 8 * n ≤ 601024 ∧ slots + 48 + 48 * n ≤ 7293034) : W p l e room_1 s m #[Value.ref sb] below meth c H locs cells slots (lw_Z below #[Value.ref sb] s) (F0 m 589 ls []) := by
  unfold f_L_law_589 at h
  have hx := C.1
  have hb := C.2.1
  have hbA : ¬ A0 b sb := by unfold A0; omega
  refine lv_aload_n hx hb dL_law_589 rfl (lv_at hl 1 rfl) ?_
  refine lv_aload_n hx hb dL_law_590 rfl (lv_at hl 0 rfl) ?_
  refine lv_iload hx hb dL_law_591 (lv_at hl 4 rfl) ?_
  refine lv_iconst (v := (1 : Int32)) hx hb dL_law_593 (by decide) ?_
  refine lv_iadd hx hb dL_law_594 ?_
  obtain ⟨g595, h⟩ := gd h
  refine va_sld hx hb hX hbl hbA hS g595 dL_law_595 ?_
  refine lv_aload_n hx hb dL_law_596 rfl (lv_at hl 0 rfl) ?_
  refine lv_iload hx hb dL_law_597 (lv_at hl 4 rfl) ?_
  refine lv_iconst (v := (2 : Int32)) hx hb dL_law_599 (by decide) ?_
  refine lv_iadd hx hb dL_law_600 ?_
  obtain ⟨g601, h⟩ := gd h
  refine va_sld hx hb hX hbl hbA hS g601 dL_law_601 ?_
  refine lv_aload_n hx hb dL_law_602 rfl (lv_at hl 0 rfl) ?_
  refine lv_iload hx hb dL_law_603 (lv_at hl 4 rfl) ?_
  refine lv_iconst (v := (3 : Int32)) hx hb dL_law_605 (by decide) ?_
  refine lv_iadd hx hb dL_law_606 ?_
  obtain ⟨g607, h⟩ := gd h
  refine va_sld hx hb hX hbl hbA hS g607 dL_law_607 ?_
  refine lv_aload_n hx hb dL_law_608 rfl (lv_at hl 0 rfl) ?_
  refine lv_iload hx hb dL_law_609 (lv_at hl 4 rfl) ?_
  refine lv_iconst (v := (4 : Int32)) hx hb dL_law_611 (by decide) ?_
  refine lv_iadd hx hb dL_law_612 ?_
  obtain ⟨g613, h⟩ := gd h
  refine va_sld hx hb hX hbl hbA hS g613 dL_law_613 ?_
  refine lv_if_eq (tgt := 621) hx hb dL_law_614 (by decide) (fun c614 => ?_) (fun c614 => ?_)
  · have h := (if_pos c614).symm.trans h
    refine lv_iconst (v := (0 : Int32)) hx hb dL_law_621 (by decide) ?_
    exact w_L_law_622 C hml hr hlk hlf hX hbl hbb n hK23 h hS hW (lv_sub hl [0, 1, 2, 3, 4] rfl) ⟨by omega, by omega⟩
  · have h := (if_neg c614).symm.trans h
    refine lv_iconst (v := (1 : Int32)) hx hb dL_law_617 (by decide) ?_
    refine lv_goto (tgt := 622) hx hb dL_law_618 (by decide) ?_
    exact w_L_law_622 C hml hr hlk hlf hX hbl hbb n hK23 h hS hW (lv_sub hl [0, 1, 2, 3, 4] rfl) ⟨by omega, by omega⟩
def f_L_law_762 (xs : Nat → Int32) (L : Nat) (K23 : Mem → Int32 → Option (Int32 × Mem)) (M : Mem) (x4 : Int32) : Option (Int32 × Mem) :=
  f_L_law_1627 xs L K23 M x4
set_option maxHeartbeats 4000000 in
set_option maxRecDepth 100000 in
theorem w_L_law_762 {p : Program} {l : Launch} {e : Env} {s : State} {m : MethodId} {below : List Frame} {meth : Method} {c : Code} {Z : Zt} {b sb L : Nat} {xs : Nat → Int32} (C : Cx p s m #[Value.ref sb] c cL_law RL Z b) (hml : c.maxLocals = 7) (hr : meth.sig.returnType = ret) (hlk : meth.locks = false) (hlf : l.stackTraces = false) (hX : va_X sb L xs s s.heap) (hbl : sb < s.heap.size) (hbb : b = s.heap.size) (n : Nat) {K23 : Mem → Int32 → Option (Int32 × Mem)} (hK23 : ∀ {M : Mem} {x4 : Int32} {M' : Mem} (h : K23 M x4 = some (1, M')) {H : Heap} {locs : List Loc} {ls : Array Slot} {cells slots : Nat} (hS : va_S (A0 b) s.heap H locs) (hW : Wd Z b M H) (hl : lv_has ls 7 [(0, .ref sb), (1, .ref (b + 0)), (2, .ref (b + 156)), (3, .ref (b + 172)), (4, .int x4)]) (hcs : cells + 8 * n ≤ 601024 ∧ slots + 48 * n ≤ 7293034), W p l e room_1 s m #[Value.ref sb] below meth c H locs cells slots (lw_Z below #[Value.ref sb] s) (F0 m 23 ls [])) {M : Mem} {x4 : Int32} {M' : Mem} (h : f_L_law_762 xs L K23 M x4 = some (1, M')) {H : Heap} {locs : List Loc} {ls : Array Slot} {cells slots : Nat} (hS : va_S (A0 b) s.heap H locs) (hW : Wd Z b M H) (hl : lv_has ls 7 [(0, .ref sb), (1, .ref (b + 0)), (2, .ref (b + 156)), (3, .ref (b + 172)), (4, .int x4)]) (hcs : cells + 7 + 8 * n ≤ 601024 ∧ slots + 42 + 48 * n ≤ 7293034) : W p l e room_1 s m #[Value.ref sb] below meth c H locs cells slots (lw_Z below #[Value.ref sb] s) (F0 m 762 ls []) := by
  unfold f_L_law_762 at h
  have hx := C.1
  have hb := C.2.1
  have hbA : ¬ A0 b sb := by unfold A0; omega
  refine lv_goto (tgt := 1627) hx hb dL_law_762 (by decide) ?_
  exact w_L_law_1627 C hml hr hlk hlf hX hbl hbb n hK23 h hS hW (lv_sub hl [0, 1, 2, 3, 4] rfl) ⟨by omega, by omega⟩
def f_L_law_709 (xs : Nat → Int32) (L : Nat) (K23 : Mem → Int32 → Option (Int32 × Mem)) (M : Mem) (x4 : Int32) : Option (Int32 × Mem) :=
  if (x4 + (1 : Int32)) < 0 ∨ L ≤ (x4 + (1 : Int32)).toNatClampNeg then none else bd2 (f_L_kindOf M (xs (x4 + (1 : Int32)).toNatClampNeg)) (fun r717 M717 => if (x4 + (1 : Int32)) < 0 ∨ L ≤ (x4 + (1 : Int32)).toNatClampNeg then none else bd2 (f_X5_kindOf M717 (xs (x4 + (1 : Int32)).toNatClampNeg)) (fun r729 M729 => bd2 (f_X5_thrown M729) (fun r735 M735 => if r735 = r717 then (if r717 = 0 then (if (0 : Int32) < 0 ∨ 1 ≤ (0 : Int32).toNatClampNeg then none else if (lg_cmp (M735 40 (0 : Int32).toNatClampNeg).toInt64 r729.toInt64) = 0 then f_L_law_762 xs L K23 M735 x4 else some ((0 : Int32), M735)) else f_L_law_762 xs L K23 M735 x4) else some ((0 : Int32), M735))))
set_option maxHeartbeats 4000000 in
set_option maxRecDepth 100000 in
theorem w_L_law_709 {p : Program} {l : Launch} {e : Env} {s : State} {m : MethodId} {below : List Frame} {meth : Method} {c : Code} {Z : Zt} {b sb L : Nat} {xs : Nat → Int32} (C : Cx p s m #[Value.ref sb] c cL_law RL Z b) (hml : c.maxLocals = 7) (hr : meth.sig.returnType = ret) (hlk : meth.locks = false) (hlf : l.stackTraces = false) (hX : va_X sb L xs s s.heap) (hbl : sb < s.heap.size) (hbb : b = s.heap.size) (n : Nat) {K23 : Mem → Int32 → Option (Int32 × Mem)} (hK23 : ∀ {M : Mem} {x4 : Int32} {M' : Mem} (h : K23 M x4 = some (1, M')) {H : Heap} {locs : List Loc} {ls : Array Slot} {cells slots : Nat} (hS : va_S (A0 b) s.heap H locs) (hW : Wd Z b M H) (hl : lv_has ls 7 [(0, .ref sb), (1, .ref (b + 0)), (2, .ref (b + 156)), (3, .ref (b + 172)), (4, .int x4)]) (hcs : cells + 8 * n ≤ 601024 ∧ slots + 48 * n ≤ 7293034), W p l e room_1 s m #[Value.ref sb] below meth c H locs cells slots (lw_Z below #[Value.ref sb] s) (F0 m 23 ls [])) {M : Mem} {x4 : Int32} {M' : Mem} (h : f_L_law_709 xs L K23 M x4 = some (1, M')) {H : Heap} {locs : List Loc} {ls : Array Slot} {cells slots : Nat} (hS : va_S (A0 b) s.heap H locs) (hW : Wd Z b M H) (hl : lv_has ls 7 [(0, .ref sb), (1, .ref (b + 0)), (2, .ref (b + 156)), (3, .ref (b + 172)), (4, .int x4)]) (hcs : cells + 8 + 8 * n ≤ 601024 ∧ slots + 48 + 48 * n ≤ 7293034) : W p l e room_1 s m #[Value.ref sb] below meth c H locs cells slots (lw_Z below #[Value.ref sb] s) (F0 m 709 ls []) := by
  unfold f_L_law_709 at h
  have hx := C.1
  have hb := C.2.1
  have hbA : ¬ A0 b sb := by unfold A0; omega
  refine lv_aload_n hx hb dL_law_709 rfl (lv_at hl 1 rfl) ?_
  refine lv_aload_n hx hb dL_law_710 rfl (lv_at hl 0 rfl) ?_
  refine lv_iload hx hb dL_law_711 (lv_at hl 4 rfl) ?_
  refine lv_iconst (v := (1 : Int32)) hx hb dL_law_713 (by decide) ?_
  refine lv_iadd hx hb dL_law_714 ?_
  obtain ⟨g715, h⟩ := gd h
  refine va_sld hx hb hX hbl hbA hS g715 dL_law_715 ?_
  refine lv_aload_n hx hb dL_law_716 rfl (lv_at hl 3 rfl) ?_
  obtain ⟨r717, M717, hc717, h⟩ := bd2_e h
  refine kL_113 C hml hl.1 (c_L_kindOf hlf hc717) ⟨Nat.le_of_ble_eq_true rfl, Nat.le_of_ble_eq_true rfl⟩ ⟨by show _ ≤ 601024; omega, by show _ ≤ 7293034; omega⟩ (Nat.le_of_ble_eq_true rfl) hS hW dL_law_717 (fun H locs hW hS => ?_)
  refine lv_istore (lv' := [(5, .int r717), (0, .ref sb), (1, .ref (b + 0)), (2, .ref (b + 156)), (3, .ref (b + 172)), (4, .int x4)]) hx hb dL_law_720 hl (by decide) rfl (fun ls hl => ?_)
  refine lv_aload_n hx hb dL_law_722 rfl (lv_at hl 3 rfl) ?_
  refine lv_aload_n hx hb dL_law_723 rfl (lv_at hl 1 rfl) ?_
  refine lv_iload hx hb dL_law_724 (lv_at hl 5 rfl) ?_
  refine lv_iconst (v := (1 : Int32)) hx hb dL_law_726 (by decide) ?_
  refine lv_iadd hx hb dL_law_727 ?_
  obtain ⟨g728, h⟩ := gd h
  refine va_sld hx hb hX hbl hbA hS g728 dL_law_728 ?_
  obtain ⟨r729, M729, hc729, h⟩ := bd2_e h
  refine kL_115 C hml hl.1 (c_X5_kindOf hc729) ⟨Nat.le_of_ble_eq_true rfl, Nat.le_of_ble_eq_true rfl⟩ ⟨by show _ ≤ 601024; omega, by show _ ≤ 7293034; omega⟩ (Nat.le_of_ble_eq_true rfl) hS hW dL_law_729 (fun H locs hW hS => ?_)
  refine lv_istore (lv' := [(6, .int r729), (5, .int r717), (0, .ref sb), (1, .ref (b + 0)), (2, .ref (b + 156)), (3, .ref (b + 172)), (4, .int x4)]) hx hb dL_law_732 hl (by decide) rfl (fun ls hl => ?_)
  refine lv_aload_n hx hb dL_law_734 rfl (lv_at hl 4 rfl) ?_
  obtain ⟨r735, M735, hc735, h⟩ := bd2_e h
  refine kL_87 C hml hl.1 (c_X5_thrown hc735) ⟨Nat.le_of_ble_eq_true rfl, Nat.le_of_ble_eq_true rfl⟩ ⟨by show _ ≤ 601024; omega, by show _ ≤ 7293034; omega⟩ (Nat.le_of_ble_eq_true rfl) hS hW dL_law_735 (fun H locs hW hS => ?_)
  refine lv_iload hx hb dL_law_738 (lv_at hl 1 rfl) ?_
  refine lv_icmp_eq (tgt := 745) hx hb dL_law_740 (by decide) (fun c740 => ?_) (fun c740 => ?_)
  · have h := (if_pos c740).symm.trans h
    refine lv_iload hx hb dL_law_745 (lv_at hl 1 rfl) ?_
    refine lv_if_ne (tgt := 762) hx hb dL_law_747 (by decide) (fun c747 => ?_) (fun c747 => ?_)
    · have h := (if_neg c747).symm.trans h
      exact w_L_law_762 C hml hr hlk hlf hX hbl hbb n hK23 h hS hW (lv_sub hl [2, 3, 4, 5, 6] rfl) ⟨by omega, by omega⟩
    · have h := (if_pos c747).symm.trans h
      refine lv_aload_n hx hb dL_law_750 rfl (lv_at hl 5 rfl) ?_
      refine lv_iconst (v := (0 : Int32)) hx hb dL_law_751 (by decide) ?_
      obtain ⟨g752, h⟩ := gd h
      refine ald_172 C hW g752 dL_law_752 ?_
      refine lv_iload hx hb dL_law_753 (lv_at hl 0 rfl) ?_
      refine lv_i2l (v := r729.toInt64) hx hb dL_law_755 rfl ?_
      refine W.lcmp hx hb dL_law_756 ?_
      refine lv_if_eq (tgt := 762) hx hb dL_law_757 (by decide) (fun c757 => ?_) (fun c757 => ?_)
      · have h := (if_pos c757).symm.trans h
        exact w_L_law_762 C hml hr hlk hlf hX hbl hbb n hK23 h hS hW (lv_sub hl [2, 3, 4, 5, 6] rfl) ⟨by omega, by omega⟩
      · have h := (if_neg c757).symm.trans h
        refine lv_iconst (v := (0 : Int32)) hx hb dL_law_760 (by decide) ?_
        exact absurd (show (0 : Int32) = 1 from congrArg Prod.fst (Option.some.inj h)) (by decide)
  · have h := (if_neg c740).symm.trans h
    refine lv_iconst (v := (0 : Int32)) hx hb dL_law_743 (by decide) ?_
    exact absurd (show (0 : Int32) = 1 from congrArg Prod.fst (Option.some.inj h)) (by decide)
def f_L_law_818 (xs : Nat → Int32) (L : Nat) (K23 : Mem → Int32 → Option (Int32 × Mem)) (M : Mem) (x4 : Int32) : Option (Int32 × Mem) :=
  f_L_law_1627 xs L K23 M x4
set_option maxHeartbeats 4000000 in
set_option maxRecDepth 100000 in
theorem w_L_law_818 {p : Program} {l : Launch} {e : Env} {s : State} {m : MethodId} {below : List Frame} {meth : Method} {c : Code} {Z : Zt} {b sb L : Nat} {xs : Nat → Int32} (C : Cx p s m #[Value.ref sb] c cL_law RL Z b) (hml : c.maxLocals = 7) (hr : meth.sig.returnType = ret) (hlk : meth.locks = false) (hlf : l.stackTraces = false) (hX : va_X sb L xs s s.heap) (hbl : sb < s.heap.size) (hbb : b = s.heap.size) (n : Nat) {K23 : Mem → Int32 → Option (Int32 × Mem)} (hK23 : ∀ {M : Mem} {x4 : Int32} {M' : Mem} (h : K23 M x4 = some (1, M')) {H : Heap} {locs : List Loc} {ls : Array Slot} {cells slots : Nat} (hS : va_S (A0 b) s.heap H locs) (hW : Wd Z b M H) (hl : lv_has ls 7 [(0, .ref sb), (1, .ref (b + 0)), (2, .ref (b + 156)), (3, .ref (b + 172)), (4, .int x4)]) (hcs : cells + 8 * n ≤ 601024 ∧ slots + 48 * n ≤ 7293034), W p l e room_1 s m #[Value.ref sb] below meth c H locs cells slots (lw_Z below #[Value.ref sb] s) (F0 m 23 ls [])) {M : Mem} {x4 : Int32} {M' : Mem} (h : f_L_law_818 xs L K23 M x4 = some (1, M')) {H : Heap} {locs : List Loc} {ls : Array Slot} {cells slots : Nat} (hS : va_S (A0 b) s.heap H locs) (hW : Wd Z b M H) (hl : lv_has ls 7 [(0, .ref sb), (1, .ref (b + 0)), (2, .ref (b + 156)), (3, .ref (b + 172)), (4, .int x4)]) (hcs : cells + 7 + 8 * n ≤ 601024 ∧ slots + 42 + 48 * n ≤ 7293034) : W p l e room_1 s m #[Value.ref sb] below meth c H locs cells slots (lw_Z below #[Value.ref sb] s) (F0 m 818 ls []) := by
  unfold f_L_law_818 at h
  have hx := C.1
  have hb := C.2.1
  have hbA : ¬ A0 b sb := by unfold A0; omega
  refine lv_goto (tgt := 1627) hx hb dL_law_818 (by decide) ?_
  exact w_L_law_1627 C hml hr hlk hlf hX hbl hbb n hK23 h hS hW (lv_sub hl [0, 1, 2, 3, 4] rfl) ⟨by omega, by omega⟩
def f_L_law_765 (xs : Nat → Int32) (L : Nat) (K23 : Mem → Int32 → Option (Int32 × Mem)) (M : Mem) (x4 : Int32) : Option (Int32 × Mem) :=
  if (x4 + (1 : Int32)) < 0 ∨ L ≤ (x4 + (1 : Int32)).toNatClampNeg then none else bd2 (f_L_content M (xs (x4 + (1 : Int32)).toNatClampNeg)) (fun r773 M773 => if (x4 + (1 : Int32)) < 0 ∨ L ≤ (x4 + (1 : Int32)).toNatClampNeg then none else bd2 (f_X5_content M773 (xs (x4 + (1 : Int32)).toNatClampNeg)) (fun r785 M785 => bd2 (f_X5_thrown M785) (fun r791 M791 => if r791 = r773 then (if r773 = 0 then (if (0 : Int32) < 0 ∨ 1 ≤ (0 : Int32).toNatClampNeg then none else if (lg_cmp (M791 40 (0 : Int32).toNatClampNeg).toInt64 r785.toInt64) = 0 then f_L_law_818 xs L K23 M791 x4 else some ((0 : Int32), M791)) else f_L_law_818 xs L K23 M791 x4) else some ((0 : Int32), M791))))
set_option maxHeartbeats 4000000 in
set_option maxRecDepth 100000 in
theorem w_L_law_765 {p : Program} {l : Launch} {e : Env} {s : State} {m : MethodId} {below : List Frame} {meth : Method} {c : Code} {Z : Zt} {b sb L : Nat} {xs : Nat → Int32} (C : Cx p s m #[Value.ref sb] c cL_law RL Z b) (hml : c.maxLocals = 7) (hr : meth.sig.returnType = ret) (hlk : meth.locks = false) (hlf : l.stackTraces = false) (hX : va_X sb L xs s s.heap) (hbl : sb < s.heap.size) (hbb : b = s.heap.size) (n : Nat) {K23 : Mem → Int32 → Option (Int32 × Mem)} (hK23 : ∀ {M : Mem} {x4 : Int32} {M' : Mem} (h : K23 M x4 = some (1, M')) {H : Heap} {locs : List Loc} {ls : Array Slot} {cells slots : Nat} (hS : va_S (A0 b) s.heap H locs) (hW : Wd Z b M H) (hl : lv_has ls 7 [(0, .ref sb), (1, .ref (b + 0)), (2, .ref (b + 156)), (3, .ref (b + 172)), (4, .int x4)]) (hcs : cells + 8 * n ≤ 601024 ∧ slots + 48 * n ≤ 7293034), W p l e room_1 s m #[Value.ref sb] below meth c H locs cells slots (lw_Z below #[Value.ref sb] s) (F0 m 23 ls [])) {M : Mem} {x4 : Int32} {M' : Mem} (h : f_L_law_765 xs L K23 M x4 = some (1, M')) {H : Heap} {locs : List Loc} {ls : Array Slot} {cells slots : Nat} (hS : va_S (A0 b) s.heap H locs) (hW : Wd Z b M H) (hl : lv_has ls 7 [(0, .ref sb), (1, .ref (b + 0)), (2, .ref (b + 156)), (3, .ref (b + 172)), (4, .int x4)]) (hcs : cells + 8 + 8 * n ≤ 601024 ∧ slots + 48 + 48 * n ≤ 7293034) : W p l e room_1 s m #[Value.ref sb] below meth c H locs cells slots (lw_Z below #[Value.ref sb] s) (F0 m 765 ls []) := by
  unfold f_L_law_765 at h
  have hx := C.1
  have hb := C.2.1
  have hbA : ¬ A0 b sb := by unfold A0; omega
  refine lv_aload_n hx hb dL_law_765 rfl (lv_at hl 1 rfl) ?_
  refine lv_aload_n hx hb dL_law_766 rfl (lv_at hl 0 rfl) ?_
  refine lv_iload hx hb dL_law_767 (lv_at hl 4 rfl) ?_
  refine lv_iconst (v := (1 : Int32)) hx hb dL_law_769 (by decide) ?_
  refine lv_iadd hx hb dL_law_770 ?_
  obtain ⟨g771, h⟩ := gd h
  refine va_sld hx hb hX hbl hbA hS g771 dL_law_771 ?_
  refine lv_aload_n hx hb dL_law_772 rfl (lv_at hl 3 rfl) ?_
  obtain ⟨r773, M773, hc773, h⟩ := bd2_e h
  refine kL_116 C hml hl.1 (c_L_content hlf hc773) ⟨Nat.le_of_ble_eq_true rfl, Nat.le_of_ble_eq_true rfl⟩ ⟨by show _ ≤ 601024; omega, by show _ ≤ 7293034; omega⟩ (Nat.le_of_ble_eq_true rfl) hS hW dL_law_773 (fun H locs hW hS => ?_)
  refine lv_istore (lv' := [(5, .int r773), (0, .ref sb), (1, .ref (b + 0)), (2, .ref (b + 156)), (3, .ref (b + 172)), (4, .int x4)]) hx hb dL_law_776 hl (by decide) rfl (fun ls hl => ?_)
  refine lv_aload_n hx hb dL_law_778 rfl (lv_at hl 3 rfl) ?_
  refine lv_aload_n hx hb dL_law_779 rfl (lv_at hl 1 rfl) ?_
  refine lv_iload hx hb dL_law_780 (lv_at hl 5 rfl) ?_
  refine lv_iconst (v := (1 : Int32)) hx hb dL_law_782 (by decide) ?_
  refine lv_iadd hx hb dL_law_783 ?_
  obtain ⟨g784, h⟩ := gd h
  refine va_sld hx hb hX hbl hbA hS g784 dL_law_784 ?_
  obtain ⟨r785, M785, hc785, h⟩ := bd2_e h
  refine kL_118 C hml hl.1 (c_X5_content hc785) ⟨Nat.le_of_ble_eq_true rfl, Nat.le_of_ble_eq_true rfl⟩ ⟨by show _ ≤ 601024; omega, by show _ ≤ 7293034; omega⟩ (Nat.le_of_ble_eq_true rfl) hS hW dL_law_785 (fun H locs hW hS => ?_)
  refine lv_istore (lv' := [(6, .int r785), (5, .int r773), (0, .ref sb), (1, .ref (b + 0)), (2, .ref (b + 156)), (3, .ref (b + 172)), (4, .int x4)]) hx hb dL_law_788 hl (by decide) rfl (fun ls hl => ?_)
  refine lv_aload_n hx hb dL_law_790 rfl (lv_at hl 4 rfl) ?_
  obtain ⟨r791, M791, hc791, h⟩ := bd2_e h
  refine kL_87 C hml hl.1 (c_X5_thrown hc791) ⟨Nat.le_of_ble_eq_true rfl, Nat.le_of_ble_eq_true rfl⟩ ⟨by show _ ≤ 601024; omega, by show _ ≤ 7293034; omega⟩ (Nat.le_of_ble_eq_true rfl) hS hW dL_law_791 (fun H locs hW hS => ?_)
  refine lv_iload hx hb dL_law_794 (lv_at hl 1 rfl) ?_
  refine lv_icmp_eq (tgt := 801) hx hb dL_law_796 (by decide) (fun c796 => ?_) (fun c796 => ?_)
  · have h := (if_pos c796).symm.trans h
    refine lv_iload hx hb dL_law_801 (lv_at hl 1 rfl) ?_
    refine lv_if_ne (tgt := 818) hx hb dL_law_803 (by decide) (fun c803 => ?_) (fun c803 => ?_)
    · have h := (if_neg c803).symm.trans h
      exact w_L_law_818 C hml hr hlk hlf hX hbl hbb n hK23 h hS hW (lv_sub hl [2, 3, 4, 5, 6] rfl) ⟨by omega, by omega⟩
    · have h := (if_pos c803).symm.trans h
      refine lv_aload_n hx hb dL_law_806 rfl (lv_at hl 5 rfl) ?_
      refine lv_iconst (v := (0 : Int32)) hx hb dL_law_807 (by decide) ?_
      obtain ⟨g808, h⟩ := gd h
      refine ald_172 C hW g808 dL_law_808 ?_
      refine lv_iload hx hb dL_law_809 (lv_at hl 0 rfl) ?_
      refine lv_i2l (v := r785.toInt64) hx hb dL_law_811 rfl ?_
      refine W.lcmp hx hb dL_law_812 ?_
      refine lv_if_eq (tgt := 818) hx hb dL_law_813 (by decide) (fun c813 => ?_) (fun c813 => ?_)
      · have h := (if_pos c813).symm.trans h
        exact w_L_law_818 C hml hr hlk hlf hX hbl hbb n hK23 h hS hW (lv_sub hl [2, 3, 4, 5, 6] rfl) ⟨by omega, by omega⟩
      · have h := (if_neg c813).symm.trans h
        refine lv_iconst (v := (0 : Int32)) hx hb dL_law_816 (by decide) ?_
        exact absurd (show (0 : Int32) = 1 from congrArg Prod.fst (Option.some.inj h)) (by decide)
  · have h := (if_neg c796).symm.trans h
    refine lv_iconst (v := (0 : Int32)) hx hb dL_law_799 (by decide) ?_
    exact absurd (show (0 : Int32) = 1 from congrArg Prod.fst (Option.some.inj h)) (by decide)
def f_L_law_821 (xs : Nat → Int32) (L : Nat) (K23 : Mem → Int32 → Option (Int32 × Mem)) (M : Mem) (x4 : Int32) : Option (Int32 × Mem) :=
  bd2 (f_X4_resources M) (fun r822 M822 => bd2 (f_X5_resources M822) (fun r826 M826 => if r822 = r826 then f_L_law_1627 xs L K23 M826 x4 else some ((0 : Int32), M826)))
set_option maxHeartbeats 4000000 in
set_option maxRecDepth 100000 in
theorem w_L_law_821 {p : Program} {l : Launch} {e : Env} {s : State} {m : MethodId} {below : List Frame} {meth : Method} {c : Code} {Z : Zt} {b sb L : Nat} {xs : Nat → Int32} (C : Cx p s m #[Value.ref sb] c cL_law RL Z b) (hml : c.maxLocals = 7) (hr : meth.sig.returnType = ret) (hlk : meth.locks = false) (hlf : l.stackTraces = false) (hX : va_X sb L xs s s.heap) (hbl : sb < s.heap.size) (hbb : b = s.heap.size) (n : Nat) {K23 : Mem → Int32 → Option (Int32 × Mem)} (hK23 : ∀ {M : Mem} {x4 : Int32} {M' : Mem} (h : K23 M x4 = some (1, M')) {H : Heap} {locs : List Loc} {ls : Array Slot} {cells slots : Nat} (hS : va_S (A0 b) s.heap H locs) (hW : Wd Z b M H) (hl : lv_has ls 7 [(0, .ref sb), (1, .ref (b + 0)), (2, .ref (b + 156)), (3, .ref (b + 172)), (4, .int x4)]) (hcs : cells + 8 * n ≤ 601024 ∧ slots + 48 * n ≤ 7293034), W p l e room_1 s m #[Value.ref sb] below meth c H locs cells slots (lw_Z below #[Value.ref sb] s) (F0 m 23 ls [])) {M : Mem} {x4 : Int32} {M' : Mem} (h : f_L_law_821 xs L K23 M x4 = some (1, M')) {H : Heap} {locs : List Loc} {ls : Array Slot} {cells slots : Nat} (hS : va_S (A0 b) s.heap H locs) (hW : Wd Z b M H) (hl : lv_has ls 7 [(0, .ref sb), (1, .ref (b + 0)), (2, .ref (b + 156)), (3, .ref (b + 172)), (4, .int x4)]) (hcs : cells + 8 + 8 * n ≤ 601024 ∧ slots + 48 + 48 * n ≤ 7293034) : W p l e room_1 s m #[Value.ref sb] below meth c H locs cells slots (lw_Z below #[Value.ref sb] s) (F0 m 821 ls []) := by
  unfold f_L_law_821 at h
  have hx := C.1
  have hb := C.2.1
  have hbA : ¬ A0 b sb := by unfold A0; omega
  refine lv_aload_n hx hb dL_law_821 rfl (lv_at hl 1 rfl) ?_
  obtain ⟨r822, M822, hc822, h⟩ := bd2_e h
  refine kL_119 C hml hl.1 (c_X4_resources hc822) ⟨Nat.le_of_ble_eq_true rfl, Nat.le_of_ble_eq_true rfl⟩ ⟨by show _ ≤ 601024; omega, by show _ ≤ 7293034; omega⟩ (Nat.le_of_ble_eq_true rfl) hS hW dL_law_822 (fun H locs hW hS => ?_)
  refine lv_aload_n hx hb dL_law_825 rfl (lv_at hl 2 rfl) ?_
  obtain ⟨r826, M826, hc826, h⟩ := bd2_e h
  refine kL_122 C hml hl.1 (c_X5_resources hc826) ⟨Nat.le_of_ble_eq_true rfl, Nat.le_of_ble_eq_true rfl⟩ ⟨by show _ ≤ 601024; omega, by show _ ≤ 7293034; omega⟩ (Nat.le_of_ble_eq_true rfl) hS hW dL_law_826 (fun H locs hW hS => ?_)
  refine lv_icmp_eq (tgt := 1627) hx hb dL_law_829 (by decide) (fun c829 => ?_) (fun c829 => ?_)
  · have h := (if_pos c829).symm.trans h
    exact w_L_law_1627 C hml hr hlk hlf hX hbl hbb n hK23 h hS hW (lv_sub hl [0, 1, 2, 3, 4] rfl) ⟨by omega, by omega⟩
  · have h := (if_neg c829).symm.trans h
    refine lv_iconst (v := (0 : Int32)) hx hb dL_law_832 (by decide) ?_
    exact absurd (show (0 : Int32) = 1 from congrArg Prod.fst (Option.some.inj h)) (by decide)
def f_L_law_887 (xs : Nat → Int32) (L : Nat) (K23 : Mem → Int32 → Option (Int32 × Mem)) (M : Mem) (x4 : Int32) : Option (Int32 × Mem) :=
  f_L_law_1627 xs L K23 M x4
set_option maxHeartbeats 4000000 in
set_option maxRecDepth 100000 in
theorem w_L_law_887 {p : Program} {l : Launch} {e : Env} {s : State} {m : MethodId} {below : List Frame} {meth : Method} {c : Code} {Z : Zt} {b sb L : Nat} {xs : Nat → Int32} (C : Cx p s m #[Value.ref sb] c cL_law RL Z b) (hml : c.maxLocals = 7) (hr : meth.sig.returnType = ret) (hlk : meth.locks = false) (hlf : l.stackTraces = false) (hX : va_X sb L xs s s.heap) (hbl : sb < s.heap.size) (hbb : b = s.heap.size) (n : Nat) {K23 : Mem → Int32 → Option (Int32 × Mem)} (hK23 : ∀ {M : Mem} {x4 : Int32} {M' : Mem} (h : K23 M x4 = some (1, M')) {H : Heap} {locs : List Loc} {ls : Array Slot} {cells slots : Nat} (hS : va_S (A0 b) s.heap H locs) (hW : Wd Z b M H) (hl : lv_has ls 7 [(0, .ref sb), (1, .ref (b + 0)), (2, .ref (b + 156)), (3, .ref (b + 172)), (4, .int x4)]) (hcs : cells + 8 * n ≤ 601024 ∧ slots + 48 * n ≤ 7293034), W p l e room_1 s m #[Value.ref sb] below meth c H locs cells slots (lw_Z below #[Value.ref sb] s) (F0 m 23 ls [])) {M : Mem} {x4 : Int32} {M' : Mem} (h : f_L_law_887 xs L K23 M x4 = some (1, M')) {H : Heap} {locs : List Loc} {ls : Array Slot} {cells slots : Nat} (hS : va_S (A0 b) s.heap H locs) (hW : Wd Z b M H) (hl : lv_has ls 7 [(0, .ref sb), (1, .ref (b + 0)), (2, .ref (b + 156)), (3, .ref (b + 172)), (4, .int x4)]) (hcs : cells + 7 + 8 * n ≤ 601024 ∧ slots + 42 + 48 * n ≤ 7293034) : W p l e room_1 s m #[Value.ref sb] below meth c H locs cells slots (lw_Z below #[Value.ref sb] s) (F0 m 887 ls []) := by
  unfold f_L_law_887 at h
  have hx := C.1
  have hb := C.2.1
  have hbA : ¬ A0 b sb := by unfold A0; omega
  refine lv_goto (tgt := 1627) hx hb dL_law_887 (by decide) ?_
  exact w_L_law_1627 C hml hr hlk hlf hX hbl hbb n hK23 h hS hW (lv_sub hl [0, 1, 2, 3, 4] rfl) ⟨by omega, by omega⟩
def f_L_law_834 (xs : Nat → Int32) (L : Nat) (K23 : Mem → Int32 → Option (Int32 × Mem)) (M : Mem) (x4 : Int32) : Option (Int32 × Mem) :=
  if (x4 + (1 : Int32)) < 0 ∨ L ≤ (x4 + (1 : Int32)).toNatClampNeg then none else bd2 (f_L_members M (xs (x4 + (1 : Int32)).toNatClampNeg)) (fun r842 M842 => if (x4 + (1 : Int32)) < 0 ∨ L ≤ (x4 + (1 : Int32)).toNatClampNeg then none else bd2 (f_X5_members M842 (xs (x4 + (1 : Int32)).toNatClampNeg)) (fun r854 M854 => bd2 (f_X5_thrown M854) (fun r860 M860 => if r860 = r842 then (if r842 = 0 then (if (0 : Int32) < 0 ∨ 1 ≤ (0 : Int32).toNatClampNeg then none else if (lg_cmp (M860 40 (0 : Int32).toNatClampNeg).toInt64 r854.toInt64) = 0 then f_L_law_887 xs L K23 M860 x4 else some ((0 : Int32), M860)) else f_L_law_887 xs L K23 M860 x4) else some ((0 : Int32), M860))))
set_option maxHeartbeats 4000000 in
set_option maxRecDepth 100000 in
theorem w_L_law_834 {p : Program} {l : Launch} {e : Env} {s : State} {m : MethodId} {below : List Frame} {meth : Method} {c : Code} {Z : Zt} {b sb L : Nat} {xs : Nat → Int32} (C : Cx p s m #[Value.ref sb] c cL_law RL Z b) (hml : c.maxLocals = 7) (hr : meth.sig.returnType = ret) (hlk : meth.locks = false) (hlf : l.stackTraces = false) (hX : va_X sb L xs s s.heap) (hbl : sb < s.heap.size) (hbb : b = s.heap.size) (n : Nat) {K23 : Mem → Int32 → Option (Int32 × Mem)} (hK23 : ∀ {M : Mem} {x4 : Int32} {M' : Mem} (h : K23 M x4 = some (1, M')) {H : Heap} {locs : List Loc} {ls : Array Slot} {cells slots : Nat} (hS : va_S (A0 b) s.heap H locs) (hW : Wd Z b M H) (hl : lv_has ls 7 [(0, .ref sb), (1, .ref (b + 0)), (2, .ref (b + 156)), (3, .ref (b + 172)), (4, .int x4)]) (hcs : cells + 8 * n ≤ 601024 ∧ slots + 48 * n ≤ 7293034), W p l e room_1 s m #[Value.ref sb] below meth c H locs cells slots (lw_Z below #[Value.ref sb] s) (F0 m 23 ls [])) {M : Mem} {x4 : Int32} {M' : Mem} (h : f_L_law_834 xs L K23 M x4 = some (1, M')) {H : Heap} {locs : List Loc} {ls : Array Slot} {cells slots : Nat} (hS : va_S (A0 b) s.heap H locs) (hW : Wd Z b M H) (hl : lv_has ls 7 [(0, .ref sb), (1, .ref (b + 0)), (2, .ref (b + 156)), (3, .ref (b + 172)), (4, .int x4)]) (hcs : cells + 8 + 8 * n ≤ 601024 ∧ slots + 48 + 48 * n ≤ 7293034) : W p l e room_1 s m #[Value.ref sb] below meth c H locs cells slots (lw_Z below #[Value.ref sb] s) (F0 m 834 ls []) := by
  unfold f_L_law_834 at h
  have hx := C.1
  have hb := C.2.1
  have hbA : ¬ A0 b sb := by unfold A0; omega
  refine lv_aload_n hx hb dL_law_834 rfl (lv_at hl 1 rfl) ?_
  refine lv_aload_n hx hb dL_law_835 rfl (lv_at hl 0 rfl) ?_
  refine lv_iload hx hb dL_law_836 (lv_at hl 4 rfl) ?_
  refine lv_iconst (v := (1 : Int32)) hx hb dL_law_838 (by decide) ?_
  refine lv_iadd hx hb dL_law_839 ?_
  obtain ⟨g840, h⟩ := gd h
  refine va_sld hx hb hX hbl hbA hS g840 dL_law_840 ?_
  refine lv_aload_n hx hb dL_law_841 rfl (lv_at hl 3 rfl) ?_
  obtain ⟨r842, M842, hc842, h⟩ := bd2_e h
  refine kL_123 C hml hl.1 (c_L_members hlf hc842) ⟨Nat.le_of_ble_eq_true rfl, Nat.le_of_ble_eq_true rfl⟩ ⟨by show _ ≤ 601024; omega, by show _ ≤ 7293034; omega⟩ (Nat.le_of_ble_eq_true rfl) hS hW dL_law_842 (fun H locs hW hS => ?_)
  refine lv_istore (lv' := [(5, .int r842), (0, .ref sb), (1, .ref (b + 0)), (2, .ref (b + 156)), (3, .ref (b + 172)), (4, .int x4)]) hx hb dL_law_845 hl (by decide) rfl (fun ls hl => ?_)
  refine lv_aload_n hx hb dL_law_847 rfl (lv_at hl 3 rfl) ?_
  refine lv_aload_n hx hb dL_law_848 rfl (lv_at hl 1 rfl) ?_
  refine lv_iload hx hb dL_law_849 (lv_at hl 5 rfl) ?_
  refine lv_iconst (v := (1 : Int32)) hx hb dL_law_851 (by decide) ?_
  refine lv_iadd hx hb dL_law_852 ?_
  obtain ⟨g853, h⟩ := gd h
  refine va_sld hx hb hX hbl hbA hS g853 dL_law_853 ?_
  obtain ⟨r854, M854, hc854, h⟩ := bd2_e h
  refine kL_125 C hml hl.1 (c_X5_members hc854) ⟨Nat.le_of_ble_eq_true rfl, Nat.le_of_ble_eq_true rfl⟩ ⟨by show _ ≤ 601024; omega, by show _ ≤ 7293034; omega⟩ (Nat.le_of_ble_eq_true rfl) hS hW dL_law_854 (fun H locs hW hS => ?_)
  refine lv_istore (lv' := [(6, .int r854), (5, .int r842), (0, .ref sb), (1, .ref (b + 0)), (2, .ref (b + 156)), (3, .ref (b + 172)), (4, .int x4)]) hx hb dL_law_857 hl (by decide) rfl (fun ls hl => ?_)
  refine lv_aload_n hx hb dL_law_859 rfl (lv_at hl 4 rfl) ?_
  obtain ⟨r860, M860, hc860, h⟩ := bd2_e h
  refine kL_87 C hml hl.1 (c_X5_thrown hc860) ⟨Nat.le_of_ble_eq_true rfl, Nat.le_of_ble_eq_true rfl⟩ ⟨by show _ ≤ 601024; omega, by show _ ≤ 7293034; omega⟩ (Nat.le_of_ble_eq_true rfl) hS hW dL_law_860 (fun H locs hW hS => ?_)
  refine lv_iload hx hb dL_law_863 (lv_at hl 1 rfl) ?_
  refine lv_icmp_eq (tgt := 870) hx hb dL_law_865 (by decide) (fun c865 => ?_) (fun c865 => ?_)
  · have h := (if_pos c865).symm.trans h
    refine lv_iload hx hb dL_law_870 (lv_at hl 1 rfl) ?_
    refine lv_if_ne (tgt := 887) hx hb dL_law_872 (by decide) (fun c872 => ?_) (fun c872 => ?_)
    · have h := (if_neg c872).symm.trans h
      exact w_L_law_887 C hml hr hlk hlf hX hbl hbb n hK23 h hS hW (lv_sub hl [2, 3, 4, 5, 6] rfl) ⟨by omega, by omega⟩
    · have h := (if_pos c872).symm.trans h
      refine lv_aload_n hx hb dL_law_875 rfl (lv_at hl 5 rfl) ?_
      refine lv_iconst (v := (0 : Int32)) hx hb dL_law_876 (by decide) ?_
      obtain ⟨g877, h⟩ := gd h
      refine ald_172 C hW g877 dL_law_877 ?_
      refine lv_iload hx hb dL_law_878 (lv_at hl 0 rfl) ?_
      refine lv_i2l (v := r854.toInt64) hx hb dL_law_880 rfl ?_
      refine W.lcmp hx hb dL_law_881 ?_
      refine lv_if_eq (tgt := 887) hx hb dL_law_882 (by decide) (fun c882 => ?_) (fun c882 => ?_)
      · have h := (if_pos c882).symm.trans h
        exact w_L_law_887 C hml hr hlk hlf hX hbl hbb n hK23 h hS hW (lv_sub hl [2, 3, 4, 5, 6] rfl) ⟨by omega, by omega⟩
      · have h := (if_neg c882).symm.trans h
        refine lv_iconst (v := (0 : Int32)) hx hb dL_law_885 (by decide) ?_
        exact absurd (show (0 : Int32) = 1 from congrArg Prod.fst (Option.some.inj h)) (by decide)
  · have h := (if_neg c865).symm.trans h
    refine lv_iconst (v := (0 : Int32)) hx hb dL_law_868 (by decide) ?_
    exact absurd (show (0 : Int32) = 1 from congrArg Prod.fst (Option.some.inj h)) (by decide)

noncomputable def f_L_law_233 (xs : Nat → Int32) (L : Nat) (K30 : Mem → Int32 → Option (Int32 × Mem)) (M : Mem) (x2 : Int32) : Option (Int32 × Mem) :=
  K30 M (x2 + 1)
set_option maxHeartbeats 4000000 in
set_option maxRecDepth 100000 in
theorem w_L_law_233 {p : Program} {l : Launch} {e : Env} {s : State} {m : MethodId} {below : List Frame} {meth : Method} {c : Code} {Z : Zt} {b sb L : Nat} {xs : Nat → Int32} (C : Cx p s m #[Value.ref sb] c cL_law RL Z b) (hml : c.maxLocals = 7) (hr : meth.sig.returnType = ret) (hlk : meth.locks = false) (hlf : l.stackTraces = false) (hX : va_X sb L xs s s.heap) (hbl : sb < s.heap.size) (hbb : s.heap.size ≤ b) (n : Nat) {K30 : Mem → Int32 → Option (Int32 × Mem)} (hK30 : ∀ {M : Mem} {x2 : Int32} {M' : Mem} (h : K30 M x2 = some (1, M')) {H : Heap} {locs : List Loc} {ls : Array Slot} {cells slots : Nat} (hS : va_S (A0 b) s.heap H locs) (hW : Wd Z b M H) (hl : lv_has ls 7 [(0, .ref sb), (1, .ref (b + 0)), (2, .int x2)]) (hcs : cells + 1719 * n ≤ 667928 ∧ slots + 10314 * n ≤ 7097987), W p l e room_1 s m #[Value.ref sb] below meth c H locs cells slots (lw_Z below #[Value.ref sb] s) (F0 m 30 ls [])) {M : Mem} {x2 : Int32} {M' : Mem} (h : f_L_law_233 xs L K30 M x2 = some (1, M')) {H : Heap} {locs : List Loc} {ls : Array Slot} {cells slots : Nat} (hS : va_S (A0 b) s.heap H locs) (hW : Wd Z b M H) (hl : lv_has ls 7 [(0, .ref sb), (1, .ref (b + 0)), (2, .int x2)]) (hcs : cells + 0 + 1719 * n ≤ 667928 ∧ slots + 0 + 10314 * n ≤ 7097987) : W p l e room_1 s m #[Value.ref sb] below meth c H locs cells slots (lw_Z below #[Value.ref sb] s) (F0 m 233 ls []) := by
  unfold f_L_law_233 at h
  have hx := C.1
  have hb := C.2.1
  have hbA : ¬ A0 b sb := by unfold A0; omega
  refine lv_iinc (v := x2 + 1) (lv' := [(2, .int (x2 + 1)), (0, .ref sb), (1, .ref (b + 0))]) hx hb dL_law_233 hl (k := 2) rfl rfl (by decide) rfl (fun ls hl => ?_)
  refine lv_goto (tgt := 30) hx hb dL_law_236 (by decide) ?_
  exact hK30 h hS hW (lv_sub hl [1, 2, 0] rfl) ⟨by omega, by omega⟩
noncomputable def f_L_law_217 (xs : Nat → Int32) (L : Nat) (K30 : Mem → Int32 → Option (Int32 × Mem)) (M : Mem) (x2 : Int32) : Option (Int32 × Mem) :=
  if (x2 - x2 / (8 : Int32) * (8 : Int32)) = 0 then bd2 (f_L_refuses M) (fun r225 M225 => if r225 = 0 then some ((0 : Int32), M225) else f_L_law_233 xs L K30 M225 x2) else f_L_law_233 xs L K30 M x2
set_option maxHeartbeats 4000000 in
set_option maxRecDepth 100000 in
theorem w_L_law_217 {p : Program} {l : Launch} {e : Env} {s : State} {m : MethodId} {below : List Frame} {meth : Method} {c : Code} {Z : Zt} {b sb L : Nat} {xs : Nat → Int32} (C : Cx p s m #[Value.ref sb] c cL_law RL Z b) (hml : c.maxLocals = 7) (hr : meth.sig.returnType = ret) (hlk : meth.locks = false) (hlf : l.stackTraces = false) (hX : va_X sb L xs s s.heap) (hbl : sb < s.heap.size) (hbb : s.heap.size ≤ b) (n : Nat) {K30 : Mem → Int32 → Option (Int32 × Mem)} (hK30 : ∀ {M : Mem} {x2 : Int32} {M' : Mem} (h : K30 M x2 = some (1, M')) {H : Heap} {locs : List Loc} {ls : Array Slot} {cells slots : Nat} (hS : va_S (A0 b) s.heap H locs) (hW : Wd Z b M H) (hl : lv_has ls 7 [(0, .ref sb), (1, .ref (b + 0)), (2, .int x2)]) (hcs : cells + 1719 * n ≤ 667928 ∧ slots + 10314 * n ≤ 7097987), W p l e room_1 s m #[Value.ref sb] below meth c H locs cells slots (lw_Z below #[Value.ref sb] s) (F0 m 30 ls [])) {M : Mem} {x2 : Int32} {M' : Mem} (h : f_L_law_217 xs L K30 M x2 = some (1, M')) {H : Heap} {locs : List Loc} {ls : Array Slot} {cells slots : Nat} (hS : va_S (A0 b) s.heap H locs) (hW : Wd Z b M H) (hl : lv_has ls 7 [(0, .ref sb), (1, .ref (b + 0)), (2, .int x2)]) (hcs : cells + 1712 + 1719 * n ≤ 667928 ∧ slots + 10272 + 10314 * n ≤ 7097987) : W p l e room_1 s m #[Value.ref sb] below meth c H locs cells slots (lw_Z below #[Value.ref sb] s) (F0 m 217 ls []) := by
  unfold f_L_law_217 at h
  have hx := C.1
  have hb := C.2.1
  have hbA : ¬ A0 b sb := by unfold A0; omega
  refine lv_iload_n hx hb dL_law_217 rfl (lv_at hl 2 rfl) ?_
  refine lv_bipush (v := (8 : Int32)) hx hb dL_law_218 (by decide) ?_
  refine lv_irem hx hb dL_law_220 (by decide) ?_
  refine lv_if_ne (tgt := 233) hx hb dL_law_221 (by decide) (fun c221 => ?_) (fun c221 => ?_)
  · have h := (if_neg c221).symm.trans h
    exact w_L_law_233 C hml hr hlk hlf hX hbl hbb n hK30 h hS hW (lv_sub hl [0, 1, 2] rfl) ⟨by omega, by omega⟩
  · have h := (if_pos c221).symm.trans h
    refine lv_aload_n hx hb dL_law_224 rfl (lv_at hl 1 rfl) ?_
    obtain ⟨r225, M225, hc225, h⟩ := bd2_e h
    refine kL_92 C hml hl.1 (c_L_refuses' hlf hc225) ⟨Nat.le_of_ble_eq_true rfl, Nat.le_of_ble_eq_true rfl⟩ ⟨by show _ ≤ 667928; omega, by show _ ≤ 7097987; omega⟩ (Nat.le_of_ble_eq_true rfl) hS hW dL_law_225 (fun H locs hW hS => ?_)
    refine lv_if_ne (tgt := 233) hx hb dL_law_228 (by decide) (fun c228 => ?_) (fun c228 => ?_)
    · have h := (if_neg c228).symm.trans h
      exact w_L_law_233 C hml hr hlk hlf hX hbl hbb n hK30 h hS hW (lv_sub hl [0, 1, 2] rfl) ⟨by omega, by omega⟩
    · have h := (if_pos c228).symm.trans h
      refine lv_iconst (v := (0 : Int32)) hx hb dL_law_231 (by decide) ?_
      exact absurd (show (0 : Int32) = 1 from congrArg Prod.fst (Option.some.inj h)) (by decide)
noncomputable def f_L_law_185 (xs : Nat → Int32) (L : Nat) (K30 : Mem → Int32 → Option (Int32 × Mem)) (M : Mem) (x2 : Int32) (x3 : Int32) (x4 : Int32) (x6 : Int32) : Option (Int32 × Mem) :=
  if x6 = 0 then (if (x3 - x3 / (3 : Int32) * (3 : Int32)) ≤ 0 then f_L_law_217 xs L K30 M x2 else if (x3 - x3 / (7 : Int32) * (7 : Int32)) ≤ 0 then f_L_law_217 xs L K30 M x2 else bdr (f_X4_content M x4) (fun r206 M206 => if r206 = (x3 - x3 / (1000 : Int32) * (1000 : Int32)) then f_L_law_217 xs L K30 M206 x2 else some ((0 : Int32), M206))) else f_L_law_217 xs L K30 M x2
set_option maxHeartbeats 4000000 in
set_option maxRecDepth 100000 in
theorem w_L_law_185 {p : Program} {l : Launch} {e : Env} {s : State} {m : MethodId} {below : List Frame} {meth : Method} {c : Code} {Z : Zt} {b sb L : Nat} {xs : Nat → Int32} (C : Cx p s m #[Value.ref sb] c cL_law RL Z b) (hml : c.maxLocals = 7) (hr : meth.sig.returnType = ret) (hlk : meth.locks = false) (hlf : l.stackTraces = false) (hX : va_X sb L xs s s.heap) (hbl : sb < s.heap.size) (hbb : s.heap.size ≤ b) (n : Nat) {K30 : Mem → Int32 → Option (Int32 × Mem)} (hK30 : ∀ {M : Mem} {x2 : Int32} {M' : Mem} (h : K30 M x2 = some (1, M')) {H : Heap} {locs : List Loc} {ls : Array Slot} {cells slots : Nat} (hS : va_S (A0 b) s.heap H locs) (hW : Wd Z b M H) (hl : lv_has ls 7 [(0, .ref sb), (1, .ref (b + 0)), (2, .int x2)]) (hcs : cells + 1719 * n ≤ 667928 ∧ slots + 10314 * n ≤ 7097987), W p l e room_1 s m #[Value.ref sb] below meth c H locs cells slots (lw_Z below #[Value.ref sb] s) (F0 m 30 ls [])) {M : Mem} {x2 : Int32} {x3 : Int32} {x4 : Int32} {x6 : Int32} {M' : Mem} (h : f_L_law_185 xs L K30 M x2 x3 x4 x6 = some (1, M')) {H : Heap} {locs : List Loc} {ls : Array Slot} {cells slots : Nat} (hS : va_S (A0 b) s.heap H locs) (hW : Wd Z b M H) (hl : lv_has ls 7 [(0, .ref sb), (1, .ref (b + 0)), (2, .int x2), (3, .int x3), (4, .int x4), (6, .int x6)]) (hcs : cells + 1713 + 1719 * n ≤ 667928 ∧ slots + 10278 + 10314 * n ≤ 7097987) : W p l e room_1 s m #[Value.ref sb] below meth c H locs cells slots (lw_Z below #[Value.ref sb] s) (F0 m 185 ls []) := by
  unfold f_L_law_185 at h
  have hx := C.1
  have hb := C.2.1
  have hbA : ¬ A0 b sb := by unfold A0; omega
  refine lv_iload hx hb dL_law_185 (lv_at hl 5 rfl) ?_
  refine lv_if_ne (tgt := 217) hx hb dL_law_187 (by decide) (fun c187 => ?_) (fun c187 => ?_)
  · have h := (if_neg c187).symm.trans h
    exact w_L_law_217 C hml hr hlk hlf hX hbl hbb n hK30 h hS hW (lv_sub hl [0, 1, 2] rfl) ⟨by omega, by omega⟩
  · have h := (if_pos c187).symm.trans h
    refine lv_iload_n hx hb dL_law_190 rfl (lv_at hl 3 rfl) ?_
    refine lv_iconst (v := (3 : Int32)) hx hb dL_law_191 (by decide) ?_
    refine lv_irem hx hb dL_law_192 (by decide) ?_
    refine lv_if_le (tgt := 217) hx hb dL_law_193 (by decide) (fun c193 => ?_) (fun c193 => ?_)
    · have h := (if_pos c193).symm.trans h
      exact w_L_law_217 C hml hr hlk hlf hX hbl hbb n hK30 h hS hW (lv_sub hl [0, 1, 2] rfl) ⟨by omega, by omega⟩
    · have h := (if_neg c193).symm.trans h
      refine lv_iload_n hx hb dL_law_196 rfl (lv_at hl 3 rfl) ?_
      refine lv_bipush (v := (7 : Int32)) hx hb dL_law_197 (by decide) ?_
      refine lv_irem hx hb dL_law_199 (by decide) ?_
      refine lv_if_le (tgt := 217) hx hb dL_law_200 (by decide) (fun c200 => ?_) (fun c200 => ?_)
      · have h := (if_pos c200).symm.trans h
        exact w_L_law_217 C hml hr hlk hlf hX hbl hbb n hK30 h hS hW (lv_sub hl [0, 1, 2] rfl) ⟨by omega, by omega⟩
      · have h := (if_neg c200).symm.trans h
        refine lv_aload_n hx hb dL_law_203 rfl (lv_at hl 1 rfl) ?_
        refine lv_iload hx hb dL_law_204 (lv_at hl 4 rfl) ?_
        obtain ⟨r206, M206, hc206, h⟩ := bdr_e h
        refine kL_34R C hml hl.1 (c_X4_content hlf hc206) ⟨Nat.le_of_ble_eq_true rfl, Nat.le_of_ble_eq_true rfl⟩ ⟨by show _ ≤ 667928; omega, by show _ ≤ 7097987; omega⟩ (Nat.le_of_ble_eq_true rfl) hS hW dL_law_206 (fun H locs hW hS => ?_)
        refine lv_iload_n hx hb dL_law_209 rfl (lv_at hl 3 rfl) ?_
        refine lv_sipush (v := (1000 : Int32)) hx hb dL_law_210 (by decide) ?_
        refine lv_irem hx hb dL_law_213 (by decide) ?_
        refine lv_icmp_ne (tgt := 231) hx hb dL_law_214 (by decide) (fun c214 => ?_) (fun c214 => ?_)
        · have h := (if_neg c214).symm.trans h
          refine lv_iconst (v := (0 : Int32)) hx hb dL_law_231 (by decide) ?_
          exact absurd (show (0 : Int32) = 1 from congrArg Prod.fst (Option.some.inj h)) (by decide)
        · have h := (if_pos c214).symm.trans h
          exact w_L_law_217 C hml hr hlk hlf hX hbl hbb n hK30 h hS hW (lv_sub hl [0, 1, 2] rfl) ⟨by omega, by omega⟩
noncomputable def f_L_law_151 (xs : Nat → Int32) (L : Nat) (K30 : Mem → Int32 → Option (Int32 × Mem)) (M : Mem) (x2 : Int32) (x3 : Int32) (x4 : Int32) (x5 : Int32) (xs0 : Int32) : Option (Int32 × Mem) :=
  if xs0 < 0 then some ((0 : Int32), M) else if (6 : Int32) < xs0 then some ((0 : Int32), M) else if xs0 = (4 : Int32) then some ((0 : Int32), M) else if xs0 ≤ 0 then f_L_law_185 xs L K30 M x2 x3 x4 xs0 else bd2 (f_X4_resources M) (fun r177 M177 => if r177 = x5 then f_L_law_185 xs L K30 M177 x2 x3 x4 xs0 else some ((0 : Int32), M177))
set_option maxHeartbeats 4000000 in
set_option maxRecDepth 100000 in
theorem w_L_law_151 {p : Program} {l : Launch} {e : Env} {s : State} {m : MethodId} {below : List Frame} {meth : Method} {c : Code} {Z : Zt} {b sb L : Nat} {xs : Nat → Int32} (C : Cx p s m #[Value.ref sb] c cL_law RL Z b) (hml : c.maxLocals = 7) (hr : meth.sig.returnType = ret) (hlk : meth.locks = false) (hlf : l.stackTraces = false) (hX : va_X sb L xs s s.heap) (hbl : sb < s.heap.size) (hbb : s.heap.size ≤ b) (n : Nat) {K30 : Mem → Int32 → Option (Int32 × Mem)} (hK30 : ∀ {M : Mem} {x2 : Int32} {M' : Mem} (h : K30 M x2 = some (1, M')) {H : Heap} {locs : List Loc} {ls : Array Slot} {cells slots : Nat} (hS : va_S (A0 b) s.heap H locs) (hW : Wd Z b M H) (hl : lv_has ls 7 [(0, .ref sb), (1, .ref (b + 0)), (2, .int x2)]) (hcs : cells + 1719 * n ≤ 667928 ∧ slots + 10314 * n ≤ 7097987), W p l e room_1 s m #[Value.ref sb] below meth c H locs cells slots (lw_Z below #[Value.ref sb] s) (F0 m 30 ls [])) {M : Mem} {x2 : Int32} {x3 : Int32} {x4 : Int32} {x5 : Int32} {xs0 : Int32} {M' : Mem} (h : f_L_law_151 xs L K30 M x2 x3 x4 x5 xs0 = some (1, M')) {H : Heap} {locs : List Loc} {ls : Array Slot} {cells slots : Nat} (hS : va_S (A0 b) s.heap H locs) (hW : Wd Z b M H) (hl : lv_has ls 7 [(0, .ref sb), (1, .ref (b + 0)), (2, .int x2), (3, .int x3), (4, .int x4), (5, .int x5)]) (hcs : cells + 1713 + 1719 * n ≤ 667928 ∧ slots + 10278 + 10314 * n ≤ 7097987) : W p l e room_1 s m #[Value.ref sb] below meth c H locs cells slots (lw_Z below #[Value.ref sb] s) (F0 m 151 ls [.int xs0]) := by
  unfold f_L_law_151 at h
  have hx := C.1
  have hb := C.2.1
  have hbA : ¬ A0 b sb := by unfold A0; omega
  refine lv_istore (lv' := [(6, .int xs0), (0, .ref sb), (1, .ref (b + 0)), (2, .int x2), (3, .int x3), (4, .int x4), (5, .int x5)]) hx hb dL_law_151 hl (by decide) rfl (fun ls hl => ?_)
  refine lv_iload hx hb dL_law_153 (lv_at hl 0 rfl) ?_
  refine lv_if_lt (tgt := 231) hx hb dL_law_155 (by decide) (fun c155 => ?_) (fun c155 => ?_)
  · have h := (if_pos c155).symm.trans h
    refine lv_iconst (v := (0 : Int32)) hx hb dL_law_231 (by decide) ?_
    exact absurd (show (0 : Int32) = 1 from congrArg Prod.fst (Option.some.inj h)) (by decide)
  · have h := (if_neg c155).symm.trans h
    refine lv_iload hx hb dL_law_158 (lv_at hl 0 rfl) ?_
    refine lv_bipush (v := (6 : Int32)) hx hb dL_law_160 (by decide) ?_
    refine lv_icmp_gt (tgt := 231) hx hb dL_law_162 (by decide) (fun c162 => ?_) (fun c162 => ?_)
    · have h := (if_pos c162).symm.trans h
      refine lv_iconst (v := (0 : Int32)) hx hb dL_law_231 (by decide) ?_
      exact absurd (show (0 : Int32) = 1 from congrArg Prod.fst (Option.some.inj h)) (by decide)
    · have h := (if_neg c162).symm.trans h
      refine lv_iload hx hb dL_law_165 (lv_at hl 0 rfl) ?_
      refine lv_iconst (v := (4 : Int32)) hx hb dL_law_167 (by decide) ?_
      refine lv_icmp_eq (tgt := 231) hx hb dL_law_168 (by decide) (fun c168 => ?_) (fun c168 => ?_)
      · have h := (if_pos c168).symm.trans h
        refine lv_iconst (v := (0 : Int32)) hx hb dL_law_231 (by decide) ?_
        exact absurd (show (0 : Int32) = 1 from congrArg Prod.fst (Option.some.inj h)) (by decide)
      · have h := (if_neg c168).symm.trans h
        refine lv_iload hx hb dL_law_171 (lv_at hl 0 rfl) ?_
        refine lv_if_le (tgt := 185) hx hb dL_law_173 (by decide) (fun c173 => ?_) (fun c173 => ?_)
        · have h := (if_pos c173).symm.trans h
          exact w_L_law_185 C hml hr hlk hlf hX hbl hbb n hK30 h hS hW (lv_sub hl [1, 2, 3, 4, 5, 0] rfl) ⟨by omega, by omega⟩
        · have h := (if_neg c173).symm.trans h
          refine lv_aload_n hx hb dL_law_176 rfl (lv_at hl 2 rfl) ?_
          obtain ⟨r177, M177, hc177, h⟩ := bd2_e h
          refine kL_77 C hml hl.1 (c_X4_resources hc177) ⟨Nat.le_of_ble_eq_true rfl, Nat.le_of_ble_eq_true rfl⟩ ⟨by show _ ≤ 667928; omega, by show _ ≤ 7097987; omega⟩ (Nat.le_of_ble_eq_true rfl) hS hW dL_law_177 (fun H locs hW hS => ?_)
          refine lv_iload hx hb dL_law_180 (lv_at hl 6 rfl) ?_
          refine lv_icmp_ne (tgt := 231) hx hb dL_law_182 (by decide) (fun c182 => ?_) (fun c182 => ?_)
          · have h := (if_neg c182).symm.trans h
            refine lv_iconst (v := (0 : Int32)) hx hb dL_law_231 (by decide) ?_
            exact absurd (show (0 : Int32) = 1 from congrArg Prod.fst (Option.some.inj h)) (by decide)
          · have h := (if_pos c182).symm.trans h
            exact w_L_law_185 C hml hr hlk hlf hX hbl hbb n hK30 h hS hW (lv_sub hl [1, 2, 3, 4, 5, 0] rfl) ⟨by omega, by omega⟩
noncomputable def f_L_law_94 (xs : Nat → Int32) (L : Nat) (K30 : Mem → Int32 → Option (Int32 × Mem)) (M : Mem) (x2 : Int32) (x3 : Int32) (xs0 : Int32) : Option (Int32 × Mem) :=
  bd2 (f_X4_resources M) (fun r97 M97 => if (x3 - x3 / (3 : Int32) * (3 : Int32)) = 0 then bdr (f_X4_makeCollection M97 (0 : Int32) xs0 (0 : Int32)) (fun r113 M113 => f_L_law_151 xs L K30 M113 x2 x3 xs0 r97 r113) else if (x3 - x3 / (7 : Int32) * (7 : Int32)) = 0 then bdr (f_X4_delete M97 (0 : Int32) xs0 (0 : Int32)) (fun r131 M131 => f_L_law_151 xs L K30 M131 x2 x3 xs0 r97 r131) else bdr (f_X4_put M97 (0 : Int32) xs0 (x3 - x3 / (1000 : Int32) * (1000 : Int32)) (-1 : Int32) (0 : Int32)) (fun r148 M148 => f_L_law_151 xs L K30 M148 x2 x3 xs0 r97 r148))
set_option maxHeartbeats 4000000 in
set_option maxRecDepth 100000 in
theorem w_L_law_94 {p : Program} {l : Launch} {e : Env} {s : State} {m : MethodId} {below : List Frame} {meth : Method} {c : Code} {Z : Zt} {b sb L : Nat} {xs : Nat → Int32} (C : Cx p s m #[Value.ref sb] c cL_law RL Z b) (hml : c.maxLocals = 7) (hr : meth.sig.returnType = ret) (hlk : meth.locks = false) (hlf : l.stackTraces = false) (hX : va_X sb L xs s s.heap) (hbl : sb < s.heap.size) (hbb : s.heap.size ≤ b) (n : Nat) {K30 : Mem → Int32 → Option (Int32 × Mem)} (hK30 : ∀ {M : Mem} {x2 : Int32} {M' : Mem} (h : K30 M x2 = some (1, M')) {H : Heap} {locs : List Loc} {ls : Array Slot} {cells slots : Nat} (hS : va_S (A0 b) s.heap H locs) (hW : Wd Z b M H) (hl : lv_has ls 7 [(0, .ref sb), (1, .ref (b + 0)), (2, .int x2)]) (hcs : cells + 1719 * n ≤ 667928 ∧ slots + 10314 * n ≤ 7097987), W p l e room_1 s m #[Value.ref sb] below meth c H locs cells slots (lw_Z below #[Value.ref sb] s) (F0 m 30 ls [])) {M : Mem} {x2 : Int32} {x3 : Int32} {xs0 : Int32} {M' : Mem} (h : f_L_law_94 xs L K30 M x2 x3 xs0 = some (1, M')) {H : Heap} {locs : List Loc} {ls : Array Slot} {cells slots : Nat} (hS : va_S (A0 b) s.heap H locs) (hW : Wd Z b M H) (hl : lv_has ls 7 [(0, .ref sb), (1, .ref (b + 0)), (2, .int x2), (3, .int x3)]) (hcs : cells + 1719 + 1719 * n ≤ 667928 ∧ slots + 10314 + 10314 * n ≤ 7097987) : W p l e room_1 s m #[Value.ref sb] below meth c H locs cells slots (lw_Z below #[Value.ref sb] s) (F0 m 94 ls [.int xs0]) := by
  unfold f_L_law_94 at h
  have hx := C.1
  have hb := C.2.1
  have hbA : ¬ A0 b sb := by unfold A0; omega
  refine lv_istore (lv' := [(4, .int xs0), (0, .ref sb), (1, .ref (b + 0)), (2, .int x2), (3, .int x3)]) hx hb dL_law_94 hl (by decide) rfl (fun ls hl => ?_)
  refine lv_aload_n hx hb dL_law_96 rfl (lv_at hl 2 rfl) ?_
  obtain ⟨r97, M97, hc97, h⟩ := bd2_e h
  refine kL_77 C hml hl.1 (c_X4_resources hc97) ⟨Nat.le_of_ble_eq_true rfl, Nat.le_of_ble_eq_true rfl⟩ ⟨by show _ ≤ 667928; omega, by show _ ≤ 7097987; omega⟩ (Nat.le_of_ble_eq_true rfl) hS hW dL_law_97 (fun H locs hW hS => ?_)
  refine lv_istore (lv' := [(5, .int r97), (4, .int xs0), (0, .ref sb), (1, .ref (b + 0)), (2, .int x2), (3, .int x3)]) hx hb dL_law_100 hl (by decide) rfl (fun ls hl => ?_)
  refine lv_iload_n hx hb dL_law_102 rfl (lv_at hl 5 rfl) ?_
  refine lv_iconst (v := (3 : Int32)) hx hb dL_law_103 (by decide) ?_
  refine lv_irem hx hb dL_law_104 (by decide) ?_
  refine lv_if_ne (tgt := 119) hx hb dL_law_105 (by decide) (fun c105 => ?_) (fun c105 => ?_)
  · have h := (if_neg c105).symm.trans h
    refine lv_iload_n hx hb dL_law_119 rfl (lv_at hl 5 rfl) ?_
    refine lv_bipush (v := (7 : Int32)) hx hb dL_law_120 (by decide) ?_
    refine lv_irem hx hb dL_law_122 (by decide) ?_
    refine lv_if_ne (tgt := 137) hx hb dL_law_123 (by decide) (fun c123 => ?_) (fun c123 => ?_)
    · have h := (if_neg c123).symm.trans h
      refine lv_aload_n hx hb dL_law_137 rfl (lv_at hl 3 rfl) ?_
      refine lv_iconst (v := (0 : Int32)) hx hb dL_law_138 (by decide) ?_
      refine lv_iload hx hb dL_law_139 (lv_at hl 1 rfl) ?_
      refine lv_iload_n hx hb dL_law_141 rfl (lv_at hl 5 rfl) ?_
      refine lv_sipush (v := (1000 : Int32)) hx hb dL_law_142 (by decide) ?_
      refine lv_irem hx hb dL_law_145 (by decide) ?_
      refine lv_iconst (v := (-1 : Int32)) hx hb dL_law_146 (by decide) ?_
      refine lv_iconst (v := (0 : Int32)) hx hb dL_law_147 (by decide) ?_
      obtain ⟨r148, M148, hc148, h⟩ := bdr_e h
      refine kL_13R C hml hl.1 (c_X4_put hlf hc148) ⟨Nat.le_of_ble_eq_true rfl, Nat.le_of_ble_eq_true rfl⟩ ⟨by show _ ≤ 667928; omega, by show _ ≤ 7097987; omega⟩ (Nat.le_of_ble_eq_true rfl) hS hW dL_law_148 (fun H locs hW hS => ?_)
      exact w_L_law_151 C hml hr hlk hlf hX hbl hbb n hK30 h hS hW (lv_sub hl [2, 3, 4, 5, 1, 0] rfl) ⟨by omega, by omega⟩
    · have h := (if_pos c123).symm.trans h
      refine lv_aload_n hx hb dL_law_126 rfl (lv_at hl 3 rfl) ?_
      refine lv_iconst (v := (0 : Int32)) hx hb dL_law_127 (by decide) ?_
      refine lv_iload hx hb dL_law_128 (lv_at hl 1 rfl) ?_
      refine lv_iconst (v := (0 : Int32)) hx hb dL_law_130 (by decide) ?_
      obtain ⟨r131, M131, hc131, h⟩ := bdr_e h
      refine kL_17R C hml hl.1 (c_X4_delete hlf hc131) ⟨Nat.le_of_ble_eq_true rfl, Nat.le_of_ble_eq_true rfl⟩ ⟨by show _ ≤ 667928; omega, by show _ ≤ 7097987; omega⟩ (Nat.le_of_ble_eq_true rfl) hS hW dL_law_131 (fun H locs hW hS => ?_)
      refine lv_goto (tgt := 151) hx hb dL_law_134 (by decide) ?_
      exact w_L_law_151 C hml hr hlk hlf hX hbl hbb n hK30 h hS hW (lv_sub hl [2, 3, 4, 5, 1, 0] rfl) ⟨by omega, by omega⟩
  · have h := (if_pos c105).symm.trans h
    refine lv_aload_n hx hb dL_law_108 rfl (lv_at hl 3 rfl) ?_
    refine lv_iconst (v := (0 : Int32)) hx hb dL_law_109 (by decide) ?_
    refine lv_iload hx hb dL_law_110 (lv_at hl 1 rfl) ?_
    refine lv_iconst (v := (0 : Int32)) hx hb dL_law_112 (by decide) ?_
    obtain ⟨r113, M113, hc113, h⟩ := bdr_e h
    refine kL_7R C hml hl.1 (c_X4_makeCollection hlf hc113) ⟨Nat.le_of_ble_eq_true rfl, Nat.le_of_ble_eq_true rfl⟩ ⟨by show _ ≤ 667928; omega, by show _ ≤ 7097987; omega⟩ (Nat.le_of_ble_eq_true rfl) hS hW dL_law_113 (fun H locs hW hS => ?_)
    refine lv_goto (tgt := 151) hx hb dL_law_116 (by decide) ?_
    exact w_L_law_151 C hml hr hlk hlf hX hbl hbb n hK30 h hS hW (lv_sub hl [2, 3, 4, 5, 1, 0] rfl) ⟨by omega, by omega⟩
noncomputable def f_L_law_57 (xs : Nat → Int32) (L : Nat) (K30 : Mem → Int32 → Option (Int32 × Mem)) (M : Mem) (x2 : Int32) (xs0 : Int32) : Option (Int32 × Mem) :=
  if (xs0 - xs0 / (3 : Int32) * (3 : Int32)) = 0 then f_L_law_94 xs L K30 M x2 xs0 ((1 : Int32) + (xs0 - xs0 / (9 : Int32) * (9 : Int32))) else f_L_law_94 xs L K30 M x2 xs0 ((((10 : Int32) * ((1 : Int32) + ((xs0 / (3 : Int32)) - (xs0 / (3 : Int32)) / (9 : Int32) * (9 : Int32)))) + (1 : Int32)) + ((xs0 / (27 : Int32)) - (xs0 / (27 : Int32)) / (9 : Int32) * (9 : Int32)))
set_option maxHeartbeats 4000000 in
set_option maxRecDepth 100000 in
theorem w_L_law_57 {p : Program} {l : Launch} {e : Env} {s : State} {m : MethodId} {below : List Frame} {meth : Method} {c : Code} {Z : Zt} {b sb L : Nat} {xs : Nat → Int32} (C : Cx p s m #[Value.ref sb] c cL_law RL Z b) (hml : c.maxLocals = 7) (hr : meth.sig.returnType = ret) (hlk : meth.locks = false) (hlf : l.stackTraces = false) (hX : va_X sb L xs s s.heap) (hbl : sb < s.heap.size) (hbb : s.heap.size ≤ b) (n : Nat) {K30 : Mem → Int32 → Option (Int32 × Mem)} (hK30 : ∀ {M : Mem} {x2 : Int32} {M' : Mem} (h : K30 M x2 = some (1, M')) {H : Heap} {locs : List Loc} {ls : Array Slot} {cells slots : Nat} (hS : va_S (A0 b) s.heap H locs) (hW : Wd Z b M H) (hl : lv_has ls 7 [(0, .ref sb), (1, .ref (b + 0)), (2, .int x2)]) (hcs : cells + 1719 * n ≤ 667928 ∧ slots + 10314 * n ≤ 7097987), W p l e room_1 s m #[Value.ref sb] below meth c H locs cells slots (lw_Z below #[Value.ref sb] s) (F0 m 30 ls [])) {M : Mem} {x2 : Int32} {xs0 : Int32} {M' : Mem} (h : f_L_law_57 xs L K30 M x2 xs0 = some (1, M')) {H : Heap} {locs : List Loc} {ls : Array Slot} {cells slots : Nat} (hS : va_S (A0 b) s.heap H locs) (hW : Wd Z b M H) (hl : lv_has ls 7 [(0, .ref sb), (1, .ref (b + 0)), (2, .int x2)]) (hcs : cells + 1719 + 1719 * n ≤ 667928 ∧ slots + 10314 + 10314 * n ≤ 7097987) : W p l e room_1 s m #[Value.ref sb] below meth c H locs cells slots (lw_Z below #[Value.ref sb] s) (F0 m 57 ls [.int xs0]) := by
  unfold f_L_law_57 at h
  have hx := C.1
  have hb := C.2.1
  have hbA : ¬ A0 b sb := by unfold A0; omega
  refine lv_istore_n (lv' := [(3, .int xs0), (0, .ref sb), (1, .ref (b + 0)), (2, .int x2)]) hx hb dL_law_57 rfl hl (by decide) rfl (fun ls hl => ?_)
  refine lv_iload_n hx hb dL_law_58 rfl (lv_at hl 0 rfl) ?_
  refine lv_iconst (v := (3 : Int32)) hx hb dL_law_59 (by decide) ?_
  refine lv_irem hx hb dL_law_60 (by decide) ?_
  refine lv_if_ne (tgt := 73) hx hb dL_law_61 (by decide) (fun c61 => ?_) (fun c61 => ?_)
  · have h := (if_neg c61).symm.trans h
    refine lv_bipush (v := (10 : Int32)) hx hb dL_law_73 (by decide) ?_
    refine lv_iconst (v := (1 : Int32)) hx hb dL_law_75 (by decide) ?_
    refine lv_iload_n hx hb dL_law_76 rfl (lv_at hl 0 rfl) ?_
    refine lv_iconst (v := (3 : Int32)) hx hb dL_law_77 (by decide) ?_
    refine lv_idiv hx hb dL_law_78 (by decide) ?_
    refine lv_bipush (v := (9 : Int32)) hx hb dL_law_79 (by decide) ?_
    refine lv_irem hx hb dL_law_81 (by decide) ?_
    refine lv_iadd hx hb dL_law_82 ?_
    refine lv_imul hx hb dL_law_83 ?_
    refine lv_iconst (v := (1 : Int32)) hx hb dL_law_84 (by decide) ?_
    refine lv_iadd hx hb dL_law_85 ?_
    refine lv_iload_n hx hb dL_law_86 rfl (lv_at hl 0 rfl) ?_
    refine lv_bipush (v := (27 : Int32)) hx hb dL_law_87 (by decide) ?_
    refine lv_idiv hx hb dL_law_89 (by decide) ?_
    refine lv_bipush (v := (9 : Int32)) hx hb dL_law_90 (by decide) ?_
    refine lv_irem hx hb dL_law_92 (by decide) ?_
    refine lv_iadd hx hb dL_law_93 ?_
    exact w_L_law_94 C hml hr hlk hlf hX hbl hbb n hK30 h hS hW (lv_sub hl [1, 2, 3, 0] rfl) ⟨by omega, by omega⟩
  · have h := (if_pos c61).symm.trans h
    refine lv_iconst (v := (1 : Int32)) hx hb dL_law_64 (by decide) ?_
    refine lv_iload_n hx hb dL_law_65 rfl (lv_at hl 0 rfl) ?_
    refine lv_bipush (v := (9 : Int32)) hx hb dL_law_66 (by decide) ?_
    refine lv_irem hx hb dL_law_68 (by decide) ?_
    refine lv_iadd hx hb dL_law_69 ?_
    refine lv_goto (tgt := 94) hx hb dL_law_70 (by decide) ?_
    exact w_L_law_94 C hml hr hlk hlf hX hbl hbb n hK30 h hS hW (lv_sub hl [1, 2, 3, 0] rfl) ⟨by omega, by omega⟩
noncomputable def f_L_law_30B (xs : Nat → Int32) (L : Nat) (K30 : Mem → Int32 → Option (Int32 × Mem)) (M : Mem) (x2 : Int32) : Option (Int32 × Mem) :=
  if (30 : Int32) ≤ x2 then some ((1 : Int32), M) else if (Int32.ofNat L) = 0 then f_L_law_57 xs L K30 M x2 ((41 : Int32) * x2) else if (Int32.ofNat L) = 0 then none else if (x2 - x2 / (Int32.ofNat L) * (Int32.ofNat L)) < 0 ∨ L ≤ (x2 - x2 / (Int32.ofNat L) * (Int32.ofNat L)).toNatClampNeg then none else f_L_law_57 xs L K30 M x2 (ushr8 (xs (x2 - x2 / (Int32.ofNat L) * (Int32.ofNat L)).toNatClampNeg))
noncomputable def f_L_law_30 (xs : Nat → Int32) (L : Nat) : Nat → Mem → Int32 → Option (Int32 × Mem)
  | 0 => fun _ _ => none
  | n + 1 => f_L_law_30B xs L (f_L_law_30 xs L n)
set_option maxHeartbeats 4000000 in
set_option maxRecDepth 100000 in
theorem w_L_law_30 {p : Program} {l : Launch} {e : Env} {s : State} {m : MethodId} {below : List Frame} {meth : Method} {c : Code} {Z : Zt} {b sb L : Nat} {xs : Nat → Int32} (C : Cx p s m #[Value.ref sb] c cL_law RL Z b) (hml : c.maxLocals = 7) (hr : meth.sig.returnType = ret) (hlk : meth.locks = false) (hlf : l.stackTraces = false) (hX : va_X sb L xs s s.heap) (hbl : sb < s.heap.size) (hbb : s.heap.size ≤ b) : ∀ (n : Nat) {M : Mem} {x2 : Int32} {M' : Mem} (h : f_L_law_30 xs L n M x2 = some (1, M')) {H : Heap} {locs : List Loc} {ls : Array Slot} {cells slots : Nat} (hS : va_S (A0 b) s.heap H locs) (hW : Wd Z b M H) (hl : lv_has ls 7 [(0, .ref sb), (1, .ref (b + 0)), (2, .int x2)]) (hcs : cells + 1719 * n ≤ 667928 ∧ slots + 10314 * n ≤ 7097987), W p l e room_1 s m #[Value.ref sb] below meth c H locs cells slots (lw_Z below #[Value.ref sb] s) (F0 m 30 ls []) := by
  intro n
  induction n with
  | zero =>
    intro M x2 M' h
    cases h
  | succ n ih =>
    intro M x2 M' h H locs ls cells slots hS hW hl hcs
    have h : f_L_law_30B xs L (f_L_law_30 xs L n) M x2 = some (1, M') := h
    unfold f_L_law_30B at h
    have hK30 := @ih
    have hx := C.1
    have hb := C.2.1
    have hbA : ¬ A0 b sb := by unfold A0; omega
    refine lv_iload_n hx hb dL_law_30 rfl (lv_at hl 2 rfl) ?_
    refine lv_bipush (v := (30 : Int32)) hx hb dL_law_31 (by decide) ?_
    refine lv_icmp_ge (tgt := 239) hx hb dL_law_33 (by decide) (fun c33 => ?_) (fun c33 => ?_)
    · have h := (if_pos c33).symm.trans h
      refine lv_iconst (v := (1 : Int32)) hx hb dL_law_239 (by decide) ?_
      exact lw_end hx hb hr hlk hbb hS (by omega) (by omega) dL_law_240
    · have h := (if_neg c33).symm.trans h
      refine lv_aload_n hx hb dL_law_36 rfl (lv_at hl 0 rfl) ?_
      refine va_slen hx hb hX hbl hbA hS dL_law_37 ?_
      refine lv_if_ne (tgt := 48) hx hb dL_law_38 (by decide) (fun c38 => ?_) (fun c38 => ?_)
      · have h := (if_neg c38).symm.trans h
        refine lv_aload_n hx hb dL_law_48 rfl (lv_at hl 0 rfl) ?_
        refine lv_iload_n hx hb dL_law_49 rfl (lv_at hl 2 rfl) ?_
        refine lv_aload_n hx hb dL_law_50 rfl (lv_at hl 0 rfl) ?_
        refine va_slen hx hb hX hbl hbA hS dL_law_51 ?_
        obtain ⟨g52, h⟩ := gd h
        refine lv_irem hx hb dL_law_52 g52 ?_
        obtain ⟨g53, h⟩ := gd h
        refine va_sld hx hb hX hbl hbA hS g53 dL_law_53 ?_
        refine lv_bipush (v := (8 : Int32)) hx hb dL_law_54 (by decide) ?_
        refine lv_iushr (v := ushr8 (xs (x2 - x2 / (Int32.ofNat L) * (Int32.ofNat L)).toNatClampNeg)) hx hb dL_law_56 rfl ?_
        exact w_L_law_57 C hml hr hlk hlf hX hbl hbb n hK30 h hS hW (lv_sub hl [0, 1, 2] rfl) ⟨by omega, by omega⟩
      · have h := (if_pos c38).symm.trans h
        refine lv_bipush (v := (41 : Int32)) hx hb dL_law_41 (by decide) ?_
        refine lv_iload_n hx hb dL_law_43 rfl (lv_at hl 2 rfl) ?_
        refine lv_imul hx hb dL_law_44 ?_
        refine lv_goto (tgt := 57) hx hb dL_law_45 (by decide) ?_
        exact w_L_law_57 C hml hr hlk hlf hX hbl hbb n hK30 h hS hW (lv_sub hl [0, 1, 2] rfl) ⟨by omega, by omega⟩

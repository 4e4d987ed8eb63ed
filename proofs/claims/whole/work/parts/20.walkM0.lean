def f_X5_thrown_0 (M : Mem) : Option (Int32 × Mem) :=
  some (M 39 0, M)
set_option maxHeartbeats 4000000 in
set_option maxRecDepth 100000 in
theorem w_X5_thrown_0 {p : Program} {l : Launch} {e : Env} {s : State} {m : MethodId} {args : Array Value} {below : List Frame} {meth : Method} {c : Code} {Z : Zt} {b : Nat} (C : Cx p s m args c cX5_thrown RX5 Z b) (hml : c.maxLocals = 1) (hr : meth.sig.returnType = (some .int)) (hlk : meth.locks = false) {r' : Int32} {M' : Mem} {M : Mem} (h : f_X5_thrown_0 M = some (r', M')) {H : Heap} {locs : List Loc} {ls : Array Slot} (hS : va_S (A0 b) s.heap H locs) (hW : Wd Z b M H) (hl : lv_has ls 1 [(0, .ref (b + 156))]) : W p l e rm_X5_thrown s m args below meth c H locs 0 0 (MQ below (Qn Z b (some (.int r')) M') args s 0 0 (A0 b)) (F0 m 0 ls []) := by
  unfold f_X5_thrown_0 at h
  have hx := C.1
  have hb := C.2.1
  refine lv_aload_n hx hb dX5_thrown_0 rfl (lv_at hl 0 rfl) ?_
  refine gX5_56 C hW dX5_thrown_1 ?_
  cases h
  exact ret_i C hr hlk hS hW dX5_thrown_4
def f_X5_thrown (M : Mem) : Option (Int32 × Mem) := f_X5_thrown_0 M
set_option maxHeartbeats 4000000 in
set_option maxRecDepth 100000 in
theorem c_X5_thrown {l : Launch} {Z : Zt} {b : Nat} {M : Mem} {r' : Int32} {M' : Mem} (h : f_X5_thrown M = some (r', M')) : Ct l yX5_thrown cX5_thrown 1 (some .int) rm_X5_thrown Z b [.ref (b + 156)] M (some (.int r')) M' := by
  refine Met.ofW (cc := cX5_thrown) (maxL := 1) (ret := (some .int)) (by decide) rfl ?_
  intro p e s m args below meth c s₁ B hml hv
  obtain ⟨rfl, hE, hW⟩ := hv
  have C : Cx p s m [.ref (b + 156)].toArray c cX5_thrown RX5 Z b := ⟨B.exec, B.bytes, findClass_of_methodNamed B.named, fun w hw => atoms_spec (ws := Cond.code yX5_thrown cX5_thrown 1 (some .int) :: wsA) B.pre w (List.mem_cons_of_mem _ hw), hE⟩
  have hl := lv_entry [.ref (b + 156)] (n := 1) (Nat.le_of_ble_eq_true rfl)
  rw [lg_entry_eq]
  generalize (lg_sl [.ref (b + 156)] ++ List.replicate (1 - (lg_sl [.ref (b + 156)]).length) Slot.unset).toArray = ls at hl ⊢
  have hl : lv_has ls 1 [(0, .ref (b + 156))] := hl
  exact w_X5_thrown_0 C hml B.returns B.notSynchronized h va_S.rf hW hl
def f_X5_isIn_0 (M : Mem) (x0 : Int32) (x1 : Int32) (x2 : Int32) : Option (Int32 × Mem) :=
  if x0 < x1 then some ((0 : Int32), M) else if x2 < x0 then some ((0 : Int32), M) else some ((1 : Int32), M)
set_option maxHeartbeats 4000000 in
set_option maxRecDepth 100000 in
theorem w_X5_isIn_0 {p : Program} {l : Launch} {e : Env} {s : State} {m : MethodId} {args : Array Value} {below : List Frame} {meth : Method} {c : Code} {Z : Zt} {b : Nat} (C : Cx p s m args c cX5_isIn RX5 Z b) (hml : c.maxLocals = 3) (hr : meth.sig.returnType = (some .boolean)) (hlk : meth.locks = false) {r' : Int32} {M' : Mem} {M : Mem} {x0 : Int32} {x1 : Int32} {x2 : Int32} (h : f_X5_isIn_0 M x0 x1 x2 = some (r', M')) {H : Heap} {locs : List Loc} {ls : Array Slot} (hS : va_S (A0 b) s.heap H locs) (hW : Wd Z b M H) (hl : lv_has ls 3 [(0, .int x0), (1, .int x1), (2, .int x2)]) : W p l e rm_X5_isIn s m args below meth c H locs 0 0 (MQ below (Qn Z b (some (.int r')) M') args s 0 0 (A0 b)) (F0 m 0 ls []) := by
  unfold f_X5_isIn_0 at h
  have hx := C.1
  have hb := C.2.1
  refine lv_iload_n hx hb dX5_isIn_0 rfl (lv_at hl 0 rfl) ?_
  refine lv_iload_n hx hb dX5_isIn_1 rfl (lv_at hl 1 rfl) ?_
  refine lv_icmp_lt (tgt := 14) hx hb dX5_isIn_2 (by decide) (fun c2 => ?_) (fun c2 => ?_)
  · have h := (if_pos c2).symm.trans h
    refine lv_iconst (v := (0 : Int32)) hx hb dX5_isIn_14 (by decide) ?_
    cases h
    exact ret_z C hr hlk (by decide) hS hW dX5_isIn_15
  · have h := (if_neg c2).symm.trans h
    refine lv_iload_n hx hb dX5_isIn_5 rfl (lv_at hl 0 rfl) ?_
    refine lv_iload_n hx hb dX5_isIn_6 rfl (lv_at hl 2 rfl) ?_
    refine lv_icmp_gt (tgt := 14) hx hb dX5_isIn_7 (by decide) (fun c7 => ?_) (fun c7 => ?_)
    · have h := (if_pos c7).symm.trans h
      refine lv_iconst (v := (0 : Int32)) hx hb dX5_isIn_14 (by decide) ?_
      cases h
      exact ret_z C hr hlk (by decide) hS hW dX5_isIn_15
    · have h := (if_neg c7).symm.trans h
      refine lv_iconst (v := (1 : Int32)) hx hb dX5_isIn_10 (by decide) ?_
      refine lv_goto (tgt := 15) hx hb dX5_isIn_11 (by decide) ?_
      cases h
      exact ret_z C hr hlk (by decide) hS hW dX5_isIn_15
def f_X5_isIn (M : Mem) (x0 : Int32) (x1 : Int32) (x2 : Int32) : Option (Int32 × Mem) := f_X5_isIn_0 M x0 x1 x2
set_option maxHeartbeats 4000000 in
set_option maxRecDepth 100000 in
theorem c_X5_isIn {l : Launch} {Z : Zt} {b : Nat} {M : Mem} {x0 : Int32} {x1 : Int32} {x2 : Int32} {r' : Int32} {M' : Mem} (h : f_X5_isIn M x0 x1 x2 = some (r', M')) : Ct l yX5_isIn cX5_isIn 3 (some .boolean) rm_X5_isIn Z b [.int x0, .int x1, .int x2] M (some (.int r')) M' := by
  refine Met.ofW (cc := cX5_isIn) (maxL := 3) (ret := (some .boolean)) (by decide) rfl ?_
  intro p e s m args below meth c s₁ B hml hv
  obtain ⟨rfl, hE, hW⟩ := hv
  have C : Cx p s m [.int x0, .int x1, .int x2].toArray c cX5_isIn RX5 Z b := ⟨B.exec, B.bytes, findClass_of_methodNamed B.named, fun w hw => atoms_spec (ws := Cond.code yX5_isIn cX5_isIn 3 (some .boolean) :: wsA) B.pre w (List.mem_cons_of_mem _ hw), hE⟩
  have hl := lv_entry [.int x0, .int x1, .int x2] (n := 3) (Nat.le_of_ble_eq_true rfl)
  rw [lg_entry_eq]
  generalize (lg_sl [.int x0, .int x1, .int x2] ++ List.replicate (3 - (lg_sl [.int x0, .int x1, .int x2]).length) Slot.unset).toArray = ls at hl ⊢
  have hl : lv_has ls 3 [(0, .int x0), (1, .int x1), (2, .int x2)] := hl
  exact w_X5_isIn_0 C hml B.returns B.notSynchronized h va_S.rf hW hl
def f_X5_isPath_31 (K11 : Mem → Int32 → Int32 → Option (Int32 × Mem)) (M : Mem) (x2 : Int32) (xs0 : Int32) : Option (Int32 × Mem) :=
  K11 M xs0 (x2 / (10 : Int32))
set_option maxHeartbeats 4000000 in
set_option maxRecDepth 100000 in
theorem w_X5_isPath_31 {p : Program} {l : Launch} {e : Env} {s : State} {m : MethodId} {args : Array Value} {below : List Frame} {meth : Method} {c : Code} {Z : Zt} {b : Nat} (C : Cx p s m args c cX5_isPath RX5 Z b) (hml : c.maxLocals = 3) (hr : meth.sig.returnType = (some .boolean)) (hlk : meth.locks = false) {r' : Int32} {M' : Mem} {K11 : Mem → Int32 → Int32 → Option (Int32 × Mem)} (hK11 : ∀ {M : Mem} {x1 : Int32} {x2 : Int32} (h : K11 M x1 x2 = some (r', M')) {H : Heap} {locs : List Loc} {ls : Array Slot} (hS : va_S (A0 b) s.heap H locs) (hW : Wd Z b M H) (hl : lv_has ls 3 [(1, .int x1), (2, .int x2)]), W p l e rm_X5_isPath s m args below meth c H locs 0 0 (MQ below (Qn Z b (some (.int r')) M') args s 0 0 (A0 b)) (F0 m 11 ls [])) {M : Mem} {x2 : Int32} {xs0 : Int32} (h : f_X5_isPath_31 K11 M x2 xs0 = some (r', M')) {H : Heap} {locs : List Loc} {ls : Array Slot} (hS : va_S (A0 b) s.heap H locs) (hW : Wd Z b M H) (hl : lv_has ls 3 [(2, .int x2)]) : W p l e rm_X5_isPath s m args below meth c H locs 0 0 (MQ below (Qn Z b (some (.int r')) M') args s 0 0 (A0 b)) (F0 m 31 ls [.int xs0]) := by
  unfold f_X5_isPath_31 at h
  have hx := C.1
  have hb := C.2.1
  refine lv_istore_n (lv' := [(1, .int xs0), (2, .int x2)]) hx hb dX5_isPath_31 rfl hl (by decide) rfl (fun ls hl => ?_)
  refine lv_iload_n hx hb dX5_isPath_32 rfl (lv_at hl 1 rfl) ?_
  refine lv_bipush (v := (10 : Int32)) hx hb dX5_isPath_33 (by decide) ?_
  refine lv_idiv hx hb dX5_isPath_35 (by decide) ?_
  refine lv_istore_n (lv' := [(2, .int (x2 / (10 : Int32))), (1, .int xs0)]) hx hb dX5_isPath_36 rfl hl (by decide) rfl (fun ls hl => ?_)
  refine lv_goto (tgt := 11) hx hb dX5_isPath_37 (by decide) ?_
  exact hK11 h hS hW (lv_sub hl [1, 0] rfl)
def f_X5_isPath_11B (K11 : Mem → Int32 → Int32 → Option (Int32 × Mem)) (M : Mem) (x1 : Int32) (x2 : Int32) : Option (Int32 × Mem) :=
  if x1 = 0 then (if x1 &&& 1 = x1 then some (x1, M) else none) else if x2 ≤ 0 then (if x1 &&& 1 = x1 then some (x1, M) else none) else if (x2 - x2 / (10 : Int32) * (10 : Int32)) ≤ 0 then f_X5_isPath_31 K11 M x2 (0 : Int32) else f_X5_isPath_31 K11 M x2 (1 : Int32)
def f_X5_isPath_11 : Nat → Mem → Int32 → Int32 → Option (Int32 × Mem)
  | 0 => fun _ _ _ => none
  | n + 1 => f_X5_isPath_11B (f_X5_isPath_11 n)
set_option maxHeartbeats 4000000 in
set_option maxRecDepth 100000 in
theorem w_X5_isPath_11 {p : Program} {l : Launch} {e : Env} {s : State} {m : MethodId} {args : Array Value} {below : List Frame} {meth : Method} {c : Code} {Z : Zt} {b : Nat} (C : Cx p s m args c cX5_isPath RX5 Z b) (hml : c.maxLocals = 3) (hr : meth.sig.returnType = (some .boolean)) (hlk : meth.locks = false) {r' : Int32} {M' : Mem} : ∀ (n : Nat) {M : Mem} {x1 : Int32} {x2 : Int32} (h : f_X5_isPath_11 n M x1 x2 = some (r', M')) {H : Heap} {locs : List Loc} {ls : Array Slot} (hS : va_S (A0 b) s.heap H locs) (hW : Wd Z b M H) (hl : lv_has ls 3 [(1, .int x1), (2, .int x2)]), W p l e rm_X5_isPath s m args below meth c H locs 0 0 (MQ below (Qn Z b (some (.int r')) M') args s 0 0 (A0 b)) (F0 m 11 ls []) := by
  intro n
  induction n with
  | zero =>
    intro M x1 x2 h
    cases h
  | succ n ih =>
    intro M x1 x2 h H locs ls hS hW hl
    have h : f_X5_isPath_11B (f_X5_isPath_11 n) M x1 x2 = some (r', M') := h
    unfold f_X5_isPath_11B at h
    have hK11 := @ih
    have hx := C.1
    have hb := C.2.1
    refine lv_iload_n hx hb dX5_isPath_11 rfl (lv_at hl 0 rfl) ?_
    refine lv_if_eq (tgt := 40) hx hb dX5_isPath_12 (by decide) (fun c12 => ?_) (fun c12 => ?_)
    · have h := (if_pos c12).symm.trans h
      refine lv_iload_n hx hb dX5_isPath_40 rfl (lv_at hl 0 rfl) ?_
      obtain ⟨g41, h⟩ := gdp h
      cases h
      exact ret_z C hr hlk g41 hS hW dX5_isPath_41
    · have h := (if_neg c12).symm.trans h
      refine lv_iload_n hx hb dX5_isPath_15 rfl (lv_at hl 1 rfl) ?_
      refine lv_if_le (tgt := 40) hx hb dX5_isPath_16 (by decide) (fun c16 => ?_) (fun c16 => ?_)
      · have h := (if_pos c16).symm.trans h
        refine lv_iload_n hx hb dX5_isPath_40 rfl (lv_at hl 0 rfl) ?_
        obtain ⟨g41, h⟩ := gdp h
        cases h
        exact ret_z C hr hlk g41 hS hW dX5_isPath_41
      · have h := (if_neg c16).symm.trans h
        refine lv_iload_n hx hb dX5_isPath_19 rfl (lv_at hl 1 rfl) ?_
        refine lv_bipush (v := (10 : Int32)) hx hb dX5_isPath_20 (by decide) ?_
        refine lv_irem hx hb dX5_isPath_22 (by decide) ?_
        refine lv_if_le (tgt := 30) hx hb dX5_isPath_23 (by decide) (fun c23 => ?_) (fun c23 => ?_)
        · have h := (if_pos c23).symm.trans h
          refine lv_iconst (v := (0 : Int32)) hx hb dX5_isPath_30 (by decide) ?_
          exact w_X5_isPath_31 C hml hr hlk hK11 h hS hW (lv_sub hl [1] rfl)
        · have h := (if_neg c23).symm.trans h
          refine lv_iconst (v := (1 : Int32)) hx hb dX5_isPath_26 (by decide) ?_
          refine lv_goto (tgt := 31) hx hb dX5_isPath_27 (by decide) ?_
          exact w_X5_isPath_31 C hml hr hlk hK11 h hS hW (lv_sub hl [1] rfl)
def f_X5_isPath_0 (M : Mem) (x0 : Int32) : Option (Int32 × Mem) :=
  bd2 (f_X5_isIn M x0 (0 : Int32) (9999 : Int32)) (fun r5 M5 => f_X5_isPath_11 64 M5 r5 x0)
set_option maxHeartbeats 4000000 in
set_option maxRecDepth 100000 in
theorem w_X5_isPath_0 {p : Program} {l : Launch} {e : Env} {s : State} {m : MethodId} {args : Array Value} {below : List Frame} {meth : Method} {c : Code} {Z : Zt} {b : Nat} (C : Cx p s m args c cX5_isPath RX5 Z b) (hml : c.maxLocals = 3) (hr : meth.sig.returnType = (some .boolean)) (hlk : meth.locks = false) {r' : Int32} {M' : Mem} {M : Mem} {x0 : Int32} (h : f_X5_isPath_0 M x0 = some (r', M')) {H : Heap} {locs : List Loc} {ls : Array Slot} (hS : va_S (A0 b) s.heap H locs) (hW : Wd Z b M H) (hl : lv_has ls 3 [(0, .int x0)]) : W p l e rm_X5_isPath s m args below meth c H locs 0 0 (MQ below (Qn Z b (some (.int r')) M') args s 0 0 (A0 b)) (F0 m 0 ls []) := by
  unfold f_X5_isPath_0 at h
  have hx := C.1
  have hb := C.2.1
  refine lv_iload_n hx hb dX5_isPath_0 rfl (lv_at hl 0 rfl) ?_
  refine lv_iconst (v := (0 : Int32)) hx hb dX5_isPath_1 (by decide) ?_
  refine lv_sipush (v := (9999 : Int32)) hx hb dX5_isPath_2 (by decide) ?_
  obtain ⟨r5, M5, hc5, h⟩ := bd2_e h
  refine kX5_60 C hml hl.1 (c_X5_isIn hc5) ⟨Nat.le_of_ble_eq_true rfl, Nat.le_of_ble_eq_true rfl⟩ ⟨Nat.le_of_ble_eq_true rfl, Nat.le_of_ble_eq_true rfl⟩ (Nat.le_of_ble_eq_true rfl) hS hW dX5_isPath_5 (fun H locs hW hS => ?_)
  refine lv_istore_n (lv' := [(1, .int r5), (0, .int x0)]) hx hb dX5_isPath_8 rfl hl (by decide) rfl (fun ls hl => ?_)
  refine lv_iload_n hx hb dX5_isPath_9 rfl (lv_at hl 1 rfl) ?_
  refine lv_istore_n (lv' := [(2, .int x0), (1, .int r5), (0, .int x0)]) hx hb dX5_isPath_10 rfl hl (by decide) rfl (fun ls hl => ?_)
  exact w_X5_isPath_11 C hml hr hlk 64 h hS hW (lv_sub hl [1, 0] rfl)
def f_X5_isPath (M : Mem) (x0 : Int32) : Option (Int32 × Mem) := f_X5_isPath_0 M x0
set_option maxHeartbeats 4000000 in
set_option maxRecDepth 100000 in
theorem c_X5_isPath {l : Launch} {Z : Zt} {b : Nat} {M : Mem} {x0 : Int32} {r' : Int32} {M' : Mem} (h : f_X5_isPath M x0 = some (r', M')) : Ct l yX5_isPath cX5_isPath 3 (some .boolean) rm_X5_isPath Z b [.int x0] M (some (.int r')) M' := by
  refine Met.ofW (cc := cX5_isPath) (maxL := 3) (ret := (some .boolean)) (by decide) rfl ?_
  intro p e s m args below meth c s₁ B hml hv
  obtain ⟨rfl, hE, hW⟩ := hv
  have C : Cx p s m [.int x0].toArray c cX5_isPath RX5 Z b := ⟨B.exec, B.bytes, findClass_of_methodNamed B.named, fun w hw => atoms_spec (ws := Cond.code yX5_isPath cX5_isPath 3 (some .boolean) :: wsA) B.pre w (List.mem_cons_of_mem _ hw), hE⟩
  have hl := lv_entry [.int x0] (n := 3) (Nat.le_of_ble_eq_true rfl)
  rw [lg_entry_eq]
  generalize (lg_sl [.int x0] ++ List.replicate (3 - (lg_sl [.int x0]).length) Slot.unset).toArray = ls at hl ⊢
  have hl : lv_has ls 3 [(0, .int x0)] := hl
  exact w_X5_isPath_0 C hml B.returns B.notSynchronized h va_S.rf hW hl
def f_X5_isName_0 (M : Mem) (x0 : Int32) : Option (Int32 × Mem) :=
  if x0 = 0 then some ((0 : Int32), M) else bd2 (f_X5_isPath M x0) (fun r5 M5 => if r5 = 0 then some ((0 : Int32), M5) else some ((1 : Int32), M5))
set_option maxHeartbeats 4000000 in
set_option maxRecDepth 100000 in
theorem w_X5_isName_0 {p : Program} {l : Launch} {e : Env} {s : State} {m : MethodId} {args : Array Value} {below : List Frame} {meth : Method} {c : Code} {Z : Zt} {b : Nat} (C : Cx p s m args c cX5_isName RX5 Z b) (hml : c.maxLocals = 1) (hr : meth.sig.returnType = (some .boolean)) (hlk : meth.locks = false) {r' : Int32} {M' : Mem} {M : Mem} {x0 : Int32} (h : f_X5_isName_0 M x0 = some (r', M')) {H : Heap} {locs : List Loc} {ls : Array Slot} (hS : va_S (A0 b) s.heap H locs) (hW : Wd Z b M H) (hl : lv_has ls 1 [(0, .int x0)]) : W p l e rm_X5_isName s m args below meth c H locs 0 0 (MQ below (Qn Z b (some (.int r')) M') args s 0 0 (A0 b)) (F0 m 0 ls []) := by
  unfold f_X5_isName_0 at h
  have hx := C.1
  have hb := C.2.1
  refine lv_iload_n hx hb dX5_isName_0 rfl (lv_at hl 0 rfl) ?_
  refine lv_if_eq (tgt := 15) hx hb dX5_isName_1 (by decide) (fun c1 => ?_) (fun c1 => ?_)
  · have h := (if_pos c1).symm.trans h
    refine lv_iconst (v := (0 : Int32)) hx hb dX5_isName_15 (by decide) ?_
    cases h
    exact ret_z C hr hlk (by decide) hS hW dX5_isName_16
  · have h := (if_neg c1).symm.trans h
    refine lv_iload_n hx hb dX5_isName_4 rfl (lv_at hl 0 rfl) ?_
    obtain ⟨r5, M5, hc5, h⟩ := bd2_e h
    refine kX5_64 C hml hl.1 (c_X5_isPath hc5) ⟨Nat.le_of_ble_eq_true rfl, Nat.le_of_ble_eq_true rfl⟩ ⟨Nat.le_of_ble_eq_true rfl, Nat.le_of_ble_eq_true rfl⟩ (Nat.le_of_ble_eq_true rfl) hS hW dX5_isName_5 (fun H locs hW hS => ?_)
    refine lv_if_eq (tgt := 15) hx hb dX5_isName_8 (by decide) (fun c8 => ?_) (fun c8 => ?_)
    · have h := (if_pos c8).symm.trans h
      refine lv_iconst (v := (0 : Int32)) hx hb dX5_isName_15 (by decide) ?_
      cases h
      exact ret_z C hr hlk (by decide) hS hW dX5_isName_16
    · have h := (if_neg c8).symm.trans h
      refine lv_iconst (v := (1 : Int32)) hx hb dX5_isName_11 (by decide) ?_
      refine lv_goto (tgt := 16) hx hb dX5_isName_12 (by decide) ?_
      cases h
      exact ret_z C hr hlk (by decide) hS hW dX5_isName_16
def f_X5_isName (M : Mem) (x0 : Int32) : Option (Int32 × Mem) := f_X5_isName_0 M x0
set_option maxHeartbeats 4000000 in
set_option maxRecDepth 100000 in
theorem c_X5_isName {l : Launch} {Z : Zt} {b : Nat} {M : Mem} {x0 : Int32} {r' : Int32} {M' : Mem} (h : f_X5_isName M x0 = some (r', M')) : Ct l yX5_isName cX5_isName 1 (some .boolean) rm_X5_isName Z b [.int x0] M (some (.int r')) M' := by
  refine Met.ofW (cc := cX5_isName) (maxL := 1) (ret := (some .boolean)) (by decide) rfl ?_
  intro p e s m args below meth c s₁ B hml hv
  obtain ⟨rfl, hE, hW⟩ := hv
  have C : Cx p s m [.int x0].toArray c cX5_isName RX5 Z b := ⟨B.exec, B.bytes, findClass_of_methodNamed B.named, fun w hw => atoms_spec (ws := Cond.code yX5_isName cX5_isName 1 (some .boolean) :: wsA) B.pre w (List.mem_cons_of_mem _ hw), hE⟩
  have hl := lv_entry [.int x0] (n := 1) (Nat.le_of_ble_eq_true rfl)
  rw [lg_entry_eq]
  generalize (lg_sl [.int x0] ++ List.replicate (1 - (lg_sl [.int x0]).length) Slot.unset).toArray = ls at hl ⊢
  have hl : lv_has ls 1 [(0, .int x0)] := hl
  exact w_X5_isName_0 C hml B.returns B.notSynchronized h va_S.rf hW hl
def f_X5_isClient_0 (M : Mem) (x0 : Int32) : Option (Int32 × Mem) :=
  bd2 (f_X5_isIn M x0 (0 : Int32) (3 : Int32)) (fun r3 M3 => if r3 &&& 1 = r3 then some (r3, M3) else none)
set_option maxHeartbeats 4000000 in
set_option maxRecDepth 100000 in
theorem w_X5_isClient_0 {p : Program} {l : Launch} {e : Env} {s : State} {m : MethodId} {args : Array Value} {below : List Frame} {meth : Method} {c : Code} {Z : Zt} {b : Nat} (C : Cx p s m args c cX5_isClient RX5 Z b) (hml : c.maxLocals = 1) (hr : meth.sig.returnType = (some .boolean)) (hlk : meth.locks = false) {r' : Int32} {M' : Mem} {M : Mem} {x0 : Int32} (h : f_X5_isClient_0 M x0 = some (r', M')) {H : Heap} {locs : List Loc} {ls : Array Slot} (hS : va_S (A0 b) s.heap H locs) (hW : Wd Z b M H) (hl : lv_has ls 1 [(0, .int x0)]) : W p l e rm_X5_isClient s m args below meth c H locs 0 0 (MQ below (Qn Z b (some (.int r')) M') args s 0 0 (A0 b)) (F0 m 0 ls []) := by
  unfold f_X5_isClient_0 at h
  have hx := C.1
  have hb := C.2.1
  refine lv_iload_n hx hb dX5_isClient_0 rfl (lv_at hl 0 rfl) ?_
  refine lv_iconst (v := (0 : Int32)) hx hb dX5_isClient_1 (by decide) ?_
  refine lv_iconst (v := (3 : Int32)) hx hb dX5_isClient_2 (by decide) ?_
  obtain ⟨r3, M3, hc3, h⟩ := bd2_e h
  refine kX5_60 C hml hl.1 (c_X5_isIn hc3) ⟨Nat.le_of_ble_eq_true rfl, Nat.le_of_ble_eq_true rfl⟩ ⟨Nat.le_of_ble_eq_true rfl, Nat.le_of_ble_eq_true rfl⟩ (Nat.le_of_ble_eq_true rfl) hS hW dX5_isClient_3 (fun H locs hW hS => ?_)
  obtain ⟨g6, h⟩ := gdp h
  cases h
  exact ret_z C hr hlk g6 hS hW dX5_isClient_6
def f_X5_isClient (M : Mem) (x0 : Int32) : Option (Int32 × Mem) := f_X5_isClient_0 M x0
set_option maxHeartbeats 4000000 in
set_option maxRecDepth 100000 in
theorem c_X5_isClient {l : Launch} {Z : Zt} {b : Nat} {M : Mem} {x0 : Int32} {r' : Int32} {M' : Mem} (h : f_X5_isClient M x0 = some (r', M')) : Ct l yX5_isClient cX5_isClient 1 (some .boolean) rm_X5_isClient Z b [.int x0] M (some (.int r')) M' := by
  refine Met.ofW (cc := cX5_isClient) (maxL := 1) (ret := (some .boolean)) (by decide) rfl ?_
  intro p e s m args below meth c s₁ B hml hv
  obtain ⟨rfl, hE, hW⟩ := hv
  have C : Cx p s m [.int x0].toArray c cX5_isClient RX5 Z b := ⟨B.exec, B.bytes, findClass_of_methodNamed B.named, fun w hw => atoms_spec (ws := Cond.code yX5_isClient cX5_isClient 1 (some .boolean) :: wsA) B.pre w (List.mem_cons_of_mem _ hw), hE⟩
  have hl := lv_entry [.int x0] (n := 1) (Nat.le_of_ble_eq_true rfl)
  rw [lg_entry_eq]
  generalize (lg_sl [.int x0] ++ List.replicate (1 - (lg_sl [.int x0]).length) Slot.unset).toArray = ls at hl ⊢
  have hl : lv_has ls 1 [(0, .int x0)] := hl
  exact w_X5_isClient_0 C hml B.returns B.notSynchronized h va_S.rf hW hl
def f_X5_isRight_24 (M : Mem) (xs1 : Int32) : Option (Int32 × Mem) :=
  if ((mu M 39 0 xs1) 39 0) = 0 then some ((1 : Int32), mu M 39 0 xs1) else some ((0 : Int32), mu M 39 0 xs1)
set_option maxHeartbeats 4000000 in
set_option maxRecDepth 100000 in
theorem w_X5_isRight_24 {p : Program} {l : Launch} {e : Env} {s : State} {m : MethodId} {args : Array Value} {below : List Frame} {meth : Method} {c : Code} {Z : Zt} {b : Nat} (C : Cx p s m args c cX5_isRight RX5 Z b) (hml : c.maxLocals = 4) (hr : meth.sig.returnType = (some .boolean)) (hlk : meth.locks = false) {r' : Int32} {M' : Mem} {M : Mem} {xs1 : Int32} (h : f_X5_isRight_24 M xs1 = some (r', M')) {H : Heap} {locs : List Loc} {ls : Array Slot} (hS : va_S (A0 b) s.heap H locs) (hW : Wd Z b M H) (hl : lv_has ls 4 [(0, .ref (b + 156))]) : W p l e rm_X5_isRight s m args below meth c H locs 0 0 (MQ below (Qn Z b (some (.int r')) M') args s 0 0 (A0 b)) (F0 m 24 ls [.int xs1, .ref (b + 156)]) := by
  unfold f_X5_isRight_24 at h
  have hx := C.1
  have hb := C.2.1
  refine pX5_56 C hS hW dX5_isRight_24 (fun H locs hW hS => ?_)
  refine lv_aload_n hx hb dX5_isRight_27 rfl (lv_at hl 0 rfl) ?_
  refine gX5_56 C hW dX5_isRight_28 ?_
  refine lv_if_ne (tgt := 38) hx hb dX5_isRight_31 (by decide) (fun c31 => ?_) (fun c31 => ?_)
  · have h := (if_neg c31).symm.trans h
    refine lv_iconst (v := (0 : Int32)) hx hb dX5_isRight_38 (by decide) ?_
    cases h
    exact ret_z C hr hlk (by decide) hS hW dX5_isRight_39
  · have h := (if_pos c31).symm.trans h
    refine lv_iconst (v := (1 : Int32)) hx hb dX5_isRight_34 (by decide) ?_
    refine lv_goto (tgt := 39) hx hb dX5_isRight_35 (by decide) ?_
    cases h
    exact ret_z C hr hlk (by decide) hS hW dX5_isRight_39
def f_X5_isRight_23 (M : Mem) : Option (Int32 × Mem) :=
  f_X5_isRight_24 M (1 : Int32)
set_option maxHeartbeats 4000000 in
set_option maxRecDepth 100000 in
theorem w_X5_isRight_23 {p : Program} {l : Launch} {e : Env} {s : State} {m : MethodId} {args : Array Value} {below : List Frame} {meth : Method} {c : Code} {Z : Zt} {b : Nat} (C : Cx p s m args c cX5_isRight RX5 Z b) (hml : c.maxLocals = 4) (hr : meth.sig.returnType = (some .boolean)) (hlk : meth.locks = false) {r' : Int32} {M' : Mem} {M : Mem} (h : f_X5_isRight_23 M = some (r', M')) {H : Heap} {locs : List Loc} {ls : Array Slot} (hS : va_S (A0 b) s.heap H locs) (hW : Wd Z b M H) (hl : lv_has ls 4 [(0, .ref (b + 156))]) : W p l e rm_X5_isRight s m args below meth c H locs 0 0 (MQ below (Qn Z b (some (.int r')) M') args s 0 0 (A0 b)) (F0 m 23 ls [.ref (b + 156)]) := by
  unfold f_X5_isRight_23 at h
  have hx := C.1
  have hb := C.2.1
  refine lv_iconst (v := (1 : Int32)) hx hb dX5_isRight_23 (by decide) ?_
  exact w_X5_isRight_24 C hml hr hlk h hS hW (lv_sub hl [0] rfl)
def f_X5_isRight_0 (M : Mem) (x1 : Int32) (x2 : Int32) (x3 : Int32) : Option (Int32 × Mem) :=
  bd2 (f_X5_isClient M x1) (fun r2 M2 => if r2 = 0 then f_X5_isRight_23 M2 else bd2 (f_X5_isName M2 x2) (fun r9 M9 => if r9 = 0 then f_X5_isRight_23 M9 else if x3 < 0 then f_X5_isRight_23 M9 else f_X5_isRight_24 M9 (0 : Int32)))
set_option maxHeartbeats 4000000 in
set_option maxRecDepth 100000 in
theorem w_X5_isRight_0 {p : Program} {l : Launch} {e : Env} {s : State} {m : MethodId} {args : Array Value} {below : List Frame} {meth : Method} {c : Code} {Z : Zt} {b : Nat} (C : Cx p s m args c cX5_isRight RX5 Z b) (hml : c.maxLocals = 4) (hr : meth.sig.returnType = (some .boolean)) (hlk : meth.locks = false) {r' : Int32} {M' : Mem} {M : Mem} {x1 : Int32} {x2 : Int32} {x3 : Int32} (h : f_X5_isRight_0 M x1 x2 x3 = some (r', M')) {H : Heap} {locs : List Loc} {ls : Array Slot} (hS : va_S (A0 b) s.heap H locs) (hW : Wd Z b M H) (hl : lv_has ls 4 [(0, .ref (b + 156)), (1, .int x1), (2, .int x2), (3, .int x3)]) : W p l e rm_X5_isRight s m args below meth c H locs 0 0 (MQ below (Qn Z b (some (.int r')) M') args s 0 0 (A0 b)) (F0 m 0 ls []) := by
  unfold f_X5_isRight_0 at h
  have hx := C.1
  have hb := C.2.1
  refine lv_aload_n hx hb dX5_isRight_0 rfl (lv_at hl 0 rfl) ?_
  refine lv_iload_n hx hb dX5_isRight_1 rfl (lv_at hl 1 rfl) ?_
  obtain ⟨r2, M2, hc2, h⟩ := bd2_e h
  refine kX5_68 C hml hl.1 (c_X5_isClient hc2) ⟨Nat.le_of_ble_eq_true rfl, Nat.le_of_ble_eq_true rfl⟩ ⟨Nat.le_of_ble_eq_true rfl, Nat.le_of_ble_eq_true rfl⟩ (Nat.le_of_ble_eq_true rfl) hS hW dX5_isRight_2 (fun H locs hW hS => ?_)
  refine lv_if_eq (tgt := 23) hx hb dX5_isRight_5 (by decide) (fun c5 => ?_) (fun c5 => ?_)
  · have h := (if_pos c5).symm.trans h
    exact w_X5_isRight_23 C hml hr hlk h hS hW (lv_sub hl [0] rfl)
  · have h := (if_neg c5).symm.trans h
    refine lv_iload_n hx hb dX5_isRight_8 rfl (lv_at hl 2 rfl) ?_
    obtain ⟨r9, M9, hc9, h⟩ := bd2_e h
    refine kX5_71 C hml hl.1 (c_X5_isName hc9) ⟨Nat.le_of_ble_eq_true rfl, Nat.le_of_ble_eq_true rfl⟩ ⟨Nat.le_of_ble_eq_true rfl, Nat.le_of_ble_eq_true rfl⟩ (Nat.le_of_ble_eq_true rfl) hS hW dX5_isRight_9 (fun H locs hW hS => ?_)
    refine lv_if_eq (tgt := 23) hx hb dX5_isRight_12 (by decide) (fun c12 => ?_) (fun c12 => ?_)
    · have h := (if_pos c12).symm.trans h
      exact w_X5_isRight_23 C hml hr hlk h hS hW (lv_sub hl [0] rfl)
    · have h := (if_neg c12).symm.trans h
      refine lv_iload_n hx hb dX5_isRight_15 rfl (lv_at hl 3 rfl) ?_
      refine lv_if_lt (tgt := 23) hx hb dX5_isRight_16 (by decide) (fun c16 => ?_) (fun c16 => ?_)
      · have h := (if_pos c16).symm.trans h
        exact w_X5_isRight_23 C hml hr hlk h hS hW (lv_sub hl [0] rfl)
      · have h := (if_neg c16).symm.trans h
        refine lv_iconst (v := (0 : Int32)) hx hb dX5_isRight_19 (by decide) ?_
        refine lv_goto (tgt := 24) hx hb dX5_isRight_20 (by decide) ?_
        exact w_X5_isRight_24 C hml hr hlk h hS hW (lv_sub hl [0] rfl)
def f_X5_isRight (M : Mem) (x1 : Int32) (x2 : Int32) (x3 : Int32) : Option (Int32 × Mem) := f_X5_isRight_0 M x1 x2 x3
set_option maxHeartbeats 4000000 in
set_option maxRecDepth 100000 in
theorem c_X5_isRight {l : Launch} {Z : Zt} {b : Nat} {M : Mem} {x1 : Int32} {x2 : Int32} {x3 : Int32} {r' : Int32} {M' : Mem} (h : f_X5_isRight M x1 x2 x3 = some (r', M')) : Ct l yX5_isRight cX5_isRight 4 (some .boolean) rm_X5_isRight Z b [.ref (b + 156), .int x1, .int x2, .int x3] M (some (.int r')) M' := by
  refine Met.ofW (cc := cX5_isRight) (maxL := 4) (ret := (some .boolean)) (by decide) rfl ?_
  intro p e s m args below meth c s₁ B hml hv
  obtain ⟨rfl, hE, hW⟩ := hv
  have C : Cx p s m [.ref (b + 156), .int x1, .int x2, .int x3].toArray c cX5_isRight RX5 Z b := ⟨B.exec, B.bytes, findClass_of_methodNamed B.named, fun w hw => atoms_spec (ws := Cond.code yX5_isRight cX5_isRight 4 (some .boolean) :: wsA) B.pre w (List.mem_cons_of_mem _ hw), hE⟩
  have hl := lv_entry [.ref (b + 156), .int x1, .int x2, .int x3] (n := 4) (Nat.le_of_ble_eq_true rfl)
  rw [lg_entry_eq]
  generalize (lg_sl [.ref (b + 156), .int x1, .int x2, .int x3] ++ List.replicate (4 - (lg_sl [.ref (b + 156), .int x1, .int x2, .int x3]).length) Slot.unset).toArray = ls at hl ⊢
  have hl : lv_has ls 4 [(0, .ref (b + 156)), (1, .int x1), (2, .int x2), (3, .int x3)] := hl
  exact w_X5_isRight_0 C hml B.returns B.notSynchronized h va_S.rf hW hl
def f_X5_place_34 (K4 : Mem → Int32 → Int32 → Int32 → Option (Int32 × Mem)) (M : Mem) (x1 : Int32) (x3 : Int32) (xs0 : Int32) : Option (Int32 × Mem) :=
  K4 M x1 xs0 (x3 + 1)
set_option maxHeartbeats 4000000 in
set_option maxRecDepth 100000 in
theorem w_X5_place_34 {p : Program} {l : Launch} {e : Env} {s : State} {m : MethodId} {args : Array Value} {below : List Frame} {meth : Method} {c : Code} {Z : Zt} {b : Nat} (C : Cx p s m args c cX5_place RX5 Z b) (hml : c.maxLocals = 4) (hr : meth.sig.returnType = (some .int)) (hlk : meth.locks = false) {r' : Int32} {M' : Mem} {K4 : Mem → Int32 → Int32 → Int32 → Option (Int32 × Mem)} (hK4 : ∀ {M : Mem} {x1 : Int32} {x2 : Int32} {x3 : Int32} (h : K4 M x1 x2 x3 = some (r', M')) {H : Heap} {locs : List Loc} {ls : Array Slot} (hS : va_S (A0 b) s.heap H locs) (hW : Wd Z b M H) (hl : lv_has ls 4 [(0, .ref (b + 156)), (1, .int x1), (2, .int x2), (3, .int x3)]), W p l e rm_X5_place s m args below meth c H locs 0 0 (MQ below (Qn Z b (some (.int r')) M') args s 0 0 (A0 b)) (F0 m 4 ls [])) {M : Mem} {x1 : Int32} {x3 : Int32} {xs0 : Int32} (h : f_X5_place_34 K4 M x1 x3 xs0 = some (r', M')) {H : Heap} {locs : List Loc} {ls : Array Slot} (hS : va_S (A0 b) s.heap H locs) (hW : Wd Z b M H) (hl : lv_has ls 4 [(0, .ref (b + 156)), (1, .int x1), (3, .int x3)]) : W p l e rm_X5_place s m args below meth c H locs 0 0 (MQ below (Qn Z b (some (.int r')) M') args s 0 0 (A0 b)) (F0 m 34 ls [.int xs0]) := by
  unfold f_X5_place_34 at h
  have hx := C.1
  have hb := C.2.1
  refine lv_istore_n (lv' := [(2, .int xs0), (0, .ref (b + 156)), (1, .int x1), (3, .int x3)]) hx hb dX5_place_34 rfl hl (by decide) rfl (fun ls hl => ?_)
  refine lv_iinc (v := x3 + 1) (lv' := [(3, .int (x3 + 1)), (2, .int xs0), (0, .ref (b + 156)), (1, .int x1)]) hx hb dX5_place_35 hl (k := 3) rfl rfl (by decide) rfl (fun ls hl => ?_)
  refine lv_goto (tgt := 4) hx hb dX5_place_38 (by decide) ?_
  exact hK4 h hS hW (lv_sub hl [2, 3, 1, 0] rfl)
def f_X5_place_33 (K4 : Mem → Int32 → Int32 → Int32 → Option (Int32 × Mem)) (M : Mem) (x1 : Int32) (x2 : Int32) (x3 : Int32) : Option (Int32 × Mem) :=
  f_X5_place_34 K4 M x1 x3 x2
set_option maxHeartbeats 4000000 in
set_option maxRecDepth 100000 in
theorem w_X5_place_33 {p : Program} {l : Launch} {e : Env} {s : State} {m : MethodId} {args : Array Value} {below : List Frame} {meth : Method} {c : Code} {Z : Zt} {b : Nat} (C : Cx p s m args c cX5_place RX5 Z b) (hml : c.maxLocals = 4) (hr : meth.sig.returnType = (some .int)) (hlk : meth.locks = false) {r' : Int32} {M' : Mem} {K4 : Mem → Int32 → Int32 → Int32 → Option (Int32 × Mem)} (hK4 : ∀ {M : Mem} {x1 : Int32} {x2 : Int32} {x3 : Int32} (h : K4 M x1 x2 x3 = some (r', M')) {H : Heap} {locs : List Loc} {ls : Array Slot} (hS : va_S (A0 b) s.heap H locs) (hW : Wd Z b M H) (hl : lv_has ls 4 [(0, .ref (b + 156)), (1, .int x1), (2, .int x2), (3, .int x3)]), W p l e rm_X5_place s m args below meth c H locs 0 0 (MQ below (Qn Z b (some (.int r')) M') args s 0 0 (A0 b)) (F0 m 4 ls [])) {M : Mem} {x1 : Int32} {x2 : Int32} {x3 : Int32} (h : f_X5_place_33 K4 M x1 x2 x3 = some (r', M')) {H : Heap} {locs : List Loc} {ls : Array Slot} (hS : va_S (A0 b) s.heap H locs) (hW : Wd Z b M H) (hl : lv_has ls 4 [(0, .ref (b + 156)), (1, .int x1), (2, .int x2), (3, .int x3)]) : W p l e rm_X5_place s m args below meth c H locs 0 0 (MQ below (Qn Z b (some (.int r')) M') args s 0 0 (A0 b)) (F0 m 33 ls []) := by
  unfold f_X5_place_33 at h
  have hx := C.1
  have hb := C.2.1
  refine lv_iload_n hx hb dX5_place_33 rfl (lv_at hl 2 rfl) ?_
  exact w_X5_place_34 C hml hr hlk hK4 h hS hW (lv_sub hl [0, 1, 3] rfl)
def f_X5_place_4B (K4 : Mem → Int32 → Int32 → Int32 → Option (Int32 × Mem)) (M : Mem) (x1 : Int32) (x2 : Int32) (x3 : Int32) : Option (Int32 × Mem) :=
  if (60 : Int32) ≤ x3 then some (x2, M) else if x3 < 0 ∨ 60 ≤ x3.toNatClampNeg then none else if (M 20 x3.toNatClampNeg) = 0 then f_X5_place_33 K4 M x1 x2 x3 else if x3 < 0 ∨ 60 ≤ x3.toNatClampNeg then none else if (M 21 x3.toNatClampNeg) = x1 then f_X5_place_34 K4 M x1 x3 x3 else f_X5_place_33 K4 M x1 x2 x3
def f_X5_place_4 : Nat → Mem → Int32 → Int32 → Int32 → Option (Int32 × Mem)
  | 0 => fun _ _ _ _ => none
  | n + 1 => f_X5_place_4B (f_X5_place_4 n)
set_option maxHeartbeats 4000000 in
set_option maxRecDepth 100000 in
theorem w_X5_place_4 {p : Program} {l : Launch} {e : Env} {s : State} {m : MethodId} {args : Array Value} {below : List Frame} {meth : Method} {c : Code} {Z : Zt} {b : Nat} (C : Cx p s m args c cX5_place RX5 Z b) (hml : c.maxLocals = 4) (hr : meth.sig.returnType = (some .int)) (hlk : meth.locks = false) {r' : Int32} {M' : Mem} : ∀ (n : Nat) {M : Mem} {x1 : Int32} {x2 : Int32} {x3 : Int32} (h : f_X5_place_4 n M x1 x2 x3 = some (r', M')) {H : Heap} {locs : List Loc} {ls : Array Slot} (hS : va_S (A0 b) s.heap H locs) (hW : Wd Z b M H) (hl : lv_has ls 4 [(0, .ref (b + 156)), (1, .int x1), (2, .int x2), (3, .int x3)]), W p l e rm_X5_place s m args below meth c H locs 0 0 (MQ below (Qn Z b (some (.int r')) M') args s 0 0 (A0 b)) (F0 m 4 ls []) := by
  intro n
  induction n with
  | zero =>
    intro M x1 x2 x3 h
    cases h
  | succ n ih =>
    intro M x1 x2 x3 h H locs ls hS hW hl
    have h : f_X5_place_4B (f_X5_place_4 n) M x1 x2 x3 = some (r', M') := h
    unfold f_X5_place_4B at h
    have hK4 := @ih
    have hx := C.1
    have hb := C.2.1
    refine lv_iload_n hx hb dX5_place_4 rfl (lv_at hl 3 rfl) ?_
    refine lv_bipush (v := (60 : Int32)) hx hb dX5_place_5 (by decide) ?_
    refine lv_icmp_ge (tgt := 41) hx hb dX5_place_7 (by decide) (fun c7 => ?_) (fun c7 => ?_)
    · have h := (if_pos c7).symm.trans h
      refine lv_iload_n hx hb dX5_place_41 rfl (lv_at hl 2 rfl) ?_
      cases h
      exact ret_i C hr hlk hS hW dX5_place_42
    · have h := (if_neg c7).symm.trans h
      refine lv_aload_n hx hb dX5_place_10 rfl (lv_at hl 0 rfl) ?_
      refine gX5_7 C hW dX5_place_11 ?_
      refine lv_iload_n hx hb dX5_place_14 rfl (lv_at hl 3 rfl) ?_
      obtain ⟨g15, h⟩ := gd h
      refine ald_157 C hW g15 dX5_place_15 ?_
      refine lv_if_eq (tgt := 33) hx hb dX5_place_16 (by decide) (fun c16 => ?_) (fun c16 => ?_)
      · have h := (if_pos c16).symm.trans h
        exact w_X5_place_33 C hml hr hlk hK4 h hS hW (lv_sub hl [0, 1, 2, 3] rfl)
      · have h := (if_neg c16).symm.trans h
        refine lv_aload_n hx hb dX5_place_19 rfl (lv_at hl 0 rfl) ?_
        refine gX5_13 C hW dX5_place_20 ?_
        refine lv_iload_n hx hb dX5_place_23 rfl (lv_at hl 3 rfl) ?_
        obtain ⟨g24, h⟩ := gd h
        refine ald_158 C hW g24 dX5_place_24 ?_
        refine lv_iload_n hx hb dX5_place_25 rfl (lv_at hl 1 rfl) ?_
        refine lv_icmp_ne (tgt := 33) hx hb dX5_place_26 (by decide) (fun c26 => ?_) (fun c26 => ?_)
        · have h := (if_neg c26).symm.trans h
          exact w_X5_place_33 C hml hr hlk hK4 h hS hW (lv_sub hl [0, 1, 2, 3] rfl)
        · have h := (if_pos c26).symm.trans h
          refine lv_iload_n hx hb dX5_place_29 rfl (lv_at hl 3 rfl) ?_
          refine lv_goto (tgt := 34) hx hb dX5_place_30 (by decide) ?_
          exact w_X5_place_34 C hml hr hlk hK4 h hS hW (lv_sub hl [0, 1, 3] rfl)
def f_X5_place_0 (M : Mem) (x1 : Int32) : Option (Int32 × Mem) :=
  f_X5_place_4 64 M x1 (-1 : Int32) (0 : Int32)
set_option maxHeartbeats 4000000 in
set_option maxRecDepth 100000 in
theorem w_X5_place_0 {p : Program} {l : Launch} {e : Env} {s : State} {m : MethodId} {args : Array Value} {below : List Frame} {meth : Method} {c : Code} {Z : Zt} {b : Nat} (C : Cx p s m args c cX5_place RX5 Z b) (hml : c.maxLocals = 4) (hr : meth.sig.returnType = (some .int)) (hlk : meth.locks = false) {r' : Int32} {M' : Mem} {M : Mem} {x1 : Int32} (h : f_X5_place_0 M x1 = some (r', M')) {H : Heap} {locs : List Loc} {ls : Array Slot} (hS : va_S (A0 b) s.heap H locs) (hW : Wd Z b M H) (hl : lv_has ls 4 [(0, .ref (b + 156)), (1, .int x1)]) : W p l e rm_X5_place s m args below meth c H locs 0 0 (MQ below (Qn Z b (some (.int r')) M') args s 0 0 (A0 b)) (F0 m 0 ls []) := by
  unfold f_X5_place_0 at h
  have hx := C.1
  have hb := C.2.1
  refine lv_iconst (v := (-1 : Int32)) hx hb dX5_place_0 (by decide) ?_
  refine lv_istore_n (lv' := [(2, .int (-1 : Int32)), (0, .ref (b + 156)), (1, .int x1)]) hx hb dX5_place_1 rfl hl (by decide) rfl (fun ls hl => ?_)
  refine lv_iconst (v := (0 : Int32)) hx hb dX5_place_2 (by decide) ?_
  refine lv_istore_n (lv' := [(3, .int (0 : Int32)), (2, .int (-1 : Int32)), (0, .ref (b + 156)), (1, .int x1)]) hx hb dX5_place_3 rfl hl (by decide) rfl (fun ls hl => ?_)
  exact w_X5_place_4 C hml hr hlk 64 h hS hW (lv_sub hl [2, 3, 1, 0] rfl)
def f_X5_place (M : Mem) (x1 : Int32) : Option (Int32 × Mem) := f_X5_place_0 M x1
set_option maxHeartbeats 4000000 in
set_option maxRecDepth 100000 in
theorem c_X5_place {l : Launch} {Z : Zt} {b : Nat} {M : Mem} {x1 : Int32} {r' : Int32} {M' : Mem} (h : f_X5_place M x1 = some (r', M')) : Ct l yX5_place cX5_place 4 (some .int) rm_X5_place Z b [.ref (b + 156), .int x1] M (some (.int r')) M' := by
  refine Met.ofW (cc := cX5_place) (maxL := 4) (ret := (some .int)) (by decide) rfl ?_
  intro p e s m args below meth c s₁ B hml hv
  obtain ⟨rfl, hE, hW⟩ := hv
  have C : Cx p s m [.ref (b + 156), .int x1].toArray c cX5_place RX5 Z b := ⟨B.exec, B.bytes, findClass_of_methodNamed B.named, fun w hw => atoms_spec (ws := Cond.code yX5_place cX5_place 4 (some .int) :: wsA) B.pre w (List.mem_cons_of_mem _ hw), hE⟩
  have hl := lv_entry [.ref (b + 156), .int x1] (n := 4) (Nat.le_of_ble_eq_true rfl)
  rw [lg_entry_eq]
  generalize (lg_sl [.ref (b + 156), .int x1] ++ List.replicate (4 - (lg_sl [.ref (b + 156), .int x1]).length) Slot.unset).toArray = ls at hl ⊢
  have hl : lv_has ls 4 [(0, .ref (b + 156)), (1, .int x1)] := hl
  exact w_X5_place_0 C hml B.returns B.notSynchronized h va_S.rf hW hl
def f_X5_kinds_0 (M : Mem) (x1 : Int32) : Option (Int32 × Mem) :=
  bd2 (f_X5_place M x1) (fun r2 M2 => if x1 = 0 then some ((2 : Int32), M2) else if 0 ≤ r2 then (if r2 < 0 ∨ 60 ≤ r2.toNatClampNeg then none else some (M2 22 r2.toNatClampNeg, M2)) else some ((-1 : Int32), M2))
set_option maxHeartbeats 4000000 in
set_option maxRecDepth 100000 in
theorem w_X5_kinds_0 {p : Program} {l : Launch} {e : Env} {s : State} {m : MethodId} {args : Array Value} {below : List Frame} {meth : Method} {c : Code} {Z : Zt} {b : Nat} (C : Cx p s m args c cX5_kinds RX5 Z b) (hml : c.maxLocals = 3) (hr : meth.sig.returnType = (some .int)) (hlk : meth.locks = false) {r' : Int32} {M' : Mem} {M : Mem} {x1 : Int32} (h : f_X5_kinds_0 M x1 = some (r', M')) {H : Heap} {locs : List Loc} {ls : Array Slot} (hS : va_S (A0 b) s.heap H locs) (hW : Wd Z b M H) (hl : lv_has ls 3 [(0, .ref (b + 156)), (1, .int x1)]) : W p l e rm_X5_kinds s m args below meth c H locs 0 0 (MQ below (Qn Z b (some (.int r')) M') args s 0 0 (A0 b)) (F0 m 0 ls []) := by
  unfold f_X5_kinds_0 at h
  have hx := C.1
  have hb := C.2.1
  refine lv_aload_n hx hb dX5_kinds_0 rfl (lv_at hl 0 rfl) ?_
  refine lv_iload_n hx hb dX5_kinds_1 rfl (lv_at hl 1 rfl) ?_
  obtain ⟨r2, M2, hc2, h⟩ := bd2_e h
  refine kX5_74 C hml hl.1 (c_X5_place hc2) ⟨Nat.le_of_ble_eq_true rfl, Nat.le_of_ble_eq_true rfl⟩ ⟨Nat.le_of_ble_eq_true rfl, Nat.le_of_ble_eq_true rfl⟩ (Nat.le_of_ble_eq_true rfl) hS hW dX5_kinds_2 (fun H locs hW hS => ?_)
  refine lv_istore_n (lv' := [(2, .int r2), (0, .ref (b + 156)), (1, .int x1)]) hx hb dX5_kinds_5 rfl hl (by decide) rfl (fun ls hl => ?_)
  refine lv_iload_n hx hb dX5_kinds_6 rfl (lv_at hl 2 rfl) ?_
  refine lv_if_ne (tgt := 14) hx hb dX5_kinds_7 (by decide) (fun c7 => ?_) (fun c7 => ?_)
  · have h := (if_neg c7).symm.trans h
    refine lv_iload_n hx hb dX5_kinds_14 rfl (lv_at hl 0 rfl) ?_
    refine lv_if_ge (tgt := 22) hx hb dX5_kinds_15 (by decide) (fun c15 => ?_) (fun c15 => ?_)
    · have h := (if_pos c15).symm.trans h
      refine lv_aload_n hx hb dX5_kinds_22 rfl (lv_at hl 1 rfl) ?_
      refine gX5_17 C hW dX5_kinds_23 ?_
      refine lv_iload_n hx hb dX5_kinds_26 rfl (lv_at hl 0 rfl) ?_
      obtain ⟨g27, h⟩ := gd h
      refine ald_159 C hW g27 dX5_kinds_27 ?_
      cases h
      exact ret_i C hr hlk hS hW dX5_kinds_28
    · have h := (if_neg c15).symm.trans h
      refine lv_iconst (v := (-1 : Int32)) hx hb dX5_kinds_18 (by decide) ?_
      refine lv_goto (tgt := 28) hx hb dX5_kinds_19 (by decide) ?_
      cases h
      exact ret_i C hr hlk hS hW dX5_kinds_28
  · have h := (if_pos c7).symm.trans h
    refine lv_iconst (v := (2 : Int32)) hx hb dX5_kinds_10 (by decide) ?_
    refine lv_goto (tgt := 28) hx hb dX5_kinds_11 (by decide) ?_
    cases h
    exact ret_i C hr hlk hS hW dX5_kinds_28
def f_X5_kinds (M : Mem) (x1 : Int32) : Option (Int32 × Mem) := f_X5_kinds_0 M x1
set_option maxHeartbeats 4000000 in
set_option maxRecDepth 100000 in
theorem c_X5_kinds {l : Launch} {Z : Zt} {b : Nat} {M : Mem} {x1 : Int32} {r' : Int32} {M' : Mem} (h : f_X5_kinds M x1 = some (r', M')) : Ct l yX5_kinds cX5_kinds 3 (some .int) rm_X5_kinds Z b [.ref (b + 156), .int x1] M (some (.int r')) M' := by
  refine Met.ofW (cc := cX5_kinds) (maxL := 3) (ret := (some .int)) (by decide) rfl ?_
  intro p e s m args below meth c s₁ B hml hv
  obtain ⟨rfl, hE, hW⟩ := hv
  have C : Cx p s m [.ref (b + 156), .int x1].toArray c cX5_kinds RX5 Z b := ⟨B.exec, B.bytes, findClass_of_methodNamed B.named, fun w hw => atoms_spec (ws := Cond.code yX5_kinds cX5_kinds 3 (some .int) :: wsA) B.pre w (List.mem_cons_of_mem _ hw), hE⟩
  have hl := lv_entry [.ref (b + 156), .int x1] (n := 3) (Nat.le_of_ble_eq_true rfl)
  rw [lg_entry_eq]
  generalize (lg_sl [.ref (b + 156), .int x1] ++ List.replicate (3 - (lg_sl [.ref (b + 156), .int x1]).length) Slot.unset).toArray = ls at hl ⊢
  have hl : lv_has ls 3 [(0, .ref (b + 156)), (1, .int x1)] := hl
  exact w_X5_kinds_0 C hml B.returns B.notSynchronized h va_S.rf hW hl
def f_X5_count_25 (K4 : Mem → Int32 → Int32 → Option (Int32 × Mem)) (M : Mem) (x2 : Int32) (xs0 : Int32) (xs1 : Int32) : Option (Int32 × Mem) :=
  K4 M (xs0 + xs1) (x2 + 1)
set_option maxHeartbeats 4000000 in
set_option maxRecDepth 100000 in
theorem w_X5_count_25 {p : Program} {l : Launch} {e : Env} {s : State} {m : MethodId} {args : Array Value} {below : List Frame} {meth : Method} {c : Code} {Z : Zt} {b : Nat} (C : Cx p s m args c cX5_count RX5 Z b) (hml : c.maxLocals = 3) (hr : meth.sig.returnType = (some .int)) (hlk : meth.locks = false) {r' : Int32} {M' : Mem} {K4 : Mem → Int32 → Int32 → Option (Int32 × Mem)} (hK4 : ∀ {M : Mem} {x1 : Int32} {x2 : Int32} (h : K4 M x1 x2 = some (r', M')) {H : Heap} {locs : List Loc} {ls : Array Slot} (hS : va_S (A0 b) s.heap H locs) (hW : Wd Z b M H) (hl : lv_has ls 3 [(0, .ref (b + 156)), (1, .int x1), (2, .int x2)]), W p l e rm_X5_count s m args below meth c H locs 0 0 (MQ below (Qn Z b (some (.int r')) M') args s 0 0 (A0 b)) (F0 m 4 ls [])) {M : Mem} {x2 : Int32} {xs0 : Int32} {xs1 : Int32} (h : f_X5_count_25 K4 M x2 xs0 xs1 = some (r', M')) {H : Heap} {locs : List Loc} {ls : Array Slot} (hS : va_S (A0 b) s.heap H locs) (hW : Wd Z b M H) (hl : lv_has ls 3 [(0, .ref (b + 156)), (2, .int x2)]) : W p l e rm_X5_count s m args below meth c H locs 0 0 (MQ below (Qn Z b (some (.int r')) M') args s 0 0 (A0 b)) (F0 m 25 ls [.int xs1, .int xs0]) := by
  unfold f_X5_count_25 at h
  have hx := C.1
  have hb := C.2.1
  refine lv_iadd hx hb dX5_count_25 ?_
  refine lv_istore_n (lv' := [(1, .int (xs0 + xs1)), (0, .ref (b + 156)), (2, .int x2)]) hx hb dX5_count_26 rfl hl (by decide) rfl (fun ls hl => ?_)
  refine lv_iinc (v := x2 + 1) (lv' := [(2, .int (x2 + 1)), (1, .int (xs0 + xs1)), (0, .ref (b + 156))]) hx hb dX5_count_27 hl (k := 2) rfl rfl (by decide) rfl (fun ls hl => ?_)
  refine lv_goto (tgt := 4) hx hb dX5_count_30 (by decide) ?_
  exact hK4 h hS hW (lv_sub hl [2, 1, 0] rfl)
def f_X5_count_4B (K4 : Mem → Int32 → Int32 → Option (Int32 × Mem)) (M : Mem) (x1 : Int32) (x2 : Int32) : Option (Int32 × Mem) :=
  if (60 : Int32) ≤ x2 then some (x1, M) else if x2 < 0 ∨ 60 ≤ x2.toNatClampNeg then none else if (M 20 x2.toNatClampNeg) = 0 then f_X5_count_25 K4 M x2 x1 (0 : Int32) else f_X5_count_25 K4 M x2 x1 (1 : Int32)
def f_X5_count_4 : Nat → Mem → Int32 → Int32 → Option (Int32 × Mem)
  | 0 => fun _ _ _ => none
  | n + 1 => f_X5_count_4B (f_X5_count_4 n)
set_option maxHeartbeats 4000000 in
set_option maxRecDepth 100000 in
theorem w_X5_count_4 {p : Program} {l : Launch} {e : Env} {s : State} {m : MethodId} {args : Array Value} {below : List Frame} {meth : Method} {c : Code} {Z : Zt} {b : Nat} (C : Cx p s m args c cX5_count RX5 Z b) (hml : c.maxLocals = 3) (hr : meth.sig.returnType = (some .int)) (hlk : meth.locks = false) {r' : Int32} {M' : Mem} : ∀ (n : Nat) {M : Mem} {x1 : Int32} {x2 : Int32} (h : f_X5_count_4 n M x1 x2 = some (r', M')) {H : Heap} {locs : List Loc} {ls : Array Slot} (hS : va_S (A0 b) s.heap H locs) (hW : Wd Z b M H) (hl : lv_has ls 3 [(0, .ref (b + 156)), (1, .int x1), (2, .int x2)]), W p l e rm_X5_count s m args below meth c H locs 0 0 (MQ below (Qn Z b (some (.int r')) M') args s 0 0 (A0 b)) (F0 m 4 ls []) := by
  intro n
  induction n with
  | zero =>
    intro M x1 x2 h
    cases h
  | succ n ih =>
    intro M x1 x2 h H locs ls hS hW hl
    have h : f_X5_count_4B (f_X5_count_4 n) M x1 x2 = some (r', M') := h
    unfold f_X5_count_4B at h
    have hK4 := @ih
    have hx := C.1
    have hb := C.2.1
    refine lv_iload_n hx hb dX5_count_4 rfl (lv_at hl 2 rfl) ?_
    refine lv_bipush (v := (60 : Int32)) hx hb dX5_count_5 (by decide) ?_
    refine lv_icmp_ge (tgt := 33) hx hb dX5_count_7 (by decide) (fun c7 => ?_) (fun c7 => ?_)
    · have h := (if_pos c7).symm.trans h
      refine lv_iload_n hx hb dX5_count_33 rfl (lv_at hl 1 rfl) ?_
      cases h
      exact ret_i C hr hlk hS hW dX5_count_34
    · have h := (if_neg c7).symm.trans h
      refine lv_iload_n hx hb dX5_count_10 rfl (lv_at hl 1 rfl) ?_
      refine lv_aload_n hx hb dX5_count_11 rfl (lv_at hl 0 rfl) ?_
      refine gX5_7 C hW dX5_count_12 ?_
      refine lv_iload_n hx hb dX5_count_15 rfl (lv_at hl 2 rfl) ?_
      obtain ⟨g16, h⟩ := gd h
      refine ald_157 C hW g16 dX5_count_16 ?_
      refine lv_if_eq (tgt := 24) hx hb dX5_count_17 (by decide) (fun c17 => ?_) (fun c17 => ?_)
      · have h := (if_pos c17).symm.trans h
        refine lv_iconst (v := (0 : Int32)) hx hb dX5_count_24 (by decide) ?_
        exact w_X5_count_25 C hml hr hlk hK4 h hS hW (lv_sub hl [0, 2] rfl)
      · have h := (if_neg c17).symm.trans h
        refine lv_iconst (v := (1 : Int32)) hx hb dX5_count_20 (by decide) ?_
        refine lv_goto (tgt := 25) hx hb dX5_count_21 (by decide) ?_
        exact w_X5_count_25 C hml hr hlk hK4 h hS hW (lv_sub hl [0, 2] rfl)
def f_X5_count_0 (M : Mem) : Option (Int32 × Mem) :=
  f_X5_count_4 64 M (0 : Int32) (0 : Int32)
set_option maxHeartbeats 4000000 in
set_option maxRecDepth 100000 in
theorem w_X5_count_0 {p : Program} {l : Launch} {e : Env} {s : State} {m : MethodId} {args : Array Value} {below : List Frame} {meth : Method} {c : Code} {Z : Zt} {b : Nat} (C : Cx p s m args c cX5_count RX5 Z b) (hml : c.maxLocals = 3) (hr : meth.sig.returnType = (some .int)) (hlk : meth.locks = false) {r' : Int32} {M' : Mem} {M : Mem} (h : f_X5_count_0 M = some (r', M')) {H : Heap} {locs : List Loc} {ls : Array Slot} (hS : va_S (A0 b) s.heap H locs) (hW : Wd Z b M H) (hl : lv_has ls 3 [(0, .ref (b + 156))]) : W p l e rm_X5_count s m args below meth c H locs 0 0 (MQ below (Qn Z b (some (.int r')) M') args s 0 0 (A0 b)) (F0 m 0 ls []) := by
  unfold f_X5_count_0 at h
  have hx := C.1
  have hb := C.2.1
  refine lv_iconst (v := (0 : Int32)) hx hb dX5_count_0 (by decide) ?_
  refine lv_istore_n (lv' := [(1, .int (0 : Int32)), (0, .ref (b + 156))]) hx hb dX5_count_1 rfl hl (by decide) rfl (fun ls hl => ?_)
  refine lv_iconst (v := (0 : Int32)) hx hb dX5_count_2 (by decide) ?_
  refine lv_istore_n (lv' := [(2, .int (0 : Int32)), (1, .int (0 : Int32)), (0, .ref (b + 156))]) hx hb dX5_count_3 rfl hl (by decide) rfl (fun ls hl => ?_)
  exact w_X5_count_4 C hml hr hlk 64 h hS hW (lv_sub hl [2, 1, 0] rfl)
def f_X5_count (M : Mem) : Option (Int32 × Mem) := f_X5_count_0 M
set_option maxHeartbeats 4000000 in
set_option maxRecDepth 100000 in
theorem c_X5_count {l : Launch} {Z : Zt} {b : Nat} {M : Mem} {r' : Int32} {M' : Mem} (h : f_X5_count M = some (r', M')) : Ct l yX5_count cX5_count 3 (some .int) rm_X5_count Z b [.ref (b + 156)] M (some (.int r')) M' := by
  refine Met.ofW (cc := cX5_count) (maxL := 3) (ret := (some .int)) (by decide) rfl ?_
  intro p e s m args below meth c s₁ B hml hv
  obtain ⟨rfl, hE, hW⟩ := hv
  have C : Cx p s m [.ref (b + 156)].toArray c cX5_count RX5 Z b := ⟨B.exec, B.bytes, findClass_of_methodNamed B.named, fun w hw => atoms_spec (ws := Cond.code yX5_count cX5_count 3 (some .int) :: wsA) B.pre w (List.mem_cons_of_mem _ hw), hE⟩
  have hl := lv_entry [.ref (b + 156)] (n := 3) (Nat.le_of_ble_eq_true rfl)
  rw [lg_entry_eq]
  generalize (lg_sl [.ref (b + 156)] ++ List.replicate (3 - (lg_sl [.ref (b + 156)]).length) Slot.unset).toArray = ls at hl ⊢
  have hl : lv_has ls 3 [(0, .ref (b + 156))] := hl
  exact w_X5_count_0 C hml B.returns B.notSynchronized h va_S.rf hW hl
def f_X5_isAbove_22 (M : Mem) (x2 : Int32) : Option (Int32 × Mem) :=
  if x2 = 0 then some ((0 : Int32), M) else some ((1 : Int32), M)
set_option maxHeartbeats 4000000 in
set_option maxRecDepth 100000 in
theorem w_X5_isAbove_22 {p : Program} {l : Launch} {e : Env} {s : State} {m : MethodId} {args : Array Value} {below : List Frame} {meth : Method} {c : Code} {Z : Zt} {b : Nat} (C : Cx p s m args c cX5_isAbove RX5 Z b) (hml : c.maxLocals = 3) (hr : meth.sig.returnType = (some .boolean)) (hlk : meth.locks = false) {r' : Int32} {M' : Mem} {M : Mem} {x2 : Int32} (h : f_X5_isAbove_22 M x2 = some (r', M')) {H : Heap} {locs : List Loc} {ls : Array Slot} (hS : va_S (A0 b) s.heap H locs) (hW : Wd Z b M H) (hl : lv_has ls 3 [(2, .int x2)]) : W p l e rm_X5_isAbove s m args below meth c H locs 0 0 (MQ below (Qn Z b (some (.int r')) M') args s 0 0 (A0 b)) (F0 m 22 ls []) := by
  unfold f_X5_isAbove_22 at h
  have hx := C.1
  have hb := C.2.1
  refine lv_iload_n hx hb dX5_isAbove_22 rfl (lv_at hl 0 rfl) ?_
  refine lv_if_eq (tgt := 30) hx hb dX5_isAbove_23 (by decide) (fun c23 => ?_) (fun c23 => ?_)
  · have h := (if_pos c23).symm.trans h
    refine lv_iconst (v := (0 : Int32)) hx hb dX5_isAbove_30 (by decide) ?_
    cases h
    exact ret_z C hr hlk (by decide) hS hW dX5_isAbove_31
  · have h := (if_neg c23).symm.trans h
    refine lv_iconst (v := (1 : Int32)) hx hb dX5_isAbove_26 (by decide) ?_
    refine lv_goto (tgt := 31) hx hb dX5_isAbove_27 (by decide) ?_
    cases h
    exact ret_z C hr hlk (by decide) hS hW dX5_isAbove_31
def f_X5_isAbove_2B (K2 : Mem → Int32 → Int32 → Option (Int32 × Mem)) (M : Mem) (x0 : Int32) (x2 : Int32) : Option (Int32 × Mem) :=
  if x2 = 0 then f_X5_isAbove_22 M x2 else if (x2 / (10 : Int32)) = x0 then f_X5_isAbove_22 M x2 else K2 M x0 (x2 / (10 : Int32))
def f_X5_isAbove_2 : Nat → Mem → Int32 → Int32 → Option (Int32 × Mem)
  | 0 => fun _ _ _ => none
  | n + 1 => f_X5_isAbove_2B (f_X5_isAbove_2 n)
set_option maxHeartbeats 4000000 in
set_option maxRecDepth 100000 in
theorem w_X5_isAbove_2 {p : Program} {l : Launch} {e : Env} {s : State} {m : MethodId} {args : Array Value} {below : List Frame} {meth : Method} {c : Code} {Z : Zt} {b : Nat} (C : Cx p s m args c cX5_isAbove RX5 Z b) (hml : c.maxLocals = 3) (hr : meth.sig.returnType = (some .boolean)) (hlk : meth.locks = false) {r' : Int32} {M' : Mem} : ∀ (n : Nat) {M : Mem} {x0 : Int32} {x2 : Int32} (h : f_X5_isAbove_2 n M x0 x2 = some (r', M')) {H : Heap} {locs : List Loc} {ls : Array Slot} (hS : va_S (A0 b) s.heap H locs) (hW : Wd Z b M H) (hl : lv_has ls 3 [(0, .int x0), (2, .int x2)]), W p l e rm_X5_isAbove s m args below meth c H locs 0 0 (MQ below (Qn Z b (some (.int r')) M') args s 0 0 (A0 b)) (F0 m 2 ls []) := by
  intro n
  induction n with
  | zero =>
    intro M x0 x2 h
    cases h
  | succ n ih =>
    intro M x0 x2 h H locs ls hS hW hl
    have h : f_X5_isAbove_2B (f_X5_isAbove_2 n) M x0 x2 = some (r', M') := h
    unfold f_X5_isAbove_2B at h
    have hK2 := @ih
    have hx := C.1
    have hb := C.2.1
    refine lv_iload_n hx hb dX5_isAbove_2 rfl (lv_at hl 1 rfl) ?_
    refine lv_if_eq (tgt := 22) hx hb dX5_isAbove_3 (by decide) (fun c3 => ?_) (fun c3 => ?_)
    · have h := (if_pos c3).symm.trans h
      exact w_X5_isAbove_22 C hml hr hlk h hS hW (lv_sub hl [1] rfl)
    · have h := (if_neg c3).symm.trans h
      refine lv_iload_n hx hb dX5_isAbove_6 rfl (lv_at hl 1 rfl) ?_
      refine lv_bipush (v := (10 : Int32)) hx hb dX5_isAbove_7 (by decide) ?_
      refine lv_idiv hx hb dX5_isAbove_9 (by decide) ?_
      refine lv_iload_n hx hb dX5_isAbove_10 rfl (lv_at hl 0 rfl) ?_
      refine lv_icmp_eq (tgt := 22) hx hb dX5_isAbove_11 (by decide) (fun c11 => ?_) (fun c11 => ?_)
      · have h := (if_pos c11).symm.trans h
        exact w_X5_isAbove_22 C hml hr hlk h hS hW (lv_sub hl [1] rfl)
      · have h := (if_neg c11).symm.trans h
        refine lv_iload_n hx hb dX5_isAbove_14 rfl (lv_at hl 1 rfl) ?_
        refine lv_bipush (v := (10 : Int32)) hx hb dX5_isAbove_15 (by decide) ?_
        refine lv_idiv hx hb dX5_isAbove_17 (by decide) ?_
        refine lv_istore_n (lv' := [(2, .int (x2 / (10 : Int32))), (0, .int x0)]) hx hb dX5_isAbove_18 rfl hl (by decide) rfl (fun ls hl => ?_)
        refine lv_goto (tgt := 2) hx hb dX5_isAbove_19 (by decide) ?_
        exact hK2 h hS hW (lv_sub hl [1, 0] rfl)
def f_X5_isAbove_0 (M : Mem) (x0 : Int32) (x1 : Int32) : Option (Int32 × Mem) :=
  f_X5_isAbove_2 64 M x0 x1
set_option maxHeartbeats 4000000 in
set_option maxRecDepth 100000 in
theorem w_X5_isAbove_0 {p : Program} {l : Launch} {e : Env} {s : State} {m : MethodId} {args : Array Value} {below : List Frame} {meth : Method} {c : Code} {Z : Zt} {b : Nat} (C : Cx p s m args c cX5_isAbove RX5 Z b) (hml : c.maxLocals = 3) (hr : meth.sig.returnType = (some .boolean)) (hlk : meth.locks = false) {r' : Int32} {M' : Mem} {M : Mem} {x0 : Int32} {x1 : Int32} (h : f_X5_isAbove_0 M x0 x1 = some (r', M')) {H : Heap} {locs : List Loc} {ls : Array Slot} (hS : va_S (A0 b) s.heap H locs) (hW : Wd Z b M H) (hl : lv_has ls 3 [(0, .int x0), (1, .int x1)]) : W p l e rm_X5_isAbove s m args below meth c H locs 0 0 (MQ below (Qn Z b (some (.int r')) M') args s 0 0 (A0 b)) (F0 m 0 ls []) := by
  unfold f_X5_isAbove_0 at h
  have hx := C.1
  have hb := C.2.1
  refine lv_iload_n hx hb dX5_isAbove_0 rfl (lv_at hl 1 rfl) ?_
  refine lv_istore_n (lv' := [(2, .int x1), (0, .int x0), (1, .int x1)]) hx hb dX5_isAbove_1 rfl hl (by decide) rfl (fun ls hl => ?_)
  exact w_X5_isAbove_2 C hml hr hlk 64 h hS hW (lv_sub hl [1, 0] rfl)
def f_X5_isAbove (M : Mem) (x0 : Int32) (x1 : Int32) : Option (Int32 × Mem) := f_X5_isAbove_0 M x0 x1
set_option maxHeartbeats 4000000 in
set_option maxRecDepth 100000 in
theorem c_X5_isAbove {l : Launch} {Z : Zt} {b : Nat} {M : Mem} {x0 : Int32} {x1 : Int32} {r' : Int32} {M' : Mem} (h : f_X5_isAbove M x0 x1 = some (r', M')) : Ct l yX5_isAbove cX5_isAbove 3 (some .boolean) rm_X5_isAbove Z b [.int x0, .int x1] M (some (.int r')) M' := by
  refine Met.ofW (cc := cX5_isAbove) (maxL := 3) (ret := (some .boolean)) (by decide) rfl ?_
  intro p e s m args below meth c s₁ B hml hv
  obtain ⟨rfl, hE, hW⟩ := hv
  have C : Cx p s m [.int x0, .int x1].toArray c cX5_isAbove RX5 Z b := ⟨B.exec, B.bytes, findClass_of_methodNamed B.named, fun w hw => atoms_spec (ws := Cond.code yX5_isAbove cX5_isAbove 3 (some .boolean) :: wsA) B.pre w (List.mem_cons_of_mem _ hw), hE⟩
  have hl := lv_entry [.int x0, .int x1] (n := 3) (Nat.le_of_ble_eq_true rfl)
  rw [lg_entry_eq]
  generalize (lg_sl [.int x0, .int x1] ++ List.replicate (3 - (lg_sl [.int x0, .int x1]).length) Slot.unset).toArray = ls at hl ⊢
  have hl : lv_has ls 3 [(0, .int x0), (1, .int x1)] := hl
  exact w_X5_isAbove_0 C hml B.returns B.notSynchronized h va_S.rf hW hl
def f_X5_isOf_0 (M : Mem) (x1 : Int32) (x2 : Int32) : Option (Int32 × Mem) :=
  if x1 < 0 ∨ 60 ≤ x1.toNatClampNeg then none else if (M 20 x1.toNatClampNeg) = 0 then some ((0 : Int32), M) else if x1 < 0 ∨ 60 ≤ x1.toNatClampNeg then none else if (M 21 x1.toNatClampNeg) = x2 then some ((1 : Int32), M) else if x1 < 0 ∨ 60 ≤ x1.toNatClampNeg then none else bd2 (f_X5_isAbove M x2 (M 21 x1.toNatClampNeg)) (fun r26 M26 => if r26 = 0 then some ((0 : Int32), M26) else some ((1 : Int32), M26))
set_option maxHeartbeats 4000000 in
set_option maxRecDepth 100000 in
theorem w_X5_isOf_0 {p : Program} {l : Launch} {e : Env} {s : State} {m : MethodId} {args : Array Value} {below : List Frame} {meth : Method} {c : Code} {Z : Zt} {b : Nat} (C : Cx p s m args c cX5_isOf RX5 Z b) (hml : c.maxLocals = 3) (hr : meth.sig.returnType = (some .boolean)) (hlk : meth.locks = false) {r' : Int32} {M' : Mem} {M : Mem} {x1 : Int32} {x2 : Int32} (h : f_X5_isOf_0 M x1 x2 = some (r', M')) {H : Heap} {locs : List Loc} {ls : Array Slot} (hS : va_S (A0 b) s.heap H locs) (hW : Wd Z b M H) (hl : lv_has ls 3 [(0, .ref (b + 156)), (1, .int x1), (2, .int x2)]) : W p l e rm_X5_isOf s m args below meth c H locs 0 0 (MQ below (Qn Z b (some (.int r')) M') args s 0 0 (A0 b)) (F0 m 0 ls []) := by
  unfold f_X5_isOf_0 at h
  have hx := C.1
  have hb := C.2.1
  refine lv_aload_n hx hb dX5_isOf_0 rfl (lv_at hl 0 rfl) ?_
  refine gX5_7 C hW dX5_isOf_1 ?_
  refine lv_iload_n hx hb dX5_isOf_4 rfl (lv_at hl 1 rfl) ?_
  obtain ⟨g5, h⟩ := gd h
  refine ald_157 C hW g5 dX5_isOf_5 ?_
  refine lv_if_eq (tgt := 36) hx hb dX5_isOf_6 (by decide) (fun c6 => ?_) (fun c6 => ?_)
  · have h := (if_pos c6).symm.trans h
    refine lv_iconst (v := (0 : Int32)) hx hb dX5_isOf_36 (by decide) ?_
    cases h
    exact ret_z C hr hlk (by decide) hS hW dX5_isOf_37
  · have h := (if_neg c6).symm.trans h
    refine lv_aload_n hx hb dX5_isOf_9 rfl (lv_at hl 0 rfl) ?_
    refine gX5_13 C hW dX5_isOf_10 ?_
    refine lv_iload_n hx hb dX5_isOf_13 rfl (lv_at hl 1 rfl) ?_
    obtain ⟨g14, h⟩ := gd h
    refine ald_158 C hW g14 dX5_isOf_14 ?_
    refine lv_iload_n hx hb dX5_isOf_15 rfl (lv_at hl 2 rfl) ?_
    refine lv_icmp_eq (tgt := 32) hx hb dX5_isOf_16 (by decide) (fun c16 => ?_) (fun c16 => ?_)
    · have h := (if_pos c16).symm.trans h
      refine lv_iconst (v := (1 : Int32)) hx hb dX5_isOf_32 (by decide) ?_
      refine lv_goto (tgt := 37) hx hb dX5_isOf_33 (by decide) ?_
      cases h
      exact ret_z C hr hlk (by decide) hS hW dX5_isOf_37
    · have h := (if_neg c16).symm.trans h
      refine lv_iload_n hx hb dX5_isOf_19 rfl (lv_at hl 2 rfl) ?_
      refine lv_aload_n hx hb dX5_isOf_20 rfl (lv_at hl 0 rfl) ?_
      refine gX5_13 C hW dX5_isOf_21 ?_
      refine lv_iload_n hx hb dX5_isOf_24 rfl (lv_at hl 1 rfl) ?_
      obtain ⟨g25, h⟩ := gd h
      refine ald_158 C hW g25 dX5_isOf_25 ?_
      obtain ⟨r26, M26, hc26, h⟩ := bd2_e h
      refine kX5_78 C hml hl.1 (c_X5_isAbove hc26) ⟨Nat.le_of_ble_eq_true rfl, Nat.le_of_ble_eq_true rfl⟩ ⟨Nat.le_of_ble_eq_true rfl, Nat.le_of_ble_eq_true rfl⟩ (Nat.le_of_ble_eq_true rfl) hS hW dX5_isOf_26 (fun H locs hW hS => ?_)
      refine lv_if_eq (tgt := 36) hx hb dX5_isOf_29 (by decide) (fun c29 => ?_) (fun c29 => ?_)
      · have h := (if_pos c29).symm.trans h
        refine lv_iconst (v := (0 : Int32)) hx hb dX5_isOf_36 (by decide) ?_
        cases h
        exact ret_z C hr hlk (by decide) hS hW dX5_isOf_37
      · have h := (if_neg c29).symm.trans h
        refine lv_iconst (v := (1 : Int32)) hx hb dX5_isOf_32 (by decide) ?_
        refine lv_goto (tgt := 37) hx hb dX5_isOf_33 (by decide) ?_
        cases h
        exact ret_z C hr hlk (by decide) hS hW dX5_isOf_37
def f_X5_isOf (M : Mem) (x1 : Int32) (x2 : Int32) : Option (Int32 × Mem) := f_X5_isOf_0 M x1 x2
set_option maxHeartbeats 4000000 in
set_option maxRecDepth 100000 in
theorem c_X5_isOf {l : Launch} {Z : Zt} {b : Nat} {M : Mem} {x1 : Int32} {x2 : Int32} {r' : Int32} {M' : Mem} (h : f_X5_isOf M x1 x2 = some (r', M')) : Ct l yX5_isOf cX5_isOf 3 (some .boolean) rm_X5_isOf Z b [.ref (b + 156), .int x1, .int x2] M (some (.int r')) M' := by
  refine Met.ofW (cc := cX5_isOf) (maxL := 3) (ret := (some .boolean)) (by decide) rfl ?_
  intro p e s m args below meth c s₁ B hml hv
  obtain ⟨rfl, hE, hW⟩ := hv
  have C : Cx p s m [.ref (b + 156), .int x1, .int x2].toArray c cX5_isOf RX5 Z b := ⟨B.exec, B.bytes, findClass_of_methodNamed B.named, fun w hw => atoms_spec (ws := Cond.code yX5_isOf cX5_isOf 3 (some .boolean) :: wsA) B.pre w (List.mem_cons_of_mem _ hw), hE⟩
  have hl := lv_entry [.ref (b + 156), .int x1, .int x2] (n := 3) (Nat.le_of_ble_eq_true rfl)
  rw [lg_entry_eq]
  generalize (lg_sl [.ref (b + 156), .int x1, .int x2] ++ List.replicate (3 - (lg_sl [.ref (b + 156), .int x1, .int x2]).length) Slot.unset).toArray = ls at hl ⊢
  have hl : lv_has ls 3 [(0, .ref (b + 156)), (1, .int x1), (2, .int x2)] := hl
  exact w_X5_isOf_0 C hml B.returns B.notSynchronized h va_S.rf hW hl
def f_X5_makes_3B (K3 : Mem → Int32 → Int32 → Int32 → Int32 → Option (Int32 × Mem)) (M : Mem) (x1 : Int32) (x2 : Int32) (x3 : Int32) (x4 : Int32) : Option (Int32 × Mem) :=
  if x4 < 0 ∨ 60 ≤ x4.toNatClampNeg then none else if (M 20 x4.toNatClampNeg) = 0 then (if x4 < 0 ∨ 60 ≤ x4.toNatClampNeg then none else if x4 < 0 ∨ 60 ≤ x4.toNatClampNeg then none else if x4 < 0 ∨ 60 ≤ x4.toNatClampNeg then none else if x4 < 0 ∨ 60 ≤ x4.toNatClampNeg then none else if x4 < 0 ∨ 60 ≤ x4.toNatClampNeg then none else if x4 < 0 ∨ 60 ≤ x4.toNatClampNeg then none else some (x4, mu (mu (mu (mu (mu (mu (mu M 20 x4.toNatClampNeg ((1 : Int32) &&& 1)) 21 x4.toNatClampNeg x1) 22 x4.toNatClampNeg x2) 23 x4.toNatClampNeg x3) 26 x4.toNatClampNeg (0 : Int32)) 25 0 (((mu (mu (mu (mu (mu M 20 x4.toNatClampNeg ((1 : Int32) &&& 1)) 21 x4.toNatClampNeg x1) 22 x4.toNatClampNeg x2) 23 x4.toNatClampNeg x3) 26 x4.toNatClampNeg (0 : Int32)) 25 0) + (1 : Int32))) 24 x4.toNatClampNeg ((mu (mu (mu (mu (mu (mu M 20 x4.toNatClampNeg ((1 : Int32) &&& 1)) 21 x4.toNatClampNeg x1) 22 x4.toNatClampNeg x2) 23 x4.toNatClampNeg x3) 26 x4.toNatClampNeg (0 : Int32)) 25 0 (((mu (mu (mu (mu (mu M 20 x4.toNatClampNeg ((1 : Int32) &&& 1)) 21 x4.toNatClampNeg x1) 22 x4.toNatClampNeg x2) 23 x4.toNatClampNeg x3) 26 x4.toNatClampNeg (0 : Int32)) 25 0) + (1 : Int32))) 25 0))) else K3 M x1 x2 x3 (x4 + 1)
def f_X5_makes_3 : Nat → Mem → Int32 → Int32 → Int32 → Int32 → Option (Int32 × Mem)
  | 0 => fun _ _ _ _ _ => none
  | n + 1 => f_X5_makes_3B (f_X5_makes_3 n)
set_option maxHeartbeats 4000000 in
set_option maxRecDepth 100000 in
theorem w_X5_makes_3 {p : Program} {l : Launch} {e : Env} {s : State} {m : MethodId} {args : Array Value} {below : List Frame} {meth : Method} {c : Code} {Z : Zt} {b : Nat} (C : Cx p s m args c cX5_makes RX5 Z b) (hml : c.maxLocals = 5) (hr : meth.sig.returnType = (some .int)) (hlk : meth.locks = false) {r' : Int32} {M' : Mem} : ∀ (n : Nat) {M : Mem} {x1 : Int32} {x2 : Int32} {x3 : Int32} {x4 : Int32} (h : f_X5_makes_3 n M x1 x2 x3 x4 = some (r', M')) {H : Heap} {locs : List Loc} {ls : Array Slot} (hS : va_S (A0 b) s.heap H locs) (hW : Wd Z b M H) (hl : lv_has ls 5 [(0, .ref (b + 156)), (1, .int x1), (2, .int x2), (3, .int x3), (4, .int x4)]), W p l e rm_X5_makes s m args below meth c H locs 0 0 (MQ below (Qn Z b (some (.int r')) M') args s 0 0 (A0 b)) (F0 m 3 ls []) := by
  intro n
  induction n with
  | zero =>
    intro M x1 x2 x3 x4 h
    cases h
  | succ n ih =>
    intro M x1 x2 x3 x4 h H locs ls hS hW hl
    have h : f_X5_makes_3B (f_X5_makes_3 n) M x1 x2 x3 x4 = some (r', M') := h
    unfold f_X5_makes_3B at h
    have hK3 := @ih
    have hx := C.1
    have hb := C.2.1
    refine lv_aload_n hx hb dX5_makes_3 rfl (lv_at hl 0 rfl) ?_
    refine gX5_7 C hW dX5_makes_4 ?_
    refine lv_iload hx hb dX5_makes_7 (lv_at hl 4 rfl) ?_
    obtain ⟨g9, h⟩ := gd h
    refine ald_157 C hW g9 dX5_makes_9 ?_
    refine lv_if_eq (tgt := 19) hx hb dX5_makes_10 (by decide) (fun c10 => ?_) (fun c10 => ?_)
    · have h := (if_pos c10).symm.trans h
      refine lv_aload_n hx hb dX5_makes_19 rfl (lv_at hl 0 rfl) ?_
      refine gX5_7 C hW dX5_makes_20 ?_
      refine lv_iload hx hb dX5_makes_23 (lv_at hl 4 rfl) ?_
      refine lv_iconst (v := (1 : Int32)) hx hb dX5_makes_25 (by decide) ?_
      obtain ⟨g26, h⟩ := gd h
      refine ast_157 C hS hW g26 dX5_makes_26 (fun H locs hW hS => ?_)
      refine lv_aload_n hx hb dX5_makes_27 rfl (lv_at hl 0 rfl) ?_
      refine gX5_13 C hW dX5_makes_28 ?_
      refine lv_iload hx hb dX5_makes_31 (lv_at hl 4 rfl) ?_
      refine lv_iload_n hx hb dX5_makes_33 rfl (lv_at hl 1 rfl) ?_
      obtain ⟨g34, h⟩ := gd h
      refine ast_158 C hS hW g34 dX5_makes_34 (fun H locs hW hS => ?_)
      refine lv_aload_n hx hb dX5_makes_35 rfl (lv_at hl 0 rfl) ?_
      refine gX5_17 C hW dX5_makes_36 ?_
      refine lv_iload hx hb dX5_makes_39 (lv_at hl 4 rfl) ?_
      refine lv_iload_n hx hb dX5_makes_41 rfl (lv_at hl 2 rfl) ?_
      obtain ⟨g42, h⟩ := gd h
      refine ast_159 C hS hW g42 dX5_makes_42 (fun H locs hW hS => ?_)
      refine lv_aload_n hx hb dX5_makes_43 rfl (lv_at hl 0 rfl) ?_
      refine gX5_20 C hW dX5_makes_44 ?_
      refine lv_iload hx hb dX5_makes_47 (lv_at hl 4 rfl) ?_
      refine lv_iload_n hx hb dX5_makes_49 rfl (lv_at hl 3 rfl) ?_
      obtain ⟨g50, h⟩ := gd h
      refine ast_160 C hS hW g50 dX5_makes_50 (fun H locs hW hS => ?_)
      refine lv_aload_n hx hb dX5_makes_51 rfl (lv_at hl 0 rfl) ?_
      refine gX5_26 C hW dX5_makes_52 ?_
      refine lv_iload hx hb dX5_makes_55 (lv_at hl 4 rfl) ?_
      refine lv_iconst (v := (0 : Int32)) hx hb dX5_makes_57 (by decide) ?_
      obtain ⟨g58, h⟩ := gd h
      refine ast_162 C hS hW g58 dX5_makes_58 (fun H locs hW hS => ?_)
      refine lv_aload_n hx hb dX5_makes_59 rfl (lv_at hl 0 rfl) ?_
      refine lv_dup hx hb dX5_makes_60 rfl ?_
      refine gX5_82 C hW dX5_makes_61 ?_
      refine lv_iconst (v := (1 : Int32)) hx hb dX5_makes_64 (by decide) ?_
      refine lv_iadd hx hb dX5_makes_65 ?_
      refine pX5_82 C hS hW dX5_makes_66 (fun H locs hW hS => ?_)
      refine lv_aload_n hx hb dX5_makes_69 rfl (lv_at hl 0 rfl) ?_
      refine gX5_23 C hW dX5_makes_70 ?_
      refine lv_iload hx hb dX5_makes_73 (lv_at hl 4 rfl) ?_
      refine lv_aload_n hx hb dX5_makes_75 rfl (lv_at hl 0 rfl) ?_
      refine gX5_82 C hW dX5_makes_76 ?_
      obtain ⟨g79, h⟩ := gd h
      refine ast_161 C hS hW g79 dX5_makes_79 (fun H locs hW hS => ?_)
      refine lv_iload hx hb dX5_makes_80 (lv_at hl 4 rfl) ?_
      cases h
      exact ret_i C hr hlk hS hW dX5_makes_82
    · have h := (if_neg c10).symm.trans h
      refine lv_iinc (v := x4 + 1) (lv' := [(4, .int (x4 + 1)), (0, .ref (b + 156)), (1, .int x1), (2, .int x2), (3, .int x3)]) hx hb dX5_makes_13 hl (k := 4) rfl rfl (by decide) rfl (fun ls hl => ?_)
      refine lv_goto (tgt := 3) hx hb dX5_makes_16 (by decide) ?_
      exact hK3 h hS hW (lv_sub hl [1, 2, 3, 4, 0] rfl)
def f_X5_makes_0 (M : Mem) (x1 : Int32) (x2 : Int32) (x3 : Int32) : Option (Int32 × Mem) :=
  f_X5_makes_3 64 M x1 x2 x3 (0 : Int32)
set_option maxHeartbeats 4000000 in
set_option maxRecDepth 100000 in
theorem w_X5_makes_0 {p : Program} {l : Launch} {e : Env} {s : State} {m : MethodId} {args : Array Value} {below : List Frame} {meth : Method} {c : Code} {Z : Zt} {b : Nat} (C : Cx p s m args c cX5_makes RX5 Z b) (hml : c.maxLocals = 5) (hr : meth.sig.returnType = (some .int)) (hlk : meth.locks = false) {r' : Int32} {M' : Mem} {M : Mem} {x1 : Int32} {x2 : Int32} {x3 : Int32} (h : f_X5_makes_0 M x1 x2 x3 = some (r', M')) {H : Heap} {locs : List Loc} {ls : Array Slot} (hS : va_S (A0 b) s.heap H locs) (hW : Wd Z b M H) (hl : lv_has ls 5 [(0, .ref (b + 156)), (1, .int x1), (2, .int x2), (3, .int x3)]) : W p l e rm_X5_makes s m args below meth c H locs 0 0 (MQ below (Qn Z b (some (.int r')) M') args s 0 0 (A0 b)) (F0 m 0 ls []) := by
  unfold f_X5_makes_0 at h
  have hx := C.1
  have hb := C.2.1
  refine lv_iconst (v := (0 : Int32)) hx hb dX5_makes_0 (by decide) ?_
  refine lv_istore (lv' := [(4, .int (0 : Int32)), (0, .ref (b + 156)), (1, .int x1), (2, .int x2), (3, .int x3)]) hx hb dX5_makes_1 hl (by decide) rfl (fun ls hl => ?_)
  exact w_X5_makes_3 C hml hr hlk 64 h hS hW (lv_sub hl [1, 2, 3, 4, 0] rfl)
def f_X5_makes (M : Mem) (x1 : Int32) (x2 : Int32) (x3 : Int32) : Option (Int32 × Mem) := f_X5_makes_0 M x1 x2 x3
set_option maxHeartbeats 4000000 in
set_option maxRecDepth 100000 in
theorem c_X5_makes {l : Launch} {Z : Zt} {b : Nat} {M : Mem} {x1 : Int32} {x2 : Int32} {x3 : Int32} {r' : Int32} {M' : Mem} (h : f_X5_makes M x1 x2 x3 = some (r', M')) : Ct l yX5_makes cX5_makes 5 (some .int) rm_X5_makes Z b [.ref (b + 156), .int x1, .int x2, .int x3] M (some (.int r')) M' := by
  refine Met.ofW (cc := cX5_makes) (maxL := 5) (ret := (some .int)) (by decide) rfl ?_
  intro p e s m args below meth c s₁ B hml hv
  obtain ⟨rfl, hE, hW⟩ := hv
  have C : Cx p s m [.ref (b + 156), .int x1, .int x2, .int x3].toArray c cX5_makes RX5 Z b := ⟨B.exec, B.bytes, findClass_of_methodNamed B.named, fun w hw => atoms_spec (ws := Cond.code yX5_makes cX5_makes 5 (some .int) :: wsA) B.pre w (List.mem_cons_of_mem _ hw), hE⟩
  have hl := lv_entry [.ref (b + 156), .int x1, .int x2, .int x3] (n := 5) (Nat.le_of_ble_eq_true rfl)
  rw [lg_entry_eq]
  generalize (lg_sl [.ref (b + 156), .int x1, .int x2, .int x3] ++ List.replicate (5 - (lg_sl [.ref (b + 156), .int x1, .int x2, .int x3]).length) Slot.unset).toArray = ls at hl ⊢
  have hl : lv_has ls 5 [(0, .ref (b + 156)), (1, .int x1), (2, .int x2), (3, .int x3)] := hl
  exact w_X5_makes_0 C hml B.returns B.notSynchronized h va_S.rf hW hl
def f_X5_goes_47 (K9 : Mem → Int32 → Int32 → Option Mem) (M : Mem) (x1 : Int32) (x2 : Int32) (xs1 : Int32) (xs2 : Int32) : Option Mem :=
  if xs1 < 0 ∨ 30 ≤ xs1.toNatClampNeg then none else K9 (mu M 34 xs1.toNatClampNeg xs2) x1 (x2 + 1)
set_option maxHeartbeats 4000000 in
set_option maxRecDepth 100000 in
theorem w_X5_goes_47 {p : Program} {l : Launch} {e : Env} {s : State} {m : MethodId} {args : Array Value} {below : List Frame} {meth : Method} {c : Code} {Z : Zt} {b : Nat} (C : Cx p s m args c cX5_goes RX5 Z b) (hml : c.maxLocals = 3) (hr : meth.sig.returnType = (none : Option Jvm.ClassFile.FieldType)) (hlk : meth.locks = false) {M' : Mem} {K9 : Mem → Int32 → Int32 → Option Mem} (hK9 : ∀ {M : Mem} {x1 : Int32} {x2 : Int32} (h : K9 M x1 x2 = some M') {H : Heap} {locs : List Loc} {ls : Array Slot} (hS : va_S (A0 b) s.heap H locs) (hW : Wd Z b M H) (hl : lv_has ls 3 [(0, .ref (b + 156)), (1, .int x1), (2, .int x2)]), W p l e rm_X5_goes s m args below meth c H locs 0 0 (MQ below (Qn Z b none M') args s 0 0 (A0 b)) (F0 m 9 ls [])) {M : Mem} {x1 : Int32} {x2 : Int32} {xs1 : Int32} {xs2 : Int32} (h : f_X5_goes_47 K9 M x1 x2 xs1 xs2 = some M') {H : Heap} {locs : List Loc} {ls : Array Slot} (hS : va_S (A0 b) s.heap H locs) (hW : Wd Z b M H) (hl : lv_has ls 3 [(0, .ref (b + 156)), (1, .int x1), (2, .int x2)]) : W p l e rm_X5_goes s m args below meth c H locs 0 0 (MQ below (Qn Z b none M') args s 0 0 (A0 b)) (F0 m 47 ls [.int xs2, .int xs1, .ref (b + 168)]) := by
  unfold f_X5_goes_47 at h
  have hx := C.1
  have hb := C.2.1
  obtain ⟨g47, h⟩ := gd h
  refine ast_168 C hS hW g47 dX5_goes_47 (fun H locs hW hS => ?_)
  refine lv_iinc (v := x2 + 1) (lv' := [(2, .int (x2 + 1)), (0, .ref (b + 156)), (1, .int x1)]) hx hb dX5_goes_48 hl (k := 2) rfl rfl (by decide) rfl (fun ls hl => ?_)
  refine lv_goto (tgt := 9) hx hb dX5_goes_51 (by decide) ?_
  exact hK9 h hS hW (lv_sub hl [1, 2, 0] rfl)
def f_X5_goes_9B (K9 : Mem → Int32 → Int32 → Option Mem) (M : Mem) (x1 : Int32) (x2 : Int32) : Option Mem :=
  if (M 29 0) ≤ x2 then some M else if x2 < 0 ∨ 30 ≤ x2.toNatClampNeg then none else if x1 < 0 ∨ 60 ≤ x1.toNatClampNeg then none else if (M 31 x2.toNatClampNeg) = (M 21 x1.toNatClampNeg) then f_X5_goes_47 K9 M x1 x2 x2 (0 : Int32) else if x2 < 0 ∨ 30 ≤ x2.toNatClampNeg then none else f_X5_goes_47 K9 M x1 x2 x2 (M 34 x2.toNatClampNeg)
def f_X5_goes_9 : Nat → Mem → Int32 → Int32 → Option Mem
  | 0 => fun _ _ _ => none
  | n + 1 => f_X5_goes_9B (f_X5_goes_9 n)
set_option maxHeartbeats 4000000 in
set_option maxRecDepth 100000 in
theorem w_X5_goes_9 {p : Program} {l : Launch} {e : Env} {s : State} {m : MethodId} {args : Array Value} {below : List Frame} {meth : Method} {c : Code} {Z : Zt} {b : Nat} (C : Cx p s m args c cX5_goes RX5 Z b) (hml : c.maxLocals = 3) (hr : meth.sig.returnType = (none : Option Jvm.ClassFile.FieldType)) (hlk : meth.locks = false) {M' : Mem} : ∀ (n : Nat) {M : Mem} {x1 : Int32} {x2 : Int32} (h : f_X5_goes_9 n M x1 x2 = some M') {H : Heap} {locs : List Loc} {ls : Array Slot} (hS : va_S (A0 b) s.heap H locs) (hW : Wd Z b M H) (hl : lv_has ls 3 [(0, .ref (b + 156)), (1, .int x1), (2, .int x2)]), W p l e rm_X5_goes s m args below meth c H locs 0 0 (MQ below (Qn Z b none M') args s 0 0 (A0 b)) (F0 m 9 ls []) := by
  intro n
  induction n with
  | zero =>
    intro M x1 x2 h
    cases h
  | succ n ih =>
    intro M x1 x2 h H locs ls hS hW hl
    have h : f_X5_goes_9B (f_X5_goes_9 n) M x1 x2 = some M' := h
    unfold f_X5_goes_9B at h
    have hK9 := @ih
    have hx := C.1
    have hb := C.2.1
    refine lv_iload_n hx hb dX5_goes_9 rfl (lv_at hl 2 rfl) ?_
    refine lv_aload_n hx hb dX5_goes_10 rfl (lv_at hl 0 rfl) ?_
    refine gX5_85 C hW dX5_goes_11 ?_
    refine lv_icmp_ge (tgt := 54) hx hb dX5_goes_14 (by decide) (fun c14 => ?_) (fun c14 => ?_)
    · have h := (if_pos c14).symm.trans h
      cases h
      exact ret_v C hr hlk hS hW dX5_goes_54
    · have h := (if_neg c14).symm.trans h
      refine lv_aload_n hx hb dX5_goes_17 rfl (lv_at hl 0 rfl) ?_
      refine gX5_44 C hW dX5_goes_18 ?_
      refine lv_iload_n hx hb dX5_goes_21 rfl (lv_at hl 2 rfl) ?_
      refine lv_aload_n hx hb dX5_goes_22 rfl (lv_at hl 0 rfl) ?_
      refine gX5_35 C hW dX5_goes_23 ?_
      refine lv_iload_n hx hb dX5_goes_26 rfl (lv_at hl 2 rfl) ?_
      obtain ⟨g27, h⟩ := gd h
      refine ald_165 C hW g27 dX5_goes_27 ?_
      refine lv_aload_n hx hb dX5_goes_28 rfl (lv_at hl 0 rfl) ?_
      refine gX5_13 C hW dX5_goes_29 ?_
      refine lv_iload_n hx hb dX5_goes_32 rfl (lv_at hl 1 rfl) ?_
      obtain ⟨g33, h⟩ := gd h
      refine ald_158 C hW g33 dX5_goes_33 ?_
      refine lv_icmp_ne (tgt := 41) hx hb dX5_goes_34 (by decide) (fun c34 => ?_) (fun c34 => ?_)
      · have h := (if_neg c34).symm.trans h
        refine lv_aload_n hx hb dX5_goes_41 rfl (lv_at hl 0 rfl) ?_
        refine gX5_44 C hW dX5_goes_42 ?_
        refine lv_iload_n hx hb dX5_goes_45 rfl (lv_at hl 2 rfl) ?_
        obtain ⟨g46, h⟩ := gd h
        refine ald_168 C hW g46 dX5_goes_46 ?_
        exact w_X5_goes_47 C hml hr hlk hK9 h hS hW (lv_sub hl [0, 1, 2] rfl)
      · have h := (if_pos c34).symm.trans h
        refine lv_iconst (v := (0 : Int32)) hx hb dX5_goes_37 (by decide) ?_
        refine lv_goto (tgt := 47) hx hb dX5_goes_38 (by decide) ?_
        exact w_X5_goes_47 C hml hr hlk hK9 h hS hW (lv_sub hl [0, 1, 2] rfl)
def f_X5_goes_0 (M : Mem) (x1 : Int32) : Option Mem :=
  if x1 < 0 ∨ 60 ≤ x1.toNatClampNeg then none else f_X5_goes_9 64 (mu M 20 x1.toNatClampNeg ((0 : Int32) &&& 1)) x1 (0 : Int32)
set_option maxHeartbeats 4000000 in
set_option maxRecDepth 100000 in
theorem w_X5_goes_0 {p : Program} {l : Launch} {e : Env} {s : State} {m : MethodId} {args : Array Value} {below : List Frame} {meth : Method} {c : Code} {Z : Zt} {b : Nat} (C : Cx p s m args c cX5_goes RX5 Z b) (hml : c.maxLocals = 3) (hr : meth.sig.returnType = (none : Option Jvm.ClassFile.FieldType)) (hlk : meth.locks = false) {M' : Mem} {M : Mem} {x1 : Int32} (h : f_X5_goes_0 M x1 = some M') {H : Heap} {locs : List Loc} {ls : Array Slot} (hS : va_S (A0 b) s.heap H locs) (hW : Wd Z b M H) (hl : lv_has ls 3 [(0, .ref (b + 156)), (1, .int x1)]) : W p l e rm_X5_goes s m args below meth c H locs 0 0 (MQ below (Qn Z b none M') args s 0 0 (A0 b)) (F0 m 0 ls []) := by
  unfold f_X5_goes_0 at h
  have hx := C.1
  have hb := C.2.1
  refine lv_aload_n hx hb dX5_goes_0 rfl (lv_at hl 0 rfl) ?_
  refine gX5_7 C hW dX5_goes_1 ?_
  refine lv_iload_n hx hb dX5_goes_4 rfl (lv_at hl 1 rfl) ?_
  refine lv_iconst (v := (0 : Int32)) hx hb dX5_goes_5 (by decide) ?_
  obtain ⟨g6, h⟩ := gd h
  refine ast_157 C hS hW g6 dX5_goes_6 (fun H locs hW hS => ?_)
  refine lv_iconst (v := (0 : Int32)) hx hb dX5_goes_7 (by decide) ?_
  refine lv_istore_n (lv' := [(2, .int (0 : Int32)), (0, .ref (b + 156)), (1, .int x1)]) hx hb dX5_goes_8 rfl hl (by decide) rfl (fun ls hl => ?_)
  exact w_X5_goes_9 C hml hr hlk 64 h hS hW (lv_sub hl [1, 2, 0] rfl)
def f_X5_goes (M : Mem) (x1 : Int32) : Option Mem := f_X5_goes_0 M x1
set_option maxHeartbeats 4000000 in
set_option maxRecDepth 100000 in
theorem c_X5_goes {l : Launch} {Z : Zt} {b : Nat} {M : Mem} {x1 : Int32} {M' : Mem} (h : f_X5_goes M x1 = some M') : Ct l yX5_goes cX5_goes 3 (none : Option Jvm.ClassFile.FieldType) rm_X5_goes Z b [.ref (b + 156), .int x1] M none M' := by
  refine Met.ofW (cc := cX5_goes) (maxL := 3) (ret := (none : Option Jvm.ClassFile.FieldType)) (by decide) rfl ?_
  intro p e s m args below meth c s₁ B hml hv
  obtain ⟨rfl, hE, hW⟩ := hv
  have C : Cx p s m [.ref (b + 156), .int x1].toArray c cX5_goes RX5 Z b := ⟨B.exec, B.bytes, findClass_of_methodNamed B.named, fun w hw => atoms_spec (ws := Cond.code yX5_goes cX5_goes 3 (none : Option Jvm.ClassFile.FieldType) :: wsA) B.pre w (List.mem_cons_of_mem _ hw), hE⟩
  have hl := lv_entry [.ref (b + 156), .int x1] (n := 3) (Nat.le_of_ble_eq_true rfl)
  rw [lg_entry_eq]
  generalize (lg_sl [.ref (b + 156), .int x1] ++ List.replicate (3 - (lg_sl [.ref (b + 156), .int x1]).length) Slot.unset).toArray = ls at hl ⊢
  have hl : lv_has ls 3 [(0, .ref (b + 156)), (1, .int x1)] := hl
  exact w_X5_goes_0 C hml B.returns B.notSynchronized h va_S.rf hW hl
def f_X5_isOn_0 (M : Mem) (x1 : Int32) : Option (Int32 × Mem) :=
  if x1 < 0 ∨ 30 ≤ x1.toNatClampNeg then none else if (M 34 x1.toNatClampNeg) ≤ (M 28 0) then some ((0 : Int32), M) else some ((1 : Int32), M)
set_option maxHeartbeats 4000000 in
set_option maxRecDepth 100000 in
theorem w_X5_isOn_0 {p : Program} {l : Launch} {e : Env} {s : State} {m : MethodId} {args : Array Value} {below : List Frame} {meth : Method} {c : Code} {Z : Zt} {b : Nat} (C : Cx p s m args c cX5_isOn RX5 Z b) (hml : c.maxLocals = 2) (hr : meth.sig.returnType = (some .boolean)) (hlk : meth.locks = false) {r' : Int32} {M' : Mem} {M : Mem} {x1 : Int32} (h : f_X5_isOn_0 M x1 = some (r', M')) {H : Heap} {locs : List Loc} {ls : Array Slot} (hS : va_S (A0 b) s.heap H locs) (hW : Wd Z b M H) (hl : lv_has ls 2 [(0, .ref (b + 156)), (1, .int x1)]) : W p l e rm_X5_isOn s m args below meth c H locs 0 0 (MQ below (Qn Z b (some (.int r')) M') args s 0 0 (A0 b)) (F0 m 0 ls []) := by
  unfold f_X5_isOn_0 at h
  have hx := C.1
  have hb := C.2.1
  refine lv_aload_n hx hb dX5_isOn_0 rfl (lv_at hl 0 rfl) ?_
  refine gX5_44 C hW dX5_isOn_1 ?_
  refine lv_iload_n hx hb dX5_isOn_4 rfl (lv_at hl 1 rfl) ?_
  obtain ⟨g5, h⟩ := gd h
  refine ald_168 C hW g5 dX5_isOn_5 ?_
  refine lv_aload_n hx hb dX5_isOn_6 rfl (lv_at hl 0 rfl) ?_
  refine gX5_88 C hW dX5_isOn_7 ?_
  refine lv_icmp_le (tgt := 17) hx hb dX5_isOn_10 (by decide) (fun c10 => ?_) (fun c10 => ?_)
  · have h := (if_pos c10).symm.trans h
    refine lv_iconst (v := (0 : Int32)) hx hb dX5_isOn_17 (by decide) ?_
    cases h
    exact ret_z C hr hlk (by decide) hS hW dX5_isOn_18
  · have h := (if_neg c10).symm.trans h
    refine lv_iconst (v := (1 : Int32)) hx hb dX5_isOn_13 (by decide) ?_
    refine lv_goto (tgt := 18) hx hb dX5_isOn_14 (by decide) ?_
    cases h
    exact ret_z C hr hlk (by decide) hS hW dX5_isOn_18
def f_X5_isOn (M : Mem) (x1 : Int32) : Option (Int32 × Mem) := f_X5_isOn_0 M x1
set_option maxHeartbeats 4000000 in
set_option maxRecDepth 100000 in
theorem c_X5_isOn {l : Launch} {Z : Zt} {b : Nat} {M : Mem} {x1 : Int32} {r' : Int32} {M' : Mem} (h : f_X5_isOn M x1 = some (r', M')) : Ct l yX5_isOn cX5_isOn 2 (some .boolean) rm_X5_isOn Z b [.ref (b + 156), .int x1] M (some (.int r')) M' := by
  refine Met.ofW (cc := cX5_isOn) (maxL := 2) (ret := (some .boolean)) (by decide) rfl ?_
  intro p e s m args below meth c s₁ B hml hv
  obtain ⟨rfl, hE, hW⟩ := hv
  have C : Cx p s m [.ref (b + 156), .int x1].toArray c cX5_isOn RX5 Z b := ⟨B.exec, B.bytes, findClass_of_methodNamed B.named, fun w hw => atoms_spec (ws := Cond.code yX5_isOn cX5_isOn 2 (some .boolean) :: wsA) B.pre w (List.mem_cons_of_mem _ hw), hE⟩
  have hl := lv_entry [.ref (b + 156), .int x1] (n := 2) (Nat.le_of_ble_eq_true rfl)
  rw [lg_entry_eq]
  generalize (lg_sl [.ref (b + 156), .int x1] ++ List.replicate (2 - (lg_sl [.ref (b + 156), .int x1]).length) Slot.unset).toArray = ls at hl ⊢
  have hl : lv_has ls 2 [(0, .ref (b + 156)), (1, .int x1)] := hl
  exact w_X5_isOn_0 C hml B.returns B.notSynchronized h va_S.rf hW hl

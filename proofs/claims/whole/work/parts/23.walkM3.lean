def f_X5_clashes_85 (K6 : Mem → Int32 → Int32 → Int32 → Int32 → Int32 → Option (Int32 × Mem)) (M : Mem) (x1 : Int32) (x2 : Int32) (x3 : Int32) (x5 : Int32) (xs0 : Int32) (xs1 : Int32) : Option (Int32 × Mem) :=
  K6 M x1 x2 x3 (xs0 ||| xs1) (x5 + 1)
set_option maxHeartbeats 4000000 in
set_option maxRecDepth 100000 in
theorem w_X5_clashes_85 {p : Program} {l : Launch} {e : Env} {s : State} {m : MethodId} {args : Array Value} {below : List Frame} {meth : Method} {c : Code} {Z : Zt} {b : Nat} (C : Cx p s m args c cX5_clashes RX5 Z b) (hml : c.maxLocals = 7) (hr : meth.sig.returnType = (some .boolean)) (hlk : meth.locks = false) {r' : Int32} {M' : Mem} {K6 : Mem → Int32 → Int32 → Int32 → Int32 → Int32 → Option (Int32 × Mem)} (hK6 : ∀ {M : Mem} {x1 : Int32} {x2 : Int32} {x3 : Int32} {x4 : Int32} {x5 : Int32} (h : K6 M x1 x2 x3 x4 x5 = some (r', M')) {H : Heap} {locs : List Loc} {ls : Array Slot} (hS : va_S (A0 b) s.heap H locs) (hW : Wd Z b M H) (hl : lv_has ls 7 [(0, .ref (b + 156)), (1, .int x1), (2, .int x2), (3, .int x3), (4, .int x4), (5, .int x5)]), W p l e rm_X5_clashes s m args below meth c H locs 0 0 (MQ below (Qn Z b (some (.int r')) M') args s 0 0 (A0 b)) (F0 m 6 ls [])) {M : Mem} {x1 : Int32} {x2 : Int32} {x3 : Int32} {x5 : Int32} {xs0 : Int32} {xs1 : Int32} (h : f_X5_clashes_85 K6 M x1 x2 x3 x5 xs0 xs1 = some (r', M')) {H : Heap} {locs : List Loc} {ls : Array Slot} (hS : va_S (A0 b) s.heap H locs) (hW : Wd Z b M H) (hl : lv_has ls 7 [(0, .ref (b + 156)), (1, .int x1), (2, .int x2), (3, .int x3), (5, .int x5)]) : W p l e rm_X5_clashes s m args below meth c H locs 0 0 (MQ below (Qn Z b (some (.int r')) M') args s 0 0 (A0 b)) (F0 m 85 ls [.int xs1, .int xs0]) := by
  unfold f_X5_clashes_85 at h
  have hx := C.1
  have hb := C.2.1
  refine lv_ior hx hb dX5_clashes_85 ?_
  refine lv_istore (lv' := [(4, .int (xs0 ||| xs1)), (0, .ref (b + 156)), (1, .int x1), (2, .int x2), (3, .int x3), (5, .int x5)]) hx hb dX5_clashes_86 hl (by decide) rfl (fun ls hl => ?_)
  refine lv_iinc (v := x5 + 1) (lv' := [(5, .int (x5 + 1)), (4, .int (xs0 ||| xs1)), (0, .ref (b + 156)), (1, .int x1), (2, .int x2), (3, .int x3)]) hx hb dX5_clashes_88 hl (k := 5) rfl rfl (by decide) rfl (fun ls hl => ?_)
  refine lv_goto (tgt := 6) hx hb dX5_clashes_91 (by decide) ?_
  exact hK6 h hS hW (lv_sub hl [2, 3, 4, 5, 1, 0] rfl)
def f_X5_clashes_84 (K6 : Mem → Int32 → Int32 → Int32 → Int32 → Int32 → Option (Int32 × Mem)) (M : Mem) (x1 : Int32) (x2 : Int32) (x3 : Int32) (x5 : Int32) (xs0 : Int32) : Option (Int32 × Mem) :=
  f_X5_clashes_85 K6 M x1 x2 x3 x5 xs0 (0 : Int32)
set_option maxHeartbeats 4000000 in
set_option maxRecDepth 100000 in
theorem w_X5_clashes_84 {p : Program} {l : Launch} {e : Env} {s : State} {m : MethodId} {args : Array Value} {below : List Frame} {meth : Method} {c : Code} {Z : Zt} {b : Nat} (C : Cx p s m args c cX5_clashes RX5 Z b) (hml : c.maxLocals = 7) (hr : meth.sig.returnType = (some .boolean)) (hlk : meth.locks = false) {r' : Int32} {M' : Mem} {K6 : Mem → Int32 → Int32 → Int32 → Int32 → Int32 → Option (Int32 × Mem)} (hK6 : ∀ {M : Mem} {x1 : Int32} {x2 : Int32} {x3 : Int32} {x4 : Int32} {x5 : Int32} (h : K6 M x1 x2 x3 x4 x5 = some (r', M')) {H : Heap} {locs : List Loc} {ls : Array Slot} (hS : va_S (A0 b) s.heap H locs) (hW : Wd Z b M H) (hl : lv_has ls 7 [(0, .ref (b + 156)), (1, .int x1), (2, .int x2), (3, .int x3), (4, .int x4), (5, .int x5)]), W p l e rm_X5_clashes s m args below meth c H locs 0 0 (MQ below (Qn Z b (some (.int r')) M') args s 0 0 (A0 b)) (F0 m 6 ls [])) {M : Mem} {x1 : Int32} {x2 : Int32} {x3 : Int32} {x5 : Int32} {xs0 : Int32} (h : f_X5_clashes_84 K6 M x1 x2 x3 x5 xs0 = some (r', M')) {H : Heap} {locs : List Loc} {ls : Array Slot} (hS : va_S (A0 b) s.heap H locs) (hW : Wd Z b M H) (hl : lv_has ls 7 [(0, .ref (b + 156)), (1, .int x1), (2, .int x2), (3, .int x3), (5, .int x5)]) : W p l e rm_X5_clashes s m args below meth c H locs 0 0 (MQ below (Qn Z b (some (.int r')) M') args s 0 0 (A0 b)) (F0 m 84 ls [.int xs0]) := by
  unfold f_X5_clashes_84 at h
  have hx := C.1
  have hb := C.2.1
  refine lv_iconst (v := (0 : Int32)) hx hb dX5_clashes_84 (by decide) ?_
  exact w_X5_clashes_85 C hml hr hlk hK6 h hS hW (lv_sub hl [0, 1, 2, 3, 4] rfl)
def f_X5_clashes_80 (K6 : Mem → Int32 → Int32 → Int32 → Int32 → Int32 → Option (Int32 × Mem)) (M : Mem) (x1 : Int32) (x2 : Int32) (x3 : Int32) (x5 : Int32) (xs0 : Int32) : Option (Int32 × Mem) :=
  f_X5_clashes_85 K6 M x1 x2 x3 x5 xs0 (1 : Int32)
set_option maxHeartbeats 4000000 in
set_option maxRecDepth 100000 in
theorem w_X5_clashes_80 {p : Program} {l : Launch} {e : Env} {s : State} {m : MethodId} {args : Array Value} {below : List Frame} {meth : Method} {c : Code} {Z : Zt} {b : Nat} (C : Cx p s m args c cX5_clashes RX5 Z b) (hml : c.maxLocals = 7) (hr : meth.sig.returnType = (some .boolean)) (hlk : meth.locks = false) {r' : Int32} {M' : Mem} {K6 : Mem → Int32 → Int32 → Int32 → Int32 → Int32 → Option (Int32 × Mem)} (hK6 : ∀ {M : Mem} {x1 : Int32} {x2 : Int32} {x3 : Int32} {x4 : Int32} {x5 : Int32} (h : K6 M x1 x2 x3 x4 x5 = some (r', M')) {H : Heap} {locs : List Loc} {ls : Array Slot} (hS : va_S (A0 b) s.heap H locs) (hW : Wd Z b M H) (hl : lv_has ls 7 [(0, .ref (b + 156)), (1, .int x1), (2, .int x2), (3, .int x3), (4, .int x4), (5, .int x5)]), W p l e rm_X5_clashes s m args below meth c H locs 0 0 (MQ below (Qn Z b (some (.int r')) M') args s 0 0 (A0 b)) (F0 m 6 ls [])) {M : Mem} {x1 : Int32} {x2 : Int32} {x3 : Int32} {x5 : Int32} {xs0 : Int32} (h : f_X5_clashes_80 K6 M x1 x2 x3 x5 xs0 = some (r', M')) {H : Heap} {locs : List Loc} {ls : Array Slot} (hS : va_S (A0 b) s.heap H locs) (hW : Wd Z b M H) (hl : lv_has ls 7 [(0, .ref (b + 156)), (1, .int x1), (2, .int x2), (3, .int x3), (5, .int x5)]) : W p l e rm_X5_clashes s m args below meth c H locs 0 0 (MQ below (Qn Z b (some (.int r')) M') args s 0 0 (A0 b)) (F0 m 80 ls [.int xs0]) := by
  unfold f_X5_clashes_80 at h
  have hx := C.1
  have hb := C.2.1
  refine lv_iconst (v := (1 : Int32)) hx hb dX5_clashes_80 (by decide) ?_
  refine lv_goto (tgt := 85) hx hb dX5_clashes_81 (by decide) ?_
  exact w_X5_clashes_85 C hml hr hlk hK6 h hS hW (lv_sub hl [0, 1, 2, 3, 4] rfl)
def f_X5_clashes_57 (K6 : Mem → Int32 → Int32 → Int32 → Int32 → Int32 → Option (Int32 × Mem)) (M : Mem) (x1 : Int32) (x2 : Int32) (x3 : Int32) (x4 : Int32) (x5 : Int32) (xs0 : Int32) : Option (Int32 × Mem) :=
  if xs0 = 0 then f_X5_clashes_84 K6 M x1 x2 x3 x5 x4 else if x2 = 0 then f_X5_clashes_80 K6 M x1 x2 x3 x5 x4 else if x5 < 0 ∨ 30 ≤ x5.toNatClampNeg then none else if (M 32 x5.toNatClampNeg) = 0 then f_X5_clashes_80 K6 M x1 x2 x3 x5 x4 else f_X5_clashes_84 K6 M x1 x2 x3 x5 x4
set_option maxHeartbeats 4000000 in
set_option maxRecDepth 100000 in
theorem w_X5_clashes_57 {p : Program} {l : Launch} {e : Env} {s : State} {m : MethodId} {args : Array Value} {below : List Frame} {meth : Method} {c : Code} {Z : Zt} {b : Nat} (C : Cx p s m args c cX5_clashes RX5 Z b) (hml : c.maxLocals = 7) (hr : meth.sig.returnType = (some .boolean)) (hlk : meth.locks = false) {r' : Int32} {M' : Mem} {K6 : Mem → Int32 → Int32 → Int32 → Int32 → Int32 → Option (Int32 × Mem)} (hK6 : ∀ {M : Mem} {x1 : Int32} {x2 : Int32} {x3 : Int32} {x4 : Int32} {x5 : Int32} (h : K6 M x1 x2 x3 x4 x5 = some (r', M')) {H : Heap} {locs : List Loc} {ls : Array Slot} (hS : va_S (A0 b) s.heap H locs) (hW : Wd Z b M H) (hl : lv_has ls 7 [(0, .ref (b + 156)), (1, .int x1), (2, .int x2), (3, .int x3), (4, .int x4), (5, .int x5)]), W p l e rm_X5_clashes s m args below meth c H locs 0 0 (MQ below (Qn Z b (some (.int r')) M') args s 0 0 (A0 b)) (F0 m 6 ls [])) {M : Mem} {x1 : Int32} {x2 : Int32} {x3 : Int32} {x4 : Int32} {x5 : Int32} {xs0 : Int32} (h : f_X5_clashes_57 K6 M x1 x2 x3 x4 x5 xs0 = some (r', M')) {H : Heap} {locs : List Loc} {ls : Array Slot} (hS : va_S (A0 b) s.heap H locs) (hW : Wd Z b M H) (hl : lv_has ls 7 [(0, .ref (b + 156)), (1, .int x1), (2, .int x2), (3, .int x3), (4, .int x4), (5, .int x5)]) : W p l e rm_X5_clashes s m args below meth c H locs 0 0 (MQ below (Qn Z b (some (.int r')) M') args s 0 0 (A0 b)) (F0 m 57 ls [.int xs0]) := by
  unfold f_X5_clashes_57 at h
  have hx := C.1
  have hb := C.2.1
  refine lv_istore (lv' := [(6, .int xs0), (0, .ref (b + 156)), (1, .int x1), (2, .int x2), (3, .int x3), (4, .int x4), (5, .int x5)]) hx hb dX5_clashes_57 hl (by decide) rfl (fun ls hl => ?_)
  refine lv_iload hx hb dX5_clashes_59 (lv_at hl 5 rfl) ?_
  refine lv_iload hx hb dX5_clashes_61 (lv_at hl 0 rfl) ?_
  refine lv_if_eq (tgt := 84) hx hb dX5_clashes_63 (by decide) (fun c63 => ?_) (fun c63 => ?_)
  · have h := (if_pos c63).symm.trans h
    exact w_X5_clashes_84 C hml hr hlk hK6 h hS hW (lv_sub hl [1, 2, 3, 4, 6] rfl)
  · have h := (if_neg c63).symm.trans h
    refine lv_iload_n hx hb dX5_clashes_66 rfl (lv_at hl 3 rfl) ?_
    refine lv_if_eq (tgt := 80) hx hb dX5_clashes_67 (by decide) (fun c67 => ?_) (fun c67 => ?_)
    · have h := (if_pos c67).symm.trans h
      exact w_X5_clashes_80 C hml hr hlk hK6 h hS hW (lv_sub hl [1, 2, 3, 4, 6] rfl)
    · have h := (if_neg c67).symm.trans h
      refine lv_aload_n hx hb dX5_clashes_70 rfl (lv_at hl 1 rfl) ?_
      refine gX5_38 C hW dX5_clashes_71 ?_
      refine lv_iload hx hb dX5_clashes_74 (lv_at hl 6 rfl) ?_
      obtain ⟨g76, h⟩ := gd h
      refine ald_166 C hW g76 dX5_clashes_76 ?_
      refine lv_if_ne (tgt := 84) hx hb dX5_clashes_77 (by decide) (fun c77 => ?_) (fun c77 => ?_)
      · have h := (if_neg c77).symm.trans h
        exact w_X5_clashes_84 C hml hr hlk hK6 h hS hW (lv_sub hl [1, 2, 3, 4, 6] rfl)
      · have h := (if_pos c77).symm.trans h
        exact w_X5_clashes_80 C hml hr hlk hK6 h hS hW (lv_sub hl [1, 2, 3, 4, 6] rfl)
def f_X5_clashes_52 (K6 : Mem → Int32 → Int32 → Int32 → Int32 → Int32 → Option (Int32 × Mem)) (M : Mem) (x1 : Int32) (x2 : Int32) (x3 : Int32) (x4 : Int32) (x5 : Int32) : Option (Int32 × Mem) :=
  f_X5_clashes_57 K6 M x1 x2 x3 x4 x5 (1 : Int32)
set_option maxHeartbeats 4000000 in
set_option maxRecDepth 100000 in
theorem w_X5_clashes_52 {p : Program} {l : Launch} {e : Env} {s : State} {m : MethodId} {args : Array Value} {below : List Frame} {meth : Method} {c : Code} {Z : Zt} {b : Nat} (C : Cx p s m args c cX5_clashes RX5 Z b) (hml : c.maxLocals = 7) (hr : meth.sig.returnType = (some .boolean)) (hlk : meth.locks = false) {r' : Int32} {M' : Mem} {K6 : Mem → Int32 → Int32 → Int32 → Int32 → Int32 → Option (Int32 × Mem)} (hK6 : ∀ {M : Mem} {x1 : Int32} {x2 : Int32} {x3 : Int32} {x4 : Int32} {x5 : Int32} (h : K6 M x1 x2 x3 x4 x5 = some (r', M')) {H : Heap} {locs : List Loc} {ls : Array Slot} (hS : va_S (A0 b) s.heap H locs) (hW : Wd Z b M H) (hl : lv_has ls 7 [(0, .ref (b + 156)), (1, .int x1), (2, .int x2), (3, .int x3), (4, .int x4), (5, .int x5)]), W p l e rm_X5_clashes s m args below meth c H locs 0 0 (MQ below (Qn Z b (some (.int r')) M') args s 0 0 (A0 b)) (F0 m 6 ls [])) {M : Mem} {x1 : Int32} {x2 : Int32} {x3 : Int32} {x4 : Int32} {x5 : Int32} (h : f_X5_clashes_52 K6 M x1 x2 x3 x4 x5 = some (r', M')) {H : Heap} {locs : List Loc} {ls : Array Slot} (hS : va_S (A0 b) s.heap H locs) (hW : Wd Z b M H) (hl : lv_has ls 7 [(0, .ref (b + 156)), (1, .int x1), (2, .int x2), (3, .int x3), (4, .int x4), (5, .int x5)]) : W p l e rm_X5_clashes s m args below meth c H locs 0 0 (MQ below (Qn Z b (some (.int r')) M') args s 0 0 (A0 b)) (F0 m 52 ls []) := by
  unfold f_X5_clashes_52 at h
  have hx := C.1
  have hb := C.2.1
  refine lv_iconst (v := (1 : Int32)) hx hb dX5_clashes_52 (by decide) ?_
  refine lv_goto (tgt := 57) hx hb dX5_clashes_53 (by decide) ?_
  exact w_X5_clashes_57 C hml hr hlk hK6 h hS hW (lv_sub hl [0, 1, 2, 3, 4, 5] rfl)
def f_X5_clashes_56 (K6 : Mem → Int32 → Int32 → Int32 → Int32 → Int32 → Option (Int32 × Mem)) (M : Mem) (x1 : Int32) (x2 : Int32) (x3 : Int32) (x4 : Int32) (x5 : Int32) : Option (Int32 × Mem) :=
  f_X5_clashes_57 K6 M x1 x2 x3 x4 x5 (0 : Int32)
set_option maxHeartbeats 4000000 in
set_option maxRecDepth 100000 in
theorem w_X5_clashes_56 {p : Program} {l : Launch} {e : Env} {s : State} {m : MethodId} {args : Array Value} {below : List Frame} {meth : Method} {c : Code} {Z : Zt} {b : Nat} (C : Cx p s m args c cX5_clashes RX5 Z b) (hml : c.maxLocals = 7) (hr : meth.sig.returnType = (some .boolean)) (hlk : meth.locks = false) {r' : Int32} {M' : Mem} {K6 : Mem → Int32 → Int32 → Int32 → Int32 → Int32 → Option (Int32 × Mem)} (hK6 : ∀ {M : Mem} {x1 : Int32} {x2 : Int32} {x3 : Int32} {x4 : Int32} {x5 : Int32} (h : K6 M x1 x2 x3 x4 x5 = some (r', M')) {H : Heap} {locs : List Loc} {ls : Array Slot} (hS : va_S (A0 b) s.heap H locs) (hW : Wd Z b M H) (hl : lv_has ls 7 [(0, .ref (b + 156)), (1, .int x1), (2, .int x2), (3, .int x3), (4, .int x4), (5, .int x5)]), W p l e rm_X5_clashes s m args below meth c H locs 0 0 (MQ below (Qn Z b (some (.int r')) M') args s 0 0 (A0 b)) (F0 m 6 ls [])) {M : Mem} {x1 : Int32} {x2 : Int32} {x3 : Int32} {x4 : Int32} {x5 : Int32} (h : f_X5_clashes_56 K6 M x1 x2 x3 x4 x5 = some (r', M')) {H : Heap} {locs : List Loc} {ls : Array Slot} (hS : va_S (A0 b) s.heap H locs) (hW : Wd Z b M H) (hl : lv_has ls 7 [(0, .ref (b + 156)), (1, .int x1), (2, .int x2), (3, .int x3), (4, .int x4), (5, .int x5)]) : W p l e rm_X5_clashes s m args below meth c H locs 0 0 (MQ below (Qn Z b (some (.int r')) M') args s 0 0 (A0 b)) (F0 m 56 ls []) := by
  unfold f_X5_clashes_56 at h
  have hx := C.1
  have hb := C.2.1
  refine lv_iconst (v := (0 : Int32)) hx hb dX5_clashes_56 (by decide) ?_
  exact w_X5_clashes_57 C hml hr hlk hK6 h hS hW (lv_sub hl [0, 1, 2, 3, 4, 5] rfl)
def f_X5_clashes_6B (K6 : Mem → Int32 → Int32 → Int32 → Int32 → Int32 → Option (Int32 × Mem)) (M : Mem) (x1 : Int32) (x2 : Int32) (x3 : Int32) (x4 : Int32) (x5 : Int32) : Option (Int32 × Mem) :=
  if (M 29 0) ≤ x5 then (if x4 &&& 1 = x4 then some (x4, M) else none) else bd2 (f_X5_covers M x5 x1) (fun r19 M19 => if r19 = 0 then (if x3 = 0 then f_X5_clashes_56 K6 M19 x1 x2 x3 x4 x5 else bd2 (f_X5_isOn M19 x5) (fun r32 M32 => if r32 = 0 then f_X5_clashes_56 K6 M32 x1 x2 x3 x4 x5 else if x5 < 0 ∨ 30 ≤ x5.toNatClampNeg then none else bd2 (f_X5_isAbove M32 x1 (M32 31 x5.toNatClampNeg)) (fun r46 M46 => if r46 = 0 then f_X5_clashes_56 K6 M46 x1 x2 x3 x4 x5 else f_X5_clashes_52 K6 M46 x1 x2 x3 x4 x5))) else f_X5_clashes_52 K6 M19 x1 x2 x3 x4 x5)
def f_X5_clashes_6 : Nat → Mem → Int32 → Int32 → Int32 → Int32 → Int32 → Option (Int32 × Mem)
  | 0 => fun _ _ _ _ _ _ => none
  | n + 1 => f_X5_clashes_6B (f_X5_clashes_6 n)
set_option maxHeartbeats 4000000 in
set_option maxRecDepth 100000 in
theorem w_X5_clashes_6 {p : Program} {l : Launch} {e : Env} {s : State} {m : MethodId} {args : Array Value} {below : List Frame} {meth : Method} {c : Code} {Z : Zt} {b : Nat} (C : Cx p s m args c cX5_clashes RX5 Z b) (hml : c.maxLocals = 7) (hr : meth.sig.returnType = (some .boolean)) (hlk : meth.locks = false) {r' : Int32} {M' : Mem} : ∀ (n : Nat) {M : Mem} {x1 : Int32} {x2 : Int32} {x3 : Int32} {x4 : Int32} {x5 : Int32} (h : f_X5_clashes_6 n M x1 x2 x3 x4 x5 = some (r', M')) {H : Heap} {locs : List Loc} {ls : Array Slot} (hS : va_S (A0 b) s.heap H locs) (hW : Wd Z b M H) (hl : lv_has ls 7 [(0, .ref (b + 156)), (1, .int x1), (2, .int x2), (3, .int x3), (4, .int x4), (5, .int x5)]), W p l e rm_X5_clashes s m args below meth c H locs 0 0 (MQ below (Qn Z b (some (.int r')) M') args s 0 0 (A0 b)) (F0 m 6 ls []) := by
  intro n
  induction n with
  | zero =>
    intro M x1 x2 x3 x4 x5 h
    cases h
  | succ n ih =>
    intro M x1 x2 x3 x4 x5 h H locs ls hS hW hl
    have h : f_X5_clashes_6B (f_X5_clashes_6 n) M x1 x2 x3 x4 x5 = some (r', M') := h
    unfold f_X5_clashes_6B at h
    have hK6 := @ih
    have hx := C.1
    have hb := C.2.1
    refine lv_iload hx hb dX5_clashes_6 (lv_at hl 5 rfl) ?_
    refine lv_aload_n hx hb dX5_clashes_8 rfl (lv_at hl 0 rfl) ?_
    refine gX5_85 C hW dX5_clashes_9 ?_
    refine lv_icmp_ge (tgt := 94) hx hb dX5_clashes_12 (by decide) (fun c12 => ?_) (fun c12 => ?_)
    · have h := (if_pos c12).symm.trans h
      refine lv_iload hx hb dX5_clashes_94 (lv_at hl 4 rfl) ?_
      obtain ⟨g96, h⟩ := gdp h
      cases h
      exact ret_z C hr hlk g96 hS hW dX5_clashes_96
    · have h := (if_neg c12).symm.trans h
      refine lv_aload_n hx hb dX5_clashes_15 rfl (lv_at hl 0 rfl) ?_
      refine lv_iload hx hb dX5_clashes_16 (lv_at hl 5 rfl) ?_
      refine lv_iload_n hx hb dX5_clashes_18 rfl (lv_at hl 1 rfl) ?_
      obtain ⟨r19, M19, hc19, h⟩ := bd2_e h
      refine kX5_94 C hml hl.1 (c_X5_covers hc19) ⟨Nat.le_of_ble_eq_true rfl, Nat.le_of_ble_eq_true rfl⟩ ⟨Nat.le_of_ble_eq_true rfl, Nat.le_of_ble_eq_true rfl⟩ (Nat.le_of_ble_eq_true rfl) hS hW dX5_clashes_19 (fun H locs hW hS => ?_)
      refine lv_if_ne (tgt := 52) hx hb dX5_clashes_22 (by decide) (fun c22 => ?_) (fun c22 => ?_)
      · have h := (if_neg c22).symm.trans h
        exact w_X5_clashes_52 C hml hr hlk hK6 h hS hW (lv_sub hl [0, 1, 2, 3, 4, 5] rfl)
      · have h := (if_pos c22).symm.trans h
        refine lv_iload_n hx hb dX5_clashes_25 rfl (lv_at hl 3 rfl) ?_
        refine lv_if_eq (tgt := 56) hx hb dX5_clashes_26 (by decide) (fun c26 => ?_) (fun c26 => ?_)
        · have h := (if_pos c26).symm.trans h
          exact w_X5_clashes_56 C hml hr hlk hK6 h hS hW (lv_sub hl [0, 1, 2, 3, 4, 5] rfl)
        · have h := (if_neg c26).symm.trans h
          refine lv_aload_n hx hb dX5_clashes_29 rfl (lv_at hl 0 rfl) ?_
          refine lv_iload hx hb dX5_clashes_30 (lv_at hl 5 rfl) ?_
          obtain ⟨r32, M32, hc32, h⟩ := bd2_e h
          refine kX5_91 C hml hl.1 (c_X5_isOn hc32) ⟨Nat.le_of_ble_eq_true rfl, Nat.le_of_ble_eq_true rfl⟩ ⟨Nat.le_of_ble_eq_true rfl, Nat.le_of_ble_eq_true rfl⟩ (Nat.le_of_ble_eq_true rfl) hS hW dX5_clashes_32 (fun H locs hW hS => ?_)
          refine lv_if_eq (tgt := 56) hx hb dX5_clashes_35 (by decide) (fun c35 => ?_) (fun c35 => ?_)
          · have h := (if_pos c35).symm.trans h
            exact w_X5_clashes_56 C hml hr hlk hK6 h hS hW (lv_sub hl [0, 1, 2, 3, 4, 5] rfl)
          · have h := (if_neg c35).symm.trans h
            refine lv_iload_n hx hb dX5_clashes_38 rfl (lv_at hl 1 rfl) ?_
            refine lv_aload_n hx hb dX5_clashes_39 rfl (lv_at hl 0 rfl) ?_
            refine gX5_35 C hW dX5_clashes_40 ?_
            refine lv_iload hx hb dX5_clashes_43 (lv_at hl 5 rfl) ?_
            obtain ⟨g45, h⟩ := gd h
            refine ald_165 C hW g45 dX5_clashes_45 ?_
            obtain ⟨r46, M46, hc46, h⟩ := bd2_e h
            refine kX5_78 C hml hl.1 (c_X5_isAbove hc46) ⟨Nat.le_of_ble_eq_true rfl, Nat.le_of_ble_eq_true rfl⟩ ⟨Nat.le_of_ble_eq_true rfl, Nat.le_of_ble_eq_true rfl⟩ (Nat.le_of_ble_eq_true rfl) hS hW dX5_clashes_46 (fun H locs hW hS => ?_)
            refine lv_if_eq (tgt := 56) hx hb dX5_clashes_49 (by decide) (fun c49 => ?_) (fun c49 => ?_)
            · have h := (if_pos c49).symm.trans h
              exact w_X5_clashes_56 C hml hr hlk hK6 h hS hW (lv_sub hl [0, 1, 2, 3, 4, 5] rfl)
            · have h := (if_neg c49).symm.trans h
              exact w_X5_clashes_52 C hml hr hlk hK6 h hS hW (lv_sub hl [0, 1, 2, 3, 4, 5] rfl)
def f_X5_clashes_0 (M : Mem) (x1 : Int32) (x2 : Int32) (x3 : Int32) : Option (Int32 × Mem) :=
  f_X5_clashes_6 64 M x1 x2 x3 (0 : Int32) (0 : Int32)
set_option maxHeartbeats 4000000 in
set_option maxRecDepth 100000 in
theorem w_X5_clashes_0 {p : Program} {l : Launch} {e : Env} {s : State} {m : MethodId} {args : Array Value} {below : List Frame} {meth : Method} {c : Code} {Z : Zt} {b : Nat} (C : Cx p s m args c cX5_clashes RX5 Z b) (hml : c.maxLocals = 7) (hr : meth.sig.returnType = (some .boolean)) (hlk : meth.locks = false) {r' : Int32} {M' : Mem} {M : Mem} {x1 : Int32} {x2 : Int32} {x3 : Int32} (h : f_X5_clashes_0 M x1 x2 x3 = some (r', M')) {H : Heap} {locs : List Loc} {ls : Array Slot} (hS : va_S (A0 b) s.heap H locs) (hW : Wd Z b M H) (hl : lv_has ls 7 [(0, .ref (b + 156)), (1, .int x1), (2, .int x2), (3, .int x3)]) : W p l e rm_X5_clashes s m args below meth c H locs 0 0 (MQ below (Qn Z b (some (.int r')) M') args s 0 0 (A0 b)) (F0 m 0 ls []) := by
  unfold f_X5_clashes_0 at h
  have hx := C.1
  have hb := C.2.1
  refine lv_iconst (v := (0 : Int32)) hx hb dX5_clashes_0 (by decide) ?_
  refine lv_istore (lv' := [(4, .int (0 : Int32)), (0, .ref (b + 156)), (1, .int x1), (2, .int x2), (3, .int x3)]) hx hb dX5_clashes_1 hl (by decide) rfl (fun ls hl => ?_)
  refine lv_iconst (v := (0 : Int32)) hx hb dX5_clashes_3 (by decide) ?_
  refine lv_istore (lv' := [(5, .int (0 : Int32)), (4, .int (0 : Int32)), (0, .ref (b + 156)), (1, .int x1), (2, .int x2), (3, .int x3)]) hx hb dX5_clashes_4 hl (by decide) rfl (fun ls hl => ?_)
  exact w_X5_clashes_6 C hml hr hlk 64 h hS hW (lv_sub hl [2, 3, 4, 5, 1, 0] rfl)
def f_X5_clashes (M : Mem) (x1 : Int32) (x2 : Int32) (x3 : Int32) : Option (Int32 × Mem) := f_X5_clashes_0 M x1 x2 x3
set_option maxHeartbeats 4000000 in
set_option maxRecDepth 100000 in
theorem c_X5_clashes {l : Launch} {Z : Zt} {b : Nat} {M : Mem} {x1 : Int32} {x2 : Int32} {x3 : Int32} {r' : Int32} {M' : Mem} (h : f_X5_clashes M x1 x2 x3 = some (r', M')) : Ct l yX5_clashes cX5_clashes 7 (some .boolean) rm_X5_clashes Z b [.ref (b + 156), .int x1, .int x2, .int x3] M (some (.int r')) M' := by
  refine Met.ofW (cc := cX5_clashes) (maxL := 7) (ret := (some .boolean)) (by decide) rfl ?_
  intro p e s m args below meth c s₁ B hml hv
  obtain ⟨rfl, hE, hW⟩ := hv
  have C : Cx p s m [.ref (b + 156), .int x1, .int x2, .int x3].toArray c cX5_clashes RX5 Z b := ⟨B.exec, B.bytes, findClass_of_methodNamed B.named, fun w hw => atoms_spec (ws := Cond.code yX5_clashes cX5_clashes 7 (some .boolean) :: wsA) B.pre w (List.mem_cons_of_mem _ hw), hE⟩
  have hl := lv_entry [.ref (b + 156), .int x1, .int x2, .int x3] (n := 7) (Nat.le_of_ble_eq_true rfl)
  rw [lg_entry_eq]
  generalize (lg_sl [.ref (b + 156), .int x1, .int x2, .int x3] ++ List.replicate (7 - (lg_sl [.ref (b + 156), .int x1, .int x2, .int x3]).length) Slot.unset).toArray = ls at hl ⊢
  have hl : lv_has ls 7 [(0, .ref (b + 156)), (1, .int x1), (2, .int x2), (3, .int x3)] := hl
  exact w_X5_clashes_0 C hml B.returns B.notSynchronized h va_S.rf hW hl
def f_X5_lock_142 (M : Mem) (x1 : Int32) (x2 : Int32) (x3 : Int32) (x4 : Int32) (x5 : Int32) : Option (Int32 × Mem) :=
  if (M 29 0) < 0 ∨ 30 ≤ (M 29 0).toNatClampNeg then none else if ((mu M 30 (M 29 0).toNatClampNeg x1) 29 0) < 0 ∨ 30 ≤ ((mu M 30 (M 29 0).toNatClampNeg x1) 29 0).toNatClampNeg then none else if ((mu (mu M 30 (M 29 0).toNatClampNeg x1) 31 ((mu M 30 (M 29 0).toNatClampNeg x1) 29 0).toNatClampNeg x2) 29 0) < 0 ∨ 30 ≤ ((mu (mu M 30 (M 29 0).toNatClampNeg x1) 31 ((mu M 30 (M 29 0).toNatClampNeg x1) 29 0).toNatClampNeg x2) 29 0).toNatClampNeg then none else if ((mu (mu (mu M 30 (M 29 0).toNatClampNeg x1) 31 ((mu M 30 (M 29 0).toNatClampNeg x1) 29 0).toNatClampNeg x2) 32 ((mu (mu M 30 (M 29 0).toNatClampNeg x1) 31 ((mu M 30 (M 29 0).toNatClampNeg x1) 29 0).toNatClampNeg x2) 29 0).toNatClampNeg (x3 &&& 1)) 29 0) < 0 ∨ 30 ≤ ((mu (mu (mu M 30 (M 29 0).toNatClampNeg x1) 31 ((mu M 30 (M 29 0).toNatClampNeg x1) 29 0).toNatClampNeg x2) 32 ((mu (mu M 30 (M 29 0).toNatClampNeg x1) 31 ((mu M 30 (M 29 0).toNatClampNeg x1) 29 0).toNatClampNeg x2) 29 0).toNatClampNeg (x3 &&& 1)) 29 0).toNatClampNeg then none else if ((mu (mu (mu (mu M 30 (M 29 0).toNatClampNeg x1) 31 ((mu M 30 (M 29 0).toNatClampNeg x1) 29 0).toNatClampNeg x2) 32 ((mu (mu M 30 (M 29 0).toNatClampNeg x1) 31 ((mu M 30 (M 29 0).toNatClampNeg x1) 29 0).toNatClampNeg x2) 29 0).toNatClampNeg (x3 &&& 1)) 33 ((mu (mu (mu M 30 (M 29 0).toNatClampNeg x1) 31 ((mu M 30 (M 29 0).toNatClampNeg x1) 29 0).toNatClampNeg x2) 32 ((mu (mu M 30 (M 29 0).toNatClampNeg x1) 31 ((mu M 30 (M 29 0).toNatClampNeg x1) 29 0).toNatClampNeg x2) 29 0).toNatClampNeg (x3 &&& 1)) 29 0).toNatClampNeg (x4 &&& 1)) 29 0) < 0 ∨ 30 ≤ ((mu (mu (mu (mu M 30 (M 29 0).toNatClampNeg x1) 31 ((mu M 30 (M 29 0).toNatClampNeg x1) 29 0).toNatClampNeg x2) 32 ((mu (mu M 30 (M 29 0).toNatClampNeg x1) 31 ((mu M 30 (M 29 0).toNatClampNeg x1) 29 0).toNatClampNeg x2) 29 0).toNatClampNeg (x3 &&& 1)) 33 ((mu (mu (mu M 30 (M 29 0).toNatClampNeg x1) 31 ((mu M 30 (M 29 0).toNatClampNeg x1) 29 0).toNatClampNeg x2) 32 ((mu (mu M 30 (M 29 0).toNatClampNeg x1) 31 ((mu M 30 (M 29 0).toNatClampNeg x1) 29 0).toNatClampNeg x2) 29 0).toNatClampNeg (x3 &&& 1)) 29 0).toNatClampNeg (x4 &&& 1)) 29 0).toNatClampNeg then none else some (((mu (mu (mu (mu (mu (mu M 30 (M 29 0).toNatClampNeg x1) 31 ((mu M 30 (M 29 0).toNatClampNeg x1) 29 0).toNatClampNeg x2) 32 ((mu (mu M 30 (M 29 0).toNatClampNeg x1) 31 ((mu M 30 (M 29 0).toNatClampNeg x1) 29 0).toNatClampNeg x2) 29 0).toNatClampNeg (x3 &&& 1)) 33 ((mu (mu (mu M 30 (M 29 0).toNatClampNeg x1) 31 ((mu M 30 (M 29 0).toNatClampNeg x1) 29 0).toNatClampNeg x2) 32 ((mu (mu M 30 (M 29 0).toNatClampNeg x1) 31 ((mu M 30 (M 29 0).toNatClampNeg x1) 29 0).toNatClampNeg x2) 29 0).toNatClampNeg (x3 &&& 1)) 29 0).toNatClampNeg (x4 &&& 1)) 34 ((mu (mu (mu (mu M 30 (M 29 0).toNatClampNeg x1) 31 ((mu M 30 (M 29 0).toNatClampNeg x1) 29 0).toNatClampNeg x2) 32 ((mu (mu M 30 (M 29 0).toNatClampNeg x1) 31 ((mu M 30 (M 29 0).toNatClampNeg x1) 29 0).toNatClampNeg x2) 29 0).toNatClampNeg (x3 &&& 1)) 33 ((mu (mu (mu M 30 (M 29 0).toNatClampNeg x1) 31 ((mu M 30 (M 29 0).toNatClampNeg x1) 29 0).toNatClampNeg x2) 32 ((mu (mu M 30 (M 29 0).toNatClampNeg x1) 31 ((mu M 30 (M 29 0).toNatClampNeg x1) 29 0).toNatClampNeg x2) 29 0).toNatClampNeg (x3 &&& 1)) 29 0).toNatClampNeg (x4 &&& 1)) 29 0).toNatClampNeg (((mu (mu (mu (mu M 30 (M 29 0).toNatClampNeg x1) 31 ((mu M 30 (M 29 0).toNatClampNeg x1) 29 0).toNatClampNeg x2) 32 ((mu (mu M 30 (M 29 0).toNatClampNeg x1) 31 ((mu M 30 (M 29 0).toNatClampNeg x1) 29 0).toNatClampNeg x2) 29 0).toNatClampNeg (x3 &&& 1)) 33 ((mu (mu (mu M 30 (M 29 0).toNatClampNeg x1) 31 ((mu M 30 (M 29 0).toNatClampNeg x1) 29 0).toNatClampNeg x2) 32 ((mu (mu M 30 (M 29 0).toNatClampNeg x1) 31 ((mu M 30 (M 29 0).toNatClampNeg x1) 29 0).toNatClampNeg x2) 29 0).toNatClampNeg (x3 &&& 1)) 29 0).toNatClampNeg (x4 &&& 1)) 28 0) + x5)) 29 0 (((mu (mu (mu (mu (mu M 30 (M 29 0).toNatClampNeg x1) 31 ((mu M 30 (M 29 0).toNatClampNeg x1) 29 0).toNatClampNeg x2) 32 ((mu (mu M 30 (M 29 0).toNatClampNeg x1) 31 ((mu M 30 (M 29 0).toNatClampNeg x1) 29 0).toNatClampNeg x2) 29 0).toNatClampNeg (x3 &&& 1)) 33 ((mu (mu (mu M 30 (M 29 0).toNatClampNeg x1) 31 ((mu M 30 (M 29 0).toNatClampNeg x1) 29 0).toNatClampNeg x2) 32 ((mu (mu M 30 (M 29 0).toNatClampNeg x1) 31 ((mu M 30 (M 29 0).toNatClampNeg x1) 29 0).toNatClampNeg x2) 29 0).toNatClampNeg (x3 &&& 1)) 29 0).toNatClampNeg (x4 &&& 1)) 34 ((mu (mu (mu (mu M 30 (M 29 0).toNatClampNeg x1) 31 ((mu M 30 (M 29 0).toNatClampNeg x1) 29 0).toNatClampNeg x2) 32 ((mu (mu M 30 (M 29 0).toNatClampNeg x1) 31 ((mu M 30 (M 29 0).toNatClampNeg x1) 29 0).toNatClampNeg x2) 29 0).toNatClampNeg (x3 &&& 1)) 33 ((mu (mu (mu M 30 (M 29 0).toNatClampNeg x1) 31 ((mu M 30 (M 29 0).toNatClampNeg x1) 29 0).toNatClampNeg x2) 32 ((mu (mu M 30 (M 29 0).toNatClampNeg x1) 31 ((mu M 30 (M 29 0).toNatClampNeg x1) 29 0).toNatClampNeg x2) 29 0).toNatClampNeg (x3 &&& 1)) 29 0).toNatClampNeg (x4 &&& 1)) 29 0).toNatClampNeg (((mu (mu (mu (mu M 30 (M 29 0).toNatClampNeg x1) 31 ((mu M 30 (M 29 0).toNatClampNeg x1) 29 0).toNatClampNeg x2) 32 ((mu (mu M 30 (M 29 0).toNatClampNeg x1) 31 ((mu M 30 (M 29 0).toNatClampNeg x1) 29 0).toNatClampNeg x2) 29 0).toNatClampNeg (x3 &&& 1)) 33 ((mu (mu (mu M 30 (M 29 0).toNatClampNeg x1) 31 ((mu M 30 (M 29 0).toNatClampNeg x1) 29 0).toNatClampNeg x2) 32 ((mu (mu M 30 (M 29 0).toNatClampNeg x1) 31 ((mu M 30 (M 29 0).toNatClampNeg x1) 29 0).toNatClampNeg x2) 29 0).toNatClampNeg (x3 &&& 1)) 29 0).toNatClampNeg (x4 &&& 1)) 28 0) + x5)) 29 0) + (1 : Int32))) 29 0) - (1 : Int32), mu (mu (mu (mu (mu (mu M 30 (M 29 0).toNatClampNeg x1) 31 ((mu M 30 (M 29 0).toNatClampNeg x1) 29 0).toNatClampNeg x2) 32 ((mu (mu M 30 (M 29 0).toNatClampNeg x1) 31 ((mu M 30 (M 29 0).toNatClampNeg x1) 29 0).toNatClampNeg x2) 29 0).toNatClampNeg (x3 &&& 1)) 33 ((mu (mu (mu M 30 (M 29 0).toNatClampNeg x1) 31 ((mu M 30 (M 29 0).toNatClampNeg x1) 29 0).toNatClampNeg x2) 32 ((mu (mu M 30 (M 29 0).toNatClampNeg x1) 31 ((mu M 30 (M 29 0).toNatClampNeg x1) 29 0).toNatClampNeg x2) 29 0).toNatClampNeg (x3 &&& 1)) 29 0).toNatClampNeg (x4 &&& 1)) 34 ((mu (mu (mu (mu M 30 (M 29 0).toNatClampNeg x1) 31 ((mu M 30 (M 29 0).toNatClampNeg x1) 29 0).toNatClampNeg x2) 32 ((mu (mu M 30 (M 29 0).toNatClampNeg x1) 31 ((mu M 30 (M 29 0).toNatClampNeg x1) 29 0).toNatClampNeg x2) 29 0).toNatClampNeg (x3 &&& 1)) 33 ((mu (mu (mu M 30 (M 29 0).toNatClampNeg x1) 31 ((mu M 30 (M 29 0).toNatClampNeg x1) 29 0).toNatClampNeg x2) 32 ((mu (mu M 30 (M 29 0).toNatClampNeg x1) 31 ((mu M 30 (M 29 0).toNatClampNeg x1) 29 0).toNatClampNeg x2) 29 0).toNatClampNeg (x3 &&& 1)) 29 0).toNatClampNeg (x4 &&& 1)) 29 0).toNatClampNeg (((mu (mu (mu (mu M 30 (M 29 0).toNatClampNeg x1) 31 ((mu M 30 (M 29 0).toNatClampNeg x1) 29 0).toNatClampNeg x2) 32 ((mu (mu M 30 (M 29 0).toNatClampNeg x1) 31 ((mu M 30 (M 29 0).toNatClampNeg x1) 29 0).toNatClampNeg x2) 29 0).toNatClampNeg (x3 &&& 1)) 33 ((mu (mu (mu M 30 (M 29 0).toNatClampNeg x1) 31 ((mu M 30 (M 29 0).toNatClampNeg x1) 29 0).toNatClampNeg x2) 32 ((mu (mu M 30 (M 29 0).toNatClampNeg x1) 31 ((mu M 30 (M 29 0).toNatClampNeg x1) 29 0).toNatClampNeg x2) 29 0).toNatClampNeg (x3 &&& 1)) 29 0).toNatClampNeg (x4 &&& 1)) 28 0) + x5)) 29 0 (((mu (mu (mu (mu (mu M 30 (M 29 0).toNatClampNeg x1) 31 ((mu M 30 (M 29 0).toNatClampNeg x1) 29 0).toNatClampNeg x2) 32 ((mu (mu M 30 (M 29 0).toNatClampNeg x1) 31 ((mu M 30 (M 29 0).toNatClampNeg x1) 29 0).toNatClampNeg x2) 29 0).toNatClampNeg (x3 &&& 1)) 33 ((mu (mu (mu M 30 (M 29 0).toNatClampNeg x1) 31 ((mu M 30 (M 29 0).toNatClampNeg x1) 29 0).toNatClampNeg x2) 32 ((mu (mu M 30 (M 29 0).toNatClampNeg x1) 31 ((mu M 30 (M 29 0).toNatClampNeg x1) 29 0).toNatClampNeg x2) 29 0).toNatClampNeg (x3 &&& 1)) 29 0).toNatClampNeg (x4 &&& 1)) 34 ((mu (mu (mu (mu M 30 (M 29 0).toNatClampNeg x1) 31 ((mu M 30 (M 29 0).toNatClampNeg x1) 29 0).toNatClampNeg x2) 32 ((mu (mu M 30 (M 29 0).toNatClampNeg x1) 31 ((mu M 30 (M 29 0).toNatClampNeg x1) 29 0).toNatClampNeg x2) 29 0).toNatClampNeg (x3 &&& 1)) 33 ((mu (mu (mu M 30 (M 29 0).toNatClampNeg x1) 31 ((mu M 30 (M 29 0).toNatClampNeg x1) 29 0).toNatClampNeg x2) 32 ((mu (mu M 30 (M 29 0).toNatClampNeg x1) 31 ((mu M 30 (M 29 0).toNatClampNeg x1) 29 0).toNatClampNeg x2) 29 0).toNatClampNeg (x3 &&& 1)) 29 0).toNatClampNeg (x4 &&& 1)) 29 0).toNatClampNeg (((mu (mu (mu (mu M 30 (M 29 0).toNatClampNeg x1) 31 ((mu M 30 (M 29 0).toNatClampNeg x1) 29 0).toNatClampNeg x2) 32 ((mu (mu M 30 (M 29 0).toNatClampNeg x1) 31 ((mu M 30 (M 29 0).toNatClampNeg x1) 29 0).toNatClampNeg x2) 29 0).toNatClampNeg (x3 &&& 1)) 33 ((mu (mu (mu M 30 (M 29 0).toNatClampNeg x1) 31 ((mu M 30 (M 29 0).toNatClampNeg x1) 29 0).toNatClampNeg x2) 32 ((mu (mu M 30 (M 29 0).toNatClampNeg x1) 31 ((mu M 30 (M 29 0).toNatClampNeg x1) 29 0).toNatClampNeg x2) 29 0).toNatClampNeg (x3 &&& 1)) 29 0).toNatClampNeg (x4 &&& 1)) 28 0) + x5)) 29 0) + (1 : Int32)))
set_option maxHeartbeats 4000000 in
set_option maxRecDepth 100000 in
theorem w_X5_lock_142 {p : Program} {l : Launch} {e : Env} {s : State} {m : MethodId} {args : Array Value} {below : List Frame} {meth : Method} {c : Code} {Z : Zt} {b : Nat} (C : Cx p s m args c cX5_lock RX5 Z b) (hml : c.maxLocals = 9) (hr : meth.sig.returnType = (some .int)) (hlk : meth.locks = false) {r' : Int32} {M' : Mem} {M : Mem} {x1 : Int32} {x2 : Int32} {x3 : Int32} {x4 : Int32} {x5 : Int32} (h : f_X5_lock_142 M x1 x2 x3 x4 x5 = some (r', M')) {H : Heap} {locs : List Loc} {ls : Array Slot} (hS : va_S (A0 b) s.heap H locs) (hW : Wd Z b M H) (hl : lv_has ls 9 [(0, .ref (b + 156)), (1, .int x1), (2, .int x2), (3, .int x3), (4, .int x4), (5, .int x5)]) : W p l e rm_X5_lock s m args below meth c H locs 0 0 (MQ below (Qn Z b (some (.int r')) M') args s 0 0 (A0 b)) (F0 m 142 ls []) := by
  unfold f_X5_lock_142 at h
  have hx := C.1
  have hb := C.2.1
  refine lv_aload_n hx hb dX5_lock_142 rfl (lv_at hl 0 rfl) ?_
  refine gX5_32 C hW dX5_lock_143 ?_
  refine lv_aload_n hx hb dX5_lock_146 rfl (lv_at hl 0 rfl) ?_
  refine gX5_85 C hW dX5_lock_147 ?_
  refine lv_iload_n hx hb dX5_lock_150 rfl (lv_at hl 1 rfl) ?_
  obtain ⟨g151, h⟩ := gd h
  refine ast_164 C hS hW g151 dX5_lock_151 (fun H locs hW hS => ?_)
  refine lv_aload_n hx hb dX5_lock_152 rfl (lv_at hl 0 rfl) ?_
  refine gX5_35 C hW dX5_lock_153 ?_
  refine lv_aload_n hx hb dX5_lock_156 rfl (lv_at hl 0 rfl) ?_
  refine gX5_85 C hW dX5_lock_157 ?_
  refine lv_iload_n hx hb dX5_lock_160 rfl (lv_at hl 2 rfl) ?_
  obtain ⟨g161, h⟩ := gd h
  refine ast_165 C hS hW g161 dX5_lock_161 (fun H locs hW hS => ?_)
  refine lv_aload_n hx hb dX5_lock_162 rfl (lv_at hl 0 rfl) ?_
  refine gX5_38 C hW dX5_lock_163 ?_
  refine lv_aload_n hx hb dX5_lock_166 rfl (lv_at hl 0 rfl) ?_
  refine gX5_85 C hW dX5_lock_167 ?_
  refine lv_iload_n hx hb dX5_lock_170 rfl (lv_at hl 3 rfl) ?_
  obtain ⟨g171, h⟩ := gd h
  refine ast_166 C hS hW g171 dX5_lock_171 (fun H locs hW hS => ?_)
  refine lv_aload_n hx hb dX5_lock_172 rfl (lv_at hl 0 rfl) ?_
  refine gX5_41 C hW dX5_lock_173 ?_
  refine lv_aload_n hx hb dX5_lock_176 rfl (lv_at hl 0 rfl) ?_
  refine gX5_85 C hW dX5_lock_177 ?_
  refine lv_iload hx hb dX5_lock_180 (lv_at hl 4 rfl) ?_
  obtain ⟨g182, h⟩ := gd h
  refine ast_167 C hS hW g182 dX5_lock_182 (fun H locs hW hS => ?_)
  refine lv_aload_n hx hb dX5_lock_183 rfl (lv_at hl 0 rfl) ?_
  refine gX5_44 C hW dX5_lock_184 ?_
  refine lv_aload_n hx hb dX5_lock_187 rfl (lv_at hl 0 rfl) ?_
  refine gX5_85 C hW dX5_lock_188 ?_
  refine lv_aload_n hx hb dX5_lock_191 rfl (lv_at hl 0 rfl) ?_
  refine gX5_88 C hW dX5_lock_192 ?_
  refine lv_iload hx hb dX5_lock_195 (lv_at hl 5 rfl) ?_
  refine lv_iadd hx hb dX5_lock_197 ?_
  obtain ⟨g198, h⟩ := gd h
  refine ast_168 C hS hW g198 dX5_lock_198 (fun H locs hW hS => ?_)
  refine lv_aload_n hx hb dX5_lock_199 rfl (lv_at hl 0 rfl) ?_
  refine lv_dup hx hb dX5_lock_200 rfl ?_
  refine gX5_85 C hW dX5_lock_201 ?_
  refine lv_iconst (v := (1 : Int32)) hx hb dX5_lock_204 (by decide) ?_
  refine lv_iadd hx hb dX5_lock_205 ?_
  refine pX5_85 C hS hW dX5_lock_206 (fun H locs hW hS => ?_)
  refine lv_aload_n hx hb dX5_lock_209 rfl (lv_at hl 0 rfl) ?_
  refine gX5_85 C hW dX5_lock_210 ?_
  refine lv_iconst (v := (1 : Int32)) hx hb dX5_lock_213 (by decide) ?_
  refine lv_isub hx hb dX5_lock_214 ?_
  cases h
  exact ret_i C hr hlk hS hW dX5_lock_215
def f_X5_lock_117 (M : Mem) (x1 : Int32) (x2 : Int32) (x3 : Int32) (x4 : Int32) (x5 : Int32) (x8 : Int32) (xs1 : Int32) : Option (Int32 × Mem) :=
  if ((mu M 39 0 xs1) 39 0) ≤ 0 then (if x8 = 0 then f_X5_lock_142 (mu M 39 0 xs1) x1 x2 x3 x4 x5 else bd2 (f_X5_makes (mu M 39 0 xs1) x2 (1 : Int32) (0 : Int32)) (fun r138 M138 => f_X5_lock_142 M138 x1 x2 x3 x4 x5)) else some ((0 : Int32), mu M 39 0 xs1)
set_option maxHeartbeats 4000000 in
set_option maxRecDepth 100000 in
theorem w_X5_lock_117 {p : Program} {l : Launch} {e : Env} {s : State} {m : MethodId} {args : Array Value} {below : List Frame} {meth : Method} {c : Code} {Z : Zt} {b : Nat} (C : Cx p s m args c cX5_lock RX5 Z b) (hml : c.maxLocals = 9) (hr : meth.sig.returnType = (some .int)) (hlk : meth.locks = false) {r' : Int32} {M' : Mem} {M : Mem} {x1 : Int32} {x2 : Int32} {x3 : Int32} {x4 : Int32} {x5 : Int32} {x8 : Int32} {xs1 : Int32} (h : f_X5_lock_117 M x1 x2 x3 x4 x5 x8 xs1 = some (r', M')) {H : Heap} {locs : List Loc} {ls : Array Slot} (hS : va_S (A0 b) s.heap H locs) (hW : Wd Z b M H) (hl : lv_has ls 9 [(0, .ref (b + 156)), (1, .int x1), (2, .int x2), (3, .int x3), (4, .int x4), (5, .int x5), (8, .int x8)]) : W p l e rm_X5_lock s m args below meth c H locs 0 0 (MQ below (Qn Z b (some (.int r')) M') args s 0 0 (A0 b)) (F0 m 117 ls [.int xs1, .ref (b + 156)]) := by
  unfold f_X5_lock_117 at h
  have hx := C.1
  have hb := C.2.1
  refine pX5_56 C hS hW dX5_lock_117 (fun H locs hW hS => ?_)
  refine lv_aload_n hx hb dX5_lock_120 rfl (lv_at hl 0 rfl) ?_
  refine gX5_56 C hW dX5_lock_121 ?_
  refine lv_if_le (tgt := 129) hx hb dX5_lock_124 (by decide) (fun c124 => ?_) (fun c124 => ?_)
  · have h := (if_pos c124).symm.trans h
    refine lv_iload hx hb dX5_lock_129 (lv_at hl 6 rfl) ?_
    refine lv_if_eq (tgt := 142) hx hb dX5_lock_131 (by decide) (fun c131 => ?_) (fun c131 => ?_)
    · have h := (if_pos c131).symm.trans h
      exact w_X5_lock_142 C hml hr hlk h hS hW (lv_sub hl [0, 1, 2, 3, 4, 5] rfl)
    · have h := (if_neg c131).symm.trans h
      refine lv_aload_n hx hb dX5_lock_134 rfl (lv_at hl 0 rfl) ?_
      refine lv_iload_n hx hb dX5_lock_135 rfl (lv_at hl 2 rfl) ?_
      refine lv_iconst (v := (1 : Int32)) hx hb dX5_lock_136 (by decide) ?_
      refine lv_iconst (v := (0 : Int32)) hx hb dX5_lock_137 (by decide) ?_
      obtain ⟨r138, M138, hc138, h⟩ := bd2_e h
      refine kX5_119 C hml hl.1 (c_X5_makes hc138) ⟨Nat.le_of_ble_eq_true rfl, Nat.le_of_ble_eq_true rfl⟩ ⟨Nat.le_of_ble_eq_true rfl, Nat.le_of_ble_eq_true rfl⟩ (Nat.le_of_ble_eq_true rfl) hS hW dX5_lock_138 (fun H locs hW hS => ?_)
      refine lv_pop hx hb dX5_lock_141 rfl ?_
      exact w_X5_lock_142 C hml hr hlk h hS hW (lv_sub hl [0, 1, 2, 3, 4, 5] rfl)
  · have h := (if_neg c124).symm.trans h
    refine lv_iconst (v := (0 : Int32)) hx hb dX5_lock_127 (by decide) ?_
    cases h
    exact ret_i C hr hlk hS hW dX5_lock_128
def f_X5_lock_112 (M : Mem) (x1 : Int32) (x2 : Int32) (x3 : Int32) (x4 : Int32) (x5 : Int32) (x8 : Int32) : Option (Int32 × Mem) :=
  f_X5_lock_117 M x1 x2 x3 x4 x5 x8 (2 : Int32)
set_option maxHeartbeats 4000000 in
set_option maxRecDepth 100000 in
theorem w_X5_lock_112 {p : Program} {l : Launch} {e : Env} {s : State} {m : MethodId} {args : Array Value} {below : List Frame} {meth : Method} {c : Code} {Z : Zt} {b : Nat} (C : Cx p s m args c cX5_lock RX5 Z b) (hml : c.maxLocals = 9) (hr : meth.sig.returnType = (some .int)) (hlk : meth.locks = false) {r' : Int32} {M' : Mem} {M : Mem} {x1 : Int32} {x2 : Int32} {x3 : Int32} {x4 : Int32} {x5 : Int32} {x8 : Int32} (h : f_X5_lock_112 M x1 x2 x3 x4 x5 x8 = some (r', M')) {H : Heap} {locs : List Loc} {ls : Array Slot} (hS : va_S (A0 b) s.heap H locs) (hW : Wd Z b M H) (hl : lv_has ls 9 [(0, .ref (b + 156)), (1, .int x1), (2, .int x2), (3, .int x3), (4, .int x4), (5, .int x5), (8, .int x8)]) : W p l e rm_X5_lock s m args below meth c H locs 0 0 (MQ below (Qn Z b (some (.int r')) M') args s 0 0 (A0 b)) (F0 m 112 ls [.ref (b + 156)]) := by
  unfold f_X5_lock_112 at h
  have hx := C.1
  have hb := C.2.1
  refine lv_iconst (v := (2 : Int32)) hx hb dX5_lock_112 (by decide) ?_
  refine lv_goto (tgt := 117) hx hb dX5_lock_113 (by decide) ?_
  exact w_X5_lock_117 C hml hr hlk h hS hW (lv_sub hl [0, 1, 2, 3, 4, 5, 6] rfl)
def f_X5_lock_116 (M : Mem) (x1 : Int32) (x2 : Int32) (x3 : Int32) (x4 : Int32) (x5 : Int32) (x8 : Int32) : Option (Int32 × Mem) :=
  f_X5_lock_117 M x1 x2 x3 x4 x5 x8 (0 : Int32)
set_option maxHeartbeats 4000000 in
set_option maxRecDepth 100000 in
theorem w_X5_lock_116 {p : Program} {l : Launch} {e : Env} {s : State} {m : MethodId} {args : Array Value} {below : List Frame} {meth : Method} {c : Code} {Z : Zt} {b : Nat} (C : Cx p s m args c cX5_lock RX5 Z b) (hml : c.maxLocals = 9) (hr : meth.sig.returnType = (some .int)) (hlk : meth.locks = false) {r' : Int32} {M' : Mem} {M : Mem} {x1 : Int32} {x2 : Int32} {x3 : Int32} {x4 : Int32} {x5 : Int32} {x8 : Int32} (h : f_X5_lock_116 M x1 x2 x3 x4 x5 x8 = some (r', M')) {H : Heap} {locs : List Loc} {ls : Array Slot} (hS : va_S (A0 b) s.heap H locs) (hW : Wd Z b M H) (hl : lv_has ls 9 [(0, .ref (b + 156)), (1, .int x1), (2, .int x2), (3, .int x3), (4, .int x4), (5, .int x5), (8, .int x8)]) : W p l e rm_X5_lock s m args below meth c H locs 0 0 (MQ below (Qn Z b (some (.int r')) M') args s 0 0 (A0 b)) (F0 m 116 ls [.ref (b + 156)]) := by
  unfold f_X5_lock_116 at h
  have hx := C.1
  have hb := C.2.1
  refine lv_iconst (v := (0 : Int32)) hx hb dX5_lock_116 (by decide) ?_
  exact w_X5_lock_117 C hml hr hlk h hS hW (lv_sub hl [0, 1, 2, 3, 4, 5, 6] rfl)
def f_X5_lock_72 (M : Mem) (x1 : Int32) (x2 : Int32) (x3 : Int32) (x4 : Int32) (x5 : Int32) (x6 : Int32) (xs0 : Int32) : Option (Int32 × Mem) :=
  if (M 29 0) = (30 : Int32) then f_X5_lock_112 M x1 x2 x3 x4 x5 xs0 else bd2 (f_X5_clashes M x2 x3 x4) (fun r89 M89 => if r89 = 0 then (if xs0 = 0 then f_X5_lock_116 M89 x1 x2 x3 x4 x5 xs0 else bd2 (f_X5_puts M89 x1 x2 (-1 : Int32) x6) (fun r106 M106 => if r106 ≤ 0 then f_X5_lock_116 M106 x1 x2 x3 x4 x5 xs0 else f_X5_lock_112 M106 x1 x2 x3 x4 x5 xs0)) else f_X5_lock_112 M89 x1 x2 x3 x4 x5 xs0)
set_option maxHeartbeats 4000000 in
set_option maxRecDepth 100000 in
theorem w_X5_lock_72 {p : Program} {l : Launch} {e : Env} {s : State} {m : MethodId} {args : Array Value} {below : List Frame} {meth : Method} {c : Code} {Z : Zt} {b : Nat} (C : Cx p s m args c cX5_lock RX5 Z b) (hml : c.maxLocals = 9) (hr : meth.sig.returnType = (some .int)) (hlk : meth.locks = false) {r' : Int32} {M' : Mem} {M : Mem} {x1 : Int32} {x2 : Int32} {x3 : Int32} {x4 : Int32} {x5 : Int32} {x6 : Int32} {xs0 : Int32} (h : f_X5_lock_72 M x1 x2 x3 x4 x5 x6 xs0 = some (r', M')) {H : Heap} {locs : List Loc} {ls : Array Slot} (hS : va_S (A0 b) s.heap H locs) (hW : Wd Z b M H) (hl : lv_has ls 9 [(0, .ref (b + 156)), (1, .int x1), (2, .int x2), (3, .int x3), (4, .int x4), (5, .int x5), (6, .int x6)]) : W p l e rm_X5_lock s m args below meth c H locs 0 0 (MQ below (Qn Z b (some (.int r')) M') args s 0 0 (A0 b)) (F0 m 72 ls [.int xs0]) := by
  unfold f_X5_lock_72 at h
  have hx := C.1
  have hb := C.2.1
  refine lv_istore (lv' := [(8, .int xs0), (0, .ref (b + 156)), (1, .int x1), (2, .int x2), (3, .int x3), (4, .int x4), (5, .int x5), (6, .int x6)]) hx hb dX5_lock_72 hl (by decide) rfl (fun ls hl => ?_)
  refine lv_aload_n hx hb dX5_lock_74 rfl (lv_at hl 1 rfl) ?_
  refine lv_aload_n hx hb dX5_lock_75 rfl (lv_at hl 1 rfl) ?_
  refine gX5_85 C hW dX5_lock_76 ?_
  refine lv_bipush (v := (30 : Int32)) hx hb dX5_lock_79 (by decide) ?_
  refine lv_icmp_eq (tgt := 112) hx hb dX5_lock_81 (by decide) (fun c81 => ?_) (fun c81 => ?_)
  · have h := (if_pos c81).symm.trans h
    exact w_X5_lock_112 C hml hr hlk h hS hW (lv_sub hl [1, 2, 3, 4, 5, 6, 0] rfl)
  · have h := (if_neg c81).symm.trans h
    refine lv_aload_n hx hb dX5_lock_84 rfl (lv_at hl 1 rfl) ?_
    refine lv_iload_n hx hb dX5_lock_85 rfl (lv_at hl 3 rfl) ?_
    refine lv_iload_n hx hb dX5_lock_86 rfl (lv_at hl 4 rfl) ?_
    refine lv_iload hx hb dX5_lock_87 (lv_at hl 5 rfl) ?_
    obtain ⟨r89, M89, hc89, h⟩ := bd2_e h
    refine kX5_167 C hml hl.1 (c_X5_clashes hc89) ⟨Nat.le_of_ble_eq_true rfl, Nat.le_of_ble_eq_true rfl⟩ ⟨Nat.le_of_ble_eq_true rfl, Nat.le_of_ble_eq_true rfl⟩ (Nat.le_of_ble_eq_true rfl) hS hW dX5_lock_89 (fun H locs hW hS => ?_)
    refine lv_if_ne (tgt := 112) hx hb dX5_lock_92 (by decide) (fun c92 => ?_) (fun c92 => ?_)
    · have h := (if_neg c92).symm.trans h
      exact w_X5_lock_112 C hml hr hlk h hS hW (lv_sub hl [1, 2, 3, 4, 5, 6, 0] rfl)
    · have h := (if_pos c92).symm.trans h
      refine lv_iload hx hb dX5_lock_95 (lv_at hl 0 rfl) ?_
      refine lv_if_eq (tgt := 116) hx hb dX5_lock_97 (by decide) (fun c97 => ?_) (fun c97 => ?_)
      · have h := (if_pos c97).symm.trans h
        exact w_X5_lock_116 C hml hr hlk h hS hW (lv_sub hl [1, 2, 3, 4, 5, 6, 0] rfl)
      · have h := (if_neg c97).symm.trans h
        refine lv_aload_n hx hb dX5_lock_100 rfl (lv_at hl 1 rfl) ?_
        refine lv_iload_n hx hb dX5_lock_101 rfl (lv_at hl 2 rfl) ?_
        refine lv_iload_n hx hb dX5_lock_102 rfl (lv_at hl 3 rfl) ?_
        refine lv_iconst (v := (-1 : Int32)) hx hb dX5_lock_103 (by decide) ?_
        refine lv_iload hx hb dX5_lock_104 (lv_at hl 7 rfl) ?_
        obtain ⟨r106, M106, hc106, h⟩ := bd2_e h
        refine kX5_123 C hml hl.1 (c_X5_puts hc106) ⟨Nat.le_of_ble_eq_true rfl, Nat.le_of_ble_eq_true rfl⟩ ⟨Nat.le_of_ble_eq_true rfl, Nat.le_of_ble_eq_true rfl⟩ (Nat.le_of_ble_eq_true rfl) hS hW dX5_lock_106 (fun H locs hW hS => ?_)
        refine lv_if_le (tgt := 116) hx hb dX5_lock_109 (by decide) (fun c109 => ?_) (fun c109 => ?_)
        · have h := (if_pos c109).symm.trans h
          exact w_X5_lock_116 C hml hr hlk h hS hW (lv_sub hl [1, 2, 3, 4, 5, 6, 0] rfl)
        · have h := (if_neg c109).symm.trans h
          exact w_X5_lock_112 C hml hr hlk h hS hW (lv_sub hl [1, 2, 3, 4, 5, 6, 0] rfl)
def f_X5_lock_49 (M : Mem) (x1 : Int32) (x2 : Int32) (x3 : Int32) (x4 : Int32) (x5 : Int32) (x6 : Int32) (x7 : Int32) (xs1 : Int32) : Option (Int32 × Mem) :=
  if x7 = 0 then some ((0 : Int32), mu M 39 0 xs1) else bd2 (f_X5_kinds (mu M 39 0 xs1) x2) (fun r61 M61 => if 0 ≤ r61 then f_X5_lock_72 M61 x1 x2 x3 x4 x5 x6 (0 : Int32) else f_X5_lock_72 M61 x1 x2 x3 x4 x5 x6 (1 : Int32))
set_option maxHeartbeats 4000000 in
set_option maxRecDepth 100000 in
theorem w_X5_lock_49 {p : Program} {l : Launch} {e : Env} {s : State} {m : MethodId} {args : Array Value} {below : List Frame} {meth : Method} {c : Code} {Z : Zt} {b : Nat} (C : Cx p s m args c cX5_lock RX5 Z b) (hml : c.maxLocals = 9) (hr : meth.sig.returnType = (some .int)) (hlk : meth.locks = false) {r' : Int32} {M' : Mem} {M : Mem} {x1 : Int32} {x2 : Int32} {x3 : Int32} {x4 : Int32} {x5 : Int32} {x6 : Int32} {x7 : Int32} {xs1 : Int32} (h : f_X5_lock_49 M x1 x2 x3 x4 x5 x6 x7 xs1 = some (r', M')) {H : Heap} {locs : List Loc} {ls : Array Slot} (hS : va_S (A0 b) s.heap H locs) (hW : Wd Z b M H) (hl : lv_has ls 9 [(0, .ref (b + 156)), (1, .int x1), (2, .int x2), (3, .int x3), (4, .int x4), (5, .int x5), (6, .int x6), (7, .int x7)]) : W p l e rm_X5_lock s m args below meth c H locs 0 0 (MQ below (Qn Z b (some (.int r')) M') args s 0 0 (A0 b)) (F0 m 49 ls [.int xs1, .ref (b + 156)]) := by
  unfold f_X5_lock_49 at h
  have hx := C.1
  have hb := C.2.1
  refine pX5_56 C hS hW dX5_lock_49 (fun H locs hW hS => ?_)
  refine lv_iload hx hb dX5_lock_52 (lv_at hl 7 rfl) ?_
  refine lv_if_ne (tgt := 59) hx hb dX5_lock_54 (by decide) (fun c54 => ?_) (fun c54 => ?_)
  · have h := (if_neg c54).symm.trans h
    refine lv_aload_n hx hb dX5_lock_59 rfl (lv_at hl 0 rfl) ?_
    refine lv_iload_n hx hb dX5_lock_60 rfl (lv_at hl 2 rfl) ?_
    obtain ⟨r61, M61, hc61, h⟩ := bd2_e h
    refine kX5_109 C hml hl.1 (c_X5_kinds hc61) ⟨Nat.le_of_ble_eq_true rfl, Nat.le_of_ble_eq_true rfl⟩ ⟨Nat.le_of_ble_eq_true rfl, Nat.le_of_ble_eq_true rfl⟩ (Nat.le_of_ble_eq_true rfl) hS hW dX5_lock_61 (fun H locs hW hS => ?_)
    refine lv_if_ge (tgt := 71) hx hb dX5_lock_64 (by decide) (fun c64 => ?_) (fun c64 => ?_)
    · have h := (if_pos c64).symm.trans h
      refine lv_iconst (v := (0 : Int32)) hx hb dX5_lock_71 (by decide) ?_
      exact w_X5_lock_72 C hml hr hlk h hS hW (lv_sub hl [0, 1, 2, 3, 4, 5, 6] rfl)
    · have h := (if_neg c64).symm.trans h
      refine lv_iconst (v := (1 : Int32)) hx hb dX5_lock_67 (by decide) ?_
      refine lv_goto (tgt := 72) hx hb dX5_lock_68 (by decide) ?_
      exact w_X5_lock_72 C hml hr hlk h hS hW (lv_sub hl [0, 1, 2, 3, 4, 5, 6] rfl)
  · have h := (if_pos c54).symm.trans h
    refine lv_iconst (v := (0 : Int32)) hx hb dX5_lock_57 (by decide) ?_
    cases h
    exact ret_i C hr hlk hS hW dX5_lock_58
def f_X5_lock_36 (M : Mem) (x1 : Int32) (x2 : Int32) (x3 : Int32) (x4 : Int32) (x5 : Int32) (x6 : Int32) (xs0 : Int32) : Option (Int32 × Mem) :=
  if xs0 = 0 then f_X5_lock_49 M x1 x2 x3 x4 x5 x6 xs0 (1 : Int32) else f_X5_lock_49 M x1 x2 x3 x4 x5 x6 xs0 (0 : Int32)
set_option maxHeartbeats 4000000 in
set_option maxRecDepth 100000 in
theorem w_X5_lock_36 {p : Program} {l : Launch} {e : Env} {s : State} {m : MethodId} {args : Array Value} {below : List Frame} {meth : Method} {c : Code} {Z : Zt} {b : Nat} (C : Cx p s m args c cX5_lock RX5 Z b) (hml : c.maxLocals = 9) (hr : meth.sig.returnType = (some .int)) (hlk : meth.locks = false) {r' : Int32} {M' : Mem} {M : Mem} {x1 : Int32} {x2 : Int32} {x3 : Int32} {x4 : Int32} {x5 : Int32} {x6 : Int32} {xs0 : Int32} (h : f_X5_lock_36 M x1 x2 x3 x4 x5 x6 xs0 = some (r', M')) {H : Heap} {locs : List Loc} {ls : Array Slot} (hS : va_S (A0 b) s.heap H locs) (hW : Wd Z b M H) (hl : lv_has ls 9 [(0, .ref (b + 156)), (1, .int x1), (2, .int x2), (3, .int x3), (4, .int x4), (5, .int x5), (6, .int x6)]) : W p l e rm_X5_lock s m args below meth c H locs 0 0 (MQ below (Qn Z b (some (.int r')) M') args s 0 0 (A0 b)) (F0 m 36 ls [.int xs0]) := by
  unfold f_X5_lock_36 at h
  have hx := C.1
  have hb := C.2.1
  refine lv_istore (lv' := [(7, .int xs0), (0, .ref (b + 156)), (1, .int x1), (2, .int x2), (3, .int x3), (4, .int x4), (5, .int x5), (6, .int x6)]) hx hb dX5_lock_36 hl (by decide) rfl (fun ls hl => ?_)
  refine lv_aload_n hx hb dX5_lock_38 rfl (lv_at hl 1 rfl) ?_
  refine lv_iload hx hb dX5_lock_39 (lv_at hl 0 rfl) ?_
  refine lv_if_eq (tgt := 48) hx hb dX5_lock_41 (by decide) (fun c41 => ?_) (fun c41 => ?_)
  · have h := (if_pos c41).symm.trans h
    refine lv_iconst (v := (1 : Int32)) hx hb dX5_lock_48 (by decide) ?_
    exact w_X5_lock_49 C hml hr hlk h hS hW (lv_sub hl [1, 2, 3, 4, 5, 6, 7, 0] rfl)
  · have h := (if_neg c41).symm.trans h
    refine lv_iconst (v := (0 : Int32)) hx hb dX5_lock_44 (by decide) ?_
    refine lv_goto (tgt := 49) hx hb dX5_lock_45 (by decide) ?_
    exact w_X5_lock_49 C hml hr hlk h hS hW (lv_sub hl [1, 2, 3, 4, 5, 6, 7, 0] rfl)
def f_X5_lock_35 (M : Mem) (x1 : Int32) (x2 : Int32) (x3 : Int32) (x4 : Int32) (x5 : Int32) (x6 : Int32) : Option (Int32 × Mem) :=
  f_X5_lock_36 M x1 x2 x3 x4 x5 x6 (0 : Int32)
set_option maxHeartbeats 4000000 in
set_option maxRecDepth 100000 in
theorem w_X5_lock_35 {p : Program} {l : Launch} {e : Env} {s : State} {m : MethodId} {args : Array Value} {below : List Frame} {meth : Method} {c : Code} {Z : Zt} {b : Nat} (C : Cx p s m args c cX5_lock RX5 Z b) (hml : c.maxLocals = 9) (hr : meth.sig.returnType = (some .int)) (hlk : meth.locks = false) {r' : Int32} {M' : Mem} {M : Mem} {x1 : Int32} {x2 : Int32} {x3 : Int32} {x4 : Int32} {x5 : Int32} {x6 : Int32} (h : f_X5_lock_35 M x1 x2 x3 x4 x5 x6 = some (r', M')) {H : Heap} {locs : List Loc} {ls : Array Slot} (hS : va_S (A0 b) s.heap H locs) (hW : Wd Z b M H) (hl : lv_has ls 9 [(0, .ref (b + 156)), (1, .int x1), (2, .int x2), (3, .int x3), (4, .int x4), (5, .int x5), (6, .int x6)]) : W p l e rm_X5_lock s m args below meth c H locs 0 0 (MQ below (Qn Z b (some (.int r')) M') args s 0 0 (A0 b)) (F0 m 35 ls []) := by
  unfold f_X5_lock_35 at h
  have hx := C.1
  have hb := C.2.1
  refine lv_iconst (v := (0 : Int32)) hx hb dX5_lock_35 (by decide) ?_
  exact w_X5_lock_36 C hml hr hlk h hS hW (lv_sub hl [0, 1, 2, 3, 4, 5, 6] rfl)
def f_X5_lock_0 (M : Mem) (x1 : Int32) (x2 : Int32) (x3 : Int32) (x4 : Int32) (x5 : Int32) (x6 : Int32) : Option (Int32 × Mem) :=
  bd2 (f_X5_isClient M x1) (fun r1 M1 => if r1 = 0 then f_X5_lock_35 M1 x1 x2 x3 x4 x5 x6 else bd2 (f_X5_isPath M1 x2) (fun r8 M8 => if r8 = 0 then f_X5_lock_35 M8 x1 x2 x3 x4 x5 x6 else bd2 (f_X5_isIn M8 x5 (1 : Int32) (1000 : Int32)) (fun r20 M20 => if r20 = 0 then f_X5_lock_35 M20 x1 x2 x3 x4 x5 x6 else if x6 < 0 then f_X5_lock_35 M20 x1 x2 x3 x4 x5 x6 else f_X5_lock_36 M20 x1 x2 x3 x4 x5 x6 (1 : Int32))))
set_option maxHeartbeats 4000000 in
set_option maxRecDepth 100000 in
theorem w_X5_lock_0 {p : Program} {l : Launch} {e : Env} {s : State} {m : MethodId} {args : Array Value} {below : List Frame} {meth : Method} {c : Code} {Z : Zt} {b : Nat} (C : Cx p s m args c cX5_lock RX5 Z b) (hml : c.maxLocals = 9) (hr : meth.sig.returnType = (some .int)) (hlk : meth.locks = false) {r' : Int32} {M' : Mem} {M : Mem} {x1 : Int32} {x2 : Int32} {x3 : Int32} {x4 : Int32} {x5 : Int32} {x6 : Int32} (h : f_X5_lock_0 M x1 x2 x3 x4 x5 x6 = some (r', M')) {H : Heap} {locs : List Loc} {ls : Array Slot} (hS : va_S (A0 b) s.heap H locs) (hW : Wd Z b M H) (hl : lv_has ls 9 [(0, .ref (b + 156)), (1, .int x1), (2, .int x2), (3, .int x3), (4, .int x4), (5, .int x5), (6, .int x6)]) : W p l e rm_X5_lock s m args below meth c H locs 0 0 (MQ below (Qn Z b (some (.int r')) M') args s 0 0 (A0 b)) (F0 m 0 ls []) := by
  unfold f_X5_lock_0 at h
  have hx := C.1
  have hb := C.2.1
  refine lv_iload_n hx hb dX5_lock_0 rfl (lv_at hl 1 rfl) ?_
  obtain ⟨r1, M1, hc1, h⟩ := bd2_e h
  refine kX5_68 C hml hl.1 (c_X5_isClient hc1) ⟨Nat.le_of_ble_eq_true rfl, Nat.le_of_ble_eq_true rfl⟩ ⟨Nat.le_of_ble_eq_true rfl, Nat.le_of_ble_eq_true rfl⟩ (Nat.le_of_ble_eq_true rfl) hS hW dX5_lock_1 (fun H locs hW hS => ?_)
  refine lv_if_eq (tgt := 35) hx hb dX5_lock_4 (by decide) (fun c4 => ?_) (fun c4 => ?_)
  · have h := (if_pos c4).symm.trans h
    exact w_X5_lock_35 C hml hr hlk h hS hW (lv_sub hl [0, 1, 2, 3, 4, 5, 6] rfl)
  · have h := (if_neg c4).symm.trans h
    refine lv_iload_n hx hb dX5_lock_7 rfl (lv_at hl 2 rfl) ?_
    obtain ⟨r8, M8, hc8, h⟩ := bd2_e h
    refine kX5_64 C hml hl.1 (c_X5_isPath hc8) ⟨Nat.le_of_ble_eq_true rfl, Nat.le_of_ble_eq_true rfl⟩ ⟨Nat.le_of_ble_eq_true rfl, Nat.le_of_ble_eq_true rfl⟩ (Nat.le_of_ble_eq_true rfl) hS hW dX5_lock_8 (fun H locs hW hS => ?_)
    refine lv_if_eq (tgt := 35) hx hb dX5_lock_11 (by decide) (fun c11 => ?_) (fun c11 => ?_)
    · have h := (if_pos c11).symm.trans h
      exact w_X5_lock_35 C hml hr hlk h hS hW (lv_sub hl [0, 1, 2, 3, 4, 5, 6] rfl)
    · have h := (if_neg c11).symm.trans h
      refine lv_iload hx hb dX5_lock_14 (lv_at hl 5 rfl) ?_
      refine lv_iconst (v := (1 : Int32)) hx hb dX5_lock_16 (by decide) ?_
      refine lv_sipush (v := (1000 : Int32)) hx hb dX5_lock_17 (by decide) ?_
      obtain ⟨r20, M20, hc20, h⟩ := bd2_e h
      refine kX5_60 C hml hl.1 (c_X5_isIn hc20) ⟨Nat.le_of_ble_eq_true rfl, Nat.le_of_ble_eq_true rfl⟩ ⟨Nat.le_of_ble_eq_true rfl, Nat.le_of_ble_eq_true rfl⟩ (Nat.le_of_ble_eq_true rfl) hS hW dX5_lock_20 (fun H locs hW hS => ?_)
      refine lv_if_eq (tgt := 35) hx hb dX5_lock_23 (by decide) (fun c23 => ?_) (fun c23 => ?_)
      · have h := (if_pos c23).symm.trans h
        exact w_X5_lock_35 C hml hr hlk h hS hW (lv_sub hl [0, 1, 2, 3, 4, 5, 6] rfl)
      · have h := (if_neg c23).symm.trans h
        refine lv_iload hx hb dX5_lock_26 (lv_at hl 6 rfl) ?_
        refine lv_if_lt (tgt := 35) hx hb dX5_lock_28 (by decide) (fun c28 => ?_) (fun c28 => ?_)
        · have h := (if_pos c28).symm.trans h
          exact w_X5_lock_35 C hml hr hlk h hS hW (lv_sub hl [0, 1, 2, 3, 4, 5, 6] rfl)
        · have h := (if_neg c28).symm.trans h
          refine lv_iconst (v := (1 : Int32)) hx hb dX5_lock_31 (by decide) ?_
          refine lv_goto (tgt := 36) hx hb dX5_lock_32 (by decide) ?_
          exact w_X5_lock_36 C hml hr hlk h hS hW (lv_sub hl [0, 1, 2, 3, 4, 5, 6] rfl)
def f_X5_lock (M : Mem) (x1 : Int32) (x2 : Int32) (x3 : Int32) (x4 : Int32) (x5 : Int32) (x6 : Int32) : Option (Int32 × Mem) := f_X5_lock_0 M x1 x2 x3 x4 x5 x6
set_option maxHeartbeats 4000000 in
set_option maxRecDepth 100000 in
theorem c_X5_lock {l : Launch} {Z : Zt} {b : Nat} {M : Mem} {x1 : Int32} {x2 : Int32} {x3 : Int32} {x4 : Int32} {x5 : Int32} {x6 : Int32} {r' : Int32} {M' : Mem} (h : f_X5_lock M x1 x2 x3 x4 x5 x6 = some (r', M')) : Ct l yX5_lock cX5_lock 9 (some .int) rm_X5_lock Z b [.ref (b + 156), .int x1, .int x2, .int x3, .int x4, .int x5, .int x6] M (some (.int r')) M' := by
  refine Met.ofW (cc := cX5_lock) (maxL := 9) (ret := (some .int)) (by decide) rfl ?_
  intro p e s m args below meth c s₁ B hml hv
  obtain ⟨rfl, hE, hW⟩ := hv
  have C : Cx p s m [.ref (b + 156), .int x1, .int x2, .int x3, .int x4, .int x5, .int x6].toArray c cX5_lock RX5 Z b := ⟨B.exec, B.bytes, findClass_of_methodNamed B.named, fun w hw => atoms_spec (ws := Cond.code yX5_lock cX5_lock 9 (some .int) :: wsA) B.pre w (List.mem_cons_of_mem _ hw), hE⟩
  have hl := lv_entry [.ref (b + 156), .int x1, .int x2, .int x3, .int x4, .int x5, .int x6] (n := 9) (Nat.le_of_ble_eq_true rfl)
  rw [lg_entry_eq]
  generalize (lg_sl [.ref (b + 156), .int x1, .int x2, .int x3, .int x4, .int x5, .int x6] ++ List.replicate (9 - (lg_sl [.ref (b + 156), .int x1, .int x2, .int x3, .int x4, .int x5, .int x6]).length) Slot.unset).toArray = ls at hl ⊢
  have hl : lv_has ls 9 [(0, .ref (b + 156)), (1, .int x1), (2, .int x2), (3, .int x3), (4, .int x4), (5, .int x5), (6, .int x6)] := hl
  exact w_X5_lock_0 C hml B.returns B.notSynchronized h va_S.rf hW hl
def f_X5_refresh_68 (M : Mem) (x2 : Int32) (x3 : Int32) (xs1 : Int32) : Option (Int32 × Mem) :=
  if ((mu M 39 0 xs1) 39 0) ≤ 0 then (if x2 < 0 ∨ 30 ≤ x2.toNatClampNeg then none else if x2 < 0 ∨ 30 ≤ x2.toNatClampNeg then none else some (((mu M 39 0 xs1) 34 x2.toNatClampNeg) - ((mu M 39 0 xs1) 28 0), mu (mu M 39 0 xs1) 34 x2.toNatClampNeg (((mu M 39 0 xs1) 28 0) + x3))) else some ((0 : Int32), mu M 39 0 xs1)
set_option maxHeartbeats 4000000 in
set_option maxRecDepth 100000 in
theorem w_X5_refresh_68 {p : Program} {l : Launch} {e : Env} {s : State} {m : MethodId} {args : Array Value} {below : List Frame} {meth : Method} {c : Code} {Z : Zt} {b : Nat} (C : Cx p s m args c cX5_refresh RX5 Z b) (hml : c.maxLocals = 5) (hr : meth.sig.returnType = (some .int)) (hlk : meth.locks = false) {r' : Int32} {M' : Mem} {M : Mem} {x2 : Int32} {x3 : Int32} {xs1 : Int32} (h : f_X5_refresh_68 M x2 x3 xs1 = some (r', M')) {H : Heap} {locs : List Loc} {ls : Array Slot} (hS : va_S (A0 b) s.heap H locs) (hW : Wd Z b M H) (hl : lv_has ls 5 [(0, .ref (b + 156)), (2, .int x2), (3, .int x3)]) : W p l e rm_X5_refresh s m args below meth c H locs 0 0 (MQ below (Qn Z b (some (.int r')) M') args s 0 0 (A0 b)) (F0 m 68 ls [.int xs1, .ref (b + 156)]) := by
  unfold f_X5_refresh_68 at h
  have hx := C.1
  have hb := C.2.1
  refine pX5_56 C hS hW dX5_refresh_68 (fun H locs hW hS => ?_)
  refine lv_aload_n hx hb dX5_refresh_71 rfl (lv_at hl 0 rfl) ?_
  refine gX5_56 C hW dX5_refresh_72 ?_
  refine lv_if_le (tgt := 80) hx hb dX5_refresh_75 (by decide) (fun c75 => ?_) (fun c75 => ?_)
  · have h := (if_pos c75).symm.trans h
    refine lv_aload_n hx hb dX5_refresh_80 rfl (lv_at hl 0 rfl) ?_
    refine gX5_44 C hW dX5_refresh_81 ?_
    refine lv_iload_n hx hb dX5_refresh_84 rfl (lv_at hl 1 rfl) ?_
    obtain ⟨g85, h⟩ := gd h
    refine ald_168 C hW g85 dX5_refresh_85 ?_
    refine lv_aload_n hx hb dX5_refresh_86 rfl (lv_at hl 0 rfl) ?_
    refine gX5_88 C hW dX5_refresh_87 ?_
    refine lv_isub hx hb dX5_refresh_90 ?_
    refine lv_istore (lv' := [(4, .int (((mu M 39 0 xs1) 34 x2.toNatClampNeg) - ((mu M 39 0 xs1) 28 0))), (0, .ref (b + 156)), (2, .int x2), (3, .int x3)]) hx hb dX5_refresh_91 hl (by decide) rfl (fun ls hl => ?_)
    refine lv_aload_n hx hb dX5_refresh_93 rfl (lv_at hl 1 rfl) ?_
    refine gX5_44 C hW dX5_refresh_94 ?_
    refine lv_iload_n hx hb dX5_refresh_97 rfl (lv_at hl 2 rfl) ?_
    refine lv_aload_n hx hb dX5_refresh_98 rfl (lv_at hl 1 rfl) ?_
    refine gX5_88 C hW dX5_refresh_99 ?_
    refine lv_iload_n hx hb dX5_refresh_102 rfl (lv_at hl 3 rfl) ?_
    refine lv_iadd hx hb dX5_refresh_103 ?_
    obtain ⟨g104, h⟩ := gd h
    refine ast_168 C hS hW g104 dX5_refresh_104 (fun H locs hW hS => ?_)
    refine lv_iload hx hb dX5_refresh_105 (lv_at hl 0 rfl) ?_
    cases h
    exact ret_i C hr hlk hS hW dX5_refresh_107
  · have h := (if_neg c75).symm.trans h
    refine lv_iconst (v := (0 : Int32)) hx hb dX5_refresh_78 (by decide) ?_
    cases h
    exact ret_i C hr hlk hS hW dX5_refresh_79
def f_X5_refresh_49 (M : Mem) (x2 : Int32) (x3 : Int32) : Option (Int32 × Mem) :=
  f_X5_refresh_68 M x2 x3 (2 : Int32)
set_option maxHeartbeats 4000000 in
set_option maxRecDepth 100000 in
theorem w_X5_refresh_49 {p : Program} {l : Launch} {e : Env} {s : State} {m : MethodId} {args : Array Value} {below : List Frame} {meth : Method} {c : Code} {Z : Zt} {b : Nat} (C : Cx p s m args c cX5_refresh RX5 Z b) (hml : c.maxLocals = 5) (hr : meth.sig.returnType = (some .int)) (hlk : meth.locks = false) {r' : Int32} {M' : Mem} {M : Mem} {x2 : Int32} {x3 : Int32} (h : f_X5_refresh_49 M x2 x3 = some (r', M')) {H : Heap} {locs : List Loc} {ls : Array Slot} (hS : va_S (A0 b) s.heap H locs) (hW : Wd Z b M H) (hl : lv_has ls 5 [(0, .ref (b + 156)), (2, .int x2), (3, .int x3)]) : W p l e rm_X5_refresh s m args below meth c H locs 0 0 (MQ below (Qn Z b (some (.int r')) M') args s 0 0 (A0 b)) (F0 m 49 ls [.ref (b + 156)]) := by
  unfold f_X5_refresh_49 at h
  have hx := C.1
  have hb := C.2.1
  refine lv_iconst (v := (2 : Int32)) hx hb dX5_refresh_49 (by decide) ?_
  refine lv_goto (tgt := 68) hx hb dX5_refresh_50 (by decide) ?_
  exact w_X5_refresh_68 C hml hr hlk h hS hW (lv_sub hl [0, 1, 2] rfl)
def f_X5_refresh_0 (M : Mem) (x1 : Int32) (x2 : Int32) (x3 : Int32) : Option (Int32 × Mem) :=
  bd2 (f_X5_isIn M x2 (0 : Int32) ((M 29 0) - (1 : Int32))) (fun r9 M9 => if r9 = 0 then f_X5_refresh_68 M9 x2 x3 (1 : Int32) else bd2 (f_X5_isOn M9 x2) (fun r21 M21 => if r21 = 0 then f_X5_refresh_68 M21 x2 x3 (1 : Int32) else bd2 (f_X5_isClient M21 x1) (fun r32 M32 => if r32 = 0 then f_X5_refresh_49 M32 x2 x3 else bd2 (f_X5_isIn M32 x3 (0 : Int32) (1000 : Int32)) (fun r43 M43 => if r43 = 0 then f_X5_refresh_49 M43 x2 x3 else if x2 < 0 ∨ 30 ≤ x2.toNatClampNeg then none else if (M43 30 x2.toNatClampNeg) = x1 then f_X5_refresh_68 M43 x2 x3 (0 : Int32) else f_X5_refresh_68 M43 x2 x3 (3 : Int32)))))
set_option maxHeartbeats 4000000 in
set_option maxRecDepth 100000 in
theorem w_X5_refresh_0 {p : Program} {l : Launch} {e : Env} {s : State} {m : MethodId} {args : Array Value} {below : List Frame} {meth : Method} {c : Code} {Z : Zt} {b : Nat} (C : Cx p s m args c cX5_refresh RX5 Z b) (hml : c.maxLocals = 5) (hr : meth.sig.returnType = (some .int)) (hlk : meth.locks = false) {r' : Int32} {M' : Mem} {M : Mem} {x1 : Int32} {x2 : Int32} {x3 : Int32} (h : f_X5_refresh_0 M x1 x2 x3 = some (r', M')) {H : Heap} {locs : List Loc} {ls : Array Slot} (hS : va_S (A0 b) s.heap H locs) (hW : Wd Z b M H) (hl : lv_has ls 5 [(0, .ref (b + 156)), (1, .int x1), (2, .int x2), (3, .int x3)]) : W p l e rm_X5_refresh s m args below meth c H locs 0 0 (MQ below (Qn Z b (some (.int r')) M') args s 0 0 (A0 b)) (F0 m 0 ls []) := by
  unfold f_X5_refresh_0 at h
  have hx := C.1
  have hb := C.2.1
  refine lv_aload_n hx hb dX5_refresh_0 rfl (lv_at hl 0 rfl) ?_
  refine lv_iload_n hx hb dX5_refresh_1 rfl (lv_at hl 2 rfl) ?_
  refine lv_iconst (v := (0 : Int32)) hx hb dX5_refresh_2 (by decide) ?_
  refine lv_aload_n hx hb dX5_refresh_3 rfl (lv_at hl 0 rfl) ?_
  refine gX5_85 C hW dX5_refresh_4 ?_
  refine lv_iconst (v := (1 : Int32)) hx hb dX5_refresh_7 (by decide) ?_
  refine lv_isub hx hb dX5_refresh_8 ?_
  obtain ⟨r9, M9, hc9, h⟩ := bd2_e h
  refine kX5_60 C hml hl.1 (c_X5_isIn hc9) ⟨Nat.le_of_ble_eq_true rfl, Nat.le_of_ble_eq_true rfl⟩ ⟨Nat.le_of_ble_eq_true rfl, Nat.le_of_ble_eq_true rfl⟩ (Nat.le_of_ble_eq_true rfl) hS hW dX5_refresh_9 (fun H locs hW hS => ?_)
  refine lv_if_ne (tgt := 19) hx hb dX5_refresh_12 (by decide) (fun c12 => ?_) (fun c12 => ?_)
  · have h := (if_neg c12).symm.trans h
    refine lv_aload_n hx hb dX5_refresh_19 rfl (lv_at hl 0 rfl) ?_
    refine lv_iload_n hx hb dX5_refresh_20 rfl (lv_at hl 2 rfl) ?_
    obtain ⟨r21, M21, hc21, h⟩ := bd2_e h
    refine kX5_91 C hml hl.1 (c_X5_isOn hc21) ⟨Nat.le_of_ble_eq_true rfl, Nat.le_of_ble_eq_true rfl⟩ ⟨Nat.le_of_ble_eq_true rfl, Nat.le_of_ble_eq_true rfl⟩ (Nat.le_of_ble_eq_true rfl) hS hW dX5_refresh_21 (fun H locs hW hS => ?_)
    refine lv_if_ne (tgt := 31) hx hb dX5_refresh_24 (by decide) (fun c24 => ?_) (fun c24 => ?_)
    · have h := (if_neg c24).symm.trans h
      refine lv_iload_n hx hb dX5_refresh_31 rfl (lv_at hl 1 rfl) ?_
      obtain ⟨r32, M32, hc32, h⟩ := bd2_e h
      refine kX5_68 C hml hl.1 (c_X5_isClient hc32) ⟨Nat.le_of_ble_eq_true rfl, Nat.le_of_ble_eq_true rfl⟩ ⟨Nat.le_of_ble_eq_true rfl, Nat.le_of_ble_eq_true rfl⟩ (Nat.le_of_ble_eq_true rfl) hS hW dX5_refresh_32 (fun H locs hW hS => ?_)
      refine lv_if_eq (tgt := 49) hx hb dX5_refresh_35 (by decide) (fun c35 => ?_) (fun c35 => ?_)
      · have h := (if_pos c35).symm.trans h
        exact w_X5_refresh_49 C hml hr hlk h hS hW (lv_sub hl [0, 2, 3] rfl)
      · have h := (if_neg c35).symm.trans h
        refine lv_iload_n hx hb dX5_refresh_38 rfl (lv_at hl 3 rfl) ?_
        refine lv_iconst (v := (0 : Int32)) hx hb dX5_refresh_39 (by decide) ?_
        refine lv_sipush (v := (1000 : Int32)) hx hb dX5_refresh_40 (by decide) ?_
        obtain ⟨r43, M43, hc43, h⟩ := bd2_e h
        refine kX5_60 C hml hl.1 (c_X5_isIn hc43) ⟨Nat.le_of_ble_eq_true rfl, Nat.le_of_ble_eq_true rfl⟩ ⟨Nat.le_of_ble_eq_true rfl, Nat.le_of_ble_eq_true rfl⟩ (Nat.le_of_ble_eq_true rfl) hS hW dX5_refresh_43 (fun H locs hW hS => ?_)
        refine lv_if_ne (tgt := 53) hx hb dX5_refresh_46 (by decide) (fun c46 => ?_) (fun c46 => ?_)
        · have h := (if_neg c46).symm.trans h
          refine lv_aload_n hx hb dX5_refresh_53 rfl (lv_at hl 0 rfl) ?_
          refine gX5_32 C hW dX5_refresh_54 ?_
          refine lv_iload_n hx hb dX5_refresh_57 rfl (lv_at hl 2 rfl) ?_
          obtain ⟨g58, h⟩ := gd h
          refine ald_164 C hW g58 dX5_refresh_58 ?_
          refine lv_iload_n hx hb dX5_refresh_59 rfl (lv_at hl 1 rfl) ?_
          refine lv_icmp_ne (tgt := 67) hx hb dX5_refresh_60 (by decide) (fun c60 => ?_) (fun c60 => ?_)
          · have h := (if_neg c60).symm.trans h
            refine lv_iconst (v := (3 : Int32)) hx hb dX5_refresh_67 (by decide) ?_
            exact w_X5_refresh_68 C hml hr hlk h hS hW (lv_sub hl [0, 2, 3] rfl)
          · have h := (if_pos c60).symm.trans h
            refine lv_iconst (v := (0 : Int32)) hx hb dX5_refresh_63 (by decide) ?_
            refine lv_goto (tgt := 68) hx hb dX5_refresh_64 (by decide) ?_
            exact w_X5_refresh_68 C hml hr hlk h hS hW (lv_sub hl [0, 2, 3] rfl)
        · have h := (if_pos c46).symm.trans h
          exact w_X5_refresh_49 C hml hr hlk h hS hW (lv_sub hl [0, 2, 3] rfl)
    · have h := (if_pos c24).symm.trans h
      refine lv_iconst (v := (1 : Int32)) hx hb dX5_refresh_27 (by decide) ?_
      refine lv_goto (tgt := 68) hx hb dX5_refresh_28 (by decide) ?_
      exact w_X5_refresh_68 C hml hr hlk h hS hW (lv_sub hl [0, 2, 3] rfl)
  · have h := (if_pos c12).symm.trans h
    refine lv_iconst (v := (1 : Int32)) hx hb dX5_refresh_15 (by decide) ?_
    refine lv_goto (tgt := 68) hx hb dX5_refresh_16 (by decide) ?_
    exact w_X5_refresh_68 C hml hr hlk h hS hW (lv_sub hl [0, 2, 3] rfl)
def f_X5_refresh (M : Mem) (x1 : Int32) (x2 : Int32) (x3 : Int32) : Option (Int32 × Mem) := f_X5_refresh_0 M x1 x2 x3
set_option maxHeartbeats 4000000 in
set_option maxRecDepth 100000 in
theorem c_X5_refresh {l : Launch} {Z : Zt} {b : Nat} {M : Mem} {x1 : Int32} {x2 : Int32} {x3 : Int32} {r' : Int32} {M' : Mem} (h : f_X5_refresh M x1 x2 x3 = some (r', M')) : Ct l yX5_refresh cX5_refresh 5 (some .int) rm_X5_refresh Z b [.ref (b + 156), .int x1, .int x2, .int x3] M (some (.int r')) M' := by
  refine Met.ofW (cc := cX5_refresh) (maxL := 5) (ret := (some .int)) (by decide) rfl ?_
  intro p e s m args below meth c s₁ B hml hv
  obtain ⟨rfl, hE, hW⟩ := hv
  have C : Cx p s m [.ref (b + 156), .int x1, .int x2, .int x3].toArray c cX5_refresh RX5 Z b := ⟨B.exec, B.bytes, findClass_of_methodNamed B.named, fun w hw => atoms_spec (ws := Cond.code yX5_refresh cX5_refresh 5 (some .int) :: wsA) B.pre w (List.mem_cons_of_mem _ hw), hE⟩
  have hl := lv_entry [.ref (b + 156), .int x1, .int x2, .int x3] (n := 5) (Nat.le_of_ble_eq_true rfl)
  rw [lg_entry_eq]
  generalize (lg_sl [.ref (b + 156), .int x1, .int x2, .int x3] ++ List.replicate (5 - (lg_sl [.ref (b + 156), .int x1, .int x2, .int x3]).length) Slot.unset).toArray = ls at hl ⊢
  have hl : lv_has ls 5 [(0, .ref (b + 156)), (1, .int x1), (2, .int x2), (3, .int x3)] := hl
  exact w_X5_refresh_0 C hml B.returns B.notSynchronized h va_S.rf hW hl
def f_X5_pass_108 (M : Mem) (x2 : Int32) (xs1 : Int32) (xs2 : Int32) : Option (Int32 × Mem) :=
  some (x2, mu M 28 0 (xs1 + xs2))
set_option maxHeartbeats 4000000 in
set_option maxRecDepth 100000 in
theorem w_X5_pass_108 {p : Program} {l : Launch} {e : Env} {s : State} {m : MethodId} {args : Array Value} {below : List Frame} {meth : Method} {c : Code} {Z : Zt} {b : Nat} (C : Cx p s m args c cX5_pass RX5 Z b) (hml : c.maxLocals = 4) (hr : meth.sig.returnType = (some .int)) (hlk : meth.locks = false) {r' : Int32} {M' : Mem} {M : Mem} {x2 : Int32} {xs1 : Int32} {xs2 : Int32} (h : f_X5_pass_108 M x2 xs1 xs2 = some (r', M')) {H : Heap} {locs : List Loc} {ls : Array Slot} (hS : va_S (A0 b) s.heap H locs) (hW : Wd Z b M H) (hl : lv_has ls 4 [(2, .int x2)]) : W p l e rm_X5_pass s m args below meth c H locs 0 0 (MQ below (Qn Z b (some (.int r')) M') args s 0 0 (A0 b)) (F0 m 108 ls [.int xs2, .int xs1, .ref (b + 156)]) := by
  unfold f_X5_pass_108 at h
  have hx := C.1
  have hb := C.2.1
  refine lv_iadd hx hb dX5_pass_108 ?_
  refine pX5_88 C hS hW dX5_pass_109 (fun H locs hW hS => ?_)
  refine lv_iload_n hx hb dX5_pass_112 rfl (lv_at hl 0 rfl) ?_
  cases h
  exact ret_i C hr hlk hS hW dX5_pass_113
def f_X5_pass_91 (M : Mem) (x1 : Int32) (x2 : Int32) : Option (Int32 × Mem) :=
  if (M 39 0) = 0 then f_X5_pass_108 M x2 (M 28 0) x1 else f_X5_pass_108 M x2 (M 28 0) (0 : Int32)
set_option maxHeartbeats 4000000 in
set_option maxRecDepth 100000 in
theorem w_X5_pass_91 {p : Program} {l : Launch} {e : Env} {s : State} {m : MethodId} {args : Array Value} {below : List Frame} {meth : Method} {c : Code} {Z : Zt} {b : Nat} (C : Cx p s m args c cX5_pass RX5 Z b) (hml : c.maxLocals = 4) (hr : meth.sig.returnType = (some .int)) (hlk : meth.locks = false) {r' : Int32} {M' : Mem} {M : Mem} {x1 : Int32} {x2 : Int32} (h : f_X5_pass_91 M x1 x2 = some (r', M')) {H : Heap} {locs : List Loc} {ls : Array Slot} (hS : va_S (A0 b) s.heap H locs) (hW : Wd Z b M H) (hl : lv_has ls 4 [(0, .ref (b + 156)), (1, .int x1), (2, .int x2)]) : W p l e rm_X5_pass s m args below meth c H locs 0 0 (MQ below (Qn Z b (some (.int r')) M') args s 0 0 (A0 b)) (F0 m 91 ls []) := by
  unfold f_X5_pass_91 at h
  have hx := C.1
  have hb := C.2.1
  refine lv_aload_n hx hb dX5_pass_91 rfl (lv_at hl 0 rfl) ?_
  refine lv_dup hx hb dX5_pass_92 rfl ?_
  refine gX5_88 C hW dX5_pass_93 ?_
  refine lv_aload_n hx hb dX5_pass_96 rfl (lv_at hl 0 rfl) ?_
  refine gX5_56 C hW dX5_pass_97 ?_
  refine lv_if_ne (tgt := 107) hx hb dX5_pass_100 (by decide) (fun c100 => ?_) (fun c100 => ?_)
  · have h := (if_neg c100).symm.trans h
    refine lv_iconst (v := (0 : Int32)) hx hb dX5_pass_107 (by decide) ?_
    exact w_X5_pass_108 C hml hr hlk h hS hW (lv_sub hl [2] rfl)
  · have h := (if_pos c100).symm.trans h
    refine lv_iload_n hx hb dX5_pass_103 rfl (lv_at hl 1 rfl) ?_
    refine lv_goto (tgt := 108) hx hb dX5_pass_104 (by decide) ?_
    exact w_X5_pass_108 C hml hr hlk h hS hW (lv_sub hl [2] rfl)
def f_X5_pass_83 (K39 : Mem → Int32 → Int32 → Int32 → Option (Int32 × Mem)) (M : Mem) (x1 : Int32) (x3 : Int32) (xs0 : Int32) (xs1 : Int32) : Option (Int32 × Mem) :=
  K39 M x1 (xs0 + xs1) (x3 + 1)
set_option maxHeartbeats 4000000 in
set_option maxRecDepth 100000 in
theorem w_X5_pass_83 {p : Program} {l : Launch} {e : Env} {s : State} {m : MethodId} {args : Array Value} {below : List Frame} {meth : Method} {c : Code} {Z : Zt} {b : Nat} (C : Cx p s m args c cX5_pass RX5 Z b) (hml : c.maxLocals = 4) (hr : meth.sig.returnType = (some .int)) (hlk : meth.locks = false) {r' : Int32} {M' : Mem} {K39 : Mem → Int32 → Int32 → Int32 → Option (Int32 × Mem)} (hK39 : ∀ {M : Mem} {x1 : Int32} {x2 : Int32} {x3 : Int32} (h : K39 M x1 x2 x3 = some (r', M')) {H : Heap} {locs : List Loc} {ls : Array Slot} (hS : va_S (A0 b) s.heap H locs) (hW : Wd Z b M H) (hl : lv_has ls 4 [(0, .ref (b + 156)), (1, .int x1), (2, .int x2), (3, .int x3)]), W p l e rm_X5_pass s m args below meth c H locs 0 0 (MQ below (Qn Z b (some (.int r')) M') args s 0 0 (A0 b)) (F0 m 39 ls [])) {M : Mem} {x1 : Int32} {x3 : Int32} {xs0 : Int32} {xs1 : Int32} (h : f_X5_pass_83 K39 M x1 x3 xs0 xs1 = some (r', M')) {H : Heap} {locs : List Loc} {ls : Array Slot} (hS : va_S (A0 b) s.heap H locs) (hW : Wd Z b M H) (hl : lv_has ls 4 [(0, .ref (b + 156)), (1, .int x1), (3, .int x3)]) : W p l e rm_X5_pass s m args below meth c H locs 0 0 (MQ below (Qn Z b (some (.int r')) M') args s 0 0 (A0 b)) (F0 m 83 ls [.int xs1, .int xs0]) := by
  unfold f_X5_pass_83 at h
  have hx := C.1
  have hb := C.2.1
  refine lv_iadd hx hb dX5_pass_83 ?_
  refine lv_istore_n (lv' := [(2, .int (xs0 + xs1)), (0, .ref (b + 156)), (1, .int x1), (3, .int x3)]) hx hb dX5_pass_84 rfl hl (by decide) rfl (fun ls hl => ?_)
  refine lv_iinc (v := x3 + 1) (lv' := [(3, .int (x3 + 1)), (2, .int (xs0 + xs1)), (0, .ref (b + 156)), (1, .int x1)]) hx hb dX5_pass_85 hl (k := 3) rfl rfl (by decide) rfl (fun ls hl => ?_)
  refine lv_goto (tgt := 39) hx hb dX5_pass_88 (by decide) ?_
  exact hK39 h hS hW (lv_sub hl [2, 3, 1, 0] rfl)
def f_X5_pass_82 (K39 : Mem → Int32 → Int32 → Int32 → Option (Int32 × Mem)) (M : Mem) (x1 : Int32) (x3 : Int32) (xs0 : Int32) : Option (Int32 × Mem) :=
  f_X5_pass_83 K39 M x1 x3 xs0 (0 : Int32)
set_option maxHeartbeats 4000000 in
set_option maxRecDepth 100000 in
theorem w_X5_pass_82 {p : Program} {l : Launch} {e : Env} {s : State} {m : MethodId} {args : Array Value} {below : List Frame} {meth : Method} {c : Code} {Z : Zt} {b : Nat} (C : Cx p s m args c cX5_pass RX5 Z b) (hml : c.maxLocals = 4) (hr : meth.sig.returnType = (some .int)) (hlk : meth.locks = false) {r' : Int32} {M' : Mem} {K39 : Mem → Int32 → Int32 → Int32 → Option (Int32 × Mem)} (hK39 : ∀ {M : Mem} {x1 : Int32} {x2 : Int32} {x3 : Int32} (h : K39 M x1 x2 x3 = some (r', M')) {H : Heap} {locs : List Loc} {ls : Array Slot} (hS : va_S (A0 b) s.heap H locs) (hW : Wd Z b M H) (hl : lv_has ls 4 [(0, .ref (b + 156)), (1, .int x1), (2, .int x2), (3, .int x3)]), W p l e rm_X5_pass s m args below meth c H locs 0 0 (MQ below (Qn Z b (some (.int r')) M') args s 0 0 (A0 b)) (F0 m 39 ls [])) {M : Mem} {x1 : Int32} {x3 : Int32} {xs0 : Int32} (h : f_X5_pass_82 K39 M x1 x3 xs0 = some (r', M')) {H : Heap} {locs : List Loc} {ls : Array Slot} (hS : va_S (A0 b) s.heap H locs) (hW : Wd Z b M H) (hl : lv_has ls 4 [(0, .ref (b + 156)), (1, .int x1), (3, .int x3)]) : W p l e rm_X5_pass s m args below meth c H locs 0 0 (MQ below (Qn Z b (some (.int r')) M') args s 0 0 (A0 b)) (F0 m 82 ls [.int xs0]) := by
  unfold f_X5_pass_82 at h
  have hx := C.1
  have hb := C.2.1
  refine lv_iconst (v := (0 : Int32)) hx hb dX5_pass_82 (by decide) ?_
  exact w_X5_pass_83 C hml hr hlk hK39 h hS hW (lv_sub hl [0, 1, 2] rfl)
def f_X5_pass_39B (K39 : Mem → Int32 → Int32 → Int32 → Option (Int32 × Mem)) (M : Mem) (x1 : Int32) (x2 : Int32) (x3 : Int32) : Option (Int32 × Mem) :=
  if (M 29 0) ≤ x3 then f_X5_pass_91 M x1 x2 else if (M 39 0) = 0 then bd2 (f_X5_isOn M x3) (fun r57 M57 => if r57 = 0 then f_X5_pass_82 K39 M57 x1 x3 x2 else if x3 < 0 ∨ 30 ≤ x3.toNatClampNeg then none else if ((M57 28 0) + x1) < (M57 34 x3.toNatClampNeg) then f_X5_pass_82 K39 M57 x1 x3 x2 else f_X5_pass_83 K39 M57 x1 x3 x2 (1 : Int32)) else f_X5_pass_91 M x1 x2
def f_X5_pass_39 : Nat → Mem → Int32 → Int32 → Int32 → Option (Int32 × Mem)
  | 0 => fun _ _ _ _ => none
  | n + 1 => f_X5_pass_39B (f_X5_pass_39 n)
set_option maxHeartbeats 4000000 in
set_option maxRecDepth 100000 in
theorem w_X5_pass_39 {p : Program} {l : Launch} {e : Env} {s : State} {m : MethodId} {args : Array Value} {below : List Frame} {meth : Method} {c : Code} {Z : Zt} {b : Nat} (C : Cx p s m args c cX5_pass RX5 Z b) (hml : c.maxLocals = 4) (hr : meth.sig.returnType = (some .int)) (hlk : meth.locks = false) {r' : Int32} {M' : Mem} : ∀ (n : Nat) {M : Mem} {x1 : Int32} {x2 : Int32} {x3 : Int32} (h : f_X5_pass_39 n M x1 x2 x3 = some (r', M')) {H : Heap} {locs : List Loc} {ls : Array Slot} (hS : va_S (A0 b) s.heap H locs) (hW : Wd Z b M H) (hl : lv_has ls 4 [(0, .ref (b + 156)), (1, .int x1), (2, .int x2), (3, .int x3)]), W p l e rm_X5_pass s m args below meth c H locs 0 0 (MQ below (Qn Z b (some (.int r')) M') args s 0 0 (A0 b)) (F0 m 39 ls []) := by
  intro n
  induction n with
  | zero =>
    intro M x1 x2 x3 h
    cases h
  | succ n ih =>
    intro M x1 x2 x3 h H locs ls hS hW hl
    have h : f_X5_pass_39B (f_X5_pass_39 n) M x1 x2 x3 = some (r', M') := h
    unfold f_X5_pass_39B at h
    have hK39 := @ih
    have hx := C.1
    have hb := C.2.1
    refine lv_iload_n hx hb dX5_pass_39 rfl (lv_at hl 3 rfl) ?_
    refine lv_aload_n hx hb dX5_pass_40 rfl (lv_at hl 0 rfl) ?_
    refine gX5_85 C hW dX5_pass_41 ?_
    refine lv_icmp_ge (tgt := 91) hx hb dX5_pass_44 (by decide) (fun c44 => ?_) (fun c44 => ?_)
    · have h := (if_pos c44).symm.trans h
      exact w_X5_pass_91 C hml hr hlk h hS hW (lv_sub hl [0, 1, 2] rfl)
    · have h := (if_neg c44).symm.trans h
      refine lv_aload_n hx hb dX5_pass_47 rfl (lv_at hl 0 rfl) ?_
      refine gX5_56 C hW dX5_pass_48 ?_
      refine lv_if_ne (tgt := 91) hx hb dX5_pass_51 (by decide) (fun c51 => ?_) (fun c51 => ?_)
      · have h := (if_neg c51).symm.trans h
        exact w_X5_pass_91 C hml hr hlk h hS hW (lv_sub hl [0, 1, 2] rfl)
      · have h := (if_pos c51).symm.trans h
        refine lv_iload_n hx hb dX5_pass_54 rfl (lv_at hl 2 rfl) ?_
        refine lv_aload_n hx hb dX5_pass_55 rfl (lv_at hl 0 rfl) ?_
        refine lv_iload_n hx hb dX5_pass_56 rfl (lv_at hl 3 rfl) ?_
        obtain ⟨r57, M57, hc57, h⟩ := bd2_e h
        refine kX5_91 C hml hl.1 (c_X5_isOn hc57) ⟨Nat.le_of_ble_eq_true rfl, Nat.le_of_ble_eq_true rfl⟩ ⟨Nat.le_of_ble_eq_true rfl, Nat.le_of_ble_eq_true rfl⟩ (Nat.le_of_ble_eq_true rfl) hS hW dX5_pass_57 (fun H locs hW hS => ?_)
        refine lv_if_eq (tgt := 82) hx hb dX5_pass_60 (by decide) (fun c60 => ?_) (fun c60 => ?_)
        · have h := (if_pos c60).symm.trans h
          exact w_X5_pass_82 C hml hr hlk hK39 h hS hW (lv_sub hl [0, 1, 3] rfl)
        · have h := (if_neg c60).symm.trans h
          refine lv_aload_n hx hb dX5_pass_63 rfl (lv_at hl 0 rfl) ?_
          refine gX5_44 C hW dX5_pass_64 ?_
          refine lv_iload_n hx hb dX5_pass_67 rfl (lv_at hl 3 rfl) ?_
          obtain ⟨g68, h⟩ := gd h
          refine ald_168 C hW g68 dX5_pass_68 ?_
          refine lv_aload_n hx hb dX5_pass_69 rfl (lv_at hl 0 rfl) ?_
          refine gX5_88 C hW dX5_pass_70 ?_
          refine lv_iload_n hx hb dX5_pass_73 rfl (lv_at hl 1 rfl) ?_
          refine lv_iadd hx hb dX5_pass_74 ?_
          refine lv_icmp_gt (tgt := 82) hx hb dX5_pass_75 (by decide) (fun c75 => ?_) (fun c75 => ?_)
          · have h := (if_pos c75).symm.trans h
            exact w_X5_pass_82 C hml hr hlk hK39 h hS hW (lv_sub hl [0, 1, 3] rfl)
          · have h := (if_neg c75).symm.trans h
            refine lv_iconst (v := (1 : Int32)) hx hb dX5_pass_78 (by decide) ?_
            refine lv_goto (tgt := 83) hx hb dX5_pass_79 (by decide) ?_
            exact w_X5_pass_83 C hml hr hlk hK39 h hS hW (lv_sub hl [0, 1, 3] rfl)
def f_X5_pass_32 (M : Mem) (x1 : Int32) (xs1 : Int32) : Option (Int32 × Mem) :=
  f_X5_pass_39 64 (mu M 39 0 xs1) x1 (0 : Int32) (0 : Int32)
set_option maxHeartbeats 4000000 in
set_option maxRecDepth 100000 in
theorem w_X5_pass_32 {p : Program} {l : Launch} {e : Env} {s : State} {m : MethodId} {args : Array Value} {below : List Frame} {meth : Method} {c : Code} {Z : Zt} {b : Nat} (C : Cx p s m args c cX5_pass RX5 Z b) (hml : c.maxLocals = 4) (hr : meth.sig.returnType = (some .int)) (hlk : meth.locks = false) {r' : Int32} {M' : Mem} {M : Mem} {x1 : Int32} {xs1 : Int32} (h : f_X5_pass_32 M x1 xs1 = some (r', M')) {H : Heap} {locs : List Loc} {ls : Array Slot} (hS : va_S (A0 b) s.heap H locs) (hW : Wd Z b M H) (hl : lv_has ls 4 [(0, .ref (b + 156)), (1, .int x1)]) : W p l e rm_X5_pass s m args below meth c H locs 0 0 (MQ below (Qn Z b (some (.int r')) M') args s 0 0 (A0 b)) (F0 m 32 ls [.int xs1, .ref (b + 156)]) := by
  unfold f_X5_pass_32 at h
  have hx := C.1
  have hb := C.2.1
  refine pX5_56 C hS hW dX5_pass_32 (fun H locs hW hS => ?_)
  refine lv_iconst (v := (0 : Int32)) hx hb dX5_pass_35 (by decide) ?_
  refine lv_istore_n (lv' := [(2, .int (0 : Int32)), (0, .ref (b + 156)), (1, .int x1)]) hx hb dX5_pass_36 rfl hl (by decide) rfl (fun ls hl => ?_)
  refine lv_iconst (v := (0 : Int32)) hx hb dX5_pass_37 (by decide) ?_
  refine lv_istore_n (lv' := [(3, .int (0 : Int32)), (2, .int (0 : Int32)), (0, .ref (b + 156)), (1, .int x1)]) hx hb dX5_pass_38 rfl hl (by decide) rfl (fun ls hl => ?_)
  exact w_X5_pass_39 C hml hr hlk 64 h hS hW (lv_sub hl [2, 3, 1, 0] rfl)
def f_X5_pass_0 (M : Mem) (x1 : Int32) : Option (Int32 × Mem) :=
  bd2 (f_X5_isIn M x1 (1 : Int32) (1000 : Int32)) (fun r6 M6 => if r6 = 0 then f_X5_pass_32 M6 x1 (1 : Int32) else if ((M6 28 0) + x1) ≤ (1000000 : Int32) then f_X5_pass_32 M6 x1 (0 : Int32) else f_X5_pass_32 M6 x1 (2 : Int32))
set_option maxHeartbeats 4000000 in
set_option maxRecDepth 100000 in
theorem w_X5_pass_0 {p : Program} {l : Launch} {e : Env} {s : State} {m : MethodId} {args : Array Value} {below : List Frame} {meth : Method} {c : Code} {Z : Zt} {b : Nat} (C : Cx p s m args c cX5_pass RX5 Z b) (hml : c.maxLocals = 4) (hr : meth.sig.returnType = (some .int)) (hlk : meth.locks = false) {r' : Int32} {M' : Mem} {M : Mem} {x1 : Int32} (h : f_X5_pass_0 M x1 = some (r', M')) {H : Heap} {locs : List Loc} {ls : Array Slot} (hS : va_S (A0 b) s.heap H locs) (hW : Wd Z b M H) (hl : lv_has ls 4 [(0, .ref (b + 156)), (1, .int x1)]) : W p l e rm_X5_pass s m args below meth c H locs 0 0 (MQ below (Qn Z b (some (.int r')) M') args s 0 0 (A0 b)) (F0 m 0 ls []) := by
  unfold f_X5_pass_0 at h
  have hx := C.1
  have hb := C.2.1
  refine lv_aload_n hx hb dX5_pass_0 rfl (lv_at hl 0 rfl) ?_
  refine lv_iload_n hx hb dX5_pass_1 rfl (lv_at hl 1 rfl) ?_
  refine lv_iconst (v := (1 : Int32)) hx hb dX5_pass_2 (by decide) ?_
  refine lv_sipush (v := (1000 : Int32)) hx hb dX5_pass_3 (by decide) ?_
  obtain ⟨r6, M6, hc6, h⟩ := bd2_e h
  refine kX5_60 C hml hl.1 (c_X5_isIn hc6) ⟨Nat.le_of_ble_eq_true rfl, Nat.le_of_ble_eq_true rfl⟩ ⟨Nat.le_of_ble_eq_true rfl, Nat.le_of_ble_eq_true rfl⟩ (Nat.le_of_ble_eq_true rfl) hS hW dX5_pass_6 (fun H locs hW hS => ?_)
  refine lv_if_ne (tgt := 16) hx hb dX5_pass_9 (by decide) (fun c9 => ?_) (fun c9 => ?_)
  · have h := (if_neg c9).symm.trans h
    refine lv_aload_n hx hb dX5_pass_16 rfl (lv_at hl 0 rfl) ?_
    refine gX5_88 C hW dX5_pass_17 ?_
    refine lv_iload_n hx hb dX5_pass_20 rfl (lv_at hl 1 rfl) ?_
    refine lv_iadd hx hb dX5_pass_21 ?_
    refine lv_ldc (v := (1000000 : Int32)) hx hb C.2.2.1 (C.2.2.2.1 _ q893) dX5_pass_22 ?_
    refine lv_icmp_le (tgt := 31) hx hb dX5_pass_24 (by decide) (fun c24 => ?_) (fun c24 => ?_)
    · have h := (if_pos c24).symm.trans h
      refine lv_iconst (v := (0 : Int32)) hx hb dX5_pass_31 (by decide) ?_
      exact w_X5_pass_32 C hml hr hlk h hS hW (lv_sub hl [0, 1] rfl)
    · have h := (if_neg c24).symm.trans h
      refine lv_iconst (v := (2 : Int32)) hx hb dX5_pass_27 (by decide) ?_
      refine lv_goto (tgt := 32) hx hb dX5_pass_28 (by decide) ?_
      exact w_X5_pass_32 C hml hr hlk h hS hW (lv_sub hl [0, 1] rfl)
  · have h := (if_pos c9).symm.trans h
    refine lv_iconst (v := (1 : Int32)) hx hb dX5_pass_12 (by decide) ?_
    refine lv_goto (tgt := 32) hx hb dX5_pass_13 (by decide) ?_
    exact w_X5_pass_32 C hml hr hlk h hS hW (lv_sub hl [0, 1] rfl)
def f_X5_pass (M : Mem) (x1 : Int32) : Option (Int32 × Mem) := f_X5_pass_0 M x1
set_option maxHeartbeats 4000000 in
set_option maxRecDepth 100000 in
theorem c_X5_pass {l : Launch} {Z : Zt} {b : Nat} {M : Mem} {x1 : Int32} {r' : Int32} {M' : Mem} (h : f_X5_pass M x1 = some (r', M')) : Ct l yX5_pass cX5_pass 4 (some .int) rm_X5_pass Z b [.ref (b + 156), .int x1] M (some (.int r')) M' := by
  refine Met.ofW (cc := cX5_pass) (maxL := 4) (ret := (some .int)) (by decide) rfl ?_
  intro p e s m args below meth c s₁ B hml hv
  obtain ⟨rfl, hE, hW⟩ := hv
  have C : Cx p s m [.ref (b + 156), .int x1].toArray c cX5_pass RX5 Z b := ⟨B.exec, B.bytes, findClass_of_methodNamed B.named, fun w hw => atoms_spec (ws := Cond.code yX5_pass cX5_pass 4 (some .int) :: wsA) B.pre w (List.mem_cons_of_mem _ hw), hE⟩
  have hl := lv_entry [.ref (b + 156), .int x1] (n := 4) (Nat.le_of_ble_eq_true rfl)
  rw [lg_entry_eq]
  generalize (lg_sl [.ref (b + 156), .int x1] ++ List.replicate (4 - (lg_sl [.ref (b + 156), .int x1]).length) Slot.unset).toArray = ls at hl ⊢
  have hl : lv_has ls 4 [(0, .ref (b + 156)), (1, .int x1)] := hl
  exact w_X5_pass_0 C hml B.returns B.notSynchronized h va_S.rf hW hl
def f_X5_covering_0 (M : Mem) (x1 : Int32) : Option (Int32 × Mem) :=
  bd2 (f_X5_asks M x1) (fun r2 M2 => if r2 = 0 then some ((0 : Int32), M2) else bd2 (f_X5_set M2 x1) (fun r10 M10 => some (r10, M10)))
set_option maxHeartbeats 4000000 in
set_option maxRecDepth 100000 in
theorem w_X5_covering_0 {p : Program} {l : Launch} {e : Env} {s : State} {m : MethodId} {args : Array Value} {below : List Frame} {meth : Method} {c : Code} {Z : Zt} {b : Nat} (C : Cx p s m args c cX5_covering RX5 Z b) (hml : c.maxLocals = 2) (hr : meth.sig.returnType = (some .int)) (hlk : meth.locks = false) {r' : Int32} {M' : Mem} {M : Mem} {x1 : Int32} (h : f_X5_covering_0 M x1 = some (r', M')) {H : Heap} {locs : List Loc} {ls : Array Slot} (hS : va_S (A0 b) s.heap H locs) (hW : Wd Z b M H) (hl : lv_has ls 2 [(0, .ref (b + 156)), (1, .int x1)]) : W p l e rm_X5_covering s m args below meth c H locs 0 0 (MQ below (Qn Z b (some (.int r')) M') args s 0 0 (A0 b)) (F0 m 0 ls []) := by
  unfold f_X5_covering_0 at h
  have hx := C.1
  have hb := C.2.1
  refine lv_aload_n hx hb dX5_covering_0 rfl (lv_at hl 0 rfl) ?_
  refine lv_iload_n hx hb dX5_covering_1 rfl (lv_at hl 1 rfl) ?_
  obtain ⟨r2, M2, hc2, h⟩ := bd2_e h
  refine kX5_155 C hml hl.1 (c_X5_asks hc2) ⟨Nat.le_of_ble_eq_true rfl, Nat.le_of_ble_eq_true rfl⟩ ⟨Nat.le_of_ble_eq_true rfl, Nat.le_of_ble_eq_true rfl⟩ (Nat.le_of_ble_eq_true rfl) hS hW dX5_covering_2 (fun H locs hW hS => ?_)
  refine lv_if_eq (tgt := 16) hx hb dX5_covering_5 (by decide) (fun c5 => ?_) (fun c5 => ?_)
  · have h := (if_pos c5).symm.trans h
    refine lv_iconst (v := (0 : Int32)) hx hb dX5_covering_16 (by decide) ?_
    cases h
    exact ret_i C hr hlk hS hW dX5_covering_17
  · have h := (if_neg c5).symm.trans h
    refine lv_aload_n hx hb dX5_covering_8 rfl (lv_at hl 0 rfl) ?_
    refine lv_iload_n hx hb dX5_covering_9 rfl (lv_at hl 1 rfl) ?_
    obtain ⟨r10, M10, hc10, h⟩ := bd2_e h
    refine kX5_97 C hml hl.1 (c_X5_set hc10) ⟨Nat.le_of_ble_eq_true rfl, Nat.le_of_ble_eq_true rfl⟩ ⟨Nat.le_of_ble_eq_true rfl, Nat.le_of_ble_eq_true rfl⟩ (Nat.le_of_ble_eq_true rfl) hS hW dX5_covering_10 (fun H locs hW hS => ?_)
    refine lv_goto (tgt := 17) hx hb dX5_covering_13 (by decide) ?_
    cases h
    exact ret_i C hr hlk hS hW dX5_covering_17
def f_X5_covering (M : Mem) (x1 : Int32) : Option (Int32 × Mem) := f_X5_covering_0 M x1
set_option maxHeartbeats 4000000 in
set_option maxRecDepth 100000 in
theorem c_X5_covering {l : Launch} {Z : Zt} {b : Nat} {M : Mem} {x1 : Int32} {r' : Int32} {M' : Mem} (h : f_X5_covering M x1 = some (r', M')) : Ct l yX5_covering cX5_covering 2 (some .int) rm_X5_covering Z b [.ref (b + 156), .int x1] M (some (.int r')) M' := by
  refine Met.ofW (cc := cX5_covering) (maxL := 2) (ret := (some .int)) (by decide) rfl ?_
  intro p e s m args below meth c s₁ B hml hv
  obtain ⟨rfl, hE, hW⟩ := hv
  have C : Cx p s m [.ref (b + 156), .int x1].toArray c cX5_covering RX5 Z b := ⟨B.exec, B.bytes, findClass_of_methodNamed B.named, fun w hw => atoms_spec (ws := Cond.code yX5_covering cX5_covering 2 (some .int) :: wsA) B.pre w (List.mem_cons_of_mem _ hw), hE⟩
  have hl := lv_entry [.ref (b + 156), .int x1] (n := 2) (Nat.le_of_ble_eq_true rfl)
  rw [lg_entry_eq]
  generalize (lg_sl [.ref (b + 156), .int x1] ++ List.replicate (2 - (lg_sl [.ref (b + 156), .int x1]).length) Slot.unset).toArray = ls at hl ⊢
  have hl : lv_has ls 2 [(0, .ref (b + 156)), (1, .int x1)] := hl
  exact w_X5_covering_0 C hml B.returns B.notSynchronized h va_S.rf hW hl
def f_X5_mayChange_24 (M : Mem) (x1 : Int32) (x2 : Int32) (x3 : Int32) (xs1 : Int32) : Option (Int32 × Mem) :=
  if ((mu M 39 0 xs1) 39 0) = 0 then bd2 (f_X5_may (mu M 39 0 xs1) x1 x2 x3) (fun r38 M38 => if r38 = 0 then some ((0 : Int32), M38) else some ((1 : Int32), M38)) else some ((0 : Int32), mu M 39 0 xs1)
set_option maxHeartbeats 4000000 in
set_option maxRecDepth 100000 in
theorem w_X5_mayChange_24 {p : Program} {l : Launch} {e : Env} {s : State} {m : MethodId} {args : Array Value} {below : List Frame} {meth : Method} {c : Code} {Z : Zt} {b : Nat} (C : Cx p s m args c cX5_mayChange RX5 Z b) (hml : c.maxLocals = 4) (hr : meth.sig.returnType = (some .boolean)) (hlk : meth.locks = false) {r' : Int32} {M' : Mem} {M : Mem} {x1 : Int32} {x2 : Int32} {x3 : Int32} {xs1 : Int32} (h : f_X5_mayChange_24 M x1 x2 x3 xs1 = some (r', M')) {H : Heap} {locs : List Loc} {ls : Array Slot} (hS : va_S (A0 b) s.heap H locs) (hW : Wd Z b M H) (hl : lv_has ls 4 [(0, .ref (b + 156)), (1, .int x1), (2, .int x2), (3, .int x3)]) : W p l e rm_X5_mayChange s m args below meth c H locs 0 0 (MQ below (Qn Z b (some (.int r')) M') args s 0 0 (A0 b)) (F0 m 24 ls [.int xs1, .ref (b + 156)]) := by
  unfold f_X5_mayChange_24 at h
  have hx := C.1
  have hb := C.2.1
  refine pX5_56 C hS hW dX5_mayChange_24 (fun H locs hW hS => ?_)
  refine lv_aload_n hx hb dX5_mayChange_27 rfl (lv_at hl 0 rfl) ?_
  refine gX5_56 C hW dX5_mayChange_28 ?_
  refine lv_if_ne (tgt := 48) hx hb dX5_mayChange_31 (by decide) (fun c31 => ?_) (fun c31 => ?_)
  · have h := (if_neg c31).symm.trans h
    refine lv_iconst (v := (0 : Int32)) hx hb dX5_mayChange_48 (by decide) ?_
    cases h
    exact ret_z C hr hlk (by decide) hS hW dX5_mayChange_49
  · have h := (if_pos c31).symm.trans h
    refine lv_aload_n hx hb dX5_mayChange_34 rfl (lv_at hl 0 rfl) ?_
    refine lv_iload_n hx hb dX5_mayChange_35 rfl (lv_at hl 1 rfl) ?_
    refine lv_iload_n hx hb dX5_mayChange_36 rfl (lv_at hl 2 rfl) ?_
    refine lv_iload_n hx hb dX5_mayChange_37 rfl (lv_at hl 3 rfl) ?_
    obtain ⟨r38, M38, hc38, h⟩ := bd2_e h
    refine kX5_103 C hml hl.1 (c_X5_may hc38) ⟨Nat.le_of_ble_eq_true rfl, Nat.le_of_ble_eq_true rfl⟩ ⟨Nat.le_of_ble_eq_true rfl, Nat.le_of_ble_eq_true rfl⟩ (Nat.le_of_ble_eq_true rfl) hS hW dX5_mayChange_38 (fun H locs hW hS => ?_)
    refine lv_if_eq (tgt := 48) hx hb dX5_mayChange_41 (by decide) (fun c41 => ?_) (fun c41 => ?_)
    · have h := (if_pos c41).symm.trans h
      refine lv_iconst (v := (0 : Int32)) hx hb dX5_mayChange_48 (by decide) ?_
      cases h
      exact ret_z C hr hlk (by decide) hS hW dX5_mayChange_49
    · have h := (if_neg c41).symm.trans h
      refine lv_iconst (v := (1 : Int32)) hx hb dX5_mayChange_44 (by decide) ?_
      refine lv_goto (tgt := 49) hx hb dX5_mayChange_45 (by decide) ?_
      cases h
      exact ret_z C hr hlk (by decide) hS hW dX5_mayChange_49
def f_X5_mayChange_23 (M : Mem) (x1 : Int32) (x2 : Int32) (x3 : Int32) : Option (Int32 × Mem) :=
  f_X5_mayChange_24 M x1 x2 x3 (1 : Int32)
set_option maxHeartbeats 4000000 in
set_option maxRecDepth 100000 in
theorem w_X5_mayChange_23 {p : Program} {l : Launch} {e : Env} {s : State} {m : MethodId} {args : Array Value} {below : List Frame} {meth : Method} {c : Code} {Z : Zt} {b : Nat} (C : Cx p s m args c cX5_mayChange RX5 Z b) (hml : c.maxLocals = 4) (hr : meth.sig.returnType = (some .boolean)) (hlk : meth.locks = false) {r' : Int32} {M' : Mem} {M : Mem} {x1 : Int32} {x2 : Int32} {x3 : Int32} (h : f_X5_mayChange_23 M x1 x2 x3 = some (r', M')) {H : Heap} {locs : List Loc} {ls : Array Slot} (hS : va_S (A0 b) s.heap H locs) (hW : Wd Z b M H) (hl : lv_has ls 4 [(0, .ref (b + 156)), (1, .int x1), (2, .int x2), (3, .int x3)]) : W p l e rm_X5_mayChange s m args below meth c H locs 0 0 (MQ below (Qn Z b (some (.int r')) M') args s 0 0 (A0 b)) (F0 m 23 ls [.ref (b + 156)]) := by
  unfold f_X5_mayChange_23 at h
  have hx := C.1
  have hb := C.2.1
  refine lv_iconst (v := (1 : Int32)) hx hb dX5_mayChange_23 (by decide) ?_
  exact w_X5_mayChange_24 C hml hr hlk h hS hW (lv_sub hl [0, 1, 2, 3] rfl)
def f_X5_mayChange_0 (M : Mem) (x1 : Int32) (x2 : Int32) (x3 : Int32) : Option (Int32 × Mem) :=
  bd2 (f_X5_isClient M x1) (fun r2 M2 => if r2 = 0 then f_X5_mayChange_23 M2 x1 x2 x3 else bd2 (f_X5_isPath M2 x2) (fun r9 M9 => if r9 = 0 then f_X5_mayChange_23 M9 x1 x2 x3 else if x3 < 0 then f_X5_mayChange_23 M9 x1 x2 x3 else f_X5_mayChange_24 M9 x1 x2 x3 (0 : Int32)))
set_option maxHeartbeats 4000000 in
set_option maxRecDepth 100000 in
theorem w_X5_mayChange_0 {p : Program} {l : Launch} {e : Env} {s : State} {m : MethodId} {args : Array Value} {below : List Frame} {meth : Method} {c : Code} {Z : Zt} {b : Nat} (C : Cx p s m args c cX5_mayChange RX5 Z b) (hml : c.maxLocals = 4) (hr : meth.sig.returnType = (some .boolean)) (hlk : meth.locks = false) {r' : Int32} {M' : Mem} {M : Mem} {x1 : Int32} {x2 : Int32} {x3 : Int32} (h : f_X5_mayChange_0 M x1 x2 x3 = some (r', M')) {H : Heap} {locs : List Loc} {ls : Array Slot} (hS : va_S (A0 b) s.heap H locs) (hW : Wd Z b M H) (hl : lv_has ls 4 [(0, .ref (b + 156)), (1, .int x1), (2, .int x2), (3, .int x3)]) : W p l e rm_X5_mayChange s m args below meth c H locs 0 0 (MQ below (Qn Z b (some (.int r')) M') args s 0 0 (A0 b)) (F0 m 0 ls []) := by
  unfold f_X5_mayChange_0 at h
  have hx := C.1
  have hb := C.2.1
  refine lv_aload_n hx hb dX5_mayChange_0 rfl (lv_at hl 0 rfl) ?_
  refine lv_iload_n hx hb dX5_mayChange_1 rfl (lv_at hl 1 rfl) ?_
  obtain ⟨r2, M2, hc2, h⟩ := bd2_e h
  refine kX5_68 C hml hl.1 (c_X5_isClient hc2) ⟨Nat.le_of_ble_eq_true rfl, Nat.le_of_ble_eq_true rfl⟩ ⟨Nat.le_of_ble_eq_true rfl, Nat.le_of_ble_eq_true rfl⟩ (Nat.le_of_ble_eq_true rfl) hS hW dX5_mayChange_2 (fun H locs hW hS => ?_)
  refine lv_if_eq (tgt := 23) hx hb dX5_mayChange_5 (by decide) (fun c5 => ?_) (fun c5 => ?_)
  · have h := (if_pos c5).symm.trans h
    exact w_X5_mayChange_23 C hml hr hlk h hS hW (lv_sub hl [0, 1, 2, 3] rfl)
  · have h := (if_neg c5).symm.trans h
    refine lv_iload_n hx hb dX5_mayChange_8 rfl (lv_at hl 2 rfl) ?_
    obtain ⟨r9, M9, hc9, h⟩ := bd2_e h
    refine kX5_64 C hml hl.1 (c_X5_isPath hc9) ⟨Nat.le_of_ble_eq_true rfl, Nat.le_of_ble_eq_true rfl⟩ ⟨Nat.le_of_ble_eq_true rfl, Nat.le_of_ble_eq_true rfl⟩ (Nat.le_of_ble_eq_true rfl) hS hW dX5_mayChange_9 (fun H locs hW hS => ?_)
    refine lv_if_eq (tgt := 23) hx hb dX5_mayChange_12 (by decide) (fun c12 => ?_) (fun c12 => ?_)
    · have h := (if_pos c12).symm.trans h
      exact w_X5_mayChange_23 C hml hr hlk h hS hW (lv_sub hl [0, 1, 2, 3] rfl)
    · have h := (if_neg c12).symm.trans h
      refine lv_iload_n hx hb dX5_mayChange_15 rfl (lv_at hl 3 rfl) ?_
      refine lv_if_lt (tgt := 23) hx hb dX5_mayChange_16 (by decide) (fun c16 => ?_) (fun c16 => ?_)
      · have h := (if_pos c16).symm.trans h
        exact w_X5_mayChange_23 C hml hr hlk h hS hW (lv_sub hl [0, 1, 2, 3] rfl)
      · have h := (if_neg c16).symm.trans h
        refine lv_iconst (v := (0 : Int32)) hx hb dX5_mayChange_19 (by decide) ?_
        refine lv_goto (tgt := 24) hx hb dX5_mayChange_20 (by decide) ?_
        exact w_X5_mayChange_24 C hml hr hlk h hS hW (lv_sub hl [0, 1, 2, 3] rfl)
def f_X5_mayChange (M : Mem) (x1 : Int32) (x2 : Int32) (x3 : Int32) : Option (Int32 × Mem) := f_X5_mayChange_0 M x1 x2 x3
set_option maxHeartbeats 4000000 in
set_option maxRecDepth 100000 in
theorem c_X5_mayChange {l : Launch} {Z : Zt} {b : Nat} {M : Mem} {x1 : Int32} {x2 : Int32} {x3 : Int32} {r' : Int32} {M' : Mem} (h : f_X5_mayChange M x1 x2 x3 = some (r', M')) : Ct l yX5_mayChange cX5_mayChange 4 (some .boolean) rm_X5_mayChange Z b [.ref (b + 156), .int x1, .int x2, .int x3] M (some (.int r')) M' := by
  refine Met.ofW (cc := cX5_mayChange) (maxL := 4) (ret := (some .boolean)) (by decide) rfl ?_
  intro p e s m args below meth c s₁ B hml hv
  obtain ⟨rfl, hE, hW⟩ := hv
  have C : Cx p s m [.ref (b + 156), .int x1, .int x2, .int x3].toArray c cX5_mayChange RX5 Z b := ⟨B.exec, B.bytes, findClass_of_methodNamed B.named, fun w hw => atoms_spec (ws := Cond.code yX5_mayChange cX5_mayChange 4 (some .boolean) :: wsA) B.pre w (List.mem_cons_of_mem _ hw), hE⟩
  have hl := lv_entry [.ref (b + 156), .int x1, .int x2, .int x3] (n := 4) (Nat.le_of_ble_eq_true rfl)
  rw [lg_entry_eq]
  generalize (lg_sl [.ref (b + 156), .int x1, .int x2, .int x3] ++ List.replicate (4 - (lg_sl [.ref (b + 156), .int x1, .int x2, .int x3]).length) Slot.unset).toArray = ls at hl ⊢
  have hl : lv_has ls 4 [(0, .ref (b + 156)), (1, .int x1), (2, .int x2), (3, .int x3)] := hl
  exact w_X5_mayChange_0 C hml B.returns B.notSynchronized h va_S.rf hW hl
def f_X5_keep_57 (M : Mem) (x2 : Int32) (x3 : Int32) (xs1 : Int32) : Option (Int32 × Mem) :=
  if x3 = 0 then some ((0 : Int32), mu M 39 0 xs1) else if x2 < 0 ∨ 60 ≤ x2.toNatClampNeg then none else if x2 < 0 ∨ 60 ≤ x2.toNatClampNeg then none else if (((10 : Int32) * x2) + ((mu M 39 0 xs1) 26 x2.toNatClampNeg)) < 0 ∨ 600 ≤ (((10 : Int32) * x2) + ((mu M 39 0 xs1) 26 x2.toNatClampNeg)).toNatClampNeg then none else if x2 < 0 ∨ 60 ≤ x2.toNatClampNeg then none else if x2 < 0 ∨ 60 ≤ x2.toNatClampNeg then none else if x2 < 0 ∨ 60 ≤ x2.toNatClampNeg then none else some (((mu (mu (mu M 39 0 xs1) 27 (((10 : Int32) * x2) + ((mu M 39 0 xs1) 26 x2.toNatClampNeg)).toNatClampNeg ((mu M 39 0 xs1) 23 x2.toNatClampNeg)) 26 x2.toNatClampNeg (((mu (mu M 39 0 xs1) 27 (((10 : Int32) * x2) + ((mu M 39 0 xs1) 26 x2.toNatClampNeg)).toNatClampNeg ((mu M 39 0 xs1) 23 x2.toNatClampNeg)) 26 x2.toNatClampNeg) + (1 : Int32))) 26 x2.toNatClampNeg) - (1 : Int32), mu (mu (mu M 39 0 xs1) 27 (((10 : Int32) * x2) + ((mu M 39 0 xs1) 26 x2.toNatClampNeg)).toNatClampNeg ((mu M 39 0 xs1) 23 x2.toNatClampNeg)) 26 x2.toNatClampNeg (((mu (mu M 39 0 xs1) 27 (((10 : Int32) * x2) + ((mu M 39 0 xs1) 26 x2.toNatClampNeg)).toNatClampNeg ((mu M 39 0 xs1) 23 x2.toNatClampNeg)) 26 x2.toNatClampNeg) + (1 : Int32)))
set_option maxHeartbeats 4000000 in
set_option maxRecDepth 100000 in
theorem w_X5_keep_57 {p : Program} {l : Launch} {e : Env} {s : State} {m : MethodId} {args : Array Value} {below : List Frame} {meth : Method} {c : Code} {Z : Zt} {b : Nat} (C : Cx p s m args c cX5_keep RX5 Z b) (hml : c.maxLocals = 4) (hr : meth.sig.returnType = (some .int)) (hlk : meth.locks = false) {r' : Int32} {M' : Mem} {M : Mem} {x2 : Int32} {x3 : Int32} {xs1 : Int32} (h : f_X5_keep_57 M x2 x3 xs1 = some (r', M')) {H : Heap} {locs : List Loc} {ls : Array Slot} (hS : va_S (A0 b) s.heap H locs) (hW : Wd Z b M H) (hl : lv_has ls 4 [(0, .ref (b + 156)), (2, .int x2), (3, .int x3)]) : W p l e rm_X5_keep s m args below meth c H locs 0 0 (MQ below (Qn Z b (some (.int r')) M') args s 0 0 (A0 b)) (F0 m 57 ls [.int xs1, .ref (b + 156)]) := by
  unfold f_X5_keep_57 at h
  have hx := C.1
  have hb := C.2.1
  refine pX5_56 C hS hW dX5_keep_57 (fun H locs hW hS => ?_)
  refine lv_iload_n hx hb dX5_keep_60 rfl (lv_at hl 2 rfl) ?_
  refine lv_if_ne (tgt := 66) hx hb dX5_keep_61 (by decide) (fun c61 => ?_) (fun c61 => ?_)
  · have h := (if_neg c61).symm.trans h
    refine lv_aload_n hx hb dX5_keep_66 rfl (lv_at hl 0 rfl) ?_
    refine gX5_29 C hW dX5_keep_67 ?_
    refine lv_bipush (v := (10 : Int32)) hx hb dX5_keep_70 (by decide) ?_
    refine lv_iload_n hx hb dX5_keep_72 rfl (lv_at hl 1 rfl) ?_
    refine lv_imul hx hb dX5_keep_73 ?_
    refine lv_aload_n hx hb dX5_keep_74 rfl (lv_at hl 0 rfl) ?_
    refine gX5_26 C hW dX5_keep_75 ?_
    refine lv_iload_n hx hb dX5_keep_78 rfl (lv_at hl 1 rfl) ?_
    obtain ⟨g79, h⟩ := gd h
    refine ald_162 C hW g79 dX5_keep_79 ?_
    refine lv_iadd hx hb dX5_keep_80 ?_
    refine lv_aload_n hx hb dX5_keep_81 rfl (lv_at hl 0 rfl) ?_
    refine gX5_20 C hW dX5_keep_82 ?_
    refine lv_iload_n hx hb dX5_keep_85 rfl (lv_at hl 1 rfl) ?_
    obtain ⟨g86, h⟩ := gd h
    refine ald_160 C hW g86 dX5_keep_86 ?_
    obtain ⟨g87, h⟩ := gd h
    refine ast_163 C hS hW g87 dX5_keep_87 (fun H locs hW hS => ?_)
    refine lv_aload_n hx hb dX5_keep_88 rfl (lv_at hl 0 rfl) ?_
    refine gX5_26 C hW dX5_keep_89 ?_
    refine lv_iload_n hx hb dX5_keep_92 rfl (lv_at hl 1 rfl) ?_
    refine lv_dup2_11 hx hb dX5_keep_93 rfl rfl ?_
    obtain ⟨g94, h⟩ := gd h
    refine ald_162 C hW g94 dX5_keep_94 ?_
    refine lv_iconst (v := (1 : Int32)) hx hb dX5_keep_95 (by decide) ?_
    refine lv_iadd hx hb dX5_keep_96 ?_
    obtain ⟨g97, h⟩ := gd h
    refine ast_162 C hS hW g97 dX5_keep_97 (fun H locs hW hS => ?_)
    refine lv_aload_n hx hb dX5_keep_98 rfl (lv_at hl 0 rfl) ?_
    refine gX5_26 C hW dX5_keep_99 ?_
    refine lv_iload_n hx hb dX5_keep_102 rfl (lv_at hl 1 rfl) ?_
    obtain ⟨g103, h⟩ := gd h
    refine ald_162 C hW g103 dX5_keep_103 ?_
    refine lv_iconst (v := (1 : Int32)) hx hb dX5_keep_104 (by decide) ?_
    refine lv_isub hx hb dX5_keep_105 ?_
    cases h
    exact ret_i C hr hlk hS hW dX5_keep_106
  · have h := (if_pos c61).symm.trans h
    refine lv_iconst (v := (0 : Int32)) hx hb dX5_keep_64 (by decide) ?_
    cases h
    exact ret_i C hr hlk hS hW dX5_keep_65
def f_X5_keep_46 (M : Mem) (x2 : Int32) (xs0 : Int32) : Option (Int32 × Mem) :=
  if xs0 = 0 then f_X5_keep_57 M x2 xs0 (2 : Int32) else f_X5_keep_57 M x2 xs0 (0 : Int32)
set_option maxHeartbeats 4000000 in
set_option maxRecDepth 100000 in
theorem w_X5_keep_46 {p : Program} {l : Launch} {e : Env} {s : State} {m : MethodId} {args : Array Value} {below : List Frame} {meth : Method} {c : Code} {Z : Zt} {b : Nat} (C : Cx p s m args c cX5_keep RX5 Z b) (hml : c.maxLocals = 4) (hr : meth.sig.returnType = (some .int)) (hlk : meth.locks = false) {r' : Int32} {M' : Mem} {M : Mem} {x2 : Int32} {xs0 : Int32} (h : f_X5_keep_46 M x2 xs0 = some (r', M')) {H : Heap} {locs : List Loc} {ls : Array Slot} (hS : va_S (A0 b) s.heap H locs) (hW : Wd Z b M H) (hl : lv_has ls 4 [(0, .ref (b + 156)), (2, .int x2)]) : W p l e rm_X5_keep s m args below meth c H locs 0 0 (MQ below (Qn Z b (some (.int r')) M') args s 0 0 (A0 b)) (F0 m 46 ls [.int xs0]) := by
  unfold f_X5_keep_46 at h
  have hx := C.1
  have hb := C.2.1
  refine lv_istore_n (lv' := [(3, .int xs0), (0, .ref (b + 156)), (2, .int x2)]) hx hb dX5_keep_46 rfl hl (by decide) rfl (fun ls hl => ?_)
  refine lv_aload_n hx hb dX5_keep_47 rfl (lv_at hl 1 rfl) ?_
  refine lv_iload_n hx hb dX5_keep_48 rfl (lv_at hl 0 rfl) ?_
  refine lv_if_eq (tgt := 56) hx hb dX5_keep_49 (by decide) (fun c49 => ?_) (fun c49 => ?_)
  · have h := (if_pos c49).symm.trans h
    refine lv_iconst (v := (2 : Int32)) hx hb dX5_keep_56 (by decide) ?_
    exact w_X5_keep_57 C hml hr hlk h hS hW (lv_sub hl [1, 2, 0] rfl)
  · have h := (if_neg c49).symm.trans h
    refine lv_iconst (v := (0 : Int32)) hx hb dX5_keep_52 (by decide) ?_
    refine lv_goto (tgt := 57) hx hb dX5_keep_53 (by decide) ?_
    exact w_X5_keep_57 C hml hr hlk h hS hW (lv_sub hl [1, 2, 0] rfl)
def f_X5_keep_45 (M : Mem) (x2 : Int32) : Option (Int32 × Mem) :=
  f_X5_keep_46 M x2 (0 : Int32)
set_option maxHeartbeats 4000000 in
set_option maxRecDepth 100000 in
theorem w_X5_keep_45 {p : Program} {l : Launch} {e : Env} {s : State} {m : MethodId} {args : Array Value} {below : List Frame} {meth : Method} {c : Code} {Z : Zt} {b : Nat} (C : Cx p s m args c cX5_keep RX5 Z b) (hml : c.maxLocals = 4) (hr : meth.sig.returnType = (some .int)) (hlk : meth.locks = false) {r' : Int32} {M' : Mem} {M : Mem} {x2 : Int32} (h : f_X5_keep_45 M x2 = some (r', M')) {H : Heap} {locs : List Loc} {ls : Array Slot} (hS : va_S (A0 b) s.heap H locs) (hW : Wd Z b M H) (hl : lv_has ls 4 [(0, .ref (b + 156)), (2, .int x2)]) : W p l e rm_X5_keep s m args below meth c H locs 0 0 (MQ below (Qn Z b (some (.int r')) M') args s 0 0 (A0 b)) (F0 m 45 ls []) := by
  unfold f_X5_keep_45 at h
  have hx := C.1
  have hb := C.2.1
  refine lv_iconst (v := (0 : Int32)) hx hb dX5_keep_45 (by decide) ?_
  exact w_X5_keep_46 C hml hr hlk h hS hW (lv_sub hl [0, 1] rfl)
def f_X5_keep_0 (M : Mem) (x1 : Int32) : Option (Int32 × Mem) :=
  bd2 (f_X5_asks M x1) (fun r2 M2 => if r2 = 0 then some ((0 : Int32), M2) else bd2 (f_X5_place M2 x1) (fun r12 M12 => if r12 < 0 then f_X5_keep_45 M12 r12 else if r12 < 0 ∨ 60 ≤ r12.toNatClampNeg then none else if (M12 22 r12.toNatClampNeg) = (1 : Int32) then (if r12 < 0 ∨ 60 ≤ r12.toNatClampNeg then none else if (10 : Int32) ≤ (M12 26 r12.toNatClampNeg) then f_X5_keep_45 M12 r12 else f_X5_keep_46 M12 r12 (1 : Int32)) else f_X5_keep_45 M12 r12))
set_option maxHeartbeats 4000000 in
set_option maxRecDepth 100000 in
theorem w_X5_keep_0 {p : Program} {l : Launch} {e : Env} {s : State} {m : MethodId} {args : Array Value} {below : List Frame} {meth : Method} {c : Code} {Z : Zt} {b : Nat} (C : Cx p s m args c cX5_keep RX5 Z b) (hml : c.maxLocals = 4) (hr : meth.sig.returnType = (some .int)) (hlk : meth.locks = false) {r' : Int32} {M' : Mem} {M : Mem} {x1 : Int32} (h : f_X5_keep_0 M x1 = some (r', M')) {H : Heap} {locs : List Loc} {ls : Array Slot} (hS : va_S (A0 b) s.heap H locs) (hW : Wd Z b M H) (hl : lv_has ls 4 [(0, .ref (b + 156)), (1, .int x1)]) : W p l e rm_X5_keep s m args below meth c H locs 0 0 (MQ below (Qn Z b (some (.int r')) M') args s 0 0 (A0 b)) (F0 m 0 ls []) := by
  unfold f_X5_keep_0 at h
  have hx := C.1
  have hb := C.2.1
  refine lv_aload_n hx hb dX5_keep_0 rfl (lv_at hl 0 rfl) ?_
  refine lv_iload_n hx hb dX5_keep_1 rfl (lv_at hl 1 rfl) ?_
  obtain ⟨r2, M2, hc2, h⟩ := bd2_e h
  refine kX5_155 C hml hl.1 (c_X5_asks hc2) ⟨Nat.le_of_ble_eq_true rfl, Nat.le_of_ble_eq_true rfl⟩ ⟨Nat.le_of_ble_eq_true rfl, Nat.le_of_ble_eq_true rfl⟩ (Nat.le_of_ble_eq_true rfl) hS hW dX5_keep_2 (fun H locs hW hS => ?_)
  refine lv_if_ne (tgt := 10) hx hb dX5_keep_5 (by decide) (fun c5 => ?_) (fun c5 => ?_)
  · have h := (if_neg c5).symm.trans h
    refine lv_aload_n hx hb dX5_keep_10 rfl (lv_at hl 0 rfl) ?_
    refine lv_iload_n hx hb dX5_keep_11 rfl (lv_at hl 1 rfl) ?_
    obtain ⟨r12, M12, hc12, h⟩ := bd2_e h
    refine kX5_74 C hml hl.1 (c_X5_place hc12) ⟨Nat.le_of_ble_eq_true rfl, Nat.le_of_ble_eq_true rfl⟩ ⟨Nat.le_of_ble_eq_true rfl, Nat.le_of_ble_eq_true rfl⟩ (Nat.le_of_ble_eq_true rfl) hS hW dX5_keep_12 (fun H locs hW hS => ?_)
    refine lv_istore_n (lv' := [(2, .int r12), (0, .ref (b + 156)), (1, .int x1)]) hx hb dX5_keep_15 rfl hl (by decide) rfl (fun ls hl => ?_)
    refine lv_iload_n hx hb dX5_keep_16 rfl (lv_at hl 0 rfl) ?_
    refine lv_if_lt (tgt := 45) hx hb dX5_keep_17 (by decide) (fun c17 => ?_) (fun c17 => ?_)
    · have h := (if_pos c17).symm.trans h
      exact w_X5_keep_45 C hml hr hlk h hS hW (lv_sub hl [1, 0] rfl)
    · have h := (if_neg c17).symm.trans h
      refine lv_aload_n hx hb dX5_keep_20 rfl (lv_at hl 1 rfl) ?_
      refine gX5_17 C hW dX5_keep_21 ?_
      refine lv_iload_n hx hb dX5_keep_24 rfl (lv_at hl 0 rfl) ?_
      obtain ⟨g25, h⟩ := gd h
      refine ald_159 C hW g25 dX5_keep_25 ?_
      refine lv_iconst (v := (1 : Int32)) hx hb dX5_keep_26 (by decide) ?_
      refine lv_icmp_ne (tgt := 45) hx hb dX5_keep_27 (by decide) (fun c27 => ?_) (fun c27 => ?_)
      · have h := (if_neg c27).symm.trans h
        exact w_X5_keep_45 C hml hr hlk h hS hW (lv_sub hl [1, 0] rfl)
      · have h := (if_pos c27).symm.trans h
        refine lv_aload_n hx hb dX5_keep_30 rfl (lv_at hl 1 rfl) ?_
        refine gX5_26 C hW dX5_keep_31 ?_
        refine lv_iload_n hx hb dX5_keep_34 rfl (lv_at hl 0 rfl) ?_
        obtain ⟨g35, h⟩ := gd h
        refine ald_162 C hW g35 dX5_keep_35 ?_
        refine lv_bipush (v := (10 : Int32)) hx hb dX5_keep_36 (by decide) ?_
        refine lv_icmp_ge (tgt := 45) hx hb dX5_keep_38 (by decide) (fun c38 => ?_) (fun c38 => ?_)
        · have h := (if_pos c38).symm.trans h
          exact w_X5_keep_45 C hml hr hlk h hS hW (lv_sub hl [1, 0] rfl)
        · have h := (if_neg c38).symm.trans h
          refine lv_iconst (v := (1 : Int32)) hx hb dX5_keep_41 (by decide) ?_
          refine lv_goto (tgt := 46) hx hb dX5_keep_42 (by decide) ?_
          exact w_X5_keep_46 C hml hr hlk h hS hW (lv_sub hl [1, 0] rfl)
  · have h := (if_pos c5).symm.trans h
    refine lv_iconst (v := (0 : Int32)) hx hb dX5_keep_8 (by decide) ?_
    cases h
    exact ret_i C hr hlk hS hW dX5_keep_9
def f_X5_keep (M : Mem) (x1 : Int32) : Option (Int32 × Mem) := f_X5_keep_0 M x1
set_option maxHeartbeats 4000000 in
set_option maxRecDepth 100000 in
theorem c_X5_keep {l : Launch} {Z : Zt} {b : Nat} {M : Mem} {x1 : Int32} {r' : Int32} {M' : Mem} (h : f_X5_keep M x1 = some (r', M')) : Ct l yX5_keep cX5_keep 4 (some .int) rm_X5_keep Z b [.ref (b + 156), .int x1] M (some (.int r')) M' := by
  refine Met.ofW (cc := cX5_keep) (maxL := 4) (ret := (some .int)) (by decide) rfl ?_
  intro p e s m args below meth c s₁ B hml hv
  obtain ⟨rfl, hE, hW⟩ := hv
  have C : Cx p s m [.ref (b + 156), .int x1].toArray c cX5_keep RX5 Z b := ⟨B.exec, B.bytes, findClass_of_methodNamed B.named, fun w hw => atoms_spec (ws := Cond.code yX5_keep cX5_keep 4 (some .int) :: wsA) B.pre w (List.mem_cons_of_mem _ hw), hE⟩
  have hl := lv_entry [.ref (b + 156), .int x1] (n := 4) (Nat.le_of_ble_eq_true rfl)
  rw [lg_entry_eq]
  generalize (lg_sl [.ref (b + 156), .int x1] ++ List.replicate (4 - (lg_sl [.ref (b + 156), .int x1]).length) Slot.unset).toArray = ls at hl ⊢
  have hl : lv_has ls 4 [(0, .ref (b + 156)), (1, .int x1)] := hl
  exact w_X5_keep_0 C hml B.returns B.notSynchronized h va_S.rf hW hl
def f_X5_restore_107 (M : Mem) (x3 : Int32) (x5 : Int32) (xs0 : Int32) : Option (Int32 × Mem) :=
  if xs0 = 0 then (if (((10 : Int32) * x5) + x3) < 0 ∨ 600 ≤ (((10 : Int32) * x5) + x3).toNatClampNeg then none else if x5 < 0 ∨ 60 ≤ x5.toNatClampNeg then none else some (xs0, mu M 23 x5.toNatClampNeg (M 27 (((10 : Int32) * x5) + x3).toNatClampNeg))) else some (xs0, M)
set_option maxHeartbeats 4000000 in
set_option maxRecDepth 100000 in
theorem w_X5_restore_107 {p : Program} {l : Launch} {e : Env} {s : State} {m : MethodId} {args : Array Value} {below : List Frame} {meth : Method} {c : Code} {Z : Zt} {b : Nat} (C : Cx p s m args c cX5_restore RX5 Z b) (hml : c.maxLocals = 8) (hr : meth.sig.returnType = (some .int)) (hlk : meth.locks = false) {r' : Int32} {M' : Mem} {M : Mem} {x3 : Int32} {x5 : Int32} {xs0 : Int32} (h : f_X5_restore_107 M x3 x5 xs0 = some (r', M')) {H : Heap} {locs : List Loc} {ls : Array Slot} (hS : va_S (A0 b) s.heap H locs) (hW : Wd Z b M H) (hl : lv_has ls 8 [(0, .ref (b + 156)), (3, .int x3), (5, .int x5)]) : W p l e rm_X5_restore s m args below meth c H locs 0 0 (MQ below (Qn Z b (some (.int r')) M') args s 0 0 (A0 b)) (F0 m 107 ls [.int xs0]) := by
  unfold f_X5_restore_107 at h
  have hx := C.1
  have hb := C.2.1
  refine lv_istore (lv' := [(7, .int xs0), (0, .ref (b + 156)), (3, .int x3), (5, .int x5)]) hx hb dX5_restore_107 hl (by decide) rfl (fun ls hl => ?_)
  refine lv_iload hx hb dX5_restore_109 (lv_at hl 0 rfl) ?_
  refine lv_if_ne (tgt := 133) hx hb dX5_restore_111 (by decide) (fun c111 => ?_) (fun c111 => ?_)
  · have h := (if_neg c111).symm.trans h
    refine lv_iload hx hb dX5_restore_133 (lv_at hl 0 rfl) ?_
    cases h
    exact ret_i C hr hlk hS hW dX5_restore_135
  · have h := (if_pos c111).symm.trans h
    refine lv_aload_n hx hb dX5_restore_114 rfl (lv_at hl 1 rfl) ?_
    refine gX5_20 C hW dX5_restore_115 ?_
    refine lv_iload hx hb dX5_restore_118 (lv_at hl 3 rfl) ?_
    refine lv_aload_n hx hb dX5_restore_120 rfl (lv_at hl 1 rfl) ?_
    refine gX5_29 C hW dX5_restore_121 ?_
    refine lv_bipush (v := (10 : Int32)) hx hb dX5_restore_124 (by decide) ?_
    refine lv_iload hx hb dX5_restore_126 (lv_at hl 3 rfl) ?_
    refine lv_imul hx hb dX5_restore_128 ?_
    refine lv_iload_n hx hb dX5_restore_129 rfl (lv_at hl 2 rfl) ?_
    refine lv_iadd hx hb dX5_restore_130 ?_
    obtain ⟨g131, h⟩ := gd h
    refine ald_163 C hW g131 dX5_restore_131 ?_
    obtain ⟨g132, h⟩ := gd h
    refine ast_160 C hS hW g132 dX5_restore_132 (fun H locs hW hS => ?_)
    refine lv_iload hx hb dX5_restore_133 (lv_at hl 0 rfl) ?_
    cases h
    exact ret_i C hr hlk hS hW dX5_restore_135
def f_X5_restore_80 (M : Mem) (x1 : Int32) (x2 : Int32) (x3 : Int32) (x4 : Int32) (x5 : Int32) (xs0 : Int32) : Option (Int32 × Mem) :=
  if xs0 = 0 then f_X5_restore_107 M x3 x5 (1 : Int32) else bd2 (f_X5_may M x1 x2 x4) (fun r96 M96 => if r96 = 0 then f_X5_restore_107 M96 x3 x5 (4 : Int32) else f_X5_restore_107 M96 x3 x5 (0 : Int32))
set_option maxHeartbeats 4000000 in
set_option maxRecDepth 100000 in
theorem w_X5_restore_80 {p : Program} {l : Launch} {e : Env} {s : State} {m : MethodId} {args : Array Value} {below : List Frame} {meth : Method} {c : Code} {Z : Zt} {b : Nat} (C : Cx p s m args c cX5_restore RX5 Z b) (hml : c.maxLocals = 8) (hr : meth.sig.returnType = (some .int)) (hlk : meth.locks = false) {r' : Int32} {M' : Mem} {M : Mem} {x1 : Int32} {x2 : Int32} {x3 : Int32} {x4 : Int32} {x5 : Int32} {xs0 : Int32} (h : f_X5_restore_80 M x1 x2 x3 x4 x5 xs0 = some (r', M')) {H : Heap} {locs : List Loc} {ls : Array Slot} (hS : va_S (A0 b) s.heap H locs) (hW : Wd Z b M H) (hl : lv_has ls 8 [(0, .ref (b + 156)), (1, .int x1), (2, .int x2), (3, .int x3), (4, .int x4), (5, .int x5)]) : W p l e rm_X5_restore s m args below meth c H locs 0 0 (MQ below (Qn Z b (some (.int r')) M') args s 0 0 (A0 b)) (F0 m 80 ls [.int xs0]) := by
  unfold f_X5_restore_80 at h
  have hx := C.1
  have hb := C.2.1
  refine lv_istore (lv' := [(6, .int xs0), (0, .ref (b + 156)), (1, .int x1), (2, .int x2), (3, .int x3), (4, .int x4), (5, .int x5)]) hx hb dX5_restore_80 hl (by decide) rfl (fun ls hl => ?_)
  refine lv_iload hx hb dX5_restore_82 (lv_at hl 0 rfl) ?_
  refine lv_if_ne (tgt := 91) hx hb dX5_restore_84 (by decide) (fun c84 => ?_) (fun c84 => ?_)
  · have h := (if_neg c84).symm.trans h
    refine lv_aload_n hx hb dX5_restore_91 rfl (lv_at hl 1 rfl) ?_
    refine lv_iload_n hx hb dX5_restore_92 rfl (lv_at hl 2 rfl) ?_
    refine lv_iload_n hx hb dX5_restore_93 rfl (lv_at hl 3 rfl) ?_
    refine lv_iload hx hb dX5_restore_94 (lv_at hl 5 rfl) ?_
    obtain ⟨r96, M96, hc96, h⟩ := bd2_e h
    refine kX5_103 C hml hl.1 (c_X5_may hc96) ⟨Nat.le_of_ble_eq_true rfl, Nat.le_of_ble_eq_true rfl⟩ ⟨Nat.le_of_ble_eq_true rfl, Nat.le_of_ble_eq_true rfl⟩ (Nat.le_of_ble_eq_true rfl) hS hW dX5_restore_96 (fun H locs hW hS => ?_)
    refine lv_if_eq (tgt := 106) hx hb dX5_restore_99 (by decide) (fun c99 => ?_) (fun c99 => ?_)
    · have h := (if_pos c99).symm.trans h
      refine lv_iconst (v := (4 : Int32)) hx hb dX5_restore_106 (by decide) ?_
      exact w_X5_restore_107 C hml hr hlk h hS hW (lv_sub hl [1, 4, 6] rfl)
    · have h := (if_neg c99).symm.trans h
      refine lv_iconst (v := (0 : Int32)) hx hb dX5_restore_102 (by decide) ?_
      refine lv_goto (tgt := 107) hx hb dX5_restore_103 (by decide) ?_
      exact w_X5_restore_107 C hml hr hlk h hS hW (lv_sub hl [1, 4, 6] rfl)
  · have h := (if_pos c84).symm.trans h
    refine lv_iconst (v := (1 : Int32)) hx hb dX5_restore_87 (by decide) ?_
    refine lv_goto (tgt := 107) hx hb dX5_restore_88 (by decide) ?_
    exact w_X5_restore_107 C hml hr hlk h hS hW (lv_sub hl [1, 4, 6] rfl)
def f_X5_restore_79 (M : Mem) (x1 : Int32) (x2 : Int32) (x3 : Int32) (x4 : Int32) (x5 : Int32) : Option (Int32 × Mem) :=
  f_X5_restore_80 M x1 x2 x3 x4 x5 (0 : Int32)
set_option maxHeartbeats 4000000 in
set_option maxRecDepth 100000 in
theorem w_X5_restore_79 {p : Program} {l : Launch} {e : Env} {s : State} {m : MethodId} {args : Array Value} {below : List Frame} {meth : Method} {c : Code} {Z : Zt} {b : Nat} (C : Cx p s m args c cX5_restore RX5 Z b) (hml : c.maxLocals = 8) (hr : meth.sig.returnType = (some .int)) (hlk : meth.locks = false) {r' : Int32} {M' : Mem} {M : Mem} {x1 : Int32} {x2 : Int32} {x3 : Int32} {x4 : Int32} {x5 : Int32} (h : f_X5_restore_79 M x1 x2 x3 x4 x5 = some (r', M')) {H : Heap} {locs : List Loc} {ls : Array Slot} (hS : va_S (A0 b) s.heap H locs) (hW : Wd Z b M H) (hl : lv_has ls 8 [(0, .ref (b + 156)), (1, .int x1), (2, .int x2), (3, .int x3), (4, .int x4), (5, .int x5)]) : W p l e rm_X5_restore s m args below meth c H locs 0 0 (MQ below (Qn Z b (some (.int r')) M') args s 0 0 (A0 b)) (F0 m 79 ls []) := by
  unfold f_X5_restore_79 at h
  have hx := C.1
  have hb := C.2.1
  refine lv_iconst (v := (0 : Int32)) hx hb dX5_restore_79 (by decide) ?_
  exact w_X5_restore_80 C hml hr hlk h hS hW (lv_sub hl [0, 1, 2, 3, 4, 5] rfl)
def f_X5_restore_29 (M : Mem) (x1 : Int32) (x2 : Int32) (x3 : Int32) (x4 : Int32) (xs1 : Int32) : Option (Int32 × Mem) :=
  if ((mu M 39 0 xs1) 39 0) ≤ 0 then bd2 (f_X5_place (mu M 39 0 xs1) x2) (fun r43 M43 => if r43 < 0 then f_X5_restore_79 M43 x1 x2 x3 x4 r43 else if r43 < 0 ∨ 60 ≤ r43.toNatClampNeg then none else if (M43 22 r43.toNatClampNeg) = (1 : Int32) then (if r43 < 0 ∨ 60 ≤ r43.toNatClampNeg then none else if (M43 26 r43.toNatClampNeg) ≤ x3 then f_X5_restore_79 M43 x1 x2 x3 x4 r43 else f_X5_restore_80 M43 x1 x2 x3 x4 r43 (1 : Int32)) else f_X5_restore_79 M43 x1 x2 x3 x4 r43) else some ((0 : Int32), mu M 39 0 xs1)
set_option maxHeartbeats 4000000 in
set_option maxRecDepth 100000 in
theorem w_X5_restore_29 {p : Program} {l : Launch} {e : Env} {s : State} {m : MethodId} {args : Array Value} {below : List Frame} {meth : Method} {c : Code} {Z : Zt} {b : Nat} (C : Cx p s m args c cX5_restore RX5 Z b) (hml : c.maxLocals = 8) (hr : meth.sig.returnType = (some .int)) (hlk : meth.locks = false) {r' : Int32} {M' : Mem} {M : Mem} {x1 : Int32} {x2 : Int32} {x3 : Int32} {x4 : Int32} {xs1 : Int32} (h : f_X5_restore_29 M x1 x2 x3 x4 xs1 = some (r', M')) {H : Heap} {locs : List Loc} {ls : Array Slot} (hS : va_S (A0 b) s.heap H locs) (hW : Wd Z b M H) (hl : lv_has ls 8 [(0, .ref (b + 156)), (1, .int x1), (2, .int x2), (3, .int x3), (4, .int x4)]) : W p l e rm_X5_restore s m args below meth c H locs 0 0 (MQ below (Qn Z b (some (.int r')) M') args s 0 0 (A0 b)) (F0 m 29 ls [.int xs1, .ref (b + 156)]) := by
  unfold f_X5_restore_29 at h
  have hx := C.1
  have hb := C.2.1
  refine pX5_56 C hS hW dX5_restore_29 (fun H locs hW hS => ?_)
  refine lv_aload_n hx hb dX5_restore_32 rfl (lv_at hl 0 rfl) ?_
  refine gX5_56 C hW dX5_restore_33 ?_
  refine lv_if_le (tgt := 41) hx hb dX5_restore_36 (by decide) (fun c36 => ?_) (fun c36 => ?_)
  · have h := (if_pos c36).symm.trans h
    refine lv_aload_n hx hb dX5_restore_41 rfl (lv_at hl 0 rfl) ?_
    refine lv_iload_n hx hb dX5_restore_42 rfl (lv_at hl 2 rfl) ?_
    obtain ⟨r43, M43, hc43, h⟩ := bd2_e h
    refine kX5_74 C hml hl.1 (c_X5_place hc43) ⟨Nat.le_of_ble_eq_true rfl, Nat.le_of_ble_eq_true rfl⟩ ⟨Nat.le_of_ble_eq_true rfl, Nat.le_of_ble_eq_true rfl⟩ (Nat.le_of_ble_eq_true rfl) hS hW dX5_restore_43 (fun H locs hW hS => ?_)
    refine lv_istore (lv' := [(5, .int r43), (0, .ref (b + 156)), (1, .int x1), (2, .int x2), (3, .int x3), (4, .int x4)]) hx hb dX5_restore_46 hl (by decide) rfl (fun ls hl => ?_)
    refine lv_iload hx hb dX5_restore_48 (lv_at hl 0 rfl) ?_
    refine lv_if_lt (tgt := 79) hx hb dX5_restore_50 (by decide) (fun c50 => ?_) (fun c50 => ?_)
    · have h := (if_pos c50).symm.trans h
      exact w_X5_restore_79 C hml hr hlk h hS hW (lv_sub hl [1, 2, 3, 4, 5, 0] rfl)
    · have h := (if_neg c50).symm.trans h
      refine lv_aload_n hx hb dX5_restore_53 rfl (lv_at hl 1 rfl) ?_
      refine gX5_17 C hW dX5_restore_54 ?_
      refine lv_iload hx hb dX5_restore_57 (lv_at hl 0 rfl) ?_
      obtain ⟨g59, h⟩ := gd h
      refine ald_159 C hW g59 dX5_restore_59 ?_
      refine lv_iconst (v := (1 : Int32)) hx hb dX5_restore_60 (by decide) ?_
      refine lv_icmp_ne (tgt := 79) hx hb dX5_restore_61 (by decide) (fun c61 => ?_) (fun c61 => ?_)
      · have h := (if_neg c61).symm.trans h
        exact w_X5_restore_79 C hml hr hlk h hS hW (lv_sub hl [1, 2, 3, 4, 5, 0] rfl)
      · have h := (if_pos c61).symm.trans h
        refine lv_iload_n hx hb dX5_restore_64 rfl (lv_at hl 4 rfl) ?_
        refine lv_aload_n hx hb dX5_restore_65 rfl (lv_at hl 1 rfl) ?_
        refine gX5_26 C hW dX5_restore_66 ?_
        refine lv_iload hx hb dX5_restore_69 (lv_at hl 0 rfl) ?_
        obtain ⟨g71, h⟩ := gd h
        refine ald_162 C hW g71 dX5_restore_71 ?_
        refine lv_icmp_ge (tgt := 79) hx hb dX5_restore_72 (by decide) (fun c72 => ?_) (fun c72 => ?_)
        · have h := (if_pos c72).symm.trans h
          exact w_X5_restore_79 C hml hr hlk h hS hW (lv_sub hl [1, 2, 3, 4, 5, 0] rfl)
        · have h := (if_neg c72).symm.trans h
          refine lv_iconst (v := (1 : Int32)) hx hb dX5_restore_75 (by decide) ?_
          refine lv_goto (tgt := 80) hx hb dX5_restore_76 (by decide) ?_
          exact w_X5_restore_80 C hml hr hlk h hS hW (lv_sub hl [1, 2, 3, 4, 5, 0] rfl)
  · have h := (if_neg c36).symm.trans h
    refine lv_iconst (v := (0 : Int32)) hx hb dX5_restore_39 (by decide) ?_
    cases h
    exact ret_i C hr hlk hS hW dX5_restore_40
def f_X5_restore_28 (M : Mem) (x1 : Int32) (x2 : Int32) (x3 : Int32) (x4 : Int32) : Option (Int32 × Mem) :=
  f_X5_restore_29 M x1 x2 x3 x4 (1 : Int32)
set_option maxHeartbeats 4000000 in
set_option maxRecDepth 100000 in
theorem w_X5_restore_28 {p : Program} {l : Launch} {e : Env} {s : State} {m : MethodId} {args : Array Value} {below : List Frame} {meth : Method} {c : Code} {Z : Zt} {b : Nat} (C : Cx p s m args c cX5_restore RX5 Z b) (hml : c.maxLocals = 8) (hr : meth.sig.returnType = (some .int)) (hlk : meth.locks = false) {r' : Int32} {M' : Mem} {M : Mem} {x1 : Int32} {x2 : Int32} {x3 : Int32} {x4 : Int32} (h : f_X5_restore_28 M x1 x2 x3 x4 = some (r', M')) {H : Heap} {locs : List Loc} {ls : Array Slot} (hS : va_S (A0 b) s.heap H locs) (hW : Wd Z b M H) (hl : lv_has ls 8 [(0, .ref (b + 156)), (1, .int x1), (2, .int x2), (3, .int x3), (4, .int x4)]) : W p l e rm_X5_restore s m args below meth c H locs 0 0 (MQ below (Qn Z b (some (.int r')) M') args s 0 0 (A0 b)) (F0 m 28 ls [.ref (b + 156)]) := by
  unfold f_X5_restore_28 at h
  have hx := C.1
  have hb := C.2.1
  refine lv_iconst (v := (1 : Int32)) hx hb dX5_restore_28 (by decide) ?_
  exact w_X5_restore_29 C hml hr hlk h hS hW (lv_sub hl [0, 1, 2, 3, 4] rfl)
def f_X5_restore_0 (M : Mem) (x1 : Int32) (x2 : Int32) (x3 : Int32) (x4 : Int32) : Option (Int32 × Mem) :=
  bd2 (f_X5_isClient M x1) (fun r2 M2 => if r2 = 0 then f_X5_restore_28 M2 x1 x2 x3 x4 else bd2 (f_X5_isPath M2 x2) (fun r9 M9 => if r9 = 0 then f_X5_restore_28 M9 x1 x2 x3 x4 else if x3 < 0 then f_X5_restore_28 M9 x1 x2 x3 x4 else if x4 < 0 then f_X5_restore_28 M9 x1 x2 x3 x4 else f_X5_restore_29 M9 x1 x2 x3 x4 (0 : Int32)))
set_option maxHeartbeats 4000000 in
set_option maxRecDepth 100000 in
theorem w_X5_restore_0 {p : Program} {l : Launch} {e : Env} {s : State} {m : MethodId} {args : Array Value} {below : List Frame} {meth : Method} {c : Code} {Z : Zt} {b : Nat} (C : Cx p s m args c cX5_restore RX5 Z b) (hml : c.maxLocals = 8) (hr : meth.sig.returnType = (some .int)) (hlk : meth.locks = false) {r' : Int32} {M' : Mem} {M : Mem} {x1 : Int32} {x2 : Int32} {x3 : Int32} {x4 : Int32} (h : f_X5_restore_0 M x1 x2 x3 x4 = some (r', M')) {H : Heap} {locs : List Loc} {ls : Array Slot} (hS : va_S (A0 b) s.heap H locs) (hW : Wd Z b M H) (hl : lv_has ls 8 [(0, .ref (b + 156)), (1, .int x1), (2, .int x2), (3, .int x3), (4, .int x4)]) : W p l e rm_X5_restore s m args below meth c H locs 0 0 (MQ below (Qn Z b (some (.int r')) M') args s 0 0 (A0 b)) (F0 m 0 ls []) := by
  unfold f_X5_restore_0 at h
  have hx := C.1
  have hb := C.2.1
  refine lv_aload_n hx hb dX5_restore_0 rfl (lv_at hl 0 rfl) ?_
  refine lv_iload_n hx hb dX5_restore_1 rfl (lv_at hl 1 rfl) ?_
  obtain ⟨r2, M2, hc2, h⟩ := bd2_e h
  refine kX5_68 C hml hl.1 (c_X5_isClient hc2) ⟨Nat.le_of_ble_eq_true rfl, Nat.le_of_ble_eq_true rfl⟩ ⟨Nat.le_of_ble_eq_true rfl, Nat.le_of_ble_eq_true rfl⟩ (Nat.le_of_ble_eq_true rfl) hS hW dX5_restore_2 (fun H locs hW hS => ?_)
  refine lv_if_eq (tgt := 28) hx hb dX5_restore_5 (by decide) (fun c5 => ?_) (fun c5 => ?_)
  · have h := (if_pos c5).symm.trans h
    exact w_X5_restore_28 C hml hr hlk h hS hW (lv_sub hl [0, 1, 2, 3, 4] rfl)
  · have h := (if_neg c5).symm.trans h
    refine lv_iload_n hx hb dX5_restore_8 rfl (lv_at hl 2 rfl) ?_
    obtain ⟨r9, M9, hc9, h⟩ := bd2_e h
    refine kX5_64 C hml hl.1 (c_X5_isPath hc9) ⟨Nat.le_of_ble_eq_true rfl, Nat.le_of_ble_eq_true rfl⟩ ⟨Nat.le_of_ble_eq_true rfl, Nat.le_of_ble_eq_true rfl⟩ (Nat.le_of_ble_eq_true rfl) hS hW dX5_restore_9 (fun H locs hW hS => ?_)
    refine lv_if_eq (tgt := 28) hx hb dX5_restore_12 (by decide) (fun c12 => ?_) (fun c12 => ?_)
    · have h := (if_pos c12).symm.trans h
      exact w_X5_restore_28 C hml hr hlk h hS hW (lv_sub hl [0, 1, 2, 3, 4] rfl)
    · have h := (if_neg c12).symm.trans h
      refine lv_iload_n hx hb dX5_restore_15 rfl (lv_at hl 3 rfl) ?_
      refine lv_if_lt (tgt := 28) hx hb dX5_restore_16 (by decide) (fun c16 => ?_) (fun c16 => ?_)
      · have h := (if_pos c16).symm.trans h
        exact w_X5_restore_28 C hml hr hlk h hS hW (lv_sub hl [0, 1, 2, 3, 4] rfl)
      · have h := (if_neg c16).symm.trans h
        refine lv_iload hx hb dX5_restore_19 (lv_at hl 4 rfl) ?_
        refine lv_if_lt (tgt := 28) hx hb dX5_restore_21 (by decide) (fun c21 => ?_) (fun c21 => ?_)
        · have h := (if_pos c21).symm.trans h
          exact w_X5_restore_28 C hml hr hlk h hS hW (lv_sub hl [0, 1, 2, 3, 4] rfl)
        · have h := (if_neg c21).symm.trans h
          refine lv_iconst (v := (0 : Int32)) hx hb dX5_restore_24 (by decide) ?_
          refine lv_goto (tgt := 29) hx hb dX5_restore_25 (by decide) ?_
          exact w_X5_restore_29 C hml hr hlk h hS hW (lv_sub hl [0, 1, 2, 3, 4] rfl)
def f_X5_restore (M : Mem) (x1 : Int32) (x2 : Int32) (x3 : Int32) (x4 : Int32) : Option (Int32 × Mem) := f_X5_restore_0 M x1 x2 x3 x4
set_option maxHeartbeats 4000000 in
set_option maxRecDepth 100000 in
theorem c_X5_restore {l : Launch} {Z : Zt} {b : Nat} {M : Mem} {x1 : Int32} {x2 : Int32} {x3 : Int32} {x4 : Int32} {r' : Int32} {M' : Mem} (h : f_X5_restore M x1 x2 x3 x4 = some (r', M')) : Ct l yX5_restore cX5_restore 8 (some .int) rm_X5_restore Z b [.ref (b + 156), .int x1, .int x2, .int x3, .int x4] M (some (.int r')) M' := by
  refine Met.ofW (cc := cX5_restore) (maxL := 8) (ret := (some .int)) (by decide) rfl ?_
  intro p e s m args below meth c s₁ B hml hv
  obtain ⟨rfl, hE, hW⟩ := hv
  have C : Cx p s m [.ref (b + 156), .int x1, .int x2, .int x3, .int x4].toArray c cX5_restore RX5 Z b := ⟨B.exec, B.bytes, findClass_of_methodNamed B.named, fun w hw => atoms_spec (ws := Cond.code yX5_restore cX5_restore 8 (some .int) :: wsA) B.pre w (List.mem_cons_of_mem _ hw), hE⟩
  have hl := lv_entry [.ref (b + 156), .int x1, .int x2, .int x3, .int x4] (n := 8) (Nat.le_of_ble_eq_true rfl)
  rw [lg_entry_eq]
  generalize (lg_sl [.ref (b + 156), .int x1, .int x2, .int x3, .int x4] ++ List.replicate (8 - (lg_sl [.ref (b + 156), .int x1, .int x2, .int x3, .int x4]).length) Slot.unset).toArray = ls at hl ⊢
  have hl : lv_has ls 8 [(0, .ref (b + 156)), (1, .int x1), (2, .int x2), (3, .int x3), (4, .int x4)] := hl
  exact w_X5_restore_0 C hml B.returns B.notSynchronized h va_S.rf hW hl

def f_X5_covers_0 (M : Mem) (x1 : Int32) (x2 : Int32) : Option (Int32 × Mem) :=
  bd2 (f_X5_isOn M x1) (fun r2 M2 => if r2 = 0 then some ((0 : Int32), M2) else if x1 < 0 ∨ 30 ≤ x1.toNatClampNeg then none else if (M2 31 x1.toNatClampNeg) = x2 then some ((1 : Int32), M2) else if x1 < 0 ∨ 30 ≤ x1.toNatClampNeg then none else if (M2 33 x1.toNatClampNeg) = 0 then some ((0 : Int32), M2) else if x1 < 0 ∨ 30 ≤ x1.toNatClampNeg then none else bd2 (f_X5_isAbove M2 (M2 31 x1.toNatClampNeg) x2) (fun r34 M34 => if r34 = 0 then some ((0 : Int32), M34) else some ((1 : Int32), M34)))
set_option maxHeartbeats 4000000 in
set_option maxRecDepth 100000 in
theorem w_X5_covers_0 {p : Program} {l : Launch} {e : Env} {s : State} {m : MethodId} {args : Array Value} {below : List Frame} {meth : Method} {c : Code} {Z : Zt} {b : Nat} (C : Cx p s m args c cX5_covers RX5 Z b) (hml : c.maxLocals = 3) (hr : meth.sig.returnType = (some .boolean)) (hlk : meth.locks = false) {r' : Int32} {M' : Mem} {M : Mem} {x1 : Int32} {x2 : Int32} (h : f_X5_covers_0 M x1 x2 = some (r', M')) {H : Heap} {locs : List Loc} {ls : Array Slot} (hS : va_S (A0 b) s.heap H locs) (hW : Wd Z b M H) (hl : lv_has ls 3 [(0, .ref (b + 156)), (1, .int x1), (2, .int x2)]) : W p l e rm_X5_covers s m args below meth c H locs 0 0 (MQ below (Qn Z b (some (.int r')) M') args s 0 0 (A0 b)) (F0 m 0 ls []) := by
  unfold f_X5_covers_0 at h
  have hx := C.1
  have hb := C.2.1
  refine lv_aload_n hx hb dX5_covers_0 rfl (lv_at hl 0 rfl) ?_
  refine lv_iload_n hx hb dX5_covers_1 rfl (lv_at hl 1 rfl) ?_
  obtain ⟨r2, M2, hc2, h⟩ := bd2_e h
  refine kX5_91 C hml hl.1 (c_X5_isOn hc2) ⟨Nat.le_of_ble_eq_true rfl, Nat.le_of_ble_eq_true rfl⟩ ⟨Nat.le_of_ble_eq_true rfl, Nat.le_of_ble_eq_true rfl⟩ (Nat.le_of_ble_eq_true rfl) hS hW dX5_covers_2 (fun H locs hW hS => ?_)
  refine lv_if_eq (tgt := 44) hx hb dX5_covers_5 (by decide) (fun c5 => ?_) (fun c5 => ?_)
  · have h := (if_pos c5).symm.trans h
    refine lv_iconst (v := (0 : Int32)) hx hb dX5_covers_44 (by decide) ?_
    cases h
    exact ret_z C hr hlk (by decide) hS hW dX5_covers_45
  · have h := (if_neg c5).symm.trans h
    refine lv_aload_n hx hb dX5_covers_8 rfl (lv_at hl 0 rfl) ?_
    refine gX5_35 C hW dX5_covers_9 ?_
    refine lv_iload_n hx hb dX5_covers_12 rfl (lv_at hl 1 rfl) ?_
    obtain ⟨g13, h⟩ := gd h
    refine ald_165 C hW g13 dX5_covers_13 ?_
    refine lv_iload_n hx hb dX5_covers_14 rfl (lv_at hl 2 rfl) ?_
    refine lv_icmp_eq (tgt := 40) hx hb dX5_covers_15 (by decide) (fun c15 => ?_) (fun c15 => ?_)
    · have h := (if_pos c15).symm.trans h
      refine lv_iconst (v := (1 : Int32)) hx hb dX5_covers_40 (by decide) ?_
      refine lv_goto (tgt := 45) hx hb dX5_covers_41 (by decide) ?_
      cases h
      exact ret_z C hr hlk (by decide) hS hW dX5_covers_45
    · have h := (if_neg c15).symm.trans h
      refine lv_aload_n hx hb dX5_covers_18 rfl (lv_at hl 0 rfl) ?_
      refine gX5_41 C hW dX5_covers_19 ?_
      refine lv_iload_n hx hb dX5_covers_22 rfl (lv_at hl 1 rfl) ?_
      obtain ⟨g23, h⟩ := gd h
      refine ald_167 C hW g23 dX5_covers_23 ?_
      refine lv_if_eq (tgt := 44) hx hb dX5_covers_24 (by decide) (fun c24 => ?_) (fun c24 => ?_)
      · have h := (if_pos c24).symm.trans h
        refine lv_iconst (v := (0 : Int32)) hx hb dX5_covers_44 (by decide) ?_
        cases h
        exact ret_z C hr hlk (by decide) hS hW dX5_covers_45
      · have h := (if_neg c24).symm.trans h
        refine lv_aload_n hx hb dX5_covers_27 rfl (lv_at hl 0 rfl) ?_
        refine gX5_35 C hW dX5_covers_28 ?_
        refine lv_iload_n hx hb dX5_covers_31 rfl (lv_at hl 1 rfl) ?_
        obtain ⟨g32, h⟩ := gd h
        refine ald_165 C hW g32 dX5_covers_32 ?_
        refine lv_iload_n hx hb dX5_covers_33 rfl (lv_at hl 2 rfl) ?_
        obtain ⟨r34, M34, hc34, h⟩ := bd2_e h
        refine kX5_78 C hml hl.1 (c_X5_isAbove hc34) ⟨Nat.le_of_ble_eq_true rfl, Nat.le_of_ble_eq_true rfl⟩ ⟨Nat.le_of_ble_eq_true rfl, Nat.le_of_ble_eq_true rfl⟩ (Nat.le_of_ble_eq_true rfl) hS hW dX5_covers_34 (fun H locs hW hS => ?_)
        refine lv_if_eq (tgt := 44) hx hb dX5_covers_37 (by decide) (fun c37 => ?_) (fun c37 => ?_)
        · have h := (if_pos c37).symm.trans h
          refine lv_iconst (v := (0 : Int32)) hx hb dX5_covers_44 (by decide) ?_
          cases h
          exact ret_z C hr hlk (by decide) hS hW dX5_covers_45
        · have h := (if_neg c37).symm.trans h
          refine lv_iconst (v := (1 : Int32)) hx hb dX5_covers_40 (by decide) ?_
          refine lv_goto (tgt := 45) hx hb dX5_covers_41 (by decide) ?_
          cases h
          exact ret_z C hr hlk (by decide) hS hW dX5_covers_45
def f_X5_covers (M : Mem) (x1 : Int32) (x2 : Int32) : Option (Int32 × Mem) := f_X5_covers_0 M x1 x2
set_option maxHeartbeats 4000000 in
set_option maxRecDepth 100000 in
theorem c_X5_covers {l : Launch} {Z : Zt} {b : Nat} {M : Mem} {x1 : Int32} {x2 : Int32} {r' : Int32} {M' : Mem} (h : f_X5_covers M x1 x2 = some (r', M')) : Ct l yX5_covers cX5_covers 3 (some .boolean) rm_X5_covers Z b [.ref (b + 156), .int x1, .int x2] M (some (.int r')) M' := by
  refine Met.ofW (cc := cX5_covers) (maxL := 3) (ret := (some .boolean)) (by decide) rfl ?_
  intro p e s m args below meth c s₁ B hml hv
  obtain ⟨rfl, hE, hW⟩ := hv
  have C : Cx p s m [.ref (b + 156), .int x1, .int x2].toArray c cX5_covers RX5 Z b := ⟨B.exec, B.bytes, findClass_of_methodNamed B.named, fun w hw => atoms_spec (ws := Cond.code yX5_covers cX5_covers 3 (some .boolean) :: wsA) B.pre w (List.mem_cons_of_mem _ hw), hE⟩
  have hl := lv_entry [.ref (b + 156), .int x1, .int x2] (n := 3) (Nat.le_of_ble_eq_true rfl)
  rw [lg_entry_eq]
  generalize (lg_sl [.ref (b + 156), .int x1, .int x2] ++ List.replicate (3 - (lg_sl [.ref (b + 156), .int x1, .int x2]).length) Slot.unset).toArray = ls at hl ⊢
  have hl : lv_has ls 3 [(0, .ref (b + 156)), (1, .int x1), (2, .int x2)] := hl
  exact w_X5_covers_0 C hml B.returns B.notSynchronized h va_S.rf hW hl
def f_X5_set_29 (K4 : Mem → Int32 → Int32 → Int32 → Option (Int32 × Mem)) (M : Mem) (x1 : Int32) (x3 : Int32) (xs0 : Int32) (xs1 : Int32) : Option (Int32 × Mem) :=
  K4 M x1 (xs0 ||| xs1) (x3 + 1)
set_option maxHeartbeats 4000000 in
set_option maxRecDepth 100000 in
theorem w_X5_set_29 {p : Program} {l : Launch} {e : Env} {s : State} {m : MethodId} {args : Array Value} {below : List Frame} {meth : Method} {c : Code} {Z : Zt} {b : Nat} (C : Cx p s m args c cX5_set RX5 Z b) (hml : c.maxLocals = 4) (hr : meth.sig.returnType = (some .int)) (hlk : meth.locks = false) {r' : Int32} {M' : Mem} {K4 : Mem → Int32 → Int32 → Int32 → Option (Int32 × Mem)} (hK4 : ∀ {M : Mem} {x1 : Int32} {x2 : Int32} {x3 : Int32} (h : K4 M x1 x2 x3 = some (r', M')) {H : Heap} {locs : List Loc} {ls : Array Slot} (hS : va_S (A0 b) s.heap H locs) (hW : Wd Z b M H) (hl : lv_has ls 4 [(0, .ref (b + 156)), (1, .int x1), (2, .int x2), (3, .int x3)]), W p l e rm_X5_set s m args below meth c H locs 0 0 (MQ below (Qn Z b (some (.int r')) M') args s 0 0 (A0 b)) (F0 m 4 ls [])) {M : Mem} {x1 : Int32} {x3 : Int32} {xs0 : Int32} {xs1 : Int32} (h : f_X5_set_29 K4 M x1 x3 xs0 xs1 = some (r', M')) {H : Heap} {locs : List Loc} {ls : Array Slot} (hS : va_S (A0 b) s.heap H locs) (hW : Wd Z b M H) (hl : lv_has ls 4 [(0, .ref (b + 156)), (1, .int x1), (3, .int x3)]) : W p l e rm_X5_set s m args below meth c H locs 0 0 (MQ below (Qn Z b (some (.int r')) M') args s 0 0 (A0 b)) (F0 m 29 ls [.int xs1, .int xs0]) := by
  unfold f_X5_set_29 at h
  have hx := C.1
  have hb := C.2.1
  refine lv_ior hx hb dX5_set_29 ?_
  refine lv_istore_n (lv' := [(2, .int (xs0 ||| xs1)), (0, .ref (b + 156)), (1, .int x1), (3, .int x3)]) hx hb dX5_set_30 rfl hl (by decide) rfl (fun ls hl => ?_)
  refine lv_iinc (v := x3 + 1) (lv' := [(3, .int (x3 + 1)), (2, .int (xs0 ||| xs1)), (0, .ref (b + 156)), (1, .int x1)]) hx hb dX5_set_31 hl (k := 3) rfl rfl (by decide) rfl (fun ls hl => ?_)
  refine lv_goto (tgt := 4) hx hb dX5_set_34 (by decide) ?_
  exact hK4 h hS hW (lv_sub hl [2, 3, 1, 0] rfl)
def f_X5_set_4B (K4 : Mem → Int32 → Int32 → Int32 → Option (Int32 × Mem)) (M : Mem) (x1 : Int32) (x2 : Int32) (x3 : Int32) : Option (Int32 × Mem) :=
  if (M 29 0) ≤ x3 then some (x2, M) else bd2 (f_X5_covers M x3 x1) (fun r16 M16 => if r16 = 0 then f_X5_set_29 K4 M16 x1 x3 x2 (0 : Int32) else f_X5_set_29 K4 M16 x1 x3 x2 ((1 : Int32) <<< (x3 &&& 31)))
def f_X5_set_4 : Nat → Mem → Int32 → Int32 → Int32 → Option (Int32 × Mem)
  | 0 => fun _ _ _ _ => none
  | n + 1 => f_X5_set_4B (f_X5_set_4 n)
set_option maxHeartbeats 4000000 in
set_option maxRecDepth 100000 in
theorem w_X5_set_4 {p : Program} {l : Launch} {e : Env} {s : State} {m : MethodId} {args : Array Value} {below : List Frame} {meth : Method} {c : Code} {Z : Zt} {b : Nat} (C : Cx p s m args c cX5_set RX5 Z b) (hml : c.maxLocals = 4) (hr : meth.sig.returnType = (some .int)) (hlk : meth.locks = false) {r' : Int32} {M' : Mem} : ∀ (n : Nat) {M : Mem} {x1 : Int32} {x2 : Int32} {x3 : Int32} (h : f_X5_set_4 n M x1 x2 x3 = some (r', M')) {H : Heap} {locs : List Loc} {ls : Array Slot} (hS : va_S (A0 b) s.heap H locs) (hW : Wd Z b M H) (hl : lv_has ls 4 [(0, .ref (b + 156)), (1, .int x1), (2, .int x2), (3, .int x3)]), W p l e rm_X5_set s m args below meth c H locs 0 0 (MQ below (Qn Z b (some (.int r')) M') args s 0 0 (A0 b)) (F0 m 4 ls []) := by
  intro n
  induction n with
  | zero =>
    intro M x1 x2 x3 h
    cases h
  | succ n ih =>
    intro M x1 x2 x3 h H locs ls hS hW hl
    have h : f_X5_set_4B (f_X5_set_4 n) M x1 x2 x3 = some (r', M') := h
    unfold f_X5_set_4B at h
    have hK4 := @ih
    have hx := C.1
    have hb := C.2.1
    refine lv_iload_n hx hb dX5_set_4 rfl (lv_at hl 3 rfl) ?_
    refine lv_aload_n hx hb dX5_set_5 rfl (lv_at hl 0 rfl) ?_
    refine gX5_85 C hW dX5_set_6 ?_
    refine lv_icmp_ge (tgt := 37) hx hb dX5_set_9 (by decide) (fun c9 => ?_) (fun c9 => ?_)
    · have h := (if_pos c9).symm.trans h
      refine lv_iload_n hx hb dX5_set_37 rfl (lv_at hl 2 rfl) ?_
      cases h
      exact ret_i C hr hlk hS hW dX5_set_38
    · have h := (if_neg c9).symm.trans h
      refine lv_iload_n hx hb dX5_set_12 rfl (lv_at hl 2 rfl) ?_
      refine lv_aload_n hx hb dX5_set_13 rfl (lv_at hl 0 rfl) ?_
      refine lv_iload_n hx hb dX5_set_14 rfl (lv_at hl 3 rfl) ?_
      refine lv_iload_n hx hb dX5_set_15 rfl (lv_at hl 1 rfl) ?_
      obtain ⟨r16, M16, hc16, h⟩ := bd2_e h
      refine kX5_94 C hml hl.1 (c_X5_covers hc16) ⟨Nat.le_of_ble_eq_true rfl, Nat.le_of_ble_eq_true rfl⟩ ⟨Nat.le_of_ble_eq_true rfl, Nat.le_of_ble_eq_true rfl⟩ (Nat.le_of_ble_eq_true rfl) hS hW dX5_set_16 (fun H locs hW hS => ?_)
      refine lv_if_eq (tgt := 28) hx hb dX5_set_19 (by decide) (fun c19 => ?_) (fun c19 => ?_)
      · have h := (if_pos c19).symm.trans h
        refine lv_iconst (v := (0 : Int32)) hx hb dX5_set_28 (by decide) ?_
        exact w_X5_set_29 C hml hr hlk hK4 h hS hW (lv_sub hl [0, 1, 3] rfl)
      · have h := (if_neg c19).symm.trans h
        refine lv_iconst (v := (1 : Int32)) hx hb dX5_set_22 (by decide) ?_
        refine lv_iload_n hx hb dX5_set_23 rfl (lv_at hl 3 rfl) ?_
        refine lv_ishl hx hb dX5_set_24 ?_
        refine lv_goto (tgt := 29) hx hb dX5_set_25 (by decide) ?_
        exact w_X5_set_29 C hml hr hlk hK4 h hS hW (lv_sub hl [0, 1, 3] rfl)
def f_X5_set_0 (M : Mem) (x1 : Int32) : Option (Int32 × Mem) :=
  f_X5_set_4 64 M x1 (0 : Int32) (0 : Int32)
set_option maxHeartbeats 4000000 in
set_option maxRecDepth 100000 in
theorem w_X5_set_0 {p : Program} {l : Launch} {e : Env} {s : State} {m : MethodId} {args : Array Value} {below : List Frame} {meth : Method} {c : Code} {Z : Zt} {b : Nat} (C : Cx p s m args c cX5_set RX5 Z b) (hml : c.maxLocals = 4) (hr : meth.sig.returnType = (some .int)) (hlk : meth.locks = false) {r' : Int32} {M' : Mem} {M : Mem} {x1 : Int32} (h : f_X5_set_0 M x1 = some (r', M')) {H : Heap} {locs : List Loc} {ls : Array Slot} (hS : va_S (A0 b) s.heap H locs) (hW : Wd Z b M H) (hl : lv_has ls 4 [(0, .ref (b + 156)), (1, .int x1)]) : W p l e rm_X5_set s m args below meth c H locs 0 0 (MQ below (Qn Z b (some (.int r')) M') args s 0 0 (A0 b)) (F0 m 0 ls []) := by
  unfold f_X5_set_0 at h
  have hx := C.1
  have hb := C.2.1
  refine lv_iconst (v := (0 : Int32)) hx hb dX5_set_0 (by decide) ?_
  refine lv_istore_n (lv' := [(2, .int (0 : Int32)), (0, .ref (b + 156)), (1, .int x1)]) hx hb dX5_set_1 rfl hl (by decide) rfl (fun ls hl => ?_)
  refine lv_iconst (v := (0 : Int32)) hx hb dX5_set_2 (by decide) ?_
  refine lv_istore_n (lv' := [(3, .int (0 : Int32)), (2, .int (0 : Int32)), (0, .ref (b + 156)), (1, .int x1)]) hx hb dX5_set_3 rfl hl (by decide) rfl (fun ls hl => ?_)
  exact w_X5_set_4 C hml hr hlk 64 h hS hW (lv_sub hl [2, 3, 1, 0] rfl)
def f_X5_set (M : Mem) (x1 : Int32) : Option (Int32 × Mem) := f_X5_set_0 M x1
set_option maxHeartbeats 4000000 in
set_option maxRecDepth 100000 in
theorem c_X5_set {l : Launch} {Z : Zt} {b : Nat} {M : Mem} {x1 : Int32} {r' : Int32} {M' : Mem} (h : f_X5_set M x1 = some (r', M')) : Ct l yX5_set cX5_set 4 (some .int) rm_X5_set Z b [.ref (b + 156), .int x1] M (some (.int r')) M' := by
  refine Met.ofW (cc := cX5_set) (maxL := 4) (ret := (some .int)) (by decide) rfl ?_
  intro p e s m args below meth c s₁ B hml hv
  obtain ⟨rfl, hE, hW⟩ := hv
  have C : Cx p s m [.ref (b + 156), .int x1].toArray c cX5_set RX5 Z b := ⟨B.exec, B.bytes, findClass_of_methodNamed B.named, fun w hw => atoms_spec (ws := Cond.code yX5_set cX5_set 4 (some .int) :: wsA) B.pre w (List.mem_cons_of_mem _ hw), hE⟩
  have hl := lv_entry [.ref (b + 156), .int x1] (n := 4) (Nat.le_of_ble_eq_true rfl)
  rw [lg_entry_eq]
  generalize (lg_sl [.ref (b + 156), .int x1] ++ List.replicate (4 - (lg_sl [.ref (b + 156), .int x1]).length) Slot.unset).toArray = ls at hl ⊢
  have hl : lv_has ls 4 [(0, .ref (b + 156)), (1, .int x1)] := hl
  exact w_X5_set_0 C hml B.returns B.notSynchronized h va_S.rf hW hl
def f_X5_may_61 (K22 : Mem → Int32 → Int32 → Int32 → Int32 → Int32 → Option (Int32 × Mem)) (M : Mem) (x1 : Int32) (x3 : Int32) (x4 : Int32) (x6 : Int32) (xs0 : Int32) (xs1 : Int32) : Option (Int32 × Mem) :=
  K22 M x1 x3 x4 (xs0 ||| xs1) (x6 + 1)
set_option maxHeartbeats 4000000 in
set_option maxRecDepth 100000 in
theorem w_X5_may_61 {p : Program} {l : Launch} {e : Env} {s : State} {m : MethodId} {args : Array Value} {below : List Frame} {meth : Method} {c : Code} {Z : Zt} {b : Nat} (C : Cx p s m args c cX5_may RX5 Z b) (hml : c.maxLocals = 7) (hr : meth.sig.returnType = (some .boolean)) (hlk : meth.locks = false) {r' : Int32} {M' : Mem} {K22 : Mem → Int32 → Int32 → Int32 → Int32 → Int32 → Option (Int32 × Mem)} (hK22 : ∀ {M : Mem} {x1 : Int32} {x3 : Int32} {x4 : Int32} {x5 : Int32} {x6 : Int32} (h : K22 M x1 x3 x4 x5 x6 = some (r', M')) {H : Heap} {locs : List Loc} {ls : Array Slot} (hS : va_S (A0 b) s.heap H locs) (hW : Wd Z b M H) (hl : lv_has ls 7 [(0, .ref (b + 156)), (1, .int x1), (3, .int x3), (4, .int x4), (5, .int x5), (6, .int x6)]), W p l e rm_X5_may s m args below meth c H locs 0 0 (MQ below (Qn Z b (some (.int r')) M') args s 0 0 (A0 b)) (F0 m 22 ls [])) {M : Mem} {x1 : Int32} {x3 : Int32} {x4 : Int32} {x6 : Int32} {xs0 : Int32} {xs1 : Int32} (h : f_X5_may_61 K22 M x1 x3 x4 x6 xs0 xs1 = some (r', M')) {H : Heap} {locs : List Loc} {ls : Array Slot} (hS : va_S (A0 b) s.heap H locs) (hW : Wd Z b M H) (hl : lv_has ls 7 [(0, .ref (b + 156)), (1, .int x1), (3, .int x3), (4, .int x4), (6, .int x6)]) : W p l e rm_X5_may s m args below meth c H locs 0 0 (MQ below (Qn Z b (some (.int r')) M') args s 0 0 (A0 b)) (F0 m 61 ls [.int xs1, .int xs0]) := by
  unfold f_X5_may_61 at h
  have hx := C.1
  have hb := C.2.1
  refine lv_ior hx hb dX5_may_61 ?_
  refine lv_istore (lv' := [(5, .int (xs0 ||| xs1)), (0, .ref (b + 156)), (1, .int x1), (3, .int x3), (4, .int x4), (6, .int x6)]) hx hb dX5_may_62 hl (by decide) rfl (fun ls hl => ?_)
  refine lv_iinc (v := x6 + 1) (lv' := [(6, .int (x6 + 1)), (5, .int (xs0 ||| xs1)), (0, .ref (b + 156)), (1, .int x1), (3, .int x3), (4, .int x4)]) hx hb dX5_may_64 hl (k := 5) rfl rfl (by decide) rfl (fun ls hl => ?_)
  refine lv_goto (tgt := 22) hx hb dX5_may_67 (by decide) ?_
  exact hK22 h hS hW (lv_sub hl [2, 3, 4, 5, 1, 0] rfl)
def f_X5_may_60 (K22 : Mem → Int32 → Int32 → Int32 → Int32 → Int32 → Option (Int32 × Mem)) (M : Mem) (x1 : Int32) (x3 : Int32) (x4 : Int32) (x6 : Int32) (xs0 : Int32) : Option (Int32 × Mem) :=
  f_X5_may_61 K22 M x1 x3 x4 x6 xs0 (0 : Int32)
set_option maxHeartbeats 4000000 in
set_option maxRecDepth 100000 in
theorem w_X5_may_60 {p : Program} {l : Launch} {e : Env} {s : State} {m : MethodId} {args : Array Value} {below : List Frame} {meth : Method} {c : Code} {Z : Zt} {b : Nat} (C : Cx p s m args c cX5_may RX5 Z b) (hml : c.maxLocals = 7) (hr : meth.sig.returnType = (some .boolean)) (hlk : meth.locks = false) {r' : Int32} {M' : Mem} {K22 : Mem → Int32 → Int32 → Int32 → Int32 → Int32 → Option (Int32 × Mem)} (hK22 : ∀ {M : Mem} {x1 : Int32} {x3 : Int32} {x4 : Int32} {x5 : Int32} {x6 : Int32} (h : K22 M x1 x3 x4 x5 x6 = some (r', M')) {H : Heap} {locs : List Loc} {ls : Array Slot} (hS : va_S (A0 b) s.heap H locs) (hW : Wd Z b M H) (hl : lv_has ls 7 [(0, .ref (b + 156)), (1, .int x1), (3, .int x3), (4, .int x4), (5, .int x5), (6, .int x6)]), W p l e rm_X5_may s m args below meth c H locs 0 0 (MQ below (Qn Z b (some (.int r')) M') args s 0 0 (A0 b)) (F0 m 22 ls [])) {M : Mem} {x1 : Int32} {x3 : Int32} {x4 : Int32} {x6 : Int32} {xs0 : Int32} (h : f_X5_may_60 K22 M x1 x3 x4 x6 xs0 = some (r', M')) {H : Heap} {locs : List Loc} {ls : Array Slot} (hS : va_S (A0 b) s.heap H locs) (hW : Wd Z b M H) (hl : lv_has ls 7 [(0, .ref (b + 156)), (1, .int x1), (3, .int x3), (4, .int x4), (6, .int x6)]) : W p l e rm_X5_may s m args below meth c H locs 0 0 (MQ below (Qn Z b (some (.int r')) M') args s 0 0 (A0 b)) (F0 m 60 ls [.int xs0]) := by
  unfold f_X5_may_60 at h
  have hx := C.1
  have hb := C.2.1
  refine lv_iconst (v := (0 : Int32)) hx hb dX5_may_60 (by decide) ?_
  exact w_X5_may_61 C hml hr hlk hK22 h hS hW (lv_sub hl [0, 1, 2, 3, 4] rfl)
def f_X5_may_22B (K22 : Mem → Int32 → Int32 → Int32 → Int32 → Int32 → Option (Int32 × Mem)) (M : Mem) (x1 : Int32) (x3 : Int32) (x4 : Int32) (x5 : Int32) (x6 : Int32) : Option (Int32 × Mem) :=
  if (M 29 0) ≤ x6 then (if x5 &&& 1 = x5 then some (x5, M) else none) else if ((x4 &&& x3) &&& ((1 : Int32) <<< (x6 &&& 31))) = 0 then f_X5_may_60 K22 M x1 x3 x4 x6 x5 else if x6 < 0 ∨ 30 ≤ x6.toNatClampNeg then none else if (M 30 x6.toNatClampNeg) = x1 then f_X5_may_61 K22 M x1 x3 x4 x6 x5 (1 : Int32) else f_X5_may_60 K22 M x1 x3 x4 x6 x5
def f_X5_may_22 : Nat → Mem → Int32 → Int32 → Int32 → Int32 → Int32 → Option (Int32 × Mem)
  | 0 => fun _ _ _ _ _ _ => none
  | n + 1 => f_X5_may_22B (f_X5_may_22 n)
set_option maxHeartbeats 4000000 in
set_option maxRecDepth 100000 in
theorem w_X5_may_22 {p : Program} {l : Launch} {e : Env} {s : State} {m : MethodId} {args : Array Value} {below : List Frame} {meth : Method} {c : Code} {Z : Zt} {b : Nat} (C : Cx p s m args c cX5_may RX5 Z b) (hml : c.maxLocals = 7) (hr : meth.sig.returnType = (some .boolean)) (hlk : meth.locks = false) {r' : Int32} {M' : Mem} : ∀ (n : Nat) {M : Mem} {x1 : Int32} {x3 : Int32} {x4 : Int32} {x5 : Int32} {x6 : Int32} (h : f_X5_may_22 n M x1 x3 x4 x5 x6 = some (r', M')) {H : Heap} {locs : List Loc} {ls : Array Slot} (hS : va_S (A0 b) s.heap H locs) (hW : Wd Z b M H) (hl : lv_has ls 7 [(0, .ref (b + 156)), (1, .int x1), (3, .int x3), (4, .int x4), (5, .int x5), (6, .int x6)]), W p l e rm_X5_may s m args below meth c H locs 0 0 (MQ below (Qn Z b (some (.int r')) M') args s 0 0 (A0 b)) (F0 m 22 ls []) := by
  intro n
  induction n with
  | zero =>
    intro M x1 x3 x4 x5 x6 h
    cases h
  | succ n ih =>
    intro M x1 x3 x4 x5 x6 h H locs ls hS hW hl
    have h : f_X5_may_22B (f_X5_may_22 n) M x1 x3 x4 x5 x6 = some (r', M') := h
    unfold f_X5_may_22B at h
    have hK22 := @ih
    have hx := C.1
    have hb := C.2.1
    refine lv_iload hx hb dX5_may_22 (lv_at hl 5 rfl) ?_
    refine lv_aload_n hx hb dX5_may_24 rfl (lv_at hl 0 rfl) ?_
    refine gX5_85 C hW dX5_may_25 ?_
    refine lv_icmp_ge (tgt := 70) hx hb dX5_may_28 (by decide) (fun c28 => ?_) (fun c28 => ?_)
    · have h := (if_pos c28).symm.trans h
      refine lv_iload hx hb dX5_may_70 (lv_at hl 4 rfl) ?_
      obtain ⟨g72, h⟩ := gdp h
      cases h
      exact ret_z C hr hlk g72 hS hW dX5_may_72
    · have h := (if_neg c28).symm.trans h
      refine lv_iload hx hb dX5_may_31 (lv_at hl 4 rfl) ?_
      refine lv_iload hx hb dX5_may_33 (lv_at hl 3 rfl) ?_
      refine lv_iload_n hx hb dX5_may_35 rfl (lv_at hl 2 rfl) ?_
      refine lv_iand hx hb dX5_may_36 ?_
      refine lv_iconst (v := (1 : Int32)) hx hb dX5_may_37 (by decide) ?_
      refine lv_iload hx hb dX5_may_38 (lv_at hl 5 rfl) ?_
      refine lv_ishl hx hb dX5_may_40 ?_
      refine lv_iand hx hb dX5_may_41 ?_
      refine lv_if_eq (tgt := 60) hx hb dX5_may_42 (by decide) (fun c42 => ?_) (fun c42 => ?_)
      · have h := (if_pos c42).symm.trans h
        exact w_X5_may_60 C hml hr hlk hK22 h hS hW (lv_sub hl [0, 1, 2, 3, 5] rfl)
      · have h := (if_neg c42).symm.trans h
        refine lv_aload_n hx hb dX5_may_45 rfl (lv_at hl 0 rfl) ?_
        refine gX5_32 C hW dX5_may_46 ?_
        refine lv_iload hx hb dX5_may_49 (lv_at hl 5 rfl) ?_
        obtain ⟨g51, h⟩ := gd h
        refine ald_164 C hW g51 dX5_may_51 ?_
        refine lv_iload_n hx hb dX5_may_52 rfl (lv_at hl 1 rfl) ?_
        refine lv_icmp_ne (tgt := 60) hx hb dX5_may_53 (by decide) (fun c53 => ?_) (fun c53 => ?_)
        · have h := (if_neg c53).symm.trans h
          exact w_X5_may_60 C hml hr hlk hK22 h hS hW (lv_sub hl [0, 1, 2, 3, 5] rfl)
        · have h := (if_pos c53).symm.trans h
          refine lv_iconst (v := (1 : Int32)) hx hb dX5_may_56 (by decide) ?_
          refine lv_goto (tgt := 61) hx hb dX5_may_57 (by decide) ?_
          exact w_X5_may_61 C hml hr hlk hK22 h hS hW (lv_sub hl [0, 1, 2, 3, 5] rfl)
def f_X5_may_17 (M : Mem) (x1 : Int32) (x3 : Int32) (x4 : Int32) (xs0 : Int32) : Option (Int32 × Mem) :=
  f_X5_may_22 64 M x1 x3 x4 xs0 (0 : Int32)
set_option maxHeartbeats 4000000 in
set_option maxRecDepth 100000 in
theorem w_X5_may_17 {p : Program} {l : Launch} {e : Env} {s : State} {m : MethodId} {args : Array Value} {below : List Frame} {meth : Method} {c : Code} {Z : Zt} {b : Nat} (C : Cx p s m args c cX5_may RX5 Z b) (hml : c.maxLocals = 7) (hr : meth.sig.returnType = (some .boolean)) (hlk : meth.locks = false) {r' : Int32} {M' : Mem} {M : Mem} {x1 : Int32} {x3 : Int32} {x4 : Int32} {xs0 : Int32} (h : f_X5_may_17 M x1 x3 x4 xs0 = some (r', M')) {H : Heap} {locs : List Loc} {ls : Array Slot} (hS : va_S (A0 b) s.heap H locs) (hW : Wd Z b M H) (hl : lv_has ls 7 [(0, .ref (b + 156)), (1, .int x1), (3, .int x3), (4, .int x4)]) : W p l e rm_X5_may s m args below meth c H locs 0 0 (MQ below (Qn Z b (some (.int r')) M') args s 0 0 (A0 b)) (F0 m 17 ls [.int xs0]) := by
  unfold f_X5_may_17 at h
  have hx := C.1
  have hb := C.2.1
  refine lv_istore (lv' := [(5, .int xs0), (0, .ref (b + 156)), (1, .int x1), (3, .int x3), (4, .int x4)]) hx hb dX5_may_17 hl (by decide) rfl (fun ls hl => ?_)
  refine lv_iconst (v := (0 : Int32)) hx hb dX5_may_19 (by decide) ?_
  refine lv_istore (lv' := [(6, .int (0 : Int32)), (5, .int xs0), (0, .ref (b + 156)), (1, .int x1), (3, .int x3), (4, .int x4)]) hx hb dX5_may_20 hl (by decide) rfl (fun ls hl => ?_)
  exact w_X5_may_22 C hml hr hlk 64 h hS hW (lv_sub hl [2, 3, 4, 5, 1, 0] rfl)
def f_X5_may_0 (M : Mem) (x1 : Int32) (x2 : Int32) (x3 : Int32) : Option (Int32 × Mem) :=
  bd2 (f_X5_set M x2) (fun r2 M2 => if r2 = 0 then f_X5_may_17 M2 x1 x3 r2 (1 : Int32) else f_X5_may_17 M2 x1 x3 r2 (0 : Int32))
set_option maxHeartbeats 4000000 in
set_option maxRecDepth 100000 in
theorem w_X5_may_0 {p : Program} {l : Launch} {e : Env} {s : State} {m : MethodId} {args : Array Value} {below : List Frame} {meth : Method} {c : Code} {Z : Zt} {b : Nat} (C : Cx p s m args c cX5_may RX5 Z b) (hml : c.maxLocals = 7) (hr : meth.sig.returnType = (some .boolean)) (hlk : meth.locks = false) {r' : Int32} {M' : Mem} {M : Mem} {x1 : Int32} {x2 : Int32} {x3 : Int32} (h : f_X5_may_0 M x1 x2 x3 = some (r', M')) {H : Heap} {locs : List Loc} {ls : Array Slot} (hS : va_S (A0 b) s.heap H locs) (hW : Wd Z b M H) (hl : lv_has ls 7 [(0, .ref (b + 156)), (1, .int x1), (2, .int x2), (3, .int x3)]) : W p l e rm_X5_may s m args below meth c H locs 0 0 (MQ below (Qn Z b (some (.int r')) M') args s 0 0 (A0 b)) (F0 m 0 ls []) := by
  unfold f_X5_may_0 at h
  have hx := C.1
  have hb := C.2.1
  refine lv_aload_n hx hb dX5_may_0 rfl (lv_at hl 0 rfl) ?_
  refine lv_iload_n hx hb dX5_may_1 rfl (lv_at hl 2 rfl) ?_
  obtain ⟨r2, M2, hc2, h⟩ := bd2_e h
  refine kX5_97 C hml hl.1 (c_X5_set hc2) ⟨Nat.le_of_ble_eq_true rfl, Nat.le_of_ble_eq_true rfl⟩ ⟨Nat.le_of_ble_eq_true rfl, Nat.le_of_ble_eq_true rfl⟩ (Nat.le_of_ble_eq_true rfl) hS hW dX5_may_2 (fun H locs hW hS => ?_)
  refine lv_istore (lv' := [(4, .int r2), (0, .ref (b + 156)), (1, .int x1), (2, .int x2), (3, .int x3)]) hx hb dX5_may_5 hl (by decide) rfl (fun ls hl => ?_)
  refine lv_iload hx hb dX5_may_7 (lv_at hl 0 rfl) ?_
  refine lv_if_ne (tgt := 16) hx hb dX5_may_9 (by decide) (fun c9 => ?_) (fun c9 => ?_)
  · have h := (if_neg c9).symm.trans h
    refine lv_iconst (v := (0 : Int32)) hx hb dX5_may_16 (by decide) ?_
    exact w_X5_may_17 C hml hr hlk h hS hW (lv_sub hl [1, 2, 4, 0] rfl)
  · have h := (if_pos c9).symm.trans h
    refine lv_iconst (v := (1 : Int32)) hx hb dX5_may_12 (by decide) ?_
    refine lv_goto (tgt := 17) hx hb dX5_may_13 (by decide) ?_
    exact w_X5_may_17 C hml hr hlk h hS hW (lv_sub hl [1, 2, 4, 0] rfl)
def f_X5_may (M : Mem) (x1 : Int32) (x2 : Int32) (x3 : Int32) : Option (Int32 × Mem) := f_X5_may_0 M x1 x2 x3
set_option maxHeartbeats 4000000 in
set_option maxRecDepth 100000 in
theorem c_X5_may {l : Launch} {Z : Zt} {b : Nat} {M : Mem} {x1 : Int32} {x2 : Int32} {x3 : Int32} {r' : Int32} {M' : Mem} (h : f_X5_may M x1 x2 x3 = some (r', M')) : Ct l yX5_may cX5_may 7 (some .boolean) rm_X5_may Z b [.ref (b + 156), .int x1, .int x2, .int x3] M (some (.int r')) M' := by
  refine Met.ofW (cc := cX5_may) (maxL := 7) (ret := (some .boolean)) (by decide) rfl ?_
  intro p e s m args below meth c s₁ B hml hv
  obtain ⟨rfl, hE, hW⟩ := hv
  have C : Cx p s m [.ref (b + 156), .int x1, .int x2, .int x3].toArray c cX5_may RX5 Z b := ⟨B.exec, B.bytes, findClass_of_methodNamed B.named, fun w hw => atoms_spec (ws := Cond.code yX5_may cX5_may 7 (some .boolean) :: wsA) B.pre w (List.mem_cons_of_mem _ hw), hE⟩
  have hl := lv_entry [.ref (b + 156), .int x1, .int x2, .int x3] (n := 7) (Nat.le_of_ble_eq_true rfl)
  rw [lg_entry_eq]
  generalize (lg_sl [.ref (b + 156), .int x1, .int x2, .int x3] ++ List.replicate (7 - (lg_sl [.ref (b + 156), .int x1, .int x2, .int x3]).length) Slot.unset).toArray = ls at hl ⊢
  have hl : lv_has ls 7 [(0, .ref (b + 156)), (1, .int x1), (2, .int x2), (3, .int x3)] := hl
  exact w_X5_may_0 C hml B.returns B.notSynchronized h va_S.rf hW hl
def f_X5_mayAll_46 (K6 : Mem → Int32 → Int32 → Int32 → Int32 → Int32 → Option (Int32 × Mem)) (M : Mem) (x1 : Int32) (x2 : Int32) (x3 : Int32) (x5 : Int32) (xs0 : Int32) (xs1 : Int32) : Option (Int32 × Mem) :=
  K6 M x1 x2 x3 (xs0 &&& xs1) (x5 + 1)
set_option maxHeartbeats 4000000 in
set_option maxRecDepth 100000 in
theorem w_X5_mayAll_46 {p : Program} {l : Launch} {e : Env} {s : State} {m : MethodId} {args : Array Value} {below : List Frame} {meth : Method} {c : Code} {Z : Zt} {b : Nat} (C : Cx p s m args c cX5_mayAll RX5 Z b) (hml : c.maxLocals = 6) (hr : meth.sig.returnType = (some .boolean)) (hlk : meth.locks = false) {r' : Int32} {M' : Mem} {K6 : Mem → Int32 → Int32 → Int32 → Int32 → Int32 → Option (Int32 × Mem)} (hK6 : ∀ {M : Mem} {x1 : Int32} {x2 : Int32} {x3 : Int32} {x4 : Int32} {x5 : Int32} (h : K6 M x1 x2 x3 x4 x5 = some (r', M')) {H : Heap} {locs : List Loc} {ls : Array Slot} (hS : va_S (A0 b) s.heap H locs) (hW : Wd Z b M H) (hl : lv_has ls 6 [(0, .ref (b + 156)), (1, .int x1), (2, .int x2), (3, .int x3), (4, .int x4), (5, .int x5)]), W p l e rm_X5_mayAll s m args below meth c H locs 0 0 (MQ below (Qn Z b (some (.int r')) M') args s 0 0 (A0 b)) (F0 m 6 ls [])) {M : Mem} {x1 : Int32} {x2 : Int32} {x3 : Int32} {x5 : Int32} {xs0 : Int32} {xs1 : Int32} (h : f_X5_mayAll_46 K6 M x1 x2 x3 x5 xs0 xs1 = some (r', M')) {H : Heap} {locs : List Loc} {ls : Array Slot} (hS : va_S (A0 b) s.heap H locs) (hW : Wd Z b M H) (hl : lv_has ls 6 [(0, .ref (b + 156)), (1, .int x1), (2, .int x2), (3, .int x3), (5, .int x5)]) : W p l e rm_X5_mayAll s m args below meth c H locs 0 0 (MQ below (Qn Z b (some (.int r')) M') args s 0 0 (A0 b)) (F0 m 46 ls [.int xs1, .int xs0]) := by
  unfold f_X5_mayAll_46 at h
  have hx := C.1
  have hb := C.2.1
  refine lv_iand hx hb dX5_mayAll_46 ?_
  refine lv_istore (lv' := [(4, .int (xs0 &&& xs1)), (0, .ref (b + 156)), (1, .int x1), (2, .int x2), (3, .int x3), (5, .int x5)]) hx hb dX5_mayAll_47 hl (by decide) rfl (fun ls hl => ?_)
  refine lv_iinc (v := x5 + 1) (lv' := [(5, .int (x5 + 1)), (4, .int (xs0 &&& xs1)), (0, .ref (b + 156)), (1, .int x1), (2, .int x2), (3, .int x3)]) hx hb dX5_mayAll_49 hl (k := 5) rfl rfl (by decide) rfl (fun ls hl => ?_)
  refine lv_goto (tgt := 6) hx hb dX5_mayAll_52 (by decide) ?_
  exact hK6 h hS hW (lv_sub hl [2, 3, 4, 5, 1, 0] rfl)
def f_X5_mayAll_41 (K6 : Mem → Int32 → Int32 → Int32 → Int32 → Int32 → Option (Int32 × Mem)) (M : Mem) (x1 : Int32) (x2 : Int32) (x3 : Int32) (x5 : Int32) (xs0 : Int32) : Option (Int32 × Mem) :=
  f_X5_mayAll_46 K6 M x1 x2 x3 x5 xs0 (1 : Int32)
set_option maxHeartbeats 4000000 in
set_option maxRecDepth 100000 in
theorem w_X5_mayAll_41 {p : Program} {l : Launch} {e : Env} {s : State} {m : MethodId} {args : Array Value} {below : List Frame} {meth : Method} {c : Code} {Z : Zt} {b : Nat} (C : Cx p s m args c cX5_mayAll RX5 Z b) (hml : c.maxLocals = 6) (hr : meth.sig.returnType = (some .boolean)) (hlk : meth.locks = false) {r' : Int32} {M' : Mem} {K6 : Mem → Int32 → Int32 → Int32 → Int32 → Int32 → Option (Int32 × Mem)} (hK6 : ∀ {M : Mem} {x1 : Int32} {x2 : Int32} {x3 : Int32} {x4 : Int32} {x5 : Int32} (h : K6 M x1 x2 x3 x4 x5 = some (r', M')) {H : Heap} {locs : List Loc} {ls : Array Slot} (hS : va_S (A0 b) s.heap H locs) (hW : Wd Z b M H) (hl : lv_has ls 6 [(0, .ref (b + 156)), (1, .int x1), (2, .int x2), (3, .int x3), (4, .int x4), (5, .int x5)]), W p l e rm_X5_mayAll s m args below meth c H locs 0 0 (MQ below (Qn Z b (some (.int r')) M') args s 0 0 (A0 b)) (F0 m 6 ls [])) {M : Mem} {x1 : Int32} {x2 : Int32} {x3 : Int32} {x5 : Int32} {xs0 : Int32} (h : f_X5_mayAll_41 K6 M x1 x2 x3 x5 xs0 = some (r', M')) {H : Heap} {locs : List Loc} {ls : Array Slot} (hS : va_S (A0 b) s.heap H locs) (hW : Wd Z b M H) (hl : lv_has ls 6 [(0, .ref (b + 156)), (1, .int x1), (2, .int x2), (3, .int x3), (5, .int x5)]) : W p l e rm_X5_mayAll s m args below meth c H locs 0 0 (MQ below (Qn Z b (some (.int r')) M') args s 0 0 (A0 b)) (F0 m 41 ls [.int xs0]) := by
  unfold f_X5_mayAll_41 at h
  have hx := C.1
  have hb := C.2.1
  refine lv_iconst (v := (1 : Int32)) hx hb dX5_mayAll_41 (by decide) ?_
  refine lv_goto (tgt := 46) hx hb dX5_mayAll_42 (by decide) ?_
  exact w_X5_mayAll_46 C hml hr hlk hK6 h hS hW (lv_sub hl [0, 1, 2, 3, 4] rfl)
def f_X5_mayAll_6B (K6 : Mem → Int32 → Int32 → Int32 → Int32 → Int32 → Option (Int32 × Mem)) (M : Mem) (x1 : Int32) (x2 : Int32) (x3 : Int32) (x4 : Int32) (x5 : Int32) : Option (Int32 × Mem) :=
  if (60 : Int32) ≤ x5 then (if x4 &&& 1 = x4 then some (x4, M) else none) else bd2 (f_X5_isOf M x5 x2) (fun r19 M19 => if r19 = 0 then f_X5_mayAll_41 K6 M19 x1 x2 x3 x5 x4 else if x5 < 0 ∨ 60 ≤ x5.toNatClampNeg then none else bd2 (f_X5_may M19 x1 (M19 21 x5.toNatClampNeg) x3) (fun r35 M35 => if r35 = 0 then f_X5_mayAll_46 K6 M35 x1 x2 x3 x5 x4 (0 : Int32) else f_X5_mayAll_41 K6 M35 x1 x2 x3 x5 x4))
def f_X5_mayAll_6 : Nat → Mem → Int32 → Int32 → Int32 → Int32 → Int32 → Option (Int32 × Mem)
  | 0 => fun _ _ _ _ _ _ => none
  | n + 1 => f_X5_mayAll_6B (f_X5_mayAll_6 n)
set_option maxHeartbeats 4000000 in
set_option maxRecDepth 100000 in
theorem w_X5_mayAll_6 {p : Program} {l : Launch} {e : Env} {s : State} {m : MethodId} {args : Array Value} {below : List Frame} {meth : Method} {c : Code} {Z : Zt} {b : Nat} (C : Cx p s m args c cX5_mayAll RX5 Z b) (hml : c.maxLocals = 6) (hr : meth.sig.returnType = (some .boolean)) (hlk : meth.locks = false) {r' : Int32} {M' : Mem} : ∀ (n : Nat) {M : Mem} {x1 : Int32} {x2 : Int32} {x3 : Int32} {x4 : Int32} {x5 : Int32} (h : f_X5_mayAll_6 n M x1 x2 x3 x4 x5 = some (r', M')) {H : Heap} {locs : List Loc} {ls : Array Slot} (hS : va_S (A0 b) s.heap H locs) (hW : Wd Z b M H) (hl : lv_has ls 6 [(0, .ref (b + 156)), (1, .int x1), (2, .int x2), (3, .int x3), (4, .int x4), (5, .int x5)]), W p l e rm_X5_mayAll s m args below meth c H locs 0 0 (MQ below (Qn Z b (some (.int r')) M') args s 0 0 (A0 b)) (F0 m 6 ls []) := by
  intro n
  induction n with
  | zero =>
    intro M x1 x2 x3 x4 x5 h
    cases h
  | succ n ih =>
    intro M x1 x2 x3 x4 x5 h H locs ls hS hW hl
    have h : f_X5_mayAll_6B (f_X5_mayAll_6 n) M x1 x2 x3 x4 x5 = some (r', M') := h
    unfold f_X5_mayAll_6B at h
    have hK6 := @ih
    have hx := C.1
    have hb := C.2.1
    refine lv_iload hx hb dX5_mayAll_6 (lv_at hl 5 rfl) ?_
    refine lv_bipush (v := (60 : Int32)) hx hb dX5_mayAll_8 (by decide) ?_
    refine lv_icmp_ge (tgt := 55) hx hb dX5_mayAll_10 (by decide) (fun c10 => ?_) (fun c10 => ?_)
    · have h := (if_pos c10).symm.trans h
      refine lv_iload hx hb dX5_mayAll_55 (lv_at hl 4 rfl) ?_
      obtain ⟨g57, h⟩ := gdp h
      cases h
      exact ret_z C hr hlk g57 hS hW dX5_mayAll_57
    · have h := (if_neg c10).symm.trans h
      refine lv_iload hx hb dX5_mayAll_13 (lv_at hl 4 rfl) ?_
      refine lv_aload_n hx hb dX5_mayAll_15 rfl (lv_at hl 0 rfl) ?_
      refine lv_iload hx hb dX5_mayAll_16 (lv_at hl 5 rfl) ?_
      refine lv_iload_n hx hb dX5_mayAll_18 rfl (lv_at hl 2 rfl) ?_
      obtain ⟨r19, M19, hc19, h⟩ := bd2_e h
      refine kX5_100 C hml hl.1 (c_X5_isOf hc19) ⟨Nat.le_of_ble_eq_true rfl, Nat.le_of_ble_eq_true rfl⟩ ⟨Nat.le_of_ble_eq_true rfl, Nat.le_of_ble_eq_true rfl⟩ (Nat.le_of_ble_eq_true rfl) hS hW dX5_mayAll_19 (fun H locs hW hS => ?_)
      refine lv_if_eq (tgt := 41) hx hb dX5_mayAll_22 (by decide) (fun c22 => ?_) (fun c22 => ?_)
      · have h := (if_pos c22).symm.trans h
        exact w_X5_mayAll_41 C hml hr hlk hK6 h hS hW (lv_sub hl [0, 1, 2, 3, 5] rfl)
      · have h := (if_neg c22).symm.trans h
        refine lv_aload_n hx hb dX5_mayAll_25 rfl (lv_at hl 0 rfl) ?_
        refine lv_iload_n hx hb dX5_mayAll_26 rfl (lv_at hl 1 rfl) ?_
        refine lv_aload_n hx hb dX5_mayAll_27 rfl (lv_at hl 0 rfl) ?_
        refine gX5_13 C hW dX5_mayAll_28 ?_
        refine lv_iload hx hb dX5_mayAll_31 (lv_at hl 5 rfl) ?_
        obtain ⟨g33, h⟩ := gd h
        refine ald_158 C hW g33 dX5_mayAll_33 ?_
        refine lv_iload_n hx hb dX5_mayAll_34 rfl (lv_at hl 3 rfl) ?_
        obtain ⟨r35, M35, hc35, h⟩ := bd2_e h
        refine kX5_103 C hml hl.1 (c_X5_may hc35) ⟨Nat.le_of_ble_eq_true rfl, Nat.le_of_ble_eq_true rfl⟩ ⟨Nat.le_of_ble_eq_true rfl, Nat.le_of_ble_eq_true rfl⟩ (Nat.le_of_ble_eq_true rfl) hS hW dX5_mayAll_35 (fun H locs hW hS => ?_)
        refine lv_if_eq (tgt := 45) hx hb dX5_mayAll_38 (by decide) (fun c38 => ?_) (fun c38 => ?_)
        · have h := (if_pos c38).symm.trans h
          refine lv_iconst (v := (0 : Int32)) hx hb dX5_mayAll_45 (by decide) ?_
          exact w_X5_mayAll_46 C hml hr hlk hK6 h hS hW (lv_sub hl [0, 1, 2, 3, 5] rfl)
        · have h := (if_neg c38).symm.trans h
          exact w_X5_mayAll_41 C hml hr hlk hK6 h hS hW (lv_sub hl [0, 1, 2, 3, 5] rfl)
def f_X5_mayAll_0 (M : Mem) (x1 : Int32) (x2 : Int32) (x3 : Int32) : Option (Int32 × Mem) :=
  f_X5_mayAll_6 64 M x1 x2 x3 (1 : Int32) (0 : Int32)
set_option maxHeartbeats 4000000 in
set_option maxRecDepth 100000 in
theorem w_X5_mayAll_0 {p : Program} {l : Launch} {e : Env} {s : State} {m : MethodId} {args : Array Value} {below : List Frame} {meth : Method} {c : Code} {Z : Zt} {b : Nat} (C : Cx p s m args c cX5_mayAll RX5 Z b) (hml : c.maxLocals = 6) (hr : meth.sig.returnType = (some .boolean)) (hlk : meth.locks = false) {r' : Int32} {M' : Mem} {M : Mem} {x1 : Int32} {x2 : Int32} {x3 : Int32} (h : f_X5_mayAll_0 M x1 x2 x3 = some (r', M')) {H : Heap} {locs : List Loc} {ls : Array Slot} (hS : va_S (A0 b) s.heap H locs) (hW : Wd Z b M H) (hl : lv_has ls 6 [(0, .ref (b + 156)), (1, .int x1), (2, .int x2), (3, .int x3)]) : W p l e rm_X5_mayAll s m args below meth c H locs 0 0 (MQ below (Qn Z b (some (.int r')) M') args s 0 0 (A0 b)) (F0 m 0 ls []) := by
  unfold f_X5_mayAll_0 at h
  have hx := C.1
  have hb := C.2.1
  refine lv_iconst (v := (1 : Int32)) hx hb dX5_mayAll_0 (by decide) ?_
  refine lv_istore (lv' := [(4, .int (1 : Int32)), (0, .ref (b + 156)), (1, .int x1), (2, .int x2), (3, .int x3)]) hx hb dX5_mayAll_1 hl (by decide) rfl (fun ls hl => ?_)
  refine lv_iconst (v := (0 : Int32)) hx hb dX5_mayAll_3 (by decide) ?_
  refine lv_istore (lv' := [(5, .int (0 : Int32)), (4, .int (1 : Int32)), (0, .ref (b + 156)), (1, .int x1), (2, .int x2), (3, .int x3)]) hx hb dX5_mayAll_4 hl (by decide) rfl (fun ls hl => ?_)
  exact w_X5_mayAll_6 C hml hr hlk 64 h hS hW (lv_sub hl [2, 3, 4, 5, 1, 0] rfl)
def f_X5_mayAll (M : Mem) (x1 : Int32) (x2 : Int32) (x3 : Int32) : Option (Int32 × Mem) := f_X5_mayAll_0 M x1 x2 x3
set_option maxHeartbeats 4000000 in
set_option maxRecDepth 100000 in
theorem c_X5_mayAll {l : Launch} {Z : Zt} {b : Nat} {M : Mem} {x1 : Int32} {x2 : Int32} {x3 : Int32} {r' : Int32} {M' : Mem} (h : f_X5_mayAll M x1 x2 x3 = some (r', M')) : Ct l yX5_mayAll cX5_mayAll 6 (some .boolean) rm_X5_mayAll Z b [.ref (b + 156), .int x1, .int x2, .int x3] M (some (.int r')) M' := by
  refine Met.ofW (cc := cX5_mayAll) (maxL := 6) (ret := (some .boolean)) (by decide) rfl ?_
  intro p e s m args below meth c s₁ B hml hv
  obtain ⟨rfl, hE, hW⟩ := hv
  have C : Cx p s m [.ref (b + 156), .int x1, .int x2, .int x3].toArray c cX5_mayAll RX5 Z b := ⟨B.exec, B.bytes, findClass_of_methodNamed B.named, fun w hw => atoms_spec (ws := Cond.code yX5_mayAll cX5_mayAll 6 (some .boolean) :: wsA) B.pre w (List.mem_cons_of_mem _ hw), hE⟩
  have hl := lv_entry [.ref (b + 156), .int x1, .int x2, .int x3] (n := 6) (Nat.le_of_ble_eq_true rfl)
  rw [lg_entry_eq]
  generalize (lg_sl [.ref (b + 156), .int x1, .int x2, .int x3] ++ List.replicate (6 - (lg_sl [.ref (b + 156), .int x1, .int x2, .int x3]).length) Slot.unset).toArray = ls at hl ⊢
  have hl : lv_has ls 6 [(0, .ref (b + 156)), (1, .int x1), (2, .int x2), (3, .int x3)] := hl
  exact w_X5_mayAll_0 C hml B.returns B.notSynchronized h va_S.rf hW hl
def f_X5_mayMake_0 (M : Mem) (x1 : Int32) (x2 : Int32) (x3 : Int32) : Option (Int32 × Mem) :=
  bd2 (f_X5_may M x1 x2 x3) (fun r4 M4 => if r4 = 0 then some ((0 : Int32), M4) else bd2 (f_X5_may M4 x1 (x2 / (10 : Int32)) x3) (fun r17 M17 => if r17 = 0 then some ((0 : Int32), M17) else some ((1 : Int32), M17)))
set_option maxHeartbeats 4000000 in
set_option maxRecDepth 100000 in
theorem w_X5_mayMake_0 {p : Program} {l : Launch} {e : Env} {s : State} {m : MethodId} {args : Array Value} {below : List Frame} {meth : Method} {c : Code} {Z : Zt} {b : Nat} (C : Cx p s m args c cX5_mayMake RX5 Z b) (hml : c.maxLocals = 4) (hr : meth.sig.returnType = (some .boolean)) (hlk : meth.locks = false) {r' : Int32} {M' : Mem} {M : Mem} {x1 : Int32} {x2 : Int32} {x3 : Int32} (h : f_X5_mayMake_0 M x1 x2 x3 = some (r', M')) {H : Heap} {locs : List Loc} {ls : Array Slot} (hS : va_S (A0 b) s.heap H locs) (hW : Wd Z b M H) (hl : lv_has ls 4 [(0, .ref (b + 156)), (1, .int x1), (2, .int x2), (3, .int x3)]) : W p l e rm_X5_mayMake s m args below meth c H locs 0 0 (MQ below (Qn Z b (some (.int r')) M') args s 0 0 (A0 b)) (F0 m 0 ls []) := by
  unfold f_X5_mayMake_0 at h
  have hx := C.1
  have hb := C.2.1
  refine lv_aload_n hx hb dX5_mayMake_0 rfl (lv_at hl 0 rfl) ?_
  refine lv_iload_n hx hb dX5_mayMake_1 rfl (lv_at hl 1 rfl) ?_
  refine lv_iload_n hx hb dX5_mayMake_2 rfl (lv_at hl 2 rfl) ?_
  refine lv_iload_n hx hb dX5_mayMake_3 rfl (lv_at hl 3 rfl) ?_
  obtain ⟨r4, M4, hc4, h⟩ := bd2_e h
  refine kX5_103 C hml hl.1 (c_X5_may hc4) ⟨Nat.le_of_ble_eq_true rfl, Nat.le_of_ble_eq_true rfl⟩ ⟨Nat.le_of_ble_eq_true rfl, Nat.le_of_ble_eq_true rfl⟩ (Nat.le_of_ble_eq_true rfl) hS hW dX5_mayMake_4 (fun H locs hW hS => ?_)
  refine lv_if_eq (tgt := 27) hx hb dX5_mayMake_7 (by decide) (fun c7 => ?_) (fun c7 => ?_)
  · have h := (if_pos c7).symm.trans h
    refine lv_iconst (v := (0 : Int32)) hx hb dX5_mayMake_27 (by decide) ?_
    cases h
    exact ret_z C hr hlk (by decide) hS hW dX5_mayMake_28
  · have h := (if_neg c7).symm.trans h
    refine lv_aload_n hx hb dX5_mayMake_10 rfl (lv_at hl 0 rfl) ?_
    refine lv_iload_n hx hb dX5_mayMake_11 rfl (lv_at hl 1 rfl) ?_
    refine lv_iload_n hx hb dX5_mayMake_12 rfl (lv_at hl 2 rfl) ?_
    refine lv_bipush (v := (10 : Int32)) hx hb dX5_mayMake_13 (by decide) ?_
    refine lv_idiv hx hb dX5_mayMake_15 (by decide) ?_
    refine lv_iload_n hx hb dX5_mayMake_16 rfl (lv_at hl 3 rfl) ?_
    obtain ⟨r17, M17, hc17, h⟩ := bd2_e h
    refine kX5_103 C hml hl.1 (c_X5_may hc17) ⟨Nat.le_of_ble_eq_true rfl, Nat.le_of_ble_eq_true rfl⟩ ⟨Nat.le_of_ble_eq_true rfl, Nat.le_of_ble_eq_true rfl⟩ (Nat.le_of_ble_eq_true rfl) hS hW dX5_mayMake_17 (fun H locs hW hS => ?_)
    refine lv_if_eq (tgt := 27) hx hb dX5_mayMake_20 (by decide) (fun c20 => ?_) (fun c20 => ?_)
    · have h := (if_pos c20).symm.trans h
      refine lv_iconst (v := (0 : Int32)) hx hb dX5_mayMake_27 (by decide) ?_
      cases h
      exact ret_z C hr hlk (by decide) hS hW dX5_mayMake_28
    · have h := (if_neg c20).symm.trans h
      refine lv_iconst (v := (1 : Int32)) hx hb dX5_mayMake_23 (by decide) ?_
      refine lv_goto (tgt := 28) hx hb dX5_mayMake_24 (by decide) ?_
      cases h
      exact ret_z C hr hlk (by decide) hS hW dX5_mayMake_28
def f_X5_mayMake (M : Mem) (x1 : Int32) (x2 : Int32) (x3 : Int32) : Option (Int32 × Mem) := f_X5_mayMake_0 M x1 x2 x3
set_option maxHeartbeats 4000000 in
set_option maxRecDepth 100000 in
theorem c_X5_mayMake {l : Launch} {Z : Zt} {b : Nat} {M : Mem} {x1 : Int32} {x2 : Int32} {x3 : Int32} {r' : Int32} {M' : Mem} (h : f_X5_mayMake M x1 x2 x3 = some (r', M')) : Ct l yX5_mayMake cX5_mayMake 4 (some .boolean) rm_X5_mayMake Z b [.ref (b + 156), .int x1, .int x2, .int x3] M (some (.int r')) M' := by
  refine Met.ofW (cc := cX5_mayMake) (maxL := 4) (ret := (some .boolean)) (by decide) rfl ?_
  intro p e s m args below meth c s₁ B hml hv
  obtain ⟨rfl, hE, hW⟩ := hv
  have C : Cx p s m [.ref (b + 156), .int x1, .int x2, .int x3].toArray c cX5_mayMake RX5 Z b := ⟨B.exec, B.bytes, findClass_of_methodNamed B.named, fun w hw => atoms_spec (ws := Cond.code yX5_mayMake cX5_mayMake 4 (some .boolean) :: wsA) B.pre w (List.mem_cons_of_mem _ hw), hE⟩
  have hl := lv_entry [.ref (b + 156), .int x1, .int x2, .int x3] (n := 4) (Nat.le_of_ble_eq_true rfl)
  rw [lg_entry_eq]
  generalize (lg_sl [.ref (b + 156), .int x1, .int x2, .int x3] ++ List.replicate (4 - (lg_sl [.ref (b + 156), .int x1, .int x2, .int x3]).length) Slot.unset).toArray = ls at hl ⊢
  have hl : lv_has ls 4 [(0, .ref (b + 156)), (1, .int x1), (2, .int x2), (3, .int x3)] := hl
  exact w_X5_mayMake_0 C hml B.returns B.notSynchronized h va_S.rf hW hl
def f_X5_makeCollection_68 (M : Mem) (x2 : Int32) (xs0 : Int32) : Option (Int32 × Mem) :=
  if xs0 = 0 then bd2 (f_X5_makes M x2 (2 : Int32) (0 : Int32)) (fun r79 M79 => some (xs0, M79)) else some (xs0, M)
set_option maxHeartbeats 4000000 in
set_option maxRecDepth 100000 in
theorem w_X5_makeCollection_68 {p : Program} {l : Launch} {e : Env} {s : State} {m : MethodId} {args : Array Value} {below : List Frame} {meth : Method} {c : Code} {Z : Zt} {b : Nat} (C : Cx p s m args c cX5_makeCollection RX5 Z b) (hml : c.maxLocals = 5) (hr : meth.sig.returnType = (some .int)) (hlk : meth.locks = false) {r' : Int32} {M' : Mem} {M : Mem} {x2 : Int32} {xs0 : Int32} (h : f_X5_makeCollection_68 M x2 xs0 = some (r', M')) {H : Heap} {locs : List Loc} {ls : Array Slot} (hS : va_S (A0 b) s.heap H locs) (hW : Wd Z b M H) (hl : lv_has ls 5 [(0, .ref (b + 156)), (2, .int x2)]) : W p l e rm_X5_makeCollection s m args below meth c H locs 0 0 (MQ below (Qn Z b (some (.int r')) M') args s 0 0 (A0 b)) (F0 m 68 ls [.int xs0]) := by
  unfold f_X5_makeCollection_68 at h
  have hx := C.1
  have hb := C.2.1
  refine lv_istore (lv' := [(4, .int xs0), (0, .ref (b + 156)), (2, .int x2)]) hx hb dX5_makeCollection_68 hl (by decide) rfl (fun ls hl => ?_)
  refine lv_iload hx hb dX5_makeCollection_70 (lv_at hl 0 rfl) ?_
  refine lv_if_ne (tgt := 83) hx hb dX5_makeCollection_72 (by decide) (fun c72 => ?_) (fun c72 => ?_)
  · have h := (if_neg c72).symm.trans h
    refine lv_iload hx hb dX5_makeCollection_83 (lv_at hl 0 rfl) ?_
    cases h
    exact ret_i C hr hlk hS hW dX5_makeCollection_85
  · have h := (if_pos c72).symm.trans h
    refine lv_aload_n hx hb dX5_makeCollection_75 rfl (lv_at hl 1 rfl) ?_
    refine lv_iload_n hx hb dX5_makeCollection_76 rfl (lv_at hl 2 rfl) ?_
    refine lv_iconst (v := (2 : Int32)) hx hb dX5_makeCollection_77 (by decide) ?_
    refine lv_iconst (v := (0 : Int32)) hx hb dX5_makeCollection_78 (by decide) ?_
    obtain ⟨r79, M79, hc79, h⟩ := bd2_e h
    refine kX5_119 C hml hl.1 (c_X5_makes hc79) ⟨Nat.le_of_ble_eq_true rfl, Nat.le_of_ble_eq_true rfl⟩ ⟨Nat.le_of_ble_eq_true rfl, Nat.le_of_ble_eq_true rfl⟩ (Nat.le_of_ble_eq_true rfl) hS hW dX5_makeCollection_79 (fun H locs hW hS => ?_)
    refine lv_pop hx hb dX5_makeCollection_82 rfl ?_
    refine lv_iload hx hb dX5_makeCollection_83 (lv_at hl 0 rfl) ?_
    cases h
    exact ret_i C hr hlk hS hW dX5_makeCollection_85
def f_X5_makeCollection_0 (M : Mem) (x1 : Int32) (x2 : Int32) (x3 : Int32) : Option (Int32 × Mem) :=
  bd2 (f_X5_isRight M x1 x2 x3) (fun r4 M4 => if r4 = 0 then some ((0 : Int32), M4) else bd2 (f_X5_kinds M4 (x2 / (10 : Int32))) (fun r17 M17 => if r17 = (2 : Int32) then bd2 (f_X5_place M17 x2) (fun r30 M30 => if r30 < 0 then bd2 (f_X5_mayMake M30 x1 x2 x3) (fun r44 M44 => if r44 = 0 then f_X5_makeCollection_68 M44 x2 (4 : Int32) else bd2 (f_X5_count M44) (fun r55 M55 => if r55 = (60 : Int32) then f_X5_makeCollection_68 M55 x2 (5 : Int32) else f_X5_makeCollection_68 M55 x2 (0 : Int32))) else f_X5_makeCollection_68 M30 x2 (2 : Int32)) else f_X5_makeCollection_68 M17 x2 (1 : Int32)))
set_option maxHeartbeats 4000000 in
set_option maxRecDepth 100000 in
theorem w_X5_makeCollection_0 {p : Program} {l : Launch} {e : Env} {s : State} {m : MethodId} {args : Array Value} {below : List Frame} {meth : Method} {c : Code} {Z : Zt} {b : Nat} (C : Cx p s m args c cX5_makeCollection RX5 Z b) (hml : c.maxLocals = 5) (hr : meth.sig.returnType = (some .int)) (hlk : meth.locks = false) {r' : Int32} {M' : Mem} {M : Mem} {x1 : Int32} {x2 : Int32} {x3 : Int32} (h : f_X5_makeCollection_0 M x1 x2 x3 = some (r', M')) {H : Heap} {locs : List Loc} {ls : Array Slot} (hS : va_S (A0 b) s.heap H locs) (hW : Wd Z b M H) (hl : lv_has ls 5 [(0, .ref (b + 156)), (1, .int x1), (2, .int x2), (3, .int x3)]) : W p l e rm_X5_makeCollection s m args below meth c H locs 0 0 (MQ below (Qn Z b (some (.int r')) M') args s 0 0 (A0 b)) (F0 m 0 ls []) := by
  unfold f_X5_makeCollection_0 at h
  have hx := C.1
  have hb := C.2.1
  refine lv_aload_n hx hb dX5_makeCollection_0 rfl (lv_at hl 0 rfl) ?_
  refine lv_iload_n hx hb dX5_makeCollection_1 rfl (lv_at hl 1 rfl) ?_
  refine lv_iload_n hx hb dX5_makeCollection_2 rfl (lv_at hl 2 rfl) ?_
  refine lv_iload_n hx hb dX5_makeCollection_3 rfl (lv_at hl 3 rfl) ?_
  obtain ⟨r4, M4, hc4, h⟩ := bd2_e h
  refine kX5_106 C hml hl.1 (c_X5_isRight hc4) ⟨Nat.le_of_ble_eq_true rfl, Nat.le_of_ble_eq_true rfl⟩ ⟨Nat.le_of_ble_eq_true rfl, Nat.le_of_ble_eq_true rfl⟩ (Nat.le_of_ble_eq_true rfl) hS hW dX5_makeCollection_4 (fun H locs hW hS => ?_)
  refine lv_if_ne (tgt := 12) hx hb dX5_makeCollection_7 (by decide) (fun c7 => ?_) (fun c7 => ?_)
  · have h := (if_neg c7).symm.trans h
    refine lv_aload_n hx hb dX5_makeCollection_12 rfl (lv_at hl 0 rfl) ?_
    refine lv_iload_n hx hb dX5_makeCollection_13 rfl (lv_at hl 2 rfl) ?_
    refine lv_bipush (v := (10 : Int32)) hx hb dX5_makeCollection_14 (by decide) ?_
    refine lv_idiv hx hb dX5_makeCollection_16 (by decide) ?_
    obtain ⟨r17, M17, hc17, h⟩ := bd2_e h
    refine kX5_109 C hml hl.1 (c_X5_kinds hc17) ⟨Nat.le_of_ble_eq_true rfl, Nat.le_of_ble_eq_true rfl⟩ ⟨Nat.le_of_ble_eq_true rfl, Nat.le_of_ble_eq_true rfl⟩ (Nat.le_of_ble_eq_true rfl) hS hW dX5_makeCollection_17 (fun H locs hW hS => ?_)
    refine lv_iconst (v := (2 : Int32)) hx hb dX5_makeCollection_20 (by decide) ?_
    refine lv_icmp_eq (tgt := 28) hx hb dX5_makeCollection_21 (by decide) (fun c21 => ?_) (fun c21 => ?_)
    · have h := (if_pos c21).symm.trans h
      refine lv_aload_n hx hb dX5_makeCollection_28 rfl (lv_at hl 0 rfl) ?_
      refine lv_iload_n hx hb dX5_makeCollection_29 rfl (lv_at hl 2 rfl) ?_
      obtain ⟨r30, M30, hc30, h⟩ := bd2_e h
      refine kX5_74 C hml hl.1 (c_X5_place hc30) ⟨Nat.le_of_ble_eq_true rfl, Nat.le_of_ble_eq_true rfl⟩ ⟨Nat.le_of_ble_eq_true rfl, Nat.le_of_ble_eq_true rfl⟩ (Nat.le_of_ble_eq_true rfl) hS hW dX5_makeCollection_30 (fun H locs hW hS => ?_)
      refine lv_if_lt (tgt := 40) hx hb dX5_makeCollection_33 (by decide) (fun c33 => ?_) (fun c33 => ?_)
      · have h := (if_pos c33).symm.trans h
        refine lv_aload_n hx hb dX5_makeCollection_40 rfl (lv_at hl 0 rfl) ?_
        refine lv_iload_n hx hb dX5_makeCollection_41 rfl (lv_at hl 1 rfl) ?_
        refine lv_iload_n hx hb dX5_makeCollection_42 rfl (lv_at hl 2 rfl) ?_
        refine lv_iload_n hx hb dX5_makeCollection_43 rfl (lv_at hl 3 rfl) ?_
        obtain ⟨r44, M44, hc44, h⟩ := bd2_e h
        refine kX5_112 C hml hl.1 (c_X5_mayMake hc44) ⟨Nat.le_of_ble_eq_true rfl, Nat.le_of_ble_eq_true rfl⟩ ⟨Nat.le_of_ble_eq_true rfl, Nat.le_of_ble_eq_true rfl⟩ (Nat.le_of_ble_eq_true rfl) hS hW dX5_makeCollection_44 (fun H locs hW hS => ?_)
        refine lv_if_ne (tgt := 54) hx hb dX5_makeCollection_47 (by decide) (fun c47 => ?_) (fun c47 => ?_)
        · have h := (if_neg c47).symm.trans h
          refine lv_aload_n hx hb dX5_makeCollection_54 rfl (lv_at hl 0 rfl) ?_
          obtain ⟨r55, M55, hc55, h⟩ := bd2_e h
          refine kX5_115 C hml hl.1 (c_X5_count hc55) ⟨Nat.le_of_ble_eq_true rfl, Nat.le_of_ble_eq_true rfl⟩ ⟨Nat.le_of_ble_eq_true rfl, Nat.le_of_ble_eq_true rfl⟩ (Nat.le_of_ble_eq_true rfl) hS hW dX5_makeCollection_55 (fun H locs hW hS => ?_)
          refine lv_bipush (v := (60 : Int32)) hx hb dX5_makeCollection_58 (by decide) ?_
          refine lv_icmp_ne (tgt := 67) hx hb dX5_makeCollection_60 (by decide) (fun c60 => ?_) (fun c60 => ?_)
          · have h := (if_neg c60).symm.trans h
            refine lv_iconst (v := (0 : Int32)) hx hb dX5_makeCollection_67 (by decide) ?_
            exact w_X5_makeCollection_68 C hml hr hlk h hS hW (lv_sub hl [0, 2] rfl)
          · have h := (if_pos c60).symm.trans h
            refine lv_iconst (v := (5 : Int32)) hx hb dX5_makeCollection_63 (by decide) ?_
            refine lv_goto (tgt := 68) hx hb dX5_makeCollection_64 (by decide) ?_
            exact w_X5_makeCollection_68 C hml hr hlk h hS hW (lv_sub hl [0, 2] rfl)
        · have h := (if_pos c47).symm.trans h
          refine lv_iconst (v := (4 : Int32)) hx hb dX5_makeCollection_50 (by decide) ?_
          refine lv_goto (tgt := 68) hx hb dX5_makeCollection_51 (by decide) ?_
          exact w_X5_makeCollection_68 C hml hr hlk h hS hW (lv_sub hl [0, 2] rfl)
      · have h := (if_neg c33).symm.trans h
        refine lv_iconst (v := (2 : Int32)) hx hb dX5_makeCollection_36 (by decide) ?_
        refine lv_goto (tgt := 68) hx hb dX5_makeCollection_37 (by decide) ?_
        exact w_X5_makeCollection_68 C hml hr hlk h hS hW (lv_sub hl [0, 2] rfl)
    · have h := (if_neg c21).symm.trans h
      refine lv_iconst (v := (1 : Int32)) hx hb dX5_makeCollection_24 (by decide) ?_
      refine lv_goto (tgt := 68) hx hb dX5_makeCollection_25 (by decide) ?_
      exact w_X5_makeCollection_68 C hml hr hlk h hS hW (lv_sub hl [0, 2] rfl)
  · have h := (if_pos c7).symm.trans h
    refine lv_iconst (v := (0 : Int32)) hx hb dX5_makeCollection_10 (by decide) ?_
    cases h
    exact ret_i C hr hlk hS hW dX5_makeCollection_11
def f_X5_makeCollection (M : Mem) (x1 : Int32) (x2 : Int32) (x3 : Int32) : Option (Int32 × Mem) := f_X5_makeCollection_0 M x1 x2 x3
set_option maxHeartbeats 4000000 in
set_option maxRecDepth 100000 in
theorem c_X5_makeCollection {l : Launch} {Z : Zt} {b : Nat} {M : Mem} {x1 : Int32} {x2 : Int32} {x3 : Int32} {r' : Int32} {M' : Mem} (h : f_X5_makeCollection M x1 x2 x3 = some (r', M')) : Ct l yX5_makeCollection cX5_makeCollection 5 (some .int) rm_X5_makeCollection Z b [.ref (b + 156), .int x1, .int x2, .int x3] M (some (.int r')) M' := by
  refine Met.ofW (cc := cX5_makeCollection) (maxL := 5) (ret := (some .int)) (by decide) rfl ?_
  intro p e s m args below meth c s₁ B hml hv
  obtain ⟨rfl, hE, hW⟩ := hv
  have C : Cx p s m [.ref (b + 156), .int x1, .int x2, .int x3].toArray c cX5_makeCollection RX5 Z b := ⟨B.exec, B.bytes, findClass_of_methodNamed B.named, fun w hw => atoms_spec (ws := Cond.code yX5_makeCollection cX5_makeCollection 5 (some .int) :: wsA) B.pre w (List.mem_cons_of_mem _ hw), hE⟩
  have hl := lv_entry [.ref (b + 156), .int x1, .int x2, .int x3] (n := 5) (Nat.le_of_ble_eq_true rfl)
  rw [lg_entry_eq]
  generalize (lg_sl [.ref (b + 156), .int x1, .int x2, .int x3] ++ List.replicate (5 - (lg_sl [.ref (b + 156), .int x1, .int x2, .int x3]).length) Slot.unset).toArray = ls at hl ⊢
  have hl : lv_has ls 5 [(0, .ref (b + 156)), (1, .int x1), (2, .int x2), (3, .int x3)] := hl
  exact w_X5_makeCollection_0 C hml B.returns B.notSynchronized h va_S.rf hW hl
def f_X5_puts_107 (M : Mem) (x5 : Int32) (x6 : Int32) (x7 : Int32) : Option (Int32 × Mem) :=
  if x6 = 0 then some ((3 : Int32), M) else if x7 = 0 then some ((4 : Int32), M) else if 0 ≤ x5 then some ((0 : Int32), M) else bd2 (f_X5_count M) (fun r131 M131 => if r131 = (60 : Int32) then some ((5 : Int32), M131) else some ((0 : Int32), M131))
set_option maxHeartbeats 4000000 in
set_option maxRecDepth 100000 in
theorem w_X5_puts_107 {p : Program} {l : Launch} {e : Env} {s : State} {m : MethodId} {args : Array Value} {below : List Frame} {meth : Method} {c : Code} {Z : Zt} {b : Nat} (C : Cx p s m args c cX5_puts RX5 Z b) (hml : c.maxLocals = 8) (hr : meth.sig.returnType = (some .int)) (hlk : meth.locks = false) {r' : Int32} {M' : Mem} {M : Mem} {x5 : Int32} {x6 : Int32} {x7 : Int32} (h : f_X5_puts_107 M x5 x6 x7 = some (r', M')) {H : Heap} {locs : List Loc} {ls : Array Slot} (hS : va_S (A0 b) s.heap H locs) (hW : Wd Z b M H) (hl : lv_has ls 8 [(0, .ref (b + 156)), (5, .int x5), (6, .int x6), (7, .int x7)]) : W p l e rm_X5_puts s m args below meth c H locs 0 0 (MQ below (Qn Z b (some (.int r')) M') args s 0 0 (A0 b)) (F0 m 107 ls []) := by
  unfold f_X5_puts_107 at h
  have hx := C.1
  have hb := C.2.1
  refine lv_iload hx hb dX5_puts_107 (lv_at hl 2 rfl) ?_
  refine lv_if_ne (tgt := 116) hx hb dX5_puts_109 (by decide) (fun c109 => ?_) (fun c109 => ?_)
  · have h := (if_neg c109).symm.trans h
    refine lv_iload hx hb dX5_puts_116 (lv_at hl 3 rfl) ?_
    refine lv_if_ne (tgt := 125) hx hb dX5_puts_118 (by decide) (fun c118 => ?_) (fun c118 => ?_)
    · have h := (if_neg c118).symm.trans h
      refine lv_iload hx hb dX5_puts_125 (lv_at hl 1 rfl) ?_
      refine lv_if_ge (tgt := 143) hx hb dX5_puts_127 (by decide) (fun c127 => ?_) (fun c127 => ?_)
      · have h := (if_pos c127).symm.trans h
        refine lv_iconst (v := (0 : Int32)) hx hb dX5_puts_143 (by decide) ?_
        cases h
        exact ret_i C hr hlk hS hW dX5_puts_144
      · have h := (if_neg c127).symm.trans h
        refine lv_aload_n hx hb dX5_puts_130 rfl (lv_at hl 0 rfl) ?_
        obtain ⟨r131, M131, hc131, h⟩ := bd2_e h
        refine kX5_115 C hml hl.1 (c_X5_count hc131) ⟨Nat.le_of_ble_eq_true rfl, Nat.le_of_ble_eq_true rfl⟩ ⟨Nat.le_of_ble_eq_true rfl, Nat.le_of_ble_eq_true rfl⟩ (Nat.le_of_ble_eq_true rfl) hS hW dX5_puts_131 (fun H locs hW hS => ?_)
        refine lv_bipush (v := (60 : Int32)) hx hb dX5_puts_134 (by decide) ?_
        refine lv_icmp_ne (tgt := 143) hx hb dX5_puts_136 (by decide) (fun c136 => ?_) (fun c136 => ?_)
        · have h := (if_neg c136).symm.trans h
          refine lv_iconst (v := (0 : Int32)) hx hb dX5_puts_143 (by decide) ?_
          cases h
          exact ret_i C hr hlk hS hW dX5_puts_144
        · have h := (if_pos c136).symm.trans h
          refine lv_iconst (v := (5 : Int32)) hx hb dX5_puts_139 (by decide) ?_
          refine lv_goto (tgt := 144) hx hb dX5_puts_140 (by decide) ?_
          cases h
          exact ret_i C hr hlk hS hW dX5_puts_144
    · have h := (if_pos c118).symm.trans h
      refine lv_iconst (v := (4 : Int32)) hx hb dX5_puts_121 (by decide) ?_
      refine lv_goto (tgt := 144) hx hb dX5_puts_122 (by decide) ?_
      cases h
      exact ret_i C hr hlk hS hW dX5_puts_144
  · have h := (if_pos c109).symm.trans h
    refine lv_iconst (v := (3 : Int32)) hx hb dX5_puts_112 (by decide) ?_
    refine lv_goto (tgt := 144) hx hb dX5_puts_113 (by decide) ?_
    cases h
    exact ret_i C hr hlk hS hW dX5_puts_144
def f_X5_puts_69 (M : Mem) (x2 : Int32) (x5 : Int32) (x6 : Int32) (xs0 : Int32) : Option (Int32 × Mem) :=
  bd2 (f_X5_kinds M (x2 / (10 : Int32))) (fun r76 M76 => if r76 = (2 : Int32) then (if x5 < 0 then f_X5_puts_107 M76 x5 x6 xs0 else if x5 < 0 ∨ 60 ≤ x5.toNatClampNeg then none else if (M76 22 x5.toNatClampNeg) = (2 : Int32) then some ((2 : Int32), M76) else f_X5_puts_107 M76 x5 x6 xs0) else some ((1 : Int32), M76))
set_option maxHeartbeats 4000000 in
set_option maxRecDepth 100000 in
theorem w_X5_puts_69 {p : Program} {l : Launch} {e : Env} {s : State} {m : MethodId} {args : Array Value} {below : List Frame} {meth : Method} {c : Code} {Z : Zt} {b : Nat} (C : Cx p s m args c cX5_puts RX5 Z b) (hml : c.maxLocals = 8) (hr : meth.sig.returnType = (some .int)) (hlk : meth.locks = false) {r' : Int32} {M' : Mem} {M : Mem} {x2 : Int32} {x5 : Int32} {x6 : Int32} {xs0 : Int32} (h : f_X5_puts_69 M x2 x5 x6 xs0 = some (r', M')) {H : Heap} {locs : List Loc} {ls : Array Slot} (hS : va_S (A0 b) s.heap H locs) (hW : Wd Z b M H) (hl : lv_has ls 8 [(0, .ref (b + 156)), (2, .int x2), (5, .int x5), (6, .int x6)]) : W p l e rm_X5_puts s m args below meth c H locs 0 0 (MQ below (Qn Z b (some (.int r')) M') args s 0 0 (A0 b)) (F0 m 69 ls [.int xs0]) := by
  unfold f_X5_puts_69 at h
  have hx := C.1
  have hb := C.2.1
  refine lv_istore (lv' := [(7, .int xs0), (0, .ref (b + 156)), (2, .int x2), (5, .int x5), (6, .int x6)]) hx hb dX5_puts_69 hl (by decide) rfl (fun ls hl => ?_)
  refine lv_aload_n hx hb dX5_puts_71 rfl (lv_at hl 1 rfl) ?_
  refine lv_iload_n hx hb dX5_puts_72 rfl (lv_at hl 2 rfl) ?_
  refine lv_bipush (v := (10 : Int32)) hx hb dX5_puts_73 (by decide) ?_
  refine lv_idiv hx hb dX5_puts_75 (by decide) ?_
  obtain ⟨r76, M76, hc76, h⟩ := bd2_e h
  refine kX5_109 C hml hl.1 (c_X5_kinds hc76) ⟨Nat.le_of_ble_eq_true rfl, Nat.le_of_ble_eq_true rfl⟩ ⟨Nat.le_of_ble_eq_true rfl, Nat.le_of_ble_eq_true rfl⟩ (Nat.le_of_ble_eq_true rfl) hS hW dX5_puts_76 (fun H locs hW hS => ?_)
  refine lv_iconst (v := (2 : Int32)) hx hb dX5_puts_79 (by decide) ?_
  refine lv_icmp_eq (tgt := 87) hx hb dX5_puts_80 (by decide) (fun c80 => ?_) (fun c80 => ?_)
  · have h := (if_pos c80).symm.trans h
    refine lv_iload hx hb dX5_puts_87 (lv_at hl 3 rfl) ?_
    refine lv_if_lt (tgt := 107) hx hb dX5_puts_89 (by decide) (fun c89 => ?_) (fun c89 => ?_)
    · have h := (if_pos c89).symm.trans h
      exact w_X5_puts_107 C hml hr hlk h hS hW (lv_sub hl [1, 3, 4, 0] rfl)
    · have h := (if_neg c89).symm.trans h
      refine lv_aload_n hx hb dX5_puts_92 rfl (lv_at hl 1 rfl) ?_
      refine gX5_17 C hW dX5_puts_93 ?_
      refine lv_iload hx hb dX5_puts_96 (lv_at hl 3 rfl) ?_
      obtain ⟨g98, h⟩ := gd h
      refine ald_159 C hW g98 dX5_puts_98 ?_
      refine lv_iconst (v := (2 : Int32)) hx hb dX5_puts_99 (by decide) ?_
      refine lv_icmp_ne (tgt := 107) hx hb dX5_puts_100 (by decide) (fun c100 => ?_) (fun c100 => ?_)
      · have h := (if_neg c100).symm.trans h
        exact w_X5_puts_107 C hml hr hlk h hS hW (lv_sub hl [1, 3, 4, 0] rfl)
      · have h := (if_pos c100).symm.trans h
        refine lv_iconst (v := (2 : Int32)) hx hb dX5_puts_103 (by decide) ?_
        refine lv_goto (tgt := 144) hx hb dX5_puts_104 (by decide) ?_
        cases h
        exact ret_i C hr hlk hS hW dX5_puts_144
  · have h := (if_neg c80).symm.trans h
    refine lv_iconst (v := (1 : Int32)) hx hb dX5_puts_83 (by decide) ?_
    refine lv_goto (tgt := 144) hx hb dX5_puts_84 (by decide) ?_
    cases h
    exact ret_i C hr hlk hS hW dX5_puts_144
def f_X5_puts_68 (M : Mem) (x2 : Int32) (x5 : Int32) (x6 : Int32) : Option (Int32 × Mem) :=
  f_X5_puts_69 M x2 x5 x6 (0 : Int32)
set_option maxHeartbeats 4000000 in
set_option maxRecDepth 100000 in
theorem w_X5_puts_68 {p : Program} {l : Launch} {e : Env} {s : State} {m : MethodId} {args : Array Value} {below : List Frame} {meth : Method} {c : Code} {Z : Zt} {b : Nat} (C : Cx p s m args c cX5_puts RX5 Z b) (hml : c.maxLocals = 8) (hr : meth.sig.returnType = (some .int)) (hlk : meth.locks = false) {r' : Int32} {M' : Mem} {M : Mem} {x2 : Int32} {x5 : Int32} {x6 : Int32} (h : f_X5_puts_68 M x2 x5 x6 = some (r', M')) {H : Heap} {locs : List Loc} {ls : Array Slot} (hS : va_S (A0 b) s.heap H locs) (hW : Wd Z b M H) (hl : lv_has ls 8 [(0, .ref (b + 156)), (2, .int x2), (5, .int x5), (6, .int x6)]) : W p l e rm_X5_puts s m args below meth c H locs 0 0 (MQ below (Qn Z b (some (.int r')) M') args s 0 0 (A0 b)) (F0 m 68 ls []) := by
  unfold f_X5_puts_68 at h
  have hx := C.1
  have hb := C.2.1
  refine lv_iconst (v := (0 : Int32)) hx hb dX5_puts_68 (by decide) ?_
  exact w_X5_puts_69 C hml hr hlk h hS hW (lv_sub hl [0, 1, 2, 3] rfl)
def f_X5_puts_64 (M : Mem) (x2 : Int32) (x5 : Int32) (x6 : Int32) : Option (Int32 × Mem) :=
  f_X5_puts_69 M x2 x5 x6 (1 : Int32)
set_option maxHeartbeats 4000000 in
set_option maxRecDepth 100000 in
theorem w_X5_puts_64 {p : Program} {l : Launch} {e : Env} {s : State} {m : MethodId} {args : Array Value} {below : List Frame} {meth : Method} {c : Code} {Z : Zt} {b : Nat} (C : Cx p s m args c cX5_puts RX5 Z b) (hml : c.maxLocals = 8) (hr : meth.sig.returnType = (some .int)) (hlk : meth.locks = false) {r' : Int32} {M' : Mem} {M : Mem} {x2 : Int32} {x5 : Int32} {x6 : Int32} (h : f_X5_puts_64 M x2 x5 x6 = some (r', M')) {H : Heap} {locs : List Loc} {ls : Array Slot} (hS : va_S (A0 b) s.heap H locs) (hW : Wd Z b M H) (hl : lv_has ls 8 [(0, .ref (b + 156)), (2, .int x2), (5, .int x5), (6, .int x6)]) : W p l e rm_X5_puts s m args below meth c H locs 0 0 (MQ below (Qn Z b (some (.int r')) M') args s 0 0 (A0 b)) (F0 m 64 ls []) := by
  unfold f_X5_puts_64 at h
  have hx := C.1
  have hb := C.2.1
  refine lv_iconst (v := (1 : Int32)) hx hb dX5_puts_64 (by decide) ?_
  refine lv_goto (tgt := 69) hx hb dX5_puts_65 (by decide) ?_
  exact w_X5_puts_69 C hml hr hlk h hS hW (lv_sub hl [0, 1, 2, 3] rfl)
def f_X5_puts_32 (M : Mem) (x1 : Int32) (x2 : Int32) (x4 : Int32) (x5 : Int32) (xs0 : Int32) : Option (Int32 × Mem) :=
  bd2 (f_X5_may M x1 x2 x4) (fun r39 M39 => if r39 = 0 then f_X5_puts_68 M39 x2 x5 xs0 else if 0 ≤ x5 then f_X5_puts_64 M39 x2 x5 xs0 else bd2 (f_X5_may M39 x1 (x2 / (10 : Int32)) x4) (fun r58 M58 => if r58 = 0 then f_X5_puts_68 M58 x2 x5 xs0 else f_X5_puts_64 M58 x2 x5 xs0))
set_option maxHeartbeats 4000000 in
set_option maxRecDepth 100000 in
theorem w_X5_puts_32 {p : Program} {l : Launch} {e : Env} {s : State} {m : MethodId} {args : Array Value} {below : List Frame} {meth : Method} {c : Code} {Z : Zt} {b : Nat} (C : Cx p s m args c cX5_puts RX5 Z b) (hml : c.maxLocals = 8) (hr : meth.sig.returnType = (some .int)) (hlk : meth.locks = false) {r' : Int32} {M' : Mem} {M : Mem} {x1 : Int32} {x2 : Int32} {x4 : Int32} {x5 : Int32} {xs0 : Int32} (h : f_X5_puts_32 M x1 x2 x4 x5 xs0 = some (r', M')) {H : Heap} {locs : List Loc} {ls : Array Slot} (hS : va_S (A0 b) s.heap H locs) (hW : Wd Z b M H) (hl : lv_has ls 8 [(0, .ref (b + 156)), (1, .int x1), (2, .int x2), (4, .int x4), (5, .int x5)]) : W p l e rm_X5_puts s m args below meth c H locs 0 0 (MQ below (Qn Z b (some (.int r')) M') args s 0 0 (A0 b)) (F0 m 32 ls [.int xs0]) := by
  unfold f_X5_puts_32 at h
  have hx := C.1
  have hb := C.2.1
  refine lv_istore (lv' := [(6, .int xs0), (0, .ref (b + 156)), (1, .int x1), (2, .int x2), (4, .int x4), (5, .int x5)]) hx hb dX5_puts_32 hl (by decide) rfl (fun ls hl => ?_)
  refine lv_aload_n hx hb dX5_puts_34 rfl (lv_at hl 1 rfl) ?_
  refine lv_iload_n hx hb dX5_puts_35 rfl (lv_at hl 2 rfl) ?_
  refine lv_iload_n hx hb dX5_puts_36 rfl (lv_at hl 3 rfl) ?_
  refine lv_iload hx hb dX5_puts_37 (lv_at hl 4 rfl) ?_
  obtain ⟨r39, M39, hc39, h⟩ := bd2_e h
  refine kX5_103 C hml hl.1 (c_X5_may hc39) ⟨Nat.le_of_ble_eq_true rfl, Nat.le_of_ble_eq_true rfl⟩ ⟨Nat.le_of_ble_eq_true rfl, Nat.le_of_ble_eq_true rfl⟩ (Nat.le_of_ble_eq_true rfl) hS hW dX5_puts_39 (fun H locs hW hS => ?_)
  refine lv_if_eq (tgt := 68) hx hb dX5_puts_42 (by decide) (fun c42 => ?_) (fun c42 => ?_)
  · have h := (if_pos c42).symm.trans h
    exact w_X5_puts_68 C hml hr hlk h hS hW (lv_sub hl [1, 3, 5, 0] rfl)
  · have h := (if_neg c42).symm.trans h
    refine lv_iload hx hb dX5_puts_45 (lv_at hl 5 rfl) ?_
    refine lv_if_ge (tgt := 64) hx hb dX5_puts_47 (by decide) (fun c47 => ?_) (fun c47 => ?_)
    · have h := (if_pos c47).symm.trans h
      exact w_X5_puts_64 C hml hr hlk h hS hW (lv_sub hl [1, 3, 5, 0] rfl)
    · have h := (if_neg c47).symm.trans h
      refine lv_aload_n hx hb dX5_puts_50 rfl (lv_at hl 1 rfl) ?_
      refine lv_iload_n hx hb dX5_puts_51 rfl (lv_at hl 2 rfl) ?_
      refine lv_iload_n hx hb dX5_puts_52 rfl (lv_at hl 3 rfl) ?_
      refine lv_bipush (v := (10 : Int32)) hx hb dX5_puts_53 (by decide) ?_
      refine lv_idiv hx hb dX5_puts_55 (by decide) ?_
      refine lv_iload hx hb dX5_puts_56 (lv_at hl 4 rfl) ?_
      obtain ⟨r58, M58, hc58, h⟩ := bd2_e h
      refine kX5_103 C hml hl.1 (c_X5_may hc58) ⟨Nat.le_of_ble_eq_true rfl, Nat.le_of_ble_eq_true rfl⟩ ⟨Nat.le_of_ble_eq_true rfl, Nat.le_of_ble_eq_true rfl⟩ (Nat.le_of_ble_eq_true rfl) hS hW dX5_puts_58 (fun H locs hW hS => ?_)
      refine lv_if_eq (tgt := 68) hx hb dX5_puts_61 (by decide) (fun c61 => ?_) (fun c61 => ?_)
      · have h := (if_pos c61).symm.trans h
        exact w_X5_puts_68 C hml hr hlk h hS hW (lv_sub hl [1, 3, 5, 0] rfl)
      · have h := (if_neg c61).symm.trans h
        exact w_X5_puts_64 C hml hr hlk h hS hW (lv_sub hl [1, 3, 5, 0] rfl)
def f_X5_puts_27 (M : Mem) (x1 : Int32) (x2 : Int32) (x4 : Int32) (x5 : Int32) : Option (Int32 × Mem) :=
  f_X5_puts_32 M x1 x2 x4 x5 (1 : Int32)
set_option maxHeartbeats 4000000 in
set_option maxRecDepth 100000 in
theorem w_X5_puts_27 {p : Program} {l : Launch} {e : Env} {s : State} {m : MethodId} {args : Array Value} {below : List Frame} {meth : Method} {c : Code} {Z : Zt} {b : Nat} (C : Cx p s m args c cX5_puts RX5 Z b) (hml : c.maxLocals = 8) (hr : meth.sig.returnType = (some .int)) (hlk : meth.locks = false) {r' : Int32} {M' : Mem} {M : Mem} {x1 : Int32} {x2 : Int32} {x4 : Int32} {x5 : Int32} (h : f_X5_puts_27 M x1 x2 x4 x5 = some (r', M')) {H : Heap} {locs : List Loc} {ls : Array Slot} (hS : va_S (A0 b) s.heap H locs) (hW : Wd Z b M H) (hl : lv_has ls 8 [(0, .ref (b + 156)), (1, .int x1), (2, .int x2), (4, .int x4), (5, .int x5)]) : W p l e rm_X5_puts s m args below meth c H locs 0 0 (MQ below (Qn Z b (some (.int r')) M') args s 0 0 (A0 b)) (F0 m 27 ls []) := by
  unfold f_X5_puts_27 at h
  have hx := C.1
  have hb := C.2.1
  refine lv_iconst (v := (1 : Int32)) hx hb dX5_puts_27 (by decide) ?_
  refine lv_goto (tgt := 32) hx hb dX5_puts_28 (by decide) ?_
  exact w_X5_puts_32 C hml hr hlk h hS hW (lv_sub hl [0, 1, 2, 3, 4] rfl)
def f_X5_puts_31 (M : Mem) (x1 : Int32) (x2 : Int32) (x4 : Int32) (x5 : Int32) : Option (Int32 × Mem) :=
  f_X5_puts_32 M x1 x2 x4 x5 (0 : Int32)
set_option maxHeartbeats 4000000 in
set_option maxRecDepth 100000 in
theorem w_X5_puts_31 {p : Program} {l : Launch} {e : Env} {s : State} {m : MethodId} {args : Array Value} {below : List Frame} {meth : Method} {c : Code} {Z : Zt} {b : Nat} (C : Cx p s m args c cX5_puts RX5 Z b) (hml : c.maxLocals = 8) (hr : meth.sig.returnType = (some .int)) (hlk : meth.locks = false) {r' : Int32} {M' : Mem} {M : Mem} {x1 : Int32} {x2 : Int32} {x4 : Int32} {x5 : Int32} (h : f_X5_puts_31 M x1 x2 x4 x5 = some (r', M')) {H : Heap} {locs : List Loc} {ls : Array Slot} (hS : va_S (A0 b) s.heap H locs) (hW : Wd Z b M H) (hl : lv_has ls 8 [(0, .ref (b + 156)), (1, .int x1), (2, .int x2), (4, .int x4), (5, .int x5)]) : W p l e rm_X5_puts s m args below meth c H locs 0 0 (MQ below (Qn Z b (some (.int r')) M') args s 0 0 (A0 b)) (F0 m 31 ls []) := by
  unfold f_X5_puts_31 at h
  have hx := C.1
  have hb := C.2.1
  refine lv_iconst (v := (0 : Int32)) hx hb dX5_puts_31 (by decide) ?_
  exact w_X5_puts_32 C hml hr hlk h hS hW (lv_sub hl [0, 1, 2, 3, 4] rfl)
def f_X5_puts_0 (M : Mem) (x1 : Int32) (x2 : Int32) (x3 : Int32) (x4 : Int32) : Option (Int32 × Mem) :=
  bd2 (f_X5_place M x2) (fun r2 M2 => if x3 < 0 then f_X5_puts_27 M2 x1 x2 x4 r2 else if r2 < 0 then f_X5_puts_31 M2 x1 x2 x4 r2 else if r2 < 0 ∨ 60 ≤ r2.toNatClampNeg then none else if (M2 23 r2.toNatClampNeg) = x3 then f_X5_puts_27 M2 x1 x2 x4 r2 else f_X5_puts_31 M2 x1 x2 x4 r2)
set_option maxHeartbeats 4000000 in
set_option maxRecDepth 100000 in
theorem w_X5_puts_0 {p : Program} {l : Launch} {e : Env} {s : State} {m : MethodId} {args : Array Value} {below : List Frame} {meth : Method} {c : Code} {Z : Zt} {b : Nat} (C : Cx p s m args c cX5_puts RX5 Z b) (hml : c.maxLocals = 8) (hr : meth.sig.returnType = (some .int)) (hlk : meth.locks = false) {r' : Int32} {M' : Mem} {M : Mem} {x1 : Int32} {x2 : Int32} {x3 : Int32} {x4 : Int32} (h : f_X5_puts_0 M x1 x2 x3 x4 = some (r', M')) {H : Heap} {locs : List Loc} {ls : Array Slot} (hS : va_S (A0 b) s.heap H locs) (hW : Wd Z b M H) (hl : lv_has ls 8 [(0, .ref (b + 156)), (1, .int x1), (2, .int x2), (3, .int x3), (4, .int x4)]) : W p l e rm_X5_puts s m args below meth c H locs 0 0 (MQ below (Qn Z b (some (.int r')) M') args s 0 0 (A0 b)) (F0 m 0 ls []) := by
  unfold f_X5_puts_0 at h
  have hx := C.1
  have hb := C.2.1
  refine lv_aload_n hx hb dX5_puts_0 rfl (lv_at hl 0 rfl) ?_
  refine lv_iload_n hx hb dX5_puts_1 rfl (lv_at hl 2 rfl) ?_
  obtain ⟨r2, M2, hc2, h⟩ := bd2_e h
  refine kX5_74 C hml hl.1 (c_X5_place hc2) ⟨Nat.le_of_ble_eq_true rfl, Nat.le_of_ble_eq_true rfl⟩ ⟨Nat.le_of_ble_eq_true rfl, Nat.le_of_ble_eq_true rfl⟩ (Nat.le_of_ble_eq_true rfl) hS hW dX5_puts_2 (fun H locs hW hS => ?_)
  refine lv_istore (lv' := [(5, .int r2), (0, .ref (b + 156)), (1, .int x1), (2, .int x2), (3, .int x3), (4, .int x4)]) hx hb dX5_puts_5 hl (by decide) rfl (fun ls hl => ?_)
  refine lv_iload_n hx hb dX5_puts_7 rfl (lv_at hl 4 rfl) ?_
  refine lv_if_lt (tgt := 27) hx hb dX5_puts_8 (by decide) (fun c8 => ?_) (fun c8 => ?_)
  · have h := (if_pos c8).symm.trans h
    exact w_X5_puts_27 C hml hr hlk h hS hW (lv_sub hl [1, 2, 3, 5, 0] rfl)
  · have h := (if_neg c8).symm.trans h
    refine lv_iload hx hb dX5_puts_11 (lv_at hl 0 rfl) ?_
    refine lv_if_lt (tgt := 31) hx hb dX5_puts_13 (by decide) (fun c13 => ?_) (fun c13 => ?_)
    · have h := (if_pos c13).symm.trans h
      exact w_X5_puts_31 C hml hr hlk h hS hW (lv_sub hl [1, 2, 3, 5, 0] rfl)
    · have h := (if_neg c13).symm.trans h
      refine lv_aload_n hx hb dX5_puts_16 rfl (lv_at hl 1 rfl) ?_
      refine gX5_20 C hW dX5_puts_17 ?_
      refine lv_iload hx hb dX5_puts_20 (lv_at hl 0 rfl) ?_
      obtain ⟨g22, h⟩ := gd h
      refine ald_160 C hW g22 dX5_puts_22 ?_
      refine lv_iload_n hx hb dX5_puts_23 rfl (lv_at hl 4 rfl) ?_
      refine lv_icmp_ne (tgt := 31) hx hb dX5_puts_24 (by decide) (fun c24 => ?_) (fun c24 => ?_)
      · have h := (if_neg c24).symm.trans h
        exact w_X5_puts_31 C hml hr hlk h hS hW (lv_sub hl [1, 2, 3, 5, 0] rfl)
      · have h := (if_pos c24).symm.trans h
        exact w_X5_puts_27 C hml hr hlk h hS hW (lv_sub hl [1, 2, 3, 5, 0] rfl)
def f_X5_puts (M : Mem) (x1 : Int32) (x2 : Int32) (x3 : Int32) (x4 : Int32) : Option (Int32 × Mem) := f_X5_puts_0 M x1 x2 x3 x4
set_option maxHeartbeats 4000000 in
set_option maxRecDepth 100000 in
theorem c_X5_puts {l : Launch} {Z : Zt} {b : Nat} {M : Mem} {x1 : Int32} {x2 : Int32} {x3 : Int32} {x4 : Int32} {r' : Int32} {M' : Mem} (h : f_X5_puts M x1 x2 x3 x4 = some (r', M')) : Ct l yX5_puts cX5_puts 8 (some .int) rm_X5_puts Z b [.ref (b + 156), .int x1, .int x2, .int x3, .int x4] M (some (.int r')) M' := by
  refine Met.ofW (cc := cX5_puts) (maxL := 8) (ret := (some .int)) (by decide) rfl ?_
  intro p e s m args below meth c s₁ B hml hv
  obtain ⟨rfl, hE, hW⟩ := hv
  have C : Cx p s m [.ref (b + 156), .int x1, .int x2, .int x3, .int x4].toArray c cX5_puts RX5 Z b := ⟨B.exec, B.bytes, findClass_of_methodNamed B.named, fun w hw => atoms_spec (ws := Cond.code yX5_puts cX5_puts 8 (some .int) :: wsA) B.pre w (List.mem_cons_of_mem _ hw), hE⟩
  have hl := lv_entry [.ref (b + 156), .int x1, .int x2, .int x3, .int x4] (n := 8) (Nat.le_of_ble_eq_true rfl)
  rw [lg_entry_eq]
  generalize (lg_sl [.ref (b + 156), .int x1, .int x2, .int x3, .int x4] ++ List.replicate (8 - (lg_sl [.ref (b + 156), .int x1, .int x2, .int x3, .int x4]).length) Slot.unset).toArray = ls at hl ⊢
  have hl : lv_has ls 8 [(0, .ref (b + 156)), (1, .int x1), (2, .int x2), (3, .int x3), (4, .int x4)] := hl
  exact w_X5_puts_0 C hml B.returns B.notSynchronized h va_S.rf hW hl
def f_X5_put_103 (M : Mem) (x3 : Int32) (x7 : Int32) (xs0 : Int32) : Option (Int32 × Mem) :=
  if xs0 < 0 ∨ 60 ≤ xs0.toNatClampNeg then none else some (x7, mu M 23 xs0.toNatClampNeg x3)
set_option maxHeartbeats 4000000 in
set_option maxRecDepth 100000 in
theorem w_X5_put_103 {p : Program} {l : Launch} {e : Env} {s : State} {m : MethodId} {args : Array Value} {below : List Frame} {meth : Method} {c : Code} {Z : Zt} {b : Nat} (C : Cx p s m args c cX5_put RX5 Z b) (hml : c.maxLocals = 9) (hr : meth.sig.returnType = (some .int)) (hlk : meth.locks = false) {r' : Int32} {M' : Mem} {M : Mem} {x3 : Int32} {x7 : Int32} {xs0 : Int32} (h : f_X5_put_103 M x3 x7 xs0 = some (r', M')) {H : Heap} {locs : List Loc} {ls : Array Slot} (hS : va_S (A0 b) s.heap H locs) (hW : Wd Z b M H) (hl : lv_has ls 9 [(0, .ref (b + 156)), (3, .int x3), (7, .int x7)]) : W p l e rm_X5_put s m args below meth c H locs 0 0 (MQ below (Qn Z b (some (.int r')) M') args s 0 0 (A0 b)) (F0 m 103 ls [.int xs0]) := by
  unfold f_X5_put_103 at h
  have hx := C.1
  have hb := C.2.1
  refine lv_istore (lv' := [(8, .int xs0), (0, .ref (b + 156)), (3, .int x3), (7, .int x7)]) hx hb dX5_put_103 hl (by decide) rfl (fun ls hl => ?_)
  refine lv_aload_n hx hb dX5_put_105 rfl (lv_at hl 1 rfl) ?_
  refine gX5_20 C hW dX5_put_106 ?_
  refine lv_iload hx hb dX5_put_109 (lv_at hl 0 rfl) ?_
  refine lv_iload_n hx hb dX5_put_111 rfl (lv_at hl 2 rfl) ?_
  obtain ⟨g112, h⟩ := gd h
  refine ast_160 C hS hW g112 dX5_put_112 (fun H locs hW hS => ?_)
  refine lv_iload hx hb dX5_put_113 (lv_at hl 3 rfl) ?_
  cases h
  exact ret_i C hr hlk hS hW dX5_put_115
def f_X5_put_52 (M : Mem) (x1 : Int32) (x2 : Int32) (x3 : Int32) (x4 : Int32) (x5 : Int32) (x6 : Int32) (xs1 : Int32) : Option (Int32 × Mem) :=
  if x6 = 0 then some ((0 : Int32), mu M 39 0 xs1) else bd2 (f_X5_puts (mu M 39 0 xs1) x1 x2 x4 x5) (fun r69 M69 => if r69 = 0 then bd2 (f_X5_place M69 x2) (fun r81 M81 => if 0 ≤ r81 then f_X5_put_103 M81 x3 r69 r81 else bd2 (f_X5_makes M81 x2 (1 : Int32) (0 : Int32)) (fun r95 M95 => f_X5_put_103 M95 x3 r69 r95)) else some (r69, M69))
set_option maxHeartbeats 4000000 in
set_option maxRecDepth 100000 in
theorem w_X5_put_52 {p : Program} {l : Launch} {e : Env} {s : State} {m : MethodId} {args : Array Value} {below : List Frame} {meth : Method} {c : Code} {Z : Zt} {b : Nat} (C : Cx p s m args c cX5_put RX5 Z b) (hml : c.maxLocals = 9) (hr : meth.sig.returnType = (some .int)) (hlk : meth.locks = false) {r' : Int32} {M' : Mem} {M : Mem} {x1 : Int32} {x2 : Int32} {x3 : Int32} {x4 : Int32} {x5 : Int32} {x6 : Int32} {xs1 : Int32} (h : f_X5_put_52 M x1 x2 x3 x4 x5 x6 xs1 = some (r', M')) {H : Heap} {locs : List Loc} {ls : Array Slot} (hS : va_S (A0 b) s.heap H locs) (hW : Wd Z b M H) (hl : lv_has ls 9 [(0, .ref (b + 156)), (1, .int x1), (2, .int x2), (3, .int x3), (4, .int x4), (5, .int x5), (6, .int x6)]) : W p l e rm_X5_put s m args below meth c H locs 0 0 (MQ below (Qn Z b (some (.int r')) M') args s 0 0 (A0 b)) (F0 m 52 ls [.int xs1, .ref (b + 156)]) := by
  unfold f_X5_put_52 at h
  have hx := C.1
  have hb := C.2.1
  refine pX5_56 C hS hW dX5_put_52 (fun H locs hW hS => ?_)
  refine lv_iload hx hb dX5_put_55 (lv_at hl 6 rfl) ?_
  refine lv_if_ne (tgt := 62) hx hb dX5_put_57 (by decide) (fun c57 => ?_) (fun c57 => ?_)
  · have h := (if_neg c57).symm.trans h
    refine lv_aload_n hx hb dX5_put_62 rfl (lv_at hl 0 rfl) ?_
    refine lv_iload_n hx hb dX5_put_63 rfl (lv_at hl 1 rfl) ?_
    refine lv_iload_n hx hb dX5_put_64 rfl (lv_at hl 2 rfl) ?_
    refine lv_iload hx hb dX5_put_65 (lv_at hl 4 rfl) ?_
    refine lv_iload hx hb dX5_put_67 (lv_at hl 5 rfl) ?_
    obtain ⟨r69, M69, hc69, h⟩ := bd2_e h
    refine kX5_123 C hml hl.1 (c_X5_puts hc69) ⟨Nat.le_of_ble_eq_true rfl, Nat.le_of_ble_eq_true rfl⟩ ⟨Nat.le_of_ble_eq_true rfl, Nat.le_of_ble_eq_true rfl⟩ (Nat.le_of_ble_eq_true rfl) hS hW dX5_put_69 (fun H locs hW hS => ?_)
    refine lv_istore (lv' := [(7, .int r69), (0, .ref (b + 156)), (1, .int x1), (2, .int x2), (3, .int x3), (4, .int x4), (5, .int x5), (6, .int x6)]) hx hb dX5_put_72 hl (by decide) rfl (fun ls hl => ?_)
    refine lv_iload hx hb dX5_put_74 (lv_at hl 0 rfl) ?_
    refine lv_if_ne (tgt := 113) hx hb dX5_put_76 (by decide) (fun c76 => ?_) (fun c76 => ?_)
    · have h := (if_neg c76).symm.trans h
      refine lv_iload hx hb dX5_put_113 (lv_at hl 0 rfl) ?_
      cases h
      exact ret_i C hr hlk hS hW dX5_put_115
    · have h := (if_pos c76).symm.trans h
      refine lv_aload_n hx hb dX5_put_79 rfl (lv_at hl 1 rfl) ?_
      refine lv_iload_n hx hb dX5_put_80 rfl (lv_at hl 3 rfl) ?_
      obtain ⟨r81, M81, hc81, h⟩ := bd2_e h
      refine kX5_74 C hml hl.1 (c_X5_place hc81) ⟨Nat.le_of_ble_eq_true rfl, Nat.le_of_ble_eq_true rfl⟩ ⟨Nat.le_of_ble_eq_true rfl, Nat.le_of_ble_eq_true rfl⟩ (Nat.le_of_ble_eq_true rfl) hS hW dX5_put_81 (fun H locs hW hS => ?_)
      refine lv_istore (lv' := [(8, .int r81), (7, .int r69), (0, .ref (b + 156)), (1, .int x1), (2, .int x2), (3, .int x3), (4, .int x4), (5, .int x5), (6, .int x6)]) hx hb dX5_put_84 hl (by decide) rfl (fun ls hl => ?_)
      refine lv_iload hx hb dX5_put_86 (lv_at hl 0 rfl) ?_
      refine lv_if_ge (tgt := 101) hx hb dX5_put_88 (by decide) (fun c88 => ?_) (fun c88 => ?_)
      · have h := (if_pos c88).symm.trans h
        refine lv_iload hx hb dX5_put_101 (lv_at hl 0 rfl) ?_
        exact w_X5_put_103 C hml hr hlk h hS hW (lv_sub hl [2, 5, 1] rfl)
      · have h := (if_neg c88).symm.trans h
        refine lv_aload_n hx hb dX5_put_91 rfl (lv_at hl 2 rfl) ?_
        refine lv_iload_n hx hb dX5_put_92 rfl (lv_at hl 4 rfl) ?_
        refine lv_iconst (v := (1 : Int32)) hx hb dX5_put_93 (by decide) ?_
        refine lv_iconst (v := (0 : Int32)) hx hb dX5_put_94 (by decide) ?_
        obtain ⟨r95, M95, hc95, h⟩ := bd2_e h
        refine kX5_119 C hml hl.1 (c_X5_makes hc95) ⟨Nat.le_of_ble_eq_true rfl, Nat.le_of_ble_eq_true rfl⟩ ⟨Nat.le_of_ble_eq_true rfl, Nat.le_of_ble_eq_true rfl⟩ (Nat.le_of_ble_eq_true rfl) hS hW dX5_put_95 (fun H locs hW hS => ?_)
        refine lv_goto (tgt := 103) hx hb dX5_put_98 (by decide) ?_
        exact w_X5_put_103 C hml hr hlk h hS hW (lv_sub hl [2, 5, 1] rfl)
  · have h := (if_pos c57).symm.trans h
    refine lv_iconst (v := (0 : Int32)) hx hb dX5_put_60 (by decide) ?_
    cases h
    exact ret_i C hr hlk hS hW dX5_put_61
def f_X5_put_39 (M : Mem) (x1 : Int32) (x2 : Int32) (x3 : Int32) (x4 : Int32) (x5 : Int32) (xs0 : Int32) : Option (Int32 × Mem) :=
  if xs0 = 0 then f_X5_put_52 M x1 x2 x3 x4 x5 xs0 (1 : Int32) else f_X5_put_52 M x1 x2 x3 x4 x5 xs0 (0 : Int32)
set_option maxHeartbeats 4000000 in
set_option maxRecDepth 100000 in
theorem w_X5_put_39 {p : Program} {l : Launch} {e : Env} {s : State} {m : MethodId} {args : Array Value} {below : List Frame} {meth : Method} {c : Code} {Z : Zt} {b : Nat} (C : Cx p s m args c cX5_put RX5 Z b) (hml : c.maxLocals = 9) (hr : meth.sig.returnType = (some .int)) (hlk : meth.locks = false) {r' : Int32} {M' : Mem} {M : Mem} {x1 : Int32} {x2 : Int32} {x3 : Int32} {x4 : Int32} {x5 : Int32} {xs0 : Int32} (h : f_X5_put_39 M x1 x2 x3 x4 x5 xs0 = some (r', M')) {H : Heap} {locs : List Loc} {ls : Array Slot} (hS : va_S (A0 b) s.heap H locs) (hW : Wd Z b M H) (hl : lv_has ls 9 [(0, .ref (b + 156)), (1, .int x1), (2, .int x2), (3, .int x3), (4, .int x4), (5, .int x5)]) : W p l e rm_X5_put s m args below meth c H locs 0 0 (MQ below (Qn Z b (some (.int r')) M') args s 0 0 (A0 b)) (F0 m 39 ls [.int xs0]) := by
  unfold f_X5_put_39 at h
  have hx := C.1
  have hb := C.2.1
  refine lv_istore (lv' := [(6, .int xs0), (0, .ref (b + 156)), (1, .int x1), (2, .int x2), (3, .int x3), (4, .int x4), (5, .int x5)]) hx hb dX5_put_39 hl (by decide) rfl (fun ls hl => ?_)
  refine lv_aload_n hx hb dX5_put_41 rfl (lv_at hl 1 rfl) ?_
  refine lv_iload hx hb dX5_put_42 (lv_at hl 0 rfl) ?_
  refine lv_if_eq (tgt := 51) hx hb dX5_put_44 (by decide) (fun c44 => ?_) (fun c44 => ?_)
  · have h := (if_pos c44).symm.trans h
    refine lv_iconst (v := (1 : Int32)) hx hb dX5_put_51 (by decide) ?_
    exact w_X5_put_52 C hml hr hlk h hS hW (lv_sub hl [1, 2, 3, 4, 5, 6, 0] rfl)
  · have h := (if_neg c44).symm.trans h
    refine lv_iconst (v := (0 : Int32)) hx hb dX5_put_47 (by decide) ?_
    refine lv_goto (tgt := 52) hx hb dX5_put_48 (by decide) ?_
    exact w_X5_put_52 C hml hr hlk h hS hW (lv_sub hl [1, 2, 3, 4, 5, 6, 0] rfl)
def f_X5_put_38 (M : Mem) (x1 : Int32) (x2 : Int32) (x3 : Int32) (x4 : Int32) (x5 : Int32) : Option (Int32 × Mem) :=
  f_X5_put_39 M x1 x2 x3 x4 x5 (0 : Int32)
set_option maxHeartbeats 4000000 in
set_option maxRecDepth 100000 in
theorem w_X5_put_38 {p : Program} {l : Launch} {e : Env} {s : State} {m : MethodId} {args : Array Value} {below : List Frame} {meth : Method} {c : Code} {Z : Zt} {b : Nat} (C : Cx p s m args c cX5_put RX5 Z b) (hml : c.maxLocals = 9) (hr : meth.sig.returnType = (some .int)) (hlk : meth.locks = false) {r' : Int32} {M' : Mem} {M : Mem} {x1 : Int32} {x2 : Int32} {x3 : Int32} {x4 : Int32} {x5 : Int32} (h : f_X5_put_38 M x1 x2 x3 x4 x5 = some (r', M')) {H : Heap} {locs : List Loc} {ls : Array Slot} (hS : va_S (A0 b) s.heap H locs) (hW : Wd Z b M H) (hl : lv_has ls 9 [(0, .ref (b + 156)), (1, .int x1), (2, .int x2), (3, .int x3), (4, .int x4), (5, .int x5)]) : W p l e rm_X5_put s m args below meth c H locs 0 0 (MQ below (Qn Z b (some (.int r')) M') args s 0 0 (A0 b)) (F0 m 38 ls []) := by
  unfold f_X5_put_38 at h
  have hx := C.1
  have hb := C.2.1
  refine lv_iconst (v := (0 : Int32)) hx hb dX5_put_38 (by decide) ?_
  exact w_X5_put_39 C hml hr hlk h hS hW (lv_sub hl [0, 1, 2, 3, 4, 5] rfl)
def f_X5_put_0 (M : Mem) (x1 : Int32) (x2 : Int32) (x3 : Int32) (x4 : Int32) (x5 : Int32) : Option (Int32 × Mem) :=
  bd2 (f_X5_isRight M x1 x2 x5) (fun r5 M5 => if r5 = 0 then f_X5_put_38 M5 x1 x2 x3 x4 x5 else bd2 (f_X5_isIn M5 x3 (0 : Int32) (999 : Int32)) (fun r16 M16 => if r16 = 0 then f_X5_put_38 M16 x1 x2 x3 x4 x5 else bd2 (f_X5_isIn M16 x4 (-1 : Int32) (999 : Int32)) (fun r28 M28 => if r28 = 0 then f_X5_put_38 M28 x1 x2 x3 x4 x5 else f_X5_put_39 M28 x1 x2 x3 x4 x5 (1 : Int32))))
set_option maxHeartbeats 4000000 in
set_option maxRecDepth 100000 in
theorem w_X5_put_0 {p : Program} {l : Launch} {e : Env} {s : State} {m : MethodId} {args : Array Value} {below : List Frame} {meth : Method} {c : Code} {Z : Zt} {b : Nat} (C : Cx p s m args c cX5_put RX5 Z b) (hml : c.maxLocals = 9) (hr : meth.sig.returnType = (some .int)) (hlk : meth.locks = false) {r' : Int32} {M' : Mem} {M : Mem} {x1 : Int32} {x2 : Int32} {x3 : Int32} {x4 : Int32} {x5 : Int32} (h : f_X5_put_0 M x1 x2 x3 x4 x5 = some (r', M')) {H : Heap} {locs : List Loc} {ls : Array Slot} (hS : va_S (A0 b) s.heap H locs) (hW : Wd Z b M H) (hl : lv_has ls 9 [(0, .ref (b + 156)), (1, .int x1), (2, .int x2), (3, .int x3), (4, .int x4), (5, .int x5)]) : W p l e rm_X5_put s m args below meth c H locs 0 0 (MQ below (Qn Z b (some (.int r')) M') args s 0 0 (A0 b)) (F0 m 0 ls []) := by
  unfold f_X5_put_0 at h
  have hx := C.1
  have hb := C.2.1
  refine lv_aload_n hx hb dX5_put_0 rfl (lv_at hl 0 rfl) ?_
  refine lv_iload_n hx hb dX5_put_1 rfl (lv_at hl 1 rfl) ?_
  refine lv_iload_n hx hb dX5_put_2 rfl (lv_at hl 2 rfl) ?_
  refine lv_iload hx hb dX5_put_3 (lv_at hl 5 rfl) ?_
  obtain ⟨r5, M5, hc5, h⟩ := bd2_e h
  refine kX5_106 C hml hl.1 (c_X5_isRight hc5) ⟨Nat.le_of_ble_eq_true rfl, Nat.le_of_ble_eq_true rfl⟩ ⟨Nat.le_of_ble_eq_true rfl, Nat.le_of_ble_eq_true rfl⟩ (Nat.le_of_ble_eq_true rfl) hS hW dX5_put_5 (fun H locs hW hS => ?_)
  refine lv_if_eq (tgt := 38) hx hb dX5_put_8 (by decide) (fun c8 => ?_) (fun c8 => ?_)
  · have h := (if_pos c8).symm.trans h
    exact w_X5_put_38 C hml hr hlk h hS hW (lv_sub hl [0, 1, 2, 3, 4, 5] rfl)
  · have h := (if_neg c8).symm.trans h
    refine lv_iload_n hx hb dX5_put_11 rfl (lv_at hl 3 rfl) ?_
    refine lv_iconst (v := (0 : Int32)) hx hb dX5_put_12 (by decide) ?_
    refine lv_sipush (v := (999 : Int32)) hx hb dX5_put_13 (by decide) ?_
    obtain ⟨r16, M16, hc16, h⟩ := bd2_e h
    refine kX5_60 C hml hl.1 (c_X5_isIn hc16) ⟨Nat.le_of_ble_eq_true rfl, Nat.le_of_ble_eq_true rfl⟩ ⟨Nat.le_of_ble_eq_true rfl, Nat.le_of_ble_eq_true rfl⟩ (Nat.le_of_ble_eq_true rfl) hS hW dX5_put_16 (fun H locs hW hS => ?_)
    refine lv_if_eq (tgt := 38) hx hb dX5_put_19 (by decide) (fun c19 => ?_) (fun c19 => ?_)
    · have h := (if_pos c19).symm.trans h
      exact w_X5_put_38 C hml hr hlk h hS hW (lv_sub hl [0, 1, 2, 3, 4, 5] rfl)
    · have h := (if_neg c19).symm.trans h
      refine lv_iload hx hb dX5_put_22 (lv_at hl 4 rfl) ?_
      refine lv_iconst (v := (-1 : Int32)) hx hb dX5_put_24 (by decide) ?_
      refine lv_sipush (v := (999 : Int32)) hx hb dX5_put_25 (by decide) ?_
      obtain ⟨r28, M28, hc28, h⟩ := bd2_e h
      refine kX5_60 C hml hl.1 (c_X5_isIn hc28) ⟨Nat.le_of_ble_eq_true rfl, Nat.le_of_ble_eq_true rfl⟩ ⟨Nat.le_of_ble_eq_true rfl, Nat.le_of_ble_eq_true rfl⟩ (Nat.le_of_ble_eq_true rfl) hS hW dX5_put_28 (fun H locs hW hS => ?_)
      refine lv_if_eq (tgt := 38) hx hb dX5_put_31 (by decide) (fun c31 => ?_) (fun c31 => ?_)
      · have h := (if_pos c31).symm.trans h
        exact w_X5_put_38 C hml hr hlk h hS hW (lv_sub hl [0, 1, 2, 3, 4, 5] rfl)
      · have h := (if_neg c31).symm.trans h
        refine lv_iconst (v := (1 : Int32)) hx hb dX5_put_34 (by decide) ?_
        refine lv_goto (tgt := 39) hx hb dX5_put_35 (by decide) ?_
        exact w_X5_put_39 C hml hr hlk h hS hW (lv_sub hl [0, 1, 2, 3, 4, 5] rfl)
def f_X5_put (M : Mem) (x1 : Int32) (x2 : Int32) (x3 : Int32) (x4 : Int32) (x5 : Int32) : Option (Int32 × Mem) := f_X5_put_0 M x1 x2 x3 x4 x5
set_option maxHeartbeats 4000000 in
set_option maxRecDepth 100000 in
theorem c_X5_put {l : Launch} {Z : Zt} {b : Nat} {M : Mem} {x1 : Int32} {x2 : Int32} {x3 : Int32} {x4 : Int32} {x5 : Int32} {r' : Int32} {M' : Mem} (h : f_X5_put M x1 x2 x3 x4 x5 = some (r', M')) : Ct l yX5_put cX5_put 9 (some .int) rm_X5_put Z b [.ref (b + 156), .int x1, .int x2, .int x3, .int x4, .int x5] M (some (.int r')) M' := by
  refine Met.ofW (cc := cX5_put) (maxL := 9) (ret := (some .int)) (by decide) rfl ?_
  intro p e s m args below meth c s₁ B hml hv
  obtain ⟨rfl, hE, hW⟩ := hv
  have C : Cx p s m [.ref (b + 156), .int x1, .int x2, .int x3, .int x4, .int x5].toArray c cX5_put RX5 Z b := ⟨B.exec, B.bytes, findClass_of_methodNamed B.named, fun w hw => atoms_spec (ws := Cond.code yX5_put cX5_put 9 (some .int) :: wsA) B.pre w (List.mem_cons_of_mem _ hw), hE⟩
  have hl := lv_entry [.ref (b + 156), .int x1, .int x2, .int x3, .int x4, .int x5] (n := 9) (Nat.le_of_ble_eq_true rfl)
  rw [lg_entry_eq]
  generalize (lg_sl [.ref (b + 156), .int x1, .int x2, .int x3, .int x4, .int x5] ++ List.replicate (9 - (lg_sl [.ref (b + 156), .int x1, .int x2, .int x3, .int x4, .int x5]).length) Slot.unset).toArray = ls at hl ⊢
  have hl : lv_has ls 9 [(0, .ref (b + 156)), (1, .int x1), (2, .int x2), (3, .int x3), (4, .int x4), (5, .int x5)] := hl
  exact w_X5_put_0 C hml B.returns B.notSynchronized h va_S.rf hW hl
def f_X5_delete_281 (K212 : Mem → Int32 → Int32 → Option (Int32 × Mem)) (M : Mem) (x2 : Int32) (x5 : Int32) : Option (Int32 × Mem) :=
  K212 M x2 (x5 + 1)
set_option maxHeartbeats 4000000 in
set_option maxRecDepth 100000 in
theorem w_X5_delete_281 {p : Program} {l : Launch} {e : Env} {s : State} {m : MethodId} {args : Array Value} {below : List Frame} {meth : Method} {c : Code} {Z : Zt} {b : Nat} (C : Cx p s m args c cX5_delete RX5 Z b) (hml : c.maxLocals = 7) (hr : meth.sig.returnType = (some .int)) (hlk : meth.locks = false) {r' : Int32} {M' : Mem} {K212 : Mem → Int32 → Int32 → Option (Int32 × Mem)} (hK212 : ∀ {M : Mem} {x2 : Int32} {x5 : Int32} (h : K212 M x2 x5 = some (r', M')) {H : Heap} {locs : List Loc} {ls : Array Slot} (hS : va_S (A0 b) s.heap H locs) (hW : Wd Z b M H) (hl : lv_has ls 7 [(0, .ref (b + 156)), (2, .int x2), (5, .int x5)]), W p l e rm_X5_delete s m args below meth c H locs 0 0 (MQ below (Qn Z b (some (.int r')) M') args s 0 0 (A0 b)) (F0 m 212 ls [])) {M : Mem} {x2 : Int32} {x5 : Int32} (h : f_X5_delete_281 K212 M x2 x5 = some (r', M')) {H : Heap} {locs : List Loc} {ls : Array Slot} (hS : va_S (A0 b) s.heap H locs) (hW : Wd Z b M H) (hl : lv_has ls 7 [(0, .ref (b + 156)), (2, .int x2), (5, .int x5)]) : W p l e rm_X5_delete s m args below meth c H locs 0 0 (MQ below (Qn Z b (some (.int r')) M') args s 0 0 (A0 b)) (F0 m 281 ls []) := by
  unfold f_X5_delete_281 at h
  have hx := C.1
  have hb := C.2.1
  refine lv_iinc (v := x5 + 1) (lv' := [(5, .int (x5 + 1)), (0, .ref (b + 156)), (2, .int x2)]) hx hb dX5_delete_281 hl (k := 2) rfl rfl (by decide) rfl (fun ls hl => ?_)
  refine lv_goto (tgt := 212) hx hb dX5_delete_284 (by decide) ?_
  exact hK212 h hS hW (lv_sub hl [1, 2, 0] rfl)
def f_X5_delete_255 (K212 : Mem → Int32 → Int32 → Option (Int32 × Mem)) (M : Mem) (x2 : Int32) (x5 : Int32) : Option (Int32 × Mem) :=
  bd2 (f_X5_isOf M x5 x2) (fun r259 M259 => if r259 = 0 then f_X5_delete_281 K212 M259 x2 x5 else if x5 < 0 ∨ 60 ≤ x5.toNatClampNeg then none else if (M259 37 x5.toNatClampNeg) = 0 then bd1 (f_X5_goes M259 x5) (fun M278 => f_X5_delete_281 K212 M278 x2 x5) else f_X5_delete_281 K212 M259 x2 x5)
set_option maxHeartbeats 4000000 in
set_option maxRecDepth 100000 in
theorem w_X5_delete_255 {p : Program} {l : Launch} {e : Env} {s : State} {m : MethodId} {args : Array Value} {below : List Frame} {meth : Method} {c : Code} {Z : Zt} {b : Nat} (C : Cx p s m args c cX5_delete RX5 Z b) (hml : c.maxLocals = 7) (hr : meth.sig.returnType = (some .int)) (hlk : meth.locks = false) {r' : Int32} {M' : Mem} {K212 : Mem → Int32 → Int32 → Option (Int32 × Mem)} (hK212 : ∀ {M : Mem} {x2 : Int32} {x5 : Int32} (h : K212 M x2 x5 = some (r', M')) {H : Heap} {locs : List Loc} {ls : Array Slot} (hS : va_S (A0 b) s.heap H locs) (hW : Wd Z b M H) (hl : lv_has ls 7 [(0, .ref (b + 156)), (2, .int x2), (5, .int x5)]), W p l e rm_X5_delete s m args below meth c H locs 0 0 (MQ below (Qn Z b (some (.int r')) M') args s 0 0 (A0 b)) (F0 m 212 ls [])) {M : Mem} {x2 : Int32} {x5 : Int32} (h : f_X5_delete_255 K212 M x2 x5 = some (r', M')) {H : Heap} {locs : List Loc} {ls : Array Slot} (hS : va_S (A0 b) s.heap H locs) (hW : Wd Z b M H) (hl : lv_has ls 7 [(0, .ref (b + 156)), (2, .int x2), (5, .int x5)]) : W p l e rm_X5_delete s m args below meth c H locs 0 0 (MQ below (Qn Z b (some (.int r')) M') args s 0 0 (A0 b)) (F0 m 255 ls []) := by
  unfold f_X5_delete_255 at h
  have hx := C.1
  have hb := C.2.1
  refine lv_aload_n hx hb dX5_delete_255 rfl (lv_at hl 0 rfl) ?_
  refine lv_iload hx hb dX5_delete_256 (lv_at hl 2 rfl) ?_
  refine lv_iload_n hx hb dX5_delete_258 rfl (lv_at hl 1 rfl) ?_
  obtain ⟨r259, M259, hc259, h⟩ := bd2_e h
  refine kX5_100 C hml hl.1 (c_X5_isOf hc259) ⟨Nat.le_of_ble_eq_true rfl, Nat.le_of_ble_eq_true rfl⟩ ⟨Nat.le_of_ble_eq_true rfl, Nat.le_of_ble_eq_true rfl⟩ (Nat.le_of_ble_eq_true rfl) hS hW dX5_delete_259 (fun H locs hW hS => ?_)
  refine lv_if_eq (tgt := 281) hx hb dX5_delete_262 (by decide) (fun c262 => ?_) (fun c262 => ?_)
  · have h := (if_pos c262).symm.trans h
    exact w_X5_delete_281 C hml hr hlk hK212 h hS hW (lv_sub hl [0, 1, 2] rfl)
  · have h := (if_neg c262).symm.trans h
    refine lv_aload_n hx hb dX5_delete_265 rfl (lv_at hl 0 rfl) ?_
    refine gX5_50 C hW dX5_delete_266 ?_
    refine lv_iload hx hb dX5_delete_269 (lv_at hl 2 rfl) ?_
    obtain ⟨g271, h⟩ := gd h
    refine ald_170 C hW g271 dX5_delete_271 ?_
    refine lv_if_ne (tgt := 281) hx hb dX5_delete_272 (by decide) (fun c272 => ?_) (fun c272 => ?_)
    · have h := (if_neg c272).symm.trans h
      exact w_X5_delete_281 C hml hr hlk hK212 h hS hW (lv_sub hl [0, 1, 2] rfl)
    · have h := (if_pos c272).symm.trans h
      refine lv_aload_n hx hb dX5_delete_275 rfl (lv_at hl 0 rfl) ?_
      refine lv_iload hx hb dX5_delete_276 (lv_at hl 2 rfl) ?_
      obtain ⟨M278, hc278, h⟩ := bd1_e h
      refine kX5_130 C hml hl.1 (c_X5_goes hc278) ⟨Nat.le_of_ble_eq_true rfl, Nat.le_of_ble_eq_true rfl⟩ ⟨Nat.le_of_ble_eq_true rfl, Nat.le_of_ble_eq_true rfl⟩ (Nat.le_of_ble_eq_true rfl) hS hW dX5_delete_278 (fun H locs hW hS => ?_)
      exact w_X5_delete_281 C hml hr hlk hK212 h hS hW (lv_sub hl [0, 1, 2] rfl)
def f_X5_delete_212B (K212 : Mem → Int32 → Int32 → Option (Int32 × Mem)) (M : Mem) (x2 : Int32) (x5 : Int32) : Option (Int32 × Mem) :=
  if (60 : Int32) ≤ x5 then (if (M 35 0) ≤ 0 then some ((0 : Int32), M) else some ((6 : Int32), M)) else if x5 < 0 ∨ 60 ≤ x5.toNatClampNeg then none else if (M 38 x5.toNatClampNeg) = 0 then f_X5_delete_255 K212 M x2 x5 else if x5 < 0 ∨ 60 ≤ x5.toNatClampNeg then none else if (M 35 0) < 0 ∨ 60 ≤ (M 35 0).toNatClampNeg then none else f_X5_delete_255 K212 (mu (mu M 36 (M 35 0).toNatClampNeg (M 21 x5.toNatClampNeg)) 35 0 (((mu M 36 (M 35 0).toNatClampNeg (M 21 x5.toNatClampNeg)) 35 0) + (1 : Int32))) x2 x5
def f_X5_delete_212 : Nat → Mem → Int32 → Int32 → Option (Int32 × Mem)
  | 0 => fun _ _ _ => none
  | n + 1 => f_X5_delete_212B (f_X5_delete_212 n)
set_option maxHeartbeats 4000000 in
set_option maxRecDepth 100000 in
theorem w_X5_delete_212 {p : Program} {l : Launch} {e : Env} {s : State} {m : MethodId} {args : Array Value} {below : List Frame} {meth : Method} {c : Code} {Z : Zt} {b : Nat} (C : Cx p s m args c cX5_delete RX5 Z b) (hml : c.maxLocals = 7) (hr : meth.sig.returnType = (some .int)) (hlk : meth.locks = false) {r' : Int32} {M' : Mem} : ∀ (n : Nat) {M : Mem} {x2 : Int32} {x5 : Int32} (h : f_X5_delete_212 n M x2 x5 = some (r', M')) {H : Heap} {locs : List Loc} {ls : Array Slot} (hS : va_S (A0 b) s.heap H locs) (hW : Wd Z b M H) (hl : lv_has ls 7 [(0, .ref (b + 156)), (2, .int x2), (5, .int x5)]), W p l e rm_X5_delete s m args below meth c H locs 0 0 (MQ below (Qn Z b (some (.int r')) M') args s 0 0 (A0 b)) (F0 m 212 ls []) := by
  intro n
  induction n with
  | zero =>
    intro M x2 x5 h
    cases h
  | succ n ih =>
    intro M x2 x5 h H locs ls hS hW hl
    have h : f_X5_delete_212B (f_X5_delete_212 n) M x2 x5 = some (r', M') := h
    unfold f_X5_delete_212B at h
    have hK212 := @ih
    have hx := C.1
    have hb := C.2.1
    refine lv_iload hx hb dX5_delete_212 (lv_at hl 2 rfl) ?_
    refine lv_bipush (v := (60 : Int32)) hx hb dX5_delete_214 (by decide) ?_
    refine lv_icmp_ge (tgt := 287) hx hb dX5_delete_216 (by decide) (fun c216 => ?_) (fun c216 => ?_)
    · have h := (if_pos c216).symm.trans h
      refine lv_aload_n hx hb dX5_delete_287 rfl (lv_at hl 0 rfl) ?_
      refine gX5_127 C hW dX5_delete_288 ?_
      refine lv_if_le (tgt := 299) hx hb dX5_delete_291 (by decide) (fun c291 => ?_) (fun c291 => ?_)
      · have h := (if_pos c291).symm.trans h
        refine lv_iconst (v := (0 : Int32)) hx hb dX5_delete_299 (by decide) ?_
        cases h
        exact ret_i C hr hlk hS hW dX5_delete_300
      · have h := (if_neg c291).symm.trans h
        refine lv_bipush (v := (6 : Int32)) hx hb dX5_delete_294 (by decide) ?_
        refine lv_goto (tgt := 300) hx hb dX5_delete_296 (by decide) ?_
        cases h
        exact ret_i C hr hlk hS hW dX5_delete_300
    · have h := (if_neg c216).symm.trans h
      refine lv_aload_n hx hb dX5_delete_219 rfl (lv_at hl 0 rfl) ?_
      refine gX5_53 C hW dX5_delete_220 ?_
      refine lv_iload hx hb dX5_delete_223 (lv_at hl 2 rfl) ?_
      obtain ⟨g225, h⟩ := gd h
      refine ald_171 C hW g225 dX5_delete_225 ?_
      refine lv_if_eq (tgt := 255) hx hb dX5_delete_226 (by decide) (fun c226 => ?_) (fun c226 => ?_)
      · have h := (if_pos c226).symm.trans h
        exact w_X5_delete_255 C hml hr hlk hK212 h hS hW (lv_sub hl [0, 1, 2] rfl)
      · have h := (if_neg c226).symm.trans h
        refine lv_aload_n hx hb dX5_delete_229 rfl (lv_at hl 0 rfl) ?_
        refine gX5_47 C hW dX5_delete_230 ?_
        refine lv_aload_n hx hb dX5_delete_233 rfl (lv_at hl 0 rfl) ?_
        refine gX5_127 C hW dX5_delete_234 ?_
        refine lv_aload_n hx hb dX5_delete_237 rfl (lv_at hl 0 rfl) ?_
        refine gX5_13 C hW dX5_delete_238 ?_
        refine lv_iload hx hb dX5_delete_241 (lv_at hl 2 rfl) ?_
        obtain ⟨g243, h⟩ := gd h
        refine ald_158 C hW g243 dX5_delete_243 ?_
        obtain ⟨g244, h⟩ := gd h
        refine ast_169 C hS hW g244 dX5_delete_244 (fun H locs hW hS => ?_)
        refine lv_aload_n hx hb dX5_delete_245 rfl (lv_at hl 0 rfl) ?_
        refine lv_dup hx hb dX5_delete_246 rfl ?_
        refine gX5_127 C hW dX5_delete_247 ?_
        refine lv_iconst (v := (1 : Int32)) hx hb dX5_delete_250 (by decide) ?_
        refine lv_iadd hx hb dX5_delete_251 ?_
        refine pX5_127 C hS hW dX5_delete_252 (fun H locs hW hS => ?_)
        exact w_X5_delete_255 C hml hr hlk hK212 h hS hW (lv_sub hl [0, 1, 2] rfl)
def f_X5_delete_195 (K111 : Mem → Int32 → Int32 → Option (Int32 × Mem)) (K135 : Mem → Int32 → Int32 → Int32 → Option (Int32 × Mem)) (M : Mem) (x2 : Int32) (x5 : Int32) (x6 : Int32) (xs1 : Int32) (xs2 : Int32) (xs3 : Int32) : Option (Int32 × Mem) :=
  if xs1 < 0 ∨ 60 ≤ xs1.toNatClampNeg then none else K135 (mu M 37 xs1.toNatClampNeg ((xs2 ||| xs3) &&& 1)) x2 x5 (x6 + 1)
set_option maxHeartbeats 4000000 in
set_option maxRecDepth 100000 in
theorem w_X5_delete_195 {p : Program} {l : Launch} {e : Env} {s : State} {m : MethodId} {args : Array Value} {below : List Frame} {meth : Method} {c : Code} {Z : Zt} {b : Nat} (C : Cx p s m args c cX5_delete RX5 Z b) (hml : c.maxLocals = 7) (hr : meth.sig.returnType = (some .int)) (hlk : meth.locks = false) {r' : Int32} {M' : Mem} {K111 : Mem → Int32 → Int32 → Option (Int32 × Mem)} (hK111 : ∀ {M : Mem} {x2 : Int32} {x5 : Int32} (h : K111 M x2 x5 = some (r', M')) {H : Heap} {locs : List Loc} {ls : Array Slot} (hS : va_S (A0 b) s.heap H locs) (hW : Wd Z b M H) (hl : lv_has ls 7 [(0, .ref (b + 156)), (2, .int x2), (5, .int x5)]), W p l e rm_X5_delete s m args below meth c H locs 0 0 (MQ below (Qn Z b (some (.int r')) M') args s 0 0 (A0 b)) (F0 m 111 ls [])) {K135 : Mem → Int32 → Int32 → Int32 → Option (Int32 × Mem)} (hK135 : ∀ {M : Mem} {x2 : Int32} {x5 : Int32} {x6 : Int32} (h : K135 M x2 x5 x6 = some (r', M')) {H : Heap} {locs : List Loc} {ls : Array Slot} (hS : va_S (A0 b) s.heap H locs) (hW : Wd Z b M H) (hl : lv_has ls 7 [(0, .ref (b + 156)), (2, .int x2), (5, .int x5), (6, .int x6)]), W p l e rm_X5_delete s m args below meth c H locs 0 0 (MQ below (Qn Z b (some (.int r')) M') args s 0 0 (A0 b)) (F0 m 135 ls [])) {M : Mem} {x2 : Int32} {x5 : Int32} {x6 : Int32} {xs1 : Int32} {xs2 : Int32} {xs3 : Int32} (h : f_X5_delete_195 K111 K135 M x2 x5 x6 xs1 xs2 xs3 = some (r', M')) {H : Heap} {locs : List Loc} {ls : Array Slot} (hS : va_S (A0 b) s.heap H locs) (hW : Wd Z b M H) (hl : lv_has ls 7 [(0, .ref (b + 156)), (2, .int x2), (5, .int x5), (6, .int x6)]) : W p l e rm_X5_delete s m args below meth c H locs 0 0 (MQ below (Qn Z b (some (.int r')) M') args s 0 0 (A0 b)) (F0 m 195 ls [.int xs3, .int xs2, .int xs1, .ref (b + 170)]) := by
  unfold f_X5_delete_195 at h
  have hx := C.1
  have hb := C.2.1
  refine lv_ior hx hb dX5_delete_195 ?_
  obtain ⟨g196, h⟩ := gd h
  refine ast_170 C hS hW g196 dX5_delete_196 (fun H locs hW hS => ?_)
  refine lv_iinc (v := x6 + 1) (lv' := [(6, .int (x6 + 1)), (0, .ref (b + 156)), (2, .int x2), (5, .int x5)]) hx hb dX5_delete_197 hl (k := 3) rfl rfl (by decide) rfl (fun ls hl => ?_)
  refine lv_goto (tgt := 135) hx hb dX5_delete_200 (by decide) ?_
  exact hK135 h hS hW (lv_sub hl [1, 2, 3, 0] rfl)
def f_X5_delete_194 (K111 : Mem → Int32 → Int32 → Option (Int32 × Mem)) (K135 : Mem → Int32 → Int32 → Int32 → Option (Int32 × Mem)) (M : Mem) (x2 : Int32) (x5 : Int32) (x6 : Int32) (xs1 : Int32) (xs2 : Int32) : Option (Int32 × Mem) :=
  f_X5_delete_195 K111 K135 M x2 x5 x6 xs1 xs2 (0 : Int32)
set_option maxHeartbeats 4000000 in
set_option maxRecDepth 100000 in
theorem w_X5_delete_194 {p : Program} {l : Launch} {e : Env} {s : State} {m : MethodId} {args : Array Value} {below : List Frame} {meth : Method} {c : Code} {Z : Zt} {b : Nat} (C : Cx p s m args c cX5_delete RX5 Z b) (hml : c.maxLocals = 7) (hr : meth.sig.returnType = (some .int)) (hlk : meth.locks = false) {r' : Int32} {M' : Mem} {K111 : Mem → Int32 → Int32 → Option (Int32 × Mem)} (hK111 : ∀ {M : Mem} {x2 : Int32} {x5 : Int32} (h : K111 M x2 x5 = some (r', M')) {H : Heap} {locs : List Loc} {ls : Array Slot} (hS : va_S (A0 b) s.heap H locs) (hW : Wd Z b M H) (hl : lv_has ls 7 [(0, .ref (b + 156)), (2, .int x2), (5, .int x5)]), W p l e rm_X5_delete s m args below meth c H locs 0 0 (MQ below (Qn Z b (some (.int r')) M') args s 0 0 (A0 b)) (F0 m 111 ls [])) {K135 : Mem → Int32 → Int32 → Int32 → Option (Int32 × Mem)} (hK135 : ∀ {M : Mem} {x2 : Int32} {x5 : Int32} {x6 : Int32} (h : K135 M x2 x5 x6 = some (r', M')) {H : Heap} {locs : List Loc} {ls : Array Slot} (hS : va_S (A0 b) s.heap H locs) (hW : Wd Z b M H) (hl : lv_has ls 7 [(0, .ref (b + 156)), (2, .int x2), (5, .int x5), (6, .int x6)]), W p l e rm_X5_delete s m args below meth c H locs 0 0 (MQ below (Qn Z b (some (.int r')) M') args s 0 0 (A0 b)) (F0 m 135 ls [])) {M : Mem} {x2 : Int32} {x5 : Int32} {x6 : Int32} {xs1 : Int32} {xs2 : Int32} (h : f_X5_delete_194 K111 K135 M x2 x5 x6 xs1 xs2 = some (r', M')) {H : Heap} {locs : List Loc} {ls : Array Slot} (hS : va_S (A0 b) s.heap H locs) (hW : Wd Z b M H) (hl : lv_has ls 7 [(0, .ref (b + 156)), (2, .int x2), (5, .int x5), (6, .int x6)]) : W p l e rm_X5_delete s m args below meth c H locs 0 0 (MQ below (Qn Z b (some (.int r')) M') args s 0 0 (A0 b)) (F0 m 194 ls [.int xs2, .int xs1, .ref (b + 170)]) := by
  unfold f_X5_delete_194 at h
  have hx := C.1
  have hb := C.2.1
  refine lv_iconst (v := (0 : Int32)) hx hb dX5_delete_194 (by decide) ?_
  exact w_X5_delete_195 C hml hr hlk hK111 hK135 h hS hW (lv_sub hl [0, 1, 2, 3] rfl)
def f_X5_delete_135B (K111 : Mem → Int32 → Int32 → Option (Int32 × Mem)) (K135 : Mem → Int32 → Int32 → Int32 → Option (Int32 × Mem)) (M : Mem) (x2 : Int32) (x5 : Int32) (x6 : Int32) : Option (Int32 × Mem) :=
  if (60 : Int32) ≤ x6 then K111 M x2 (x5 + 1) else if x5 < 0 ∨ 60 ≤ x5.toNatClampNeg then none else bd2 (f_X5_isOf M x5 x2) (fun r154 M154 => if r154 = 0 then f_X5_delete_194 K111 K135 M154 x2 x5 x6 x5 (M 37 x5.toNatClampNeg) else if x6 < 0 ∨ 60 ≤ x6.toNatClampNeg then none else if (M154 38 x6.toNatClampNeg) = 0 then f_X5_delete_194 K111 K135 M154 x2 x5 x6 x5 (M 37 x5.toNatClampNeg) else if x5 < 0 ∨ 60 ≤ x5.toNatClampNeg then none else if x6 < 0 ∨ 60 ≤ x6.toNatClampNeg then none else bd2 (f_X5_isAbove M154 (M154 21 x5.toNatClampNeg) (M154 21 x6.toNatClampNeg)) (fun r184 M184 => if r184 = 0 then f_X5_delete_194 K111 K135 M184 x2 x5 x6 x5 (M 37 x5.toNatClampNeg) else f_X5_delete_195 K111 K135 M184 x2 x5 x6 x5 (M 37 x5.toNatClampNeg) (1 : Int32)))
def f_X5_delete_135 (K111 : Mem → Int32 → Int32 → Option (Int32 × Mem)) : Nat → Mem → Int32 → Int32 → Int32 → Option (Int32 × Mem)
  | 0 => fun _ _ _ _ => none
  | n + 1 => f_X5_delete_135B K111 (f_X5_delete_135 K111 n)
set_option maxHeartbeats 4000000 in
set_option maxRecDepth 100000 in
theorem w_X5_delete_135 {p : Program} {l : Launch} {e : Env} {s : State} {m : MethodId} {args : Array Value} {below : List Frame} {meth : Method} {c : Code} {Z : Zt} {b : Nat} (C : Cx p s m args c cX5_delete RX5 Z b) (hml : c.maxLocals = 7) (hr : meth.sig.returnType = (some .int)) (hlk : meth.locks = false) {r' : Int32} {M' : Mem} {K111 : Mem → Int32 → Int32 → Option (Int32 × Mem)} (hK111 : ∀ {M : Mem} {x2 : Int32} {x5 : Int32} (h : K111 M x2 x5 = some (r', M')) {H : Heap} {locs : List Loc} {ls : Array Slot} (hS : va_S (A0 b) s.heap H locs) (hW : Wd Z b M H) (hl : lv_has ls 7 [(0, .ref (b + 156)), (2, .int x2), (5, .int x5)]), W p l e rm_X5_delete s m args below meth c H locs 0 0 (MQ below (Qn Z b (some (.int r')) M') args s 0 0 (A0 b)) (F0 m 111 ls [])) : ∀ (n : Nat) {M : Mem} {x2 : Int32} {x5 : Int32} {x6 : Int32} (h : f_X5_delete_135 K111 n M x2 x5 x6 = some (r', M')) {H : Heap} {locs : List Loc} {ls : Array Slot} (hS : va_S (A0 b) s.heap H locs) (hW : Wd Z b M H) (hl : lv_has ls 7 [(0, .ref (b + 156)), (2, .int x2), (5, .int x5), (6, .int x6)]), W p l e rm_X5_delete s m args below meth c H locs 0 0 (MQ below (Qn Z b (some (.int r')) M') args s 0 0 (A0 b)) (F0 m 135 ls []) := by
  intro n
  induction n with
  | zero =>
    intro M x2 x5 x6 h
    cases h
  | succ n ih =>
    intro M x2 x5 x6 h H locs ls hS hW hl
    have h : f_X5_delete_135B K111 (f_X5_delete_135 K111 n) M x2 x5 x6 = some (r', M') := h
    unfold f_X5_delete_135B at h
    have hK135 := @ih
    have hx := C.1
    have hb := C.2.1
    refine lv_iload hx hb dX5_delete_135 (lv_at hl 3 rfl) ?_
    refine lv_bipush (v := (60 : Int32)) hx hb dX5_delete_137 (by decide) ?_
    refine lv_icmp_ge (tgt := 203) hx hb dX5_delete_139 (by decide) (fun c139 => ?_) (fun c139 => ?_)
    · have h := (if_pos c139).symm.trans h
      refine lv_iinc (v := x5 + 1) (lv' := [(5, .int (x5 + 1)), (0, .ref (b + 156)), (2, .int x2), (6, .int x6)]) hx hb dX5_delete_203 hl (k := 2) rfl rfl (by decide) rfl (fun ls hl => ?_)
      refine lv_goto (tgt := 111) hx hb dX5_delete_206 (by decide) ?_
      exact hK111 h hS hW (lv_sub hl [1, 2, 0] rfl)
    · have h := (if_neg c139).symm.trans h
      refine lv_aload_n hx hb dX5_delete_142 rfl (lv_at hl 0 rfl) ?_
      refine gX5_50 C hW dX5_delete_143 ?_
      refine lv_iload hx hb dX5_delete_146 (lv_at hl 2 rfl) ?_
      refine lv_dup2_11 hx hb dX5_delete_148 rfl rfl ?_
      obtain ⟨g149, h⟩ := gd h
      refine ald_170 C hW g149 dX5_delete_149 ?_
      refine lv_aload_n hx hb dX5_delete_150 rfl (lv_at hl 0 rfl) ?_
      refine lv_iload hx hb dX5_delete_151 (lv_at hl 2 rfl) ?_
      refine lv_iload_n hx hb dX5_delete_153 rfl (lv_at hl 1 rfl) ?_
      obtain ⟨r154, M154, hc154, h⟩ := bd2_e h
      refine kX5_100 C hml hl.1 (c_X5_isOf hc154) ⟨Nat.le_of_ble_eq_true rfl, Nat.le_of_ble_eq_true rfl⟩ ⟨Nat.le_of_ble_eq_true rfl, Nat.le_of_ble_eq_true rfl⟩ (Nat.le_of_ble_eq_true rfl) hS hW dX5_delete_154 (fun H locs hW hS => ?_)
      refine lv_if_eq (tgt := 194) hx hb dX5_delete_157 (by decide) (fun c157 => ?_) (fun c157 => ?_)
      · have h := (if_pos c157).symm.trans h
        exact w_X5_delete_194 C hml hr hlk hK111 hK135 h hS hW (lv_sub hl [0, 1, 2, 3] rfl)
      · have h := (if_neg c157).symm.trans h
        refine lv_aload_n hx hb dX5_delete_160 rfl (lv_at hl 0 rfl) ?_
        refine gX5_53 C hW dX5_delete_161 ?_
        refine lv_iload hx hb dX5_delete_164 (lv_at hl 3 rfl) ?_
        obtain ⟨g166, h⟩ := gd h
        refine ald_171 C hW g166 dX5_delete_166 ?_
        refine lv_if_eq (tgt := 194) hx hb dX5_delete_167 (by decide) (fun c167 => ?_) (fun c167 => ?_)
        · have h := (if_pos c167).symm.trans h
          exact w_X5_delete_194 C hml hr hlk hK111 hK135 h hS hW (lv_sub hl [0, 1, 2, 3] rfl)
        · have h := (if_neg c167).symm.trans h
          refine lv_aload_n hx hb dX5_delete_170 rfl (lv_at hl 0 rfl) ?_
          refine gX5_13 C hW dX5_delete_171 ?_
          refine lv_iload hx hb dX5_delete_174 (lv_at hl 2 rfl) ?_
          obtain ⟨g176, h⟩ := gd h
          refine ald_158 C hW g176 dX5_delete_176 ?_
          refine lv_aload_n hx hb dX5_delete_177 rfl (lv_at hl 0 rfl) ?_
          refine gX5_13 C hW dX5_delete_178 ?_
          refine lv_iload hx hb dX5_delete_181 (lv_at hl 3 rfl) ?_
          obtain ⟨g183, h⟩ := gd h
          refine ald_158 C hW g183 dX5_delete_183 ?_
          obtain ⟨r184, M184, hc184, h⟩ := bd2_e h
          refine kX5_78 C hml hl.1 (c_X5_isAbove hc184) ⟨Nat.le_of_ble_eq_true rfl, Nat.le_of_ble_eq_true rfl⟩ ⟨Nat.le_of_ble_eq_true rfl, Nat.le_of_ble_eq_true rfl⟩ (Nat.le_of_ble_eq_true rfl) hS hW dX5_delete_184 (fun H locs hW hS => ?_)
          refine lv_if_eq (tgt := 194) hx hb dX5_delete_187 (by decide) (fun c187 => ?_) (fun c187 => ?_)
          · have h := (if_pos c187).symm.trans h
            exact w_X5_delete_194 C hml hr hlk hK111 hK135 h hS hW (lv_sub hl [0, 1, 2, 3] rfl)
          · have h := (if_neg c187).symm.trans h
            refine lv_iconst (v := (1 : Int32)) hx hb dX5_delete_190 (by decide) ?_
            refine lv_goto (tgt := 195) hx hb dX5_delete_191 (by decide) ?_
            exact w_X5_delete_195 C hml hr hlk hK111 hK135 h hS hW (lv_sub hl [0, 1, 2, 3] rfl)
def f_X5_delete_111B (K111 : Mem → Int32 → Int32 → Option (Int32 × Mem)) (M : Mem) (x2 : Int32) (x5 : Int32) : Option (Int32 × Mem) :=
  if (60 : Int32) ≤ x5 then f_X5_delete_212 64 M x2 (0 : Int32) else if x5 < 0 ∨ 60 ≤ x5.toNatClampNeg then none else if x5 < 0 ∨ 60 ≤ x5.toNatClampNeg then none else f_X5_delete_135 K111 64 (mu M 37 x5.toNatClampNeg ((M 38 x5.toNatClampNeg) &&& 1)) x2 x5 (0 : Int32)
def f_X5_delete_111 : Nat → Mem → Int32 → Int32 → Option (Int32 × Mem)
  | 0 => fun _ _ _ => none
  | n + 1 => f_X5_delete_111B (f_X5_delete_111 n)
set_option maxHeartbeats 4000000 in
set_option maxRecDepth 100000 in
theorem w_X5_delete_111 {p : Program} {l : Launch} {e : Env} {s : State} {m : MethodId} {args : Array Value} {below : List Frame} {meth : Method} {c : Code} {Z : Zt} {b : Nat} (C : Cx p s m args c cX5_delete RX5 Z b) (hml : c.maxLocals = 7) (hr : meth.sig.returnType = (some .int)) (hlk : meth.locks = false) {r' : Int32} {M' : Mem} : ∀ (n : Nat) {M : Mem} {x2 : Int32} {x5 : Int32} (h : f_X5_delete_111 n M x2 x5 = some (r', M')) {H : Heap} {locs : List Loc} {ls : Array Slot} (hS : va_S (A0 b) s.heap H locs) (hW : Wd Z b M H) (hl : lv_has ls 7 [(0, .ref (b + 156)), (2, .int x2), (5, .int x5)]), W p l e rm_X5_delete s m args below meth c H locs 0 0 (MQ below (Qn Z b (some (.int r')) M') args s 0 0 (A0 b)) (F0 m 111 ls []) := by
  intro n
  induction n with
  | zero =>
    intro M x2 x5 h
    cases h
  | succ n ih =>
    intro M x2 x5 h H locs ls hS hW hl
    have h : f_X5_delete_111B (f_X5_delete_111 n) M x2 x5 = some (r', M') := h
    unfold f_X5_delete_111B at h
    have hK111 := @ih
    have hx := C.1
    have hb := C.2.1
    refine lv_iload hx hb dX5_delete_111 (lv_at hl 2 rfl) ?_
    refine lv_bipush (v := (60 : Int32)) hx hb dX5_delete_113 (by decide) ?_
    refine lv_icmp_ge (tgt := 209) hx hb dX5_delete_115 (by decide) (fun c115 => ?_) (fun c115 => ?_)
    · have h := (if_pos c115).symm.trans h
      refine lv_iconst (v := (0 : Int32)) hx hb dX5_delete_209 (by decide) ?_
      refine lv_istore (lv' := [(5, .int (0 : Int32)), (0, .ref (b + 156)), (2, .int x2)]) hx hb dX5_delete_210 hl (by decide) rfl (fun ls hl => ?_)
      exact w_X5_delete_212 C hml hr hlk 64 h hS hW (lv_sub hl [1, 2, 0] rfl)
    · have h := (if_neg c115).symm.trans h
      refine lv_aload_n hx hb dX5_delete_118 rfl (lv_at hl 0 rfl) ?_
      refine gX5_50 C hW dX5_delete_119 ?_
      refine lv_iload hx hb dX5_delete_122 (lv_at hl 2 rfl) ?_
      refine lv_aload_n hx hb dX5_delete_124 rfl (lv_at hl 0 rfl) ?_
      refine gX5_53 C hW dX5_delete_125 ?_
      refine lv_iload hx hb dX5_delete_128 (lv_at hl 2 rfl) ?_
      obtain ⟨g130, h⟩ := gd h
      refine ald_171 C hW g130 dX5_delete_130 ?_
      obtain ⟨g131, h⟩ := gd h
      refine ast_170 C hS hW g131 dX5_delete_131 (fun H locs hW hS => ?_)
      refine lv_iconst (v := (0 : Int32)) hx hb dX5_delete_132 (by decide) ?_
      refine lv_istore (lv' := [(6, .int (0 : Int32)), (0, .ref (b + 156)), (2, .int x2), (5, .int x5)]) hx hb dX5_delete_133 hl (by decide) rfl (fun ls hl => ?_)
      exact w_X5_delete_135 C hml hr hlk hK111 64 h hS hW (lv_sub hl [1, 2, 3, 0] rfl)
def f_X5_delete_101 (K57 : Mem → Int32 → Int32 → Int32 → Int32 → Option (Int32 × Mem)) (M : Mem) (x1 : Int32) (x2 : Int32) (x3 : Int32) (x5 : Int32) (xs1 : Int32) (xs2 : Int32) : Option (Int32 × Mem) :=
  if xs1 < 0 ∨ 60 ≤ xs1.toNatClampNeg then none else K57 (mu M 38 xs1.toNatClampNeg (xs2 &&& 1)) x1 x2 x3 (x5 + 1)
set_option maxHeartbeats 4000000 in
set_option maxRecDepth 100000 in
theorem w_X5_delete_101 {p : Program} {l : Launch} {e : Env} {s : State} {m : MethodId} {args : Array Value} {below : List Frame} {meth : Method} {c : Code} {Z : Zt} {b : Nat} (C : Cx p s m args c cX5_delete RX5 Z b) (hml : c.maxLocals = 7) (hr : meth.sig.returnType = (some .int)) (hlk : meth.locks = false) {r' : Int32} {M' : Mem} {K57 : Mem → Int32 → Int32 → Int32 → Int32 → Option (Int32 × Mem)} (hK57 : ∀ {M : Mem} {x1 : Int32} {x2 : Int32} {x3 : Int32} {x5 : Int32} (h : K57 M x1 x2 x3 x5 = some (r', M')) {H : Heap} {locs : List Loc} {ls : Array Slot} (hS : va_S (A0 b) s.heap H locs) (hW : Wd Z b M H) (hl : lv_has ls 7 [(0, .ref (b + 156)), (1, .int x1), (2, .int x2), (3, .int x3), (5, .int x5)]), W p l e rm_X5_delete s m args below meth c H locs 0 0 (MQ below (Qn Z b (some (.int r')) M') args s 0 0 (A0 b)) (F0 m 57 ls [])) {M : Mem} {x1 : Int32} {x2 : Int32} {x3 : Int32} {x5 : Int32} {xs1 : Int32} {xs2 : Int32} (h : f_X5_delete_101 K57 M x1 x2 x3 x5 xs1 xs2 = some (r', M')) {H : Heap} {locs : List Loc} {ls : Array Slot} (hS : va_S (A0 b) s.heap H locs) (hW : Wd Z b M H) (hl : lv_has ls 7 [(0, .ref (b + 156)), (1, .int x1), (2, .int x2), (3, .int x3), (5, .int x5)]) : W p l e rm_X5_delete s m args below meth c H locs 0 0 (MQ below (Qn Z b (some (.int r')) M') args s 0 0 (A0 b)) (F0 m 101 ls [.int xs2, .int xs1, .ref (b + 171)]) := by
  unfold f_X5_delete_101 at h
  have hx := C.1
  have hb := C.2.1
  obtain ⟨g101, h⟩ := gd h
  refine ast_171 C hS hW g101 dX5_delete_101 (fun H locs hW hS => ?_)
  refine lv_iinc (v := x5 + 1) (lv' := [(5, .int (x5 + 1)), (0, .ref (b + 156)), (1, .int x1), (2, .int x2), (3, .int x3)]) hx hb dX5_delete_102 hl (k := 4) rfl rfl (by decide) rfl (fun ls hl => ?_)
  refine lv_goto (tgt := 57) hx hb dX5_delete_105 (by decide) ?_
  exact hK57 h hS hW (lv_sub hl [1, 2, 3, 4, 0] rfl)
def f_X5_delete_100 (K57 : Mem → Int32 → Int32 → Int32 → Int32 → Option (Int32 × Mem)) (M : Mem) (x1 : Int32) (x2 : Int32) (x3 : Int32) (x5 : Int32) (xs1 : Int32) : Option (Int32 × Mem) :=
  f_X5_delete_101 K57 M x1 x2 x3 x5 xs1 (0 : Int32)
set_option maxHeartbeats 4000000 in
set_option maxRecDepth 100000 in
theorem w_X5_delete_100 {p : Program} {l : Launch} {e : Env} {s : State} {m : MethodId} {args : Array Value} {below : List Frame} {meth : Method} {c : Code} {Z : Zt} {b : Nat} (C : Cx p s m args c cX5_delete RX5 Z b) (hml : c.maxLocals = 7) (hr : meth.sig.returnType = (some .int)) (hlk : meth.locks = false) {r' : Int32} {M' : Mem} {K57 : Mem → Int32 → Int32 → Int32 → Int32 → Option (Int32 × Mem)} (hK57 : ∀ {M : Mem} {x1 : Int32} {x2 : Int32} {x3 : Int32} {x5 : Int32} (h : K57 M x1 x2 x3 x5 = some (r', M')) {H : Heap} {locs : List Loc} {ls : Array Slot} (hS : va_S (A0 b) s.heap H locs) (hW : Wd Z b M H) (hl : lv_has ls 7 [(0, .ref (b + 156)), (1, .int x1), (2, .int x2), (3, .int x3), (5, .int x5)]), W p l e rm_X5_delete s m args below meth c H locs 0 0 (MQ below (Qn Z b (some (.int r')) M') args s 0 0 (A0 b)) (F0 m 57 ls [])) {M : Mem} {x1 : Int32} {x2 : Int32} {x3 : Int32} {x5 : Int32} {xs1 : Int32} (h : f_X5_delete_100 K57 M x1 x2 x3 x5 xs1 = some (r', M')) {H : Heap} {locs : List Loc} {ls : Array Slot} (hS : va_S (A0 b) s.heap H locs) (hW : Wd Z b M H) (hl : lv_has ls 7 [(0, .ref (b + 156)), (1, .int x1), (2, .int x2), (3, .int x3), (5, .int x5)]) : W p l e rm_X5_delete s m args below meth c H locs 0 0 (MQ below (Qn Z b (some (.int r')) M') args s 0 0 (A0 b)) (F0 m 100 ls [.int xs1, .ref (b + 171)]) := by
  unfold f_X5_delete_100 at h
  have hx := C.1
  have hb := C.2.1
  refine lv_iconst (v := (0 : Int32)) hx hb dX5_delete_100 (by decide) ?_
  exact w_X5_delete_101 C hml hr hlk hK57 h hS hW (lv_sub hl [0, 1, 2, 3, 4] rfl)
def f_X5_delete_57B (K57 : Mem → Int32 → Int32 → Int32 → Int32 → Option (Int32 × Mem)) (M : Mem) (x1 : Int32) (x2 : Int32) (x3 : Int32) (x5 : Int32) : Option (Int32 × Mem) :=
  if (60 : Int32) ≤ x5 then f_X5_delete_111 64 M x2 (0 : Int32) else bd2 (f_X5_isOf M x5 x2) (fun r74 M74 => if r74 = 0 then f_X5_delete_100 K57 M74 x1 x2 x3 x5 x5 else if x5 < 0 ∨ 60 ≤ x5.toNatClampNeg then none else bd2 (f_X5_may M74 x1 (M74 21 x5.toNatClampNeg) x3) (fun r90 M90 => if r90 = 0 then f_X5_delete_101 K57 M90 x1 x2 x3 x5 x5 (1 : Int32) else f_X5_delete_100 K57 M90 x1 x2 x3 x5 x5))
def f_X5_delete_57 : Nat → Mem → Int32 → Int32 → Int32 → Int32 → Option (Int32 × Mem)
  | 0 => fun _ _ _ _ _ => none
  | n + 1 => f_X5_delete_57B (f_X5_delete_57 n)
set_option maxHeartbeats 4000000 in
set_option maxRecDepth 100000 in
theorem w_X5_delete_57 {p : Program} {l : Launch} {e : Env} {s : State} {m : MethodId} {args : Array Value} {below : List Frame} {meth : Method} {c : Code} {Z : Zt} {b : Nat} (C : Cx p s m args c cX5_delete RX5 Z b) (hml : c.maxLocals = 7) (hr : meth.sig.returnType = (some .int)) (hlk : meth.locks = false) {r' : Int32} {M' : Mem} : ∀ (n : Nat) {M : Mem} {x1 : Int32} {x2 : Int32} {x3 : Int32} {x5 : Int32} (h : f_X5_delete_57 n M x1 x2 x3 x5 = some (r', M')) {H : Heap} {locs : List Loc} {ls : Array Slot} (hS : va_S (A0 b) s.heap H locs) (hW : Wd Z b M H) (hl : lv_has ls 7 [(0, .ref (b + 156)), (1, .int x1), (2, .int x2), (3, .int x3), (5, .int x5)]), W p l e rm_X5_delete s m args below meth c H locs 0 0 (MQ below (Qn Z b (some (.int r')) M') args s 0 0 (A0 b)) (F0 m 57 ls []) := by
  intro n
  induction n with
  | zero =>
    intro M x1 x2 x3 x5 h
    cases h
  | succ n ih =>
    intro M x1 x2 x3 x5 h H locs ls hS hW hl
    have h : f_X5_delete_57B (f_X5_delete_57 n) M x1 x2 x3 x5 = some (r', M') := h
    unfold f_X5_delete_57B at h
    have hK57 := @ih
    have hx := C.1
    have hb := C.2.1
    refine lv_iload hx hb dX5_delete_57 (lv_at hl 4 rfl) ?_
    refine lv_bipush (v := (60 : Int32)) hx hb dX5_delete_59 (by decide) ?_
    refine lv_icmp_ge (tgt := 108) hx hb dX5_delete_61 (by decide) (fun c61 => ?_) (fun c61 => ?_)
    · have h := (if_pos c61).symm.trans h
      refine lv_iconst (v := (0 : Int32)) hx hb dX5_delete_108 (by decide) ?_
      refine lv_istore (lv' := [(5, .int (0 : Int32)), (0, .ref (b + 156)), (1, .int x1), (2, .int x2), (3, .int x3)]) hx hb dX5_delete_109 hl (by decide) rfl (fun ls hl => ?_)
      exact w_X5_delete_111 C hml hr hlk 64 h hS hW (lv_sub hl [1, 3, 0] rfl)
    · have h := (if_neg c61).symm.trans h
      refine lv_aload_n hx hb dX5_delete_64 rfl (lv_at hl 0 rfl) ?_
      refine gX5_53 C hW dX5_delete_65 ?_
      refine lv_iload hx hb dX5_delete_68 (lv_at hl 4 rfl) ?_
      refine lv_aload_n hx hb dX5_delete_70 rfl (lv_at hl 0 rfl) ?_
      refine lv_iload hx hb dX5_delete_71 (lv_at hl 4 rfl) ?_
      refine lv_iload_n hx hb dX5_delete_73 rfl (lv_at hl 2 rfl) ?_
      obtain ⟨r74, M74, hc74, h⟩ := bd2_e h
      refine kX5_100 C hml hl.1 (c_X5_isOf hc74) ⟨Nat.le_of_ble_eq_true rfl, Nat.le_of_ble_eq_true rfl⟩ ⟨Nat.le_of_ble_eq_true rfl, Nat.le_of_ble_eq_true rfl⟩ (Nat.le_of_ble_eq_true rfl) hS hW dX5_delete_74 (fun H locs hW hS => ?_)
      refine lv_if_eq (tgt := 100) hx hb dX5_delete_77 (by decide) (fun c77 => ?_) (fun c77 => ?_)
      · have h := (if_pos c77).symm.trans h
        exact w_X5_delete_100 C hml hr hlk hK57 h hS hW (lv_sub hl [0, 1, 2, 3, 4] rfl)
      · have h := (if_neg c77).symm.trans h
        refine lv_aload_n hx hb dX5_delete_80 rfl (lv_at hl 0 rfl) ?_
        refine lv_iload_n hx hb dX5_delete_81 rfl (lv_at hl 1 rfl) ?_
        refine lv_aload_n hx hb dX5_delete_82 rfl (lv_at hl 0 rfl) ?_
        refine gX5_13 C hW dX5_delete_83 ?_
        refine lv_iload hx hb dX5_delete_86 (lv_at hl 4 rfl) ?_
        obtain ⟨g88, h⟩ := gd h
        refine ald_158 C hW g88 dX5_delete_88 ?_
        refine lv_iload_n hx hb dX5_delete_89 rfl (lv_at hl 3 rfl) ?_
        obtain ⟨r90, M90, hc90, h⟩ := bd2_e h
        refine kX5_103 C hml hl.1 (c_X5_may hc90) ⟨Nat.le_of_ble_eq_true rfl, Nat.le_of_ble_eq_true rfl⟩ ⟨Nat.le_of_ble_eq_true rfl, Nat.le_of_ble_eq_true rfl⟩ (Nat.le_of_ble_eq_true rfl) hS hW dX5_delete_90 (fun H locs hW hS => ?_)
        refine lv_if_ne (tgt := 100) hx hb dX5_delete_93 (by decide) (fun c93 => ?_) (fun c93 => ?_)
        · have h := (if_neg c93).symm.trans h
          exact w_X5_delete_100 C hml hr hlk hK57 h hS hW (lv_sub hl [0, 1, 2, 3, 4] rfl)
        · have h := (if_pos c93).symm.trans h
          refine lv_iconst (v := (1 : Int32)) hx hb dX5_delete_96 (by decide) ?_
          refine lv_goto (tgt := 101) hx hb dX5_delete_97 (by decide) ?_
          exact w_X5_delete_101 C hml hr hlk hK57 h hS hW (lv_sub hl [0, 1, 2, 3, 4] rfl)
def f_X5_delete_44 (M : Mem) (x1 : Int32) (x2 : Int32) (x3 : Int32) (xs0 : Int32) : Option (Int32 × Mem) :=
  if xs0 ≤ 0 then f_X5_delete_57 64 M x1 x2 x3 (0 : Int32) else some (xs0, M)
set_option maxHeartbeats 4000000 in
set_option maxRecDepth 100000 in
theorem w_X5_delete_44 {p : Program} {l : Launch} {e : Env} {s : State} {m : MethodId} {args : Array Value} {below : List Frame} {meth : Method} {c : Code} {Z : Zt} {b : Nat} (C : Cx p s m args c cX5_delete RX5 Z b) (hml : c.maxLocals = 7) (hr : meth.sig.returnType = (some .int)) (hlk : meth.locks = false) {r' : Int32} {M' : Mem} {M : Mem} {x1 : Int32} {x2 : Int32} {x3 : Int32} {xs0 : Int32} (h : f_X5_delete_44 M x1 x2 x3 xs0 = some (r', M')) {H : Heap} {locs : List Loc} {ls : Array Slot} (hS : va_S (A0 b) s.heap H locs) (hW : Wd Z b M H) (hl : lv_has ls 7 [(0, .ref (b + 156)), (1, .int x1), (2, .int x2), (3, .int x3)]) : W p l e rm_X5_delete s m args below meth c H locs 0 0 (MQ below (Qn Z b (some (.int r')) M') args s 0 0 (A0 b)) (F0 m 44 ls [.int xs0]) := by
  unfold f_X5_delete_44 at h
  have hx := C.1
  have hb := C.2.1
  refine lv_istore (lv' := [(4, .int xs0), (0, .ref (b + 156)), (1, .int x1), (2, .int x2), (3, .int x3)]) hx hb dX5_delete_44 hl (by decide) rfl (fun ls hl => ?_)
  refine lv_iload hx hb dX5_delete_46 (lv_at hl 0 rfl) ?_
  refine lv_if_le (tgt := 54) hx hb dX5_delete_48 (by decide) (fun c48 => ?_) (fun c48 => ?_)
  · have h := (if_pos c48).symm.trans h
    refine lv_iconst (v := (0 : Int32)) hx hb dX5_delete_54 (by decide) ?_
    refine lv_istore (lv' := [(5, .int (0 : Int32)), (4, .int xs0), (0, .ref (b + 156)), (1, .int x1), (2, .int x2), (3, .int x3)]) hx hb dX5_delete_55 hl (by decide) rfl (fun ls hl => ?_)
    exact w_X5_delete_57 C hml hr hlk 64 h hS hW (lv_sub hl [2, 3, 4, 5, 0] rfl)
  · have h := (if_neg c48).symm.trans h
    refine lv_iload hx hb dX5_delete_51 (lv_at hl 0 rfl) ?_
    cases h
    exact ret_i C hr hlk hS hW dX5_delete_53
def f_X5_delete_0 (M : Mem) (x1 : Int32) (x2 : Int32) (x3 : Int32) : Option (Int32 × Mem) :=
  bd2 (f_X5_isRight M x1 x2 x3) (fun r4 M4 => if r4 = 0 then some ((0 : Int32), M4) else bd2 (f_X5_place (mu M4 35 0 (0 : Int32)) x2) (fun r19 M19 => if 0 ≤ r19 then bd2 (f_X5_mayMake M19 x1 x2 x3) (fun r33 M33 => if r33 = 0 then f_X5_delete_44 M33 x1 x2 x3 (4 : Int32) else f_X5_delete_44 M33 x1 x2 x3 (0 : Int32)) else f_X5_delete_44 M19 x1 x2 x3 (1 : Int32)))
set_option maxHeartbeats 4000000 in
set_option maxRecDepth 100000 in
theorem w_X5_delete_0 {p : Program} {l : Launch} {e : Env} {s : State} {m : MethodId} {args : Array Value} {below : List Frame} {meth : Method} {c : Code} {Z : Zt} {b : Nat} (C : Cx p s m args c cX5_delete RX5 Z b) (hml : c.maxLocals = 7) (hr : meth.sig.returnType = (some .int)) (hlk : meth.locks = false) {r' : Int32} {M' : Mem} {M : Mem} {x1 : Int32} {x2 : Int32} {x3 : Int32} (h : f_X5_delete_0 M x1 x2 x3 = some (r', M')) {H : Heap} {locs : List Loc} {ls : Array Slot} (hS : va_S (A0 b) s.heap H locs) (hW : Wd Z b M H) (hl : lv_has ls 7 [(0, .ref (b + 156)), (1, .int x1), (2, .int x2), (3, .int x3)]) : W p l e rm_X5_delete s m args below meth c H locs 0 0 (MQ below (Qn Z b (some (.int r')) M') args s 0 0 (A0 b)) (F0 m 0 ls []) := by
  unfold f_X5_delete_0 at h
  have hx := C.1
  have hb := C.2.1
  refine lv_aload_n hx hb dX5_delete_0 rfl (lv_at hl 0 rfl) ?_
  refine lv_iload_n hx hb dX5_delete_1 rfl (lv_at hl 1 rfl) ?_
  refine lv_iload_n hx hb dX5_delete_2 rfl (lv_at hl 2 rfl) ?_
  refine lv_iload_n hx hb dX5_delete_3 rfl (lv_at hl 3 rfl) ?_
  obtain ⟨r4, M4, hc4, h⟩ := bd2_e h
  refine kX5_106 C hml hl.1 (c_X5_isRight hc4) ⟨Nat.le_of_ble_eq_true rfl, Nat.le_of_ble_eq_true rfl⟩ ⟨Nat.le_of_ble_eq_true rfl, Nat.le_of_ble_eq_true rfl⟩ (Nat.le_of_ble_eq_true rfl) hS hW dX5_delete_4 (fun H locs hW hS => ?_)
  refine lv_if_ne (tgt := 12) hx hb dX5_delete_7 (by decide) (fun c7 => ?_) (fun c7 => ?_)
  · have h := (if_neg c7).symm.trans h
    refine lv_aload_n hx hb dX5_delete_12 rfl (lv_at hl 0 rfl) ?_
    refine lv_iconst (v := (0 : Int32)) hx hb dX5_delete_13 (by decide) ?_
    refine pX5_127 C hS hW dX5_delete_14 (fun H locs hW hS => ?_)
    refine lv_aload_n hx hb dX5_delete_17 rfl (lv_at hl 0 rfl) ?_
    refine lv_iload_n hx hb dX5_delete_18 rfl (lv_at hl 2 rfl) ?_
    obtain ⟨r19, M19, hc19, h⟩ := bd2_e h
    refine kX5_74 C hml hl.1 (c_X5_place hc19) ⟨Nat.le_of_ble_eq_true rfl, Nat.le_of_ble_eq_true rfl⟩ ⟨Nat.le_of_ble_eq_true rfl, Nat.le_of_ble_eq_true rfl⟩ (Nat.le_of_ble_eq_true rfl) hS hW dX5_delete_19 (fun H locs hW hS => ?_)
    refine lv_if_ge (tgt := 29) hx hb dX5_delete_22 (by decide) (fun c22 => ?_) (fun c22 => ?_)
    · have h := (if_pos c22).symm.trans h
      refine lv_aload_n hx hb dX5_delete_29 rfl (lv_at hl 0 rfl) ?_
      refine lv_iload_n hx hb dX5_delete_30 rfl (lv_at hl 1 rfl) ?_
      refine lv_iload_n hx hb dX5_delete_31 rfl (lv_at hl 2 rfl) ?_
      refine lv_iload_n hx hb dX5_delete_32 rfl (lv_at hl 3 rfl) ?_
      obtain ⟨r33, M33, hc33, h⟩ := bd2_e h
      refine kX5_112 C hml hl.1 (c_X5_mayMake hc33) ⟨Nat.le_of_ble_eq_true rfl, Nat.le_of_ble_eq_true rfl⟩ ⟨Nat.le_of_ble_eq_true rfl, Nat.le_of_ble_eq_true rfl⟩ (Nat.le_of_ble_eq_true rfl) hS hW dX5_delete_33 (fun H locs hW hS => ?_)
      refine lv_if_eq (tgt := 43) hx hb dX5_delete_36 (by decide) (fun c36 => ?_) (fun c36 => ?_)
      · have h := (if_pos c36).symm.trans h
        refine lv_iconst (v := (4 : Int32)) hx hb dX5_delete_43 (by decide) ?_
        exact w_X5_delete_44 C hml hr hlk h hS hW (lv_sub hl [0, 1, 2, 3] rfl)
      · have h := (if_neg c36).symm.trans h
        refine lv_iconst (v := (0 : Int32)) hx hb dX5_delete_39 (by decide) ?_
        refine lv_goto (tgt := 44) hx hb dX5_delete_40 (by decide) ?_
        exact w_X5_delete_44 C hml hr hlk h hS hW (lv_sub hl [0, 1, 2, 3] rfl)
    · have h := (if_neg c22).symm.trans h
      refine lv_iconst (v := (1 : Int32)) hx hb dX5_delete_25 (by decide) ?_
      refine lv_goto (tgt := 44) hx hb dX5_delete_26 (by decide) ?_
      exact w_X5_delete_44 C hml hr hlk h hS hW (lv_sub hl [0, 1, 2, 3] rfl)
  · have h := (if_pos c7).symm.trans h
    refine lv_iconst (v := (0 : Int32)) hx hb dX5_delete_10 (by decide) ?_
    cases h
    exact ret_i C hr hlk hS hW dX5_delete_11
def f_X5_delete (M : Mem) (x1 : Int32) (x2 : Int32) (x3 : Int32) : Option (Int32 × Mem) := f_X5_delete_0 M x1 x2 x3
set_option maxHeartbeats 4000000 in
set_option maxRecDepth 100000 in
theorem c_X5_delete {l : Launch} {Z : Zt} {b : Nat} {M : Mem} {x1 : Int32} {x2 : Int32} {x3 : Int32} {r' : Int32} {M' : Mem} (h : f_X5_delete M x1 x2 x3 = some (r', M')) : Ct l yX5_delete cX5_delete 7 (some .int) rm_X5_delete Z b [.ref (b + 156), .int x1, .int x2, .int x3] M (some (.int r')) M' := by
  refine Met.ofW (cc := cX5_delete) (maxL := 7) (ret := (some .int)) (by decide) rfl ?_
  intro p e s m args below meth c s₁ B hml hv
  obtain ⟨rfl, hE, hW⟩ := hv
  have C : Cx p s m [.ref (b + 156), .int x1, .int x2, .int x3].toArray c cX5_delete RX5 Z b := ⟨B.exec, B.bytes, findClass_of_methodNamed B.named, fun w hw => atoms_spec (ws := Cond.code yX5_delete cX5_delete 7 (some .int) :: wsA) B.pre w (List.mem_cons_of_mem _ hw), hE⟩
  have hl := lv_entry [.ref (b + 156), .int x1, .int x2, .int x3] (n := 7) (Nat.le_of_ble_eq_true rfl)
  rw [lg_entry_eq]
  generalize (lg_sl [.ref (b + 156), .int x1, .int x2, .int x3] ++ List.replicate (7 - (lg_sl [.ref (b + 156), .int x1, .int x2, .int x3]).length) Slot.unset).toArray = ls at hl ⊢
  have hl : lv_has ls 7 [(0, .ref (b + 156)), (1, .int x1), (2, .int x2), (3, .int x3)] := hl
  exact w_X5_delete_0 C hml B.returns B.notSynchronized h va_S.rf hW hl
def f_X5_failures_0 (M : Mem) : Option (Int32 × Mem) :=
  some ((mu M 39 0 (0 : Int32)) 35 0, mu M 39 0 (0 : Int32))
set_option maxHeartbeats 4000000 in
set_option maxRecDepth 100000 in
theorem w_X5_failures_0 {p : Program} {l : Launch} {e : Env} {s : State} {m : MethodId} {args : Array Value} {below : List Frame} {meth : Method} {c : Code} {Z : Zt} {b : Nat} (C : Cx p s m args c cX5_failures RX5 Z b) (hml : c.maxLocals = 1) (hr : meth.sig.returnType = (some .int)) (hlk : meth.locks = false) {r' : Int32} {M' : Mem} {M : Mem} (h : f_X5_failures_0 M = some (r', M')) {H : Heap} {locs : List Loc} {ls : Array Slot} (hS : va_S (A0 b) s.heap H locs) (hW : Wd Z b M H) (hl : lv_has ls 1 [(0, .ref (b + 156))]) : W p l e rm_X5_failures s m args below meth c H locs 0 0 (MQ below (Qn Z b (some (.int r')) M') args s 0 0 (A0 b)) (F0 m 0 ls []) := by
  unfold f_X5_failures_0 at h
  have hx := C.1
  have hb := C.2.1
  refine lv_aload_n hx hb dX5_failures_0 rfl (lv_at hl 0 rfl) ?_
  refine lv_iconst (v := (0 : Int32)) hx hb dX5_failures_1 (by decide) ?_
  refine pX5_56 C hS hW dX5_failures_2 (fun H locs hW hS => ?_)
  refine lv_aload_n hx hb dX5_failures_5 rfl (lv_at hl 0 rfl) ?_
  refine gX5_127 C hW dX5_failures_6 ?_
  cases h
  exact ret_i C hr hlk hS hW dX5_failures_9
def f_X5_failures (M : Mem) : Option (Int32 × Mem) := f_X5_failures_0 M
set_option maxHeartbeats 4000000 in
set_option maxRecDepth 100000 in
theorem c_X5_failures {l : Launch} {Z : Zt} {b : Nat} {M : Mem} {r' : Int32} {M' : Mem} (h : f_X5_failures M = some (r', M')) : Ct l yX5_failures cX5_failures 1 (some .int) rm_X5_failures Z b [.ref (b + 156)] M (some (.int r')) M' := by
  refine Met.ofW (cc := cX5_failures) (maxL := 1) (ret := (some .int)) (by decide) rfl ?_
  intro p e s m args below meth c s₁ B hml hv
  obtain ⟨rfl, hE, hW⟩ := hv
  have C : Cx p s m [.ref (b + 156)].toArray c cX5_failures RX5 Z b := ⟨B.exec, B.bytes, findClass_of_methodNamed B.named, fun w hw => atoms_spec (ws := Cond.code yX5_failures cX5_failures 1 (some .int) :: wsA) B.pre w (List.mem_cons_of_mem _ hw), hE⟩
  have hl := lv_entry [.ref (b + 156)] (n := 1) (Nat.le_of_ble_eq_true rfl)
  rw [lg_entry_eq]
  generalize (lg_sl [.ref (b + 156)] ++ List.replicate (1 - (lg_sl [.ref (b + 156)]).length) Slot.unset).toArray = ls at hl ⊢
  have hl : lv_has ls 1 [(0, .ref (b + 156))] := hl
  exact w_X5_failures_0 C hml B.returns B.notSynchronized h va_S.rf hW hl
def f_X5_failureAt_92 (M : Mem) (x2 : Int32) (xs1 : Int32) : Option (Int32 × Mem) :=
  if ((mu M 39 0 xs1) 39 0) ≤ 0 then some (x2, mu M 39 0 xs1) else some ((0 : Int32), mu M 39 0 xs1)
set_option maxHeartbeats 4000000 in
set_option maxRecDepth 100000 in
theorem w_X5_failureAt_92 {p : Program} {l : Launch} {e : Env} {s : State} {m : MethodId} {args : Array Value} {below : List Frame} {meth : Method} {c : Code} {Z : Zt} {b : Nat} (C : Cx p s m args c cX5_failureAt RX5 Z b) (hml : c.maxLocals = 6) (hr : meth.sig.returnType = (some .int)) (hlk : meth.locks = false) {r' : Int32} {M' : Mem} {M : Mem} {x2 : Int32} {xs1 : Int32} (h : f_X5_failureAt_92 M x2 xs1 = some (r', M')) {H : Heap} {locs : List Loc} {ls : Array Slot} (hS : va_S (A0 b) s.heap H locs) (hW : Wd Z b M H) (hl : lv_has ls 6 [(0, .ref (b + 156)), (2, .int x2)]) : W p l e rm_X5_failureAt s m args below meth c H locs 0 0 (MQ below (Qn Z b (some (.int r')) M') args s 0 0 (A0 b)) (F0 m 92 ls [.int xs1, .ref (b + 156)]) := by
  unfold f_X5_failureAt_92 at h
  have hx := C.1
  have hb := C.2.1
  refine pX5_56 C hS hW dX5_failureAt_92 (fun H locs hW hS => ?_)
  refine lv_aload_n hx hb dX5_failureAt_95 rfl (lv_at hl 0 rfl) ?_
  refine gX5_56 C hW dX5_failureAt_96 ?_
  refine lv_if_le (tgt := 106) hx hb dX5_failureAt_99 (by decide) (fun c99 => ?_) (fun c99 => ?_)
  · have h := (if_pos c99).symm.trans h
    refine lv_iload_n hx hb dX5_failureAt_106 rfl (lv_at hl 1 rfl) ?_
    cases h
    exact ret_i C hr hlk hS hW dX5_failureAt_107
  · have h := (if_neg c99).symm.trans h
    refine lv_iconst (v := (0 : Int32)) hx hb dX5_failureAt_102 (by decide) ?_
    refine lv_goto (tgt := 107) hx hb dX5_failureAt_103 (by decide) ?_
    cases h
    exact ret_i C hr hlk hS hW dX5_failureAt_107
def f_X5_failureAt_75 (K4 : Mem → Int32 → Int32 → Int32 → Option (Int32 × Mem)) (M : Mem) (x1 : Int32) (x3 : Int32) (xs0 : Int32) : Option (Int32 × Mem) :=
  K4 M x1 xs0 (x3 + 1)
set_option maxHeartbeats 4000000 in
set_option maxRecDepth 100000 in
theorem w_X5_failureAt_75 {p : Program} {l : Launch} {e : Env} {s : State} {m : MethodId} {args : Array Value} {below : List Frame} {meth : Method} {c : Code} {Z : Zt} {b : Nat} (C : Cx p s m args c cX5_failureAt RX5 Z b) (hml : c.maxLocals = 6) (hr : meth.sig.returnType = (some .int)) (hlk : meth.locks = false) {r' : Int32} {M' : Mem} {K4 : Mem → Int32 → Int32 → Int32 → Option (Int32 × Mem)} (hK4 : ∀ {M : Mem} {x1 : Int32} {x2 : Int32} {x3 : Int32} (h : K4 M x1 x2 x3 = some (r', M')) {H : Heap} {locs : List Loc} {ls : Array Slot} (hS : va_S (A0 b) s.heap H locs) (hW : Wd Z b M H) (hl : lv_has ls 6 [(0, .ref (b + 156)), (1, .int x1), (2, .int x2), (3, .int x3)]), W p l e rm_X5_failureAt s m args below meth c H locs 0 0 (MQ below (Qn Z b (some (.int r')) M') args s 0 0 (A0 b)) (F0 m 4 ls [])) {M : Mem} {x1 : Int32} {x3 : Int32} {xs0 : Int32} (h : f_X5_failureAt_75 K4 M x1 x3 xs0 = some (r', M')) {H : Heap} {locs : List Loc} {ls : Array Slot} (hS : va_S (A0 b) s.heap H locs) (hW : Wd Z b M H) (hl : lv_has ls 6 [(0, .ref (b + 156)), (1, .int x1), (3, .int x3)]) : W p l e rm_X5_failureAt s m args below meth c H locs 0 0 (MQ below (Qn Z b (some (.int r')) M') args s 0 0 (A0 b)) (F0 m 75 ls [.int xs0]) := by
  unfold f_X5_failureAt_75 at h
  have hx := C.1
  have hb := C.2.1
  refine lv_istore_n (lv' := [(2, .int xs0), (0, .ref (b + 156)), (1, .int x1), (3, .int x3)]) hx hb dX5_failureAt_75 rfl hl (by decide) rfl (fun ls hl => ?_)
  refine lv_iinc (v := x3 + 1) (lv' := [(3, .int (x3 + 1)), (2, .int xs0), (0, .ref (b + 156)), (1, .int x1)]) hx hb dX5_failureAt_76 hl (k := 3) rfl rfl (by decide) rfl (fun ls hl => ?_)
  refine lv_goto (tgt := 4) hx hb dX5_failureAt_79 (by decide) ?_
  exact hK4 h hS hW (lv_sub hl [2, 3, 1, 0] rfl)
def f_X5_failureAt_50 (K4 : Mem → Int32 → Int32 → Int32 → Option (Int32 × Mem)) (K18 : Mem → Int32 → Int32 → Int32 → Int32 → Int32 → Option (Int32 × Mem)) (M : Mem) (x1 : Int32) (x2 : Int32) (x3 : Int32) (x5 : Int32) (xs0 : Int32) (xs1 : Int32) : Option (Int32 × Mem) :=
  K18 M x1 x2 x3 (xs0 + xs1) (x5 + 1)
set_option maxHeartbeats 4000000 in
set_option maxRecDepth 100000 in
theorem w_X5_failureAt_50 {p : Program} {l : Launch} {e : Env} {s : State} {m : MethodId} {args : Array Value} {below : List Frame} {meth : Method} {c : Code} {Z : Zt} {b : Nat} (C : Cx p s m args c cX5_failureAt RX5 Z b) (hml : c.maxLocals = 6) (hr : meth.sig.returnType = (some .int)) (hlk : meth.locks = false) {r' : Int32} {M' : Mem} {K4 : Mem → Int32 → Int32 → Int32 → Option (Int32 × Mem)} (hK4 : ∀ {M : Mem} {x1 : Int32} {x2 : Int32} {x3 : Int32} (h : K4 M x1 x2 x3 = some (r', M')) {H : Heap} {locs : List Loc} {ls : Array Slot} (hS : va_S (A0 b) s.heap H locs) (hW : Wd Z b M H) (hl : lv_has ls 6 [(0, .ref (b + 156)), (1, .int x1), (2, .int x2), (3, .int x3)]), W p l e rm_X5_failureAt s m args below meth c H locs 0 0 (MQ below (Qn Z b (some (.int r')) M') args s 0 0 (A0 b)) (F0 m 4 ls [])) {K18 : Mem → Int32 → Int32 → Int32 → Int32 → Int32 → Option (Int32 × Mem)} (hK18 : ∀ {M : Mem} {x1 : Int32} {x2 : Int32} {x3 : Int32} {x4 : Int32} {x5 : Int32} (h : K18 M x1 x2 x3 x4 x5 = some (r', M')) {H : Heap} {locs : List Loc} {ls : Array Slot} (hS : va_S (A0 b) s.heap H locs) (hW : Wd Z b M H) (hl : lv_has ls 6 [(0, .ref (b + 156)), (1, .int x1), (2, .int x2), (3, .int x3), (4, .int x4), (5, .int x5)]), W p l e rm_X5_failureAt s m args below meth c H locs 0 0 (MQ below (Qn Z b (some (.int r')) M') args s 0 0 (A0 b)) (F0 m 18 ls [])) {M : Mem} {x1 : Int32} {x2 : Int32} {x3 : Int32} {x5 : Int32} {xs0 : Int32} {xs1 : Int32} (h : f_X5_failureAt_50 K4 K18 M x1 x2 x3 x5 xs0 xs1 = some (r', M')) {H : Heap} {locs : List Loc} {ls : Array Slot} (hS : va_S (A0 b) s.heap H locs) (hW : Wd Z b M H) (hl : lv_has ls 6 [(0, .ref (b + 156)), (1, .int x1), (2, .int x2), (3, .int x3), (5, .int x5)]) : W p l e rm_X5_failureAt s m args below meth c H locs 0 0 (MQ below (Qn Z b (some (.int r')) M') args s 0 0 (A0 b)) (F0 m 50 ls [.int xs1, .int xs0]) := by
  unfold f_X5_failureAt_50 at h
  have hx := C.1
  have hb := C.2.1
  refine lv_iadd hx hb dX5_failureAt_50 ?_
  refine lv_istore (lv' := [(4, .int (xs0 + xs1)), (0, .ref (b + 156)), (1, .int x1), (2, .int x2), (3, .int x3), (5, .int x5)]) hx hb dX5_failureAt_51 hl (by decide) rfl (fun ls hl => ?_)
  refine lv_iinc (v := x5 + 1) (lv' := [(5, .int (x5 + 1)), (4, .int (xs0 + xs1)), (0, .ref (b + 156)), (1, .int x1), (2, .int x2), (3, .int x3)]) hx hb dX5_failureAt_53 hl (k := 5) rfl rfl (by decide) rfl (fun ls hl => ?_)
  refine lv_goto (tgt := 18) hx hb dX5_failureAt_56 (by decide) ?_
  exact hK18 h hS hW (lv_sub hl [2, 3, 4, 5, 1, 0] rfl)
def f_X5_failureAt_18B (K4 : Mem → Int32 → Int32 → Int32 → Option (Int32 × Mem)) (K18 : Mem → Int32 → Int32 → Int32 → Int32 → Int32 → Option (Int32 × Mem)) (M : Mem) (x1 : Int32) (x2 : Int32) (x3 : Int32) (x4 : Int32) (x5 : Int32) : Option (Int32 × Mem) :=
  if (M 35 0) ≤ x5 then (if x4 = x1 then (if x3 < 0 ∨ 60 ≤ x3.toNatClampNeg then none else f_X5_failureAt_75 K4 M x1 x3 (M 36 x3.toNatClampNeg)) else f_X5_failureAt_75 K4 M x1 x3 x2) else if x5 < 0 ∨ 60 ≤ x5.toNatClampNeg then none else if x3 < 0 ∨ 60 ≤ x3.toNatClampNeg then none else if (M 36 x3.toNatClampNeg) ≤ (M 36 x5.toNatClampNeg) then f_X5_failureAt_50 K4 K18 M x1 x2 x3 x5 x4 (0 : Int32) else f_X5_failureAt_50 K4 K18 M x1 x2 x3 x5 x4 (1 : Int32)
def f_X5_failureAt_18 (K4 : Mem → Int32 → Int32 → Int32 → Option (Int32 × Mem)) : Nat → Mem → Int32 → Int32 → Int32 → Int32 → Int32 → Option (Int32 × Mem)
  | 0 => fun _ _ _ _ _ _ => none
  | n + 1 => f_X5_failureAt_18B K4 (f_X5_failureAt_18 K4 n)
set_option maxHeartbeats 4000000 in
set_option maxRecDepth 100000 in
theorem w_X5_failureAt_18 {p : Program} {l : Launch} {e : Env} {s : State} {m : MethodId} {args : Array Value} {below : List Frame} {meth : Method} {c : Code} {Z : Zt} {b : Nat} (C : Cx p s m args c cX5_failureAt RX5 Z b) (hml : c.maxLocals = 6) (hr : meth.sig.returnType = (some .int)) (hlk : meth.locks = false) {r' : Int32} {M' : Mem} {K4 : Mem → Int32 → Int32 → Int32 → Option (Int32 × Mem)} (hK4 : ∀ {M : Mem} {x1 : Int32} {x2 : Int32} {x3 : Int32} (h : K4 M x1 x2 x3 = some (r', M')) {H : Heap} {locs : List Loc} {ls : Array Slot} (hS : va_S (A0 b) s.heap H locs) (hW : Wd Z b M H) (hl : lv_has ls 6 [(0, .ref (b + 156)), (1, .int x1), (2, .int x2), (3, .int x3)]), W p l e rm_X5_failureAt s m args below meth c H locs 0 0 (MQ below (Qn Z b (some (.int r')) M') args s 0 0 (A0 b)) (F0 m 4 ls [])) : ∀ (n : Nat) {M : Mem} {x1 : Int32} {x2 : Int32} {x3 : Int32} {x4 : Int32} {x5 : Int32} (h : f_X5_failureAt_18 K4 n M x1 x2 x3 x4 x5 = some (r', M')) {H : Heap} {locs : List Loc} {ls : Array Slot} (hS : va_S (A0 b) s.heap H locs) (hW : Wd Z b M H) (hl : lv_has ls 6 [(0, .ref (b + 156)), (1, .int x1), (2, .int x2), (3, .int x3), (4, .int x4), (5, .int x5)]), W p l e rm_X5_failureAt s m args below meth c H locs 0 0 (MQ below (Qn Z b (some (.int r')) M') args s 0 0 (A0 b)) (F0 m 18 ls []) := by
  intro n
  induction n with
  | zero =>
    intro M x1 x2 x3 x4 x5 h
    cases h
  | succ n ih =>
    intro M x1 x2 x3 x4 x5 h H locs ls hS hW hl
    have h : f_X5_failureAt_18B K4 (f_X5_failureAt_18 K4 n) M x1 x2 x3 x4 x5 = some (r', M') := h
    unfold f_X5_failureAt_18B at h
    have hK18 := @ih
    have hx := C.1
    have hb := C.2.1
    refine lv_iload hx hb dX5_failureAt_18 (lv_at hl 5 rfl) ?_
    refine lv_aload_n hx hb dX5_failureAt_20 rfl (lv_at hl 0 rfl) ?_
    refine gX5_127 C hW dX5_failureAt_21 ?_
    refine lv_icmp_ge (tgt := 59) hx hb dX5_failureAt_24 (by decide) (fun c24 => ?_) (fun c24 => ?_)
    · have h := (if_pos c24).symm.trans h
      refine lv_iload hx hb dX5_failureAt_59 (lv_at hl 4 rfl) ?_
      refine lv_iload_n hx hb dX5_failureAt_61 rfl (lv_at hl 1 rfl) ?_
      refine lv_icmp_ne (tgt := 74) hx hb dX5_failureAt_62 (by decide) (fun c62 => ?_) (fun c62 => ?_)
      · have h := (if_neg c62).symm.trans h
        refine lv_iload_n hx hb dX5_failureAt_74 rfl (lv_at hl 2 rfl) ?_
        exact w_X5_failureAt_75 C hml hr hlk hK4 h hS hW (lv_sub hl [0, 1, 3] rfl)
      · have h := (if_pos c62).symm.trans h
        refine lv_aload_n hx hb dX5_failureAt_65 rfl (lv_at hl 0 rfl) ?_
        refine gX5_47 C hW dX5_failureAt_66 ?_
        refine lv_iload_n hx hb dX5_failureAt_69 rfl (lv_at hl 3 rfl) ?_
        obtain ⟨g70, h⟩ := gd h
        refine ald_169 C hW g70 dX5_failureAt_70 ?_
        refine lv_goto (tgt := 75) hx hb dX5_failureAt_71 (by decide) ?_
        exact w_X5_failureAt_75 C hml hr hlk hK4 h hS hW (lv_sub hl [0, 1, 3] rfl)
    · have h := (if_neg c24).symm.trans h
      refine lv_iload hx hb dX5_failureAt_27 (lv_at hl 4 rfl) ?_
      refine lv_aload_n hx hb dX5_failureAt_29 rfl (lv_at hl 0 rfl) ?_
      refine gX5_47 C hW dX5_failureAt_30 ?_
      refine lv_iload hx hb dX5_failureAt_33 (lv_at hl 5 rfl) ?_
      obtain ⟨g35, h⟩ := gd h
      refine ald_169 C hW g35 dX5_failureAt_35 ?_
      refine lv_aload_n hx hb dX5_failureAt_36 rfl (lv_at hl 0 rfl) ?_
      refine gX5_47 C hW dX5_failureAt_37 ?_
      refine lv_iload_n hx hb dX5_failureAt_40 rfl (lv_at hl 3 rfl) ?_
      obtain ⟨g41, h⟩ := gd h
      refine ald_169 C hW g41 dX5_failureAt_41 ?_
      refine lv_icmp_ge (tgt := 49) hx hb dX5_failureAt_42 (by decide) (fun c42 => ?_) (fun c42 => ?_)
      · have h := (if_pos c42).symm.trans h
        refine lv_iconst (v := (0 : Int32)) hx hb dX5_failureAt_49 (by decide) ?_
        exact w_X5_failureAt_50 C hml hr hlk hK4 hK18 h hS hW (lv_sub hl [0, 1, 2, 3, 5] rfl)
      · have h := (if_neg c42).symm.trans h
        refine lv_iconst (v := (1 : Int32)) hx hb dX5_failureAt_45 (by decide) ?_
        refine lv_goto (tgt := 50) hx hb dX5_failureAt_46 (by decide) ?_
        exact w_X5_failureAt_50 C hml hr hlk hK4 hK18 h hS hW (lv_sub hl [0, 1, 2, 3, 5] rfl)
def f_X5_failureAt_4B (K4 : Mem → Int32 → Int32 → Int32 → Option (Int32 × Mem)) (M : Mem) (x1 : Int32) (x2 : Int32) (x3 : Int32) : Option (Int32 × Mem) :=
  if (M 35 0) ≤ x3 then (if 0 ≤ x2 then f_X5_failureAt_92 M x2 (0 : Int32) else f_X5_failureAt_92 M x2 (1 : Int32)) else f_X5_failureAt_18 K4 64 M x1 x2 x3 (0 : Int32) (0 : Int32)
def f_X5_failureAt_4 : Nat → Mem → Int32 → Int32 → Int32 → Option (Int32 × Mem)
  | 0 => fun _ _ _ _ => none
  | n + 1 => f_X5_failureAt_4B (f_X5_failureAt_4 n)
set_option maxHeartbeats 4000000 in
set_option maxRecDepth 100000 in
theorem w_X5_failureAt_4 {p : Program} {l : Launch} {e : Env} {s : State} {m : MethodId} {args : Array Value} {below : List Frame} {meth : Method} {c : Code} {Z : Zt} {b : Nat} (C : Cx p s m args c cX5_failureAt RX5 Z b) (hml : c.maxLocals = 6) (hr : meth.sig.returnType = (some .int)) (hlk : meth.locks = false) {r' : Int32} {M' : Mem} : ∀ (n : Nat) {M : Mem} {x1 : Int32} {x2 : Int32} {x3 : Int32} (h : f_X5_failureAt_4 n M x1 x2 x3 = some (r', M')) {H : Heap} {locs : List Loc} {ls : Array Slot} (hS : va_S (A0 b) s.heap H locs) (hW : Wd Z b M H) (hl : lv_has ls 6 [(0, .ref (b + 156)), (1, .int x1), (2, .int x2), (3, .int x3)]), W p l e rm_X5_failureAt s m args below meth c H locs 0 0 (MQ below (Qn Z b (some (.int r')) M') args s 0 0 (A0 b)) (F0 m 4 ls []) := by
  intro n
  induction n with
  | zero =>
    intro M x1 x2 x3 h
    cases h
  | succ n ih =>
    intro M x1 x2 x3 h H locs ls hS hW hl
    have h : f_X5_failureAt_4B (f_X5_failureAt_4 n) M x1 x2 x3 = some (r', M') := h
    unfold f_X5_failureAt_4B at h
    have hK4 := @ih
    have hx := C.1
    have hb := C.2.1
    refine lv_iload_n hx hb dX5_failureAt_4 rfl (lv_at hl 3 rfl) ?_
    refine lv_aload_n hx hb dX5_failureAt_5 rfl (lv_at hl 0 rfl) ?_
    refine gX5_127 C hW dX5_failureAt_6 ?_
    refine lv_icmp_ge (tgt := 82) hx hb dX5_failureAt_9 (by decide) (fun c9 => ?_) (fun c9 => ?_)
    · have h := (if_pos c9).symm.trans h
      refine lv_aload_n hx hb dX5_failureAt_82 rfl (lv_at hl 0 rfl) ?_
      refine lv_iload_n hx hb dX5_failureAt_83 rfl (lv_at hl 2 rfl) ?_
      refine lv_if_ge (tgt := 91) hx hb dX5_failureAt_84 (by decide) (fun c84 => ?_) (fun c84 => ?_)
      · have h := (if_pos c84).symm.trans h
        refine lv_iconst (v := (0 : Int32)) hx hb dX5_failureAt_91 (by decide) ?_
        exact w_X5_failureAt_92 C hml hr hlk h hS hW (lv_sub hl [0, 2] rfl)
      · have h := (if_neg c84).symm.trans h
        refine lv_iconst (v := (1 : Int32)) hx hb dX5_failureAt_87 (by decide) ?_
        refine lv_goto (tgt := 92) hx hb dX5_failureAt_88 (by decide) ?_
        exact w_X5_failureAt_92 C hml hr hlk h hS hW (lv_sub hl [0, 2] rfl)
    · have h := (if_neg c9).symm.trans h
      refine lv_iconst (v := (0 : Int32)) hx hb dX5_failureAt_12 (by decide) ?_
      refine lv_istore (lv' := [(4, .int (0 : Int32)), (0, .ref (b + 156)), (1, .int x1), (2, .int x2), (3, .int x3)]) hx hb dX5_failureAt_13 hl (by decide) rfl (fun ls hl => ?_)
      refine lv_iconst (v := (0 : Int32)) hx hb dX5_failureAt_15 (by decide) ?_
      refine lv_istore (lv' := [(5, .int (0 : Int32)), (4, .int (0 : Int32)), (0, .ref (b + 156)), (1, .int x1), (2, .int x2), (3, .int x3)]) hx hb dX5_failureAt_16 hl (by decide) rfl (fun ls hl => ?_)
      exact w_X5_failureAt_18 C hml hr hlk hK4 64 h hS hW (lv_sub hl [2, 3, 4, 5, 1, 0] rfl)
def f_X5_failureAt_0 (M : Mem) (x1 : Int32) : Option (Int32 × Mem) :=
  f_X5_failureAt_4 64 M x1 (-1 : Int32) (0 : Int32)
set_option maxHeartbeats 4000000 in
set_option maxRecDepth 100000 in
theorem w_X5_failureAt_0 {p : Program} {l : Launch} {e : Env} {s : State} {m : MethodId} {args : Array Value} {below : List Frame} {meth : Method} {c : Code} {Z : Zt} {b : Nat} (C : Cx p s m args c cX5_failureAt RX5 Z b) (hml : c.maxLocals = 6) (hr : meth.sig.returnType = (some .int)) (hlk : meth.locks = false) {r' : Int32} {M' : Mem} {M : Mem} {x1 : Int32} (h : f_X5_failureAt_0 M x1 = some (r', M')) {H : Heap} {locs : List Loc} {ls : Array Slot} (hS : va_S (A0 b) s.heap H locs) (hW : Wd Z b M H) (hl : lv_has ls 6 [(0, .ref (b + 156)), (1, .int x1)]) : W p l e rm_X5_failureAt s m args below meth c H locs 0 0 (MQ below (Qn Z b (some (.int r')) M') args s 0 0 (A0 b)) (F0 m 0 ls []) := by
  unfold f_X5_failureAt_0 at h
  have hx := C.1
  have hb := C.2.1
  refine lv_iconst (v := (-1 : Int32)) hx hb dX5_failureAt_0 (by decide) ?_
  refine lv_istore_n (lv' := [(2, .int (-1 : Int32)), (0, .ref (b + 156)), (1, .int x1)]) hx hb dX5_failureAt_1 rfl hl (by decide) rfl (fun ls hl => ?_)
  refine lv_iconst (v := (0 : Int32)) hx hb dX5_failureAt_2 (by decide) ?_
  refine lv_istore_n (lv' := [(3, .int (0 : Int32)), (2, .int (-1 : Int32)), (0, .ref (b + 156)), (1, .int x1)]) hx hb dX5_failureAt_3 rfl hl (by decide) rfl (fun ls hl => ?_)
  exact w_X5_failureAt_4 C hml hr hlk 64 h hS hW (lv_sub hl [2, 3, 1, 0] rfl)
def f_X5_failureAt (M : Mem) (x1 : Int32) : Option (Int32 × Mem) := f_X5_failureAt_0 M x1
set_option maxHeartbeats 4000000 in
set_option maxRecDepth 100000 in
theorem c_X5_failureAt {l : Launch} {Z : Zt} {b : Nat} {M : Mem} {x1 : Int32} {r' : Int32} {M' : Mem} (h : f_X5_failureAt M x1 = some (r', M')) : Ct l yX5_failureAt cX5_failureAt 6 (some .int) rm_X5_failureAt Z b [.ref (b + 156), .int x1] M (some (.int r')) M' := by
  refine Met.ofW (cc := cX5_failureAt) (maxL := 6) (ret := (some .int)) (by decide) rfl ?_
  intro p e s m args below meth c s₁ B hml hv
  obtain ⟨rfl, hE, hW⟩ := hv
  have C : Cx p s m [.ref (b + 156), .int x1].toArray c cX5_failureAt RX5 Z b := ⟨B.exec, B.bytes, findClass_of_methodNamed B.named, fun w hw => atoms_spec (ws := Cond.code yX5_failureAt cX5_failureAt 6 (some .int) :: wsA) B.pre w (List.mem_cons_of_mem _ hw), hE⟩
  have hl := lv_entry [.ref (b + 156), .int x1] (n := 6) (Nat.le_of_ble_eq_true rfl)
  rw [lg_entry_eq]
  generalize (lg_sl [.ref (b + 156), .int x1] ++ List.replicate (6 - (lg_sl [.ref (b + 156), .int x1]).length) Slot.unset).toArray = ls at hl ⊢
  have hl : lv_has ls 6 [(0, .ref (b + 156)), (1, .int x1)] := hl
  exact w_X5_failureAt_0 C hml B.returns B.notSynchronized h va_S.rf hW hl
def f_X5_digits_0 (M : Mem) (x0 : Int32) : Option (Int32 × Mem) :=
  if x0 ≤ (999 : Int32) then (if x0 ≤ (99 : Int32) then (if x0 ≤ (9 : Int32) then (if x0 ≤ 0 then some ((0 : Int32), M) else some ((1 : Int32), M)) else some ((2 : Int32), M)) else some ((3 : Int32), M)) else some ((4 : Int32), M)
set_option maxHeartbeats 4000000 in
set_option maxRecDepth 100000 in
theorem w_X5_digits_0 {p : Program} {l : Launch} {e : Env} {s : State} {m : MethodId} {args : Array Value} {below : List Frame} {meth : Method} {c : Code} {Z : Zt} {b : Nat} (C : Cx p s m args c cX5_digits RX5 Z b) (hml : c.maxLocals = 1) (hr : meth.sig.returnType = (some .int)) (hlk : meth.locks = false) {r' : Int32} {M' : Mem} {M : Mem} {x0 : Int32} (h : f_X5_digits_0 M x0 = some (r', M')) {H : Heap} {locs : List Loc} {ls : Array Slot} (hS : va_S (A0 b) s.heap H locs) (hW : Wd Z b M H) (hl : lv_has ls 1 [(0, .int x0)]) : W p l e rm_X5_digits s m args below meth c H locs 0 0 (MQ below (Qn Z b (some (.int r')) M') args s 0 0 (A0 b)) (F0 m 0 ls []) := by
  unfold f_X5_digits_0 at h
  have hx := C.1
  have hb := C.2.1
  refine lv_iload_n hx hb dX5_digits_0 rfl (lv_at hl 0 rfl) ?_
  refine lv_sipush (v := (999 : Int32)) hx hb dX5_digits_1 (by decide) ?_
  refine lv_icmp_le (tgt := 11) hx hb dX5_digits_4 (by decide) (fun c4 => ?_) (fun c4 => ?_)
  · have h := (if_pos c4).symm.trans h
    refine lv_iload_n hx hb dX5_digits_11 rfl (lv_at hl 0 rfl) ?_
    refine lv_bipush (v := (99 : Int32)) hx hb dX5_digits_12 (by decide) ?_
    refine lv_icmp_le (tgt := 21) hx hb dX5_digits_14 (by decide) (fun c14 => ?_) (fun c14 => ?_)
    · have h := (if_pos c14).symm.trans h
      refine lv_iload_n hx hb dX5_digits_21 rfl (lv_at hl 0 rfl) ?_
      refine lv_bipush (v := (9 : Int32)) hx hb dX5_digits_22 (by decide) ?_
      refine lv_icmp_le (tgt := 31) hx hb dX5_digits_24 (by decide) (fun c24 => ?_) (fun c24 => ?_)
      · have h := (if_pos c24).symm.trans h
        refine lv_iload_n hx hb dX5_digits_31 rfl (lv_at hl 0 rfl) ?_
        refine lv_if_le (tgt := 39) hx hb dX5_digits_32 (by decide) (fun c32 => ?_) (fun c32 => ?_)
        · have h := (if_pos c32).symm.trans h
          refine lv_iconst (v := (0 : Int32)) hx hb dX5_digits_39 (by decide) ?_
          cases h
          exact ret_i C hr hlk hS hW dX5_digits_40
        · have h := (if_neg c32).symm.trans h
          refine lv_iconst (v := (1 : Int32)) hx hb dX5_digits_35 (by decide) ?_
          refine lv_goto (tgt := 40) hx hb dX5_digits_36 (by decide) ?_
          cases h
          exact ret_i C hr hlk hS hW dX5_digits_40
      · have h := (if_neg c24).symm.trans h
        refine lv_iconst (v := (2 : Int32)) hx hb dX5_digits_27 (by decide) ?_
        refine lv_goto (tgt := 40) hx hb dX5_digits_28 (by decide) ?_
        cases h
        exact ret_i C hr hlk hS hW dX5_digits_40
    · have h := (if_neg c14).symm.trans h
      refine lv_iconst (v := (3 : Int32)) hx hb dX5_digits_17 (by decide) ?_
      refine lv_goto (tgt := 40) hx hb dX5_digits_18 (by decide) ?_
      cases h
      exact ret_i C hr hlk hS hW dX5_digits_40
  · have h := (if_neg c4).symm.trans h
    refine lv_iconst (v := (4 : Int32)) hx hb dX5_digits_7 (by decide) ?_
    refine lv_goto (tgt := 40) hx hb dX5_digits_8 (by decide) ?_
    cases h
    exact ret_i C hr hlk hS hW dX5_digits_40
def f_X5_digits (M : Mem) (x0 : Int32) : Option (Int32 × Mem) := f_X5_digits_0 M x0
set_option maxHeartbeats 4000000 in
set_option maxRecDepth 100000 in
theorem c_X5_digits {l : Launch} {Z : Zt} {b : Nat} {M : Mem} {x0 : Int32} {r' : Int32} {M' : Mem} (h : f_X5_digits M x0 = some (r', M')) : Ct l yX5_digits cX5_digits 1 (some .int) rm_X5_digits Z b [.int x0] M (some (.int r')) M' := by
  refine Met.ofW (cc := cX5_digits) (maxL := 1) (ret := (some .int)) (by decide) rfl ?_
  intro p e s m args below meth c s₁ B hml hv
  obtain ⟨rfl, hE, hW⟩ := hv
  have C : Cx p s m [.int x0].toArray c cX5_digits RX5 Z b := ⟨B.exec, B.bytes, findClass_of_methodNamed B.named, fun w hw => atoms_spec (ws := Cond.code yX5_digits cX5_digits 1 (some .int) :: wsA) B.pre w (List.mem_cons_of_mem _ hw), hE⟩
  have hl := lv_entry [.int x0] (n := 1) (Nat.le_of_ble_eq_true rfl)
  rw [lg_entry_eq]
  generalize (lg_sl [.int x0] ++ List.replicate (1 - (lg_sl [.int x0]).length) Slot.unset).toArray = ls at hl ⊢
  have hl : lv_has ls 1 [(0, .int x0)] := hl
  exact w_X5_digits_0 C hml B.returns B.notSynchronized h va_S.rf hW hl
def f_X5_power_7B (K7 : Mem → Int32 → Int32 → Int32 → Option (Int32 × Mem)) (M : Mem) (x0 : Int32) (x2 : Int32) (x3 : Int32) : Option (Int32 × Mem) :=
  bd2 (f_X5_digits M x0) (fun r9 M9 => if r9 ≤ x3 then some (x2, M9) else K7 M9 x0 (x2 * (10 : Int32)) (x3 + 1))
def f_X5_power_7 : Nat → Mem → Int32 → Int32 → Int32 → Option (Int32 × Mem)
  | 0 => fun _ _ _ _ => none
  | n + 1 => f_X5_power_7B (f_X5_power_7 n)
set_option maxHeartbeats 4000000 in
set_option maxRecDepth 100000 in
theorem w_X5_power_7 {p : Program} {l : Launch} {e : Env} {s : State} {m : MethodId} {args : Array Value} {below : List Frame} {meth : Method} {c : Code} {Z : Zt} {b : Nat} (C : Cx p s m args c cX5_power RX5 Z b) (hml : c.maxLocals = 4) (hr : meth.sig.returnType = (some .int)) (hlk : meth.locks = false) {r' : Int32} {M' : Mem} : ∀ (n : Nat) {M : Mem} {x0 : Int32} {x2 : Int32} {x3 : Int32} (h : f_X5_power_7 n M x0 x2 x3 = some (r', M')) {H : Heap} {locs : List Loc} {ls : Array Slot} (hS : va_S (A0 b) s.heap H locs) (hW : Wd Z b M H) (hl : lv_has ls 4 [(0, .int x0), (2, .int x2), (3, .int x3)]), W p l e rm_X5_power s m args below meth c H locs 0 0 (MQ below (Qn Z b (some (.int r')) M') args s 0 0 (A0 b)) (F0 m 7 ls []) := by
  intro n
  induction n with
  | zero =>
    intro M x0 x2 x3 h
    cases h
  | succ n ih =>
    intro M x0 x2 x3 h H locs ls hS hW hl
    have h : f_X5_power_7B (f_X5_power_7 n) M x0 x2 x3 = some (r', M') := h
    unfold f_X5_power_7B at h
    have hK7 := @ih
    have hx := C.1
    have hb := C.2.1
    refine lv_iload_n hx hb dX5_power_7 rfl (lv_at hl 2 rfl) ?_
    refine lv_iload_n hx hb dX5_power_8 rfl (lv_at hl 0 rfl) ?_
    obtain ⟨r9, M9, hc9, h⟩ := bd2_e h
    refine kX5_134 C hml hl.1 (c_X5_digits hc9) ⟨Nat.le_of_ble_eq_true rfl, Nat.le_of_ble_eq_true rfl⟩ ⟨Nat.le_of_ble_eq_true rfl, Nat.le_of_ble_eq_true rfl⟩ (Nat.le_of_ble_eq_true rfl) hS hW dX5_power_9 (fun H locs hW hS => ?_)
    refine lv_icmp_ge (tgt := 26) hx hb dX5_power_12 (by decide) (fun c12 => ?_) (fun c12 => ?_)
    · have h := (if_pos c12).symm.trans h
      refine lv_iload_n hx hb dX5_power_26 rfl (lv_at hl 1 rfl) ?_
      cases h
      exact ret_i C hr hlk hS hW dX5_power_27
    · have h := (if_neg c12).symm.trans h
      refine lv_iload_n hx hb dX5_power_15 rfl (lv_at hl 1 rfl) ?_
      refine lv_bipush (v := (10 : Int32)) hx hb dX5_power_16 (by decide) ?_
      refine lv_imul hx hb dX5_power_18 ?_
      refine lv_istore_n (lv' := [(2, .int (x2 * (10 : Int32))), (0, .int x0), (3, .int x3)]) hx hb dX5_power_19 rfl hl (by decide) rfl (fun ls hl => ?_)
      refine lv_iinc (v := x3 + 1) (lv' := [(3, .int (x3 + 1)), (2, .int (x2 * (10 : Int32))), (0, .int x0)]) hx hb dX5_power_20 hl (k := 2) rfl rfl (by decide) rfl (fun ls hl => ?_)
      refine lv_goto (tgt := 7) hx hb dX5_power_23 (by decide) ?_
      exact hK7 h hS hW (lv_sub hl [2, 1, 0] rfl)
def f_X5_power_0 (M : Mem) (x0 : Int32) (x1 : Int32) : Option (Int32 × Mem) :=
  bd2 (f_X5_digits M x1) (fun r3 M3 => f_X5_power_7 64 M3 x0 (1 : Int32) r3)
set_option maxHeartbeats 4000000 in
set_option maxRecDepth 100000 in
theorem w_X5_power_0 {p : Program} {l : Launch} {e : Env} {s : State} {m : MethodId} {args : Array Value} {below : List Frame} {meth : Method} {c : Code} {Z : Zt} {b : Nat} (C : Cx p s m args c cX5_power RX5 Z b) (hml : c.maxLocals = 4) (hr : meth.sig.returnType = (some .int)) (hlk : meth.locks = false) {r' : Int32} {M' : Mem} {M : Mem} {x0 : Int32} {x1 : Int32} (h : f_X5_power_0 M x0 x1 = some (r', M')) {H : Heap} {locs : List Loc} {ls : Array Slot} (hS : va_S (A0 b) s.heap H locs) (hW : Wd Z b M H) (hl : lv_has ls 4 [(0, .int x0), (1, .int x1)]) : W p l e rm_X5_power s m args below meth c H locs 0 0 (MQ below (Qn Z b (some (.int r')) M') args s 0 0 (A0 b)) (F0 m 0 ls []) := by
  unfold f_X5_power_0 at h
  have hx := C.1
  have hb := C.2.1
  refine lv_iconst (v := (1 : Int32)) hx hb dX5_power_0 (by decide) ?_
  refine lv_istore_n (lv' := [(2, .int (1 : Int32)), (0, .int x0), (1, .int x1)]) hx hb dX5_power_1 rfl hl (by decide) rfl (fun ls hl => ?_)
  refine lv_iload_n hx hb dX5_power_2 rfl (lv_at hl 2 rfl) ?_
  obtain ⟨r3, M3, hc3, h⟩ := bd2_e h
  refine kX5_134 C hml hl.1 (c_X5_digits hc3) ⟨Nat.le_of_ble_eq_true rfl, Nat.le_of_ble_eq_true rfl⟩ ⟨Nat.le_of_ble_eq_true rfl, Nat.le_of_ble_eq_true rfl⟩ (Nat.le_of_ble_eq_true rfl) hS hW dX5_power_3 (fun H locs hW hS => ?_)
  refine lv_istore_n (lv' := [(3, .int r3), (2, .int (1 : Int32)), (0, .int x0), (1, .int x1)]) hx hb dX5_power_6 rfl hl (by decide) rfl (fun ls hl => ?_)
  exact w_X5_power_7 C hml hr hlk 64 h hS hW (lv_sub hl [2, 1, 0] rfl)
def f_X5_power (M : Mem) (x0 : Int32) (x1 : Int32) : Option (Int32 × Mem) := f_X5_power_0 M x0 x1
set_option maxHeartbeats 4000000 in
set_option maxRecDepth 100000 in
theorem c_X5_power {l : Launch} {Z : Zt} {b : Nat} {M : Mem} {x0 : Int32} {x1 : Int32} {r' : Int32} {M' : Mem} (h : f_X5_power M x0 x1 = some (r', M')) : Ct l yX5_power cX5_power 4 (some .int) rm_X5_power Z b [.int x0, .int x1] M (some (.int r')) M' := by
  refine Met.ofW (cc := cX5_power) (maxL := 4) (ret := (some .int)) (by decide) rfl ?_
  intro p e s m args below meth c s₁ B hml hv
  obtain ⟨rfl, hE, hW⟩ := hv
  have C : Cx p s m [.int x0, .int x1].toArray c cX5_power RX5 Z b := ⟨B.exec, B.bytes, findClass_of_methodNamed B.named, fun w hw => atoms_spec (ws := Cond.code yX5_power cX5_power 4 (some .int) :: wsA) B.pre w (List.mem_cons_of_mem _ hw), hE⟩
  have hl := lv_entry [.int x0, .int x1] (n := 4) (Nat.le_of_ble_eq_true rfl)
  rw [lg_entry_eq]
  generalize (lg_sl [.int x0, .int x1] ++ List.replicate (4 - (lg_sl [.int x0, .int x1]).length) Slot.unset).toArray = ls at hl ⊢
  have hl : lv_has ls 4 [(0, .int x0), (1, .int x1)] := hl
  exact w_X5_power_0 C hml B.returns B.notSynchronized h va_S.rf hW hl
def f_X5_lowest_43 (K4 : Mem → Int32 → Int32 → Option (Int32 × Mem)) (M : Mem) (x2 : Int32) (xs0 : Int32) : Option (Int32 × Mem) :=
  K4 M xs0 (x2 + 1)
set_option maxHeartbeats 4000000 in
set_option maxRecDepth 100000 in
theorem w_X5_lowest_43 {p : Program} {l : Launch} {e : Env} {s : State} {m : MethodId} {args : Array Value} {below : List Frame} {meth : Method} {c : Code} {Z : Zt} {b : Nat} (C : Cx p s m args c cX5_lowest RX5 Z b) (hml : c.maxLocals = 3) (hr : meth.sig.returnType = (some .int)) (hlk : meth.locks = false) {r' : Int32} {M' : Mem} {K4 : Mem → Int32 → Int32 → Option (Int32 × Mem)} (hK4 : ∀ {M : Mem} {x1 : Int32} {x2 : Int32} (h : K4 M x1 x2 = some (r', M')) {H : Heap} {locs : List Loc} {ls : Array Slot} (hS : va_S (A0 b) s.heap H locs) (hW : Wd Z b M H) (hl : lv_has ls 3 [(0, .ref (b + 156)), (1, .int x1), (2, .int x2)]), W p l e rm_X5_lowest s m args below meth c H locs 0 0 (MQ below (Qn Z b (some (.int r')) M') args s 0 0 (A0 b)) (F0 m 4 ls [])) {M : Mem} {x2 : Int32} {xs0 : Int32} (h : f_X5_lowest_43 K4 M x2 xs0 = some (r', M')) {H : Heap} {locs : List Loc} {ls : Array Slot} (hS : va_S (A0 b) s.heap H locs) (hW : Wd Z b M H) (hl : lv_has ls 3 [(0, .ref (b + 156)), (2, .int x2)]) : W p l e rm_X5_lowest s m args below meth c H locs 0 0 (MQ below (Qn Z b (some (.int r')) M') args s 0 0 (A0 b)) (F0 m 43 ls [.int xs0]) := by
  unfold f_X5_lowest_43 at h
  have hx := C.1
  have hb := C.2.1
  refine lv_istore_n (lv' := [(1, .int xs0), (0, .ref (b + 156)), (2, .int x2)]) hx hb dX5_lowest_43 rfl hl (by decide) rfl (fun ls hl => ?_)
  refine lv_iinc (v := x2 + 1) (lv' := [(2, .int (x2 + 1)), (1, .int xs0), (0, .ref (b + 156))]) hx hb dX5_lowest_44 hl (k := 2) rfl rfl (by decide) rfl (fun ls hl => ?_)
  refine lv_goto (tgt := 4) hx hb dX5_lowest_47 (by decide) ?_
  exact hK4 h hS hW (lv_sub hl [2, 1, 0] rfl)
def f_X5_lowest_42 (K4 : Mem → Int32 → Int32 → Option (Int32 × Mem)) (M : Mem) (x1 : Int32) (x2 : Int32) : Option (Int32 × Mem) :=
  f_X5_lowest_43 K4 M x2 x1
set_option maxHeartbeats 4000000 in
set_option maxRecDepth 100000 in
theorem w_X5_lowest_42 {p : Program} {l : Launch} {e : Env} {s : State} {m : MethodId} {args : Array Value} {below : List Frame} {meth : Method} {c : Code} {Z : Zt} {b : Nat} (C : Cx p s m args c cX5_lowest RX5 Z b) (hml : c.maxLocals = 3) (hr : meth.sig.returnType = (some .int)) (hlk : meth.locks = false) {r' : Int32} {M' : Mem} {K4 : Mem → Int32 → Int32 → Option (Int32 × Mem)} (hK4 : ∀ {M : Mem} {x1 : Int32} {x2 : Int32} (h : K4 M x1 x2 = some (r', M')) {H : Heap} {locs : List Loc} {ls : Array Slot} (hS : va_S (A0 b) s.heap H locs) (hW : Wd Z b M H) (hl : lv_has ls 3 [(0, .ref (b + 156)), (1, .int x1), (2, .int x2)]), W p l e rm_X5_lowest s m args below meth c H locs 0 0 (MQ below (Qn Z b (some (.int r')) M') args s 0 0 (A0 b)) (F0 m 4 ls [])) {M : Mem} {x1 : Int32} {x2 : Int32} (h : f_X5_lowest_42 K4 M x1 x2 = some (r', M')) {H : Heap} {locs : List Loc} {ls : Array Slot} (hS : va_S (A0 b) s.heap H locs) (hW : Wd Z b M H) (hl : lv_has ls 3 [(0, .ref (b + 156)), (1, .int x1), (2, .int x2)]) : W p l e rm_X5_lowest s m args below meth c H locs 0 0 (MQ below (Qn Z b (some (.int r')) M') args s 0 0 (A0 b)) (F0 m 42 ls []) := by
  unfold f_X5_lowest_42 at h
  have hx := C.1
  have hb := C.2.1
  refine lv_iload_n hx hb dX5_lowest_42 rfl (lv_at hl 1 rfl) ?_
  exact w_X5_lowest_43 C hml hr hlk hK4 h hS hW (lv_sub hl [0, 2] rfl)
def f_X5_lowest_38 (K4 : Mem → Int32 → Int32 → Option (Int32 × Mem)) (M : Mem) (x2 : Int32) : Option (Int32 × Mem) :=
  f_X5_lowest_43 K4 M x2 x2
set_option maxHeartbeats 4000000 in
set_option maxRecDepth 100000 in
theorem w_X5_lowest_38 {p : Program} {l : Launch} {e : Env} {s : State} {m : MethodId} {args : Array Value} {below : List Frame} {meth : Method} {c : Code} {Z : Zt} {b : Nat} (C : Cx p s m args c cX5_lowest RX5 Z b) (hml : c.maxLocals = 3) (hr : meth.sig.returnType = (some .int)) (hlk : meth.locks = false) {r' : Int32} {M' : Mem} {K4 : Mem → Int32 → Int32 → Option (Int32 × Mem)} (hK4 : ∀ {M : Mem} {x1 : Int32} {x2 : Int32} (h : K4 M x1 x2 = some (r', M')) {H : Heap} {locs : List Loc} {ls : Array Slot} (hS : va_S (A0 b) s.heap H locs) (hW : Wd Z b M H) (hl : lv_has ls 3 [(0, .ref (b + 156)), (1, .int x1), (2, .int x2)]), W p l e rm_X5_lowest s m args below meth c H locs 0 0 (MQ below (Qn Z b (some (.int r')) M') args s 0 0 (A0 b)) (F0 m 4 ls [])) {M : Mem} {x2 : Int32} (h : f_X5_lowest_38 K4 M x2 = some (r', M')) {H : Heap} {locs : List Loc} {ls : Array Slot} (hS : va_S (A0 b) s.heap H locs) (hW : Wd Z b M H) (hl : lv_has ls 3 [(0, .ref (b + 156)), (2, .int x2)]) : W p l e rm_X5_lowest s m args below meth c H locs 0 0 (MQ below (Qn Z b (some (.int r')) M') args s 0 0 (A0 b)) (F0 m 38 ls []) := by
  unfold f_X5_lowest_38 at h
  have hx := C.1
  have hb := C.2.1
  refine lv_iload_n hx hb dX5_lowest_38 rfl (lv_at hl 1 rfl) ?_
  refine lv_goto (tgt := 43) hx hb dX5_lowest_39 (by decide) ?_
  exact w_X5_lowest_43 C hml hr hlk hK4 h hS hW (lv_sub hl [0, 1] rfl)
def f_X5_lowest_4B (K4 : Mem → Int32 → Int32 → Option (Int32 × Mem)) (M : Mem) (x1 : Int32) (x2 : Int32) : Option (Int32 × Mem) :=
  if (60 : Int32) ≤ x2 then some (x1, M) else if x2 < 0 ∨ 60 ≤ x2.toNatClampNeg then none else if (M 37 x2.toNatClampNeg) = 0 then f_X5_lowest_42 K4 M x1 x2 else if x1 < 0 then f_X5_lowest_38 K4 M x2 else if x2 < 0 ∨ 60 ≤ x2.toNatClampNeg then none else if x1 < 0 ∨ 60 ≤ x1.toNatClampNeg then none else if (M 24 x1.toNatClampNeg) ≤ (M 24 x2.toNatClampNeg) then f_X5_lowest_42 K4 M x1 x2 else f_X5_lowest_38 K4 M x2
def f_X5_lowest_4 : Nat → Mem → Int32 → Int32 → Option (Int32 × Mem)
  | 0 => fun _ _ _ => none
  | n + 1 => f_X5_lowest_4B (f_X5_lowest_4 n)
set_option maxHeartbeats 4000000 in
set_option maxRecDepth 100000 in
theorem w_X5_lowest_4 {p : Program} {l : Launch} {e : Env} {s : State} {m : MethodId} {args : Array Value} {below : List Frame} {meth : Method} {c : Code} {Z : Zt} {b : Nat} (C : Cx p s m args c cX5_lowest RX5 Z b) (hml : c.maxLocals = 3) (hr : meth.sig.returnType = (some .int)) (hlk : meth.locks = false) {r' : Int32} {M' : Mem} : ∀ (n : Nat) {M : Mem} {x1 : Int32} {x2 : Int32} (h : f_X5_lowest_4 n M x1 x2 = some (r', M')) {H : Heap} {locs : List Loc} {ls : Array Slot} (hS : va_S (A0 b) s.heap H locs) (hW : Wd Z b M H) (hl : lv_has ls 3 [(0, .ref (b + 156)), (1, .int x1), (2, .int x2)]), W p l e rm_X5_lowest s m args below meth c H locs 0 0 (MQ below (Qn Z b (some (.int r')) M') args s 0 0 (A0 b)) (F0 m 4 ls []) := by
  intro n
  induction n with
  | zero =>
    intro M x1 x2 h
    cases h
  | succ n ih =>
    intro M x1 x2 h H locs ls hS hW hl
    have h : f_X5_lowest_4B (f_X5_lowest_4 n) M x1 x2 = some (r', M') := h
    unfold f_X5_lowest_4B at h
    have hK4 := @ih
    have hx := C.1
    have hb := C.2.1
    refine lv_iload_n hx hb dX5_lowest_4 rfl (lv_at hl 2 rfl) ?_
    refine lv_bipush (v := (60 : Int32)) hx hb dX5_lowest_5 (by decide) ?_
    refine lv_icmp_ge (tgt := 50) hx hb dX5_lowest_7 (by decide) (fun c7 => ?_) (fun c7 => ?_)
    · have h := (if_pos c7).symm.trans h
      refine lv_iload_n hx hb dX5_lowest_50 rfl (lv_at hl 1 rfl) ?_
      cases h
      exact ret_i C hr hlk hS hW dX5_lowest_51
    · have h := (if_neg c7).symm.trans h
      refine lv_aload_n hx hb dX5_lowest_10 rfl (lv_at hl 0 rfl) ?_
      refine gX5_50 C hW dX5_lowest_11 ?_
      refine lv_iload_n hx hb dX5_lowest_14 rfl (lv_at hl 2 rfl) ?_
      obtain ⟨g15, h⟩ := gd h
      refine ald_170 C hW g15 dX5_lowest_15 ?_
      refine lv_if_eq (tgt := 42) hx hb dX5_lowest_16 (by decide) (fun c16 => ?_) (fun c16 => ?_)
      · have h := (if_pos c16).symm.trans h
        exact w_X5_lowest_42 C hml hr hlk hK4 h hS hW (lv_sub hl [0, 1, 2] rfl)
      · have h := (if_neg c16).symm.trans h
        refine lv_iload_n hx hb dX5_lowest_19 rfl (lv_at hl 1 rfl) ?_
        refine lv_if_lt (tgt := 38) hx hb dX5_lowest_20 (by decide) (fun c20 => ?_) (fun c20 => ?_)
        · have h := (if_pos c20).symm.trans h
          exact w_X5_lowest_38 C hml hr hlk hK4 h hS hW (lv_sub hl [0, 2] rfl)
        · have h := (if_neg c20).symm.trans h
          refine lv_aload_n hx hb dX5_lowest_23 rfl (lv_at hl 0 rfl) ?_
          refine gX5_23 C hW dX5_lowest_24 ?_
          refine lv_iload_n hx hb dX5_lowest_27 rfl (lv_at hl 2 rfl) ?_
          obtain ⟨g28, h⟩ := gd h
          refine ald_161 C hW g28 dX5_lowest_28 ?_
          refine lv_aload_n hx hb dX5_lowest_29 rfl (lv_at hl 0 rfl) ?_
          refine gX5_23 C hW dX5_lowest_30 ?_
          refine lv_iload_n hx hb dX5_lowest_33 rfl (lv_at hl 1 rfl) ?_
          obtain ⟨g34, h⟩ := gd h
          refine ald_161 C hW g34 dX5_lowest_34 ?_
          refine lv_icmp_ge (tgt := 42) hx hb dX5_lowest_35 (by decide) (fun c35 => ?_) (fun c35 => ?_)
          · have h := (if_pos c35).symm.trans h
            exact w_X5_lowest_42 C hml hr hlk hK4 h hS hW (lv_sub hl [0, 1, 2] rfl)
          · have h := (if_neg c35).symm.trans h
            exact w_X5_lowest_38 C hml hr hlk hK4 h hS hW (lv_sub hl [0, 2] rfl)
def f_X5_lowest_0 (M : Mem) : Option (Int32 × Mem) :=
  f_X5_lowest_4 64 M (-1 : Int32) (0 : Int32)
set_option maxHeartbeats 4000000 in
set_option maxRecDepth 100000 in
theorem w_X5_lowest_0 {p : Program} {l : Launch} {e : Env} {s : State} {m : MethodId} {args : Array Value} {below : List Frame} {meth : Method} {c : Code} {Z : Zt} {b : Nat} (C : Cx p s m args c cX5_lowest RX5 Z b) (hml : c.maxLocals = 3) (hr : meth.sig.returnType = (some .int)) (hlk : meth.locks = false) {r' : Int32} {M' : Mem} {M : Mem} (h : f_X5_lowest_0 M = some (r', M')) {H : Heap} {locs : List Loc} {ls : Array Slot} (hS : va_S (A0 b) s.heap H locs) (hW : Wd Z b M H) (hl : lv_has ls 3 [(0, .ref (b + 156))]) : W p l e rm_X5_lowest s m args below meth c H locs 0 0 (MQ below (Qn Z b (some (.int r')) M') args s 0 0 (A0 b)) (F0 m 0 ls []) := by
  unfold f_X5_lowest_0 at h
  have hx := C.1
  have hb := C.2.1
  refine lv_iconst (v := (-1 : Int32)) hx hb dX5_lowest_0 (by decide) ?_
  refine lv_istore_n (lv' := [(1, .int (-1 : Int32)), (0, .ref (b + 156))]) hx hb dX5_lowest_1 rfl hl (by decide) rfl (fun ls hl => ?_)
  refine lv_iconst (v := (0 : Int32)) hx hb dX5_lowest_2 (by decide) ?_
  refine lv_istore_n (lv' := [(2, .int (0 : Int32)), (1, .int (-1 : Int32)), (0, .ref (b + 156))]) hx hb dX5_lowest_3 rfl hl (by decide) rfl (fun ls hl => ?_)
  exact w_X5_lowest_4 C hml hr hlk 64 h hS hW (lv_sub hl [2, 1, 0] rfl)
def f_X5_lowest (M : Mem) : Option (Int32 × Mem) := f_X5_lowest_0 M
set_option maxHeartbeats 4000000 in
set_option maxRecDepth 100000 in
theorem c_X5_lowest {l : Launch} {Z : Zt} {b : Nat} {M : Mem} {r' : Int32} {M' : Mem} (h : f_X5_lowest M = some (r', M')) : Ct l yX5_lowest cX5_lowest 3 (some .int) rm_X5_lowest Z b [.ref (b + 156)] M (some (.int r')) M' := by
  refine Met.ofW (cc := cX5_lowest) (maxL := 3) (ret := (some .int)) (by decide) rfl ?_
  intro p e s m args below meth c s₁ B hml hv
  obtain ⟨rfl, hE, hW⟩ := hv
  have C : Cx p s m [.ref (b + 156)].toArray c cX5_lowest RX5 Z b := ⟨B.exec, B.bytes, findClass_of_methodNamed B.named, fun w hw => atoms_spec (ws := Cond.code yX5_lowest cX5_lowest 3 (some .int) :: wsA) B.pre w (List.mem_cons_of_mem _ hw), hE⟩
  have hl := lv_entry [.ref (b + 156)] (n := 3) (Nat.le_of_ble_eq_true rfl)
  rw [lg_entry_eq]
  generalize (lg_sl [.ref (b + 156)] ++ List.replicate (3 - (lg_sl [.ref (b + 156)]).length) Slot.unset).toArray = ls at hl ⊢
  have hl : lv_has ls 3 [(0, .ref (b + 156))] := hl
  exact w_X5_lowest_0 C hml B.returns B.notSynchronized h va_S.rf hW hl

def f_X4_outcomeOfTarget_57 (M : Mem) (x1 : Int32) (x3 : Int32) (x5 : Int32) : Option (Int32 × Mem) :=
  bd2 (f_X4_allowsWithParent M x1 x3 x5) (fun r62 M62 => if r62 = 0 then some ((4 : Int32), M62) else bd2 (f_X4_allowsTree M62 x1 x3 x5) (fun r73 M73 => if r73 = 0 then some ((4 : Int32), M73) else some ((0 : Int32), M73)))
set_option maxHeartbeats 4000000 in
set_option maxRecDepth 100000 in
theorem w_X4_outcomeOfTarget_57 {p : Program} {l : Launch} {e : Env} {s : State} {m : MethodId} {args : Array Value} {below : List Frame} {meth : Method} {c : Code} {Z : Zt} {b : Nat} (C : Cx p s m args c cX4_outcomeOfTarget RX4 Z b) (hml : c.maxLocals = 6) (hr : meth.sig.returnType = (some .int)) (hlk : meth.locks = false) {r' : Int32} {M' : Mem} {M : Mem} {x1 : Int32} {x3 : Int32} {x5 : Int32} (h : f_X4_outcomeOfTarget_57 M x1 x3 x5 = some (r', M')) {H : Heap} {locs : List Loc} {ls : Array Slot} (hS : va_S (A0 b) s.heap H locs) (hW : Wd Z b M H) (hl : lv_has ls 6 [(0, .ref (b + 0)), (1, .int x1), (3, .int x3), (5, .int x5)]) : W p l e rm_X4_outcomeOfTarget s m args below meth c H locs 0 0 (MQ below (Qn Z b (some (.int r')) M') args s 0 0 (A0 b)) (F0 m 57 ls []) := by
  unfold f_X4_outcomeOfTarget_57 at h
  have hx := C.1
  have hb := C.2.1
  refine lv_aload_n hx hb dX4_outcomeOfTarget_57 rfl (lv_at hl 0 rfl) ?_
  refine lv_iload_n hx hb dX4_outcomeOfTarget_58 rfl (lv_at hl 1 rfl) ?_
  refine lv_iload_n hx hb dX4_outcomeOfTarget_59 rfl (lv_at hl 2 rfl) ?_
  refine lv_iload hx hb dX4_outcomeOfTarget_60 (lv_at hl 3 rfl) ?_
  obtain ⟨r62, M62, hc62, h⟩ := bd2_e h
  refine kX4_53 C hml hl.1 (c_X4_allowsWithParent hc62) ⟨Nat.le_of_ble_eq_true rfl, Nat.le_of_ble_eq_true rfl⟩ ⟨Nat.le_of_ble_eq_true rfl, Nat.le_of_ble_eq_true rfl⟩ (Nat.le_of_ble_eq_true rfl) hS hW dX4_outcomeOfTarget_62 (fun H locs hW hS => ?_)
  refine lv_if_eq (tgt := 79) hx hb dX4_outcomeOfTarget_65 (by decide) (fun c65 => ?_) (fun c65 => ?_)
  · have h := (if_pos c65).symm.trans h
    refine lv_iconst (v := (4 : Int32)) hx hb dX4_outcomeOfTarget_79 (by decide) ?_
    cases h
    exact ret_i C hr hlk hS hW dX4_outcomeOfTarget_80
  · have h := (if_neg c65).symm.trans h
    refine lv_aload_n hx hb dX4_outcomeOfTarget_68 rfl (lv_at hl 0 rfl) ?_
    refine lv_iload_n hx hb dX4_outcomeOfTarget_69 rfl (lv_at hl 1 rfl) ?_
    refine lv_iload_n hx hb dX4_outcomeOfTarget_70 rfl (lv_at hl 2 rfl) ?_
    refine lv_iload hx hb dX4_outcomeOfTarget_71 (lv_at hl 3 rfl) ?_
    obtain ⟨r73, M73, hc73, h⟩ := bd2_e h
    refine kX4_114 C hml hl.1 (c_X4_allowsTree hc73) ⟨Nat.le_of_ble_eq_true rfl, Nat.le_of_ble_eq_true rfl⟩ ⟨Nat.le_of_ble_eq_true rfl, Nat.le_of_ble_eq_true rfl⟩ (Nat.le_of_ble_eq_true rfl) hS hW dX4_outcomeOfTarget_73 (fun H locs hW hS => ?_)
    refine lv_if_ne (tgt := 81) hx hb dX4_outcomeOfTarget_76 (by decide) (fun c76 => ?_) (fun c76 => ?_)
    · have h := (if_neg c76).symm.trans h
      refine lv_iconst (v := (0 : Int32)) hx hb dX4_outcomeOfTarget_81 (by decide) ?_
      cases h
      exact ret_i C hr hlk hS hW dX4_outcomeOfTarget_82
    · have h := (if_pos c76).symm.trans h
      refine lv_iconst (v := (4 : Int32)) hx hb dX4_outcomeOfTarget_79 (by decide) ?_
      cases h
      exact ret_i C hr hlk hS hW dX4_outcomeOfTarget_80
def f_X4_outcomeOfTarget_0 (M : Mem) (x1 : Int32) (x2 : Int32) (x3 : Int32) (x4 : Int32) (x5 : Int32) : Option (Int32 × Mem) :=
  bd2 (f_X3_find M x2) (fun q5 M5 => oe q5 (some ((1 : Int32), M5)) (fun k5 => if 60 ≤ k5 then none else bd2 (f_X4_parentOf M5 x3) (fun r16 M16 => bd2 (f_X3_isCollection M16 r16) (fun r19 M19 => if r19 = 0 then some ((1 : Int32), M19) else bd2 (f_X3_fits M19 x2 x3) (fun r31 M31 => if r31 = 0 then some ((1 : Int32), M31) else if x4 = 0 then bd2 (f_X3_find M31 x3) (fun q49 M49 => oe q49 (f_X4_outcomeOfTarget_57 M49 x1 x3 x5) (fun k49 => if 60 ≤ k49 then none else some ((2 : Int32), M49))) else f_X4_outcomeOfTarget_57 M31 x1 x3 x5)))))
set_option maxHeartbeats 4000000 in
set_option maxRecDepth 100000 in
theorem w_X4_outcomeOfTarget_0 {p : Program} {l : Launch} {e : Env} {s : State} {m : MethodId} {args : Array Value} {below : List Frame} {meth : Method} {c : Code} {Z : Zt} {b : Nat} (C : Cx p s m args c cX4_outcomeOfTarget RX4 Z b) (hml : c.maxLocals = 6) (hr : meth.sig.returnType = (some .int)) (hlk : meth.locks = false) {r' : Int32} {M' : Mem} {M : Mem} {x1 : Int32} {x2 : Int32} {x3 : Int32} {x4 : Int32} {x5 : Int32} (h : f_X4_outcomeOfTarget_0 M x1 x2 x3 x4 x5 = some (r', M')) {H : Heap} {locs : List Loc} {ls : Array Slot} (hS : va_S (A0 b) s.heap H locs) (hW : Wd Z b M H) (hl : lv_has ls 6 [(0, .ref (b + 0)), (1, .int x1), (2, .int x2), (3, .int x3), (4, .int x4), (5, .int x5)]) : W p l e rm_X4_outcomeOfTarget s m args below meth c H locs 0 0 (MQ below (Qn Z b (some (.int r')) M') args s 0 0 (A0 b)) (F0 m 0 ls []) := by
  unfold f_X4_outcomeOfTarget_0 at h
  have hx := C.1
  have hb := C.2.1
  refine lv_aload_n hx hb dX4_outcomeOfTarget_0 rfl (lv_at hl 0 rfl) ?_
  refine gX4_10 C hW dX4_outcomeOfTarget_1 ?_
  refine lv_iload_n hx hb dX4_outcomeOfTarget_4 rfl (lv_at hl 2 rfl) ?_
  obtain ⟨q5, M5, hc5, h⟩ := bd2_e h
  refine kX4_49 C hml hl.1 (c_X3_find hc5) ⟨Nat.le_of_ble_eq_true rfl, Nat.le_of_ble_eq_true rfl⟩ ⟨Nat.le_of_ble_eq_true rfl, Nat.le_of_ble_eq_true rfl⟩ (Nat.le_of_ble_eq_true rfl) hS hW dX4_outcomeOfTarget_5 (fun H locs hW hS => ?_)
  rcases q5 with _ | k5
  · have h := oe_n h
    refine W.eq (g2 := F0 m 8 ls [.null]) rfl ?_
    refine lv_ifnullN (tgt := 37) hx hb dX4_outcomeOfTarget_8 (by decide) ?_
    refine lv_iconst (v := (1 : Int32)) hx hb dX4_outcomeOfTarget_37 (by decide) ?_
    cases h
    exact ret_i C hr hlk hS hW dX4_outcomeOfTarget_38
  · obtain ⟨g5, h⟩ := gd (oe_s h)
    have hk5 := Nat.lt_of_not_le g5
    refine W.eq (g2 := F0 m 8 ls [.ref (b + (3 + 2 * k5))]) rfl ?_
    refine lv_ifnull hx hb dX4_outcomeOfTarget_8 ?_
    refine lv_aload_n hx hb dX4_outcomeOfTarget_11 rfl (lv_at hl 0 rfl) ?_
    refine gX4_10 C hW dX4_outcomeOfTarget_12 ?_
    refine lv_iload_n hx hb dX4_outcomeOfTarget_15 rfl (lv_at hl 3 rfl) ?_
    obtain ⟨r16, M16, hc16, h⟩ := bd2_e h
    refine kX4_41 C hml hl.1 (c_X4_parentOf hc16) ⟨Nat.le_of_ble_eq_true rfl, Nat.le_of_ble_eq_true rfl⟩ ⟨Nat.le_of_ble_eq_true rfl, Nat.le_of_ble_eq_true rfl⟩ (Nat.le_of_ble_eq_true rfl) hS hW dX4_outcomeOfTarget_16 (fun H locs hW hS => ?_)
    obtain ⟨r19, M19, hc19, h⟩ := bd2_e h
    refine kX4_45 C hml hl.1 (c_X3_isCollection hc19) ⟨Nat.le_of_ble_eq_true rfl, Nat.le_of_ble_eq_true rfl⟩ ⟨Nat.le_of_ble_eq_true rfl, Nat.le_of_ble_eq_true rfl⟩ (Nat.le_of_ble_eq_true rfl) hS hW dX4_outcomeOfTarget_19 (fun H locs hW hS => ?_)
    refine lv_if_eq (tgt := 37) hx hb dX4_outcomeOfTarget_22 (by decide) (fun c22 => ?_) (fun c22 => ?_)
    · have h := (if_pos c22).symm.trans h
      refine lv_iconst (v := (1 : Int32)) hx hb dX4_outcomeOfTarget_37 (by decide) ?_
      cases h
      exact ret_i C hr hlk hS hW dX4_outcomeOfTarget_38
    · have h := (if_neg c22).symm.trans h
      refine lv_aload_n hx hb dX4_outcomeOfTarget_25 rfl (lv_at hl 0 rfl) ?_
      refine gX4_10 C hW dX4_outcomeOfTarget_26 ?_
      refine lv_iload_n hx hb dX4_outcomeOfTarget_29 rfl (lv_at hl 2 rfl) ?_
      refine lv_iload_n hx hb dX4_outcomeOfTarget_30 rfl (lv_at hl 3 rfl) ?_
      obtain ⟨r31, M31, hc31, h⟩ := bd2_e h
      refine kX4_234 C hml hl.1 (c_X3_fits hc31) ⟨Nat.le_of_ble_eq_true rfl, Nat.le_of_ble_eq_true rfl⟩ ⟨Nat.le_of_ble_eq_true rfl, Nat.le_of_ble_eq_true rfl⟩ (Nat.le_of_ble_eq_true rfl) hS hW dX4_outcomeOfTarget_31 (fun H locs hW hS => ?_)
      refine lv_if_ne (tgt := 39) hx hb dX4_outcomeOfTarget_34 (by decide) (fun c34 => ?_) (fun c34 => ?_)
      · have h := (if_neg c34).symm.trans h
        refine lv_iload hx hb dX4_outcomeOfTarget_39 (lv_at hl 4 rfl) ?_
        refine lv_if_ne (tgt := 57) hx hb dX4_outcomeOfTarget_41 (by decide) (fun c41 => ?_) (fun c41 => ?_)
        · have h := (if_neg c41).symm.trans h
          exact w_X4_outcomeOfTarget_57 C hml hr hlk h hS hW (lv_sub hl [0, 1, 3, 5] rfl)
        · have h := (if_pos c41).symm.trans h
          refine lv_aload_n hx hb dX4_outcomeOfTarget_44 rfl (lv_at hl 0 rfl) ?_
          refine gX4_10 C hW dX4_outcomeOfTarget_45 ?_
          refine lv_iload_n hx hb dX4_outcomeOfTarget_48 rfl (lv_at hl 3 rfl) ?_
          obtain ⟨q49, M49, hc49, h⟩ := bd2_e h
          refine kX4_49 C hml hl.1 (c_X3_find hc49) ⟨Nat.le_of_ble_eq_true rfl, Nat.le_of_ble_eq_true rfl⟩ ⟨Nat.le_of_ble_eq_true rfl, Nat.le_of_ble_eq_true rfl⟩ (Nat.le_of_ble_eq_true rfl) hS hW dX4_outcomeOfTarget_49 (fun H locs hW hS => ?_)
          rcases q49 with _ | k49
          · have h := oe_n h
            refine W.eq (g2 := F0 m 52 ls [.null]) rfl ?_
            refine lv_ifnullN (tgt := 57) hx hb dX4_outcomeOfTarget_52 (by decide) ?_
            exact w_X4_outcomeOfTarget_57 C hml hr hlk h hS hW (lv_sub hl [0, 1, 3, 5] rfl)
          · obtain ⟨g49, h⟩ := gd (oe_s h)
            have hk49 := Nat.lt_of_not_le g49
            refine W.eq (g2 := F0 m 52 ls [.ref (b + (3 + 2 * k49))]) rfl ?_
            refine lv_ifnull hx hb dX4_outcomeOfTarget_52 ?_
            refine lv_iconst (v := (2 : Int32)) hx hb dX4_outcomeOfTarget_55 (by decide) ?_
            cases h
            exact ret_i C hr hlk hS hW dX4_outcomeOfTarget_56
      · have h := (if_pos c34).symm.trans h
        refine lv_iconst (v := (1 : Int32)) hx hb dX4_outcomeOfTarget_37 (by decide) ?_
        cases h
        exact ret_i C hr hlk hS hW dX4_outcomeOfTarget_38
def f_X4_outcomeOfTarget (M : Mem) (x1 : Int32) (x2 : Int32) (x3 : Int32) (x4 : Int32) (x5 : Int32) : Option (Int32 × Mem) := f_X4_outcomeOfTarget_0 M x1 x2 x3 x4 x5
set_option maxHeartbeats 4000000 in
set_option maxRecDepth 100000 in
theorem c_X4_outcomeOfTarget {l : Launch} {Z : Zt} {b : Nat} {M : Mem} {x1 : Int32} {x2 : Int32} {x3 : Int32} {x4 : Int32} {x5 : Int32} {r' : Int32} {M' : Mem} (h : f_X4_outcomeOfTarget M x1 x2 x3 x4 x5 = some (r', M')) : Ct l yX4_outcomeOfTarget cX4_outcomeOfTarget 6 (some .int) rm_X4_outcomeOfTarget Z b [.ref (b + 0), .int x1, .int x2, .int x3, .int x4, .int x5] M (some (.int r')) M' := by
  refine Met.ofW (cc := cX4_outcomeOfTarget) (maxL := 6) (ret := (some .int)) (by decide) rfl ?_
  intro p e s m args below meth c s₁ B hml hv
  obtain ⟨rfl, hE, hW⟩ := hv
  have C : Cx p s m [.ref (b + 0), .int x1, .int x2, .int x3, .int x4, .int x5].toArray c cX4_outcomeOfTarget RX4 Z b := ⟨B.exec, B.bytes, findClass_of_methodNamed B.named, fun w hw => atoms_spec (ws := Cond.code yX4_outcomeOfTarget cX4_outcomeOfTarget 6 (some .int) :: wsA) B.pre w (List.mem_cons_of_mem _ hw), hE⟩
  have hl := lv_entry [.ref (b + 0), .int x1, .int x2, .int x3, .int x4, .int x5] (n := 6) (Nat.le_of_ble_eq_true rfl)
  rw [lg_entry_eq]
  generalize (lg_sl [.ref (b + 0), .int x1, .int x2, .int x3, .int x4, .int x5] ++ List.replicate (6 - (lg_sl [.ref (b + 0), .int x1, .int x2, .int x3, .int x4, .int x5]).length) Slot.unset).toArray = ls at hl ⊢
  have hl : lv_has ls 6 [(0, .ref (b + 0)), (1, .int x1), (2, .int x2), (3, .int x3), (4, .int x4), (5, .int x5)] := hl
  exact w_X4_outcomeOfTarget_0 C hml B.returns B.notSynchronized h va_S.rf hW hl
def f_X3_treeSize_40 (K4 : Mem → Int32 → Int32 → Int32 → Option (Int32 × Mem)) (M : Mem) (x1 : Int32) (x2 : Int32) (x3 : Int32) : Option (Int32 × Mem) :=
  K4 M x1 x2 (x3 + 1)
set_option maxHeartbeats 4000000 in
set_option maxRecDepth 100000 in
theorem w_X3_treeSize_40 {p : Program} {l : Launch} {e : Env} {s : State} {m : MethodId} {args : Array Value} {below : List Frame} {meth : Method} {c : Code} {Z : Zt} {b : Nat} (C : Cx p s m args c cX3_treeSize RX3 Z b) (hml : c.maxLocals = 4) (hr : meth.sig.returnType = (some .int)) (hlk : meth.locks = false) {r' : Int32} {M' : Mem} {K4 : Mem → Int32 → Int32 → Int32 → Option (Int32 × Mem)} (hK4 : ∀ {M : Mem} {x1 : Int32} {x2 : Int32} {x3 : Int32} (h : K4 M x1 x2 x3 = some (r', M')) {H : Heap} {locs : List Loc} {ls : Array Slot} (hS : va_S (A0 b) s.heap H locs) (hW : Wd Z b M H) (hl : lv_has ls 4 [(0, .ref (b + 1)), (1, .int x1), (2, .int x2), (3, .int x3)]), W p l e rm_X3_treeSize s m args below meth c H locs 0 0 (MQ below (Qn Z b (some (.int r')) M') args s 0 0 (A0 b)) (F0 m 4 ls [])) {M : Mem} {x1 : Int32} {x2 : Int32} {x3 : Int32} (h : f_X3_treeSize_40 K4 M x1 x2 x3 = some (r', M')) {H : Heap} {locs : List Loc} {ls : Array Slot} (hS : va_S (A0 b) s.heap H locs) (hW : Wd Z b M H) (hl : lv_has ls 4 [(0, .ref (b + 1)), (1, .int x1), (2, .int x2), (3, .int x3)]) : W p l e rm_X3_treeSize s m args below meth c H locs 0 0 (MQ below (Qn Z b (some (.int r')) M') args s 0 0 (A0 b)) (F0 m 40 ls []) := by
  unfold f_X3_treeSize_40 at h
  have hx := C.1
  have hb := C.2.1
  refine lv_iinc (v := x3 + 1) (lv' := [(3, .int (x3 + 1)), (0, .ref (b + 1)), (1, .int x1), (2, .int x2)]) hx hb dX3_treeSize_40 hl (k := 3) rfl rfl (by decide) rfl (fun ls hl => ?_)
  refine lv_goto (tgt := 4) hx hb dX3_treeSize_43 (by decide) ?_
  exact hK4 h hS hW (lv_sub hl [1, 2, 3, 0] rfl)
def f_X3_treeSize_4B (K4 : Mem → Int32 → Int32 → Int32 → Option (Int32 × Mem)) (M : Mem) (x1 : Int32) (x2 : Int32) (x3 : Int32) : Option (Int32 × Mem) :=
  if (M 2 0) ≤ x3 then some (x2, M) else if (60 : Int32) ≤ x3 then some (x2, M) else if x3 < 0 ∨ 60 ≤ x3.toNatClampNeg then none else if 60 ≤ rk M x3.toNatClampNeg then none else bd2 (f_X4_isIn M x1 (M 4 (rk M x3.toNatClampNeg))) (fun r31 M31 => if r31 = 0 then f_X3_treeSize_40 K4 M31 x1 x2 x3 else f_X3_treeSize_40 K4 M31 x1 (x2 + 1) x3)
def f_X3_treeSize_4 : Nat → Mem → Int32 → Int32 → Int32 → Option (Int32 × Mem)
  | 0 => fun _ _ _ _ => none
  | n + 1 => f_X3_treeSize_4B (f_X3_treeSize_4 n)
set_option maxHeartbeats 4000000 in
set_option maxRecDepth 100000 in
theorem w_X3_treeSize_4 {p : Program} {l : Launch} {e : Env} {s : State} {m : MethodId} {args : Array Value} {below : List Frame} {meth : Method} {c : Code} {Z : Zt} {b : Nat} (C : Cx p s m args c cX3_treeSize RX3 Z b) (hml : c.maxLocals = 4) (hr : meth.sig.returnType = (some .int)) (hlk : meth.locks = false) {r' : Int32} {M' : Mem} : ∀ (n : Nat) {M : Mem} {x1 : Int32} {x2 : Int32} {x3 : Int32} (h : f_X3_treeSize_4 n M x1 x2 x3 = some (r', M')) {H : Heap} {locs : List Loc} {ls : Array Slot} (hS : va_S (A0 b) s.heap H locs) (hW : Wd Z b M H) (hl : lv_has ls 4 [(0, .ref (b + 1)), (1, .int x1), (2, .int x2), (3, .int x3)]), W p l e rm_X3_treeSize s m args below meth c H locs 0 0 (MQ below (Qn Z b (some (.int r')) M') args s 0 0 (A0 b)) (F0 m 4 ls []) := by
  intro n
  induction n with
  | zero =>
    intro M x1 x2 x3 h
    cases h
  | succ n ih =>
    intro M x1 x2 x3 h H locs ls hS hW hl
    have h : f_X3_treeSize_4B (f_X3_treeSize_4 n) M x1 x2 x3 = some (r', M') := h
    unfold f_X3_treeSize_4B at h
    have hK4 := @ih
    have hx := C.1
    have hb := C.2.1
    refine lv_iload_n hx hb dX3_treeSize_4 rfl (lv_at hl 3 rfl) ?_
    refine lv_aload_n hx hb dX3_treeSize_5 rfl (lv_at hl 0 rfl) ?_
    refine gX3_18 C hW dX3_treeSize_6 ?_
    refine lv_icmp_ge (tgt := 46) hx hb dX3_treeSize_9 (by decide) (fun c9 => ?_) (fun c9 => ?_)
    · have h := (if_pos c9).symm.trans h
      refine lv_iload_n hx hb dX3_treeSize_46 rfl (lv_at hl 2 rfl) ?_
      cases h
      exact ret_i C hr hlk hS hW dX3_treeSize_47
    · have h := (if_neg c9).symm.trans h
      refine lv_iload_n hx hb dX3_treeSize_12 rfl (lv_at hl 3 rfl) ?_
      refine lv_aload_n hx hb dX3_treeSize_13 rfl (lv_at hl 0 rfl) ?_
      refine gX3_11 C hW dX3_treeSize_14 ?_
      refine alen_2 C hW dX3_treeSize_17 ?_
      refine lv_icmp_ge (tgt := 46) hx hb dX3_treeSize_18 (by decide) (fun c18 => ?_) (fun c18 => ?_)
      · have h := (if_pos c18).symm.trans h
        refine lv_iload_n hx hb dX3_treeSize_46 rfl (lv_at hl 2 rfl) ?_
        cases h
        exact ret_i C hr hlk hS hW dX3_treeSize_47
      · have h := (if_neg c18).symm.trans h
        refine lv_iload_n hx hb dX3_treeSize_21 rfl (lv_at hl 1 rfl) ?_
        refine lv_aload_n hx hb dX3_treeSize_22 rfl (lv_at hl 0 rfl) ?_
        refine gX3_11 C hW dX3_treeSize_23 ?_
        refine lv_iload_n hx hb dX3_treeSize_26 rfl (lv_at hl 3 rfl) ?_
        obtain ⟨g27, h⟩ := gd h
        obtain ⟨gr27, h⟩ := gd h
        have hr27 := Nat.lt_of_not_le gr27
        refine ald_row C hW g27 dX3_treeSize_27 ?_
        refine gX3_22 hr27 C hW dX3_treeSize_28 ?_
        obtain ⟨r31, M31, hc31, h⟩ := bd2_e h
        refine kX3_47 C hml hl.1 (c_X4_isIn hc31) ⟨Nat.le_of_ble_eq_true rfl, Nat.le_of_ble_eq_true rfl⟩ ⟨Nat.le_of_ble_eq_true rfl, Nat.le_of_ble_eq_true rfl⟩ (Nat.le_of_ble_eq_true rfl) hS hW dX3_treeSize_31 (fun H locs hW hS => ?_)
        refine lv_if_eq (tgt := 40) hx hb dX3_treeSize_34 (by decide) (fun c34 => ?_) (fun c34 => ?_)
        · have h := (if_pos c34).symm.trans h
          exact w_X3_treeSize_40 C hml hr hlk hK4 h hS hW (lv_sub hl [0, 1, 2, 3] rfl)
        · have h := (if_neg c34).symm.trans h
          refine lv_iinc (v := x2 + 1) (lv' := [(2, .int (x2 + 1)), (0, .ref (b + 1)), (1, .int x1), (3, .int x3)]) hx hb dX3_treeSize_37 hl (k := 2) rfl rfl (by decide) rfl (fun ls hl => ?_)
          exact w_X3_treeSize_40 C hml hr hlk hK4 h hS hW (lv_sub hl [1, 2, 0, 3] rfl)
def f_X3_treeSize_0 (M : Mem) (x1 : Int32) : Option (Int32 × Mem) :=
  f_X3_treeSize_4 64 M x1 (0 : Int32) (0 : Int32)
set_option maxHeartbeats 4000000 in
set_option maxRecDepth 100000 in
theorem w_X3_treeSize_0 {p : Program} {l : Launch} {e : Env} {s : State} {m : MethodId} {args : Array Value} {below : List Frame} {meth : Method} {c : Code} {Z : Zt} {b : Nat} (C : Cx p s m args c cX3_treeSize RX3 Z b) (hml : c.maxLocals = 4) (hr : meth.sig.returnType = (some .int)) (hlk : meth.locks = false) {r' : Int32} {M' : Mem} {M : Mem} {x1 : Int32} (h : f_X3_treeSize_0 M x1 = some (r', M')) {H : Heap} {locs : List Loc} {ls : Array Slot} (hS : va_S (A0 b) s.heap H locs) (hW : Wd Z b M H) (hl : lv_has ls 4 [(0, .ref (b + 1)), (1, .int x1)]) : W p l e rm_X3_treeSize s m args below meth c H locs 0 0 (MQ below (Qn Z b (some (.int r')) M') args s 0 0 (A0 b)) (F0 m 0 ls []) := by
  unfold f_X3_treeSize_0 at h
  have hx := C.1
  have hb := C.2.1
  refine lv_iconst (v := (0 : Int32)) hx hb dX3_treeSize_0 (by decide) ?_
  refine lv_istore_n (lv' := [(2, .int (0 : Int32)), (0, .ref (b + 1)), (1, .int x1)]) hx hb dX3_treeSize_1 rfl hl (by decide) rfl (fun ls hl => ?_)
  refine lv_iconst (v := (0 : Int32)) hx hb dX3_treeSize_2 (by decide) ?_
  refine lv_istore_n (lv' := [(3, .int (0 : Int32)), (2, .int (0 : Int32)), (0, .ref (b + 1)), (1, .int x1)]) hx hb dX3_treeSize_3 rfl hl (by decide) rfl (fun ls hl => ?_)
  exact w_X3_treeSize_4 C hml hr hlk 64 h hS hW (lv_sub hl [2, 3, 1, 0] rfl)
def f_X3_treeSize (M : Mem) (x1 : Int32) : Option (Int32 × Mem) := f_X3_treeSize_0 M x1
set_option maxHeartbeats 4000000 in
set_option maxRecDepth 100000 in
theorem c_X3_treeSize {l : Launch} {Z : Zt} {b : Nat} {M : Mem} {x1 : Int32} {r' : Int32} {M' : Mem} (h : f_X3_treeSize M x1 = some (r', M')) : Ct l yX3_treeSize cX3_treeSize 4 (some .int) rm_X3_treeSize Z b [.ref (b + 1), .int x1] M (some (.int r')) M' := by
  refine Met.ofW (cc := cX3_treeSize) (maxL := 4) (ret := (some .int)) (by decide) rfl ?_
  intro p e s m args below meth c s₁ B hml hv
  obtain ⟨rfl, hE, hW⟩ := hv
  have C : Cx p s m [.ref (b + 1), .int x1].toArray c cX3_treeSize RX3 Z b := ⟨B.exec, B.bytes, findClass_of_methodNamed B.named, fun w hw => atoms_spec (ws := Cond.code yX3_treeSize cX3_treeSize 4 (some .int) :: wsA) B.pre w (List.mem_cons_of_mem _ hw), hE⟩
  have hl := lv_entry [.ref (b + 1), .int x1] (n := 4) (Nat.le_of_ble_eq_true rfl)
  rw [lg_entry_eq]
  generalize (lg_sl [.ref (b + 1), .int x1] ++ List.replicate (4 - (lg_sl [.ref (b + 1), .int x1]).length) Slot.unset).toArray = ls at hl ⊢
  have hl : lv_has ls 4 [(0, .ref (b + 1)), (1, .int x1)] := hl
  exact w_X3_treeSize_0 C hml B.returns B.notSynchronized h va_S.rf hW hl
def f_X4_removeTree_0 (M : Mem) (x1 : Int32) : Option Mem :=
  bd1 (f_X3_markTree M x1) (fun M5 => bd1 (f_X4_removeMarked M5) (fun M9 => some M9))
set_option maxHeartbeats 4000000 in
set_option maxRecDepth 100000 in
theorem w_X4_removeTree_0 {p : Program} {l : Launch} {e : Env} {s : State} {m : MethodId} {args : Array Value} {below : List Frame} {meth : Method} {c : Code} {Z : Zt} {b : Nat} (C : Cx p s m args c cX4_removeTree RX4 Z b) (hml : c.maxLocals = 2) (hr : meth.sig.returnType = (none : Option Jvm.ClassFile.FieldType)) (hlk : meth.locks = false) {M' : Mem} {M : Mem} {x1 : Int32} (h : f_X4_removeTree_0 M x1 = some M') {H : Heap} {locs : List Loc} {ls : Array Slot} (hS : va_S (A0 b) s.heap H locs) (hW : Wd Z b M H) (hl : lv_has ls 2 [(0, .ref (b + 0)), (1, .int x1)]) : W p l e rm_X4_removeTree s m args below meth c H locs 0 0 (MQ below (Qn Z b none M') args s 0 0 (A0 b)) (F0 m 0 ls []) := by
  unfold f_X4_removeTree_0 at h
  have hx := C.1
  have hb := C.2.1
  refine lv_aload_n hx hb dX4_removeTree_0 rfl (lv_at hl 0 rfl) ?_
  refine gX4_10 C hW dX4_removeTree_1 ?_
  refine lv_iload_n hx hb dX4_removeTree_4 rfl (lv_at hl 1 rfl) ?_
  obtain ⟨M5, hc5, h⟩ := bd1_e h
  refine kX4_78 C hml hl.1 (c_X3_markTree hc5) ⟨Nat.le_of_ble_eq_true rfl, Nat.le_of_ble_eq_true rfl⟩ ⟨Nat.le_of_ble_eq_true rfl, Nat.le_of_ble_eq_true rfl⟩ (Nat.le_of_ble_eq_true rfl) hS hW dX4_removeTree_5 (fun H locs hW hS => ?_)
  refine lv_aload_n hx hb dX4_removeTree_8 rfl (lv_at hl 0 rfl) ?_
  obtain ⟨M9, hc9, h⟩ := bd1_e h
  refine kX4_84 C hml hl.1 (c_X4_removeMarked hc9) ⟨Nat.le_of_ble_eq_true rfl, Nat.le_of_ble_eq_true rfl⟩ ⟨Nat.le_of_ble_eq_true rfl, Nat.le_of_ble_eq_true rfl⟩ (Nat.le_of_ble_eq_true rfl) hS hW dX4_removeTree_9 (fun H locs hW hS => ?_)
  cases h
  exact ret_v C hr hlk hS hW dX4_removeTree_12
def f_X4_removeTree (M : Mem) (x1 : Int32) : Option Mem := f_X4_removeTree_0 M x1
set_option maxHeartbeats 4000000 in
set_option maxRecDepth 100000 in
theorem c_X4_removeTree {l : Launch} {Z : Zt} {b : Nat} {M : Mem} {x1 : Int32} {M' : Mem} (h : f_X4_removeTree M x1 = some M') : Ct l yX4_removeTree cX4_removeTree 2 (none : Option Jvm.ClassFile.FieldType) rm_X4_removeTree Z b [.ref (b + 0), .int x1] M none M' := by
  refine Met.ofW (cc := cX4_removeTree) (maxL := 2) (ret := (none : Option Jvm.ClassFile.FieldType)) (by decide) rfl ?_
  intro p e s m args below meth c s₁ B hml hv
  obtain ⟨rfl, hE, hW⟩ := hv
  have C : Cx p s m [.ref (b + 0), .int x1].toArray c cX4_removeTree RX4 Z b := ⟨B.exec, B.bytes, findClass_of_methodNamed B.named, fun w hw => atoms_spec (ws := Cond.code yX4_removeTree cX4_removeTree 2 (none : Option Jvm.ClassFile.FieldType) :: wsA) B.pre w (List.mem_cons_of_mem _ hw), hE⟩
  have hl := lv_entry [.ref (b + 0), .int x1] (n := 2) (Nat.le_of_ble_eq_true rfl)
  rw [lg_entry_eq]
  generalize (lg_sl [.ref (b + 0), .int x1] ++ List.replicate (2 - (lg_sl [.ref (b + 0), .int x1]).length) Slot.unset).toArray = ls at hl ⊢
  have hl : lv_has ls 2 [(0, .ref (b + 0)), (1, .int x1)] := hl
  exact w_X4_removeTree_0 C hml B.returns B.notSynchronized h va_S.rf hW hl
def f_X3_appendCopyOfTree_69 (K8 : Mem → Int32 → Int32 → Int32 → Int32 → Option Mem) (M : Mem) (x1 : Int32) (x2 : Int32) (x3 : Int32) (x4 : Int32) : Option Mem :=
  K8 M x1 x2 x3 (x4 + 1)
set_option maxHeartbeats 4000000 in
set_option maxRecDepth 100000 in
theorem w_X3_appendCopyOfTree_69 {p : Program} {l : Launch} {e : Env} {s : State} {m : MethodId} {args : Array Value} {below : List Frame} {meth : Method} {c : Code} {Z : Zt} {b : Nat} (C : Cx p s m args c cX3_appendCopyOfTree RX3 Z b) (hml : c.maxLocals = 6) (hr : meth.sig.returnType = (none : Option Jvm.ClassFile.FieldType)) (hlk : meth.locks = false) {M' : Mem} {K8 : Mem → Int32 → Int32 → Int32 → Int32 → Option Mem} (hK8 : ∀ {M : Mem} {x1 : Int32} {x2 : Int32} {x3 : Int32} {x4 : Int32} (h : K8 M x1 x2 x3 x4 = some M') {H : Heap} {locs : List Loc} {ls : Array Slot} (hS : va_S (A0 b) s.heap H locs) (hW : Wd Z b M H) (hl : lv_has ls 6 [(0, .ref (b + 1)), (1, .int x1), (2, .int x2), (3, .int x3), (4, .int x4)]), W p l e rm_X3_appendCopyOfTree s m args below meth c H locs 0 0 (MQ below (Qn Z b none M') args s 0 0 (A0 b)) (F0 m 8 ls [])) {M : Mem} {x1 : Int32} {x2 : Int32} {x3 : Int32} {x4 : Int32} (h : f_X3_appendCopyOfTree_69 K8 M x1 x2 x3 x4 = some M') {H : Heap} {locs : List Loc} {ls : Array Slot} (hS : va_S (A0 b) s.heap H locs) (hW : Wd Z b M H) (hl : lv_has ls 6 [(0, .ref (b + 1)), (1, .int x1), (2, .int x2), (3, .int x3), (4, .int x4)]) : W p l e rm_X3_appendCopyOfTree s m args below meth c H locs 0 0 (MQ below (Qn Z b none M') args s 0 0 (A0 b)) (F0 m 69 ls []) := by
  unfold f_X3_appendCopyOfTree_69 at h
  have hx := C.1
  have hb := C.2.1
  refine lv_iinc (v := x4 + 1) (lv' := [(4, .int (x4 + 1)), (0, .ref (b + 1)), (1, .int x1), (2, .int x2), (3, .int x3)]) hx hb dX3_appendCopyOfTree_69 hl (k := 4) rfl rfl (by decide) rfl (fun ls hl => ?_)
  refine lv_goto (tgt := 8) hx hb dX3_appendCopyOfTree_72 (by decide) ?_
  exact hK8 h hS hW (lv_sub hl [1, 2, 3, 4, 0] rfl)
def f_X3_appendCopyOfTree_8B (K8 : Mem → Int32 → Int32 → Int32 → Int32 → Option Mem) (M : Mem) (x1 : Int32) (x2 : Int32) (x3 : Int32) (x4 : Int32) : Option Mem :=
  if x3 ≤ x4 then some M else if (60 : Int32) ≤ x4 then some M else if x4 < 0 ∨ 60 ≤ x4.toNatClampNeg then none else if 60 ≤ rk M x4.toNatClampNeg then none else bd2 (f_X4_isIn M x1 (M 4 (rk M x4.toNatClampNeg))) (fun r39 M39 => if r39 = 0 then f_X3_appendCopyOfTree_69 K8 M39 x1 x2 x3 x4 else bd2 (f_X4_moved M39 (M39 4 (rk M x4.toNatClampNeg)) x1 x2) (fun r53 M53 => bd1 (f_X3_append M53 r53 (M53 5 (rk M x4.toNatClampNeg)) (M53 6 (rk M x4.toNatClampNeg))) (fun M66 => f_X3_appendCopyOfTree_69 K8 M66 x1 x2 x3 x4)))
def f_X3_appendCopyOfTree_8 : Nat → Mem → Int32 → Int32 → Int32 → Int32 → Option Mem
  | 0 => fun _ _ _ _ _ => none
  | n + 1 => f_X3_appendCopyOfTree_8B (f_X3_appendCopyOfTree_8 n)
set_option maxHeartbeats 4000000 in
set_option maxRecDepth 100000 in
theorem w_X3_appendCopyOfTree_8 {p : Program} {l : Launch} {e : Env} {s : State} {m : MethodId} {args : Array Value} {below : List Frame} {meth : Method} {c : Code} {Z : Zt} {b : Nat} (C : Cx p s m args c cX3_appendCopyOfTree RX3 Z b) (hml : c.maxLocals = 6) (hr : meth.sig.returnType = (none : Option Jvm.ClassFile.FieldType)) (hlk : meth.locks = false) {M' : Mem} : ∀ (n : Nat) {M : Mem} {x1 : Int32} {x2 : Int32} {x3 : Int32} {x4 : Int32} (h : f_X3_appendCopyOfTree_8 n M x1 x2 x3 x4 = some M') {H : Heap} {locs : List Loc} {ls : Array Slot} (hS : va_S (A0 b) s.heap H locs) (hW : Wd Z b M H) (hl : lv_has ls 6 [(0, .ref (b + 1)), (1, .int x1), (2, .int x2), (3, .int x3), (4, .int x4)]), W p l e rm_X3_appendCopyOfTree s m args below meth c H locs 0 0 (MQ below (Qn Z b none M') args s 0 0 (A0 b)) (F0 m 8 ls []) := by
  intro n
  induction n with
  | zero =>
    intro M x1 x2 x3 x4 h
    cases h
  | succ n ih =>
    intro M x1 x2 x3 x4 h H locs ls hS hW hl
    have h : f_X3_appendCopyOfTree_8B (f_X3_appendCopyOfTree_8 n) M x1 x2 x3 x4 = some M' := h
    unfold f_X3_appendCopyOfTree_8B at h
    have hK8 := @ih
    have hx := C.1
    have hb := C.2.1
    refine lv_iload hx hb dX3_appendCopyOfTree_8 (lv_at hl 4 rfl) ?_
    refine lv_iload_n hx hb dX3_appendCopyOfTree_10 rfl (lv_at hl 3 rfl) ?_
    refine lv_icmp_ge (tgt := 75) hx hb dX3_appendCopyOfTree_11 (by decide) (fun c11 => ?_) (fun c11 => ?_)
    · have h := (if_pos c11).symm.trans h
      cases h
      exact ret_v C hr hlk hS hW dX3_appendCopyOfTree_75
    · have h := (if_neg c11).symm.trans h
      refine lv_iload hx hb dX3_appendCopyOfTree_14 (lv_at hl 4 rfl) ?_
      refine lv_aload_n hx hb dX3_appendCopyOfTree_16 rfl (lv_at hl 0 rfl) ?_
      refine gX3_11 C hW dX3_appendCopyOfTree_17 ?_
      refine alen_2 C hW dX3_appendCopyOfTree_20 ?_
      refine lv_icmp_ge (tgt := 75) hx hb dX3_appendCopyOfTree_21 (by decide) (fun c21 => ?_) (fun c21 => ?_)
      · have h := (if_pos c21).symm.trans h
        cases h
        exact ret_v C hr hlk hS hW dX3_appendCopyOfTree_75
      · have h := (if_neg c21).symm.trans h
        refine lv_aload_n hx hb dX3_appendCopyOfTree_24 rfl (lv_at hl 0 rfl) ?_
        refine gX3_11 C hW dX3_appendCopyOfTree_25 ?_
        refine lv_iload hx hb dX3_appendCopyOfTree_28 (lv_at hl 4 rfl) ?_
        obtain ⟨g30, h⟩ := gd h
        obtain ⟨gr30, h⟩ := gd h
        have hr30 := Nat.lt_of_not_le gr30
        refine ald_row C hW g30 dX3_appendCopyOfTree_30 ?_
        refine lv_astore (lv' := [(5, .ref (b + (3 + 2 * (rk M x4.toNatClampNeg)))), (0, .ref (b + 1)), (1, .int x1), (2, .int x2), (3, .int x3), (4, .int x4)]) hx hb dX3_appendCopyOfTree_31 hl (by decide) rfl (fun ls hl => ?_)
        refine lv_iload_n hx hb dX3_appendCopyOfTree_33 rfl (lv_at hl 2 rfl) ?_
        refine lv_aload hx hb dX3_appendCopyOfTree_34 (lv_at hl 0 rfl) ?_
        refine gX3_22 hr30 C hW dX3_appendCopyOfTree_36 ?_
        obtain ⟨r39, M39, hc39, h⟩ := bd2_e h
        refine kX3_47 C hml hl.1 (c_X4_isIn hc39) ⟨Nat.le_of_ble_eq_true rfl, Nat.le_of_ble_eq_true rfl⟩ ⟨Nat.le_of_ble_eq_true rfl, Nat.le_of_ble_eq_true rfl⟩ (Nat.le_of_ble_eq_true rfl) hS hW dX3_appendCopyOfTree_39 (fun H locs hW hS => ?_)
        refine lv_if_eq (tgt := 69) hx hb dX3_appendCopyOfTree_42 (by decide) (fun c42 => ?_) (fun c42 => ?_)
        · have h := (if_pos c42).symm.trans h
          exact w_X3_appendCopyOfTree_69 C hml hr hlk hK8 h hS hW (lv_sub hl [1, 2, 3, 4, 5] rfl)
        · have h := (if_neg c42).symm.trans h
          refine lv_aload_n hx hb dX3_appendCopyOfTree_45 rfl (lv_at hl 1 rfl) ?_
          refine lv_aload hx hb dX3_appendCopyOfTree_46 (lv_at hl 0 rfl) ?_
          refine gX3_22 hr30 C hW dX3_appendCopyOfTree_48 ?_
          refine lv_iload_n hx hb dX3_appendCopyOfTree_51 rfl (lv_at hl 2 rfl) ?_
          refine lv_iload_n hx hb dX3_appendCopyOfTree_52 rfl (lv_at hl 3 rfl) ?_
          obtain ⟨r53, M53, hc53, h⟩ := bd2_e h
          refine kX3_51 C hml hl.1 (c_X4_moved hc53) ⟨Nat.le_of_ble_eq_true rfl, Nat.le_of_ble_eq_true rfl⟩ ⟨Nat.le_of_ble_eq_true rfl, Nat.le_of_ble_eq_true rfl⟩ (Nat.le_of_ble_eq_true rfl) hS hW dX3_appendCopyOfTree_53 (fun H locs hW hS => ?_)
          refine lv_aload hx hb dX3_appendCopyOfTree_56 (lv_at hl 0 rfl) ?_
          refine gX3_37 hr30 C hW dX3_appendCopyOfTree_58 ?_
          refine lv_aload hx hb dX3_appendCopyOfTree_61 (lv_at hl 0 rfl) ?_
          refine gX3_55 hr30 C hW dX3_appendCopyOfTree_63 ?_
          obtain ⟨M66, hc66, h⟩ := bd1_e h
          refine kX3_58 C hml hl.1 (c_X3_append hc66) ⟨Nat.le_of_ble_eq_true rfl, Nat.le_of_ble_eq_true rfl⟩ ⟨Nat.le_of_ble_eq_true rfl, Nat.le_of_ble_eq_true rfl⟩ (Nat.le_of_ble_eq_true rfl) hS hW dX3_appendCopyOfTree_66 (fun H locs hW hS => ?_)
          exact w_X3_appendCopyOfTree_69 C hml hr hlk hK8 h hS hW (lv_sub hl [1, 2, 3, 4, 5] rfl)
def f_X3_appendCopyOfTree_0 (M : Mem) (x1 : Int32) (x2 : Int32) : Option Mem :=
  f_X3_appendCopyOfTree_8 64 M x1 x2 (M 2 0) (0 : Int32)
set_option maxHeartbeats 4000000 in
set_option maxRecDepth 100000 in
theorem w_X3_appendCopyOfTree_0 {p : Program} {l : Launch} {e : Env} {s : State} {m : MethodId} {args : Array Value} {below : List Frame} {meth : Method} {c : Code} {Z : Zt} {b : Nat} (C : Cx p s m args c cX3_appendCopyOfTree RX3 Z b) (hml : c.maxLocals = 6) (hr : meth.sig.returnType = (none : Option Jvm.ClassFile.FieldType)) (hlk : meth.locks = false) {M' : Mem} {M : Mem} {x1 : Int32} {x2 : Int32} (h : f_X3_appendCopyOfTree_0 M x1 x2 = some M') {H : Heap} {locs : List Loc} {ls : Array Slot} (hS : va_S (A0 b) s.heap H locs) (hW : Wd Z b M H) (hl : lv_has ls 6 [(0, .ref (b + 1)), (1, .int x1), (2, .int x2)]) : W p l e rm_X3_appendCopyOfTree s m args below meth c H locs 0 0 (MQ below (Qn Z b none M') args s 0 0 (A0 b)) (F0 m 0 ls []) := by
  unfold f_X3_appendCopyOfTree_0 at h
  have hx := C.1
  have hb := C.2.1
  refine lv_aload_n hx hb dX3_appendCopyOfTree_0 rfl (lv_at hl 0 rfl) ?_
  refine gX3_18 C hW dX3_appendCopyOfTree_1 ?_
  refine lv_istore_n (lv' := [(3, .int (M 2 0)), (0, .ref (b + 1)), (1, .int x1), (2, .int x2)]) hx hb dX3_appendCopyOfTree_4 rfl hl (by decide) rfl (fun ls hl => ?_)
  refine lv_iconst (v := (0 : Int32)) hx hb dX3_appendCopyOfTree_5 (by decide) ?_
  refine lv_istore (lv' := [(4, .int (0 : Int32)), (3, .int (M 2 0)), (0, .ref (b + 1)), (1, .int x1), (2, .int x2)]) hx hb dX3_appendCopyOfTree_6 hl (by decide) rfl (fun ls hl => ?_)
  exact w_X3_appendCopyOfTree_8 C hml hr hlk 64 h hS hW (lv_sub hl [2, 3, 4, 1, 0] rfl)
def f_X3_appendCopyOfTree (M : Mem) (x1 : Int32) (x2 : Int32) : Option Mem := f_X3_appendCopyOfTree_0 M x1 x2
set_option maxHeartbeats 4000000 in
set_option maxRecDepth 100000 in
theorem c_X3_appendCopyOfTree {l : Launch} {Z : Zt} {b : Nat} {M : Mem} {x1 : Int32} {x2 : Int32} {M' : Mem} (h : f_X3_appendCopyOfTree M x1 x2 = some M') : Ct l yX3_appendCopyOfTree cX3_appendCopyOfTree 6 (none : Option Jvm.ClassFile.FieldType) rm_X3_appendCopyOfTree Z b [.ref (b + 1), .int x1, .int x2] M none M' := by
  refine Met.ofW (cc := cX3_appendCopyOfTree) (maxL := 6) (ret := (none : Option Jvm.ClassFile.FieldType)) (by decide) rfl ?_
  intro p e s m args below meth c s₁ B hml hv
  obtain ⟨rfl, hE, hW⟩ := hv
  have C : Cx p s m [.ref (b + 1), .int x1, .int x2].toArray c cX3_appendCopyOfTree RX3 Z b := ⟨B.exec, B.bytes, findClass_of_methodNamed B.named, fun w hw => atoms_spec (ws := Cond.code yX3_appendCopyOfTree cX3_appendCopyOfTree 6 (none : Option Jvm.ClassFile.FieldType) :: wsA) B.pre w (List.mem_cons_of_mem _ hw), hE⟩
  have hl := lv_entry [.ref (b + 1), .int x1, .int x2] (n := 6) (Nat.le_of_ble_eq_true rfl)
  rw [lg_entry_eq]
  generalize (lg_sl [.ref (b + 1), .int x1, .int x2] ++ List.replicate (6 - (lg_sl [.ref (b + 1), .int x1, .int x2]).length) Slot.unset).toArray = ls at hl ⊢
  have hl : lv_has ls 6 [(0, .ref (b + 1)), (1, .int x1), (2, .int x2)] := hl
  exact w_X3_appendCopyOfTree_0 C hml B.returns B.notSynchronized h va_S.rf hW hl
def f_X4_copy_0 (M : Mem) (x1 : Int32) (x2 : Int32) (x3 : Int32) (x4 : Int32) (x5 : Int32) : Option ((String ⊕ Int32) × Mem) :=
  bdx (f_X4_requireTransfer M x1 x2 x3 x5) (fun r5 M5 => bd2 (f_X4_outcomeOfTarget M5 x1 x2 x3 x4 x5) (fun r16 M16 => if r16 = 0 then bd2 (f_X3_treeSize M16 x3) (fun r41 M41 => bd2 (f_X3_treeSize M41 x2) (fun r50 M50 => if (((M16 2 0) - r41) + r50) ≤ (60 : Int32) then bd1 (f_X4_removeTree M50 x3) (fun M63 => bd1 (f_X3_appendCopyOfTree M63 x2 x3) (fun M72 => some (.inr (0 : Int32), M72))) else some (.inr (5 : Int32), M50))) else some (.inr r16, M16)))
set_option maxHeartbeats 4000000 in
set_option maxRecDepth 100000 in
theorem w_X4_copy_0 {p : Program} {l : Launch} {e : Env} {s : State} {m : MethodId} {args : Array Value} {below : List Frame} {meth : Method} {c : Code} {Z : Zt} {b : Nat} (C : Cx p s m args c cX4_copy RX4 Z b) (hml : c.maxLocals = 7) (hr : meth.sig.returnType = (some .int)) (hlk : meth.locks = false) (hlf : l.stackTraces = false) (ht : ∀ x ∈ c.exceptionTable.toList, False) {res : ((String ⊕ Int32) × Mem)} {M : Mem} {x1 : Int32} {x2 : Int32} {x3 : Int32} {x4 : Int32} {x5 : Int32} (h : f_X4_copy_0 M x1 x2 x3 x4 x5 = some res) {H : Heap} {locs : List Loc} {ls : Array Slot} (hS : va_S (A0 b) s.heap H locs) (hW : Wd Z b M H) (hl : lv_has ls 7 [(0, .ref (b + 0)), (1, .int x1), (2, .int x2), (3, .int x3), (4, .int x4), (5, .int x5)]) : W p l e rm_X4_copy s m args below meth c H locs 0 0 (vx_MQ below (Qx Z b (voI res.1) res.2) (XCx Z b (voI res.1) res.2) args s 7 42 (A0 b)) (F0 m 0 ls []) := by
  unfold f_X4_copy_0 at h
  have hx := C.1
  have hb := C.2.1
  refine lv_iload_n hx hb dX4_copy_0 rfl (lv_at hl 1 rfl) ?_
  refine lv_iload_n hx hb dX4_copy_1 rfl (lv_at hl 2 rfl) ?_
  refine lv_iload_n hx hb dX4_copy_2 rfl (lv_at hl 3 rfl) ?_
  refine lv_iload hx hb dX4_copy_3 (lv_at hl 5 rfl) ?_
  rcases bdx_e h with ⟨E5, M5, hc5, rfl⟩ | ⟨r5, M5, hc5, h⟩
  · exact kX4_94T C hml hl.1 (c_X4_requireTransfer hlf hc5) ⟨Nat.le_of_ble_eq_true rfl, Nat.le_of_ble_eq_true rfl⟩ ⟨Nat.le_of_ble_eq_true rfl, Nat.le_of_ble_eq_true rfl⟩ (Nat.le_of_ble_eq_true rfl) hS hW dX4_copy_5 ht hlk (Nat.le_of_ble_eq_true rfl) (Nat.le_of_ble_eq_true rfl)
  refine kX4_94R C hml hl.1 (c_X4_requireTransfer hlf hc5) ⟨Nat.le_of_ble_eq_true rfl, Nat.le_of_ble_eq_true rfl⟩ ⟨Nat.le_of_ble_eq_true rfl, Nat.le_of_ble_eq_true rfl⟩ (Nat.le_of_ble_eq_true rfl) hS hW dX4_copy_5 (fun H locs hW hS => ?_)
  refine lv_aload_n hx hb dX4_copy_8 rfl (lv_at hl 0 rfl) ?_
  refine lv_iload_n hx hb dX4_copy_9 rfl (lv_at hl 1 rfl) ?_
  refine lv_iload_n hx hb dX4_copy_10 rfl (lv_at hl 2 rfl) ?_
  refine lv_iload_n hx hb dX4_copy_11 rfl (lv_at hl 3 rfl) ?_
  refine lv_iload hx hb dX4_copy_12 (lv_at hl 4 rfl) ?_
  refine lv_iload hx hb dX4_copy_14 (lv_at hl 5 rfl) ?_
  obtain ⟨r16, M16, hc16, h⟩ := bd2_e h
  refine kX4_98 C hml hl.1 (c_X4_outcomeOfTarget hc16) ⟨Nat.le_of_ble_eq_true rfl, Nat.le_of_ble_eq_true rfl⟩ ⟨Nat.le_of_ble_eq_true rfl, Nat.le_of_ble_eq_true rfl⟩ (Nat.le_of_ble_eq_true rfl) hS hW dX4_copy_16 (fun H locs hW hS => ?_)
  refine lv_istore (lv' := [(6, .int r16), (0, .ref (b + 0)), (1, .int x1), (2, .int x2), (3, .int x3), (4, .int x4), (5, .int x5)]) hx hb dX4_copy_19 hl (by decide) rfl (fun ls hl => ?_)
  refine lv_iload hx hb dX4_copy_21 (lv_at hl 0 rfl) ?_
  refine lv_if_eq (tgt := 29) hx hb dX4_copy_23 (by decide) (fun c23 => ?_) (fun c23 => ?_)
  · have h := (if_pos c23).symm.trans h
    refine lv_aload_n hx hb dX4_copy_29 rfl (lv_at hl 1 rfl) ?_
    refine gX4_10 C hW dX4_copy_30 ?_
    refine gX4_57 C hW dX4_copy_33 ?_
    refine lv_aload_n hx hb dX4_copy_36 rfl (lv_at hl 1 rfl) ?_
    refine gX4_10 C hW dX4_copy_37 ?_
    refine lv_iload_n hx hb dX4_copy_40 rfl (lv_at hl 4 rfl) ?_
    obtain ⟨r41, M41, hc41, h⟩ := bd2_e h
    refine kX4_102 C hml hl.1 (c_X3_treeSize hc41) ⟨Nat.le_of_ble_eq_true rfl, Nat.le_of_ble_eq_true rfl⟩ ⟨Nat.le_of_ble_eq_true rfl, Nat.le_of_ble_eq_true rfl⟩ (Nat.le_of_ble_eq_true rfl) hS hW dX4_copy_41 (fun H locs hW hS => ?_)
    refine lv_isub hx hb dX4_copy_44 ?_
    refine lv_aload_n hx hb dX4_copy_45 rfl (lv_at hl 1 rfl) ?_
    refine gX4_10 C hW dX4_copy_46 ?_
    refine lv_iload_n hx hb dX4_copy_49 rfl (lv_at hl 3 rfl) ?_
    obtain ⟨r50, M50, hc50, h⟩ := bd2_e h
    refine kX4_102 C hml hl.1 (c_X3_treeSize hc50) ⟨Nat.le_of_ble_eq_true rfl, Nat.le_of_ble_eq_true rfl⟩ ⟨Nat.le_of_ble_eq_true rfl, Nat.le_of_ble_eq_true rfl⟩ (Nat.le_of_ble_eq_true rfl) hS hW dX4_copy_50 (fun H locs hW hS => ?_)
    refine lv_iadd hx hb dX4_copy_53 ?_
    refine lv_bipush (v := (60 : Int32)) hx hb dX4_copy_54 (by decide) ?_
    refine lv_icmp_le (tgt := 61) hx hb dX4_copy_56 (by decide) (fun c56 => ?_) (fun c56 => ?_)
    · have h := (if_pos c56).symm.trans h
      refine lv_aload_n hx hb dX4_copy_61 rfl (lv_at hl 1 rfl) ?_
      refine lv_iload_n hx hb dX4_copy_62 rfl (lv_at hl 4 rfl) ?_
      obtain ⟨M63, hc63, h⟩ := bd1_e h
      refine kX4_105 C hml hl.1 (c_X4_removeTree hc63) ⟨Nat.le_of_ble_eq_true rfl, Nat.le_of_ble_eq_true rfl⟩ ⟨Nat.le_of_ble_eq_true rfl, Nat.le_of_ble_eq_true rfl⟩ (Nat.le_of_ble_eq_true rfl) hS hW dX4_copy_63 (fun H locs hW hS => ?_)
      refine lv_aload_n hx hb dX4_copy_66 rfl (lv_at hl 1 rfl) ?_
      refine gX4_10 C hW dX4_copy_67 ?_
      refine lv_iload_n hx hb dX4_copy_70 rfl (lv_at hl 3 rfl) ?_
      refine lv_iload_n hx hb dX4_copy_71 rfl (lv_at hl 4 rfl) ?_
      obtain ⟨M72, hc72, h⟩ := bd1_e h
      refine kX4_108 C hml hl.1 (c_X3_appendCopyOfTree hc72) ⟨Nat.le_of_ble_eq_true rfl, Nat.le_of_ble_eq_true rfl⟩ ⟨Nat.le_of_ble_eq_true rfl, Nat.le_of_ble_eq_true rfl⟩ (Nat.le_of_ble_eq_true rfl) hS hW dX4_copy_72 (fun H locs hW hS => ?_)
      refine lv_iconst (v := (0 : Int32)) hx hb dX4_copy_75 (by decide) ?_
      cases h
      exact ret_xi C hr hlk hS hW dX4_copy_76 (Nat.le_of_ble_eq_true rfl) (Nat.le_of_ble_eq_true rfl)
    · have h := (if_neg c56).symm.trans h
      refine lv_iconst (v := (5 : Int32)) hx hb dX4_copy_59 (by decide) ?_
      cases h
      exact ret_xi C hr hlk hS hW dX4_copy_60 (Nat.le_of_ble_eq_true rfl) (Nat.le_of_ble_eq_true rfl)
  · have h := (if_neg c23).symm.trans h
    refine lv_iload hx hb dX4_copy_26 (lv_at hl 0 rfl) ?_
    cases h
    exact ret_xi C hr hlk hS hW dX4_copy_28 (Nat.le_of_ble_eq_true rfl) (Nat.le_of_ble_eq_true rfl)
def f_X4_copy (M : Mem) (x1 : Int32) (x2 : Int32) (x3 : Int32) (x4 : Int32) (x5 : Int32) : Option ((String ⊕ Int32) × Mem) := f_X4_copy_0 M x1 x2 x3 x4 x5
set_option maxHeartbeats 4000000 in
set_option maxRecDepth 100000 in
theorem c_X4_copy {l : Launch} {Z : Zt} {b : Nat} (hlf : l.stackTraces = false) {M : Mem} {x1 : Int32} {x2 : Int32} {x3 : Int32} {x4 : Int32} {x5 : Int32} {res : ((String ⊕ Int32) × Mem)} (h : f_X4_copy M x1 x2 x3 x4 x5 = some res) : Cx' l yX4_copy cX4_copy 7 (some .int) rm_X4_copy 7 42 Z b [.ref (b + 0), .int x1, .int x2, .int x3, .int x4, .int x5] M (voI res.1) res.2 := by
  refine vx_ofW (cc := cX4_copy) (maxL := 7) (ret := (some .int)) (by decide) rfl ?_
  intro p e s m args below meth c s₁ B hml ht hv
  obtain ⟨rfl, hE, hW⟩ := hv
  have C : Cx p s m [.ref (b + 0), .int x1, .int x2, .int x3, .int x4, .int x5].toArray c cX4_copy RX4 Z b := ⟨B.exec, B.bytes, findClass_of_methodNamed B.named, fun w hw => atoms_spec (ws := Cond.code yX4_copy cX4_copy 7 (some .int) :: wsA) B.pre w (List.mem_cons_of_mem _ hw), hE⟩
  have hl := lv_entry [.ref (b + 0), .int x1, .int x2, .int x3, .int x4, .int x5] (n := 7) (Nat.le_of_ble_eq_true rfl)
  rw [lg_entry_eq]
  generalize (lg_sl [.ref (b + 0), .int x1, .int x2, .int x3, .int x4, .int x5] ++ List.replicate (7 - (lg_sl [.ref (b + 0), .int x1, .int x2, .int x3, .int x4, .int x5]).length) Slot.unset).toArray = ls at hl ⊢
  have hl : lv_has ls 7 [(0, .ref (b + 0)), (1, .int x1), (2, .int x2), (3, .int x3), (4, .int x4), (5, .int x5)] := hl
  exact w_X4_copy_0 C hml B.returns B.notSynchronized hlf ht h va_S.rf hW hl
def f_X4_dropLocksOfTree_38 (K2 : Mem → Int32 → Int32 → Option Mem) (M : Mem) (x1 : Int32) (x2 : Int32) : Option Mem :=
  K2 M x1 (x2 + 1)
set_option maxHeartbeats 4000000 in
set_option maxRecDepth 100000 in
theorem w_X4_dropLocksOfTree_38 {p : Program} {l : Launch} {e : Env} {s : State} {m : MethodId} {args : Array Value} {below : List Frame} {meth : Method} {c : Code} {Z : Zt} {b : Nat} (C : Cx p s m args c cX4_dropLocksOfTree RX4 Z b) (hml : c.maxLocals = 4) (hr : meth.sig.returnType = (none : Option Jvm.ClassFile.FieldType)) (hlk : meth.locks = false) {M' : Mem} {K2 : Mem → Int32 → Int32 → Option Mem} (hK2 : ∀ {M : Mem} {x1 : Int32} {x2 : Int32} (h : K2 M x1 x2 = some M') {H : Heap} {locs : List Loc} {ls : Array Slot} (hS : va_S (A0 b) s.heap H locs) (hW : Wd Z b M H) (hl : lv_has ls 4 [(0, .ref (b + 0)), (1, .int x1), (2, .int x2)]), W p l e rm_X4_dropLocksOfTree s m args below meth c H locs 0 0 (MQ below (Qn Z b none M') args s 0 0 (A0 b)) (F0 m 2 ls [])) {M : Mem} {x1 : Int32} {x2 : Int32} (h : f_X4_dropLocksOfTree_38 K2 M x1 x2 = some M') {H : Heap} {locs : List Loc} {ls : Array Slot} (hS : va_S (A0 b) s.heap H locs) (hW : Wd Z b M H) (hl : lv_has ls 4 [(0, .ref (b + 0)), (1, .int x1), (2, .int x2)]) : W p l e rm_X4_dropLocksOfTree s m args below meth c H locs 0 0 (MQ below (Qn Z b none M') args s 0 0 (A0 b)) (F0 m 38 ls []) := by
  unfold f_X4_dropLocksOfTree_38 at h
  have hx := C.1
  have hb := C.2.1
  refine lv_iinc (v := x2 + 1) (lv' := [(2, .int (x2 + 1)), (0, .ref (b + 0)), (1, .int x1)]) hx hb dX4_dropLocksOfTree_38 hl (k := 2) rfl rfl (by decide) rfl (fun ls hl => ?_)
  refine lv_goto (tgt := 2) hx hb dX4_dropLocksOfTree_41 (by decide) ?_
  exact hK2 h hS hW (lv_sub hl [1, 2, 0] rfl)
def f_X4_dropLocksOfTree_2B (K2 : Mem → Int32 → Int32 → Option Mem) (M : Mem) (x1 : Int32) (x2 : Int32) : Option Mem :=
  if (M 2 0) ≤ x2 then some M else bd2 (f_X3_pathAt M x2) (fun r18 M18 => bd2 (f_X4_isIn M18 x1 r18) (fun r24 M24 => if r24 = 0 then f_X4_dropLocksOfTree_38 K2 M24 x1 x2 else bd1 (f_X1_dropAt M24 r18) (fun M35 => f_X4_dropLocksOfTree_38 K2 M35 x1 x2)))
def f_X4_dropLocksOfTree_2 : Nat → Mem → Int32 → Int32 → Option Mem
  | 0 => fun _ _ _ => none
  | n + 1 => f_X4_dropLocksOfTree_2B (f_X4_dropLocksOfTree_2 n)
set_option maxHeartbeats 4000000 in
set_option maxRecDepth 100000 in
theorem w_X4_dropLocksOfTree_2 {p : Program} {l : Launch} {e : Env} {s : State} {m : MethodId} {args : Array Value} {below : List Frame} {meth : Method} {c : Code} {Z : Zt} {b : Nat} (C : Cx p s m args c cX4_dropLocksOfTree RX4 Z b) (hml : c.maxLocals = 4) (hr : meth.sig.returnType = (none : Option Jvm.ClassFile.FieldType)) (hlk : meth.locks = false) {M' : Mem} : ∀ (n : Nat) {M : Mem} {x1 : Int32} {x2 : Int32} (h : f_X4_dropLocksOfTree_2 n M x1 x2 = some M') {H : Heap} {locs : List Loc} {ls : Array Slot} (hS : va_S (A0 b) s.heap H locs) (hW : Wd Z b M H) (hl : lv_has ls 4 [(0, .ref (b + 0)), (1, .int x1), (2, .int x2)]), W p l e rm_X4_dropLocksOfTree s m args below meth c H locs 0 0 (MQ below (Qn Z b none M') args s 0 0 (A0 b)) (F0 m 2 ls []) := by
  intro n
  induction n with
  | zero =>
    intro M x1 x2 h
    cases h
  | succ n ih =>
    intro M x1 x2 h H locs ls hS hW hl
    have h : f_X4_dropLocksOfTree_2B (f_X4_dropLocksOfTree_2 n) M x1 x2 = some M' := h
    unfold f_X4_dropLocksOfTree_2B at h
    have hK2 := @ih
    have hx := C.1
    have hb := C.2.1
    refine lv_iload_n hx hb dX4_dropLocksOfTree_2 rfl (lv_at hl 2 rfl) ?_
    refine lv_aload_n hx hb dX4_dropLocksOfTree_3 rfl (lv_at hl 0 rfl) ?_
    refine gX4_10 C hW dX4_dropLocksOfTree_4 ?_
    refine gX4_57 C hW dX4_dropLocksOfTree_7 ?_
    refine lv_icmp_ge (tgt := 44) hx hb dX4_dropLocksOfTree_10 (by decide) (fun c10 => ?_) (fun c10 => ?_)
    · have h := (if_pos c10).symm.trans h
      cases h
      exact ret_v C hr hlk hS hW dX4_dropLocksOfTree_44
    · have h := (if_neg c10).symm.trans h
      refine lv_aload_n hx hb dX4_dropLocksOfTree_13 rfl (lv_at hl 0 rfl) ?_
      refine gX4_10 C hW dX4_dropLocksOfTree_14 ?_
      refine lv_iload_n hx hb dX4_dropLocksOfTree_17 rfl (lv_at hl 2 rfl) ?_
      obtain ⟨r18, M18, hc18, h⟩ := bd2_e h
      refine kX4_144 C hml hl.1 (c_X3_pathAt hc18) ⟨Nat.le_of_ble_eq_true rfl, Nat.le_of_ble_eq_true rfl⟩ ⟨Nat.le_of_ble_eq_true rfl, Nat.le_of_ble_eq_true rfl⟩ (Nat.le_of_ble_eq_true rfl) hS hW dX4_dropLocksOfTree_18 (fun H locs hW hS => ?_)
      refine lv_istore_n (lv' := [(3, .int r18), (0, .ref (b + 0)), (1, .int x1), (2, .int x2)]) hx hb dX4_dropLocksOfTree_21 rfl hl (by decide) rfl (fun ls hl => ?_)
      refine lv_iload_n hx hb dX4_dropLocksOfTree_22 rfl (lv_at hl 2 rfl) ?_
      refine lv_iload_n hx hb dX4_dropLocksOfTree_23 rfl (lv_at hl 0 rfl) ?_
      obtain ⟨r24, M24, hc24, h⟩ := bd2_e h
      refine kX4_225 C hml hl.1 (c_X4_isIn hc24) ⟨Nat.le_of_ble_eq_true rfl, Nat.le_of_ble_eq_true rfl⟩ ⟨Nat.le_of_ble_eq_true rfl, Nat.le_of_ble_eq_true rfl⟩ (Nat.le_of_ble_eq_true rfl) hS hW dX4_dropLocksOfTree_24 (fun H locs hW hS => ?_)
      refine lv_if_eq (tgt := 38) hx hb dX4_dropLocksOfTree_27 (by decide) (fun c27 => ?_) (fun c27 => ?_)
      · have h := (if_pos c27).symm.trans h
        exact w_X4_dropLocksOfTree_38 C hml hr hlk hK2 h hS hW (lv_sub hl [1, 2, 3] rfl)
      · have h := (if_neg c27).symm.trans h
        refine lv_aload_n hx hb dX4_dropLocksOfTree_30 rfl (lv_at hl 1 rfl) ?_
        refine gX4_19 C hW dX4_dropLocksOfTree_31 ?_
        refine lv_iload_n hx hb dX4_dropLocksOfTree_34 rfl (lv_at hl 0 rfl) ?_
        obtain ⟨M35, hc35, h⟩ := bd1_e h
        refine kX4_246 C hml hl.1 (c_X1_dropAt hc35) ⟨Nat.le_of_ble_eq_true rfl, Nat.le_of_ble_eq_true rfl⟩ ⟨Nat.le_of_ble_eq_true rfl, Nat.le_of_ble_eq_true rfl⟩ (Nat.le_of_ble_eq_true rfl) hS hW dX4_dropLocksOfTree_35 (fun H locs hW hS => ?_)
        exact w_X4_dropLocksOfTree_38 C hml hr hlk hK2 h hS hW (lv_sub hl [1, 2, 3] rfl)
def f_X4_dropLocksOfTree_0 (M : Mem) (x1 : Int32) : Option Mem :=
  f_X4_dropLocksOfTree_2 64 M x1 (0 : Int32)
set_option maxHeartbeats 4000000 in
set_option maxRecDepth 100000 in
theorem w_X4_dropLocksOfTree_0 {p : Program} {l : Launch} {e : Env} {s : State} {m : MethodId} {args : Array Value} {below : List Frame} {meth : Method} {c : Code} {Z : Zt} {b : Nat} (C : Cx p s m args c cX4_dropLocksOfTree RX4 Z b) (hml : c.maxLocals = 4) (hr : meth.sig.returnType = (none : Option Jvm.ClassFile.FieldType)) (hlk : meth.locks = false) {M' : Mem} {M : Mem} {x1 : Int32} (h : f_X4_dropLocksOfTree_0 M x1 = some M') {H : Heap} {locs : List Loc} {ls : Array Slot} (hS : va_S (A0 b) s.heap H locs) (hW : Wd Z b M H) (hl : lv_has ls 4 [(0, .ref (b + 0)), (1, .int x1)]) : W p l e rm_X4_dropLocksOfTree s m args below meth c H locs 0 0 (MQ below (Qn Z b none M') args s 0 0 (A0 b)) (F0 m 0 ls []) := by
  unfold f_X4_dropLocksOfTree_0 at h
  have hx := C.1
  have hb := C.2.1
  refine lv_iconst (v := (0 : Int32)) hx hb dX4_dropLocksOfTree_0 (by decide) ?_
  refine lv_istore_n (lv' := [(2, .int (0 : Int32)), (0, .ref (b + 0)), (1, .int x1)]) hx hb dX4_dropLocksOfTree_1 rfl hl (by decide) rfl (fun ls hl => ?_)
  exact w_X4_dropLocksOfTree_2 C hml hr hlk 64 h hS hW (lv_sub hl [1, 2, 0] rfl)
def f_X4_dropLocksOfTree (M : Mem) (x1 : Int32) : Option Mem := f_X4_dropLocksOfTree_0 M x1
set_option maxHeartbeats 4000000 in
set_option maxRecDepth 100000 in
theorem c_X4_dropLocksOfTree {l : Launch} {Z : Zt} {b : Nat} {M : Mem} {x1 : Int32} {M' : Mem} (h : f_X4_dropLocksOfTree M x1 = some M') : Ct l yX4_dropLocksOfTree cX4_dropLocksOfTree 4 (none : Option Jvm.ClassFile.FieldType) rm_X4_dropLocksOfTree Z b [.ref (b + 0), .int x1] M none M' := by
  refine Met.ofW (cc := cX4_dropLocksOfTree) (maxL := 4) (ret := (none : Option Jvm.ClassFile.FieldType)) (by decide) rfl ?_
  intro p e s m args below meth c s₁ B hml hv
  obtain ⟨rfl, hE, hW⟩ := hv
  have C : Cx p s m [.ref (b + 0), .int x1].toArray c cX4_dropLocksOfTree RX4 Z b := ⟨B.exec, B.bytes, findClass_of_methodNamed B.named, fun w hw => atoms_spec (ws := Cond.code yX4_dropLocksOfTree cX4_dropLocksOfTree 4 (none : Option Jvm.ClassFile.FieldType) :: wsA) B.pre w (List.mem_cons_of_mem _ hw), hE⟩
  have hl := lv_entry [.ref (b + 0), .int x1] (n := 4) (Nat.le_of_ble_eq_true rfl)
  rw [lg_entry_eq]
  generalize (lg_sl [.ref (b + 0), .int x1] ++ List.replicate (4 - (lg_sl [.ref (b + 0), .int x1]).length) Slot.unset).toArray = ls at hl ⊢
  have hl : lv_has ls 4 [(0, .ref (b + 0)), (1, .int x1)] := hl
  exact w_X4_dropLocksOfTree_0 C hml B.returns B.notSynchronized h va_S.rf hW hl
def f_X3_shift_68B (K68 : Mem → Int32 → Nat → Int32 → Option Mem) (M : Mem) (x2 : Int32) (k3 : Nat) (x4 : Int32) : Option Mem :=
  if x4 ≤ x2 then (if x2 < 0 ∨ 60 ≤ x2.toNatClampNeg then none else some (mu M 3 x2.toNatClampNeg (nI k3))) else if (x4 - (1 : Int32)) < 0 ∨ 60 ≤ (x4 - (1 : Int32)).toNatClampNeg then none else if 60 ≤ rk M (x4 - (1 : Int32)).toNatClampNeg then none else if x4 < 0 ∨ 60 ≤ x4.toNatClampNeg then none else K68 (mu M 3 x4.toNatClampNeg (nI (rk M (x4 - (1 : Int32)).toNatClampNeg))) x2 k3 (x4 + (-1))
def f_X3_shift_68 : Nat → Mem → Int32 → Nat → Int32 → Option Mem
  | 0 => fun _ _ _ _ => none
  | n + 1 => f_X3_shift_68B (f_X3_shift_68 n)
set_option maxHeartbeats 4000000 in
set_option maxRecDepth 100000 in
theorem w_X3_shift_68 {p : Program} {l : Launch} {e : Env} {s : State} {m : MethodId} {args : Array Value} {below : List Frame} {meth : Method} {c : Code} {Z : Zt} {b : Nat} (C : Cx p s m args c cX3_shift RX3 Z b) (hml : c.maxLocals = 5) (hr : meth.sig.returnType = (none : Option Jvm.ClassFile.FieldType)) (hlk : meth.locks = false) {M' : Mem} : ∀ (n : Nat) {M : Mem} {x2 : Int32} {k3 : Nat} {x4 : Int32} (hk3 : k3 < 60) (h : f_X3_shift_68 n M x2 k3 x4 = some M') {H : Heap} {locs : List Loc} {ls : Array Slot} (hS : va_S (A0 b) s.heap H locs) (hW : Wd Z b M H) (hl : lv_has ls 5 [(0, .ref (b + 1)), (2, .int x2), (3, .ref (b + (3 + 2 * k3))), (4, .int x4)]), W p l e rm_X3_shift s m args below meth c H locs 0 0 (MQ below (Qn Z b none M') args s 0 0 (A0 b)) (F0 m 68 ls []) := by
  intro n
  induction n with
  | zero =>
    intro M x2 k3 x4 hk3 h
    cases h
  | succ n ih =>
    intro M x2 k3 x4 hk3 h H locs ls hS hW hl
    have h : f_X3_shift_68B (f_X3_shift_68 n) M x2 k3 x4 = some M' := h
    unfold f_X3_shift_68B at h
    have hK68 := @ih
    have hx := C.1
    have hb := C.2.1
    refine lv_iload hx hb dX3_shift_68 (lv_at hl 3 rfl) ?_
    refine lv_iload_n hx hb dX3_shift_70 rfl (lv_at hl 1 rfl) ?_
    refine lv_icmp_le (tgt := 96) hx hb dX3_shift_71 (by decide) (fun c71 => ?_) (fun c71 => ?_)
    · have h := (if_pos c71).symm.trans h
      refine lv_aload_n hx hb dX3_shift_96 rfl (lv_at hl 0 rfl) ?_
      refine gX3_11 C hW dX3_shift_97 ?_
      refine lv_iload_n hx hb dX3_shift_100 rfl (lv_at hl 1 rfl) ?_
      refine lv_aload_n hx hb dX3_shift_101 rfl (lv_at hl 2 rfl) ?_
      obtain ⟨g102, h⟩ := gd h
      refine ast_row hk3 C hS hW g102 dX3_shift_102 (fun H locs hW hS => ?_)
      cases h
      exact ret_v C hr hlk hS hW dX3_shift_103
    · have h := (if_neg c71).symm.trans h
      refine lv_aload_n hx hb dX3_shift_74 rfl (lv_at hl 0 rfl) ?_
      refine gX3_11 C hW dX3_shift_75 ?_
      refine lv_iload hx hb dX3_shift_78 (lv_at hl 3 rfl) ?_
      refine lv_aload_n hx hb dX3_shift_80 rfl (lv_at hl 0 rfl) ?_
      refine gX3_11 C hW dX3_shift_81 ?_
      refine lv_iload hx hb dX3_shift_84 (lv_at hl 3 rfl) ?_
      refine lv_iconst (v := (1 : Int32)) hx hb dX3_shift_86 (by decide) ?_
      refine lv_isub hx hb dX3_shift_87 ?_
      obtain ⟨g88, h⟩ := gd h
      obtain ⟨gr88, h⟩ := gd h
      have hr88 := Nat.lt_of_not_le gr88
      refine ald_row C hW g88 dX3_shift_88 ?_
      obtain ⟨g89, h⟩ := gd h
      refine ast_row hr88 C hS hW g89 dX3_shift_89 (fun H locs hW hS => ?_)
      refine lv_iinc (v := x4 + (-1)) (lv' := [(4, .int (x4 + (-1))), (0, .ref (b + 1)), (2, .int x2), (3, .ref (b + (3 + 2 * k3)))]) hx hb dX3_shift_90 hl (k := 3) rfl rfl (by decide) rfl (fun ls hl => ?_)
      refine lv_goto (tgt := 68) hx hb dX3_shift_93 (by decide) ?_
      exact hK68 hk3 h hS hW (lv_sub hl [1, 2, 3, 0] rfl)
def f_X3_shift_37B (K37 : Mem → Int32 → Int32 → Nat → Int32 → Option Mem) (M : Mem) (x1 : Int32) (x2 : Int32) (k3 : Nat) (x4 : Int32) : Option Mem :=
  if x2 ≤ x4 then f_X3_shift_68 64 M x2 k3 x1 else if (x4 + (1 : Int32)) < 0 ∨ 60 ≤ (x4 + (1 : Int32)).toNatClampNeg then none else if 60 ≤ rk M (x4 + (1 : Int32)).toNatClampNeg then none else if x4 < 0 ∨ 60 ≤ x4.toNatClampNeg then none else K37 (mu M 3 x4.toNatClampNeg (nI (rk M (x4 + (1 : Int32)).toNatClampNeg))) x1 x2 k3 (x4 + 1)
def f_X3_shift_37 : Nat → Mem → Int32 → Int32 → Nat → Int32 → Option Mem
  | 0 => fun _ _ _ _ _ => none
  | n + 1 => f_X3_shift_37B (f_X3_shift_37 n)
set_option maxHeartbeats 4000000 in
set_option maxRecDepth 100000 in
theorem w_X3_shift_37 {p : Program} {l : Launch} {e : Env} {s : State} {m : MethodId} {args : Array Value} {below : List Frame} {meth : Method} {c : Code} {Z : Zt} {b : Nat} (C : Cx p s m args c cX3_shift RX3 Z b) (hml : c.maxLocals = 5) (hr : meth.sig.returnType = (none : Option Jvm.ClassFile.FieldType)) (hlk : meth.locks = false) {M' : Mem} : ∀ (n : Nat) {M : Mem} {x1 : Int32} {x2 : Int32} {k3 : Nat} {x4 : Int32} (hk3 : k3 < 60) (h : f_X3_shift_37 n M x1 x2 k3 x4 = some M') {H : Heap} {locs : List Loc} {ls : Array Slot} (hS : va_S (A0 b) s.heap H locs) (hW : Wd Z b M H) (hl : lv_has ls 5 [(0, .ref (b + 1)), (1, .int x1), (2, .int x2), (3, .ref (b + (3 + 2 * k3))), (4, .int x4)]), W p l e rm_X3_shift s m args below meth c H locs 0 0 (MQ below (Qn Z b none M') args s 0 0 (A0 b)) (F0 m 37 ls []) := by
  intro n
  induction n with
  | zero =>
    intro M x1 x2 k3 x4 hk3 h
    cases h
  | succ n ih =>
    intro M x1 x2 k3 x4 hk3 h H locs ls hS hW hl
    have h : f_X3_shift_37B (f_X3_shift_37 n) M x1 x2 k3 x4 = some M' := h
    unfold f_X3_shift_37B at h
    have hK37 := @ih
    have hx := C.1
    have hb := C.2.1
    refine lv_iload hx hb dX3_shift_37 (lv_at hl 4 rfl) ?_
    refine lv_iload_n hx hb dX3_shift_39 rfl (lv_at hl 2 rfl) ?_
    refine lv_icmp_ge (tgt := 65) hx hb dX3_shift_40 (by decide) (fun c40 => ?_) (fun c40 => ?_)
    · have h := (if_pos c40).symm.trans h
      refine lv_iload_n hx hb dX3_shift_65 rfl (lv_at hl 1 rfl) ?_
      refine lv_istore (lv' := [(4, .int x1), (0, .ref (b + 1)), (1, .int x1), (2, .int x2), (3, .ref (b + (3 + 2 * k3)))]) hx hb dX3_shift_66 hl (by decide) rfl (fun ls hl => ?_)
      exact w_X3_shift_68 C hml hr hlk 64 hk3 h hS hW (lv_sub hl [1, 3, 4, 0] rfl)
    · have h := (if_neg c40).symm.trans h
      refine lv_aload_n hx hb dX3_shift_43 rfl (lv_at hl 0 rfl) ?_
      refine gX3_11 C hW dX3_shift_44 ?_
      refine lv_iload hx hb dX3_shift_47 (lv_at hl 4 rfl) ?_
      refine lv_aload_n hx hb dX3_shift_49 rfl (lv_at hl 0 rfl) ?_
      refine gX3_11 C hW dX3_shift_50 ?_
      refine lv_iload hx hb dX3_shift_53 (lv_at hl 4 rfl) ?_
      refine lv_iconst (v := (1 : Int32)) hx hb dX3_shift_55 (by decide) ?_
      refine lv_iadd hx hb dX3_shift_56 ?_
      obtain ⟨g57, h⟩ := gd h
      obtain ⟨gr57, h⟩ := gd h
      have hr57 := Nat.lt_of_not_le gr57
      refine ald_row C hW g57 dX3_shift_57 ?_
      obtain ⟨g58, h⟩ := gd h
      refine ast_row hr57 C hS hW g58 dX3_shift_58 (fun H locs hW hS => ?_)
      refine lv_iinc (v := x4 + 1) (lv' := [(4, .int (x4 + 1)), (0, .ref (b + 1)), (1, .int x1), (2, .int x2), (3, .ref (b + (3 + 2 * k3)))]) hx hb dX3_shift_59 hl (k := 4) rfl rfl (by decide) rfl (fun ls hl => ?_)
      refine lv_goto (tgt := 37) hx hb dX3_shift_62 (by decide) ?_
      exact hK37 hk3 h hS hW (lv_sub hl [1, 2, 3, 4, 0] rfl)
def f_X3_shift_0 (M : Mem) (x1 : Int32) (x2 : Int32) : Option Mem :=
  if x1 < 0 then some M else if (60 : Int32) ≤ x1 then some M else if x2 < 0 then some M else if x2 < (60 : Int32) then (if x1 < 0 ∨ 60 ≤ x1.toNatClampNeg then none else if 60 ≤ rk M x1.toNatClampNeg then none else f_X3_shift_37 64 M x1 x2 (rk M x1.toNatClampNeg) x1) else some M
set_option maxHeartbeats 4000000 in
set_option maxRecDepth 100000 in
theorem w_X3_shift_0 {p : Program} {l : Launch} {e : Env} {s : State} {m : MethodId} {args : Array Value} {below : List Frame} {meth : Method} {c : Code} {Z : Zt} {b : Nat} (C : Cx p s m args c cX3_shift RX3 Z b) (hml : c.maxLocals = 5) (hr : meth.sig.returnType = (none : Option Jvm.ClassFile.FieldType)) (hlk : meth.locks = false) {M' : Mem} {M : Mem} {x1 : Int32} {x2 : Int32} (h : f_X3_shift_0 M x1 x2 = some M') {H : Heap} {locs : List Loc} {ls : Array Slot} (hS : va_S (A0 b) s.heap H locs) (hW : Wd Z b M H) (hl : lv_has ls 5 [(0, .ref (b + 1)), (1, .int x1), (2, .int x2)]) : W p l e rm_X3_shift s m args below meth c H locs 0 0 (MQ below (Qn Z b none M') args s 0 0 (A0 b)) (F0 m 0 ls []) := by
  unfold f_X3_shift_0 at h
  have hx := C.1
  have hb := C.2.1
  refine lv_iload_n hx hb dX3_shift_0 rfl (lv_at hl 1 rfl) ?_
  refine lv_if_lt (tgt := 26) hx hb dX3_shift_1 (by decide) (fun c1 => ?_) (fun c1 => ?_)
  · have h := (if_pos c1).symm.trans h
    cases h
    exact ret_v C hr hlk hS hW dX3_shift_26
  · have h := (if_neg c1).symm.trans h
    refine lv_iload_n hx hb dX3_shift_4 rfl (lv_at hl 1 rfl) ?_
    refine lv_aload_n hx hb dX3_shift_5 rfl (lv_at hl 0 rfl) ?_
    refine gX3_11 C hW dX3_shift_6 ?_
    refine alen_2 C hW dX3_shift_9 ?_
    refine lv_icmp_ge (tgt := 26) hx hb dX3_shift_10 (by decide) (fun c10 => ?_) (fun c10 => ?_)
    · have h := (if_pos c10).symm.trans h
      cases h
      exact ret_v C hr hlk hS hW dX3_shift_26
    · have h := (if_neg c10).symm.trans h
      refine lv_iload_n hx hb dX3_shift_13 rfl (lv_at hl 2 rfl) ?_
      refine lv_if_lt (tgt := 26) hx hb dX3_shift_14 (by decide) (fun c14 => ?_) (fun c14 => ?_)
      · have h := (if_pos c14).symm.trans h
        cases h
        exact ret_v C hr hlk hS hW dX3_shift_26
      · have h := (if_neg c14).symm.trans h
        refine lv_iload_n hx hb dX3_shift_17 rfl (lv_at hl 2 rfl) ?_
        refine lv_aload_n hx hb dX3_shift_18 rfl (lv_at hl 0 rfl) ?_
        refine gX3_11 C hW dX3_shift_19 ?_
        refine alen_2 C hW dX3_shift_22 ?_
        refine lv_icmp_lt (tgt := 27) hx hb dX3_shift_23 (by decide) (fun c23 => ?_) (fun c23 => ?_)
        · have h := (if_pos c23).symm.trans h
          refine lv_aload_n hx hb dX3_shift_27 rfl (lv_at hl 0 rfl) ?_
          refine gX3_11 C hW dX3_shift_28 ?_
          refine lv_iload_n hx hb dX3_shift_31 rfl (lv_at hl 1 rfl) ?_
          obtain ⟨g32, h⟩ := gd h
          obtain ⟨gr32, h⟩ := gd h
          have hr32 := Nat.lt_of_not_le gr32
          refine ald_row C hW g32 dX3_shift_32 ?_
          refine lv_astore_n (lv' := [(3, .ref (b + (3 + 2 * (rk M x1.toNatClampNeg)))), (0, .ref (b + 1)), (1, .int x1), (2, .int x2)]) hx hb dX3_shift_33 rfl hl (by decide) rfl (fun ls hl => ?_)
          refine lv_iload_n hx hb dX3_shift_34 rfl (lv_at hl 2 rfl) ?_
          refine lv_istore (lv' := [(4, .int x1), (3, .ref (b + (3 + 2 * (rk M x1.toNatClampNeg)))), (0, .ref (b + 1)), (1, .int x1), (2, .int x2)]) hx hb dX3_shift_35 hl (by decide) rfl (fun ls hl => ?_)
          exact w_X3_shift_37 C hml hr hlk 64 hr32 h hS hW (lv_sub hl [2, 3, 4, 1, 0] rfl)
        · have h := (if_neg c23).symm.trans h
          cases h
          exact ret_v C hr hlk hS hW dX3_shift_26
def f_X3_shift (M : Mem) (x1 : Int32) (x2 : Int32) : Option Mem := f_X3_shift_0 M x1 x2
set_option maxHeartbeats 4000000 in
set_option maxRecDepth 100000 in
theorem c_X3_shift {l : Launch} {Z : Zt} {b : Nat} {M : Mem} {x1 : Int32} {x2 : Int32} {M' : Mem} (h : f_X3_shift M x1 x2 = some M') : Ct l yX3_shift cX3_shift 5 (none : Option Jvm.ClassFile.FieldType) rm_X3_shift Z b [.ref (b + 1), .int x1, .int x2] M none M' := by
  refine Met.ofW (cc := cX3_shift) (maxL := 5) (ret := (none : Option Jvm.ClassFile.FieldType)) (by decide) rfl ?_
  intro p e s m args below meth c s₁ B hml hv
  obtain ⟨rfl, hE, hW⟩ := hv
  have C : Cx p s m [.ref (b + 1), .int x1, .int x2].toArray c cX3_shift RX3 Z b := ⟨B.exec, B.bytes, findClass_of_methodNamed B.named, fun w hw => atoms_spec (ws := Cond.code yX3_shift cX3_shift 5 (none : Option Jvm.ClassFile.FieldType) :: wsA) B.pre w (List.mem_cons_of_mem _ hw), hE⟩
  have hl := lv_entry [.ref (b + 1), .int x1, .int x2] (n := 5) (Nat.le_of_ble_eq_true rfl)
  rw [lg_entry_eq]
  generalize (lg_sl [.ref (b + 1), .int x1, .int x2] ++ List.replicate (5 - (lg_sl [.ref (b + 1), .int x1, .int x2]).length) Slot.unset).toArray = ls at hl ⊢
  have hl : lv_has ls 5 [(0, .ref (b + 1)), (1, .int x1), (2, .int x2)] := hl
  exact w_X3_shift_0 C hml B.returns B.notSynchronized h va_S.rf hW hl
def f_X3_memberIndex_52 (K5 : Mem → Int32 → Int32 → Int32 → Int32 → Option (Int32 × Mem)) (M : Mem) (x1 : Int32) (x2 : Int32) (x3 : Int32) (x4 : Int32) : Option (Int32 × Mem) :=
  K5 M x1 x2 x3 (x4 + 1)
set_option maxHeartbeats 4000000 in
set_option maxRecDepth 100000 in
theorem w_X3_memberIndex_52 {p : Program} {l : Launch} {e : Env} {s : State} {m : MethodId} {args : Array Value} {below : List Frame} {meth : Method} {c : Code} {Z : Zt} {b : Nat} (C : Cx p s m args c cX3_memberIndex RX3 Z b) (hml : c.maxLocals = 5) (hr : meth.sig.returnType = (some .int)) (hlk : meth.locks = false) {r' : Int32} {M' : Mem} {K5 : Mem → Int32 → Int32 → Int32 → Int32 → Option (Int32 × Mem)} (hK5 : ∀ {M : Mem} {x1 : Int32} {x2 : Int32} {x3 : Int32} {x4 : Int32} (h : K5 M x1 x2 x3 x4 = some (r', M')) {H : Heap} {locs : List Loc} {ls : Array Slot} (hS : va_S (A0 b) s.heap H locs) (hW : Wd Z b M H) (hl : lv_has ls 5 [(0, .ref (b + 1)), (1, .int x1), (2, .int x2), (3, .int x3), (4, .int x4)]), W p l e rm_X3_memberIndex s m args below meth c H locs 0 0 (MQ below (Qn Z b (some (.int r')) M') args s 0 0 (A0 b)) (F0 m 5 ls [])) {M : Mem} {x1 : Int32} {x2 : Int32} {x3 : Int32} {x4 : Int32} (h : f_X3_memberIndex_52 K5 M x1 x2 x3 x4 = some (r', M')) {H : Heap} {locs : List Loc} {ls : Array Slot} (hS : va_S (A0 b) s.heap H locs) (hW : Wd Z b M H) (hl : lv_has ls 5 [(0, .ref (b + 1)), (1, .int x1), (2, .int x2), (3, .int x3), (4, .int x4)]) : W p l e rm_X3_memberIndex s m args below meth c H locs 0 0 (MQ below (Qn Z b (some (.int r')) M') args s 0 0 (A0 b)) (F0 m 52 ls []) := by
  unfold f_X3_memberIndex_52 at h
  have hx := C.1
  have hb := C.2.1
  refine lv_iinc (v := x4 + 1) (lv' := [(4, .int (x4 + 1)), (0, .ref (b + 1)), (1, .int x1), (2, .int x2), (3, .int x3)]) hx hb dX3_memberIndex_52 hl (k := 4) rfl rfl (by decide) rfl (fun ls hl => ?_)
  refine lv_goto (tgt := 5) hx hb dX3_memberIndex_55 (by decide) ?_
  exact hK5 h hS hW (lv_sub hl [1, 2, 3, 4, 0] rfl)
def f_X3_memberIndex_5B (K5 : Mem → Int32 → Int32 → Int32 → Int32 → Option (Int32 × Mem)) (M : Mem) (x1 : Int32) (x2 : Int32) (x3 : Int32) (x4 : Int32) : Option (Int32 × Mem) :=
  if (M 2 0) ≤ x4 then some ((-1 : Int32), M) else if (60 : Int32) ≤ x4 then some ((-1 : Int32), M) else if x4 < 0 ∨ 60 ≤ x4.toNatClampNeg then none else if 60 ≤ rk M x4.toNatClampNeg then none else bd2 (f_X4_parentOf M (M 4 (rk M x4.toNatClampNeg))) (fun r34 M34 => if r34 = x1 then (if x3 = x2 then some (x4, M34) else f_X3_memberIndex_52 K5 M34 x1 x2 (x3 + 1) x4) else f_X3_memberIndex_52 K5 M34 x1 x2 x3 x4)
def f_X3_memberIndex_5 : Nat → Mem → Int32 → Int32 → Int32 → Int32 → Option (Int32 × Mem)
  | 0 => fun _ _ _ _ _ => none
  | n + 1 => f_X3_memberIndex_5B (f_X3_memberIndex_5 n)
set_option maxHeartbeats 4000000 in
set_option maxRecDepth 100000 in
theorem w_X3_memberIndex_5 {p : Program} {l : Launch} {e : Env} {s : State} {m : MethodId} {args : Array Value} {below : List Frame} {meth : Method} {c : Code} {Z : Zt} {b : Nat} (C : Cx p s m args c cX3_memberIndex RX3 Z b) (hml : c.maxLocals = 5) (hr : meth.sig.returnType = (some .int)) (hlk : meth.locks = false) {r' : Int32} {M' : Mem} : ∀ (n : Nat) {M : Mem} {x1 : Int32} {x2 : Int32} {x3 : Int32} {x4 : Int32} (h : f_X3_memberIndex_5 n M x1 x2 x3 x4 = some (r', M')) {H : Heap} {locs : List Loc} {ls : Array Slot} (hS : va_S (A0 b) s.heap H locs) (hW : Wd Z b M H) (hl : lv_has ls 5 [(0, .ref (b + 1)), (1, .int x1), (2, .int x2), (3, .int x3), (4, .int x4)]), W p l e rm_X3_memberIndex s m args below meth c H locs 0 0 (MQ below (Qn Z b (some (.int r')) M') args s 0 0 (A0 b)) (F0 m 5 ls []) := by
  intro n
  induction n with
  | zero =>
    intro M x1 x2 x3 x4 h
    cases h
  | succ n ih =>
    intro M x1 x2 x3 x4 h H locs ls hS hW hl
    have h : f_X3_memberIndex_5B (f_X3_memberIndex_5 n) M x1 x2 x3 x4 = some (r', M') := h
    unfold f_X3_memberIndex_5B at h
    have hK5 := @ih
    have hx := C.1
    have hb := C.2.1
    refine lv_iload hx hb dX3_memberIndex_5 (lv_at hl 4 rfl) ?_
    refine lv_aload_n hx hb dX3_memberIndex_7 rfl (lv_at hl 0 rfl) ?_
    refine gX3_18 C hW dX3_memberIndex_8 ?_
    refine lv_icmp_ge (tgt := 58) hx hb dX3_memberIndex_11 (by decide) (fun c11 => ?_) (fun c11 => ?_)
    · have h := (if_pos c11).symm.trans h
      refine lv_iconst (v := (-1 : Int32)) hx hb dX3_memberIndex_58 (by decide) ?_
      cases h
      exact ret_i C hr hlk hS hW dX3_memberIndex_59
    · have h := (if_neg c11).symm.trans h
      refine lv_iload hx hb dX3_memberIndex_14 (lv_at hl 4 rfl) ?_
      refine lv_aload_n hx hb dX3_memberIndex_16 rfl (lv_at hl 0 rfl) ?_
      refine gX3_11 C hW dX3_memberIndex_17 ?_
      refine alen_2 C hW dX3_memberIndex_20 ?_
      refine lv_icmp_ge (tgt := 58) hx hb dX3_memberIndex_21 (by decide) (fun c21 => ?_) (fun c21 => ?_)
      · have h := (if_pos c21).symm.trans h
        refine lv_iconst (v := (-1 : Int32)) hx hb dX3_memberIndex_58 (by decide) ?_
        cases h
        exact ret_i C hr hlk hS hW dX3_memberIndex_59
      · have h := (if_neg c21).symm.trans h
        refine lv_aload_n hx hb dX3_memberIndex_24 rfl (lv_at hl 0 rfl) ?_
        refine gX3_11 C hW dX3_memberIndex_25 ?_
        refine lv_iload hx hb dX3_memberIndex_28 (lv_at hl 4 rfl) ?_
        obtain ⟨g30, h⟩ := gd h
        obtain ⟨gr30, h⟩ := gd h
        have hr30 := Nat.lt_of_not_le gr30
        refine ald_row C hW g30 dX3_memberIndex_30 ?_
        refine gX3_22 hr30 C hW dX3_memberIndex_31 ?_
        obtain ⟨r34, M34, hc34, h⟩ := bd2_e h
        refine kX3_65 C hml hl.1 (c_X4_parentOf hc34) ⟨Nat.le_of_ble_eq_true rfl, Nat.le_of_ble_eq_true rfl⟩ ⟨Nat.le_of_ble_eq_true rfl, Nat.le_of_ble_eq_true rfl⟩ (Nat.le_of_ble_eq_true rfl) hS hW dX3_memberIndex_34 (fun H locs hW hS => ?_)
        refine lv_iload_n hx hb dX3_memberIndex_37 rfl (lv_at hl 1 rfl) ?_
        refine lv_icmp_ne (tgt := 52) hx hb dX3_memberIndex_38 (by decide) (fun c38 => ?_) (fun c38 => ?_)
        · have h := (if_neg c38).symm.trans h
          exact w_X3_memberIndex_52 C hml hr hlk hK5 h hS hW (lv_sub hl [0, 1, 2, 3, 4] rfl)
        · have h := (if_pos c38).symm.trans h
          refine lv_iload_n hx hb dX3_memberIndex_41 rfl (lv_at hl 3 rfl) ?_
          refine lv_iload_n hx hb dX3_memberIndex_42 rfl (lv_at hl 2 rfl) ?_
          refine lv_icmp_ne (tgt := 49) hx hb dX3_memberIndex_43 (by decide) (fun c43 => ?_) (fun c43 => ?_)
          · have h := (if_neg c43).symm.trans h
            refine lv_iinc (v := x3 + 1) (lv' := [(3, .int (x3 + 1)), (0, .ref (b + 1)), (1, .int x1), (2, .int x2), (4, .int x4)]) hx hb dX3_memberIndex_49 hl (k := 3) rfl rfl (by decide) rfl (fun ls hl => ?_)
            exact w_X3_memberIndex_52 C hml hr hlk hK5 h hS hW (lv_sub hl [1, 2, 3, 0, 4] rfl)
          · have h := (if_pos c43).symm.trans h
            refine lv_iload hx hb dX3_memberIndex_46 (lv_at hl 4 rfl) ?_
            cases h
            exact ret_i C hr hlk hS hW dX3_memberIndex_48
def f_X3_memberIndex_0 (M : Mem) (x1 : Int32) (x2 : Int32) : Option (Int32 × Mem) :=
  f_X3_memberIndex_5 64 M x1 x2 (0 : Int32) (0 : Int32)
set_option maxHeartbeats 4000000 in
set_option maxRecDepth 100000 in
theorem w_X3_memberIndex_0 {p : Program} {l : Launch} {e : Env} {s : State} {m : MethodId} {args : Array Value} {below : List Frame} {meth : Method} {c : Code} {Z : Zt} {b : Nat} (C : Cx p s m args c cX3_memberIndex RX3 Z b) (hml : c.maxLocals = 5) (hr : meth.sig.returnType = (some .int)) (hlk : meth.locks = false) {r' : Int32} {M' : Mem} {M : Mem} {x1 : Int32} {x2 : Int32} (h : f_X3_memberIndex_0 M x1 x2 = some (r', M')) {H : Heap} {locs : List Loc} {ls : Array Slot} (hS : va_S (A0 b) s.heap H locs) (hW : Wd Z b M H) (hl : lv_has ls 5 [(0, .ref (b + 1)), (1, .int x1), (2, .int x2)]) : W p l e rm_X3_memberIndex s m args below meth c H locs 0 0 (MQ below (Qn Z b (some (.int r')) M') args s 0 0 (A0 b)) (F0 m 0 ls []) := by
  unfold f_X3_memberIndex_0 at h
  have hx := C.1
  have hb := C.2.1
  refine lv_iconst (v := (0 : Int32)) hx hb dX3_memberIndex_0 (by decide) ?_
  refine lv_istore_n (lv' := [(3, .int (0 : Int32)), (0, .ref (b + 1)), (1, .int x1), (2, .int x2)]) hx hb dX3_memberIndex_1 rfl hl (by decide) rfl (fun ls hl => ?_)
  refine lv_iconst (v := (0 : Int32)) hx hb dX3_memberIndex_2 (by decide) ?_
  refine lv_istore (lv' := [(4, .int (0 : Int32)), (3, .int (0 : Int32)), (0, .ref (b + 1)), (1, .int x1), (2, .int x2)]) hx hb dX3_memberIndex_3 hl (by decide) rfl (fun ls hl => ?_)
  exact w_X3_memberIndex_5 C hml hr hlk 64 h hS hW (lv_sub hl [2, 3, 4, 1, 0] rfl)
def f_X3_memberIndex (M : Mem) (x1 : Int32) (x2 : Int32) : Option (Int32 × Mem) := f_X3_memberIndex_0 M x1 x2
set_option maxHeartbeats 4000000 in
set_option maxRecDepth 100000 in
theorem c_X3_memberIndex {l : Launch} {Z : Zt} {b : Nat} {M : Mem} {x1 : Int32} {x2 : Int32} {r' : Int32} {M' : Mem} (h : f_X3_memberIndex M x1 x2 = some (r', M')) : Ct l yX3_memberIndex cX3_memberIndex 5 (some .int) rm_X3_memberIndex Z b [.ref (b + 1), .int x1, .int x2] M (some (.int r')) M' := by
  refine Met.ofW (cc := cX3_memberIndex) (maxL := 5) (ret := (some .int)) (by decide) rfl ?_
  intro p e s m args below meth c s₁ B hml hv
  obtain ⟨rfl, hE, hW⟩ := hv
  have C : Cx p s m [.ref (b + 1), .int x1, .int x2].toArray c cX3_memberIndex RX3 Z b := ⟨B.exec, B.bytes, findClass_of_methodNamed B.named, fun w hw => atoms_spec (ws := Cond.code yX3_memberIndex cX3_memberIndex 5 (some .int) :: wsA) B.pre w (List.mem_cons_of_mem _ hw), hE⟩
  have hl := lv_entry [.ref (b + 1), .int x1, .int x2] (n := 5) (Nat.le_of_ble_eq_true rfl)
  rw [lg_entry_eq]
  generalize (lg_sl [.ref (b + 1), .int x1, .int x2] ++ List.replicate (5 - (lg_sl [.ref (b + 1), .int x1, .int x2]).length) Slot.unset).toArray = ls at hl ⊢
  have hl : lv_has ls 5 [(0, .ref (b + 1)), (1, .int x1), (2, .int x2)] := hl
  exact w_X3_memberIndex_0 C hml B.returns B.notSynchronized h va_S.rf hW hl
def f_X3_placeMember_0 (M : Mem) (x1 : Int32) (x2 : Int32) : Option Mem :=
  bd2 (f_X3_indexOf M x1) (fun r2 M2 => if 0 ≤ r2 then bd1 (f_X3_shift M2 r2 ((M2 2 0) - (1 : Int32))) (fun M19 => bd2 (f_X4_parentOf M19 x1) (fun r24 M24 => bd2 (f_X3_memberIndex M24 r24 x2) (fun r28 M28 => if r28 < 0 then some M28 else bd1 (f_X3_shift M28 ((M28 2 0) - (1 : Int32)) r28) (fun M47 => some M47)))) else some M2)
set_option maxHeartbeats 4000000 in
set_option maxRecDepth 100000 in
theorem w_X3_placeMember_0 {p : Program} {l : Launch} {e : Env} {s : State} {m : MethodId} {args : Array Value} {below : List Frame} {meth : Method} {c : Code} {Z : Zt} {b : Nat} (C : Cx p s m args c cX3_placeMember RX3 Z b) (hml : c.maxLocals = 5) (hr : meth.sig.returnType = (none : Option Jvm.ClassFile.FieldType)) (hlk : meth.locks = false) {M' : Mem} {M : Mem} {x1 : Int32} {x2 : Int32} (h : f_X3_placeMember_0 M x1 x2 = some M') {H : Heap} {locs : List Loc} {ls : Array Slot} (hS : va_S (A0 b) s.heap H locs) (hW : Wd Z b M H) (hl : lv_has ls 5 [(0, .ref (b + 1)), (1, .int x1), (2, .int x2)]) : W p l e rm_X3_placeMember s m args below meth c H locs 0 0 (MQ below (Qn Z b none M') args s 0 0 (A0 b)) (F0 m 0 ls []) := by
  unfold f_X3_placeMember_0 at h
  have hx := C.1
  have hb := C.2.1
  refine lv_aload_n hx hb dX3_placeMember_0 rfl (lv_at hl 0 rfl) ?_
  refine lv_iload_n hx hb dX3_placeMember_1 rfl (lv_at hl 1 rfl) ?_
  obtain ⟨r2, M2, hc2, h⟩ := bd2_e h
  refine kX3_25 C hml hl.1 (c_X3_indexOf hc2) ⟨Nat.le_of_ble_eq_true rfl, Nat.le_of_ble_eq_true rfl⟩ ⟨Nat.le_of_ble_eq_true rfl, Nat.le_of_ble_eq_true rfl⟩ (Nat.le_of_ble_eq_true rfl) hS hW dX3_placeMember_2 (fun H locs hW hS => ?_)
  refine lv_istore_n (lv' := [(3, .int r2), (0, .ref (b + 1)), (1, .int x1), (2, .int x2)]) hx hb dX3_placeMember_5 rfl hl (by decide) rfl (fun ls hl => ?_)
  refine lv_iload_n hx hb dX3_placeMember_6 rfl (lv_at hl 0 rfl) ?_
  refine lv_if_ge (tgt := 11) hx hb dX3_placeMember_7 (by decide) (fun c7 => ?_) (fun c7 => ?_)
  · have h := (if_pos c7).symm.trans h
    refine lv_aload_n hx hb dX3_placeMember_11 rfl (lv_at hl 1 rfl) ?_
    refine lv_iload_n hx hb dX3_placeMember_12 rfl (lv_at hl 0 rfl) ?_
    refine lv_aload_n hx hb dX3_placeMember_13 rfl (lv_at hl 1 rfl) ?_
    refine gX3_18 C hW dX3_placeMember_14 ?_
    refine lv_iconst (v := (1 : Int32)) hx hb dX3_placeMember_17 (by decide) ?_
    refine lv_isub hx hb dX3_placeMember_18 ?_
    obtain ⟨M19, hc19, h⟩ := bd1_e h
    refine kX3_68 C hml hl.1 (c_X3_shift hc19) ⟨Nat.le_of_ble_eq_true rfl, Nat.le_of_ble_eq_true rfl⟩ ⟨Nat.le_of_ble_eq_true rfl, Nat.le_of_ble_eq_true rfl⟩ (Nat.le_of_ble_eq_true rfl) hS hW dX3_placeMember_19 (fun H locs hW hS => ?_)
    refine lv_aload_n hx hb dX3_placeMember_22 rfl (lv_at hl 1 rfl) ?_
    refine lv_iload_n hx hb dX3_placeMember_23 rfl (lv_at hl 2 rfl) ?_
    obtain ⟨r24, M24, hc24, h⟩ := bd2_e h
    refine kX3_65 C hml hl.1 (c_X4_parentOf hc24) ⟨Nat.le_of_ble_eq_true rfl, Nat.le_of_ble_eq_true rfl⟩ ⟨Nat.le_of_ble_eq_true rfl, Nat.le_of_ble_eq_true rfl⟩ (Nat.le_of_ble_eq_true rfl) hS hW dX3_placeMember_24 (fun H locs hW hS => ?_)
    refine lv_iload_n hx hb dX3_placeMember_27 rfl (lv_at hl 3 rfl) ?_
    obtain ⟨r28, M28, hc28, h⟩ := bd2_e h
    refine kX3_71 C hml hl.1 (c_X3_memberIndex hc28) ⟨Nat.le_of_ble_eq_true rfl, Nat.le_of_ble_eq_true rfl⟩ ⟨Nat.le_of_ble_eq_true rfl, Nat.le_of_ble_eq_true rfl⟩ (Nat.le_of_ble_eq_true rfl) hS hW dX3_placeMember_28 (fun H locs hW hS => ?_)
    refine lv_istore (lv' := [(4, .int r28), (3, .int r2), (0, .ref (b + 1)), (1, .int x1), (2, .int x2)]) hx hb dX3_placeMember_31 hl (by decide) rfl (fun ls hl => ?_)
    refine lv_iload hx hb dX3_placeMember_33 (lv_at hl 0 rfl) ?_
    refine lv_if_lt (tgt := 50) hx hb dX3_placeMember_35 (by decide) (fun c35 => ?_) (fun c35 => ?_)
    · have h := (if_pos c35).symm.trans h
      cases h
      exact ret_v C hr hlk hS hW dX3_placeMember_50
    · have h := (if_neg c35).symm.trans h
      refine lv_aload_n hx hb dX3_placeMember_38 rfl (lv_at hl 2 rfl) ?_
      refine lv_aload_n hx hb dX3_placeMember_39 rfl (lv_at hl 2 rfl) ?_
      refine gX3_18 C hW dX3_placeMember_40 ?_
      refine lv_iconst (v := (1 : Int32)) hx hb dX3_placeMember_43 (by decide) ?_
      refine lv_isub hx hb dX3_placeMember_44 ?_
      refine lv_iload hx hb dX3_placeMember_45 (lv_at hl 0 rfl) ?_
      obtain ⟨M47, hc47, h⟩ := bd1_e h
      refine kX3_68 C hml hl.1 (c_X3_shift hc47) ⟨Nat.le_of_ble_eq_true rfl, Nat.le_of_ble_eq_true rfl⟩ ⟨Nat.le_of_ble_eq_true rfl, Nat.le_of_ble_eq_true rfl⟩ (Nat.le_of_ble_eq_true rfl) hS hW dX3_placeMember_47 (fun H locs hW hS => ?_)
      cases h
      exact ret_v C hr hlk hS hW dX3_placeMember_50
  · have h := (if_neg c7).symm.trans h
    cases h
    exact ret_v C hr hlk hS hW dX3_placeMember_10
def f_X3_placeMember (M : Mem) (x1 : Int32) (x2 : Int32) : Option Mem := f_X3_placeMember_0 M x1 x2
set_option maxHeartbeats 4000000 in
set_option maxRecDepth 100000 in
theorem c_X3_placeMember {l : Launch} {Z : Zt} {b : Nat} {M : Mem} {x1 : Int32} {x2 : Int32} {M' : Mem} (h : f_X3_placeMember M x1 x2 = some M') : Ct l yX3_placeMember cX3_placeMember 5 (none : Option Jvm.ClassFile.FieldType) rm_X3_placeMember Z b [.ref (b + 1), .int x1, .int x2] M none M' := by
  refine Met.ofW (cc := cX3_placeMember) (maxL := 5) (ret := (none : Option Jvm.ClassFile.FieldType)) (by decide) rfl ?_
  intro p e s m args below meth c s₁ B hml hv
  obtain ⟨rfl, hE, hW⟩ := hv
  have C : Cx p s m [.ref (b + 1), .int x1, .int x2].toArray c cX3_placeMember RX3 Z b := ⟨B.exec, B.bytes, findClass_of_methodNamed B.named, fun w hw => atoms_spec (ws := Cond.code yX3_placeMember cX3_placeMember 5 (none : Option Jvm.ClassFile.FieldType) :: wsA) B.pre w (List.mem_cons_of_mem _ hw), hE⟩
  have hl := lv_entry [.ref (b + 1), .int x1, .int x2] (n := 5) (Nat.le_of_ble_eq_true rfl)
  rw [lg_entry_eq]
  generalize (lg_sl [.ref (b + 1), .int x1, .int x2] ++ List.replicate (5 - (lg_sl [.ref (b + 1), .int x1, .int x2]).length) Slot.unset).toArray = ls at hl ⊢
  have hl : lv_has ls 5 [(0, .ref (b + 1)), (1, .int x1), (2, .int x2)] := hl
  exact w_X3_placeMember_0 C hml B.returns B.notSynchronized h va_S.rf hW hl
def f_X3_renameTree_64 (M : Mem) (x2 : Int32) : Option Mem :=
  bd1 (f_X3_placeMember M x2 (M 2 0)) (fun M70 => some M70)
set_option maxHeartbeats 4000000 in
set_option maxRecDepth 100000 in
theorem w_X3_renameTree_64 {p : Program} {l : Launch} {e : Env} {s : State} {m : MethodId} {args : Array Value} {below : List Frame} {meth : Method} {c : Code} {Z : Zt} {b : Nat} (C : Cx p s m args c cX3_renameTree RX3 Z b) (hml : c.maxLocals = 4) (hr : meth.sig.returnType = (none : Option Jvm.ClassFile.FieldType)) (hlk : meth.locks = false) {M' : Mem} {M : Mem} {x2 : Int32} (h : f_X3_renameTree_64 M x2 = some M') {H : Heap} {locs : List Loc} {ls : Array Slot} (hS : va_S (A0 b) s.heap H locs) (hW : Wd Z b M H) (hl : lv_has ls 4 [(0, .ref (b + 1)), (2, .int x2)]) : W p l e rm_X3_renameTree s m args below meth c H locs 0 0 (MQ below (Qn Z b none M') args s 0 0 (A0 b)) (F0 m 64 ls []) := by
  unfold f_X3_renameTree_64 at h
  have hx := C.1
  have hb := C.2.1
  refine lv_aload_n hx hb dX3_renameTree_64 rfl (lv_at hl 0 rfl) ?_
  refine lv_iload_n hx hb dX3_renameTree_65 rfl (lv_at hl 1 rfl) ?_
  refine lv_aload_n hx hb dX3_renameTree_66 rfl (lv_at hl 0 rfl) ?_
  refine gX3_18 C hW dX3_renameTree_67 ?_
  obtain ⟨M70, hc70, h⟩ := bd1_e h
  refine kX3_61 C hml hl.1 (c_X3_placeMember hc70) ⟨Nat.le_of_ble_eq_true rfl, Nat.le_of_ble_eq_true rfl⟩ ⟨Nat.le_of_ble_eq_true rfl, Nat.le_of_ble_eq_true rfl⟩ (Nat.le_of_ble_eq_true rfl) hS hW dX3_renameTree_70 (fun H locs hW hS => ?_)
  cases h
  exact ret_v C hr hlk hS hW dX3_renameTree_73
def f_X3_renameTree_58 (K2 : Mem → Int32 → Int32 → Int32 → Option Mem) (M : Mem) (x1 : Int32) (x2 : Int32) (x3 : Int32) : Option Mem :=
  K2 M x1 x2 (x3 + 1)
set_option maxHeartbeats 4000000 in
set_option maxRecDepth 100000 in
theorem w_X3_renameTree_58 {p : Program} {l : Launch} {e : Env} {s : State} {m : MethodId} {args : Array Value} {below : List Frame} {meth : Method} {c : Code} {Z : Zt} {b : Nat} (C : Cx p s m args c cX3_renameTree RX3 Z b) (hml : c.maxLocals = 4) (hr : meth.sig.returnType = (none : Option Jvm.ClassFile.FieldType)) (hlk : meth.locks = false) {M' : Mem} {K2 : Mem → Int32 → Int32 → Int32 → Option Mem} (hK2 : ∀ {M : Mem} {x1 : Int32} {x2 : Int32} {x3 : Int32} (h : K2 M x1 x2 x3 = some M') {H : Heap} {locs : List Loc} {ls : Array Slot} (hS : va_S (A0 b) s.heap H locs) (hW : Wd Z b M H) (hl : lv_has ls 4 [(0, .ref (b + 1)), (1, .int x1), (2, .int x2), (3, .int x3)]), W p l e rm_X3_renameTree s m args below meth c H locs 0 0 (MQ below (Qn Z b none M') args s 0 0 (A0 b)) (F0 m 2 ls [])) {M : Mem} {x1 : Int32} {x2 : Int32} {x3 : Int32} (h : f_X3_renameTree_58 K2 M x1 x2 x3 = some M') {H : Heap} {locs : List Loc} {ls : Array Slot} (hS : va_S (A0 b) s.heap H locs) (hW : Wd Z b M H) (hl : lv_has ls 4 [(0, .ref (b + 1)), (1, .int x1), (2, .int x2), (3, .int x3)]) : W p l e rm_X3_renameTree s m args below meth c H locs 0 0 (MQ below (Qn Z b none M') args s 0 0 (A0 b)) (F0 m 58 ls []) := by
  unfold f_X3_renameTree_58 at h
  have hx := C.1
  have hb := C.2.1
  refine lv_iinc (v := x3 + 1) (lv' := [(3, .int (x3 + 1)), (0, .ref (b + 1)), (1, .int x1), (2, .int x2)]) hx hb dX3_renameTree_58 hl (k := 3) rfl rfl (by decide) rfl (fun ls hl => ?_)
  refine lv_goto (tgt := 2) hx hb dX3_renameTree_61 (by decide) ?_
  exact hK2 h hS hW (lv_sub hl [1, 2, 3, 0] rfl)
def f_X3_renameTree_2B (K2 : Mem → Int32 → Int32 → Int32 → Option Mem) (M : Mem) (x1 : Int32) (x2 : Int32) (x3 : Int32) : Option Mem :=
  if (M 2 0) ≤ x3 then f_X3_renameTree_64 M x2 else if (60 : Int32) ≤ x3 then f_X3_renameTree_64 M x2 else if x3 < 0 ∨ 60 ≤ x3.toNatClampNeg then none else if 60 ≤ rk M x3.toNatClampNeg then none else bd2 (f_X4_isIn M x1 (M 4 (rk M x3.toNatClampNeg))) (fun r29 M29 => if r29 = 0 then f_X3_renameTree_58 K2 M29 x1 x2 x3 else if x3 < 0 ∨ 60 ≤ x3.toNatClampNeg then none else if 60 ≤ rk M29 x3.toNatClampNeg then none else if x3 < 0 ∨ 60 ≤ x3.toNatClampNeg then none else if 60 ≤ rk M29 x3.toNatClampNeg then none else bd2 (f_X4_moved M29 (M29 4 (rk M29 x3.toNatClampNeg)) x1 x2) (fun r52 M52 => f_X3_renameTree_58 K2 (mu M52 4 (rk M29 x3.toNatClampNeg) r52) x1 x2 x3))
def f_X3_renameTree_2 : Nat → Mem → Int32 → Int32 → Int32 → Option Mem
  | 0 => fun _ _ _ _ => none
  | n + 1 => f_X3_renameTree_2B (f_X3_renameTree_2 n)
set_option maxHeartbeats 4000000 in
set_option maxRecDepth 100000 in
theorem w_X3_renameTree_2 {p : Program} {l : Launch} {e : Env} {s : State} {m : MethodId} {args : Array Value} {below : List Frame} {meth : Method} {c : Code} {Z : Zt} {b : Nat} (C : Cx p s m args c cX3_renameTree RX3 Z b) (hml : c.maxLocals = 4) (hr : meth.sig.returnType = (none : Option Jvm.ClassFile.FieldType)) (hlk : meth.locks = false) {M' : Mem} : ∀ (n : Nat) {M : Mem} {x1 : Int32} {x2 : Int32} {x3 : Int32} (h : f_X3_renameTree_2 n M x1 x2 x3 = some M') {H : Heap} {locs : List Loc} {ls : Array Slot} (hS : va_S (A0 b) s.heap H locs) (hW : Wd Z b M H) (hl : lv_has ls 4 [(0, .ref (b + 1)), (1, .int x1), (2, .int x2), (3, .int x3)]), W p l e rm_X3_renameTree s m args below meth c H locs 0 0 (MQ below (Qn Z b none M') args s 0 0 (A0 b)) (F0 m 2 ls []) := by
  intro n
  induction n with
  | zero =>
    intro M x1 x2 x3 h
    cases h
  | succ n ih =>
    intro M x1 x2 x3 h H locs ls hS hW hl
    have h : f_X3_renameTree_2B (f_X3_renameTree_2 n) M x1 x2 x3 = some M' := h
    unfold f_X3_renameTree_2B at h
    have hK2 := @ih
    have hx := C.1
    have hb := C.2.1
    refine lv_iload_n hx hb dX3_renameTree_2 rfl (lv_at hl 3 rfl) ?_
    refine lv_aload_n hx hb dX3_renameTree_3 rfl (lv_at hl 0 rfl) ?_
    refine gX3_18 C hW dX3_renameTree_4 ?_
    refine lv_icmp_ge (tgt := 64) hx hb dX3_renameTree_7 (by decide) (fun c7 => ?_) (fun c7 => ?_)
    · have h := (if_pos c7).symm.trans h
      exact w_X3_renameTree_64 C hml hr hlk h hS hW (lv_sub hl [0, 2] rfl)
    · have h := (if_neg c7).symm.trans h
      refine lv_iload_n hx hb dX3_renameTree_10 rfl (lv_at hl 3 rfl) ?_
      refine lv_aload_n hx hb dX3_renameTree_11 rfl (lv_at hl 0 rfl) ?_
      refine gX3_11 C hW dX3_renameTree_12 ?_
      refine alen_2 C hW dX3_renameTree_15 ?_
      refine lv_icmp_ge (tgt := 64) hx hb dX3_renameTree_16 (by decide) (fun c16 => ?_) (fun c16 => ?_)
      · have h := (if_pos c16).symm.trans h
        exact w_X3_renameTree_64 C hml hr hlk h hS hW (lv_sub hl [0, 2] rfl)
      · have h := (if_neg c16).symm.trans h
        refine lv_iload_n hx hb dX3_renameTree_19 rfl (lv_at hl 1 rfl) ?_
        refine lv_aload_n hx hb dX3_renameTree_20 rfl (lv_at hl 0 rfl) ?_
        refine gX3_11 C hW dX3_renameTree_21 ?_
        refine lv_iload_n hx hb dX3_renameTree_24 rfl (lv_at hl 3 rfl) ?_
        obtain ⟨g25, h⟩ := gd h
        obtain ⟨gr25, h⟩ := gd h
        have hr25 := Nat.lt_of_not_le gr25
        refine ald_row C hW g25 dX3_renameTree_25 ?_
        refine gX3_22 hr25 C hW dX3_renameTree_26 ?_
        obtain ⟨r29, M29, hc29, h⟩ := bd2_e h
        refine kX3_47 C hml hl.1 (c_X4_isIn hc29) ⟨Nat.le_of_ble_eq_true rfl, Nat.le_of_ble_eq_true rfl⟩ ⟨Nat.le_of_ble_eq_true rfl, Nat.le_of_ble_eq_true rfl⟩ (Nat.le_of_ble_eq_true rfl) hS hW dX3_renameTree_29 (fun H locs hW hS => ?_)
        refine lv_if_eq (tgt := 58) hx hb dX3_renameTree_32 (by decide) (fun c32 => ?_) (fun c32 => ?_)
        · have h := (if_pos c32).symm.trans h
          exact w_X3_renameTree_58 C hml hr hlk hK2 h hS hW (lv_sub hl [0, 1, 2, 3] rfl)
        · have h := (if_neg c32).symm.trans h
          refine lv_aload_n hx hb dX3_renameTree_35 rfl (lv_at hl 0 rfl) ?_
          refine gX3_11 C hW dX3_renameTree_36 ?_
          refine lv_iload_n hx hb dX3_renameTree_39 rfl (lv_at hl 3 rfl) ?_
          obtain ⟨g40, h⟩ := gd h
          obtain ⟨gr40, h⟩ := gd h
          have hr40 := Nat.lt_of_not_le gr40
          refine ald_row C hW g40 dX3_renameTree_40 ?_
          refine lv_aload_n hx hb dX3_renameTree_41 rfl (lv_at hl 0 rfl) ?_
          refine gX3_11 C hW dX3_renameTree_42 ?_
          refine lv_iload_n hx hb dX3_renameTree_45 rfl (lv_at hl 3 rfl) ?_
          obtain ⟨g46, h⟩ := gd h
          obtain ⟨gr46, h⟩ := gd h
          have hr46 := Nat.lt_of_not_le gr46
          refine ald_row C hW g46 dX3_renameTree_46 ?_
          refine gX3_22 hr46 C hW dX3_renameTree_47 ?_
          refine lv_iload_n hx hb dX3_renameTree_50 rfl (lv_at hl 1 rfl) ?_
          refine lv_iload_n hx hb dX3_renameTree_51 rfl (lv_at hl 2 rfl) ?_
          obtain ⟨r52, M52, hc52, h⟩ := bd2_e h
          refine kX3_51 C hml hl.1 (c_X4_moved hc52) ⟨Nat.le_of_ble_eq_true rfl, Nat.le_of_ble_eq_true rfl⟩ ⟨Nat.le_of_ble_eq_true rfl, Nat.le_of_ble_eq_true rfl⟩ (Nat.le_of_ble_eq_true rfl) hS hW dX3_renameTree_52 (fun H locs hW hS => ?_)
          refine pX3_22 hr40 C hS hW dX3_renameTree_55 (fun H locs hW hS => ?_)
          exact w_X3_renameTree_58 C hml hr hlk hK2 h hS hW (lv_sub hl [0, 1, 2, 3] rfl)
def f_X3_renameTree_0 (M : Mem) (x1 : Int32) (x2 : Int32) : Option Mem :=
  f_X3_renameTree_2 64 M x1 x2 (0 : Int32)
set_option maxHeartbeats 4000000 in
set_option maxRecDepth 100000 in
theorem w_X3_renameTree_0 {p : Program} {l : Launch} {e : Env} {s : State} {m : MethodId} {args : Array Value} {below : List Frame} {meth : Method} {c : Code} {Z : Zt} {b : Nat} (C : Cx p s m args c cX3_renameTree RX3 Z b) (hml : c.maxLocals = 4) (hr : meth.sig.returnType = (none : Option Jvm.ClassFile.FieldType)) (hlk : meth.locks = false) {M' : Mem} {M : Mem} {x1 : Int32} {x2 : Int32} (h : f_X3_renameTree_0 M x1 x2 = some M') {H : Heap} {locs : List Loc} {ls : Array Slot} (hS : va_S (A0 b) s.heap H locs) (hW : Wd Z b M H) (hl : lv_has ls 4 [(0, .ref (b + 1)), (1, .int x1), (2, .int x2)]) : W p l e rm_X3_renameTree s m args below meth c H locs 0 0 (MQ below (Qn Z b none M') args s 0 0 (A0 b)) (F0 m 0 ls []) := by
  unfold f_X3_renameTree_0 at h
  have hx := C.1
  have hb := C.2.1
  refine lv_iconst (v := (0 : Int32)) hx hb dX3_renameTree_0 (by decide) ?_
  refine lv_istore_n (lv' := [(3, .int (0 : Int32)), (0, .ref (b + 1)), (1, .int x1), (2, .int x2)]) hx hb dX3_renameTree_1 rfl hl (by decide) rfl (fun ls hl => ?_)
  exact w_X3_renameTree_2 C hml hr hlk 64 h hS hW (lv_sub hl [1, 2, 3, 0] rfl)
def f_X3_renameTree (M : Mem) (x1 : Int32) (x2 : Int32) : Option Mem := f_X3_renameTree_0 M x1 x2
set_option maxHeartbeats 4000000 in
set_option maxRecDepth 100000 in
theorem c_X3_renameTree {l : Launch} {Z : Zt} {b : Nat} {M : Mem} {x1 : Int32} {x2 : Int32} {M' : Mem} (h : f_X3_renameTree M x1 x2 = some M') : Ct l yX3_renameTree cX3_renameTree 4 (none : Option Jvm.ClassFile.FieldType) rm_X3_renameTree Z b [.ref (b + 1), .int x1, .int x2] M none M' := by
  refine Met.ofW (cc := cX3_renameTree) (maxL := 4) (ret := (none : Option Jvm.ClassFile.FieldType)) (by decide) rfl ?_
  intro p e s m args below meth c s₁ B hml hv
  obtain ⟨rfl, hE, hW⟩ := hv
  have C : Cx p s m [.ref (b + 1), .int x1, .int x2].toArray c cX3_renameTree RX3 Z b := ⟨B.exec, B.bytes, findClass_of_methodNamed B.named, fun w hw => atoms_spec (ws := Cond.code yX3_renameTree cX3_renameTree 4 (none : Option Jvm.ClassFile.FieldType) :: wsA) B.pre w (List.mem_cons_of_mem _ hw), hE⟩
  have hl := lv_entry [.ref (b + 1), .int x1, .int x2] (n := 4) (Nat.le_of_ble_eq_true rfl)
  rw [lg_entry_eq]
  generalize (lg_sl [.ref (b + 1), .int x1, .int x2] ++ List.replicate (4 - (lg_sl [.ref (b + 1), .int x1, .int x2]).length) Slot.unset).toArray = ls at hl ⊢
  have hl : lv_has ls 4 [(0, .ref (b + 1)), (1, .int x1), (2, .int x2)] := hl
  exact w_X3_renameTree_0 C hml B.returns B.notSynchronized h va_S.rf hW hl
def f_X4_move_0 (M : Mem) (x1 : Int32) (x2 : Int32) (x3 : Int32) (x4 : Int32) (x5 : Int32) : Option ((String ⊕ Int32) × Mem) :=
  bdx (f_X4_requireTransfer M x1 x2 x3 x5) (fun r5 M5 => bd2 (f_X4_outcomeOfTarget M5 x1 x2 x3 x4 x5) (fun r16 M16 => if r16 = 0 then bd2 (f_X4_parentOf M16 x2) (fun r35 M35 => bd2 (f_X1_allows M35 x1 r35 x5) (fun r40 M40 => if r40 = 0 then some (.inr (4 : Int32), M40) else bd2 (f_X4_allowsTree M40 x1 x2 x5) (fun r51 M51 => if r51 = 0 then some (.inr (4 : Int32), M51) else bd1 (f_X4_removeTree M51 x3) (fun M61 => bd1 (f_X4_dropLocksOfTree M61 x2) (fun M66 => bd1 (f_X3_renameTree M66 x2 x3) (fun M75 => some (.inr (0 : Int32), M75))))))) else some (.inr r16, M16)))
set_option maxHeartbeats 4000000 in
set_option maxRecDepth 100000 in
theorem w_X4_move_0 {p : Program} {l : Launch} {e : Env} {s : State} {m : MethodId} {args : Array Value} {below : List Frame} {meth : Method} {c : Code} {Z : Zt} {b : Nat} (C : Cx p s m args c cX4_move RX4 Z b) (hml : c.maxLocals = 7) (hr : meth.sig.returnType = (some .int)) (hlk : meth.locks = false) (hlf : l.stackTraces = false) (ht : ∀ x ∈ c.exceptionTable.toList, False) {res : ((String ⊕ Int32) × Mem)} {M : Mem} {x1 : Int32} {x2 : Int32} {x3 : Int32} {x4 : Int32} {x5 : Int32} (h : f_X4_move_0 M x1 x2 x3 x4 x5 = some res) {H : Heap} {locs : List Loc} {ls : Array Slot} (hS : va_S (A0 b) s.heap H locs) (hW : Wd Z b M H) (hl : lv_has ls 7 [(0, .ref (b + 0)), (1, .int x1), (2, .int x2), (3, .int x3), (4, .int x4), (5, .int x5)]) : W p l e rm_X4_move s m args below meth c H locs 0 0 (vx_MQ below (Qx Z b (voI res.1) res.2) (XCx Z b (voI res.1) res.2) args s 7 42 (A0 b)) (F0 m 0 ls []) := by
  unfold f_X4_move_0 at h
  have hx := C.1
  have hb := C.2.1
  refine lv_iload_n hx hb dX4_move_0 rfl (lv_at hl 1 rfl) ?_
  refine lv_iload_n hx hb dX4_move_1 rfl (lv_at hl 2 rfl) ?_
  refine lv_iload_n hx hb dX4_move_2 rfl (lv_at hl 3 rfl) ?_
  refine lv_iload hx hb dX4_move_3 (lv_at hl 5 rfl) ?_
  rcases bdx_e h with ⟨E5, M5, hc5, rfl⟩ | ⟨r5, M5, hc5, h⟩
  · exact kX4_94T C hml hl.1 (c_X4_requireTransfer hlf hc5) ⟨Nat.le_of_ble_eq_true rfl, Nat.le_of_ble_eq_true rfl⟩ ⟨Nat.le_of_ble_eq_true rfl, Nat.le_of_ble_eq_true rfl⟩ (Nat.le_of_ble_eq_true rfl) hS hW dX4_move_5 ht hlk (Nat.le_of_ble_eq_true rfl) (Nat.le_of_ble_eq_true rfl)
  refine kX4_94R C hml hl.1 (c_X4_requireTransfer hlf hc5) ⟨Nat.le_of_ble_eq_true rfl, Nat.le_of_ble_eq_true rfl⟩ ⟨Nat.le_of_ble_eq_true rfl, Nat.le_of_ble_eq_true rfl⟩ (Nat.le_of_ble_eq_true rfl) hS hW dX4_move_5 (fun H locs hW hS => ?_)
  refine lv_aload_n hx hb dX4_move_8 rfl (lv_at hl 0 rfl) ?_
  refine lv_iload_n hx hb dX4_move_9 rfl (lv_at hl 1 rfl) ?_
  refine lv_iload_n hx hb dX4_move_10 rfl (lv_at hl 2 rfl) ?_
  refine lv_iload_n hx hb dX4_move_11 rfl (lv_at hl 3 rfl) ?_
  refine lv_iload hx hb dX4_move_12 (lv_at hl 4 rfl) ?_
  refine lv_iload hx hb dX4_move_14 (lv_at hl 5 rfl) ?_
  obtain ⟨r16, M16, hc16, h⟩ := bd2_e h
  refine kX4_98 C hml hl.1 (c_X4_outcomeOfTarget hc16) ⟨Nat.le_of_ble_eq_true rfl, Nat.le_of_ble_eq_true rfl⟩ ⟨Nat.le_of_ble_eq_true rfl, Nat.le_of_ble_eq_true rfl⟩ (Nat.le_of_ble_eq_true rfl) hS hW dX4_move_16 (fun H locs hW hS => ?_)
  refine lv_istore (lv' := [(6, .int r16), (0, .ref (b + 0)), (1, .int x1), (2, .int x2), (3, .int x3), (4, .int x4), (5, .int x5)]) hx hb dX4_move_19 hl (by decide) rfl (fun ls hl => ?_)
  refine lv_iload hx hb dX4_move_21 (lv_at hl 0 rfl) ?_
  refine lv_if_eq (tgt := 29) hx hb dX4_move_23 (by decide) (fun c23 => ?_) (fun c23 => ?_)
  · have h := (if_pos c23).symm.trans h
    refine lv_aload_n hx hb dX4_move_29 rfl (lv_at hl 1 rfl) ?_
    refine gX4_19 C hW dX4_move_30 ?_
    refine lv_iload_n hx hb dX4_move_33 rfl (lv_at hl 2 rfl) ?_
    refine lv_iload_n hx hb dX4_move_34 rfl (lv_at hl 3 rfl) ?_
    obtain ⟨r35, M35, hc35, h⟩ := bd2_e h
    refine kX4_41 C hml hl.1 (c_X4_parentOf hc35) ⟨Nat.le_of_ble_eq_true rfl, Nat.le_of_ble_eq_true rfl⟩ ⟨Nat.le_of_ble_eq_true rfl, Nat.le_of_ble_eq_true rfl⟩ (Nat.le_of_ble_eq_true rfl) hS hW dX4_move_35 (fun H locs hW hS => ?_)
    refine lv_iload hx hb dX4_move_38 (lv_at hl 6 rfl) ?_
    obtain ⟨r40, M40, hc40, h⟩ := bd2_e h
    refine kX4_111 C hml hl.1 (c_X1_allows hc40) ⟨Nat.le_of_ble_eq_true rfl, Nat.le_of_ble_eq_true rfl⟩ ⟨Nat.le_of_ble_eq_true rfl, Nat.le_of_ble_eq_true rfl⟩ (Nat.le_of_ble_eq_true rfl) hS hW dX4_move_40 (fun H locs hW hS => ?_)
    refine lv_if_eq (tgt := 57) hx hb dX4_move_43 (by decide) (fun c43 => ?_) (fun c43 => ?_)
    · have h := (if_pos c43).symm.trans h
      refine lv_iconst (v := (4 : Int32)) hx hb dX4_move_57 (by decide) ?_
      cases h
      exact ret_xi C hr hlk hS hW dX4_move_58 (Nat.le_of_ble_eq_true rfl) (Nat.le_of_ble_eq_true rfl)
    · have h := (if_neg c43).symm.trans h
      refine lv_aload_n hx hb dX4_move_46 rfl (lv_at hl 1 rfl) ?_
      refine lv_iload_n hx hb dX4_move_47 rfl (lv_at hl 2 rfl) ?_
      refine lv_iload_n hx hb dX4_move_48 rfl (lv_at hl 3 rfl) ?_
      refine lv_iload hx hb dX4_move_49 (lv_at hl 6 rfl) ?_
      obtain ⟨r51, M51, hc51, h⟩ := bd2_e h
      refine kX4_114 C hml hl.1 (c_X4_allowsTree hc51) ⟨Nat.le_of_ble_eq_true rfl, Nat.le_of_ble_eq_true rfl⟩ ⟨Nat.le_of_ble_eq_true rfl, Nat.le_of_ble_eq_true rfl⟩ (Nat.le_of_ble_eq_true rfl) hS hW dX4_move_51 (fun H locs hW hS => ?_)
      refine lv_if_ne (tgt := 59) hx hb dX4_move_54 (by decide) (fun c54 => ?_) (fun c54 => ?_)
      · have h := (if_neg c54).symm.trans h
        refine lv_aload_n hx hb dX4_move_59 rfl (lv_at hl 1 rfl) ?_
        refine lv_iload_n hx hb dX4_move_60 rfl (lv_at hl 4 rfl) ?_
        obtain ⟨M61, hc61, h⟩ := bd1_e h
        refine kX4_105 C hml hl.1 (c_X4_removeTree hc61) ⟨Nat.le_of_ble_eq_true rfl, Nat.le_of_ble_eq_true rfl⟩ ⟨Nat.le_of_ble_eq_true rfl, Nat.le_of_ble_eq_true rfl⟩ (Nat.le_of_ble_eq_true rfl) hS hW dX4_move_61 (fun H locs hW hS => ?_)
        refine lv_aload_n hx hb dX4_move_64 rfl (lv_at hl 1 rfl) ?_
        refine lv_iload_n hx hb dX4_move_65 rfl (lv_at hl 3 rfl) ?_
        obtain ⟨M66, hc66, h⟩ := bd1_e h
        refine kX4_117 C hml hl.1 (c_X4_dropLocksOfTree hc66) ⟨Nat.le_of_ble_eq_true rfl, Nat.le_of_ble_eq_true rfl⟩ ⟨Nat.le_of_ble_eq_true rfl, Nat.le_of_ble_eq_true rfl⟩ (Nat.le_of_ble_eq_true rfl) hS hW dX4_move_66 (fun H locs hW hS => ?_)
        refine lv_aload_n hx hb dX4_move_69 rfl (lv_at hl 1 rfl) ?_
        refine gX4_10 C hW dX4_move_70 ?_
        refine lv_iload_n hx hb dX4_move_73 rfl (lv_at hl 3 rfl) ?_
        refine lv_iload_n hx hb dX4_move_74 rfl (lv_at hl 4 rfl) ?_
        obtain ⟨M75, hc75, h⟩ := bd1_e h
        refine kX4_120 C hml hl.1 (c_X3_renameTree hc75) ⟨Nat.le_of_ble_eq_true rfl, Nat.le_of_ble_eq_true rfl⟩ ⟨Nat.le_of_ble_eq_true rfl, Nat.le_of_ble_eq_true rfl⟩ (Nat.le_of_ble_eq_true rfl) hS hW dX4_move_75 (fun H locs hW hS => ?_)
        refine lv_iconst (v := (0 : Int32)) hx hb dX4_move_78 (by decide) ?_
        cases h
        exact ret_xi C hr hlk hS hW dX4_move_79 (Nat.le_of_ble_eq_true rfl) (Nat.le_of_ble_eq_true rfl)
      · have h := (if_pos c54).symm.trans h
        refine lv_iconst (v := (4 : Int32)) hx hb dX4_move_57 (by decide) ?_
        cases h
        exact ret_xi C hr hlk hS hW dX4_move_58 (Nat.le_of_ble_eq_true rfl) (Nat.le_of_ble_eq_true rfl)
  · have h := (if_neg c23).symm.trans h
    refine lv_iload hx hb dX4_move_26 (lv_at hl 0 rfl) ?_
    cases h
    exact ret_xi C hr hlk hS hW dX4_move_28 (Nat.le_of_ble_eq_true rfl) (Nat.le_of_ble_eq_true rfl)
def f_X4_move (M : Mem) (x1 : Int32) (x2 : Int32) (x3 : Int32) (x4 : Int32) (x5 : Int32) : Option ((String ⊕ Int32) × Mem) := f_X4_move_0 M x1 x2 x3 x4 x5
set_option maxHeartbeats 4000000 in
set_option maxRecDepth 100000 in
theorem c_X4_move {l : Launch} {Z : Zt} {b : Nat} (hlf : l.stackTraces = false) {M : Mem} {x1 : Int32} {x2 : Int32} {x3 : Int32} {x4 : Int32} {x5 : Int32} {res : ((String ⊕ Int32) × Mem)} (h : f_X4_move M x1 x2 x3 x4 x5 = some res) : Cx' l yX4_move cX4_move 7 (some .int) rm_X4_move 7 42 Z b [.ref (b + 0), .int x1, .int x2, .int x3, .int x4, .int x5] M (voI res.1) res.2 := by
  refine vx_ofW (cc := cX4_move) (maxL := 7) (ret := (some .int)) (by decide) rfl ?_
  intro p e s m args below meth c s₁ B hml ht hv
  obtain ⟨rfl, hE, hW⟩ := hv
  have C : Cx p s m [.ref (b + 0), .int x1, .int x2, .int x3, .int x4, .int x5].toArray c cX4_move RX4 Z b := ⟨B.exec, B.bytes, findClass_of_methodNamed B.named, fun w hw => atoms_spec (ws := Cond.code yX4_move cX4_move 7 (some .int) :: wsA) B.pre w (List.mem_cons_of_mem _ hw), hE⟩
  have hl := lv_entry [.ref (b + 0), .int x1, .int x2, .int x3, .int x4, .int x5] (n := 7) (Nat.le_of_ble_eq_true rfl)
  rw [lg_entry_eq]
  generalize (lg_sl [.ref (b + 0), .int x1, .int x2, .int x3, .int x4, .int x5] ++ List.replicate (7 - (lg_sl [.ref (b + 0), .int x1, .int x2, .int x3, .int x4, .int x5]).length) Slot.unset).toArray = ls at hl ⊢
  have hl : lv_has ls 7 [(0, .ref (b + 0)), (1, .int x1), (2, .int x2), (3, .int x3), (4, .int x4), (5, .int x5)] := hl
  exact w_X4_move_0 C hml B.returns B.notSynchronized hlf ht h va_S.rf hW hl
def f_X4_kindOf_0 (M : Mem) (x1 : Int32) : Option ((String ⊕ Int32) × Mem) :=
  bdx (f_X4_requirePath M x1) (fun r1 M1 => bd2 (f_X3_kindAt M1 x1) (fun r9 M9 => some (.inr r9, M9)))
set_option maxHeartbeats 4000000 in
set_option maxRecDepth 100000 in
theorem w_X4_kindOf_0 {p : Program} {l : Launch} {e : Env} {s : State} {m : MethodId} {args : Array Value} {below : List Frame} {meth : Method} {c : Code} {Z : Zt} {b : Nat} (C : Cx p s m args c cX4_kindOf RX4 Z b) (hml : c.maxLocals = 2) (hr : meth.sig.returnType = (some .int)) (hlk : meth.locks = false) (hlf : l.stackTraces = false) (ht : ∀ x ∈ c.exceptionTable.toList, False) {res : ((String ⊕ Int32) × Mem)} {M : Mem} {x1 : Int32} (h : f_X4_kindOf_0 M x1 = some res) {H : Heap} {locs : List Loc} {ls : Array Slot} (hS : va_S (A0 b) s.heap H locs) (hW : Wd Z b M H) (hl : lv_has ls 2 [(0, .ref (b + 0)), (1, .int x1)]) : W p l e rm_X4_kindOf s m args below meth c H locs 0 0 (vx_MQ below (Qx Z b (voI res.1) res.2) (XCx Z b (voI res.1) res.2) args s 1 6 (A0 b)) (F0 m 0 ls []) := by
  unfold f_X4_kindOf_0 at h
  have hx := C.1
  have hb := C.2.1
  refine lv_iload_n hx hb dX4_kindOf_0 rfl (lv_at hl 1 rfl) ?_
  rcases bdx_e h with ⟨E1, M1, hc1, rfl⟩ | ⟨r1, M1, hc1, h⟩
  · exact kX4_123T C hml hl.1 (c_X4_requirePath hlf hc1) ⟨Nat.le_of_ble_eq_true rfl, Nat.le_of_ble_eq_true rfl⟩ ⟨Nat.le_of_ble_eq_true rfl, Nat.le_of_ble_eq_true rfl⟩ (Nat.le_of_ble_eq_true rfl) hS hW dX4_kindOf_1 ht hlk (Nat.le_of_ble_eq_true rfl) (Nat.le_of_ble_eq_true rfl)
  refine kX4_123R C hml hl.1 (c_X4_requirePath hlf hc1) ⟨Nat.le_of_ble_eq_true rfl, Nat.le_of_ble_eq_true rfl⟩ ⟨Nat.le_of_ble_eq_true rfl, Nat.le_of_ble_eq_true rfl⟩ (Nat.le_of_ble_eq_true rfl) hS hW dX4_kindOf_1 (fun H locs hW hS => ?_)
  refine lv_aload_n hx hb dX4_kindOf_4 rfl (lv_at hl 0 rfl) ?_
  refine gX4_10 C hW dX4_kindOf_5 ?_
  refine lv_iload_n hx hb dX4_kindOf_8 rfl (lv_at hl 1 rfl) ?_
  obtain ⟨r9, M9, hc9, h⟩ := bd2_e h
  refine kX4_126 C hml hl.1 (c_X3_kindAt hc9) ⟨Nat.le_of_ble_eq_true rfl, Nat.le_of_ble_eq_true rfl⟩ ⟨Nat.le_of_ble_eq_true rfl, Nat.le_of_ble_eq_true rfl⟩ (Nat.le_of_ble_eq_true rfl) hS hW dX4_kindOf_9 (fun H locs hW hS => ?_)
  cases h
  exact ret_xi C hr hlk hS hW dX4_kindOf_12 (Nat.le_of_ble_eq_true rfl) (Nat.le_of_ble_eq_true rfl)
def f_X4_kindOf (M : Mem) (x1 : Int32) : Option ((String ⊕ Int32) × Mem) := f_X4_kindOf_0 M x1
set_option maxHeartbeats 4000000 in
set_option maxRecDepth 100000 in
theorem c_X4_kindOf {l : Launch} {Z : Zt} {b : Nat} (hlf : l.stackTraces = false) {M : Mem} {x1 : Int32} {res : ((String ⊕ Int32) × Mem)} (h : f_X4_kindOf M x1 = some res) : Cx' l yX4_kindOf cX4_kindOf 2 (some .int) rm_X4_kindOf 1 6 Z b [.ref (b + 0), .int x1] M (voI res.1) res.2 := by
  refine vx_ofW (cc := cX4_kindOf) (maxL := 2) (ret := (some .int)) (by decide) rfl ?_
  intro p e s m args below meth c s₁ B hml ht hv
  obtain ⟨rfl, hE, hW⟩ := hv
  have C : Cx p s m [.ref (b + 0), .int x1].toArray c cX4_kindOf RX4 Z b := ⟨B.exec, B.bytes, findClass_of_methodNamed B.named, fun w hw => atoms_spec (ws := Cond.code yX4_kindOf cX4_kindOf 2 (some .int) :: wsA) B.pre w (List.mem_cons_of_mem _ hw), hE⟩
  have hl := lv_entry [.ref (b + 0), .int x1] (n := 2) (Nat.le_of_ble_eq_true rfl)
  rw [lg_entry_eq]
  generalize (lg_sl [.ref (b + 0), .int x1] ++ List.replicate (2 - (lg_sl [.ref (b + 0), .int x1]).length) Slot.unset).toArray = ls at hl ⊢
  have hl : lv_has ls 2 [(0, .ref (b + 0)), (1, .int x1)] := hl
  exact w_X4_kindOf_0 C hml B.returns B.notSynchronized hlf ht h va_S.rf hW hl
def f_X4_content_0 (M : Mem) (x1 : Int32) : Option ((String ⊕ Int32) × Mem) :=
  bdx (f_X4_requirePath M x1) (fun r1 M1 => bd2 (f_X3_findFile M1 x1) (fun q9 M9 => oe q9 (some (.inr (-1 : Int32), M9)) (fun k9 => if 60 ≤ k9 then none else some (.inr (M9 6 k9), M9))))
set_option maxHeartbeats 4000000 in
set_option maxRecDepth 100000 in
theorem w_X4_content_0 {p : Program} {l : Launch} {e : Env} {s : State} {m : MethodId} {args : Array Value} {below : List Frame} {meth : Method} {c : Code} {Z : Zt} {b : Nat} (C : Cx p s m args c cX4_content RX4 Z b) (hml : c.maxLocals = 3) (hr : meth.sig.returnType = (some .int)) (hlk : meth.locks = false) (hlf : l.stackTraces = false) (ht : ∀ x ∈ c.exceptionTable.toList, False) {res : ((String ⊕ Int32) × Mem)} {M : Mem} {x1 : Int32} (h : f_X4_content_0 M x1 = some res) {H : Heap} {locs : List Loc} {ls : Array Slot} (hS : va_S (A0 b) s.heap H locs) (hW : Wd Z b M H) (hl : lv_has ls 3 [(0, .ref (b + 0)), (1, .int x1)]) : W p l e rm_X4_content s m args below meth c H locs 0 0 (vx_MQ below (Qx Z b (voI res.1) res.2) (XCx Z b (voI res.1) res.2) args s 1 6 (A0 b)) (F0 m 0 ls []) := by
  unfold f_X4_content_0 at h
  have hx := C.1
  have hb := C.2.1
  refine lv_iload_n hx hb dX4_content_0 rfl (lv_at hl 1 rfl) ?_
  rcases bdx_e h with ⟨E1, M1, hc1, rfl⟩ | ⟨r1, M1, hc1, h⟩
  · exact kX4_123T C hml hl.1 (c_X4_requirePath hlf hc1) ⟨Nat.le_of_ble_eq_true rfl, Nat.le_of_ble_eq_true rfl⟩ ⟨Nat.le_of_ble_eq_true rfl, Nat.le_of_ble_eq_true rfl⟩ (Nat.le_of_ble_eq_true rfl) hS hW dX4_content_1 ht hlk (Nat.le_of_ble_eq_true rfl) (Nat.le_of_ble_eq_true rfl)
  refine kX4_123R C hml hl.1 (c_X4_requirePath hlf hc1) ⟨Nat.le_of_ble_eq_true rfl, Nat.le_of_ble_eq_true rfl⟩ ⟨Nat.le_of_ble_eq_true rfl, Nat.le_of_ble_eq_true rfl⟩ (Nat.le_of_ble_eq_true rfl) hS hW dX4_content_1 (fun H locs hW hS => ?_)
  refine lv_aload_n hx hb dX4_content_4 rfl (lv_at hl 0 rfl) ?_
  refine gX4_10 C hW dX4_content_5 ?_
  refine lv_iload_n hx hb dX4_content_8 rfl (lv_at hl 1 rfl) ?_
  obtain ⟨q9, M9, hc9, h⟩ := bd2_e h
  refine kX4_129 C hml hl.1 (c_X3_findFile hc9) ⟨Nat.le_of_ble_eq_true rfl, Nat.le_of_ble_eq_true rfl⟩ ⟨Nat.le_of_ble_eq_true rfl, Nat.le_of_ble_eq_true rfl⟩ (Nat.le_of_ble_eq_true rfl) hS hW dX4_content_9 (fun H locs hW hS => ?_)
  rcases q9 with _ | k9
  · have h := oe_n h
    refine W.eq (g2 := F0 m 12 ls [.null]) rfl ?_
    refine lv_astore_nN (lv' := [(2, .null), (0, .ref (b + 0)), (1, .int x1)]) hx hb dX4_content_12 rfl hl (by decide) rfl (fun ls hl => ?_)
    refine lv_aload_nN hx hb dX4_content_13 rfl (lv_at hl 0 rfl) ?_
    refine lv_ifnonnullN hx hb dX4_content_14 ?_
    refine lv_iconst (v := (-1 : Int32)) hx hb dX4_content_17 (by decide) ?_
    refine lv_goto (tgt := 25) hx hb dX4_content_18 (by decide) ?_
    cases h
    exact ret_xi C hr hlk hS hW dX4_content_25 (Nat.le_of_ble_eq_true rfl) (Nat.le_of_ble_eq_true rfl)
  · obtain ⟨g9, h⟩ := gd (oe_s h)
    have hk9 := Nat.lt_of_not_le g9
    refine W.eq (g2 := F0 m 12 ls [.ref (b + (3 + 2 * k9))]) rfl ?_
    refine lv_astore_n (lv' := [(2, .ref (b + (3 + 2 * k9))), (0, .ref (b + 0)), (1, .int x1)]) hx hb dX4_content_12 rfl hl (by decide) rfl (fun ls hl => ?_)
    refine lv_aload_n hx hb dX4_content_13 rfl (lv_at hl 0 rfl) ?_
    refine lv_ifnonnull (tgt := 21) hx hb dX4_content_14 (by decide) ?_
    refine lv_aload_n hx hb dX4_content_21 rfl (lv_at hl 0 rfl) ?_
    refine gX4_132 hk9 C hW dX4_content_22 ?_
    cases h
    exact ret_xi C hr hlk hS hW dX4_content_25 (Nat.le_of_ble_eq_true rfl) (Nat.le_of_ble_eq_true rfl)
def f_X4_content (M : Mem) (x1 : Int32) : Option ((String ⊕ Int32) × Mem) := f_X4_content_0 M x1
set_option maxHeartbeats 4000000 in
set_option maxRecDepth 100000 in
theorem c_X4_content {l : Launch} {Z : Zt} {b : Nat} (hlf : l.stackTraces = false) {M : Mem} {x1 : Int32} {res : ((String ⊕ Int32) × Mem)} (h : f_X4_content M x1 = some res) : Cx' l yX4_content cX4_content 3 (some .int) rm_X4_content 1 6 Z b [.ref (b + 0), .int x1] M (voI res.1) res.2 := by
  refine vx_ofW (cc := cX4_content) (maxL := 3) (ret := (some .int)) (by decide) rfl ?_
  intro p e s m args below meth c s₁ B hml ht hv
  obtain ⟨rfl, hE, hW⟩ := hv
  have C : Cx p s m [.ref (b + 0), .int x1].toArray c cX4_content RX4 Z b := ⟨B.exec, B.bytes, findClass_of_methodNamed B.named, fun w hw => atoms_spec (ws := Cond.code yX4_content cX4_content 3 (some .int) :: wsA) B.pre w (List.mem_cons_of_mem _ hw), hE⟩
  have hl := lv_entry [.ref (b + 0), .int x1] (n := 3) (Nat.le_of_ble_eq_true rfl)
  rw [lg_entry_eq]
  generalize (lg_sl [.ref (b + 0), .int x1] ++ List.replicate (3 - (lg_sl [.ref (b + 0), .int x1]).length) Slot.unset).toArray = ls at hl ⊢
  have hl : lv_has ls 3 [(0, .ref (b + 0)), (1, .int x1)] := hl
  exact w_X4_content_0 C hml B.returns B.notSynchronized hlf ht h va_S.rf hW hl
def f_X4_resources_0 (M : Mem) : Option (Int32 × Mem) :=
  some (M 2 0, M)
set_option maxHeartbeats 4000000 in
set_option maxRecDepth 100000 in
theorem w_X4_resources_0 {p : Program} {l : Launch} {e : Env} {s : State} {m : MethodId} {args : Array Value} {below : List Frame} {meth : Method} {c : Code} {Z : Zt} {b : Nat} (C : Cx p s m args c cX4_resources RX4 Z b) (hml : c.maxLocals = 1) (hr : meth.sig.returnType = (some .int)) (hlk : meth.locks = false) {r' : Int32} {M' : Mem} {M : Mem} (h : f_X4_resources_0 M = some (r', M')) {H : Heap} {locs : List Loc} {ls : Array Slot} (hS : va_S (A0 b) s.heap H locs) (hW : Wd Z b M H) (hl : lv_has ls 1 [(0, .ref (b + 0))]) : W p l e rm_X4_resources s m args below meth c H locs 0 0 (MQ below (Qn Z b (some (.int r')) M') args s 0 0 (A0 b)) (F0 m 0 ls []) := by
  unfold f_X4_resources_0 at h
  have hx := C.1
  have hb := C.2.1
  refine lv_aload_n hx hb dX4_resources_0 rfl (lv_at hl 0 rfl) ?_
  refine gX4_10 C hW dX4_resources_1 ?_
  refine gX4_57 C hW dX4_resources_4 ?_
  cases h
  exact ret_i C hr hlk hS hW dX4_resources_7
def f_X4_resources (M : Mem) : Option (Int32 × Mem) := f_X4_resources_0 M
set_option maxHeartbeats 4000000 in
set_option maxRecDepth 100000 in
theorem c_X4_resources {l : Launch} {Z : Zt} {b : Nat} {M : Mem} {r' : Int32} {M' : Mem} (h : f_X4_resources M = some (r', M')) : Ct l yX4_resources cX4_resources 1 (some .int) rm_X4_resources Z b [.ref (b + 0)] M (some (.int r')) M' := by
  refine Met.ofW (cc := cX4_resources) (maxL := 1) (ret := (some .int)) (by decide) rfl ?_
  intro p e s m args below meth c s₁ B hml hv
  obtain ⟨rfl, hE, hW⟩ := hv
  have C : Cx p s m [.ref (b + 0)].toArray c cX4_resources RX4 Z b := ⟨B.exec, B.bytes, findClass_of_methodNamed B.named, fun w hw => atoms_spec (ws := Cond.code yX4_resources cX4_resources 1 (some .int) :: wsA) B.pre w (List.mem_cons_of_mem _ hw), hE⟩
  have hl := lv_entry [.ref (b + 0)] (n := 1) (Nat.le_of_ble_eq_true rfl)
  rw [lg_entry_eq]
  generalize (lg_sl [.ref (b + 0)] ++ List.replicate (1 - (lg_sl [.ref (b + 0)]).length) Slot.unset).toArray = ls at hl ⊢
  have hl : lv_has ls 1 [(0, .ref (b + 0))] := hl
  exact w_X4_resources_0 C hml B.returns B.notSynchronized h va_S.rf hW hl

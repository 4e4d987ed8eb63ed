def f_X2_versionAt_0 (M : Mem) (k0 : Nat) (x1 : Int32) : Option (Int32 × Mem) :=
  if x1 < 0 then some ((-1 : Int32), M) else if (M 8 k0) ≤ x1 then some ((-1 : Int32), M) else if x1 < (10 : Int32) then (if x1 < 0 ∨ 10 ≤ x1.toNatClampNeg then none else some (M (100 + k0) x1.toNatClampNeg, M)) else some ((-1 : Int32), M)
set_option maxHeartbeats 4000000 in
set_option maxRecDepth 100000 in
theorem w_X2_versionAt_0 {p : Program} {l : Launch} {e : Env} {s : State} {m : MethodId} {args : Array Value} {below : List Frame} {meth : Method} {c : Code} {Z : Zt} {b : Nat} (C : Cx p s m args c cX2_versionAt RX2 Z b) (hml : c.maxLocals = 2) (hr : meth.sig.returnType = (some .int)) (hlk : meth.locks = false) {r' : Int32} {M' : Mem} {M : Mem} {k0 : Nat} {x1 : Int32} (hk0 : k0 < 60) (h : f_X2_versionAt_0 M k0 x1 = some (r', M')) {H : Heap} {locs : List Loc} {ls : Array Slot} (hS : va_S (A0 b) s.heap H locs) (hW : Wd Z b M H) (hl : lv_has ls 2 [(0, .ref (b + (3 + 2 * k0))), (1, .int x1)]) : W p l e rm_X2_versionAt s m args below meth c H locs 0 0 (MQ below (Qn Z b (some (.int r')) M') args s 0 0 (A0 b)) (F0 m 0 ls []) := by
  unfold f_X2_versionAt_0 at h
  have hx := C.1
  have hb := C.2.1
  refine lv_iload_n hx hb dX2_versionAt_0 rfl (lv_at hl 1 rfl) ?_
  refine lv_if_lt (tgt := 21) hx hb dX2_versionAt_1 (by decide) (fun c1 => ?_) (fun c1 => ?_)
  · have h := (if_pos c1).symm.trans h
    refine lv_iconst (v := (-1 : Int32)) hx hb dX2_versionAt_21 (by decide) ?_
    refine lv_goto (tgt := 31) hx hb dX2_versionAt_22 (by decide) ?_
    cases h
    exact ret_i C hr hlk hS hW dX2_versionAt_31
  · have h := (if_neg c1).symm.trans h
    refine lv_iload_n hx hb dX2_versionAt_4 rfl (lv_at hl 1 rfl) ?_
    refine lv_aload_n hx hb dX2_versionAt_5 rfl (lv_at hl 0 rfl) ?_
    refine gX2_29 hk0 C hW dX2_versionAt_6 ?_
    refine lv_icmp_ge (tgt := 21) hx hb dX2_versionAt_9 (by decide) (fun c9 => ?_) (fun c9 => ?_)
    · have h := (if_pos c9).symm.trans h
      refine lv_iconst (v := (-1 : Int32)) hx hb dX2_versionAt_21 (by decide) ?_
      refine lv_goto (tgt := 31) hx hb dX2_versionAt_22 (by decide) ?_
      cases h
      exact ret_i C hr hlk hS hW dX2_versionAt_31
    · have h := (if_neg c9).symm.trans h
      refine lv_iload_n hx hb dX2_versionAt_12 rfl (lv_at hl 1 rfl) ?_
      refine lv_aload_n hx hb dX2_versionAt_13 rfl (lv_at hl 0 rfl) ?_
      refine gX2_9 hk0 C hW dX2_versionAt_14 ?_
      refine alen_V hk0 C hW dX2_versionAt_17 ?_
      refine lv_icmp_lt (tgt := 25) hx hb dX2_versionAt_18 (by decide) (fun c18 => ?_) (fun c18 => ?_)
      · have h := (if_pos c18).symm.trans h
        refine lv_aload_n hx hb dX2_versionAt_25 rfl (lv_at hl 0 rfl) ?_
        refine gX2_9 hk0 C hW dX2_versionAt_26 ?_
        refine lv_iload_n hx hb dX2_versionAt_29 rfl (lv_at hl 1 rfl) ?_
        obtain ⟨g30, h⟩ := gd h
        refine ald_V hk0 C hW g30 dX2_versionAt_30 ?_
        cases h
        exact ret_i C hr hlk hS hW dX2_versionAt_31
      · have h := (if_neg c18).symm.trans h
        refine lv_iconst (v := (-1 : Int32)) hx hb dX2_versionAt_21 (by decide) ?_
        refine lv_goto (tgt := 31) hx hb dX2_versionAt_22 (by decide) ?_
        cases h
        exact ret_i C hr hlk hS hW dX2_versionAt_31
def f_X2_versionAt (M : Mem) (k0 : Nat) (x1 : Int32) : Option (Int32 × Mem) := f_X2_versionAt_0 M k0 x1
set_option maxHeartbeats 4000000 in
set_option maxRecDepth 100000 in
theorem c_X2_versionAt {l : Launch} {Z : Zt} {b : Nat} {M : Mem} {k0 : Nat} {x1 : Int32} {r' : Int32} {M' : Mem} (hk0 : k0 < 60) (h : f_X2_versionAt M k0 x1 = some (r', M')) : Ct l yX2_versionAt cX2_versionAt 2 (some .int) rm_X2_versionAt Z b [.ref (b + (3 + 2 * k0)), .int x1] M (some (.int r')) M' := by
  refine Met.ofW (cc := cX2_versionAt) (maxL := 2) (ret := (some .int)) (by decide) rfl ?_
  intro p e s m args below meth c s₁ B hml hv
  obtain ⟨rfl, hE, hW⟩ := hv
  have C : Cx p s m [.ref (b + (3 + 2 * k0)), .int x1].toArray c cX2_versionAt RX2 Z b := ⟨B.exec, B.bytes, findClass_of_methodNamed B.named, fun w hw => atoms_spec (ws := Cond.code yX2_versionAt cX2_versionAt 2 (some .int) :: wsA) B.pre w (List.mem_cons_of_mem _ hw), hE⟩
  have hl := lv_entry [.ref (b + (3 + 2 * k0)), .int x1] (n := 2) (Nat.le_of_ble_eq_true rfl)
  rw [lg_entry_eq]
  generalize (lg_sl [.ref (b + (3 + 2 * k0)), .int x1] ++ List.replicate (2 - (lg_sl [.ref (b + (3 + 2 * k0)), .int x1]).length) Slot.unset).toArray = ls at hl ⊢
  have hl : lv_has ls 2 [(0, .ref (b + (3 + 2 * k0))), (1, .int x1)] := hl
  exact w_X2_versionAt_0 C hml B.returns B.notSynchronized hk0 h va_S.rf hW hl
def f_X4_restore_42 (M : Mem) (x1 : Int32) (x2 : Int32) (x4 : Int32) (z5 : Option Nat) (xs0 : Int32) : Option ((String ⊕ Int32) × Mem) :=
  oe z5 (some (.inr (1 : Int32), M)) (fun k5 => if xs0 = (-1 : Int32) then some (.inr (1 : Int32), M) else bd2 (f_X1_allows M x1 x2 x4) (fun r65 M65 => if r65 = 0 then some (.inr (4 : Int32), M65) else some (.inr (0 : Int32), mu M65 6 k5 xs0)))
set_option maxHeartbeats 4000000 in
set_option maxRecDepth 100000 in
theorem w_X4_restore_42 {p : Program} {l : Launch} {e : Env} {s : State} {m : MethodId} {args : Array Value} {below : List Frame} {meth : Method} {c : Code} {Z : Zt} {b : Nat} (C : Cx p s m args c cX4_restore RX4 Z b) (hml : c.maxLocals = 7) (hr : meth.sig.returnType = (some .int)) (hlk : meth.locks = false) (hlf : l.stackTraces = false) (ht : ∀ x ∈ c.exceptionTable.toList, False) {res : ((String ⊕ Int32) × Mem)} {M : Mem} {x1 : Int32} {x2 : Int32} {x4 : Int32} {z5 : Option Nat} {xs0 : Int32} (hz5 : ∀ k, z5 = some k → k < 60) (h : f_X4_restore_42 M x1 x2 x4 z5 xs0 = some res) {H : Heap} {locs : List Loc} {ls : Array Slot} (hS : va_S (A0 b) s.heap H locs) (hW : Wd Z b M H) (hl : lv_has ls 7 [(0, .ref (b + 0)), (1, .int x1), (2, .int x2), (4, .int x4), (5, rR b z5)]) : W p l e rm_X4_restore s m args below meth c H locs 4 24 (vx_MQ below (Qx Z b (voI res.1) res.2) (XCx Z b (voI res.1) res.2) args s 4 24 (A0 b)) (F0 m 42 ls [.int xs0]) := by
  unfold f_X4_restore_42 at h
  have hx := C.1
  have hb := C.2.1
  refine lv_istore (lv' := [(6, .int xs0), (0, .ref (b + 0)), (1, .int x1), (2, .int x2), (4, .int x4), (5, rR b z5)]) hx hb dX4_restore_42 hl (by decide) (by rcases z5 with _ | _ <;> rfl) (fun ls hl => ?_)
  rcases z5 with _ | k5
  · have h := oe_n h
    have hl : lv_has ls 7 [(6, .int xs0), (0, .ref (b + 0)), (1, .int x1), (2, .int x2), (4, .int x4), (5, .null)] := hl
    refine lv_aloadN hx hb dX4_restore_44 (lv_at hl 5 rfl) ?_
    refine lv_ifnullN (tgt := 55) hx hb dX4_restore_46 (by decide) ?_
    refine lv_iconst (v := (1 : Int32)) hx hb dX4_restore_55 (by decide) ?_
    cases h
    exact ret_xi C hr hlk hS hW dX4_restore_56 (Nat.le_of_ble_eq_true rfl) (Nat.le_of_ble_eq_true rfl)
  · have h := oe_s h
    have hk5 : k5 < 60 := hz5 _ rfl
    have hl : lv_has ls 7 [(6, .int xs0), (0, .ref (b + 0)), (1, .int x1), (2, .int x2), (4, .int x4), (5, .ref (b + (3 + 2 * k5)))] := hl
    refine lv_aload hx hb dX4_restore_44 (lv_at hl 5 rfl) ?_
    refine lv_ifnull hx hb dX4_restore_46 ?_
    refine lv_iload hx hb dX4_restore_49 (lv_at hl 0 rfl) ?_
    refine lv_iconst (v := (-1 : Int32)) hx hb dX4_restore_51 (by decide) ?_
    refine lv_icmp_ne (tgt := 57) hx hb dX4_restore_52 (by decide) (fun c52 => ?_) (fun c52 => ?_)
    · have h := (if_neg c52).symm.trans h
      refine lv_aload_n hx hb dX4_restore_57 rfl (lv_at hl 1 rfl) ?_
      refine gX4_19 C hW dX4_restore_58 ?_
      refine lv_iload_n hx hb dX4_restore_61 rfl (lv_at hl 2 rfl) ?_
      refine lv_iload_n hx hb dX4_restore_62 rfl (lv_at hl 3 rfl) ?_
      refine lv_iload hx hb dX4_restore_63 (lv_at hl 4 rfl) ?_
      obtain ⟨r65, M65, hc65, h⟩ := bd2_e h
      refine kX4_111 C hml hl.1 (c_X1_allows hc65) ⟨Nat.le_of_ble_eq_true rfl, Nat.le_of_ble_eq_true rfl⟩ ⟨Nat.le_of_ble_eq_true rfl, Nat.le_of_ble_eq_true rfl⟩ (Nat.le_of_ble_eq_true rfl) hS hW dX4_restore_65 (fun H locs hW hS => ?_)
      refine lv_if_ne (tgt := 73) hx hb dX4_restore_68 (by decide) (fun c68 => ?_) (fun c68 => ?_)
      · have h := (if_neg c68).symm.trans h
        refine lv_aload hx hb dX4_restore_73 (lv_at hl 5 rfl) ?_
        refine lv_iload hx hb dX4_restore_75 (lv_at hl 0 rfl) ?_
        refine pX4_132 hk5 C hS hW dX4_restore_77 (fun H locs hW hS => ?_)
        refine lv_iconst (v := (0 : Int32)) hx hb dX4_restore_80 (by decide) ?_
        cases h
        exact ret_xi C hr hlk hS hW dX4_restore_81 (Nat.le_of_ble_eq_true rfl) (Nat.le_of_ble_eq_true rfl)
      · have h := (if_pos c68).symm.trans h
        refine lv_iconst (v := (4 : Int32)) hx hb dX4_restore_71 (by decide) ?_
        cases h
        exact ret_xi C hr hlk hS hW dX4_restore_72 (Nat.le_of_ble_eq_true rfl) (Nat.le_of_ble_eq_true rfl)
    · have h := (if_pos c52).symm.trans h
      refine lv_iconst (v := (1 : Int32)) hx hb dX4_restore_55 (by decide) ?_
      cases h
      exact ret_xi C hr hlk hS hW dX4_restore_56 (Nat.le_of_ble_eq_true rfl) (Nat.le_of_ble_eq_true rfl)
def f_X4_restore_0 (M : Mem) (x1 : Int32) (x2 : Int32) (x3 : Int32) (x4 : Int32) : Option ((String ⊕ Int32) × Mem) :=
  bdx (f_X4_requireClient M x1) (fun r1 M1 => bdx (f_X4_requirePath M1 x2) (fun r5 M5 => bdx (f_X4_requireNotNegative M5 x3) (fun r9 M9 => bdx (f_X4_requireNotNegative M9 x4) (fun r14 M14 => bd2 (f_X3_findFile M14 x2) (fun q22 M22 => oe q22 (f_X4_restore_42 M22 x1 x2 x4 none (-1 : Int32)) (fun k22 => if 60 ≤ k22 then none else bd2 (f_X2_versionAt M22 k22 x3) (fun r39 M39 => f_X4_restore_42 M39 x1 x2 x4 (some k22) r39)))))))
set_option maxHeartbeats 4000000 in
set_option maxRecDepth 100000 in
theorem w_X4_restore_0 {p : Program} {l : Launch} {e : Env} {s : State} {m : MethodId} {args : Array Value} {below : List Frame} {meth : Method} {c : Code} {Z : Zt} {b : Nat} (C : Cx p s m args c cX4_restore RX4 Z b) (hml : c.maxLocals = 7) (hr : meth.sig.returnType = (some .int)) (hlk : meth.locks = false) (hlf : l.stackTraces = false) (ht : ∀ x ∈ c.exceptionTable.toList, False) {res : ((String ⊕ Int32) × Mem)} {M : Mem} {x1 : Int32} {x2 : Int32} {x3 : Int32} {x4 : Int32} (h : f_X4_restore_0 M x1 x2 x3 x4 = some res) {H : Heap} {locs : List Loc} {ls : Array Slot} (hS : va_S (A0 b) s.heap H locs) (hW : Wd Z b M H) (hl : lv_has ls 7 [(0, .ref (b + 0)), (1, .int x1), (2, .int x2), (3, .int x3), (4, .int x4)]) : W p l e rm_X4_restore s m args below meth c H locs 0 0 (vx_MQ below (Qx Z b (voI res.1) res.2) (XCx Z b (voI res.1) res.2) args s 4 24 (A0 b)) (F0 m 0 ls []) := by
  unfold f_X4_restore_0 at h
  have hx := C.1
  have hb := C.2.1
  refine lv_iload_n hx hb dX4_restore_0 rfl (lv_at hl 1 rfl) ?_
  rcases bdx_e h with ⟨E1, M1, hc1, rfl⟩ | ⟨r1, M1, hc1, h⟩
  · exact kX4_31T C hml hl.1 (c_X4_requireClient hlf hc1) ⟨Nat.le_of_ble_eq_true rfl, Nat.le_of_ble_eq_true rfl⟩ ⟨Nat.le_of_ble_eq_true rfl, Nat.le_of_ble_eq_true rfl⟩ (Nat.le_of_ble_eq_true rfl) hS hW dX4_restore_1 ht hlk (Nat.le_of_ble_eq_true rfl) (Nat.le_of_ble_eq_true rfl)
  refine kX4_31R C hml hl.1 (c_X4_requireClient hlf hc1) ⟨Nat.le_of_ble_eq_true rfl, Nat.le_of_ble_eq_true rfl⟩ ⟨Nat.le_of_ble_eq_true rfl, Nat.le_of_ble_eq_true rfl⟩ (Nat.le_of_ble_eq_true rfl) hS hW dX4_restore_1 (fun H locs hW hS => ?_)
  refine lv_iload_n hx hb dX4_restore_4 rfl (lv_at hl 2 rfl) ?_
  rcases bdx_e h with ⟨E5, M5, hc5, rfl⟩ | ⟨r5, M5, hc5, h⟩
  · exact kX4_123T C hml hl.1 (c_X4_requirePath hlf hc5) ⟨Nat.le_of_ble_eq_true rfl, Nat.le_of_ble_eq_true rfl⟩ ⟨Nat.le_of_ble_eq_true rfl, Nat.le_of_ble_eq_true rfl⟩ (Nat.le_of_ble_eq_true rfl) hS hW dX4_restore_5 ht hlk (Nat.le_of_ble_eq_true rfl) (Nat.le_of_ble_eq_true rfl)
  refine kX4_123R C hml hl.1 (c_X4_requirePath hlf hc5) ⟨Nat.le_of_ble_eq_true rfl, Nat.le_of_ble_eq_true rfl⟩ ⟨Nat.le_of_ble_eq_true rfl, Nat.le_of_ble_eq_true rfl⟩ (Nat.le_of_ble_eq_true rfl) hS hW dX4_restore_5 (fun H locs hW hS => ?_)
  refine lv_iload_n hx hb dX4_restore_8 rfl (lv_at hl 3 rfl) ?_
  rcases bdx_e h with ⟨E9, M9, hc9, rfl⟩ | ⟨r9, M9, hc9, h⟩
  · exact kX4_38T C hml hl.1 (c_X4_requireNotNegative hlf hc9) ⟨Nat.le_of_ble_eq_true rfl, Nat.le_of_ble_eq_true rfl⟩ ⟨Nat.le_of_ble_eq_true rfl, Nat.le_of_ble_eq_true rfl⟩ (Nat.le_of_ble_eq_true rfl) hS hW dX4_restore_9 ht hlk (Nat.le_of_ble_eq_true rfl) (Nat.le_of_ble_eq_true rfl)
  refine kX4_38R C hml hl.1 (c_X4_requireNotNegative hlf hc9) ⟨Nat.le_of_ble_eq_true rfl, Nat.le_of_ble_eq_true rfl⟩ ⟨Nat.le_of_ble_eq_true rfl, Nat.le_of_ble_eq_true rfl⟩ (Nat.le_of_ble_eq_true rfl) hS hW dX4_restore_9 (fun H locs hW hS => ?_)
  refine lv_iload hx hb dX4_restore_12 (lv_at hl 4 rfl) ?_
  rcases bdx_e h with ⟨E14, M14, hc14, rfl⟩ | ⟨r14, M14, hc14, h⟩
  · exact kX4_38T C hml hl.1 (c_X4_requireNotNegative hlf hc14) ⟨Nat.le_of_ble_eq_true rfl, Nat.le_of_ble_eq_true rfl⟩ ⟨Nat.le_of_ble_eq_true rfl, Nat.le_of_ble_eq_true rfl⟩ (Nat.le_of_ble_eq_true rfl) hS hW dX4_restore_14 ht hlk (Nat.le_of_ble_eq_true rfl) (Nat.le_of_ble_eq_true rfl)
  refine kX4_38R C hml hl.1 (c_X4_requireNotNegative hlf hc14) ⟨Nat.le_of_ble_eq_true rfl, Nat.le_of_ble_eq_true rfl⟩ ⟨Nat.le_of_ble_eq_true rfl, Nat.le_of_ble_eq_true rfl⟩ (Nat.le_of_ble_eq_true rfl) hS hW dX4_restore_14 (fun H locs hW hS => ?_)
  refine lv_aload_n hx hb dX4_restore_17 rfl (lv_at hl 0 rfl) ?_
  refine gX4_10 C hW dX4_restore_18 ?_
  refine lv_iload_n hx hb dX4_restore_21 rfl (lv_at hl 2 rfl) ?_
  obtain ⟨q22, M22, hc22, h⟩ := bd2_e h
  refine kX4_129 C hml hl.1 (c_X3_findFile hc22) ⟨Nat.le_of_ble_eq_true rfl, Nat.le_of_ble_eq_true rfl⟩ ⟨Nat.le_of_ble_eq_true rfl, Nat.le_of_ble_eq_true rfl⟩ (Nat.le_of_ble_eq_true rfl) hS hW dX4_restore_22 (fun H locs hW hS => ?_)
  rcases q22 with _ | k22
  · have h := oe_n h
    refine W.eq (g2 := F0 m 25 ls [.null]) rfl ?_
    refine lv_astoreN (lv' := [(5, .null), (0, .ref (b + 0)), (1, .int x1), (2, .int x2), (3, .int x3), (4, .int x4)]) hx hb dX4_restore_25 hl (by decide) rfl (fun ls hl => ?_)
    refine lv_aloadN hx hb dX4_restore_27 (lv_at hl 0 rfl) ?_
    refine lv_ifnonnullN hx hb dX4_restore_29 ?_
    refine lv_iconst (v := (-1 : Int32)) hx hb dX4_restore_32 (by decide) ?_
    refine lv_goto (tgt := 42) hx hb dX4_restore_33 (by decide) ?_
    exact w_X4_restore_42 C hml hr hlk hlf ht (fun _ h => by cases h) h hS hW (lv_sub hl [1, 2, 3, 5, 0] rfl)
  · obtain ⟨g22, h⟩ := gd (oe_s h)
    have hk22 := Nat.lt_of_not_le g22
    refine W.eq (g2 := F0 m 25 ls [.ref (b + (3 + 2 * k22))]) rfl ?_
    refine lv_astore (lv' := [(5, .ref (b + (3 + 2 * k22))), (0, .ref (b + 0)), (1, .int x1), (2, .int x2), (3, .int x3), (4, .int x4)]) hx hb dX4_restore_25 hl (by decide) rfl (fun ls hl => ?_)
    refine lv_aload hx hb dX4_restore_27 (lv_at hl 0 rfl) ?_
    refine lv_ifnonnull (tgt := 36) hx hb dX4_restore_29 (by decide) ?_
    refine lv_aload hx hb dX4_restore_36 (lv_at hl 0 rfl) ?_
    refine lv_iload_n hx hb dX4_restore_38 rfl (lv_at hl 4 rfl) ?_
    obtain ⟨r39, M39, hc39, h⟩ := bd2_e h
    refine kX4_208 hk22 C hml hl.1 (c_X2_versionAt hk22 hc39) ⟨Nat.le_of_ble_eq_true rfl, Nat.le_of_ble_eq_true rfl⟩ ⟨Nat.le_of_ble_eq_true rfl, Nat.le_of_ble_eq_true rfl⟩ (Nat.le_of_ble_eq_true rfl) hS hW dX4_restore_39 (fun H locs hW hS => ?_)
    exact w_X4_restore_42 C hml hr hlk hlf ht (fun _ h => by cases h; exact hk22) h hS hW (lv_sub hl [1, 2, 3, 5, 0] rfl)
def f_X4_restore (M : Mem) (x1 : Int32) (x2 : Int32) (x3 : Int32) (x4 : Int32) : Option ((String ⊕ Int32) × Mem) := f_X4_restore_0 M x1 x2 x3 x4
set_option maxHeartbeats 4000000 in
set_option maxRecDepth 100000 in
theorem c_X4_restore {l : Launch} {Z : Zt} {b : Nat} (hlf : l.stackTraces = false) {M : Mem} {x1 : Int32} {x2 : Int32} {x3 : Int32} {x4 : Int32} {res : ((String ⊕ Int32) × Mem)} (h : f_X4_restore M x1 x2 x3 x4 = some res) : Cx' l yX4_restore cX4_restore 7 (some .int) rm_X4_restore 4 24 Z b [.ref (b + 0), .int x1, .int x2, .int x3, .int x4] M (voI res.1) res.2 := by
  refine vx_ofW (cc := cX4_restore) (maxL := 7) (ret := (some .int)) (by decide) rfl ?_
  intro p e s m args below meth c s₁ B hml ht hv
  obtain ⟨rfl, hE, hW⟩ := hv
  have C : Cx p s m [.ref (b + 0), .int x1, .int x2, .int x3, .int x4].toArray c cX4_restore RX4 Z b := ⟨B.exec, B.bytes, findClass_of_methodNamed B.named, fun w hw => atoms_spec (ws := Cond.code yX4_restore cX4_restore 7 (some .int) :: wsA) B.pre w (List.mem_cons_of_mem _ hw), hE⟩
  have hl := lv_entry [.ref (b + 0), .int x1, .int x2, .int x3, .int x4] (n := 7) (Nat.le_of_ble_eq_true rfl)
  rw [lg_entry_eq]
  generalize (lg_sl [.ref (b + 0), .int x1, .int x2, .int x3, .int x4] ++ List.replicate (7 - (lg_sl [.ref (b + 0), .int x1, .int x2, .int x3, .int x4]).length) Slot.unset).toArray = ls at hl ⊢
  have hl : lv_has ls 7 [(0, .ref (b + 0)), (1, .int x1), (2, .int x2), (3, .int x3), (4, .int x4)] := hl
  exact w_X4_restore_0 C hml B.returns B.notSynchronized hlf ht h va_S.rf hW hl

def f_L_makeCollection_0 (M : Mem) (x1 : Int32) (x2 : Int32) (x3 : Int32) : Option (Int32 × Mem) :=
  bdc (f_X4_makeCollection M x1 x2 x3) (fun E7 M7 => if E7 = "java/lang/IllegalArgumentException" then some ((1 : Int32), M7) else none) (fun r7 M7 => if (0 : Int32) < 0 ∨ 1 ≤ (0 : Int32).toNatClampNeg then none else some ((0 : Int32), mu M7 40 (0 : Int32).toNatClampNeg r7))
set_option maxHeartbeats 4000000 in
set_option maxRecDepth 100000 in
theorem w_L_makeCollection_0 {p : Program} {l : Launch} {e : Env} {s : State} {m : MethodId} {args : Array Value} {below : List Frame} {meth : Method} {c : Code} {Z : Zt} {b : Nat} (C : Cx p s m args c cL_makeCollection RL Z b) (hml : c.maxLocals = 6) (hr : meth.sig.returnType = (some .int)) (hlk : meth.locks = false) (hlf : l.stackTraces = false) (hT : c.exceptionTable.toList = tableOf [(0, 12, 15, 13)]) {r' : Int32} {M' : Mem} {M : Mem} {x1 : Int32} {x2 : Int32} {x3 : Int32} (h : f_L_makeCollection_0 M x1 x2 x3 = some (r', M')) {H : Heap} {locs : List Loc} {ls : Array Slot} (hS : va_S (A0 b) s.heap H locs) (hW : Wd Z b M H) (hl : lv_has ls 6 [(0, .ref (b + 0)), (1, .int x1), (2, .int x2), (3, .int x3), (4, .ref (b + 172))]) : W p l e rm_L_makeCollection s m args below meth c H locs 0 0 (vx_MQ below (Qx Z b (.inr (some (.int r'))) M') (XCx Z b (.inr (some (.int r'))) M') args s 4 24 (A0 b)) (F0 m 0 ls []) := by
  unfold f_L_makeCollection_0 at h
  have hx := C.1
  have hb := C.2.1
  refine lv_aload hx hb dL_makeCollection_0 (lv_at hl 4 rfl) ?_
  refine lv_iconst (v := (0 : Int32)) hx hb dL_makeCollection_2 (by decide) ?_
  refine lv_aload_n hx hb dL_makeCollection_3 rfl (lv_at hl 0 rfl) ?_
  refine lv_iload_n hx hb dL_makeCollection_4 rfl (lv_at hl 1 rfl) ?_
  refine lv_iload_n hx hb dL_makeCollection_5 rfl (lv_at hl 2 rfl) ?_
  refine lv_iload_n hx hb dL_makeCollection_6 rfl (lv_at hl 3 rfl) ?_
  rcases bdc_e h with ⟨E7, M7, hc7, h⟩ | ⟨r7, M7, hc7, h⟩
  · by_cases e0 : E7 = "java/lang/IllegalArgumentException"
    · have h := (if_pos e0).symm.trans h
      subst e0
      refine kL_7C C hml hl.1 (c_X4_makeCollection hlf hc7) ⟨Nat.le_of_ble_eq_true rfl, Nat.le_of_ble_eq_true rfl⟩ ⟨Nat.le_of_ble_eq_true rfl, Nat.le_of_ble_eq_true rfl⟩ (Nat.le_of_ble_eq_true rfl) hS hW dL_makeCollection_7 (fun H locs q9 ce hW hS h91 h92 h93 => ?_)
      refine vx_catch (own := RL) (name := "java/lang/IllegalArgumentException") (E := "java/lang/IllegalArgumentException") C.2.2.1 ([] : List ExceptionTableEntry) (⟨0, 12, 15, 13⟩ : ExceptionTableEntry) ([] : List ExceptionTableEntry) (by rw [hT]; rfl) (fun z hz => by cases hz) (by decide) (by decide) (C.2.2.2.1 _ q201) (va_Nw.use rfl (C.2.2.2.2.2.1 _ (List.mem_append_right _ (List.mem_append_right _ (List.mem_of_getElem? (i := 0) rfl))))) h91 h92 h93 ?_
      refine W.eq (g2 := F0 m 15 ls [.ref q9]) rfl ?_
      refine lv_astore (lv' := [(5, .ref q9), (0, .ref (b + 0)), (1, .int x1), (2, .int x2), (3, .int x3), (4, .ref (b + 172))]) hx hb dL_makeCollection_15 hl (by decide) rfl (fun ls hl => ?_)
      refine lv_iconst (v := (1 : Int32)) hx hb dL_makeCollection_17 (by decide) ?_
      cases h
      exact ret_xi C hr hlk hS hW dL_makeCollection_18 (Nat.le_of_ble_eq_true rfl) (Nat.le_of_ble_eq_true rfl)
    · have h := (if_neg e0).symm.trans h
      cases h
  refine kL_7R C hml hl.1 (c_X4_makeCollection hlf hc7) ⟨Nat.le_of_ble_eq_true rfl, Nat.le_of_ble_eq_true rfl⟩ ⟨Nat.le_of_ble_eq_true rfl, Nat.le_of_ble_eq_true rfl⟩ (Nat.le_of_ble_eq_true rfl) hS hW dL_makeCollection_7 (fun H locs hW hS => ?_)
  refine lv_i2l (v := r7.toInt64) hx hb dL_makeCollection_10 rfl ?_
  obtain ⟨g11, h⟩ := gd h
  refine ast_172 C hS hW g11 dL_makeCollection_11 (fun H locs hW hS => ?_)
  refine lv_goto (tgt := 19) hx hb dL_makeCollection_12 (by decide) ?_
  refine lv_iconst (v := (0 : Int32)) hx hb dL_makeCollection_19 (by decide) ?_
  cases h
  exact ret_xi C hr hlk hS hW dL_makeCollection_20 (Nat.le_of_ble_eq_true rfl) (Nat.le_of_ble_eq_true rfl)
def f_L_makeCollection (M : Mem) (x1 : Int32) (x2 : Int32) (x3 : Int32) : Option (Int32 × Mem) := f_L_makeCollection_0 M x1 x2 x3
set_option maxHeartbeats 4000000 in
set_option maxRecDepth 100000 in
theorem c_L_makeCollection {l : Launch} {Z : Zt} {b : Nat} (hlf : l.stackTraces = false) {x1 : Int32} {x2 : Int32} {x3 : Int32} {M : Mem} {r' : Int32} {M' : Mem} (h : f_L_makeCollection M x1 x2 x3 = some (r', M')) : vx_Met l yL_makeCollection (Cond.codeWith yL_makeCollection cL_makeCollection 6 (some .int) [(0, 12, 15, 13)] :: wsA) rm_L_makeCollection (va_Pc [.ref (b + 0), .int x1, .int x2, .int x3, .ref (b + 172)] (Pre Z b M)) (Qx Z b (.inr (some (.int r'))) M') (XCx Z b (.inr (some (.int r'))) M') 4 24 (A0 b) := by
  refine vx_ofWH (cc := cL_makeCollection) (maxL := 6) (ret := (some .int)) (hh := [(0, 12, 15, 13)]) (by decide) rfl ?_
  intro p e s m args below meth c s₁ B hml hv
  obtain ⟨rfl, hE, hW⟩ := hv
  have hT : c.exceptionTable.toList = tableOf [(0, 12, 15, 13)] := vx_table (x := yL_makeCollection) B (atoms_spec (ws := Cond.codeWith yL_makeCollection cL_makeCollection 6 (some .int) [(0, 12, 15, 13)] :: wsA) B.pre _ List.mem_cons_self)
  have C : Cx p s m [.ref (b + 0), .int x1, .int x2, .int x3, .ref (b + 172)].toArray c cL_makeCollection RL Z b := ⟨B.exec, B.bytes, findClass_of_methodNamed B.named, fun w hw => atoms_spec (ws := Cond.codeWith yL_makeCollection cL_makeCollection 6 (some .int) [(0, 12, 15, 13)] :: wsA) B.pre w (List.mem_cons_of_mem _ hw), hE⟩
  have hl := lv_entry [.ref (b + 0), .int x1, .int x2, .int x3, .ref (b + 172)] (n := 6) (Nat.le_of_ble_eq_true rfl)
  rw [lg_entry_eq]
  generalize (lg_sl [.ref (b + 0), .int x1, .int x2, .int x3, .ref (b + 172)] ++ List.replicate (6 - (lg_sl [.ref (b + 0), .int x1, .int x2, .int x3, .ref (b + 172)]).length) Slot.unset).toArray = ls at hl ⊢
  have hl : lv_has ls 6 [(0, .ref (b + 0)), (1, .int x1), (2, .int x2), (3, .int x3), (4, .ref (b + 172))] := hl
  exact w_L_makeCollection_0 C hml B.returns B.notSynchronized hlf hT h va_S.rf hW hl
def f_L_put_0 (M : Mem) (x1 : Int32) (x2 : Int32) (x3 : Int32) (x4 : Int32) (x5 : Int32) : Option (Int32 × Mem) :=
  bdc (f_X4_put M x1 x2 x3 x4 x5) (fun E11 M11 => if E11 = "java/lang/IllegalArgumentException" then some ((1 : Int32), M11) else none) (fun r11 M11 => if (0 : Int32) < 0 ∨ 1 ≤ (0 : Int32).toNatClampNeg then none else some ((0 : Int32), mu M11 40 (0 : Int32).toNatClampNeg r11))
set_option maxHeartbeats 4000000 in
set_option maxRecDepth 100000 in
theorem w_L_put_0 {p : Program} {l : Launch} {e : Env} {s : State} {m : MethodId} {args : Array Value} {below : List Frame} {meth : Method} {c : Code} {Z : Zt} {b : Nat} (C : Cx p s m args c cL_put RL Z b) (hml : c.maxLocals = 8) (hr : meth.sig.returnType = (some .int)) (hlk : meth.locks = false) (hlf : l.stackTraces = false) (hT : c.exceptionTable.toList = tableOf [(0, 16, 19, 13)]) {r' : Int32} {M' : Mem} {M : Mem} {x1 : Int32} {x2 : Int32} {x3 : Int32} {x4 : Int32} {x5 : Int32} (h : f_L_put_0 M x1 x2 x3 x4 x5 = some (r', M')) {H : Heap} {locs : List Loc} {ls : Array Slot} (hS : va_S (A0 b) s.heap H locs) (hW : Wd Z b M H) (hl : lv_has ls 8 [(0, .ref (b + 0)), (1, .int x1), (2, .int x2), (3, .int x3), (4, .int x4), (5, .int x5), (6, .ref (b + 172))]) : W p l e rm_L_put s m args below meth c H locs 0 0 (vx_MQ below (Qx Z b (.inr (some (.int r'))) M') (XCx Z b (.inr (some (.int r'))) M') args s 6 36 (A0 b)) (F0 m 0 ls []) := by
  unfold f_L_put_0 at h
  have hx := C.1
  have hb := C.2.1
  refine lv_aload hx hb dL_put_0 (lv_at hl 6 rfl) ?_
  refine lv_iconst (v := (0 : Int32)) hx hb dL_put_2 (by decide) ?_
  refine lv_aload_n hx hb dL_put_3 rfl (lv_at hl 0 rfl) ?_
  refine lv_iload_n hx hb dL_put_4 rfl (lv_at hl 1 rfl) ?_
  refine lv_iload_n hx hb dL_put_5 rfl (lv_at hl 2 rfl) ?_
  refine lv_iload_n hx hb dL_put_6 rfl (lv_at hl 3 rfl) ?_
  refine lv_iload hx hb dL_put_7 (lv_at hl 4 rfl) ?_
  refine lv_iload hx hb dL_put_9 (lv_at hl 5 rfl) ?_
  rcases bdc_e h with ⟨E11, M11, hc11, h⟩ | ⟨r11, M11, hc11, h⟩
  · by_cases e0 : E11 = "java/lang/IllegalArgumentException"
    · have h := (if_pos e0).symm.trans h
      subst e0
      refine kL_15C C hml hl.1 (c_X4_put hlf hc11) ⟨Nat.le_of_ble_eq_true rfl, Nat.le_of_ble_eq_true rfl⟩ ⟨Nat.le_of_ble_eq_true rfl, Nat.le_of_ble_eq_true rfl⟩ (Nat.le_of_ble_eq_true rfl) hS hW dL_put_11 (fun H locs q9 ce hW hS h91 h92 h93 => ?_)
      refine vx_catch (own := RL) (name := "java/lang/IllegalArgumentException") (E := "java/lang/IllegalArgumentException") C.2.2.1 ([] : List ExceptionTableEntry) (⟨0, 16, 19, 13⟩ : ExceptionTableEntry) ([] : List ExceptionTableEntry) (by rw [hT]; rfl) (fun z hz => by cases hz) (by decide) (by decide) (C.2.2.2.1 _ q201) (va_Nw.use rfl (C.2.2.2.2.2.1 _ (List.mem_append_right _ (List.mem_append_right _ (List.mem_of_getElem? (i := 0) rfl))))) h91 h92 h93 ?_
      refine W.eq (g2 := F0 m 19 ls [.ref q9]) rfl ?_
      refine lv_astore (lv' := [(7, .ref q9), (0, .ref (b + 0)), (1, .int x1), (2, .int x2), (3, .int x3), (4, .int x4), (5, .int x5), (6, .ref (b + 172))]) hx hb dL_put_19 hl (by decide) rfl (fun ls hl => ?_)
      refine lv_iconst (v := (1 : Int32)) hx hb dL_put_21 (by decide) ?_
      cases h
      exact ret_xi C hr hlk hS hW dL_put_22 (Nat.le_of_ble_eq_true rfl) (Nat.le_of_ble_eq_true rfl)
    · have h := (if_neg e0).symm.trans h
      cases h
  refine kL_15R C hml hl.1 (c_X4_put hlf hc11) ⟨Nat.le_of_ble_eq_true rfl, Nat.le_of_ble_eq_true rfl⟩ ⟨Nat.le_of_ble_eq_true rfl, Nat.le_of_ble_eq_true rfl⟩ (Nat.le_of_ble_eq_true rfl) hS hW dL_put_11 (fun H locs hW hS => ?_)
  refine lv_i2l (v := r11.toInt64) hx hb dL_put_14 rfl ?_
  obtain ⟨g15, h⟩ := gd h
  refine ast_172 C hS hW g15 dL_put_15 (fun H locs hW hS => ?_)
  refine lv_goto (tgt := 23) hx hb dL_put_16 (by decide) ?_
  refine lv_iconst (v := (0 : Int32)) hx hb dL_put_23 (by decide) ?_
  cases h
  exact ret_xi C hr hlk hS hW dL_put_24 (Nat.le_of_ble_eq_true rfl) (Nat.le_of_ble_eq_true rfl)
def f_L_put (M : Mem) (x1 : Int32) (x2 : Int32) (x3 : Int32) (x4 : Int32) (x5 : Int32) : Option (Int32 × Mem) := f_L_put_0 M x1 x2 x3 x4 x5
set_option maxHeartbeats 4000000 in
set_option maxRecDepth 100000 in
theorem c_L_put {l : Launch} {Z : Zt} {b : Nat} (hlf : l.stackTraces = false) {x1 : Int32} {x2 : Int32} {x3 : Int32} {x4 : Int32} {x5 : Int32} {M : Mem} {r' : Int32} {M' : Mem} (h : f_L_put M x1 x2 x3 x4 x5 = some (r', M')) : vx_Met l yL_put (Cond.codeWith yL_put cL_put 8 (some .int) [(0, 16, 19, 13)] :: wsA) rm_L_put (va_Pc [.ref (b + 0), .int x1, .int x2, .int x3, .int x4, .int x5, .ref (b + 172)] (Pre Z b M)) (Qx Z b (.inr (some (.int r'))) M') (XCx Z b (.inr (some (.int r'))) M') 6 36 (A0 b) := by
  refine vx_ofWH (cc := cL_put) (maxL := 8) (ret := (some .int)) (hh := [(0, 16, 19, 13)]) (by decide) rfl ?_
  intro p e s m args below meth c s₁ B hml hv
  obtain ⟨rfl, hE, hW⟩ := hv
  have hT : c.exceptionTable.toList = tableOf [(0, 16, 19, 13)] := vx_table (x := yL_put) B (atoms_spec (ws := Cond.codeWith yL_put cL_put 8 (some .int) [(0, 16, 19, 13)] :: wsA) B.pre _ List.mem_cons_self)
  have C : Cx p s m [.ref (b + 0), .int x1, .int x2, .int x3, .int x4, .int x5, .ref (b + 172)].toArray c cL_put RL Z b := ⟨B.exec, B.bytes, findClass_of_methodNamed B.named, fun w hw => atoms_spec (ws := Cond.codeWith yL_put cL_put 8 (some .int) [(0, 16, 19, 13)] :: wsA) B.pre w (List.mem_cons_of_mem _ hw), hE⟩
  have hl := lv_entry [.ref (b + 0), .int x1, .int x2, .int x3, .int x4, .int x5, .ref (b + 172)] (n := 8) (Nat.le_of_ble_eq_true rfl)
  rw [lg_entry_eq]
  generalize (lg_sl [.ref (b + 0), .int x1, .int x2, .int x3, .int x4, .int x5, .ref (b + 172)] ++ List.replicate (8 - (lg_sl [.ref (b + 0), .int x1, .int x2, .int x3, .int x4, .int x5, .ref (b + 172)]).length) Slot.unset).toArray = ls at hl ⊢
  have hl : lv_has ls 8 [(0, .ref (b + 0)), (1, .int x1), (2, .int x2), (3, .int x3), (4, .int x4), (5, .int x5), (6, .ref (b + 172))] := hl
  exact w_L_put_0 C hml B.returns B.notSynchronized hlf hT h va_S.rf hW hl
def f_L_delete_0 (M : Mem) (x1 : Int32) (x2 : Int32) (x3 : Int32) : Option (Int32 × Mem) :=
  bdc (f_X4_delete M x1 x2 x3) (fun E7 M7 => if E7 = "java/lang/IllegalArgumentException" then some ((1 : Int32), M7) else none) (fun r7 M7 => if (0 : Int32) < 0 ∨ 1 ≤ (0 : Int32).toNatClampNeg then none else some ((0 : Int32), mu M7 40 (0 : Int32).toNatClampNeg r7))
set_option maxHeartbeats 4000000 in
set_option maxRecDepth 100000 in
theorem w_L_delete_0 {p : Program} {l : Launch} {e : Env} {s : State} {m : MethodId} {args : Array Value} {below : List Frame} {meth : Method} {c : Code} {Z : Zt} {b : Nat} (C : Cx p s m args c cL_delete RL Z b) (hml : c.maxLocals = 6) (hr : meth.sig.returnType = (some .int)) (hlk : meth.locks = false) (hlf : l.stackTraces = false) (hT : c.exceptionTable.toList = tableOf [(0, 12, 15, 13)]) {r' : Int32} {M' : Mem} {M : Mem} {x1 : Int32} {x2 : Int32} {x3 : Int32} (h : f_L_delete_0 M x1 x2 x3 = some (r', M')) {H : Heap} {locs : List Loc} {ls : Array Slot} (hS : va_S (A0 b) s.heap H locs) (hW : Wd Z b M H) (hl : lv_has ls 6 [(0, .ref (b + 0)), (1, .int x1), (2, .int x2), (3, .int x3), (4, .ref (b + 172))]) : W p l e rm_L_delete s m args below meth c H locs 0 0 (vx_MQ below (Qx Z b (.inr (some (.int r'))) M') (XCx Z b (.inr (some (.int r'))) M') args s 4 24 (A0 b)) (F0 m 0 ls []) := by
  unfold f_L_delete_0 at h
  have hx := C.1
  have hb := C.2.1
  refine lv_aload hx hb dL_delete_0 (lv_at hl 4 rfl) ?_
  refine lv_iconst (v := (0 : Int32)) hx hb dL_delete_2 (by decide) ?_
  refine lv_aload_n hx hb dL_delete_3 rfl (lv_at hl 0 rfl) ?_
  refine lv_iload_n hx hb dL_delete_4 rfl (lv_at hl 1 rfl) ?_
  refine lv_iload_n hx hb dL_delete_5 rfl (lv_at hl 2 rfl) ?_
  refine lv_iload_n hx hb dL_delete_6 rfl (lv_at hl 3 rfl) ?_
  rcases bdc_e h with ⟨E7, M7, hc7, h⟩ | ⟨r7, M7, hc7, h⟩
  · by_cases e0 : E7 = "java/lang/IllegalArgumentException"
    · have h := (if_pos e0).symm.trans h
      subst e0
      refine kL_19C C hml hl.1 (c_X4_delete hlf hc7) ⟨Nat.le_of_ble_eq_true rfl, Nat.le_of_ble_eq_true rfl⟩ ⟨Nat.le_of_ble_eq_true rfl, Nat.le_of_ble_eq_true rfl⟩ (Nat.le_of_ble_eq_true rfl) hS hW dL_delete_7 (fun H locs q9 ce hW hS h91 h92 h93 => ?_)
      refine vx_catch (own := RL) (name := "java/lang/IllegalArgumentException") (E := "java/lang/IllegalArgumentException") C.2.2.1 ([] : List ExceptionTableEntry) (⟨0, 12, 15, 13⟩ : ExceptionTableEntry) ([] : List ExceptionTableEntry) (by rw [hT]; rfl) (fun z hz => by cases hz) (by decide) (by decide) (C.2.2.2.1 _ q201) (va_Nw.use rfl (C.2.2.2.2.2.1 _ (List.mem_append_right _ (List.mem_append_right _ (List.mem_of_getElem? (i := 0) rfl))))) h91 h92 h93 ?_
      refine W.eq (g2 := F0 m 15 ls [.ref q9]) rfl ?_
      refine lv_astore (lv' := [(5, .ref q9), (0, .ref (b + 0)), (1, .int x1), (2, .int x2), (3, .int x3), (4, .ref (b + 172))]) hx hb dL_delete_15 hl (by decide) rfl (fun ls hl => ?_)
      refine lv_iconst (v := (1 : Int32)) hx hb dL_delete_17 (by decide) ?_
      cases h
      exact ret_xi C hr hlk hS hW dL_delete_18 (Nat.le_of_ble_eq_true rfl) (Nat.le_of_ble_eq_true rfl)
    · have h := (if_neg e0).symm.trans h
      cases h
  refine kL_19R C hml hl.1 (c_X4_delete hlf hc7) ⟨Nat.le_of_ble_eq_true rfl, Nat.le_of_ble_eq_true rfl⟩ ⟨Nat.le_of_ble_eq_true rfl, Nat.le_of_ble_eq_true rfl⟩ (Nat.le_of_ble_eq_true rfl) hS hW dL_delete_7 (fun H locs hW hS => ?_)
  refine lv_i2l (v := r7.toInt64) hx hb dL_delete_10 rfl ?_
  obtain ⟨g11, h⟩ := gd h
  refine ast_172 C hS hW g11 dL_delete_11 (fun H locs hW hS => ?_)
  refine lv_goto (tgt := 19) hx hb dL_delete_12 (by decide) ?_
  refine lv_iconst (v := (0 : Int32)) hx hb dL_delete_19 (by decide) ?_
  cases h
  exact ret_xi C hr hlk hS hW dL_delete_20 (Nat.le_of_ble_eq_true rfl) (Nat.le_of_ble_eq_true rfl)
def f_L_delete (M : Mem) (x1 : Int32) (x2 : Int32) (x3 : Int32) : Option (Int32 × Mem) := f_L_delete_0 M x1 x2 x3
set_option maxHeartbeats 4000000 in
set_option maxRecDepth 100000 in
theorem c_L_delete {l : Launch} {Z : Zt} {b : Nat} (hlf : l.stackTraces = false) {x1 : Int32} {x2 : Int32} {x3 : Int32} {M : Mem} {r' : Int32} {M' : Mem} (h : f_L_delete M x1 x2 x3 = some (r', M')) : vx_Met l yL_delete (Cond.codeWith yL_delete cL_delete 6 (some .int) [(0, 12, 15, 13)] :: wsA) rm_L_delete (va_Pc [.ref (b + 0), .int x1, .int x2, .int x3, .ref (b + 172)] (Pre Z b M)) (Qx Z b (.inr (some (.int r'))) M') (XCx Z b (.inr (some (.int r'))) M') 4 24 (A0 b) := by
  refine vx_ofWH (cc := cL_delete) (maxL := 6) (ret := (some .int)) (hh := [(0, 12, 15, 13)]) (by decide) rfl ?_
  intro p e s m args below meth c s₁ B hml hv
  obtain ⟨rfl, hE, hW⟩ := hv
  have hT : c.exceptionTable.toList = tableOf [(0, 12, 15, 13)] := vx_table (x := yL_delete) B (atoms_spec (ws := Cond.codeWith yL_delete cL_delete 6 (some .int) [(0, 12, 15, 13)] :: wsA) B.pre _ List.mem_cons_self)
  have C : Cx p s m [.ref (b + 0), .int x1, .int x2, .int x3, .ref (b + 172)].toArray c cL_delete RL Z b := ⟨B.exec, B.bytes, findClass_of_methodNamed B.named, fun w hw => atoms_spec (ws := Cond.codeWith yL_delete cL_delete 6 (some .int) [(0, 12, 15, 13)] :: wsA) B.pre w (List.mem_cons_of_mem _ hw), hE⟩
  have hl := lv_entry [.ref (b + 0), .int x1, .int x2, .int x3, .ref (b + 172)] (n := 6) (Nat.le_of_ble_eq_true rfl)
  rw [lg_entry_eq]
  generalize (lg_sl [.ref (b + 0), .int x1, .int x2, .int x3, .ref (b + 172)] ++ List.replicate (6 - (lg_sl [.ref (b + 0), .int x1, .int x2, .int x3, .ref (b + 172)]).length) Slot.unset).toArray = ls at hl ⊢
  have hl : lv_has ls 6 [(0, .ref (b + 0)), (1, .int x1), (2, .int x2), (3, .int x3), (4, .ref (b + 172))] := hl
  exact w_L_delete_0 C hml B.returns B.notSynchronized hlf hT h va_S.rf hW hl
def f_L_failureAt_0 (M : Mem) (x1 : Int32) : Option (Int32 × Mem) :=
  bdc (f_X4_failureAt M x1) (fun E4 M4 => if E4 = "java/lang/IndexOutOfBoundsException" then some ((1 : Int32), M4) else none) (fun r4 M4 => if (0 : Int32) < 0 ∨ 1 ≤ (0 : Int32).toNatClampNeg then none else some ((0 : Int32), mu M4 40 (0 : Int32).toNatClampNeg r4))
set_option maxHeartbeats 4000000 in
set_option maxRecDepth 100000 in
theorem w_L_failureAt_0 {p : Program} {l : Launch} {e : Env} {s : State} {m : MethodId} {args : Array Value} {below : List Frame} {meth : Method} {c : Code} {Z : Zt} {b : Nat} (C : Cx p s m args c cL_failureAt RL Z b) (hml : c.maxLocals = 4) (hr : meth.sig.returnType = (some .int)) (hlk : meth.locks = false) (hlf : l.stackTraces = false) (hT : c.exceptionTable.toList = tableOf [(0, 9, 12, 26)]) {r' : Int32} {M' : Mem} {M : Mem} {x1 : Int32} (h : f_L_failureAt_0 M x1 = some (r', M')) {H : Heap} {locs : List Loc} {ls : Array Slot} (hS : va_S (A0 b) s.heap H locs) (hW : Wd Z b M H) (hl : lv_has ls 4 [(0, .ref (b + 0)), (1, .int x1), (2, .ref (b + 172))]) : W p l e rm_L_failureAt s m args below meth c H locs 0 0 (vx_MQ below (Qx Z b (.inr (some (.int r'))) M') (XCx Z b (.inr (some (.int r'))) M') args s 1 6 (A0 b)) (F0 m 0 ls []) := by
  unfold f_L_failureAt_0 at h
  have hx := C.1
  have hb := C.2.1
  refine lv_aload_n hx hb dL_failureAt_0 rfl (lv_at hl 2 rfl) ?_
  refine lv_iconst (v := (0 : Int32)) hx hb dL_failureAt_1 (by decide) ?_
  refine lv_aload_n hx hb dL_failureAt_2 rfl (lv_at hl 0 rfl) ?_
  refine lv_iload_n hx hb dL_failureAt_3 rfl (lv_at hl 1 rfl) ?_
  rcases bdc_e h with ⟨E4, M4, hc4, h⟩ | ⟨r4, M4, hc4, h⟩
  · by_cases e0 : E4 = "java/lang/IndexOutOfBoundsException"
    · have h := (if_pos e0).symm.trans h
      subst e0
      refine kL_22C C hml hl.1 (c_X4_failureAt hlf hc4) ⟨Nat.le_of_ble_eq_true rfl, Nat.le_of_ble_eq_true rfl⟩ ⟨Nat.le_of_ble_eq_true rfl, Nat.le_of_ble_eq_true rfl⟩ (Nat.le_of_ble_eq_true rfl) hS hW dL_failureAt_4 (fun H locs q9 ce hW hS h91 h92 h93 => ?_)
      refine vx_catch (own := RL) (name := "java/lang/IndexOutOfBoundsException") (E := "java/lang/IndexOutOfBoundsException") C.2.2.1 ([] : List ExceptionTableEntry) (⟨0, 9, 12, 26⟩ : ExceptionTableEntry) ([] : List ExceptionTableEntry) (by rw [hT]; rfl) (fun z hz => by cases hz) (by decide) (by decide) (C.2.2.2.1 _ q419) (va_Nw.use rfl (C.2.2.2.2.2.1 _ (List.mem_append_right _ (List.mem_append_right _ (List.mem_of_getElem? (i := 1) rfl))))) h91 h92 h93 ?_
      refine W.eq (g2 := F0 m 12 ls [.ref q9]) rfl ?_
      refine lv_astore_n (lv' := [(3, .ref q9), (0, .ref (b + 0)), (1, .int x1), (2, .ref (b + 172))]) hx hb dL_failureAt_12 rfl hl (by decide) rfl (fun ls hl => ?_)
      refine lv_iconst (v := (1 : Int32)) hx hb dL_failureAt_13 (by decide) ?_
      cases h
      exact ret_xi C hr hlk hS hW dL_failureAt_14 (Nat.le_of_ble_eq_true rfl) (Nat.le_of_ble_eq_true rfl)
    · have h := (if_neg e0).symm.trans h
      cases h
  refine kL_22R C hml hl.1 (c_X4_failureAt hlf hc4) ⟨Nat.le_of_ble_eq_true rfl, Nat.le_of_ble_eq_true rfl⟩ ⟨Nat.le_of_ble_eq_true rfl, Nat.le_of_ble_eq_true rfl⟩ (Nat.le_of_ble_eq_true rfl) hS hW dL_failureAt_4 (fun H locs hW hS => ?_)
  refine lv_i2l (v := r4.toInt64) hx hb dL_failureAt_7 rfl ?_
  obtain ⟨g8, h⟩ := gd h
  refine ast_172 C hS hW g8 dL_failureAt_8 (fun H locs hW hS => ?_)
  refine lv_goto (tgt := 15) hx hb dL_failureAt_9 (by decide) ?_
  refine lv_iconst (v := (0 : Int32)) hx hb dL_failureAt_15 (by decide) ?_
  cases h
  exact ret_xi C hr hlk hS hW dL_failureAt_16 (Nat.le_of_ble_eq_true rfl) (Nat.le_of_ble_eq_true rfl)
def f_L_failureAt (M : Mem) (x1 : Int32) : Option (Int32 × Mem) := f_L_failureAt_0 M x1
set_option maxHeartbeats 4000000 in
set_option maxRecDepth 100000 in
theorem c_L_failureAt {l : Launch} {Z : Zt} {b : Nat} (hlf : l.stackTraces = false) {x1 : Int32} {M : Mem} {r' : Int32} {M' : Mem} (h : f_L_failureAt M x1 = some (r', M')) : vx_Met l yL_failureAt (Cond.codeWith yL_failureAt cL_failureAt 4 (some .int) [(0, 9, 12, 26)] :: wsA) rm_L_failureAt (va_Pc [.ref (b + 0), .int x1, .ref (b + 172)] (Pre Z b M)) (Qx Z b (.inr (some (.int r'))) M') (XCx Z b (.inr (some (.int r'))) M') 1 6 (A0 b) := by
  refine vx_ofWH (cc := cL_failureAt) (maxL := 4) (ret := (some .int)) (hh := [(0, 9, 12, 26)]) (by decide) rfl ?_
  intro p e s m args below meth c s₁ B hml hv
  obtain ⟨rfl, hE, hW⟩ := hv
  have hT : c.exceptionTable.toList = tableOf [(0, 9, 12, 26)] := vx_table (x := yL_failureAt) B (atoms_spec (ws := Cond.codeWith yL_failureAt cL_failureAt 4 (some .int) [(0, 9, 12, 26)] :: wsA) B.pre _ List.mem_cons_self)
  have C : Cx p s m [.ref (b + 0), .int x1, .ref (b + 172)].toArray c cL_failureAt RL Z b := ⟨B.exec, B.bytes, findClass_of_methodNamed B.named, fun w hw => atoms_spec (ws := Cond.codeWith yL_failureAt cL_failureAt 4 (some .int) [(0, 9, 12, 26)] :: wsA) B.pre w (List.mem_cons_of_mem _ hw), hE⟩
  have hl := lv_entry [.ref (b + 0), .int x1, .ref (b + 172)] (n := 4) (Nat.le_of_ble_eq_true rfl)
  rw [lg_entry_eq]
  generalize (lg_sl [.ref (b + 0), .int x1, .ref (b + 172)] ++ List.replicate (4 - (lg_sl [.ref (b + 0), .int x1, .ref (b + 172)]).length) Slot.unset).toArray = ls at hl ⊢
  have hl : lv_has ls 4 [(0, .ref (b + 0)), (1, .int x1), (2, .ref (b + 172))] := hl
  exact w_L_failureAt_0 C hml B.returns B.notSynchronized hlf hT h va_S.rf hW hl
def f_L_copy_0 (M : Mem) (x1 : Int32) (x2 : Int32) (x3 : Int32) (x4 : Int32) (x5 : Int32) : Option (Int32 × Mem) :=
  bdc (f_X4_copy M x1 x2 x3 x4 x5) (fun E11 M11 => if E11 = "java/lang/IllegalArgumentException" then some ((1 : Int32), M11) else none) (fun r11 M11 => if (0 : Int32) < 0 ∨ 1 ≤ (0 : Int32).toNatClampNeg then none else some ((0 : Int32), mu M11 40 (0 : Int32).toNatClampNeg r11))
set_option maxHeartbeats 4000000 in
set_option maxRecDepth 100000 in
theorem w_L_copy_0 {p : Program} {l : Launch} {e : Env} {s : State} {m : MethodId} {args : Array Value} {below : List Frame} {meth : Method} {c : Code} {Z : Zt} {b : Nat} (C : Cx p s m args c cL_copy RL Z b) (hml : c.maxLocals = 8) (hr : meth.sig.returnType = (some .int)) (hlk : meth.locks = false) (hlf : l.stackTraces = false) (hT : c.exceptionTable.toList = tableOf [(0, 16, 19, 13)]) {r' : Int32} {M' : Mem} {M : Mem} {x1 : Int32} {x2 : Int32} {x3 : Int32} {x4 : Int32} {x5 : Int32} (h : f_L_copy_0 M x1 x2 x3 x4 x5 = some (r', M')) {H : Heap} {locs : List Loc} {ls : Array Slot} (hS : va_S (A0 b) s.heap H locs) (hW : Wd Z b M H) (hl : lv_has ls 8 [(0, .ref (b + 0)), (1, .int x1), (2, .int x2), (3, .int x3), (4, .int x4), (5, .int x5), (6, .ref (b + 172))]) : W p l e rm_L_copy s m args below meth c H locs 0 0 (vx_MQ below (Qx Z b (.inr (some (.int r'))) M') (XCx Z b (.inr (some (.int r'))) M') args s 7 42 (A0 b)) (F0 m 0 ls []) := by
  unfold f_L_copy_0 at h
  have hx := C.1
  have hb := C.2.1
  refine lv_aload hx hb dL_copy_0 (lv_at hl 6 rfl) ?_
  refine lv_iconst (v := (0 : Int32)) hx hb dL_copy_2 (by decide) ?_
  refine lv_aload_n hx hb dL_copy_3 rfl (lv_at hl 0 rfl) ?_
  refine lv_iload_n hx hb dL_copy_4 rfl (lv_at hl 1 rfl) ?_
  refine lv_iload_n hx hb dL_copy_5 rfl (lv_at hl 2 rfl) ?_
  refine lv_iload_n hx hb dL_copy_6 rfl (lv_at hl 3 rfl) ?_
  refine lv_iload hx hb dL_copy_7 (lv_at hl 4 rfl) ?_
  refine lv_iload hx hb dL_copy_9 (lv_at hl 5 rfl) ?_
  rcases bdc_e h with ⟨E11, M11, hc11, h⟩ | ⟨r11, M11, hc11, h⟩
  · by_cases e0 : E11 = "java/lang/IllegalArgumentException"
    · have h := (if_pos e0).symm.trans h
      subst e0
      refine kL_28C C hml hl.1 (c_X4_copy hlf hc11) ⟨Nat.le_of_ble_eq_true rfl, Nat.le_of_ble_eq_true rfl⟩ ⟨Nat.le_of_ble_eq_true rfl, Nat.le_of_ble_eq_true rfl⟩ (Nat.le_of_ble_eq_true rfl) hS hW dL_copy_11 (fun H locs q9 ce hW hS h91 h92 h93 => ?_)
      refine vx_catch (own := RL) (name := "java/lang/IllegalArgumentException") (E := "java/lang/IllegalArgumentException") C.2.2.1 ([] : List ExceptionTableEntry) (⟨0, 16, 19, 13⟩ : ExceptionTableEntry) ([] : List ExceptionTableEntry) (by rw [hT]; rfl) (fun z hz => by cases hz) (by decide) (by decide) (C.2.2.2.1 _ q201) (va_Nw.use rfl (C.2.2.2.2.2.1 _ (List.mem_append_right _ (List.mem_append_right _ (List.mem_of_getElem? (i := 0) rfl))))) h91 h92 h93 ?_
      refine W.eq (g2 := F0 m 19 ls [.ref q9]) rfl ?_
      refine lv_astore (lv' := [(7, .ref q9), (0, .ref (b + 0)), (1, .int x1), (2, .int x2), (3, .int x3), (4, .int x4), (5, .int x5), (6, .ref (b + 172))]) hx hb dL_copy_19 hl (by decide) rfl (fun ls hl => ?_)
      refine lv_iconst (v := (1 : Int32)) hx hb dL_copy_21 (by decide) ?_
      cases h
      exact ret_xi C hr hlk hS hW dL_copy_22 (Nat.le_of_ble_eq_true rfl) (Nat.le_of_ble_eq_true rfl)
    · have h := (if_neg e0).symm.trans h
      cases h
  refine kL_28R C hml hl.1 (c_X4_copy hlf hc11) ⟨Nat.le_of_ble_eq_true rfl, Nat.le_of_ble_eq_true rfl⟩ ⟨Nat.le_of_ble_eq_true rfl, Nat.le_of_ble_eq_true rfl⟩ (Nat.le_of_ble_eq_true rfl) hS hW dL_copy_11 (fun H locs hW hS => ?_)
  refine lv_i2l (v := r11.toInt64) hx hb dL_copy_14 rfl ?_
  obtain ⟨g15, h⟩ := gd h
  refine ast_172 C hS hW g15 dL_copy_15 (fun H locs hW hS => ?_)
  refine lv_goto (tgt := 23) hx hb dL_copy_16 (by decide) ?_
  refine lv_iconst (v := (0 : Int32)) hx hb dL_copy_23 (by decide) ?_
  cases h
  exact ret_xi C hr hlk hS hW dL_copy_24 (Nat.le_of_ble_eq_true rfl) (Nat.le_of_ble_eq_true rfl)
def f_L_copy (M : Mem) (x1 : Int32) (x2 : Int32) (x3 : Int32) (x4 : Int32) (x5 : Int32) : Option (Int32 × Mem) := f_L_copy_0 M x1 x2 x3 x4 x5
set_option maxHeartbeats 4000000 in
set_option maxRecDepth 100000 in
theorem c_L_copy {l : Launch} {Z : Zt} {b : Nat} (hlf : l.stackTraces = false) {x1 : Int32} {x2 : Int32} {x3 : Int32} {x4 : Int32} {x5 : Int32} {M : Mem} {r' : Int32} {M' : Mem} (h : f_L_copy M x1 x2 x3 x4 x5 = some (r', M')) : vx_Met l yL_copy (Cond.codeWith yL_copy cL_copy 8 (some .int) [(0, 16, 19, 13)] :: wsA) rm_L_copy (va_Pc [.ref (b + 0), .int x1, .int x2, .int x3, .int x4, .int x5, .ref (b + 172)] (Pre Z b M)) (Qx Z b (.inr (some (.int r'))) M') (XCx Z b (.inr (some (.int r'))) M') 7 42 (A0 b) := by
  refine vx_ofWH (cc := cL_copy) (maxL := 8) (ret := (some .int)) (hh := [(0, 16, 19, 13)]) (by decide) rfl ?_
  intro p e s m args below meth c s₁ B hml hv
  obtain ⟨rfl, hE, hW⟩ := hv
  have hT : c.exceptionTable.toList = tableOf [(0, 16, 19, 13)] := vx_table (x := yL_copy) B (atoms_spec (ws := Cond.codeWith yL_copy cL_copy 8 (some .int) [(0, 16, 19, 13)] :: wsA) B.pre _ List.mem_cons_self)
  have C : Cx p s m [.ref (b + 0), .int x1, .int x2, .int x3, .int x4, .int x5, .ref (b + 172)].toArray c cL_copy RL Z b := ⟨B.exec, B.bytes, findClass_of_methodNamed B.named, fun w hw => atoms_spec (ws := Cond.codeWith yL_copy cL_copy 8 (some .int) [(0, 16, 19, 13)] :: wsA) B.pre w (List.mem_cons_of_mem _ hw), hE⟩
  have hl := lv_entry [.ref (b + 0), .int x1, .int x2, .int x3, .int x4, .int x5, .ref (b + 172)] (n := 8) (Nat.le_of_ble_eq_true rfl)
  rw [lg_entry_eq]
  generalize (lg_sl [.ref (b + 0), .int x1, .int x2, .int x3, .int x4, .int x5, .ref (b + 172)] ++ List.replicate (8 - (lg_sl [.ref (b + 0), .int x1, .int x2, .int x3, .int x4, .int x5, .ref (b + 172)]).length) Slot.unset).toArray = ls at hl ⊢
  have hl : lv_has ls 8 [(0, .ref (b + 0)), (1, .int x1), (2, .int x2), (3, .int x3), (4, .int x4), (5, .int x5), (6, .ref (b + 172))] := hl
  exact w_L_copy_0 C hml B.returns B.notSynchronized hlf hT h va_S.rf hW hl
def f_L_move_0 (M : Mem) (x1 : Int32) (x2 : Int32) (x3 : Int32) (x4 : Int32) (x5 : Int32) : Option (Int32 × Mem) :=
  bdc (f_X4_move M x1 x2 x3 x4 x5) (fun E11 M11 => if E11 = "java/lang/IllegalArgumentException" then some ((1 : Int32), M11) else none) (fun r11 M11 => if (0 : Int32) < 0 ∨ 1 ≤ (0 : Int32).toNatClampNeg then none else some ((0 : Int32), mu M11 40 (0 : Int32).toNatClampNeg r11))
set_option maxHeartbeats 4000000 in
set_option maxRecDepth 100000 in
theorem w_L_move_0 {p : Program} {l : Launch} {e : Env} {s : State} {m : MethodId} {args : Array Value} {below : List Frame} {meth : Method} {c : Code} {Z : Zt} {b : Nat} (C : Cx p s m args c cL_move RL Z b) (hml : c.maxLocals = 8) (hr : meth.sig.returnType = (some .int)) (hlk : meth.locks = false) (hlf : l.stackTraces = false) (hT : c.exceptionTable.toList = tableOf [(0, 16, 19, 13)]) {r' : Int32} {M' : Mem} {M : Mem} {x1 : Int32} {x2 : Int32} {x3 : Int32} {x4 : Int32} {x5 : Int32} (h : f_L_move_0 M x1 x2 x3 x4 x5 = some (r', M')) {H : Heap} {locs : List Loc} {ls : Array Slot} (hS : va_S (A0 b) s.heap H locs) (hW : Wd Z b M H) (hl : lv_has ls 8 [(0, .ref (b + 0)), (1, .int x1), (2, .int x2), (3, .int x3), (4, .int x4), (5, .int x5), (6, .ref (b + 172))]) : W p l e rm_L_move s m args below meth c H locs 0 0 (vx_MQ below (Qx Z b (.inr (some (.int r'))) M') (XCx Z b (.inr (some (.int r'))) M') args s 7 42 (A0 b)) (F0 m 0 ls []) := by
  unfold f_L_move_0 at h
  have hx := C.1
  have hb := C.2.1
  refine lv_aload hx hb dL_move_0 (lv_at hl 6 rfl) ?_
  refine lv_iconst (v := (0 : Int32)) hx hb dL_move_2 (by decide) ?_
  refine lv_aload_n hx hb dL_move_3 rfl (lv_at hl 0 rfl) ?_
  refine lv_iload_n hx hb dL_move_4 rfl (lv_at hl 1 rfl) ?_
  refine lv_iload_n hx hb dL_move_5 rfl (lv_at hl 2 rfl) ?_
  refine lv_iload_n hx hb dL_move_6 rfl (lv_at hl 3 rfl) ?_
  refine lv_iload hx hb dL_move_7 (lv_at hl 4 rfl) ?_
  refine lv_iload hx hb dL_move_9 (lv_at hl 5 rfl) ?_
  rcases bdc_e h with ⟨E11, M11, hc11, h⟩ | ⟨r11, M11, hc11, h⟩
  · by_cases e0 : E11 = "java/lang/IllegalArgumentException"
    · have h := (if_pos e0).symm.trans h
      subst e0
      refine kL_32C C hml hl.1 (c_X4_move hlf hc11) ⟨Nat.le_of_ble_eq_true rfl, Nat.le_of_ble_eq_true rfl⟩ ⟨Nat.le_of_ble_eq_true rfl, Nat.le_of_ble_eq_true rfl⟩ (Nat.le_of_ble_eq_true rfl) hS hW dL_move_11 (fun H locs q9 ce hW hS h91 h92 h93 => ?_)
      refine vx_catch (own := RL) (name := "java/lang/IllegalArgumentException") (E := "java/lang/IllegalArgumentException") C.2.2.1 ([] : List ExceptionTableEntry) (⟨0, 16, 19, 13⟩ : ExceptionTableEntry) ([] : List ExceptionTableEntry) (by rw [hT]; rfl) (fun z hz => by cases hz) (by decide) (by decide) (C.2.2.2.1 _ q201) (va_Nw.use rfl (C.2.2.2.2.2.1 _ (List.mem_append_right _ (List.mem_append_right _ (List.mem_of_getElem? (i := 0) rfl))))) h91 h92 h93 ?_
      refine W.eq (g2 := F0 m 19 ls [.ref q9]) rfl ?_
      refine lv_astore (lv' := [(7, .ref q9), (0, .ref (b + 0)), (1, .int x1), (2, .int x2), (3, .int x3), (4, .int x4), (5, .int x5), (6, .ref (b + 172))]) hx hb dL_move_19 hl (by decide) rfl (fun ls hl => ?_)
      refine lv_iconst (v := (1 : Int32)) hx hb dL_move_21 (by decide) ?_
      cases h
      exact ret_xi C hr hlk hS hW dL_move_22 (Nat.le_of_ble_eq_true rfl) (Nat.le_of_ble_eq_true rfl)
    · have h := (if_neg e0).symm.trans h
      cases h
  refine kL_32R C hml hl.1 (c_X4_move hlf hc11) ⟨Nat.le_of_ble_eq_true rfl, Nat.le_of_ble_eq_true rfl⟩ ⟨Nat.le_of_ble_eq_true rfl, Nat.le_of_ble_eq_true rfl⟩ (Nat.le_of_ble_eq_true rfl) hS hW dL_move_11 (fun H locs hW hS => ?_)
  refine lv_i2l (v := r11.toInt64) hx hb dL_move_14 rfl ?_
  obtain ⟨g15, h⟩ := gd h
  refine ast_172 C hS hW g15 dL_move_15 (fun H locs hW hS => ?_)
  refine lv_goto (tgt := 23) hx hb dL_move_16 (by decide) ?_
  refine lv_iconst (v := (0 : Int32)) hx hb dL_move_23 (by decide) ?_
  cases h
  exact ret_xi C hr hlk hS hW dL_move_24 (Nat.le_of_ble_eq_true rfl) (Nat.le_of_ble_eq_true rfl)
def f_L_move (M : Mem) (x1 : Int32) (x2 : Int32) (x3 : Int32) (x4 : Int32) (x5 : Int32) : Option (Int32 × Mem) := f_L_move_0 M x1 x2 x3 x4 x5
set_option maxHeartbeats 4000000 in
set_option maxRecDepth 100000 in
theorem c_L_move {l : Launch} {Z : Zt} {b : Nat} (hlf : l.stackTraces = false) {x1 : Int32} {x2 : Int32} {x3 : Int32} {x4 : Int32} {x5 : Int32} {M : Mem} {r' : Int32} {M' : Mem} (h : f_L_move M x1 x2 x3 x4 x5 = some (r', M')) : vx_Met l yL_move (Cond.codeWith yL_move cL_move 8 (some .int) [(0, 16, 19, 13)] :: wsA) rm_L_move (va_Pc [.ref (b + 0), .int x1, .int x2, .int x3, .int x4, .int x5, .ref (b + 172)] (Pre Z b M)) (Qx Z b (.inr (some (.int r'))) M') (XCx Z b (.inr (some (.int r'))) M') 7 42 (A0 b) := by
  refine vx_ofWH (cc := cL_move) (maxL := 8) (ret := (some .int)) (hh := [(0, 16, 19, 13)]) (by decide) rfl ?_
  intro p e s m args below meth c s₁ B hml hv
  obtain ⟨rfl, hE, hW⟩ := hv
  have hT : c.exceptionTable.toList = tableOf [(0, 16, 19, 13)] := vx_table (x := yL_move) B (atoms_spec (ws := Cond.codeWith yL_move cL_move 8 (some .int) [(0, 16, 19, 13)] :: wsA) B.pre _ List.mem_cons_self)
  have C : Cx p s m [.ref (b + 0), .int x1, .int x2, .int x3, .int x4, .int x5, .ref (b + 172)].toArray c cL_move RL Z b := ⟨B.exec, B.bytes, findClass_of_methodNamed B.named, fun w hw => atoms_spec (ws := Cond.codeWith yL_move cL_move 8 (some .int) [(0, 16, 19, 13)] :: wsA) B.pre w (List.mem_cons_of_mem _ hw), hE⟩
  have hl := lv_entry [.ref (b + 0), .int x1, .int x2, .int x3, .int x4, .int x5, .ref (b + 172)] (n := 8) (Nat.le_of_ble_eq_true rfl)
  rw [lg_entry_eq]
  generalize (lg_sl [.ref (b + 0), .int x1, .int x2, .int x3, .int x4, .int x5, .ref (b + 172)] ++ List.replicate (8 - (lg_sl [.ref (b + 0), .int x1, .int x2, .int x3, .int x4, .int x5, .ref (b + 172)]).length) Slot.unset).toArray = ls at hl ⊢
  have hl : lv_has ls 8 [(0, .ref (b + 0)), (1, .int x1), (2, .int x2), (3, .int x3), (4, .int x4), (5, .int x5), (6, .ref (b + 172))] := hl
  exact w_L_move_0 C hml B.returns B.notSynchronized hlf hT h va_S.rf hW hl
def f_L_kindOf_0 (M : Mem) (x1 : Int32) : Option (Int32 × Mem) :=
  bdc (f_X4_kindOf M x1) (fun E4 M4 => if E4 = "java/lang/IllegalArgumentException" then some ((1 : Int32), M4) else none) (fun r4 M4 => if (0 : Int32) < 0 ∨ 1 ≤ (0 : Int32).toNatClampNeg then none else some ((0 : Int32), mu M4 40 (0 : Int32).toNatClampNeg r4))
set_option maxHeartbeats 4000000 in
set_option maxRecDepth 100000 in
theorem w_L_kindOf_0 {p : Program} {l : Launch} {e : Env} {s : State} {m : MethodId} {args : Array Value} {below : List Frame} {meth : Method} {c : Code} {Z : Zt} {b : Nat} (C : Cx p s m args c cL_kindOf RL Z b) (hml : c.maxLocals = 4) (hr : meth.sig.returnType = (some .int)) (hlk : meth.locks = false) (hlf : l.stackTraces = false) (hT : c.exceptionTable.toList = tableOf [(0, 9, 12, 13)]) {r' : Int32} {M' : Mem} {M : Mem} {x1 : Int32} (h : f_L_kindOf_0 M x1 = some (r', M')) {H : Heap} {locs : List Loc} {ls : Array Slot} (hS : va_S (A0 b) s.heap H locs) (hW : Wd Z b M H) (hl : lv_has ls 4 [(0, .ref (b + 0)), (1, .int x1), (2, .ref (b + 172))]) : W p l e rm_L_kindOf s m args below meth c H locs 0 0 (vx_MQ below (Qx Z b (.inr (some (.int r'))) M') (XCx Z b (.inr (some (.int r'))) M') args s 1 6 (A0 b)) (F0 m 0 ls []) := by
  unfold f_L_kindOf_0 at h
  have hx := C.1
  have hb := C.2.1
  refine lv_aload_n hx hb dL_kindOf_0 rfl (lv_at hl 2 rfl) ?_
  refine lv_iconst (v := (0 : Int32)) hx hb dL_kindOf_1 (by decide) ?_
  refine lv_aload_n hx hb dL_kindOf_2 rfl (lv_at hl 0 rfl) ?_
  refine lv_iload_n hx hb dL_kindOf_3 rfl (lv_at hl 1 rfl) ?_
  rcases bdc_e h with ⟨E4, M4, hc4, h⟩ | ⟨r4, M4, hc4, h⟩
  · by_cases e0 : E4 = "java/lang/IllegalArgumentException"
    · have h := (if_pos e0).symm.trans h
      subst e0
      refine kL_35C C hml hl.1 (c_X4_kindOf hlf hc4) ⟨Nat.le_of_ble_eq_true rfl, Nat.le_of_ble_eq_true rfl⟩ ⟨Nat.le_of_ble_eq_true rfl, Nat.le_of_ble_eq_true rfl⟩ (Nat.le_of_ble_eq_true rfl) hS hW dL_kindOf_4 (fun H locs q9 ce hW hS h91 h92 h93 => ?_)
      refine vx_catch (own := RL) (name := "java/lang/IllegalArgumentException") (E := "java/lang/IllegalArgumentException") C.2.2.1 ([] : List ExceptionTableEntry) (⟨0, 9, 12, 13⟩ : ExceptionTableEntry) ([] : List ExceptionTableEntry) (by rw [hT]; rfl) (fun z hz => by cases hz) (by decide) (by decide) (C.2.2.2.1 _ q201) (va_Nw.use rfl (C.2.2.2.2.2.1 _ (List.mem_append_right _ (List.mem_append_right _ (List.mem_of_getElem? (i := 0) rfl))))) h91 h92 h93 ?_
      refine W.eq (g2 := F0 m 12 ls [.ref q9]) rfl ?_
      refine lv_astore_n (lv' := [(3, .ref q9), (0, .ref (b + 0)), (1, .int x1), (2, .ref (b + 172))]) hx hb dL_kindOf_12 rfl hl (by decide) rfl (fun ls hl => ?_)
      refine lv_iconst (v := (1 : Int32)) hx hb dL_kindOf_13 (by decide) ?_
      cases h
      exact ret_xi C hr hlk hS hW dL_kindOf_14 (Nat.le_of_ble_eq_true rfl) (Nat.le_of_ble_eq_true rfl)
    · have h := (if_neg e0).symm.trans h
      cases h
  refine kL_35R C hml hl.1 (c_X4_kindOf hlf hc4) ⟨Nat.le_of_ble_eq_true rfl, Nat.le_of_ble_eq_true rfl⟩ ⟨Nat.le_of_ble_eq_true rfl, Nat.le_of_ble_eq_true rfl⟩ (Nat.le_of_ble_eq_true rfl) hS hW dL_kindOf_4 (fun H locs hW hS => ?_)
  refine lv_i2l (v := r4.toInt64) hx hb dL_kindOf_7 rfl ?_
  obtain ⟨g8, h⟩ := gd h
  refine ast_172 C hS hW g8 dL_kindOf_8 (fun H locs hW hS => ?_)
  refine lv_goto (tgt := 15) hx hb dL_kindOf_9 (by decide) ?_
  refine lv_iconst (v := (0 : Int32)) hx hb dL_kindOf_15 (by decide) ?_
  cases h
  exact ret_xi C hr hlk hS hW dL_kindOf_16 (Nat.le_of_ble_eq_true rfl) (Nat.le_of_ble_eq_true rfl)
def f_L_kindOf (M : Mem) (x1 : Int32) : Option (Int32 × Mem) := f_L_kindOf_0 M x1
set_option maxHeartbeats 4000000 in
set_option maxRecDepth 100000 in
theorem c_L_kindOf {l : Launch} {Z : Zt} {b : Nat} (hlf : l.stackTraces = false) {x1 : Int32} {M : Mem} {r' : Int32} {M' : Mem} (h : f_L_kindOf M x1 = some (r', M')) : vx_Met l yL_kindOf (Cond.codeWith yL_kindOf cL_kindOf 4 (some .int) [(0, 9, 12, 13)] :: wsA) rm_L_kindOf (va_Pc [.ref (b + 0), .int x1, .ref (b + 172)] (Pre Z b M)) (Qx Z b (.inr (some (.int r'))) M') (XCx Z b (.inr (some (.int r'))) M') 1 6 (A0 b) := by
  refine vx_ofWH (cc := cL_kindOf) (maxL := 4) (ret := (some .int)) (hh := [(0, 9, 12, 13)]) (by decide) rfl ?_
  intro p e s m args below meth c s₁ B hml hv
  obtain ⟨rfl, hE, hW⟩ := hv
  have hT : c.exceptionTable.toList = tableOf [(0, 9, 12, 13)] := vx_table (x := yL_kindOf) B (atoms_spec (ws := Cond.codeWith yL_kindOf cL_kindOf 4 (some .int) [(0, 9, 12, 13)] :: wsA) B.pre _ List.mem_cons_self)
  have C : Cx p s m [.ref (b + 0), .int x1, .ref (b + 172)].toArray c cL_kindOf RL Z b := ⟨B.exec, B.bytes, findClass_of_methodNamed B.named, fun w hw => atoms_spec (ws := Cond.codeWith yL_kindOf cL_kindOf 4 (some .int) [(0, 9, 12, 13)] :: wsA) B.pre w (List.mem_cons_of_mem _ hw), hE⟩
  have hl := lv_entry [.ref (b + 0), .int x1, .ref (b + 172)] (n := 4) (Nat.le_of_ble_eq_true rfl)
  rw [lg_entry_eq]
  generalize (lg_sl [.ref (b + 0), .int x1, .ref (b + 172)] ++ List.replicate (4 - (lg_sl [.ref (b + 0), .int x1, .ref (b + 172)]).length) Slot.unset).toArray = ls at hl ⊢
  have hl : lv_has ls 4 [(0, .ref (b + 0)), (1, .int x1), (2, .ref (b + 172))] := hl
  exact w_L_kindOf_0 C hml B.returns B.notSynchronized hlf hT h va_S.rf hW hl
def f_L_content_0 (M : Mem) (x1 : Int32) : Option (Int32 × Mem) :=
  bdc (f_X4_content M x1) (fun E4 M4 => if E4 = "java/lang/IllegalArgumentException" then some ((1 : Int32), M4) else none) (fun r4 M4 => if (0 : Int32) < 0 ∨ 1 ≤ (0 : Int32).toNatClampNeg then none else some ((0 : Int32), mu M4 40 (0 : Int32).toNatClampNeg r4))
set_option maxHeartbeats 4000000 in
set_option maxRecDepth 100000 in
theorem w_L_content_0 {p : Program} {l : Launch} {e : Env} {s : State} {m : MethodId} {args : Array Value} {below : List Frame} {meth : Method} {c : Code} {Z : Zt} {b : Nat} (C : Cx p s m args c cL_content RL Z b) (hml : c.maxLocals = 4) (hr : meth.sig.returnType = (some .int)) (hlk : meth.locks = false) (hlf : l.stackTraces = false) (hT : c.exceptionTable.toList = tableOf [(0, 9, 12, 13)]) {r' : Int32} {M' : Mem} {M : Mem} {x1 : Int32} (h : f_L_content_0 M x1 = some (r', M')) {H : Heap} {locs : List Loc} {ls : Array Slot} (hS : va_S (A0 b) s.heap H locs) (hW : Wd Z b M H) (hl : lv_has ls 4 [(0, .ref (b + 0)), (1, .int x1), (2, .ref (b + 172))]) : W p l e rm_L_content s m args below meth c H locs 0 0 (vx_MQ below (Qx Z b (.inr (some (.int r'))) M') (XCx Z b (.inr (some (.int r'))) M') args s 1 6 (A0 b)) (F0 m 0 ls []) := by
  unfold f_L_content_0 at h
  have hx := C.1
  have hb := C.2.1
  refine lv_aload_n hx hb dL_content_0 rfl (lv_at hl 2 rfl) ?_
  refine lv_iconst (v := (0 : Int32)) hx hb dL_content_1 (by decide) ?_
  refine lv_aload_n hx hb dL_content_2 rfl (lv_at hl 0 rfl) ?_
  refine lv_iload_n hx hb dL_content_3 rfl (lv_at hl 1 rfl) ?_
  rcases bdc_e h with ⟨E4, M4, hc4, h⟩ | ⟨r4, M4, hc4, h⟩
  · by_cases e0 : E4 = "java/lang/IllegalArgumentException"
    · have h := (if_pos e0).symm.trans h
      subst e0
      refine kL_38C C hml hl.1 (c_X4_content hlf hc4) ⟨Nat.le_of_ble_eq_true rfl, Nat.le_of_ble_eq_true rfl⟩ ⟨Nat.le_of_ble_eq_true rfl, Nat.le_of_ble_eq_true rfl⟩ (Nat.le_of_ble_eq_true rfl) hS hW dL_content_4 (fun H locs q9 ce hW hS h91 h92 h93 => ?_)
      refine vx_catch (own := RL) (name := "java/lang/IllegalArgumentException") (E := "java/lang/IllegalArgumentException") C.2.2.1 ([] : List ExceptionTableEntry) (⟨0, 9, 12, 13⟩ : ExceptionTableEntry) ([] : List ExceptionTableEntry) (by rw [hT]; rfl) (fun z hz => by cases hz) (by decide) (by decide) (C.2.2.2.1 _ q201) (va_Nw.use rfl (C.2.2.2.2.2.1 _ (List.mem_append_right _ (List.mem_append_right _ (List.mem_of_getElem? (i := 0) rfl))))) h91 h92 h93 ?_
      refine W.eq (g2 := F0 m 12 ls [.ref q9]) rfl ?_
      refine lv_astore_n (lv' := [(3, .ref q9), (0, .ref (b + 0)), (1, .int x1), (2, .ref (b + 172))]) hx hb dL_content_12 rfl hl (by decide) rfl (fun ls hl => ?_)
      refine lv_iconst (v := (1 : Int32)) hx hb dL_content_13 (by decide) ?_
      cases h
      exact ret_xi C hr hlk hS hW dL_content_14 (Nat.le_of_ble_eq_true rfl) (Nat.le_of_ble_eq_true rfl)
    · have h := (if_neg e0).symm.trans h
      cases h
  refine kL_38R C hml hl.1 (c_X4_content hlf hc4) ⟨Nat.le_of_ble_eq_true rfl, Nat.le_of_ble_eq_true rfl⟩ ⟨Nat.le_of_ble_eq_true rfl, Nat.le_of_ble_eq_true rfl⟩ (Nat.le_of_ble_eq_true rfl) hS hW dL_content_4 (fun H locs hW hS => ?_)
  refine lv_i2l (v := r4.toInt64) hx hb dL_content_7 rfl ?_
  obtain ⟨g8, h⟩ := gd h
  refine ast_172 C hS hW g8 dL_content_8 (fun H locs hW hS => ?_)
  refine lv_goto (tgt := 15) hx hb dL_content_9 (by decide) ?_
  refine lv_iconst (v := (0 : Int32)) hx hb dL_content_15 (by decide) ?_
  cases h
  exact ret_xi C hr hlk hS hW dL_content_16 (Nat.le_of_ble_eq_true rfl) (Nat.le_of_ble_eq_true rfl)
def f_L_content (M : Mem) (x1 : Int32) : Option (Int32 × Mem) := f_L_content_0 M x1
set_option maxHeartbeats 4000000 in
set_option maxRecDepth 100000 in
theorem c_L_content {l : Launch} {Z : Zt} {b : Nat} (hlf : l.stackTraces = false) {x1 : Int32} {M : Mem} {r' : Int32} {M' : Mem} (h : f_L_content M x1 = some (r', M')) : vx_Met l yL_content (Cond.codeWith yL_content cL_content 4 (some .int) [(0, 9, 12, 13)] :: wsA) rm_L_content (va_Pc [.ref (b + 0), .int x1, .ref (b + 172)] (Pre Z b M)) (Qx Z b (.inr (some (.int r'))) M') (XCx Z b (.inr (some (.int r'))) M') 1 6 (A0 b) := by
  refine vx_ofWH (cc := cL_content) (maxL := 4) (ret := (some .int)) (hh := [(0, 9, 12, 13)]) (by decide) rfl ?_
  intro p e s m args below meth c s₁ B hml hv
  obtain ⟨rfl, hE, hW⟩ := hv
  have hT : c.exceptionTable.toList = tableOf [(0, 9, 12, 13)] := vx_table (x := yL_content) B (atoms_spec (ws := Cond.codeWith yL_content cL_content 4 (some .int) [(0, 9, 12, 13)] :: wsA) B.pre _ List.mem_cons_self)
  have C : Cx p s m [.ref (b + 0), .int x1, .ref (b + 172)].toArray c cL_content RL Z b := ⟨B.exec, B.bytes, findClass_of_methodNamed B.named, fun w hw => atoms_spec (ws := Cond.codeWith yL_content cL_content 4 (some .int) [(0, 9, 12, 13)] :: wsA) B.pre w (List.mem_cons_of_mem _ hw), hE⟩
  have hl := lv_entry [.ref (b + 0), .int x1, .ref (b + 172)] (n := 4) (Nat.le_of_ble_eq_true rfl)
  rw [lg_entry_eq]
  generalize (lg_sl [.ref (b + 0), .int x1, .ref (b + 172)] ++ List.replicate (4 - (lg_sl [.ref (b + 0), .int x1, .ref (b + 172)]).length) Slot.unset).toArray = ls at hl ⊢
  have hl : lv_has ls 4 [(0, .ref (b + 0)), (1, .int x1), (2, .ref (b + 172))] := hl
  exact w_L_content_0 C hml B.returns B.notSynchronized hlf hT h va_S.rf hW hl
def f_L_members_0 (M : Mem) (x1 : Int32) : Option (Int32 × Mem) :=
  bdc (f_X4_members M x1) (fun E4 M4 => if E4 = "java/lang/IllegalArgumentException" then some ((1 : Int32), M4) else none) (fun r4 M4 => if (0 : Int32) < 0 ∨ 1 ≤ (0 : Int32).toNatClampNeg then none else some ((0 : Int32), mu M4 40 (0 : Int32).toNatClampNeg r4))
set_option maxHeartbeats 4000000 in
set_option maxRecDepth 100000 in
theorem w_L_members_0 {p : Program} {l : Launch} {e : Env} {s : State} {m : MethodId} {args : Array Value} {below : List Frame} {meth : Method} {c : Code} {Z : Zt} {b : Nat} (C : Cx p s m args c cL_members RL Z b) (hml : c.maxLocals = 4) (hr : meth.sig.returnType = (some .int)) (hlk : meth.locks = false) (hlf : l.stackTraces = false) (hT : c.exceptionTable.toList = tableOf [(0, 9, 12, 13)]) {r' : Int32} {M' : Mem} {M : Mem} {x1 : Int32} (h : f_L_members_0 M x1 = some (r', M')) {H : Heap} {locs : List Loc} {ls : Array Slot} (hS : va_S (A0 b) s.heap H locs) (hW : Wd Z b M H) (hl : lv_has ls 4 [(0, .ref (b + 0)), (1, .int x1), (2, .ref (b + 172))]) : W p l e rm_L_members s m args below meth c H locs 0 0 (vx_MQ below (Qx Z b (.inr (some (.int r'))) M') (XCx Z b (.inr (some (.int r'))) M') args s 1 6 (A0 b)) (F0 m 0 ls []) := by
  unfold f_L_members_0 at h
  have hx := C.1
  have hb := C.2.1
  refine lv_aload_n hx hb dL_members_0 rfl (lv_at hl 2 rfl) ?_
  refine lv_iconst (v := (0 : Int32)) hx hb dL_members_1 (by decide) ?_
  refine lv_aload_n hx hb dL_members_2 rfl (lv_at hl 0 rfl) ?_
  refine lv_iload_n hx hb dL_members_3 rfl (lv_at hl 1 rfl) ?_
  rcases bdc_e h with ⟨E4, M4, hc4, h⟩ | ⟨r4, M4, hc4, h⟩
  · by_cases e0 : E4 = "java/lang/IllegalArgumentException"
    · have h := (if_pos e0).symm.trans h
      subst e0
      refine kL_41C C hml hl.1 (c_X4_members hlf hc4) ⟨Nat.le_of_ble_eq_true rfl, Nat.le_of_ble_eq_true rfl⟩ ⟨Nat.le_of_ble_eq_true rfl, Nat.le_of_ble_eq_true rfl⟩ (Nat.le_of_ble_eq_true rfl) hS hW dL_members_4 (fun H locs q9 ce hW hS h91 h92 h93 => ?_)
      refine vx_catch (own := RL) (name := "java/lang/IllegalArgumentException") (E := "java/lang/IllegalArgumentException") C.2.2.1 ([] : List ExceptionTableEntry) (⟨0, 9, 12, 13⟩ : ExceptionTableEntry) ([] : List ExceptionTableEntry) (by rw [hT]; rfl) (fun z hz => by cases hz) (by decide) (by decide) (C.2.2.2.1 _ q201) (va_Nw.use rfl (C.2.2.2.2.2.1 _ (List.mem_append_right _ (List.mem_append_right _ (List.mem_of_getElem? (i := 0) rfl))))) h91 h92 h93 ?_
      refine W.eq (g2 := F0 m 12 ls [.ref q9]) rfl ?_
      refine lv_astore_n (lv' := [(3, .ref q9), (0, .ref (b + 0)), (1, .int x1), (2, .ref (b + 172))]) hx hb dL_members_12 rfl hl (by decide) rfl (fun ls hl => ?_)
      refine lv_iconst (v := (1 : Int32)) hx hb dL_members_13 (by decide) ?_
      cases h
      exact ret_xi C hr hlk hS hW dL_members_14 (Nat.le_of_ble_eq_true rfl) (Nat.le_of_ble_eq_true rfl)
    · have h := (if_neg e0).symm.trans h
      cases h
  refine kL_41R C hml hl.1 (c_X4_members hlf hc4) ⟨Nat.le_of_ble_eq_true rfl, Nat.le_of_ble_eq_true rfl⟩ ⟨Nat.le_of_ble_eq_true rfl, Nat.le_of_ble_eq_true rfl⟩ (Nat.le_of_ble_eq_true rfl) hS hW dL_members_4 (fun H locs hW hS => ?_)
  refine lv_i2l (v := r4.toInt64) hx hb dL_members_7 rfl ?_
  obtain ⟨g8, h⟩ := gd h
  refine ast_172 C hS hW g8 dL_members_8 (fun H locs hW hS => ?_)
  refine lv_goto (tgt := 15) hx hb dL_members_9 (by decide) ?_
  refine lv_iconst (v := (0 : Int32)) hx hb dL_members_15 (by decide) ?_
  cases h
  exact ret_xi C hr hlk hS hW dL_members_16 (Nat.le_of_ble_eq_true rfl) (Nat.le_of_ble_eq_true rfl)
def f_L_members (M : Mem) (x1 : Int32) : Option (Int32 × Mem) := f_L_members_0 M x1
set_option maxHeartbeats 4000000 in
set_option maxRecDepth 100000 in
theorem c_L_members {l : Launch} {Z : Zt} {b : Nat} (hlf : l.stackTraces = false) {x1 : Int32} {M : Mem} {r' : Int32} {M' : Mem} (h : f_L_members M x1 = some (r', M')) : vx_Met l yL_members (Cond.codeWith yL_members cL_members 4 (some .int) [(0, 9, 12, 13)] :: wsA) rm_L_members (va_Pc [.ref (b + 0), .int x1, .ref (b + 172)] (Pre Z b M)) (Qx Z b (.inr (some (.int r'))) M') (XCx Z b (.inr (some (.int r'))) M') 1 6 (A0 b) := by
  refine vx_ofWH (cc := cL_members) (maxL := 4) (ret := (some .int)) (hh := [(0, 9, 12, 13)]) (by decide) rfl ?_
  intro p e s m args below meth c s₁ B hml hv
  obtain ⟨rfl, hE, hW⟩ := hv
  have hT : c.exceptionTable.toList = tableOf [(0, 9, 12, 13)] := vx_table (x := yL_members) B (atoms_spec (ws := Cond.codeWith yL_members cL_members 4 (some .int) [(0, 9, 12, 13)] :: wsA) B.pre _ List.mem_cons_self)
  have C : Cx p s m [.ref (b + 0), .int x1, .ref (b + 172)].toArray c cL_members RL Z b := ⟨B.exec, B.bytes, findClass_of_methodNamed B.named, fun w hw => atoms_spec (ws := Cond.codeWith yL_members cL_members 4 (some .int) [(0, 9, 12, 13)] :: wsA) B.pre w (List.mem_cons_of_mem _ hw), hE⟩
  have hl := lv_entry [.ref (b + 0), .int x1, .ref (b + 172)] (n := 4) (Nat.le_of_ble_eq_true rfl)
  rw [lg_entry_eq]
  generalize (lg_sl [.ref (b + 0), .int x1, .ref (b + 172)] ++ List.replicate (4 - (lg_sl [.ref (b + 0), .int x1, .ref (b + 172)]).length) Slot.unset).toArray = ls at hl ⊢
  have hl : lv_has ls 4 [(0, .ref (b + 0)), (1, .int x1), (2, .ref (b + 172))] := hl
  exact w_L_members_0 C hml B.returns B.notSynchronized hlf hT h va_S.rf hW hl
def f_L_memberAt_0 (M : Mem) (x1 : Int32) (x2 : Int32) : Option (Int32 × Mem) :=
  bdc (f_X4_memberAt M x1 x2) (fun E5 M5 => if E5 = "java/lang/IllegalArgumentException" then some ((1 : Int32), M5) else if E5 = "java/lang/IndexOutOfBoundsException" then some ((2 : Int32), M5) else none) (fun r5 M5 => if (0 : Int32) < 0 ∨ 1 ≤ (0 : Int32).toNatClampNeg then none else some ((0 : Int32), mu M5 40 (0 : Int32).toNatClampNeg r5))
set_option maxHeartbeats 4000000 in
set_option maxRecDepth 100000 in
theorem w_L_memberAt_0 {p : Program} {l : Launch} {e : Env} {s : State} {m : MethodId} {args : Array Value} {below : List Frame} {meth : Method} {c : Code} {Z : Zt} {b : Nat} (C : Cx p s m args c cL_memberAt RL Z b) (hml : c.maxLocals = 5) (hr : meth.sig.returnType = (some .int)) (hlk : meth.locks = false) (hlf : l.stackTraces = false) (hT : c.exceptionTable.toList = tableOf [(0, 10, 13, 13), (0, 10, 17, 26)]) {r' : Int32} {M' : Mem} {M : Mem} {x1 : Int32} {x2 : Int32} (h : f_L_memberAt_0 M x1 x2 = some (r', M')) {H : Heap} {locs : List Loc} {ls : Array Slot} (hS : va_S (A0 b) s.heap H locs) (hW : Wd Z b M H) (hl : lv_has ls 5 [(0, .ref (b + 0)), (1, .int x1), (2, .int x2), (3, .ref (b + 172))]) : W p l e rm_L_memberAt s m args below meth c H locs 0 0 (vx_MQ below (Qx Z b (.inr (some (.int r'))) M') (XCx Z b (.inr (some (.int r'))) M') args s 2 12 (A0 b)) (F0 m 0 ls []) := by
  unfold f_L_memberAt_0 at h
  have hx := C.1
  have hb := C.2.1
  refine lv_aload_n hx hb dL_memberAt_0 rfl (lv_at hl 3 rfl) ?_
  refine lv_iconst (v := (0 : Int32)) hx hb dL_memberAt_1 (by decide) ?_
  refine lv_aload_n hx hb dL_memberAt_2 rfl (lv_at hl 0 rfl) ?_
  refine lv_iload_n hx hb dL_memberAt_3 rfl (lv_at hl 1 rfl) ?_
  refine lv_iload_n hx hb dL_memberAt_4 rfl (lv_at hl 2 rfl) ?_
  rcases bdc_e h with ⟨E5, M5, hc5, h⟩ | ⟨r5, M5, hc5, h⟩
  · by_cases e0 : E5 = "java/lang/IllegalArgumentException"
    · have h := (if_pos e0).symm.trans h
      subst e0
      refine kL_44C C hml hl.1 (c_X4_memberAt hlf hc5) ⟨Nat.le_of_ble_eq_true rfl, Nat.le_of_ble_eq_true rfl⟩ ⟨Nat.le_of_ble_eq_true rfl, Nat.le_of_ble_eq_true rfl⟩ (Nat.le_of_ble_eq_true rfl) hS hW dL_memberAt_5 (fun H locs q9 ce hW hS h91 h92 h93 => ?_)
      refine vx_catch (own := RL) (name := "java/lang/IllegalArgumentException") (E := "java/lang/IllegalArgumentException") C.2.2.1 ([] : List ExceptionTableEntry) (⟨0, 10, 13, 13⟩ : ExceptionTableEntry) ([⟨0, 10, 17, 26⟩] : List ExceptionTableEntry) (by rw [hT]; rfl) (fun z hz => by cases hz) (by decide) (by decide) (C.2.2.2.1 _ q201) (va_Nw.use rfl (C.2.2.2.2.2.1 _ (List.mem_append_right _ (List.mem_append_right _ (List.mem_of_getElem? (i := 0) rfl))))) h91 h92 h93 ?_
      refine W.eq (g2 := F0 m 13 ls [.ref q9]) rfl ?_
      refine lv_astore (lv' := [(4, .ref q9), (0, .ref (b + 0)), (1, .int x1), (2, .int x2), (3, .ref (b + 172))]) hx hb dL_memberAt_13 hl (by decide) rfl (fun ls hl => ?_)
      refine lv_iconst (v := (1 : Int32)) hx hb dL_memberAt_15 (by decide) ?_
      cases h
      exact ret_xi C hr hlk hS hW dL_memberAt_16 (Nat.le_of_ble_eq_true rfl) (Nat.le_of_ble_eq_true rfl)
    · have h := (if_neg e0).symm.trans h
      by_cases e1 : E5 = "java/lang/IndexOutOfBoundsException"
      · have h := (if_pos e1).symm.trans h
        subst e1
        refine kL_44C C hml hl.1 (c_X4_memberAt hlf hc5) ⟨Nat.le_of_ble_eq_true rfl, Nat.le_of_ble_eq_true rfl⟩ ⟨Nat.le_of_ble_eq_true rfl, Nat.le_of_ble_eq_true rfl⟩ (Nat.le_of_ble_eq_true rfl) hS hW dL_memberAt_5 (fun H locs q9 ce hW hS h91 h92 h93 => ?_)
        refine vx_catch (own := RL) (name := "java/lang/IndexOutOfBoundsException") (E := "java/lang/IndexOutOfBoundsException") C.2.2.1 ([⟨0, 10, 13, 13⟩] : List ExceptionTableEntry) (⟨0, 10, 17, 26⟩ : ExceptionTableEntry) ([] : List ExceptionTableEntry) (by rw [hT]; rfl) (fun z hz => by
      simp only [List.mem_cons, List.not_mem_nil, or_false] at hz
      rcases hz with rfl
      · exact Or.inr ⟨by decide, "java/lang/IllegalArgumentException", C.2.2.2.1 _ q201, C.2.2.2.2.2.2.2.2.2 _ (List.mem_of_getElem? (i := 2) rfl)⟩) (by decide) (by decide) (C.2.2.2.1 _ q419) (va_Nw.use rfl (C.2.2.2.2.2.1 _ (List.mem_append_right _ (List.mem_append_right _ (List.mem_of_getElem? (i := 1) rfl))))) h91 h92 h93 ?_
        refine W.eq (g2 := F0 m 17 ls [.ref q9]) rfl ?_
        refine lv_astore (lv' := [(4, .ref q9), (0, .ref (b + 0)), (1, .int x1), (2, .int x2), (3, .ref (b + 172))]) hx hb dL_memberAt_17 hl (by decide) rfl (fun ls hl => ?_)
        refine lv_iconst (v := (2 : Int32)) hx hb dL_memberAt_19 (by decide) ?_
        cases h
        exact ret_xi C hr hlk hS hW dL_memberAt_20 (Nat.le_of_ble_eq_true rfl) (Nat.le_of_ble_eq_true rfl)
      · have h := (if_neg e1).symm.trans h
        cases h
  refine kL_44R C hml hl.1 (c_X4_memberAt hlf hc5) ⟨Nat.le_of_ble_eq_true rfl, Nat.le_of_ble_eq_true rfl⟩ ⟨Nat.le_of_ble_eq_true rfl, Nat.le_of_ble_eq_true rfl⟩ (Nat.le_of_ble_eq_true rfl) hS hW dL_memberAt_5 (fun H locs hW hS => ?_)
  refine lv_i2l (v := r5.toInt64) hx hb dL_memberAt_8 rfl ?_
  obtain ⟨g9, h⟩ := gd h
  refine ast_172 C hS hW g9 dL_memberAt_9 (fun H locs hW hS => ?_)
  refine lv_goto (tgt := 21) hx hb dL_memberAt_10 (by decide) ?_
  refine lv_iconst (v := (0 : Int32)) hx hb dL_memberAt_21 (by decide) ?_
  cases h
  exact ret_xi C hr hlk hS hW dL_memberAt_22 (Nat.le_of_ble_eq_true rfl) (Nat.le_of_ble_eq_true rfl)
def f_L_memberAt (M : Mem) (x1 : Int32) (x2 : Int32) : Option (Int32 × Mem) := f_L_memberAt_0 M x1 x2
set_option maxHeartbeats 4000000 in
set_option maxRecDepth 100000 in
theorem c_L_memberAt {l : Launch} {Z : Zt} {b : Nat} (hlf : l.stackTraces = false) {x1 : Int32} {x2 : Int32} {M : Mem} {r' : Int32} {M' : Mem} (h : f_L_memberAt M x1 x2 = some (r', M')) : vx_Met l yL_memberAt (Cond.codeWith yL_memberAt cL_memberAt 5 (some .int) [(0, 10, 13, 13), (0, 10, 17, 26)] :: wsA) rm_L_memberAt (va_Pc [.ref (b + 0), .int x1, .int x2, .ref (b + 172)] (Pre Z b M)) (Qx Z b (.inr (some (.int r'))) M') (XCx Z b (.inr (some (.int r'))) M') 2 12 (A0 b) := by
  refine vx_ofWH (cc := cL_memberAt) (maxL := 5) (ret := (some .int)) (hh := [(0, 10, 13, 13), (0, 10, 17, 26)]) (by decide) rfl ?_
  intro p e s m args below meth c s₁ B hml hv
  obtain ⟨rfl, hE, hW⟩ := hv
  have hT : c.exceptionTable.toList = tableOf [(0, 10, 13, 13), (0, 10, 17, 26)] := vx_table (x := yL_memberAt) B (atoms_spec (ws := Cond.codeWith yL_memberAt cL_memberAt 5 (some .int) [(0, 10, 13, 13), (0, 10, 17, 26)] :: wsA) B.pre _ List.mem_cons_self)
  have C : Cx p s m [.ref (b + 0), .int x1, .int x2, .ref (b + 172)].toArray c cL_memberAt RL Z b := ⟨B.exec, B.bytes, findClass_of_methodNamed B.named, fun w hw => atoms_spec (ws := Cond.codeWith yL_memberAt cL_memberAt 5 (some .int) [(0, 10, 13, 13), (0, 10, 17, 26)] :: wsA) B.pre w (List.mem_cons_of_mem _ hw), hE⟩
  have hl := lv_entry [.ref (b + 0), .int x1, .int x2, .ref (b + 172)] (n := 5) (Nat.le_of_ble_eq_true rfl)
  rw [lg_entry_eq]
  generalize (lg_sl [.ref (b + 0), .int x1, .int x2, .ref (b + 172)] ++ List.replicate (5 - (lg_sl [.ref (b + 0), .int x1, .int x2, .ref (b + 172)]).length) Slot.unset).toArray = ls at hl ⊢
  have hl : lv_has ls 5 [(0, .ref (b + 0)), (1, .int x1), (2, .int x2), (3, .ref (b + 172))] := hl
  exact w_L_memberAt_0 C hml B.returns B.notSynchronized hlf hT h va_S.rf hW hl
def f_L_order_0 (M : Mem) (x1 : Int32) (x2 : Int32) (x3 : Int32) (x4 : Int32) : Option (Int32 × Mem) :=
  bdc (f_X4_order M x1 x2 x3 x4) (fun E9 M9 => if E9 = "java/lang/IllegalArgumentException" then some ((1 : Int32), M9) else none) (fun r9 M9 => if (0 : Int32) < 0 ∨ 1 ≤ (0 : Int32).toNatClampNeg then none else some ((0 : Int32), mu M9 40 (0 : Int32).toNatClampNeg r9))
set_option maxHeartbeats 4000000 in
set_option maxRecDepth 100000 in
theorem w_L_order_0 {p : Program} {l : Launch} {e : Env} {s : State} {m : MethodId} {args : Array Value} {below : List Frame} {meth : Method} {c : Code} {Z : Zt} {b : Nat} (C : Cx p s m args c cL_order RL Z b) (hml : c.maxLocals = 7) (hr : meth.sig.returnType = (some .int)) (hlk : meth.locks = false) (hlf : l.stackTraces = false) (hT : c.exceptionTable.toList = tableOf [(0, 14, 17, 13)]) {r' : Int32} {M' : Mem} {M : Mem} {x1 : Int32} {x2 : Int32} {x3 : Int32} {x4 : Int32} (h : f_L_order_0 M x1 x2 x3 x4 = some (r', M')) {H : Heap} {locs : List Loc} {ls : Array Slot} (hS : va_S (A0 b) s.heap H locs) (hW : Wd Z b M H) (hl : lv_has ls 7 [(0, .ref (b + 0)), (1, .int x1), (2, .int x2), (3, .int x3), (4, .int x4), (5, .ref (b + 172))]) : W p l e rm_L_order s m args below meth c H locs 0 0 (vx_MQ below (Qx Z b (.inr (some (.int r'))) M') (XCx Z b (.inr (some (.int r'))) M') args s 5 30 (A0 b)) (F0 m 0 ls []) := by
  unfold f_L_order_0 at h
  have hx := C.1
  have hb := C.2.1
  refine lv_aload hx hb dL_order_0 (lv_at hl 5 rfl) ?_
  refine lv_iconst (v := (0 : Int32)) hx hb dL_order_2 (by decide) ?_
  refine lv_aload_n hx hb dL_order_3 rfl (lv_at hl 0 rfl) ?_
  refine lv_iload_n hx hb dL_order_4 rfl (lv_at hl 1 rfl) ?_
  refine lv_iload_n hx hb dL_order_5 rfl (lv_at hl 2 rfl) ?_
  refine lv_iload_n hx hb dL_order_6 rfl (lv_at hl 3 rfl) ?_
  refine lv_iload hx hb dL_order_7 (lv_at hl 4 rfl) ?_
  rcases bdc_e h with ⟨E9, M9, hc9, h⟩ | ⟨r9, M9, hc9, h⟩
  · by_cases e0 : E9 = "java/lang/IllegalArgumentException"
    · have h := (if_pos e0).symm.trans h
      subst e0
      refine kL_48C C hml hl.1 (c_X4_order hlf hc9) ⟨Nat.le_of_ble_eq_true rfl, Nat.le_of_ble_eq_true rfl⟩ ⟨Nat.le_of_ble_eq_true rfl, Nat.le_of_ble_eq_true rfl⟩ (Nat.le_of_ble_eq_true rfl) hS hW dL_order_9 (fun H locs q9 ce hW hS h91 h92 h93 => ?_)
      refine vx_catch (own := RL) (name := "java/lang/IllegalArgumentException") (E := "java/lang/IllegalArgumentException") C.2.2.1 ([] : List ExceptionTableEntry) (⟨0, 14, 17, 13⟩ : ExceptionTableEntry) ([] : List ExceptionTableEntry) (by rw [hT]; rfl) (fun z hz => by cases hz) (by decide) (by decide) (C.2.2.2.1 _ q201) (va_Nw.use rfl (C.2.2.2.2.2.1 _ (List.mem_append_right _ (List.mem_append_right _ (List.mem_of_getElem? (i := 0) rfl))))) h91 h92 h93 ?_
      refine W.eq (g2 := F0 m 17 ls [.ref q9]) rfl ?_
      refine lv_astore (lv' := [(6, .ref q9), (0, .ref (b + 0)), (1, .int x1), (2, .int x2), (3, .int x3), (4, .int x4), (5, .ref (b + 172))]) hx hb dL_order_17 hl (by decide) rfl (fun ls hl => ?_)
      refine lv_iconst (v := (1 : Int32)) hx hb dL_order_19 (by decide) ?_
      cases h
      exact ret_xi C hr hlk hS hW dL_order_20 (Nat.le_of_ble_eq_true rfl) (Nat.le_of_ble_eq_true rfl)
    · have h := (if_neg e0).symm.trans h
      cases h
  refine kL_48R C hml hl.1 (c_X4_order hlf hc9) ⟨Nat.le_of_ble_eq_true rfl, Nat.le_of_ble_eq_true rfl⟩ ⟨Nat.le_of_ble_eq_true rfl, Nat.le_of_ble_eq_true rfl⟩ (Nat.le_of_ble_eq_true rfl) hS hW dL_order_9 (fun H locs hW hS => ?_)
  refine lv_i2l (v := r9.toInt64) hx hb dL_order_12 rfl ?_
  obtain ⟨g13, h⟩ := gd h
  refine ast_172 C hS hW g13 dL_order_13 (fun H locs hW hS => ?_)
  refine lv_goto (tgt := 21) hx hb dL_order_14 (by decide) ?_
  refine lv_iconst (v := (0 : Int32)) hx hb dL_order_21 (by decide) ?_
  cases h
  exact ret_xi C hr hlk hS hW dL_order_22 (Nat.le_of_ble_eq_true rfl) (Nat.le_of_ble_eq_true rfl)
def f_L_order (M : Mem) (x1 : Int32) (x2 : Int32) (x3 : Int32) (x4 : Int32) : Option (Int32 × Mem) := f_L_order_0 M x1 x2 x3 x4
set_option maxHeartbeats 4000000 in
set_option maxRecDepth 100000 in
theorem c_L_order {l : Launch} {Z : Zt} {b : Nat} (hlf : l.stackTraces = false) {x1 : Int32} {x2 : Int32} {x3 : Int32} {x4 : Int32} {M : Mem} {r' : Int32} {M' : Mem} (h : f_L_order M x1 x2 x3 x4 = some (r', M')) : vx_Met l yL_order (Cond.codeWith yL_order cL_order 7 (some .int) [(0, 14, 17, 13)] :: wsA) rm_L_order (va_Pc [.ref (b + 0), .int x1, .int x2, .int x3, .int x4, .ref (b + 172)] (Pre Z b M)) (Qx Z b (.inr (some (.int r'))) M') (XCx Z b (.inr (some (.int r'))) M') 5 30 (A0 b) := by
  refine vx_ofWH (cc := cL_order) (maxL := 7) (ret := (some .int)) (hh := [(0, 14, 17, 13)]) (by decide) rfl ?_
  intro p e s m args below meth c s₁ B hml hv
  obtain ⟨rfl, hE, hW⟩ := hv
  have hT : c.exceptionTable.toList = tableOf [(0, 14, 17, 13)] := vx_table (x := yL_order) B (atoms_spec (ws := Cond.codeWith yL_order cL_order 7 (some .int) [(0, 14, 17, 13)] :: wsA) B.pre _ List.mem_cons_self)
  have C : Cx p s m [.ref (b + 0), .int x1, .int x2, .int x3, .int x4, .ref (b + 172)].toArray c cL_order RL Z b := ⟨B.exec, B.bytes, findClass_of_methodNamed B.named, fun w hw => atoms_spec (ws := Cond.codeWith yL_order cL_order 7 (some .int) [(0, 14, 17, 13)] :: wsA) B.pre w (List.mem_cons_of_mem _ hw), hE⟩
  have hl := lv_entry [.ref (b + 0), .int x1, .int x2, .int x3, .int x4, .ref (b + 172)] (n := 7) (Nat.le_of_ble_eq_true rfl)
  rw [lg_entry_eq]
  generalize (lg_sl [.ref (b + 0), .int x1, .int x2, .int x3, .int x4, .ref (b + 172)] ++ List.replicate (7 - (lg_sl [.ref (b + 0), .int x1, .int x2, .int x3, .int x4, .ref (b + 172)]).length) Slot.unset).toArray = ls at hl ⊢
  have hl : lv_has ls 7 [(0, .ref (b + 0)), (1, .int x1), (2, .int x2), (3, .int x3), (4, .int x4), (5, .ref (b + 172))] := hl
  exact w_L_order_0 C hml B.returns B.notSynchronized hlf hT h va_S.rf hW hl
def f_L_lock_0 (M : Mem) (x1 : Int32) (x2 : Int32) (x3 : Int32) (x4 : Int32) (x5 : Int32) (x6 : Int32) : Option (Int32 × Mem) :=
  bdc (f_X4_lock M x1 x2 x3 x4 x5 x6) (fun E13 M13 => if E13 = "java/lang/IllegalArgumentException" then some ((1 : Int32), M13) else if E13 = "java/lang/IllegalStateException" then some ((2 : Int32), M13) else none) (fun r13 M13 => if (0 : Int32) < 0 ∨ 1 ≤ (0 : Int32).toNatClampNeg then none else some ((0 : Int32), mu M13 40 (0 : Int32).toNatClampNeg r13))
set_option maxHeartbeats 4000000 in
set_option maxRecDepth 100000 in
theorem w_L_lock_0 {p : Program} {l : Launch} {e : Env} {s : State} {m : MethodId} {args : Array Value} {below : List Frame} {meth : Method} {c : Code} {Z : Zt} {b : Nat} (C : Cx p s m args c cL_lock RL Z b) (hml : c.maxLocals = 9) (hr : meth.sig.returnType = (some .int)) (hlk : meth.locks = false) (hlf : l.stackTraces = false) (hT : c.exceptionTable.toList = tableOf [(0, 18, 21, 13), (0, 18, 25, 56)]) {r' : Int32} {M' : Mem} {M : Mem} {x1 : Int32} {x2 : Int32} {x3 : Int32} {x4 : Int32} {x5 : Int32} {x6 : Int32} (h : f_L_lock_0 M x1 x2 x3 x4 x5 x6 = some (r', M')) {H : Heap} {locs : List Loc} {ls : Array Slot} (hS : va_S (A0 b) s.heap H locs) (hW : Wd Z b M H) (hl : lv_has ls 9 [(0, .ref (b + 0)), (1, .int x1), (2, .int x2), (3, .int x3), (4, .int x4), (5, .int x5), (6, .int x6), (7, .ref (b + 172))]) : W p l e rm_L_lock s m args below meth c H locs 0 0 (vx_MQ below (Qx Z b (.inr (some (.int r'))) M') (XCx Z b (.inr (some (.int r'))) M') args s 5 30 (A0 b)) (F0 m 0 ls []) := by
  unfold f_L_lock_0 at h
  have hx := C.1
  have hb := C.2.1
  refine lv_aload hx hb dL_lock_0 (lv_at hl 7 rfl) ?_
  refine lv_iconst (v := (0 : Int32)) hx hb dL_lock_2 (by decide) ?_
  refine lv_aload_n hx hb dL_lock_3 rfl (lv_at hl 0 rfl) ?_
  refine lv_iload_n hx hb dL_lock_4 rfl (lv_at hl 1 rfl) ?_
  refine lv_iload_n hx hb dL_lock_5 rfl (lv_at hl 2 rfl) ?_
  refine lv_iload_n hx hb dL_lock_6 rfl (lv_at hl 3 rfl) ?_
  refine lv_iload hx hb dL_lock_7 (lv_at hl 4 rfl) ?_
  refine lv_iload hx hb dL_lock_9 (lv_at hl 5 rfl) ?_
  refine lv_iload hx hb dL_lock_11 (lv_at hl 6 rfl) ?_
  rcases bdc_e h with ⟨E13, M13, hc13, h⟩ | ⟨r13, M13, hc13, h⟩
  · by_cases e0 : E13 = "java/lang/IllegalArgumentException"
    · have h := (if_pos e0).symm.trans h
      subst e0
      refine kL_52C C hml hl.1 (c_X4_lock hlf hc13) ⟨Nat.le_of_ble_eq_true rfl, Nat.le_of_ble_eq_true rfl⟩ ⟨Nat.le_of_ble_eq_true rfl, Nat.le_of_ble_eq_true rfl⟩ (Nat.le_of_ble_eq_true rfl) hS hW dL_lock_13 (fun H locs q9 ce hW hS h91 h92 h93 => ?_)
      refine vx_catch (own := RL) (name := "java/lang/IllegalArgumentException") (E := "java/lang/IllegalArgumentException") C.2.2.1 ([] : List ExceptionTableEntry) (⟨0, 18, 21, 13⟩ : ExceptionTableEntry) ([⟨0, 18, 25, 56⟩] : List ExceptionTableEntry) (by rw [hT]; rfl) (fun z hz => by cases hz) (by decide) (by decide) (C.2.2.2.1 _ q201) (va_Nw.use rfl (C.2.2.2.2.2.1 _ (List.mem_append_right _ (List.mem_append_right _ (List.mem_of_getElem? (i := 0) rfl))))) h91 h92 h93 ?_
      refine W.eq (g2 := F0 m 21 ls [.ref q9]) rfl ?_
      refine lv_astore (lv' := [(8, .ref q9), (0, .ref (b + 0)), (1, .int x1), (2, .int x2), (3, .int x3), (4, .int x4), (5, .int x5), (6, .int x6), (7, .ref (b + 172))]) hx hb dL_lock_21 hl (by decide) rfl (fun ls hl => ?_)
      refine lv_iconst (v := (1 : Int32)) hx hb dL_lock_23 (by decide) ?_
      cases h
      exact ret_xi C hr hlk hS hW dL_lock_24 (Nat.le_of_ble_eq_true rfl) (Nat.le_of_ble_eq_true rfl)
    · have h := (if_neg e0).symm.trans h
      by_cases e1 : E13 = "java/lang/IllegalStateException"
      · have h := (if_pos e1).symm.trans h
        subst e1
        refine kL_52C C hml hl.1 (c_X4_lock hlf hc13) ⟨Nat.le_of_ble_eq_true rfl, Nat.le_of_ble_eq_true rfl⟩ ⟨Nat.le_of_ble_eq_true rfl, Nat.le_of_ble_eq_true rfl⟩ (Nat.le_of_ble_eq_true rfl) hS hW dL_lock_13 (fun H locs q9 ce hW hS h91 h92 h93 => ?_)
        refine vx_catch (own := RL) (name := "java/lang/IllegalStateException") (E := "java/lang/IllegalStateException") C.2.2.1 ([⟨0, 18, 21, 13⟩] : List ExceptionTableEntry) (⟨0, 18, 25, 56⟩ : ExceptionTableEntry) ([] : List ExceptionTableEntry) (by rw [hT]; rfl) (fun z hz => by
      simp only [List.mem_cons, List.not_mem_nil, or_false] at hz
      rcases hz with rfl
      · exact Or.inr ⟨by decide, "java/lang/IllegalArgumentException", C.2.2.2.1 _ q201, C.2.2.2.2.2.2.2.2.2 _ (List.mem_of_getElem? (i := 4) rfl)⟩) (by decide) (by decide) (C.2.2.2.1 _ q554) (va_Nw.use rfl (C.2.2.2.2.2.1 _ (List.mem_append_right _ (List.mem_append_right _ (List.mem_of_getElem? (i := 2) rfl))))) h91 h92 h93 ?_
        refine W.eq (g2 := F0 m 25 ls [.ref q9]) rfl ?_
        refine lv_astore (lv' := [(8, .ref q9), (0, .ref (b + 0)), (1, .int x1), (2, .int x2), (3, .int x3), (4, .int x4), (5, .int x5), (6, .int x6), (7, .ref (b + 172))]) hx hb dL_lock_25 hl (by decide) rfl (fun ls hl => ?_)
        refine lv_iconst (v := (2 : Int32)) hx hb dL_lock_27 (by decide) ?_
        cases h
        exact ret_xi C hr hlk hS hW dL_lock_28 (Nat.le_of_ble_eq_true rfl) (Nat.le_of_ble_eq_true rfl)
      · have h := (if_neg e1).symm.trans h
        cases h
  refine kL_52R C hml hl.1 (c_X4_lock hlf hc13) ⟨Nat.le_of_ble_eq_true rfl, Nat.le_of_ble_eq_true rfl⟩ ⟨Nat.le_of_ble_eq_true rfl, Nat.le_of_ble_eq_true rfl⟩ (Nat.le_of_ble_eq_true rfl) hS hW dL_lock_13 (fun H locs hW hS => ?_)
  refine lv_i2l (v := r13.toInt64) hx hb dL_lock_16 rfl ?_
  obtain ⟨g17, h⟩ := gd h
  refine ast_172 C hS hW g17 dL_lock_17 (fun H locs hW hS => ?_)
  refine lv_goto (tgt := 29) hx hb dL_lock_18 (by decide) ?_
  refine lv_iconst (v := (0 : Int32)) hx hb dL_lock_29 (by decide) ?_
  cases h
  exact ret_xi C hr hlk hS hW dL_lock_30 (Nat.le_of_ble_eq_true rfl) (Nat.le_of_ble_eq_true rfl)
def f_L_lock (M : Mem) (x1 : Int32) (x2 : Int32) (x3 : Int32) (x4 : Int32) (x5 : Int32) (x6 : Int32) : Option (Int32 × Mem) := f_L_lock_0 M x1 x2 x3 x4 x5 x6
set_option maxHeartbeats 4000000 in
set_option maxRecDepth 100000 in
theorem c_L_lock {l : Launch} {Z : Zt} {b : Nat} (hlf : l.stackTraces = false) {x1 : Int32} {x2 : Int32} {x3 : Int32} {x4 : Int32} {x5 : Int32} {x6 : Int32} {M : Mem} {r' : Int32} {M' : Mem} (h : f_L_lock M x1 x2 x3 x4 x5 x6 = some (r', M')) : vx_Met l yL_lock (Cond.codeWith yL_lock cL_lock 9 (some .int) [(0, 18, 21, 13), (0, 18, 25, 56)] :: wsA) rm_L_lock (va_Pc [.ref (b + 0), .int x1, .int x2, .int x3, .int x4, .int x5, .int x6, .ref (b + 172)] (Pre Z b M)) (Qx Z b (.inr (some (.int r'))) M') (XCx Z b (.inr (some (.int r'))) M') 5 30 (A0 b) := by
  refine vx_ofWH (cc := cL_lock) (maxL := 9) (ret := (some .int)) (hh := [(0, 18, 21, 13), (0, 18, 25, 56)]) (by decide) rfl ?_
  intro p e s m args below meth c s₁ B hml hv
  obtain ⟨rfl, hE, hW⟩ := hv
  have hT : c.exceptionTable.toList = tableOf [(0, 18, 21, 13), (0, 18, 25, 56)] := vx_table (x := yL_lock) B (atoms_spec (ws := Cond.codeWith yL_lock cL_lock 9 (some .int) [(0, 18, 21, 13), (0, 18, 25, 56)] :: wsA) B.pre _ List.mem_cons_self)
  have C : Cx p s m [.ref (b + 0), .int x1, .int x2, .int x3, .int x4, .int x5, .int x6, .ref (b + 172)].toArray c cL_lock RL Z b := ⟨B.exec, B.bytes, findClass_of_methodNamed B.named, fun w hw => atoms_spec (ws := Cond.codeWith yL_lock cL_lock 9 (some .int) [(0, 18, 21, 13), (0, 18, 25, 56)] :: wsA) B.pre w (List.mem_cons_of_mem _ hw), hE⟩
  have hl := lv_entry [.ref (b + 0), .int x1, .int x2, .int x3, .int x4, .int x5, .int x6, .ref (b + 172)] (n := 9) (Nat.le_of_ble_eq_true rfl)
  rw [lg_entry_eq]
  generalize (lg_sl [.ref (b + 0), .int x1, .int x2, .int x3, .int x4, .int x5, .int x6, .ref (b + 172)] ++ List.replicate (9 - (lg_sl [.ref (b + 0), .int x1, .int x2, .int x3, .int x4, .int x5, .int x6, .ref (b + 172)]).length) Slot.unset).toArray = ls at hl ⊢
  have hl : lv_has ls 9 [(0, .ref (b + 0)), (1, .int x1), (2, .int x2), (3, .int x3), (4, .int x4), (5, .int x5), (6, .int x6), (7, .ref (b + 172))] := hl
  exact w_L_lock_0 C hml B.returns B.notSynchronized hlf hT h va_S.rf hW hl
def f_L_refresh_0 (M : Mem) (x1 : Int32) (x2 : Int32) (x3 : Int32) : Option (Int32 × Mem) :=
  bdc (f_X4_refresh M x1 x2 x3) (fun E7 M7 => if E7 = "java/lang/IndexOutOfBoundsException" then some ((1 : Int32), M7) else if E7 = "java/lang/IllegalArgumentException" then some ((2 : Int32), M7) else if E7 = "java/lang/IllegalStateException" then some ((3 : Int32), M7) else none) (fun r7 M7 => if (0 : Int32) < 0 ∨ 1 ≤ (0 : Int32).toNatClampNeg then none else some ((0 : Int32), mu M7 40 (0 : Int32).toNatClampNeg r7))
set_option maxHeartbeats 4000000 in
set_option maxRecDepth 100000 in
theorem w_L_refresh_0 {p : Program} {l : Launch} {e : Env} {s : State} {m : MethodId} {args : Array Value} {below : List Frame} {meth : Method} {c : Code} {Z : Zt} {b : Nat} (C : Cx p s m args c cL_refresh RL Z b) (hml : c.maxLocals = 6) (hr : meth.sig.returnType = (some .int)) (hlk : meth.locks = false) (hlf : l.stackTraces = false) (hT : c.exceptionTable.toList = tableOf [(0, 12, 15, 26), (0, 12, 19, 13), (0, 12, 23, 56)]) {r' : Int32} {M' : Mem} {M : Mem} {x1 : Int32} {x2 : Int32} {x3 : Int32} (h : f_L_refresh_0 M x1 x2 x3 = some (r', M')) {H : Heap} {locs : List Loc} {ls : Array Slot} (hS : va_S (A0 b) s.heap H locs) (hW : Wd Z b M H) (hl : lv_has ls 6 [(0, .ref (b + 0)), (1, .int x1), (2, .int x2), (3, .int x3), (4, .ref (b + 172))]) : W p l e rm_L_refresh s m args below meth c H locs 0 0 (vx_MQ below (Qx Z b (.inr (some (.int r'))) M') (XCx Z b (.inr (some (.int r'))) M') args s 3 18 (A0 b)) (F0 m 0 ls []) := by
  unfold f_L_refresh_0 at h
  have hx := C.1
  have hb := C.2.1
  refine lv_aload hx hb dL_refresh_0 (lv_at hl 4 rfl) ?_
  refine lv_iconst (v := (0 : Int32)) hx hb dL_refresh_2 (by decide) ?_
  refine lv_aload_n hx hb dL_refresh_3 rfl (lv_at hl 0 rfl) ?_
  refine lv_iload_n hx hb dL_refresh_4 rfl (lv_at hl 1 rfl) ?_
  refine lv_iload_n hx hb dL_refresh_5 rfl (lv_at hl 2 rfl) ?_
  refine lv_iload_n hx hb dL_refresh_6 rfl (lv_at hl 3 rfl) ?_
  rcases bdc_e h with ⟨E7, M7, hc7, h⟩ | ⟨r7, M7, hc7, h⟩
  · by_cases e0 : E7 = "java/lang/IndexOutOfBoundsException"
    · have h := (if_pos e0).symm.trans h
      subst e0
      refine kL_58C C hml hl.1 (c_X4_refresh hlf hc7) ⟨Nat.le_of_ble_eq_true rfl, Nat.le_of_ble_eq_true rfl⟩ ⟨Nat.le_of_ble_eq_true rfl, Nat.le_of_ble_eq_true rfl⟩ (Nat.le_of_ble_eq_true rfl) hS hW dL_refresh_7 (fun H locs q9 ce hW hS h91 h92 h93 => ?_)
      refine vx_catch (own := RL) (name := "java/lang/IndexOutOfBoundsException") (E := "java/lang/IndexOutOfBoundsException") C.2.2.1 ([] : List ExceptionTableEntry) (⟨0, 12, 15, 26⟩ : ExceptionTableEntry) ([⟨0, 12, 19, 13⟩, ⟨0, 12, 23, 56⟩] : List ExceptionTableEntry) (by rw [hT]; rfl) (fun z hz => by cases hz) (by decide) (by decide) (C.2.2.2.1 _ q419) (va_Nw.use rfl (C.2.2.2.2.2.1 _ (List.mem_append_right _ (List.mem_append_right _ (List.mem_of_getElem? (i := 1) rfl))))) h91 h92 h93 ?_
      refine W.eq (g2 := F0 m 15 ls [.ref q9]) rfl ?_
      refine lv_astore (lv' := [(5, .ref q9), (0, .ref (b + 0)), (1, .int x1), (2, .int x2), (3, .int x3), (4, .ref (b + 172))]) hx hb dL_refresh_15 hl (by decide) rfl (fun ls hl => ?_)
      refine lv_iconst (v := (1 : Int32)) hx hb dL_refresh_17 (by decide) ?_
      cases h
      exact ret_xi C hr hlk hS hW dL_refresh_18 (Nat.le_of_ble_eq_true rfl) (Nat.le_of_ble_eq_true rfl)
    · have h := (if_neg e0).symm.trans h
      by_cases e1 : E7 = "java/lang/IllegalArgumentException"
      · have h := (if_pos e1).symm.trans h
        subst e1
        refine kL_58C C hml hl.1 (c_X4_refresh hlf hc7) ⟨Nat.le_of_ble_eq_true rfl, Nat.le_of_ble_eq_true rfl⟩ ⟨Nat.le_of_ble_eq_true rfl, Nat.le_of_ble_eq_true rfl⟩ (Nat.le_of_ble_eq_true rfl) hS hW dL_refresh_7 (fun H locs q9 ce hW hS h91 h92 h93 => ?_)
        refine vx_catch (own := RL) (name := "java/lang/IllegalArgumentException") (E := "java/lang/IllegalArgumentException") C.2.2.1 ([⟨0, 12, 15, 26⟩] : List ExceptionTableEntry) (⟨0, 12, 19, 13⟩ : ExceptionTableEntry) ([⟨0, 12, 23, 56⟩] : List ExceptionTableEntry) (by rw [hT]; rfl) (fun z hz => by
      simp only [List.mem_cons, List.not_mem_nil, or_false] at hz
      rcases hz with rfl
      · exact Or.inr ⟨by decide, "java/lang/IndexOutOfBoundsException", C.2.2.2.1 _ q419, C.2.2.2.2.2.2.2.2.2 _ (List.mem_of_getElem? (i := 0) rfl)⟩) (by decide) (by decide) (C.2.2.2.1 _ q201) (va_Nw.use rfl (C.2.2.2.2.2.1 _ (List.mem_append_right _ (List.mem_append_right _ (List.mem_of_getElem? (i := 0) rfl))))) h91 h92 h93 ?_
        refine W.eq (g2 := F0 m 19 ls [.ref q9]) rfl ?_
        refine lv_astore (lv' := [(5, .ref q9), (0, .ref (b + 0)), (1, .int x1), (2, .int x2), (3, .int x3), (4, .ref (b + 172))]) hx hb dL_refresh_19 hl (by decide) rfl (fun ls hl => ?_)
        refine lv_iconst (v := (2 : Int32)) hx hb dL_refresh_21 (by decide) ?_
        cases h
        exact ret_xi C hr hlk hS hW dL_refresh_22 (Nat.le_of_ble_eq_true rfl) (Nat.le_of_ble_eq_true rfl)
      · have h := (if_neg e1).symm.trans h
        by_cases e2 : E7 = "java/lang/IllegalStateException"
        · have h := (if_pos e2).symm.trans h
          subst e2
          refine kL_58C C hml hl.1 (c_X4_refresh hlf hc7) ⟨Nat.le_of_ble_eq_true rfl, Nat.le_of_ble_eq_true rfl⟩ ⟨Nat.le_of_ble_eq_true rfl, Nat.le_of_ble_eq_true rfl⟩ (Nat.le_of_ble_eq_true rfl) hS hW dL_refresh_7 (fun H locs q9 ce hW hS h91 h92 h93 => ?_)
          refine vx_catch (own := RL) (name := "java/lang/IllegalStateException") (E := "java/lang/IllegalStateException") C.2.2.1 ([⟨0, 12, 15, 26⟩, ⟨0, 12, 19, 13⟩] : List ExceptionTableEntry) (⟨0, 12, 23, 56⟩ : ExceptionTableEntry) ([] : List ExceptionTableEntry) (by rw [hT]; rfl) (fun z hz => by
      simp only [List.mem_cons, List.not_mem_nil, or_false] at hz
      rcases hz with rfl | rfl
      · exact Or.inr ⟨by decide, "java/lang/IndexOutOfBoundsException", C.2.2.2.1 _ q419, C.2.2.2.2.2.2.2.2.2 _ (List.mem_of_getElem? (i := 5) rfl)⟩
      · exact Or.inr ⟨by decide, "java/lang/IllegalArgumentException", C.2.2.2.1 _ q201, C.2.2.2.2.2.2.2.2.2 _ (List.mem_of_getElem? (i := 4) rfl)⟩) (by decide) (by decide) (C.2.2.2.1 _ q554) (va_Nw.use rfl (C.2.2.2.2.2.1 _ (List.mem_append_right _ (List.mem_append_right _ (List.mem_of_getElem? (i := 2) rfl))))) h91 h92 h93 ?_
          refine W.eq (g2 := F0 m 23 ls [.ref q9]) rfl ?_
          refine lv_astore (lv' := [(5, .ref q9), (0, .ref (b + 0)), (1, .int x1), (2, .int x2), (3, .int x3), (4, .ref (b + 172))]) hx hb dL_refresh_23 hl (by decide) rfl (fun ls hl => ?_)
          refine lv_iconst (v := (3 : Int32)) hx hb dL_refresh_25 (by decide) ?_
          cases h
          exact ret_xi C hr hlk hS hW dL_refresh_26 (Nat.le_of_ble_eq_true rfl) (Nat.le_of_ble_eq_true rfl)
        · have h := (if_neg e2).symm.trans h
          cases h
  refine kL_58R C hml hl.1 (c_X4_refresh hlf hc7) ⟨Nat.le_of_ble_eq_true rfl, Nat.le_of_ble_eq_true rfl⟩ ⟨Nat.le_of_ble_eq_true rfl, Nat.le_of_ble_eq_true rfl⟩ (Nat.le_of_ble_eq_true rfl) hS hW dL_refresh_7 (fun H locs hW hS => ?_)
  refine lv_i2l (v := r7.toInt64) hx hb dL_refresh_10 rfl ?_
  obtain ⟨g11, h⟩ := gd h
  refine ast_172 C hS hW g11 dL_refresh_11 (fun H locs hW hS => ?_)
  refine lv_goto (tgt := 27) hx hb dL_refresh_12 (by decide) ?_
  refine lv_iconst (v := (0 : Int32)) hx hb dL_refresh_27 (by decide) ?_
  cases h
  exact ret_xi C hr hlk hS hW dL_refresh_28 (Nat.le_of_ble_eq_true rfl) (Nat.le_of_ble_eq_true rfl)
def f_L_refresh (M : Mem) (x1 : Int32) (x2 : Int32) (x3 : Int32) : Option (Int32 × Mem) := f_L_refresh_0 M x1 x2 x3
set_option maxHeartbeats 4000000 in
set_option maxRecDepth 100000 in
theorem c_L_refresh {l : Launch} {Z : Zt} {b : Nat} (hlf : l.stackTraces = false) {x1 : Int32} {x2 : Int32} {x3 : Int32} {M : Mem} {r' : Int32} {M' : Mem} (h : f_L_refresh M x1 x2 x3 = some (r', M')) : vx_Met l yL_refresh (Cond.codeWith yL_refresh cL_refresh 6 (some .int) [(0, 12, 15, 26), (0, 12, 19, 13), (0, 12, 23, 56)] :: wsA) rm_L_refresh (va_Pc [.ref (b + 0), .int x1, .int x2, .int x3, .ref (b + 172)] (Pre Z b M)) (Qx Z b (.inr (some (.int r'))) M') (XCx Z b (.inr (some (.int r'))) M') 3 18 (A0 b) := by
  refine vx_ofWH (cc := cL_refresh) (maxL := 6) (ret := (some .int)) (hh := [(0, 12, 15, 26), (0, 12, 19, 13), (0, 12, 23, 56)]) (by decide) rfl ?_
  intro p e s m args below meth c s₁ B hml hv
  obtain ⟨rfl, hE, hW⟩ := hv
  have hT : c.exceptionTable.toList = tableOf [(0, 12, 15, 26), (0, 12, 19, 13), (0, 12, 23, 56)] := vx_table (x := yL_refresh) B (atoms_spec (ws := Cond.codeWith yL_refresh cL_refresh 6 (some .int) [(0, 12, 15, 26), (0, 12, 19, 13), (0, 12, 23, 56)] :: wsA) B.pre _ List.mem_cons_self)
  have C : Cx p s m [.ref (b + 0), .int x1, .int x2, .int x3, .ref (b + 172)].toArray c cL_refresh RL Z b := ⟨B.exec, B.bytes, findClass_of_methodNamed B.named, fun w hw => atoms_spec (ws := Cond.codeWith yL_refresh cL_refresh 6 (some .int) [(0, 12, 15, 26), (0, 12, 19, 13), (0, 12, 23, 56)] :: wsA) B.pre w (List.mem_cons_of_mem _ hw), hE⟩
  have hl := lv_entry [.ref (b + 0), .int x1, .int x2, .int x3, .ref (b + 172)] (n := 6) (Nat.le_of_ble_eq_true rfl)
  rw [lg_entry_eq]
  generalize (lg_sl [.ref (b + 0), .int x1, .int x2, .int x3, .ref (b + 172)] ++ List.replicate (6 - (lg_sl [.ref (b + 0), .int x1, .int x2, .int x3, .ref (b + 172)]).length) Slot.unset).toArray = ls at hl ⊢
  have hl : lv_has ls 6 [(0, .ref (b + 0)), (1, .int x1), (2, .int x2), (3, .int x3), (4, .ref (b + 172))] := hl
  exact w_L_refresh_0 C hml B.returns B.notSynchronized hlf hT h va_S.rf hW hl
def f_L_pass_0 (M : Mem) (x1 : Int32) : Option (Int32 × Mem) :=
  bdc (f_X4_pass M x1) (fun E4 M4 => if E4 = "java/lang/IllegalArgumentException" then some ((1 : Int32), M4) else if E4 = "java/lang/IllegalStateException" then some ((2 : Int32), M4) else none) (fun r4 M4 => if (0 : Int32) < 0 ∨ 1 ≤ (0 : Int32).toNatClampNeg then none else some ((0 : Int32), mu M4 40 (0 : Int32).toNatClampNeg r4))
set_option maxHeartbeats 4000000 in
set_option maxRecDepth 100000 in
theorem w_L_pass_0 {p : Program} {l : Launch} {e : Env} {s : State} {m : MethodId} {args : Array Value} {below : List Frame} {meth : Method} {c : Code} {Z : Zt} {b : Nat} (C : Cx p s m args c cL_pass RL Z b) (hml : c.maxLocals = 4) (hr : meth.sig.returnType = (some .int)) (hlk : meth.locks = false) (hlf : l.stackTraces = false) (hT : c.exceptionTable.toList = tableOf [(0, 9, 12, 13), (0, 9, 15, 56)]) {r' : Int32} {M' : Mem} {M : Mem} {x1 : Int32} (h : f_L_pass_0 M x1 = some (r', M')) {H : Heap} {locs : List Loc} {ls : Array Slot} (hS : va_S (A0 b) s.heap H locs) (hW : Wd Z b M H) (hl : lv_has ls 4 [(0, .ref (b + 0)), (1, .int x1), (2, .ref (b + 172))]) : W p l e rm_L_pass s m args below meth c H locs 0 0 (vx_MQ below (Qx Z b (.inr (some (.int r'))) M') (XCx Z b (.inr (some (.int r'))) M') args s 2 12 (A0 b)) (F0 m 0 ls []) := by
  unfold f_L_pass_0 at h
  have hx := C.1
  have hb := C.2.1
  refine lv_aload_n hx hb dL_pass_0 rfl (lv_at hl 2 rfl) ?_
  refine lv_iconst (v := (0 : Int32)) hx hb dL_pass_1 (by decide) ?_
  refine lv_aload_n hx hb dL_pass_2 rfl (lv_at hl 0 rfl) ?_
  refine lv_iload_n hx hb dL_pass_3 rfl (lv_at hl 1 rfl) ?_
  rcases bdc_e h with ⟨E4, M4, hc4, h⟩ | ⟨r4, M4, hc4, h⟩
  · by_cases e0 : E4 = "java/lang/IllegalArgumentException"
    · have h := (if_pos e0).symm.trans h
      subst e0
      refine kL_61C C hml hl.1 (c_X4_pass hlf hc4) ⟨Nat.le_of_ble_eq_true rfl, Nat.le_of_ble_eq_true rfl⟩ ⟨Nat.le_of_ble_eq_true rfl, Nat.le_of_ble_eq_true rfl⟩ (Nat.le_of_ble_eq_true rfl) hS hW dL_pass_4 (fun H locs q9 ce hW hS h91 h92 h93 => ?_)
      refine vx_catch (own := RL) (name := "java/lang/IllegalArgumentException") (E := "java/lang/IllegalArgumentException") C.2.2.1 ([] : List ExceptionTableEntry) (⟨0, 9, 12, 13⟩ : ExceptionTableEntry) ([⟨0, 9, 15, 56⟩] : List ExceptionTableEntry) (by rw [hT]; rfl) (fun z hz => by cases hz) (by decide) (by decide) (C.2.2.2.1 _ q201) (va_Nw.use rfl (C.2.2.2.2.2.1 _ (List.mem_append_right _ (List.mem_append_right _ (List.mem_of_getElem? (i := 0) rfl))))) h91 h92 h93 ?_
      refine W.eq (g2 := F0 m 12 ls [.ref q9]) rfl ?_
      refine lv_astore_n (lv' := [(3, .ref q9), (0, .ref (b + 0)), (1, .int x1), (2, .ref (b + 172))]) hx hb dL_pass_12 rfl hl (by decide) rfl (fun ls hl => ?_)
      refine lv_iconst (v := (1 : Int32)) hx hb dL_pass_13 (by decide) ?_
      cases h
      exact ret_xi C hr hlk hS hW dL_pass_14 (Nat.le_of_ble_eq_true rfl) (Nat.le_of_ble_eq_true rfl)
    · have h := (if_neg e0).symm.trans h
      by_cases e1 : E4 = "java/lang/IllegalStateException"
      · have h := (if_pos e1).symm.trans h
        subst e1
        refine kL_61C C hml hl.1 (c_X4_pass hlf hc4) ⟨Nat.le_of_ble_eq_true rfl, Nat.le_of_ble_eq_true rfl⟩ ⟨Nat.le_of_ble_eq_true rfl, Nat.le_of_ble_eq_true rfl⟩ (Nat.le_of_ble_eq_true rfl) hS hW dL_pass_4 (fun H locs q9 ce hW hS h91 h92 h93 => ?_)
        refine vx_catch (own := RL) (name := "java/lang/IllegalStateException") (E := "java/lang/IllegalStateException") C.2.2.1 ([⟨0, 9, 12, 13⟩] : List ExceptionTableEntry) (⟨0, 9, 15, 56⟩ : ExceptionTableEntry) ([] : List ExceptionTableEntry) (by rw [hT]; rfl) (fun z hz => by
      simp only [List.mem_cons, List.not_mem_nil, or_false] at hz
      rcases hz with rfl
      · exact Or.inr ⟨by decide, "java/lang/IllegalArgumentException", C.2.2.2.1 _ q201, C.2.2.2.2.2.2.2.2.2 _ (List.mem_of_getElem? (i := 4) rfl)⟩) (by decide) (by decide) (C.2.2.2.1 _ q554) (va_Nw.use rfl (C.2.2.2.2.2.1 _ (List.mem_append_right _ (List.mem_append_right _ (List.mem_of_getElem? (i := 2) rfl))))) h91 h92 h93 ?_
        refine W.eq (g2 := F0 m 15 ls [.ref q9]) rfl ?_
        refine lv_astore_n (lv' := [(3, .ref q9), (0, .ref (b + 0)), (1, .int x1), (2, .ref (b + 172))]) hx hb dL_pass_15 rfl hl (by decide) rfl (fun ls hl => ?_)
        refine lv_iconst (v := (2 : Int32)) hx hb dL_pass_16 (by decide) ?_
        cases h
        exact ret_xi C hr hlk hS hW dL_pass_17 (Nat.le_of_ble_eq_true rfl) (Nat.le_of_ble_eq_true rfl)
      · have h := (if_neg e1).symm.trans h
        cases h
  refine kL_61R C hml hl.1 (c_X4_pass hlf hc4) ⟨Nat.le_of_ble_eq_true rfl, Nat.le_of_ble_eq_true rfl⟩ ⟨Nat.le_of_ble_eq_true rfl, Nat.le_of_ble_eq_true rfl⟩ (Nat.le_of_ble_eq_true rfl) hS hW dL_pass_4 (fun H locs hW hS => ?_)
  refine lv_i2l (v := r4.toInt64) hx hb dL_pass_7 rfl ?_
  obtain ⟨g8, h⟩ := gd h
  refine ast_172 C hS hW g8 dL_pass_8 (fun H locs hW hS => ?_)
  refine lv_goto (tgt := 18) hx hb dL_pass_9 (by decide) ?_
  refine lv_iconst (v := (0 : Int32)) hx hb dL_pass_18 (by decide) ?_
  cases h
  exact ret_xi C hr hlk hS hW dL_pass_19 (Nat.le_of_ble_eq_true rfl) (Nat.le_of_ble_eq_true rfl)
def f_L_pass (M : Mem) (x1 : Int32) : Option (Int32 × Mem) := f_L_pass_0 M x1
set_option maxHeartbeats 4000000 in
set_option maxRecDepth 100000 in
theorem c_L_pass {l : Launch} {Z : Zt} {b : Nat} (hlf : l.stackTraces = false) {x1 : Int32} {M : Mem} {r' : Int32} {M' : Mem} (h : f_L_pass M x1 = some (r', M')) : vx_Met l yL_pass (Cond.codeWith yL_pass cL_pass 4 (some .int) [(0, 9, 12, 13), (0, 9, 15, 56)] :: wsA) rm_L_pass (va_Pc [.ref (b + 0), .int x1, .ref (b + 172)] (Pre Z b M)) (Qx Z b (.inr (some (.int r'))) M') (XCx Z b (.inr (some (.int r'))) M') 2 12 (A0 b) := by
  refine vx_ofWH (cc := cL_pass) (maxL := 4) (ret := (some .int)) (hh := [(0, 9, 12, 13), (0, 9, 15, 56)]) (by decide) rfl ?_
  intro p e s m args below meth c s₁ B hml hv
  obtain ⟨rfl, hE, hW⟩ := hv
  have hT : c.exceptionTable.toList = tableOf [(0, 9, 12, 13), (0, 9, 15, 56)] := vx_table (x := yL_pass) B (atoms_spec (ws := Cond.codeWith yL_pass cL_pass 4 (some .int) [(0, 9, 12, 13), (0, 9, 15, 56)] :: wsA) B.pre _ List.mem_cons_self)
  have C : Cx p s m [.ref (b + 0), .int x1, .ref (b + 172)].toArray c cL_pass RL Z b := ⟨B.exec, B.bytes, findClass_of_methodNamed B.named, fun w hw => atoms_spec (ws := Cond.codeWith yL_pass cL_pass 4 (some .int) [(0, 9, 12, 13), (0, 9, 15, 56)] :: wsA) B.pre w (List.mem_cons_of_mem _ hw), hE⟩
  have hl := lv_entry [.ref (b + 0), .int x1, .ref (b + 172)] (n := 4) (Nat.le_of_ble_eq_true rfl)
  rw [lg_entry_eq]
  generalize (lg_sl [.ref (b + 0), .int x1, .ref (b + 172)] ++ List.replicate (4 - (lg_sl [.ref (b + 0), .int x1, .ref (b + 172)]).length) Slot.unset).toArray = ls at hl ⊢
  have hl : lv_has ls 4 [(0, .ref (b + 0)), (1, .int x1), (2, .ref (b + 172))] := hl
  exact w_L_pass_0 C hml B.returns B.notSynchronized hlf hT h va_S.rf hW hl
def f_L_covering_0 (M : Mem) (x1 : Int32) : Option (Int32 × Mem) :=
  bdc (f_X4_covering M x1) (fun E4 M4 => if E4 = "java/lang/IllegalArgumentException" then some ((1 : Int32), M4) else none) (fun r4 M4 => if (0 : Int32) < 0 ∨ 1 ≤ (0 : Int32).toNatClampNeg then none else some ((0 : Int32), mu M4 40 (0 : Int32).toNatClampNeg r4))
set_option maxHeartbeats 4000000 in
set_option maxRecDepth 100000 in
theorem w_L_covering_0 {p : Program} {l : Launch} {e : Env} {s : State} {m : MethodId} {args : Array Value} {below : List Frame} {meth : Method} {c : Code} {Z : Zt} {b : Nat} (C : Cx p s m args c cL_covering RL Z b) (hml : c.maxLocals = 4) (hr : meth.sig.returnType = (some .int)) (hlk : meth.locks = false) (hlf : l.stackTraces = false) (hT : c.exceptionTable.toList = tableOf [(0, 9, 12, 13)]) {r' : Int32} {M' : Mem} {M : Mem} {x1 : Int32} (h : f_L_covering_0 M x1 = some (r', M')) {H : Heap} {locs : List Loc} {ls : Array Slot} (hS : va_S (A0 b) s.heap H locs) (hW : Wd Z b M H) (hl : lv_has ls 4 [(0, .ref (b + 0)), (1, .int x1), (2, .ref (b + 172))]) : W p l e rm_L_covering s m args below meth c H locs 0 0 (vx_MQ below (Qx Z b (.inr (some (.int r'))) M') (XCx Z b (.inr (some (.int r'))) M') args s 1 6 (A0 b)) (F0 m 0 ls []) := by
  unfold f_L_covering_0 at h
  have hx := C.1
  have hb := C.2.1
  refine lv_aload_n hx hb dL_covering_0 rfl (lv_at hl 2 rfl) ?_
  refine lv_iconst (v := (0 : Int32)) hx hb dL_covering_1 (by decide) ?_
  refine lv_aload_n hx hb dL_covering_2 rfl (lv_at hl 0 rfl) ?_
  refine lv_iload_n hx hb dL_covering_3 rfl (lv_at hl 1 rfl) ?_
  rcases bdc_e h with ⟨E4, M4, hc4, h⟩ | ⟨r4, M4, hc4, h⟩
  · by_cases e0 : E4 = "java/lang/IllegalArgumentException"
    · have h := (if_pos e0).symm.trans h
      subst e0
      refine kL_64C C hml hl.1 (c_X4_covering hlf hc4) ⟨Nat.le_of_ble_eq_true rfl, Nat.le_of_ble_eq_true rfl⟩ ⟨Nat.le_of_ble_eq_true rfl, Nat.le_of_ble_eq_true rfl⟩ (Nat.le_of_ble_eq_true rfl) hS hW dL_covering_4 (fun H locs q9 ce hW hS h91 h92 h93 => ?_)
      refine vx_catch (own := RL) (name := "java/lang/IllegalArgumentException") (E := "java/lang/IllegalArgumentException") C.2.2.1 ([] : List ExceptionTableEntry) (⟨0, 9, 12, 13⟩ : ExceptionTableEntry) ([] : List ExceptionTableEntry) (by rw [hT]; rfl) (fun z hz => by cases hz) (by decide) (by decide) (C.2.2.2.1 _ q201) (va_Nw.use rfl (C.2.2.2.2.2.1 _ (List.mem_append_right _ (List.mem_append_right _ (List.mem_of_getElem? (i := 0) rfl))))) h91 h92 h93 ?_
      refine W.eq (g2 := F0 m 12 ls [.ref q9]) rfl ?_
      refine lv_astore_n (lv' := [(3, .ref q9), (0, .ref (b + 0)), (1, .int x1), (2, .ref (b + 172))]) hx hb dL_covering_12 rfl hl (by decide) rfl (fun ls hl => ?_)
      refine lv_iconst (v := (1 : Int32)) hx hb dL_covering_13 (by decide) ?_
      cases h
      exact ret_xi C hr hlk hS hW dL_covering_14 (Nat.le_of_ble_eq_true rfl) (Nat.le_of_ble_eq_true rfl)
    · have h := (if_neg e0).symm.trans h
      cases h
  refine kL_64R C hml hl.1 (c_X4_covering hlf hc4) ⟨Nat.le_of_ble_eq_true rfl, Nat.le_of_ble_eq_true rfl⟩ ⟨Nat.le_of_ble_eq_true rfl, Nat.le_of_ble_eq_true rfl⟩ (Nat.le_of_ble_eq_true rfl) hS hW dL_covering_4 (fun H locs hW hS => ?_)
  refine lv_i2l (v := r4.toInt64) hx hb dL_covering_7 rfl ?_
  obtain ⟨g8, h⟩ := gd h
  refine ast_172 C hS hW g8 dL_covering_8 (fun H locs hW hS => ?_)
  refine lv_goto (tgt := 15) hx hb dL_covering_9 (by decide) ?_
  refine lv_iconst (v := (0 : Int32)) hx hb dL_covering_15 (by decide) ?_
  cases h
  exact ret_xi C hr hlk hS hW dL_covering_16 (Nat.le_of_ble_eq_true rfl) (Nat.le_of_ble_eq_true rfl)
def f_L_covering (M : Mem) (x1 : Int32) : Option (Int32 × Mem) := f_L_covering_0 M x1
set_option maxHeartbeats 4000000 in
set_option maxRecDepth 100000 in
theorem c_L_covering {l : Launch} {Z : Zt} {b : Nat} (hlf : l.stackTraces = false) {x1 : Int32} {M : Mem} {r' : Int32} {M' : Mem} (h : f_L_covering M x1 = some (r', M')) : vx_Met l yL_covering (Cond.codeWith yL_covering cL_covering 4 (some .int) [(0, 9, 12, 13)] :: wsA) rm_L_covering (va_Pc [.ref (b + 0), .int x1, .ref (b + 172)] (Pre Z b M)) (Qx Z b (.inr (some (.int r'))) M') (XCx Z b (.inr (some (.int r'))) M') 1 6 (A0 b) := by
  refine vx_ofWH (cc := cL_covering) (maxL := 4) (ret := (some .int)) (hh := [(0, 9, 12, 13)]) (by decide) rfl ?_
  intro p e s m args below meth c s₁ B hml hv
  obtain ⟨rfl, hE, hW⟩ := hv
  have hT : c.exceptionTable.toList = tableOf [(0, 9, 12, 13)] := vx_table (x := yL_covering) B (atoms_spec (ws := Cond.codeWith yL_covering cL_covering 4 (some .int) [(0, 9, 12, 13)] :: wsA) B.pre _ List.mem_cons_self)
  have C : Cx p s m [.ref (b + 0), .int x1, .ref (b + 172)].toArray c cL_covering RL Z b := ⟨B.exec, B.bytes, findClass_of_methodNamed B.named, fun w hw => atoms_spec (ws := Cond.codeWith yL_covering cL_covering 4 (some .int) [(0, 9, 12, 13)] :: wsA) B.pre w (List.mem_cons_of_mem _ hw), hE⟩
  have hl := lv_entry [.ref (b + 0), .int x1, .ref (b + 172)] (n := 4) (Nat.le_of_ble_eq_true rfl)
  rw [lg_entry_eq]
  generalize (lg_sl [.ref (b + 0), .int x1, .ref (b + 172)] ++ List.replicate (4 - (lg_sl [.ref (b + 0), .int x1, .ref (b + 172)]).length) Slot.unset).toArray = ls at hl ⊢
  have hl : lv_has ls 4 [(0, .ref (b + 0)), (1, .int x1), (2, .ref (b + 172))] := hl
  exact w_L_covering_0 C hml B.returns B.notSynchronized hlf hT h va_S.rf hW hl
def f_L_mayChange_18 (M : Mem) (xs1 : Int32) (xs2 : Int32) : Option (Int32 × Mem) :=
  if xs1 < 0 ∨ 1 ≤ xs1.toNatClampNeg then none else some ((0 : Int32), mu M 40 xs1.toNatClampNeg xs2)
set_option maxHeartbeats 4000000 in
set_option maxRecDepth 100000 in
theorem w_L_mayChange_18 {p : Program} {l : Launch} {e : Env} {s : State} {m : MethodId} {args : Array Value} {below : List Frame} {meth : Method} {c : Code} {Z : Zt} {b : Nat} (C : Cx p s m args c cL_mayChange RL Z b) (hml : c.maxLocals = 6) (hr : meth.sig.returnType = (some .int)) (hlk : meth.locks = false) (hlf : l.stackTraces = false) (hT : c.exceptionTable.toList = tableOf [(0, 19, 22, 13)]) {r' : Int32} {M' : Mem} {M : Mem} {xs1 : Int32} {xs2 : Int32} (h : f_L_mayChange_18 M xs1 xs2 = some (r', M')) {H : Heap} {locs : List Loc} {ls : Array Slot} (hS : va_S (A0 b) s.heap H locs) (hW : Wd Z b M H) (hl : lv_has ls 6 []) : W p l e rm_L_mayChange s m args below meth c H locs 3 18 (vx_MQ below (Qx Z b (.inr (some (.int r'))) M') (XCx Z b (.inr (some (.int r'))) M') args s 3 18 (A0 b)) (F0 m 18 ls [.long xs2.toInt64, .int xs1, .ref (b + 172)]) := by
  unfold f_L_mayChange_18 at h
  have hx := C.1
  have hb := C.2.1
  obtain ⟨g18, h⟩ := gd h
  refine ast_172 C hS hW g18 dL_mayChange_18 (fun H locs hW hS => ?_)
  refine lv_goto (tgt := 26) hx hb dL_mayChange_19 (by decide) ?_
  refine lv_iconst (v := (0 : Int32)) hx hb dL_mayChange_26 (by decide) ?_
  cases h
  exact ret_xi C hr hlk hS hW dL_mayChange_27 (Nat.le_of_ble_eq_true rfl) (Nat.le_of_ble_eq_true rfl)
def f_L_mayChange_0 (M : Mem) (x1 : Int32) (x2 : Int32) (x3 : Int32) : Option (Int32 × Mem) :=
  bdc (f_X4_mayChange M x1 x2 x3) (fun E7 M7 => if E7 = "java/lang/IllegalArgumentException" then some ((1 : Int32), M7) else none) (fun r7 M7 => if r7 = 0 then f_L_mayChange_18 M7 (0 : Int32) (0 : Int32) else f_L_mayChange_18 M7 (0 : Int32) (1 : Int32))
set_option maxHeartbeats 4000000 in
set_option maxRecDepth 100000 in
theorem w_L_mayChange_0 {p : Program} {l : Launch} {e : Env} {s : State} {m : MethodId} {args : Array Value} {below : List Frame} {meth : Method} {c : Code} {Z : Zt} {b : Nat} (C : Cx p s m args c cL_mayChange RL Z b) (hml : c.maxLocals = 6) (hr : meth.sig.returnType = (some .int)) (hlk : meth.locks = false) (hlf : l.stackTraces = false) (hT : c.exceptionTable.toList = tableOf [(0, 19, 22, 13)]) {r' : Int32} {M' : Mem} {M : Mem} {x1 : Int32} {x2 : Int32} {x3 : Int32} (h : f_L_mayChange_0 M x1 x2 x3 = some (r', M')) {H : Heap} {locs : List Loc} {ls : Array Slot} (hS : va_S (A0 b) s.heap H locs) (hW : Wd Z b M H) (hl : lv_has ls 6 [(0, .ref (b + 0)), (1, .int x1), (2, .int x2), (3, .int x3), (4, .ref (b + 172))]) : W p l e rm_L_mayChange s m args below meth c H locs 0 0 (vx_MQ below (Qx Z b (.inr (some (.int r'))) M') (XCx Z b (.inr (some (.int r'))) M') args s 3 18 (A0 b)) (F0 m 0 ls []) := by
  unfold f_L_mayChange_0 at h
  have hx := C.1
  have hb := C.2.1
  refine lv_aload hx hb dL_mayChange_0 (lv_at hl 4 rfl) ?_
  refine lv_iconst (v := (0 : Int32)) hx hb dL_mayChange_2 (by decide) ?_
  refine lv_aload_n hx hb dL_mayChange_3 rfl (lv_at hl 0 rfl) ?_
  refine lv_iload_n hx hb dL_mayChange_4 rfl (lv_at hl 1 rfl) ?_
  refine lv_iload_n hx hb dL_mayChange_5 rfl (lv_at hl 2 rfl) ?_
  refine lv_iload_n hx hb dL_mayChange_6 rfl (lv_at hl 3 rfl) ?_
  rcases bdc_e h with ⟨E7, M7, hc7, h⟩ | ⟨r7, M7, hc7, h⟩
  · by_cases e0 : E7 = "java/lang/IllegalArgumentException"
    · have h := (if_pos e0).symm.trans h
      subst e0
      refine kL_67C C hml hl.1 (c_X4_mayChange hlf hc7) ⟨Nat.le_of_ble_eq_true rfl, Nat.le_of_ble_eq_true rfl⟩ ⟨Nat.le_of_ble_eq_true rfl, Nat.le_of_ble_eq_true rfl⟩ (Nat.le_of_ble_eq_true rfl) hS hW dL_mayChange_7 (fun H locs q9 ce hW hS h91 h92 h93 => ?_)
      refine vx_catch (own := RL) (name := "java/lang/IllegalArgumentException") (E := "java/lang/IllegalArgumentException") C.2.2.1 ([] : List ExceptionTableEntry) (⟨0, 19, 22, 13⟩ : ExceptionTableEntry) ([] : List ExceptionTableEntry) (by rw [hT]; rfl) (fun z hz => by cases hz) (by decide) (by decide) (C.2.2.2.1 _ q201) (va_Nw.use rfl (C.2.2.2.2.2.1 _ (List.mem_append_right _ (List.mem_append_right _ (List.mem_of_getElem? (i := 0) rfl))))) h91 h92 h93 ?_
      refine W.eq (g2 := F0 m 22 ls [.ref q9]) rfl ?_
      refine lv_astore (lv' := [(5, .ref q9), (0, .ref (b + 0)), (1, .int x1), (2, .int x2), (3, .int x3), (4, .ref (b + 172))]) hx hb dL_mayChange_22 hl (by decide) rfl (fun ls hl => ?_)
      refine lv_iconst (v := (1 : Int32)) hx hb dL_mayChange_24 (by decide) ?_
      cases h
      exact ret_xi C hr hlk hS hW dL_mayChange_25 (Nat.le_of_ble_eq_true rfl) (Nat.le_of_ble_eq_true rfl)
    · have h := (if_neg e0).symm.trans h
      cases h
  refine kL_67R C hml hl.1 (c_X4_mayChange hlf hc7) ⟨Nat.le_of_ble_eq_true rfl, Nat.le_of_ble_eq_true rfl⟩ ⟨Nat.le_of_ble_eq_true rfl, Nat.le_of_ble_eq_true rfl⟩ (Nat.le_of_ble_eq_true rfl) hS hW dL_mayChange_7 (fun H locs hW hS => ?_)
  refine lv_if_eq (tgt := 17) hx hb dL_mayChange_10 (by decide) (fun c10 => ?_) (fun c10 => ?_)
  · have h := (if_pos c10).symm.trans h
    refine lv_lconst (v := (0 : Int32).toInt64) hx hb dL_mayChange_17 (by decide) ?_
    exact w_L_mayChange_18 C hml hr hlk hlf hT h hS hW (lv_sub hl [] rfl)
  · have h := (if_neg c10).symm.trans h
    refine lv_lconst (v := (1 : Int32).toInt64) hx hb dL_mayChange_13 (by decide) ?_
    refine lv_goto (tgt := 18) hx hb dL_mayChange_14 (by decide) ?_
    exact w_L_mayChange_18 C hml hr hlk hlf hT h hS hW (lv_sub hl [] rfl)
def f_L_mayChange (M : Mem) (x1 : Int32) (x2 : Int32) (x3 : Int32) : Option (Int32 × Mem) := f_L_mayChange_0 M x1 x2 x3
set_option maxHeartbeats 4000000 in
set_option maxRecDepth 100000 in
theorem c_L_mayChange {l : Launch} {Z : Zt} {b : Nat} (hlf : l.stackTraces = false) {x1 : Int32} {x2 : Int32} {x3 : Int32} {M : Mem} {r' : Int32} {M' : Mem} (h : f_L_mayChange M x1 x2 x3 = some (r', M')) : vx_Met l yL_mayChange (Cond.codeWith yL_mayChange cL_mayChange 6 (some .int) [(0, 19, 22, 13)] :: wsA) rm_L_mayChange (va_Pc [.ref (b + 0), .int x1, .int x2, .int x3, .ref (b + 172)] (Pre Z b M)) (Qx Z b (.inr (some (.int r'))) M') (XCx Z b (.inr (some (.int r'))) M') 3 18 (A0 b) := by
  refine vx_ofWH (cc := cL_mayChange) (maxL := 6) (ret := (some .int)) (hh := [(0, 19, 22, 13)]) (by decide) rfl ?_
  intro p e s m args below meth c s₁ B hml hv
  obtain ⟨rfl, hE, hW⟩ := hv
  have hT : c.exceptionTable.toList = tableOf [(0, 19, 22, 13)] := vx_table (x := yL_mayChange) B (atoms_spec (ws := Cond.codeWith yL_mayChange cL_mayChange 6 (some .int) [(0, 19, 22, 13)] :: wsA) B.pre _ List.mem_cons_self)
  have C : Cx p s m [.ref (b + 0), .int x1, .int x2, .int x3, .ref (b + 172)].toArray c cL_mayChange RL Z b := ⟨B.exec, B.bytes, findClass_of_methodNamed B.named, fun w hw => atoms_spec (ws := Cond.codeWith yL_mayChange cL_mayChange 6 (some .int) [(0, 19, 22, 13)] :: wsA) B.pre w (List.mem_cons_of_mem _ hw), hE⟩
  have hl := lv_entry [.ref (b + 0), .int x1, .int x2, .int x3, .ref (b + 172)] (n := 6) (Nat.le_of_ble_eq_true rfl)
  rw [lg_entry_eq]
  generalize (lg_sl [.ref (b + 0), .int x1, .int x2, .int x3, .ref (b + 172)] ++ List.replicate (6 - (lg_sl [.ref (b + 0), .int x1, .int x2, .int x3, .ref (b + 172)]).length) Slot.unset).toArray = ls at hl ⊢
  have hl : lv_has ls 6 [(0, .ref (b + 0)), (1, .int x1), (2, .int x2), (3, .int x3), (4, .ref (b + 172))] := hl
  exact w_L_mayChange_0 C hml B.returns B.notSynchronized hlf hT h va_S.rf hW hl
def f_L_keep_0 (M : Mem) (x1 : Int32) : Option (Int32 × Mem) :=
  bdc (f_X4_keep M x1) (fun E4 M4 => if E4 = "java/lang/IllegalArgumentException" then some ((1 : Int32), M4) else if E4 = "java/lang/IllegalStateException" then some ((2 : Int32), M4) else none) (fun r4 M4 => if (0 : Int32) < 0 ∨ 1 ≤ (0 : Int32).toNatClampNeg then none else some ((0 : Int32), mu M4 40 (0 : Int32).toNatClampNeg r4))
set_option maxHeartbeats 4000000 in
set_option maxRecDepth 100000 in
theorem w_L_keep_0 {p : Program} {l : Launch} {e : Env} {s : State} {m : MethodId} {args : Array Value} {below : List Frame} {meth : Method} {c : Code} {Z : Zt} {b : Nat} (C : Cx p s m args c cL_keep RL Z b) (hml : c.maxLocals = 4) (hr : meth.sig.returnType = (some .int)) (hlk : meth.locks = false) (hlf : l.stackTraces = false) (hT : c.exceptionTable.toList = tableOf [(0, 9, 12, 13), (0, 9, 15, 56)]) {r' : Int32} {M' : Mem} {M : Mem} {x1 : Int32} (h : f_L_keep_0 M x1 = some (r', M')) {H : Heap} {locs : List Loc} {ls : Array Slot} (hS : va_S (A0 b) s.heap H locs) (hW : Wd Z b M H) (hl : lv_has ls 4 [(0, .ref (b + 0)), (1, .int x1), (2, .ref (b + 172))]) : W p l e rm_L_keep s m args below meth c H locs 0 0 (vx_MQ below (Qx Z b (.inr (some (.int r'))) M') (XCx Z b (.inr (some (.int r'))) M') args s 2 12 (A0 b)) (F0 m 0 ls []) := by
  unfold f_L_keep_0 at h
  have hx := C.1
  have hb := C.2.1
  refine lv_aload_n hx hb dL_keep_0 rfl (lv_at hl 2 rfl) ?_
  refine lv_iconst (v := (0 : Int32)) hx hb dL_keep_1 (by decide) ?_
  refine lv_aload_n hx hb dL_keep_2 rfl (lv_at hl 0 rfl) ?_
  refine lv_iload_n hx hb dL_keep_3 rfl (lv_at hl 1 rfl) ?_
  rcases bdc_e h with ⟨E4, M4, hc4, h⟩ | ⟨r4, M4, hc4, h⟩
  · by_cases e0 : E4 = "java/lang/IllegalArgumentException"
    · have h := (if_pos e0).symm.trans h
      subst e0
      refine kL_71C C hml hl.1 (c_X4_keep hlf hc4) ⟨Nat.le_of_ble_eq_true rfl, Nat.le_of_ble_eq_true rfl⟩ ⟨Nat.le_of_ble_eq_true rfl, Nat.le_of_ble_eq_true rfl⟩ (Nat.le_of_ble_eq_true rfl) hS hW dL_keep_4 (fun H locs q9 ce hW hS h91 h92 h93 => ?_)
      refine vx_catch (own := RL) (name := "java/lang/IllegalArgumentException") (E := "java/lang/IllegalArgumentException") C.2.2.1 ([] : List ExceptionTableEntry) (⟨0, 9, 12, 13⟩ : ExceptionTableEntry) ([⟨0, 9, 15, 56⟩] : List ExceptionTableEntry) (by rw [hT]; rfl) (fun z hz => by cases hz) (by decide) (by decide) (C.2.2.2.1 _ q201) (va_Nw.use rfl (C.2.2.2.2.2.1 _ (List.mem_append_right _ (List.mem_append_right _ (List.mem_of_getElem? (i := 0) rfl))))) h91 h92 h93 ?_
      refine W.eq (g2 := F0 m 12 ls [.ref q9]) rfl ?_
      refine lv_astore_n (lv' := [(3, .ref q9), (0, .ref (b + 0)), (1, .int x1), (2, .ref (b + 172))]) hx hb dL_keep_12 rfl hl (by decide) rfl (fun ls hl => ?_)
      refine lv_iconst (v := (1 : Int32)) hx hb dL_keep_13 (by decide) ?_
      cases h
      exact ret_xi C hr hlk hS hW dL_keep_14 (Nat.le_of_ble_eq_true rfl) (Nat.le_of_ble_eq_true rfl)
    · have h := (if_neg e0).symm.trans h
      by_cases e1 : E4 = "java/lang/IllegalStateException"
      · have h := (if_pos e1).symm.trans h
        subst e1
        refine kL_71C C hml hl.1 (c_X4_keep hlf hc4) ⟨Nat.le_of_ble_eq_true rfl, Nat.le_of_ble_eq_true rfl⟩ ⟨Nat.le_of_ble_eq_true rfl, Nat.le_of_ble_eq_true rfl⟩ (Nat.le_of_ble_eq_true rfl) hS hW dL_keep_4 (fun H locs q9 ce hW hS h91 h92 h93 => ?_)
        refine vx_catch (own := RL) (name := "java/lang/IllegalStateException") (E := "java/lang/IllegalStateException") C.2.2.1 ([⟨0, 9, 12, 13⟩] : List ExceptionTableEntry) (⟨0, 9, 15, 56⟩ : ExceptionTableEntry) ([] : List ExceptionTableEntry) (by rw [hT]; rfl) (fun z hz => by
      simp only [List.mem_cons, List.not_mem_nil, or_false] at hz
      rcases hz with rfl
      · exact Or.inr ⟨by decide, "java/lang/IllegalArgumentException", C.2.2.2.1 _ q201, C.2.2.2.2.2.2.2.2.2 _ (List.mem_of_getElem? (i := 4) rfl)⟩) (by decide) (by decide) (C.2.2.2.1 _ q554) (va_Nw.use rfl (C.2.2.2.2.2.1 _ (List.mem_append_right _ (List.mem_append_right _ (List.mem_of_getElem? (i := 2) rfl))))) h91 h92 h93 ?_
        refine W.eq (g2 := F0 m 15 ls [.ref q9]) rfl ?_
        refine lv_astore_n (lv' := [(3, .ref q9), (0, .ref (b + 0)), (1, .int x1), (2, .ref (b + 172))]) hx hb dL_keep_15 rfl hl (by decide) rfl (fun ls hl => ?_)
        refine lv_iconst (v := (2 : Int32)) hx hb dL_keep_16 (by decide) ?_
        cases h
        exact ret_xi C hr hlk hS hW dL_keep_17 (Nat.le_of_ble_eq_true rfl) (Nat.le_of_ble_eq_true rfl)
      · have h := (if_neg e1).symm.trans h
        cases h
  refine kL_71R C hml hl.1 (c_X4_keep hlf hc4) ⟨Nat.le_of_ble_eq_true rfl, Nat.le_of_ble_eq_true rfl⟩ ⟨Nat.le_of_ble_eq_true rfl, Nat.le_of_ble_eq_true rfl⟩ (Nat.le_of_ble_eq_true rfl) hS hW dL_keep_4 (fun H locs hW hS => ?_)
  refine lv_i2l (v := r4.toInt64) hx hb dL_keep_7 rfl ?_
  obtain ⟨g8, h⟩ := gd h
  refine ast_172 C hS hW g8 dL_keep_8 (fun H locs hW hS => ?_)
  refine lv_goto (tgt := 18) hx hb dL_keep_9 (by decide) ?_
  refine lv_iconst (v := (0 : Int32)) hx hb dL_keep_18 (by decide) ?_
  cases h
  exact ret_xi C hr hlk hS hW dL_keep_19 (Nat.le_of_ble_eq_true rfl) (Nat.le_of_ble_eq_true rfl)
def f_L_keep (M : Mem) (x1 : Int32) : Option (Int32 × Mem) := f_L_keep_0 M x1
set_option maxHeartbeats 4000000 in
set_option maxRecDepth 100000 in
theorem c_L_keep {l : Launch} {Z : Zt} {b : Nat} (hlf : l.stackTraces = false) {x1 : Int32} {M : Mem} {r' : Int32} {M' : Mem} (h : f_L_keep M x1 = some (r', M')) : vx_Met l yL_keep (Cond.codeWith yL_keep cL_keep 4 (some .int) [(0, 9, 12, 13), (0, 9, 15, 56)] :: wsA) rm_L_keep (va_Pc [.ref (b + 0), .int x1, .ref (b + 172)] (Pre Z b M)) (Qx Z b (.inr (some (.int r'))) M') (XCx Z b (.inr (some (.int r'))) M') 2 12 (A0 b) := by
  refine vx_ofWH (cc := cL_keep) (maxL := 4) (ret := (some .int)) (hh := [(0, 9, 12, 13), (0, 9, 15, 56)]) (by decide) rfl ?_
  intro p e s m args below meth c s₁ B hml hv
  obtain ⟨rfl, hE, hW⟩ := hv
  have hT : c.exceptionTable.toList = tableOf [(0, 9, 12, 13), (0, 9, 15, 56)] := vx_table (x := yL_keep) B (atoms_spec (ws := Cond.codeWith yL_keep cL_keep 4 (some .int) [(0, 9, 12, 13), (0, 9, 15, 56)] :: wsA) B.pre _ List.mem_cons_self)
  have C : Cx p s m [.ref (b + 0), .int x1, .ref (b + 172)].toArray c cL_keep RL Z b := ⟨B.exec, B.bytes, findClass_of_methodNamed B.named, fun w hw => atoms_spec (ws := Cond.codeWith yL_keep cL_keep 4 (some .int) [(0, 9, 12, 13), (0, 9, 15, 56)] :: wsA) B.pre w (List.mem_cons_of_mem _ hw), hE⟩
  have hl := lv_entry [.ref (b + 0), .int x1, .ref (b + 172)] (n := 4) (Nat.le_of_ble_eq_true rfl)
  rw [lg_entry_eq]
  generalize (lg_sl [.ref (b + 0), .int x1, .ref (b + 172)] ++ List.replicate (4 - (lg_sl [.ref (b + 0), .int x1, .ref (b + 172)]).length) Slot.unset).toArray = ls at hl ⊢
  have hl : lv_has ls 4 [(0, .ref (b + 0)), (1, .int x1), (2, .ref (b + 172))] := hl
  exact w_L_keep_0 C hml B.returns B.notSynchronized hlf hT h va_S.rf hW hl
def f_L_restore_0 (M : Mem) (x1 : Int32) (x2 : Int32) (x3 : Int32) (x4 : Int32) : Option (Int32 × Mem) :=
  bdc (f_X4_restore M x1 x2 x3 x4) (fun E9 M9 => if E9 = "java/lang/IllegalArgumentException" then some ((1 : Int32), M9) else none) (fun r9 M9 => if (0 : Int32) < 0 ∨ 1 ≤ (0 : Int32).toNatClampNeg then none else some ((0 : Int32), mu M9 40 (0 : Int32).toNatClampNeg r9))
set_option maxHeartbeats 4000000 in
set_option maxRecDepth 100000 in
theorem w_L_restore_0 {p : Program} {l : Launch} {e : Env} {s : State} {m : MethodId} {args : Array Value} {below : List Frame} {meth : Method} {c : Code} {Z : Zt} {b : Nat} (C : Cx p s m args c cL_restore RL Z b) (hml : c.maxLocals = 7) (hr : meth.sig.returnType = (some .int)) (hlk : meth.locks = false) (hlf : l.stackTraces = false) (hT : c.exceptionTable.toList = tableOf [(0, 14, 17, 13)]) {r' : Int32} {M' : Mem} {M : Mem} {x1 : Int32} {x2 : Int32} {x3 : Int32} {x4 : Int32} (h : f_L_restore_0 M x1 x2 x3 x4 = some (r', M')) {H : Heap} {locs : List Loc} {ls : Array Slot} (hS : va_S (A0 b) s.heap H locs) (hW : Wd Z b M H) (hl : lv_has ls 7 [(0, .ref (b + 0)), (1, .int x1), (2, .int x2), (3, .int x3), (4, .int x4), (5, .ref (b + 172))]) : W p l e rm_L_restore s m args below meth c H locs 0 0 (vx_MQ below (Qx Z b (.inr (some (.int r'))) M') (XCx Z b (.inr (some (.int r'))) M') args s 4 24 (A0 b)) (F0 m 0 ls []) := by
  unfold f_L_restore_0 at h
  have hx := C.1
  have hb := C.2.1
  refine lv_aload hx hb dL_restore_0 (lv_at hl 5 rfl) ?_
  refine lv_iconst (v := (0 : Int32)) hx hb dL_restore_2 (by decide) ?_
  refine lv_aload_n hx hb dL_restore_3 rfl (lv_at hl 0 rfl) ?_
  refine lv_iload_n hx hb dL_restore_4 rfl (lv_at hl 1 rfl) ?_
  refine lv_iload_n hx hb dL_restore_5 rfl (lv_at hl 2 rfl) ?_
  refine lv_iload_n hx hb dL_restore_6 rfl (lv_at hl 3 rfl) ?_
  refine lv_iload hx hb dL_restore_7 (lv_at hl 4 rfl) ?_
  rcases bdc_e h with ⟨E9, M9, hc9, h⟩ | ⟨r9, M9, hc9, h⟩
  · by_cases e0 : E9 = "java/lang/IllegalArgumentException"
    · have h := (if_pos e0).symm.trans h
      subst e0
      refine kL_74C C hml hl.1 (c_X4_restore hlf hc9) ⟨Nat.le_of_ble_eq_true rfl, Nat.le_of_ble_eq_true rfl⟩ ⟨Nat.le_of_ble_eq_true rfl, Nat.le_of_ble_eq_true rfl⟩ (Nat.le_of_ble_eq_true rfl) hS hW dL_restore_9 (fun H locs q9 ce hW hS h91 h92 h93 => ?_)
      refine vx_catch (own := RL) (name := "java/lang/IllegalArgumentException") (E := "java/lang/IllegalArgumentException") C.2.2.1 ([] : List ExceptionTableEntry) (⟨0, 14, 17, 13⟩ : ExceptionTableEntry) ([] : List ExceptionTableEntry) (by rw [hT]; rfl) (fun z hz => by cases hz) (by decide) (by decide) (C.2.2.2.1 _ q201) (va_Nw.use rfl (C.2.2.2.2.2.1 _ (List.mem_append_right _ (List.mem_append_right _ (List.mem_of_getElem? (i := 0) rfl))))) h91 h92 h93 ?_
      refine W.eq (g2 := F0 m 17 ls [.ref q9]) rfl ?_
      refine lv_astore (lv' := [(6, .ref q9), (0, .ref (b + 0)), (1, .int x1), (2, .int x2), (3, .int x3), (4, .int x4), (5, .ref (b + 172))]) hx hb dL_restore_17 hl (by decide) rfl (fun ls hl => ?_)
      refine lv_iconst (v := (1 : Int32)) hx hb dL_restore_19 (by decide) ?_
      cases h
      exact ret_xi C hr hlk hS hW dL_restore_20 (Nat.le_of_ble_eq_true rfl) (Nat.le_of_ble_eq_true rfl)
    · have h := (if_neg e0).symm.trans h
      cases h
  refine kL_74R C hml hl.1 (c_X4_restore hlf hc9) ⟨Nat.le_of_ble_eq_true rfl, Nat.le_of_ble_eq_true rfl⟩ ⟨Nat.le_of_ble_eq_true rfl, Nat.le_of_ble_eq_true rfl⟩ (Nat.le_of_ble_eq_true rfl) hS hW dL_restore_9 (fun H locs hW hS => ?_)
  refine lv_i2l (v := r9.toInt64) hx hb dL_restore_12 rfl ?_
  obtain ⟨g13, h⟩ := gd h
  refine ast_172 C hS hW g13 dL_restore_13 (fun H locs hW hS => ?_)
  refine lv_goto (tgt := 21) hx hb dL_restore_14 (by decide) ?_
  refine lv_iconst (v := (0 : Int32)) hx hb dL_restore_21 (by decide) ?_
  cases h
  exact ret_xi C hr hlk hS hW dL_restore_22 (Nat.le_of_ble_eq_true rfl) (Nat.le_of_ble_eq_true rfl)
def f_L_restore (M : Mem) (x1 : Int32) (x2 : Int32) (x3 : Int32) (x4 : Int32) : Option (Int32 × Mem) := f_L_restore_0 M x1 x2 x3 x4
set_option maxHeartbeats 4000000 in
set_option maxRecDepth 100000 in
theorem c_L_restore {l : Launch} {Z : Zt} {b : Nat} (hlf : l.stackTraces = false) {x1 : Int32} {x2 : Int32} {x3 : Int32} {x4 : Int32} {M : Mem} {r' : Int32} {M' : Mem} (h : f_L_restore M x1 x2 x3 x4 = some (r', M')) : vx_Met l yL_restore (Cond.codeWith yL_restore cL_restore 7 (some .int) [(0, 14, 17, 13)] :: wsA) rm_L_restore (va_Pc [.ref (b + 0), .int x1, .int x2, .int x3, .int x4, .ref (b + 172)] (Pre Z b M)) (Qx Z b (.inr (some (.int r'))) M') (XCx Z b (.inr (some (.int r'))) M') 4 24 (A0 b) := by
  refine vx_ofWH (cc := cL_restore) (maxL := 7) (ret := (some .int)) (hh := [(0, 14, 17, 13)]) (by decide) rfl ?_
  intro p e s m args below meth c s₁ B hml hv
  obtain ⟨rfl, hE, hW⟩ := hv
  have hT : c.exceptionTable.toList = tableOf [(0, 14, 17, 13)] := vx_table (x := yL_restore) B (atoms_spec (ws := Cond.codeWith yL_restore cL_restore 7 (some .int) [(0, 14, 17, 13)] :: wsA) B.pre _ List.mem_cons_self)
  have C : Cx p s m [.ref (b + 0), .int x1, .int x2, .int x3, .int x4, .ref (b + 172)].toArray c cL_restore RL Z b := ⟨B.exec, B.bytes, findClass_of_methodNamed B.named, fun w hw => atoms_spec (ws := Cond.codeWith yL_restore cL_restore 7 (some .int) [(0, 14, 17, 13)] :: wsA) B.pre w (List.mem_cons_of_mem _ hw), hE⟩
  have hl := lv_entry [.ref (b + 0), .int x1, .int x2, .int x3, .int x4, .ref (b + 172)] (n := 7) (Nat.le_of_ble_eq_true rfl)
  rw [lg_entry_eq]
  generalize (lg_sl [.ref (b + 0), .int x1, .int x2, .int x3, .int x4, .ref (b + 172)] ++ List.replicate (7 - (lg_sl [.ref (b + 0), .int x1, .int x2, .int x3, .int x4, .ref (b + 172)]).length) Slot.unset).toArray = ls at hl ⊢
  have hl : lv_has ls 7 [(0, .ref (b + 0)), (1, .int x1), (2, .int x2), (3, .int x3), (4, .int x4), (5, .ref (b + 172))] := hl
  exact w_L_restore_0 C hml B.returns B.notSynchronized hlf hT h va_S.rf hW hl

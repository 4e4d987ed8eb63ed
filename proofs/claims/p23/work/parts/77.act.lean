def f_L_act_364 (M : Mem) (x5 : Int32) (xs1 : Int32) (xs2 : Int32) (xs3 : Int32) (xs4 : Int32) : Option (Int32 × Mem) :=
  bdc (f_X4_lock M xs1 xs2 xs3 xs4 (10 : Int32) x5) (fun E368 M368 => if E368 = "java/lang/IndexOutOfBoundsException" then some ((-9001 : Int32), M368) else if E368 = "java/lang/IllegalArgumentException" then some ((-9002 : Int32), M368) else if E368 = "java/lang/IllegalStateException" then some ((-9003 : Int32), M368) else none) (fun r368 M368 => some (r368, M368))
set_option maxHeartbeats 4000000 in
set_option maxRecDepth 100000 in
theorem w_L_act_364 {p : Program} {l : Launch} {e : Env} {s : State} {m : MethodId} {args : Array Value} {below : List Frame} {meth : Method} {c : Code} {Z : Zt} {b : Nat} (C : Cx p s m args c cL_act RL Z b) (hml : c.maxLocals = 7) (hr : meth.sig.returnType = (some .int)) (hlk : meth.locks = false) (hlf : l.stackTraces = false) (hT : c.exceptionTable.toList = tableOf [(0, 384, 385, 71), (0, 384, 391, 73), (0, 384, 397, 75)]) {r' : Int32} {M' : Mem} {M : Mem} {x5 : Int32} {xs1 : Int32} {xs2 : Int32} {xs3 : Int32} {xs4 : Int32} (h : f_L_act_364 M x5 xs1 xs2 xs3 xs4 = some (r', M')) {H : Heap} {locs : List Loc} {ls : Array Slot} (hS : va_S (A0 b) s.heap H locs) (hW : Wd Z b M H) (hl : lv_has ls 7 [(5, .int x5)]) : W p l e rm_L_act s m args below meth c H locs 0 0 (vx_MQ below (Qx Z b (.inr (some (.int r'))) M') (XCx Z b (.inr (some (.int r'))) M') args s 7 42 (A0 b)) (F0 m 364 ls [.int xs4, .int xs3, .int xs2, .int xs1, .ref (b + 0)]) := by
  unfold f_L_act_364 at h
  have hx := C.1
  have hb := C.2.1
  refine lv_bipush (v := (10 : Int32)) hx hb dL_act_364 (by decide) ?_
  refine lv_iload hx hb dL_act_366 (lv_at hl 0 rfl) ?_
  rcases bdc_e h with ⟨E368, M368, hc368, h⟩ | ⟨r368, M368, hc368, h⟩
  · by_cases e0 : E368 = "java/lang/IndexOutOfBoundsException"
    · have h := (if_pos e0).symm.trans h
      subst e0
      refine kL_48C C hml hl.1 (c_X4_lock hlf hc368) ⟨Nat.le_of_ble_eq_true rfl, Nat.le_of_ble_eq_true rfl⟩ ⟨Nat.le_of_ble_eq_true rfl, Nat.le_of_ble_eq_true rfl⟩ (Nat.le_of_ble_eq_true rfl) hS hW dL_act_368 (fun H locs q9 ce hW hS h91 h92 h93 => ?_)
      refine vx_catch (own := RL) (name := "java/lang/IndexOutOfBoundsException") (E := "java/lang/IndexOutOfBoundsException") C.2.2.1 ([] : List ExceptionTableEntry) (⟨0, 384, 385, 71⟩ : ExceptionTableEntry) ([⟨0, 384, 391, 73⟩, ⟨0, 384, 397, 75⟩] : List ExceptionTableEntry) (by rw [hT]; rfl) (fun z hz => by cases hz) (by decide) (by decide) (C.2.2.2.1 _ q408) (va_Nw.use rfl (C.2.2.2.2.2.1 _ (List.mem_append_right _ (List.mem_append_right _ (List.mem_of_getElem? (i := 1) rfl))))) h91 h92 h93 ?_
      refine W.eq (g2 := F0 m 385 ls [.ref q9]) rfl ?_
      refine lv_astore (lv' := [(6, .ref q9), (5, .int x5)]) hx hb dL_act_385 hl (by decide) rfl (fun ls hl => ?_)
      refine lv_sipush (v := (-9001 : Int32)) hx hb dL_act_387 (by decide) ?_
      cases h
      exact ret_xi C hr hlk hS hW dL_act_390 (Nat.le_of_ble_eq_true rfl) (Nat.le_of_ble_eq_true rfl)
    · have h := (if_neg e0).symm.trans h
      by_cases e1 : E368 = "java/lang/IllegalArgumentException"
      · have h := (if_pos e1).symm.trans h
        subst e1
        refine kL_48C C hml hl.1 (c_X4_lock hlf hc368) ⟨Nat.le_of_ble_eq_true rfl, Nat.le_of_ble_eq_true rfl⟩ ⟨Nat.le_of_ble_eq_true rfl, Nat.le_of_ble_eq_true rfl⟩ (Nat.le_of_ble_eq_true rfl) hS hW dL_act_368 (fun H locs q9 ce hW hS h91 h92 h93 => ?_)
        refine vx_catch (own := RL) (name := "java/lang/IllegalArgumentException") (E := "java/lang/IllegalArgumentException") C.2.2.1 ([⟨0, 384, 385, 71⟩] : List ExceptionTableEntry) (⟨0, 384, 391, 73⟩ : ExceptionTableEntry) ([⟨0, 384, 397, 75⟩] : List ExceptionTableEntry) (by rw [hT]; rfl) (fun z hz => by
      simp only [List.mem_cons, List.not_mem_nil, or_false] at hz
      rcases hz with rfl
      · exact Or.inr ⟨by decide, "java/lang/IndexOutOfBoundsException", C.2.2.2.1 _ q408, C.2.2.2.2.2.2.2.2.2 _ (List.mem_of_getElem? (i := 0) rfl)⟩) (by decide) (by decide) (C.2.2.2.1 _ q409) (va_Nw.use rfl (C.2.2.2.2.2.1 _ (List.mem_append_right _ (List.mem_append_right _ (List.mem_of_getElem? (i := 0) rfl))))) h91 h92 h93 ?_
        refine W.eq (g2 := F0 m 391 ls [.ref q9]) rfl ?_
        refine lv_astore (lv' := [(6, .ref q9), (5, .int x5)]) hx hb dL_act_391 hl (by decide) rfl (fun ls hl => ?_)
        refine lv_sipush (v := (-9002 : Int32)) hx hb dL_act_393 (by decide) ?_
        cases h
        exact ret_xi C hr hlk hS hW dL_act_396 (Nat.le_of_ble_eq_true rfl) (Nat.le_of_ble_eq_true rfl)
      · have h := (if_neg e1).symm.trans h
        by_cases e2 : E368 = "java/lang/IllegalStateException"
        · have h := (if_pos e2).symm.trans h
          subst e2
          refine kL_48C C hml hl.1 (c_X4_lock hlf hc368) ⟨Nat.le_of_ble_eq_true rfl, Nat.le_of_ble_eq_true rfl⟩ ⟨Nat.le_of_ble_eq_true rfl, Nat.le_of_ble_eq_true rfl⟩ (Nat.le_of_ble_eq_true rfl) hS hW dL_act_368 (fun H locs q9 ce hW hS h91 h92 h93 => ?_)
          refine vx_catch (own := RL) (name := "java/lang/IllegalStateException") (E := "java/lang/IllegalStateException") C.2.2.1 ([⟨0, 384, 385, 71⟩, ⟨0, 384, 391, 73⟩] : List ExceptionTableEntry) (⟨0, 384, 397, 75⟩ : ExceptionTableEntry) ([] : List ExceptionTableEntry) (by rw [hT]; rfl) (fun z hz => by
      simp only [List.mem_cons, List.not_mem_nil, or_false] at hz
      rcases hz with rfl | rfl
      · exact Or.inr ⟨by decide, "java/lang/IndexOutOfBoundsException", C.2.2.2.1 _ q408, C.2.2.2.2.2.2.2.2.2 _ (List.mem_of_getElem? (i := 5) rfl)⟩
      · exact Or.inr ⟨by decide, "java/lang/IllegalArgumentException", C.2.2.2.1 _ q409, C.2.2.2.2.2.2.2.2.2 _ (List.mem_of_getElem? (i := 4) rfl)⟩) (by decide) (by decide) (C.2.2.2.1 _ q410) (va_Nw.use rfl (C.2.2.2.2.2.1 _ (List.mem_append_right _ (List.mem_append_right _ (List.mem_of_getElem? (i := 2) rfl))))) h91 h92 h93 ?_
          refine W.eq (g2 := F0 m 397 ls [.ref q9]) rfl ?_
          refine lv_astore (lv' := [(6, .ref q9), (5, .int x5)]) hx hb dL_act_397 hl (by decide) rfl (fun ls hl => ?_)
          refine lv_sipush (v := (-9003 : Int32)) hx hb dL_act_399 (by decide) ?_
          cases h
          exact ret_xi C hr hlk hS hW dL_act_402 (Nat.le_of_ble_eq_true rfl) (Nat.le_of_ble_eq_true rfl)
        · have h := (if_neg e2).symm.trans h
          cases h
  refine kL_48R C hml hl.1 (c_X4_lock hlf hc368) ⟨Nat.le_of_ble_eq_true rfl, Nat.le_of_ble_eq_true rfl⟩ ⟨Nat.le_of_ble_eq_true rfl, Nat.le_of_ble_eq_true rfl⟩ (Nat.le_of_ble_eq_true rfl) hS hW dL_act_368 (fun H locs hW hS => ?_)
  refine lv_goto (tgt := 384) hx hb dL_act_371 (by decide) ?_
  cases h
  exact ret_xi C hr hlk hS hW dL_act_384 (Nat.le_of_ble_eq_true rfl) (Nat.le_of_ble_eq_true rfl)
def f_L_act_116 (M : Mem) (xs1 : Int32) (xs2 : Int32) (xs3 : Int32) (xs4 : Int32) : Option (Int32 × Mem) :=
  bdc (f_X4_move M xs1 xs2 xs3 xs4 (0 : Int32)) (fun E117 M117 => if E117 = "java/lang/IndexOutOfBoundsException" then some ((-9001 : Int32), M117) else if E117 = "java/lang/IllegalArgumentException" then some ((-9002 : Int32), M117) else if E117 = "java/lang/IllegalStateException" then some ((-9003 : Int32), M117) else none) (fun r117 M117 => some (r117, M117))
set_option maxHeartbeats 4000000 in
set_option maxRecDepth 100000 in
theorem w_L_act_116 {p : Program} {l : Launch} {e : Env} {s : State} {m : MethodId} {args : Array Value} {below : List Frame} {meth : Method} {c : Code} {Z : Zt} {b : Nat} (C : Cx p s m args c cL_act RL Z b) (hml : c.maxLocals = 7) (hr : meth.sig.returnType = (some .int)) (hlk : meth.locks = false) (hlf : l.stackTraces = false) (hT : c.exceptionTable.toList = tableOf [(0, 384, 385, 71), (0, 384, 391, 73), (0, 384, 397, 75)]) {r' : Int32} {M' : Mem} {M : Mem} {xs1 : Int32} {xs2 : Int32} {xs3 : Int32} {xs4 : Int32} (h : f_L_act_116 M xs1 xs2 xs3 xs4 = some (r', M')) {H : Heap} {locs : List Loc} {ls : Array Slot} (hS : va_S (A0 b) s.heap H locs) (hW : Wd Z b M H) (hl : lv_has ls 7 []) : W p l e rm_L_act s m args below meth c H locs 0 0 (vx_MQ below (Qx Z b (.inr (some (.int r'))) M') (XCx Z b (.inr (some (.int r'))) M') args s 7 42 (A0 b)) (F0 m 116 ls [.int xs4, .int xs3, .int xs2, .int xs1, .ref (b + 0)]) := by
  unfold f_L_act_116 at h
  have hx := C.1
  have hb := C.2.1
  refine lv_iconst (v := (0 : Int32)) hx hb dL_act_116 (by decide) ?_
  rcases bdc_e h with ⟨E117, M117, hc117, h⟩ | ⟨r117, M117, hc117, h⟩
  · by_cases e0 : E117 = "java/lang/IndexOutOfBoundsException"
    · have h := (if_pos e0).symm.trans h
      subst e0
      refine kL_28C C hml hl.1 (c_X4_move hlf hc117) ⟨Nat.le_of_ble_eq_true rfl, Nat.le_of_ble_eq_true rfl⟩ ⟨Nat.le_of_ble_eq_true rfl, Nat.le_of_ble_eq_true rfl⟩ (Nat.le_of_ble_eq_true rfl) hS hW dL_act_117 (fun H locs q9 ce hW hS h91 h92 h93 => ?_)
      refine vx_catch (own := RL) (name := "java/lang/IndexOutOfBoundsException") (E := "java/lang/IndexOutOfBoundsException") C.2.2.1 ([] : List ExceptionTableEntry) (⟨0, 384, 385, 71⟩ : ExceptionTableEntry) ([⟨0, 384, 391, 73⟩, ⟨0, 384, 397, 75⟩] : List ExceptionTableEntry) (by rw [hT]; rfl) (fun z hz => by cases hz) (by decide) (by decide) (C.2.2.2.1 _ q408) (va_Nw.use rfl (C.2.2.2.2.2.1 _ (List.mem_append_right _ (List.mem_append_right _ (List.mem_of_getElem? (i := 1) rfl))))) h91 h92 h93 ?_
      refine W.eq (g2 := F0 m 385 ls [.ref q9]) rfl ?_
      refine lv_astore (lv' := [(6, .ref q9)]) hx hb dL_act_385 hl (by decide) rfl (fun ls hl => ?_)
      refine lv_sipush (v := (-9001 : Int32)) hx hb dL_act_387 (by decide) ?_
      cases h
      exact ret_xi C hr hlk hS hW dL_act_390 (Nat.le_of_ble_eq_true rfl) (Nat.le_of_ble_eq_true rfl)
    · have h := (if_neg e0).symm.trans h
      by_cases e1 : E117 = "java/lang/IllegalArgumentException"
      · have h := (if_pos e1).symm.trans h
        subst e1
        refine kL_28C C hml hl.1 (c_X4_move hlf hc117) ⟨Nat.le_of_ble_eq_true rfl, Nat.le_of_ble_eq_true rfl⟩ ⟨Nat.le_of_ble_eq_true rfl, Nat.le_of_ble_eq_true rfl⟩ (Nat.le_of_ble_eq_true rfl) hS hW dL_act_117 (fun H locs q9 ce hW hS h91 h92 h93 => ?_)
        refine vx_catch (own := RL) (name := "java/lang/IllegalArgumentException") (E := "java/lang/IllegalArgumentException") C.2.2.1 ([⟨0, 384, 385, 71⟩] : List ExceptionTableEntry) (⟨0, 384, 391, 73⟩ : ExceptionTableEntry) ([⟨0, 384, 397, 75⟩] : List ExceptionTableEntry) (by rw [hT]; rfl) (fun z hz => by
      simp only [List.mem_cons, List.not_mem_nil, or_false] at hz
      rcases hz with rfl
      · exact Or.inr ⟨by decide, "java/lang/IndexOutOfBoundsException", C.2.2.2.1 _ q408, C.2.2.2.2.2.2.2.2.2 _ (List.mem_of_getElem? (i := 0) rfl)⟩) (by decide) (by decide) (C.2.2.2.1 _ q409) (va_Nw.use rfl (C.2.2.2.2.2.1 _ (List.mem_append_right _ (List.mem_append_right _ (List.mem_of_getElem? (i := 0) rfl))))) h91 h92 h93 ?_
        refine W.eq (g2 := F0 m 391 ls [.ref q9]) rfl ?_
        refine lv_astore (lv' := [(6, .ref q9)]) hx hb dL_act_391 hl (by decide) rfl (fun ls hl => ?_)
        refine lv_sipush (v := (-9002 : Int32)) hx hb dL_act_393 (by decide) ?_
        cases h
        exact ret_xi C hr hlk hS hW dL_act_396 (Nat.le_of_ble_eq_true rfl) (Nat.le_of_ble_eq_true rfl)
      · have h := (if_neg e1).symm.trans h
        by_cases e2 : E117 = "java/lang/IllegalStateException"
        · have h := (if_pos e2).symm.trans h
          subst e2
          refine kL_28C C hml hl.1 (c_X4_move hlf hc117) ⟨Nat.le_of_ble_eq_true rfl, Nat.le_of_ble_eq_true rfl⟩ ⟨Nat.le_of_ble_eq_true rfl, Nat.le_of_ble_eq_true rfl⟩ (Nat.le_of_ble_eq_true rfl) hS hW dL_act_117 (fun H locs q9 ce hW hS h91 h92 h93 => ?_)
          refine vx_catch (own := RL) (name := "java/lang/IllegalStateException") (E := "java/lang/IllegalStateException") C.2.2.1 ([⟨0, 384, 385, 71⟩, ⟨0, 384, 391, 73⟩] : List ExceptionTableEntry) (⟨0, 384, 397, 75⟩ : ExceptionTableEntry) ([] : List ExceptionTableEntry) (by rw [hT]; rfl) (fun z hz => by
      simp only [List.mem_cons, List.not_mem_nil, or_false] at hz
      rcases hz with rfl | rfl
      · exact Or.inr ⟨by decide, "java/lang/IndexOutOfBoundsException", C.2.2.2.1 _ q408, C.2.2.2.2.2.2.2.2.2 _ (List.mem_of_getElem? (i := 5) rfl)⟩
      · exact Or.inr ⟨by decide, "java/lang/IllegalArgumentException", C.2.2.2.1 _ q409, C.2.2.2.2.2.2.2.2.2 _ (List.mem_of_getElem? (i := 4) rfl)⟩) (by decide) (by decide) (C.2.2.2.1 _ q410) (va_Nw.use rfl (C.2.2.2.2.2.1 _ (List.mem_append_right _ (List.mem_append_right _ (List.mem_of_getElem? (i := 2) rfl))))) h91 h92 h93 ?_
          refine W.eq (g2 := F0 m 397 ls [.ref q9]) rfl ?_
          refine lv_astore (lv' := [(6, .ref q9)]) hx hb dL_act_397 hl (by decide) rfl (fun ls hl => ?_)
          refine lv_sipush (v := (-9003 : Int32)) hx hb dL_act_399 (by decide) ?_
          cases h
          exact ret_xi C hr hlk hS hW dL_act_402 (Nat.le_of_ble_eq_true rfl) (Nat.le_of_ble_eq_true rfl)
        · have h := (if_neg e2).symm.trans h
          cases h
  refine kL_28R C hml hl.1 (c_X4_move hlf hc117) ⟨Nat.le_of_ble_eq_true rfl, Nat.le_of_ble_eq_true rfl⟩ ⟨Nat.le_of_ble_eq_true rfl, Nat.le_of_ble_eq_true rfl⟩ (Nat.le_of_ble_eq_true rfl) hS hW dL_act_117 (fun H locs hW hS => ?_)
  refine lv_goto (tgt := 384) hx hb dL_act_120 (by decide) ?_
  cases h
  exact ret_xi C hr hlk hS hW dL_act_384 (Nat.le_of_ble_eq_true rfl) (Nat.le_of_ble_eq_true rfl)
def f_L_act_86 (M : Mem) (xs1 : Int32) (xs2 : Int32) (xs3 : Int32) (xs4 : Int32) : Option (Int32 × Mem) :=
  bdc (f_X4_copy M xs1 xs2 xs3 xs4 (0 : Int32)) (fun E87 M87 => if E87 = "java/lang/IndexOutOfBoundsException" then some ((-9001 : Int32), M87) else if E87 = "java/lang/IllegalArgumentException" then some ((-9002 : Int32), M87) else if E87 = "java/lang/IllegalStateException" then some ((-9003 : Int32), M87) else none) (fun r87 M87 => some (r87, M87))
set_option maxHeartbeats 4000000 in
set_option maxRecDepth 100000 in
theorem w_L_act_86 {p : Program} {l : Launch} {e : Env} {s : State} {m : MethodId} {args : Array Value} {below : List Frame} {meth : Method} {c : Code} {Z : Zt} {b : Nat} (C : Cx p s m args c cL_act RL Z b) (hml : c.maxLocals = 7) (hr : meth.sig.returnType = (some .int)) (hlk : meth.locks = false) (hlf : l.stackTraces = false) (hT : c.exceptionTable.toList = tableOf [(0, 384, 385, 71), (0, 384, 391, 73), (0, 384, 397, 75)]) {r' : Int32} {M' : Mem} {M : Mem} {xs1 : Int32} {xs2 : Int32} {xs3 : Int32} {xs4 : Int32} (h : f_L_act_86 M xs1 xs2 xs3 xs4 = some (r', M')) {H : Heap} {locs : List Loc} {ls : Array Slot} (hS : va_S (A0 b) s.heap H locs) (hW : Wd Z b M H) (hl : lv_has ls 7 []) : W p l e rm_L_act s m args below meth c H locs 0 0 (vx_MQ below (Qx Z b (.inr (some (.int r'))) M') (XCx Z b (.inr (some (.int r'))) M') args s 7 42 (A0 b)) (F0 m 86 ls [.int xs4, .int xs3, .int xs2, .int xs1, .ref (b + 0)]) := by
  unfold f_L_act_86 at h
  have hx := C.1
  have hb := C.2.1
  refine lv_iconst (v := (0 : Int32)) hx hb dL_act_86 (by decide) ?_
  rcases bdc_e h with ⟨E87, M87, hc87, h⟩ | ⟨r87, M87, hc87, h⟩
  · by_cases e0 : E87 = "java/lang/IndexOutOfBoundsException"
    · have h := (if_pos e0).symm.trans h
      subst e0
      refine kL_24C C hml hl.1 (c_X4_copy hlf hc87) ⟨Nat.le_of_ble_eq_true rfl, Nat.le_of_ble_eq_true rfl⟩ ⟨Nat.le_of_ble_eq_true rfl, Nat.le_of_ble_eq_true rfl⟩ (Nat.le_of_ble_eq_true rfl) hS hW dL_act_87 (fun H locs q9 ce hW hS h91 h92 h93 => ?_)
      refine vx_catch (own := RL) (name := "java/lang/IndexOutOfBoundsException") (E := "java/lang/IndexOutOfBoundsException") C.2.2.1 ([] : List ExceptionTableEntry) (⟨0, 384, 385, 71⟩ : ExceptionTableEntry) ([⟨0, 384, 391, 73⟩, ⟨0, 384, 397, 75⟩] : List ExceptionTableEntry) (by rw [hT]; rfl) (fun z hz => by cases hz) (by decide) (by decide) (C.2.2.2.1 _ q408) (va_Nw.use rfl (C.2.2.2.2.2.1 _ (List.mem_append_right _ (List.mem_append_right _ (List.mem_of_getElem? (i := 1) rfl))))) h91 h92 h93 ?_
      refine W.eq (g2 := F0 m 385 ls [.ref q9]) rfl ?_
      refine lv_astore (lv' := [(6, .ref q9)]) hx hb dL_act_385 hl (by decide) rfl (fun ls hl => ?_)
      refine lv_sipush (v := (-9001 : Int32)) hx hb dL_act_387 (by decide) ?_
      cases h
      exact ret_xi C hr hlk hS hW dL_act_390 (Nat.le_of_ble_eq_true rfl) (Nat.le_of_ble_eq_true rfl)
    · have h := (if_neg e0).symm.trans h
      by_cases e1 : E87 = "java/lang/IllegalArgumentException"
      · have h := (if_pos e1).symm.trans h
        subst e1
        refine kL_24C C hml hl.1 (c_X4_copy hlf hc87) ⟨Nat.le_of_ble_eq_true rfl, Nat.le_of_ble_eq_true rfl⟩ ⟨Nat.le_of_ble_eq_true rfl, Nat.le_of_ble_eq_true rfl⟩ (Nat.le_of_ble_eq_true rfl) hS hW dL_act_87 (fun H locs q9 ce hW hS h91 h92 h93 => ?_)
        refine vx_catch (own := RL) (name := "java/lang/IllegalArgumentException") (E := "java/lang/IllegalArgumentException") C.2.2.1 ([⟨0, 384, 385, 71⟩] : List ExceptionTableEntry) (⟨0, 384, 391, 73⟩ : ExceptionTableEntry) ([⟨0, 384, 397, 75⟩] : List ExceptionTableEntry) (by rw [hT]; rfl) (fun z hz => by
      simp only [List.mem_cons, List.not_mem_nil, or_false] at hz
      rcases hz with rfl
      · exact Or.inr ⟨by decide, "java/lang/IndexOutOfBoundsException", C.2.2.2.1 _ q408, C.2.2.2.2.2.2.2.2.2 _ (List.mem_of_getElem? (i := 0) rfl)⟩) (by decide) (by decide) (C.2.2.2.1 _ q409) (va_Nw.use rfl (C.2.2.2.2.2.1 _ (List.mem_append_right _ (List.mem_append_right _ (List.mem_of_getElem? (i := 0) rfl))))) h91 h92 h93 ?_
        refine W.eq (g2 := F0 m 391 ls [.ref q9]) rfl ?_
        refine lv_astore (lv' := [(6, .ref q9)]) hx hb dL_act_391 hl (by decide) rfl (fun ls hl => ?_)
        refine lv_sipush (v := (-9002 : Int32)) hx hb dL_act_393 (by decide) ?_
        cases h
        exact ret_xi C hr hlk hS hW dL_act_396 (Nat.le_of_ble_eq_true rfl) (Nat.le_of_ble_eq_true rfl)
      · have h := (if_neg e1).symm.trans h
        by_cases e2 : E87 = "java/lang/IllegalStateException"
        · have h := (if_pos e2).symm.trans h
          subst e2
          refine kL_24C C hml hl.1 (c_X4_copy hlf hc87) ⟨Nat.le_of_ble_eq_true rfl, Nat.le_of_ble_eq_true rfl⟩ ⟨Nat.le_of_ble_eq_true rfl, Nat.le_of_ble_eq_true rfl⟩ (Nat.le_of_ble_eq_true rfl) hS hW dL_act_87 (fun H locs q9 ce hW hS h91 h92 h93 => ?_)
          refine vx_catch (own := RL) (name := "java/lang/IllegalStateException") (E := "java/lang/IllegalStateException") C.2.2.1 ([⟨0, 384, 385, 71⟩, ⟨0, 384, 391, 73⟩] : List ExceptionTableEntry) (⟨0, 384, 397, 75⟩ : ExceptionTableEntry) ([] : List ExceptionTableEntry) (by rw [hT]; rfl) (fun z hz => by
      simp only [List.mem_cons, List.not_mem_nil, or_false] at hz
      rcases hz with rfl | rfl
      · exact Or.inr ⟨by decide, "java/lang/IndexOutOfBoundsException", C.2.2.2.1 _ q408, C.2.2.2.2.2.2.2.2.2 _ (List.mem_of_getElem? (i := 5) rfl)⟩
      · exact Or.inr ⟨by decide, "java/lang/IllegalArgumentException", C.2.2.2.1 _ q409, C.2.2.2.2.2.2.2.2.2 _ (List.mem_of_getElem? (i := 4) rfl)⟩) (by decide) (by decide) (C.2.2.2.1 _ q410) (va_Nw.use rfl (C.2.2.2.2.2.1 _ (List.mem_append_right _ (List.mem_append_right _ (List.mem_of_getElem? (i := 2) rfl))))) h91 h92 h93 ?_
          refine W.eq (g2 := F0 m 397 ls [.ref q9]) rfl ?_
          refine lv_astore (lv' := [(6, .ref q9)]) hx hb dL_act_397 hl (by decide) rfl (fun ls hl => ?_)
          refine lv_sipush (v := (-9003 : Int32)) hx hb dL_act_399 (by decide) ?_
          cases h
          exact ret_xi C hr hlk hS hW dL_act_402 (Nat.le_of_ble_eq_true rfl) (Nat.le_of_ble_eq_true rfl)
        · have h := (if_neg e2).symm.trans h
          cases h
  refine kL_24R C hml hl.1 (c_X4_copy hlf hc87) ⟨Nat.le_of_ble_eq_true rfl, Nat.le_of_ble_eq_true rfl⟩ ⟨Nat.le_of_ble_eq_true rfl, Nat.le_of_ble_eq_true rfl⟩ (Nat.le_of_ble_eq_true rfl) hS hW dL_act_87 (fun H locs hW hS => ?_)
  refine lv_goto (tgt := 384) hx hb dL_act_90 (by decide) ?_
  cases h
  exact ret_xi C hr hlk hS hW dL_act_384 (Nat.le_of_ble_eq_true rfl) (Nat.le_of_ble_eq_true rfl)
def f_L_act_0 (M : Mem) (x1 : Int32) (x2 : Int32) (x3 : Int32) (x4 : Int32) (x5 : Int32) : Option (Int32 × Mem) :=
  if x1 = 0 then bdc (f_X4_makeCollection M x2 x3 x4) (fun E9 M9 => if E9 = "java/lang/IndexOutOfBoundsException" then some ((-9001 : Int32), M9) else if E9 = "java/lang/IllegalArgumentException" then some ((-9002 : Int32), M9) else if E9 = "java/lang/IllegalStateException" then some ((-9003 : Int32), M9) else none) (fun r9 M9 => some (r9, M9)) else if x1 = (1 : Int32) then bdc (f_X4_put M x2 x3 x4 (-1 : Int32) x5) (fun E28 M28 => if E28 = "java/lang/IndexOutOfBoundsException" then some ((-9001 : Int32), M28) else if E28 = "java/lang/IllegalArgumentException" then some ((-9002 : Int32), M28) else if E28 = "java/lang/IllegalStateException" then some ((-9003 : Int32), M28) else none) (fun r28 M28 => some (r28, M28)) else if x1 = (2 : Int32) then bdc (f_X4_delete M x2 x3 x4) (fun E44 M44 => if E44 = "java/lang/IndexOutOfBoundsException" then some ((-9001 : Int32), M44) else if E44 = "java/lang/IllegalArgumentException" then some ((-9002 : Int32), M44) else if E44 = "java/lang/IllegalStateException" then some ((-9003 : Int32), M44) else none) (fun r44 M44 => some (r44, M44)) else if x1 = (3 : Int32) then bdc (f_X4_failureAt M x2) (fun E57 M57 => if E57 = "java/lang/IndexOutOfBoundsException" then some ((-9001 : Int32), M57) else if E57 = "java/lang/IllegalArgumentException" then some ((-9002 : Int32), M57) else if E57 = "java/lang/IllegalStateException" then some ((-9003 : Int32), M57) else none) (fun r57 M57 => some (r57, M57)) else if x1 = (4 : Int32) then (if (x5 - x5 / (2 : Int32) * (2 : Int32)) = (1 : Int32) then f_L_act_86 M x2 x3 x4 (1 : Int32) else f_L_act_86 M x2 x3 x4 (0 : Int32)) else if x1 = (5 : Int32) then (if (x5 - x5 / (2 : Int32) * (2 : Int32)) = (1 : Int32) then f_L_act_116 M x2 x3 x4 (1 : Int32) else f_L_act_116 M x2 x3 x4 (0 : Int32)) else if x1 = (6 : Int32) then bdc (f_X4_kindOf M x2) (fun E131 M131 => if E131 = "java/lang/IndexOutOfBoundsException" then some ((-9001 : Int32), M131) else if E131 = "java/lang/IllegalArgumentException" then some ((-9002 : Int32), M131) else if E131 = "java/lang/IllegalStateException" then some ((-9003 : Int32), M131) else none) (fun r131 M131 => some (r131, M131)) else if x1 = (7 : Int32) then bdc (f_X4_content M x2) (fun E145 M145 => if E145 = "java/lang/IndexOutOfBoundsException" then some ((-9001 : Int32), M145) else if E145 = "java/lang/IllegalArgumentException" then some ((-9002 : Int32), M145) else if E145 = "java/lang/IllegalStateException" then some ((-9003 : Int32), M145) else none) (fun r145 M145 => some (r145, M145)) else if x1 = (8 : Int32) then bdc (f_X4_members M x2) (fun E159 M159 => if E159 = "java/lang/IndexOutOfBoundsException" then some ((-9001 : Int32), M159) else if E159 = "java/lang/IllegalArgumentException" then some ((-9002 : Int32), M159) else if E159 = "java/lang/IllegalStateException" then some ((-9003 : Int32), M159) else none) (fun r159 M159 => some (r159, M159)) else if x1 = (9 : Int32) then bdc (f_X4_memberAt M x2 x3) (fun E174 M174 => if E174 = "java/lang/IndexOutOfBoundsException" then some ((-9001 : Int32), M174) else if E174 = "java/lang/IllegalArgumentException" then some ((-9002 : Int32), M174) else if E174 = "java/lang/IllegalStateException" then some ((-9003 : Int32), M174) else none) (fun r174 M174 => some (r174, M174)) else if x1 = (10 : Int32) then bdc (f_X4_order M x2 x3 x4 x5) (fun E193 M193 => if E193 = "java/lang/IndexOutOfBoundsException" then some ((-9001 : Int32), M193) else if E193 = "java/lang/IllegalArgumentException" then some ((-9002 : Int32), M193) else if E193 = "java/lang/IllegalStateException" then some ((-9003 : Int32), M193) else none) (fun r193 M193 => some (r193, M193)) else if x1 = (11 : Int32) then bdc (f_X4_lock M x2 x3 (0 : Int32) (0 : Int32) x4 x5) (fun E214 M214 => if E214 = "java/lang/IndexOutOfBoundsException" then some ((-9001 : Int32), M214) else if E214 = "java/lang/IllegalArgumentException" then some ((-9002 : Int32), M214) else if E214 = "java/lang/IllegalStateException" then some ((-9003 : Int32), M214) else none) (fun r214 M214 => some (r214, M214)) else if x1 = (12 : Int32) then bdc (f_X4_refresh M x2 x3 x4) (fun E231 M231 => if E231 = "java/lang/IndexOutOfBoundsException" then some ((-9001 : Int32), M231) else if E231 = "java/lang/IllegalArgumentException" then some ((-9002 : Int32), M231) else if E231 = "java/lang/IllegalStateException" then some ((-9003 : Int32), M231) else none) (fun r231 M231 => some (r231, M231)) else if x1 = (13 : Int32) then bdc (f_X4_pass M x2) (fun E245 M245 => if E245 = "java/lang/IndexOutOfBoundsException" then some ((-9001 : Int32), M245) else if E245 = "java/lang/IllegalArgumentException" then some ((-9002 : Int32), M245) else if E245 = "java/lang/IllegalStateException" then some ((-9003 : Int32), M245) else none) (fun r245 M245 => some (r245, M245)) else if x1 = (14 : Int32) then bdc (f_X4_covering M x2) (fun E259 M259 => if E259 = "java/lang/IndexOutOfBoundsException" then some ((-9001 : Int32), M259) else if E259 = "java/lang/IllegalArgumentException" then some ((-9002 : Int32), M259) else if E259 = "java/lang/IllegalStateException" then some ((-9003 : Int32), M259) else none) (fun r259 M259 => some (r259, M259)) else if x1 = (15 : Int32) then bdc (f_X4_mayChange M x2 x3 x4) (fun E276 M276 => if E276 = "java/lang/IndexOutOfBoundsException" then some ((-9001 : Int32), M276) else if E276 = "java/lang/IllegalArgumentException" then some ((-9002 : Int32), M276) else if E276 = "java/lang/IllegalStateException" then some ((-9003 : Int32), M276) else none) (fun r276 M276 => if r276 = 0 then some ((0 : Int32), M276) else some ((1 : Int32), M276)) else if x1 = (16 : Int32) then bdc (f_X4_keep M x2) (fun E298 M298 => if E298 = "java/lang/IndexOutOfBoundsException" then some ((-9001 : Int32), M298) else if E298 = "java/lang/IllegalArgumentException" then some ((-9002 : Int32), M298) else if E298 = "java/lang/IllegalStateException" then some ((-9003 : Int32), M298) else none) (fun r298 M298 => some (r298, M298)) else if x1 = (17 : Int32) then bdc (f_X4_restore M x2 x3 x4 x5) (fun E317 M317 => if E317 = "java/lang/IndexOutOfBoundsException" then some ((-9001 : Int32), M317) else if E317 = "java/lang/IllegalArgumentException" then some ((-9002 : Int32), M317) else if E317 = "java/lang/IllegalStateException" then some ((-9003 : Int32), M317) else none) (fun r317 M317 => some (r317, M317)) else if x1 = (18 : Int32) then bdc (f_X4_put M x2 x3 (0 : Int32) x4 x5) (fun E337 M337 => if E337 = "java/lang/IndexOutOfBoundsException" then some ((-9001 : Int32), M337) else if E337 = "java/lang/IllegalArgumentException" then some ((-9002 : Int32), M337) else if E337 = "java/lang/IllegalStateException" then some ((-9003 : Int32), M337) else none) (fun r337 M337 => some (r337, M337)) else if x1 = (19 : Int32) then (if x4 = (1 : Int32) then f_L_act_364 M x5 x2 x3 (1 : Int32) (1 : Int32) else f_L_act_364 M x5 x2 x3 (1 : Int32) (0 : Int32)) else bdc (f_X4_copy M (0 : Int32) x2 x3 (1 : Int32) x4) (fun E381 M381 => if E381 = "java/lang/IndexOutOfBoundsException" then some ((-9001 : Int32), M381) else if E381 = "java/lang/IllegalArgumentException" then some ((-9002 : Int32), M381) else if E381 = "java/lang/IllegalStateException" then some ((-9003 : Int32), M381) else none) (fun r381 M381 => some (r381, M381))
set_option maxHeartbeats 4000000 in
set_option maxRecDepth 100000 in
theorem w_L_act_0 {p : Program} {l : Launch} {e : Env} {s : State} {m : MethodId} {args : Array Value} {below : List Frame} {meth : Method} {c : Code} {Z : Zt} {b : Nat} (C : Cx p s m args c cL_act RL Z b) (hml : c.maxLocals = 7) (hr : meth.sig.returnType = (some .int)) (hlk : meth.locks = false) (hlf : l.stackTraces = false) (hT : c.exceptionTable.toList = tableOf [(0, 384, 385, 71), (0, 384, 391, 73), (0, 384, 397, 75)]) {r' : Int32} {M' : Mem} {M : Mem} {x1 : Int32} {x2 : Int32} {x3 : Int32} {x4 : Int32} {x5 : Int32} (h : f_L_act_0 M x1 x2 x3 x4 x5 = some (r', M')) {H : Heap} {locs : List Loc} {ls : Array Slot} (hS : va_S (A0 b) s.heap H locs) (hW : Wd Z b M H) (hl : lv_has ls 7 [(0, .ref (b + 0)), (1, .int x1), (2, .int x2), (3, .int x3), (4, .int x4), (5, .int x5)]) : W p l e rm_L_act s m args below meth c H locs 0 0 (vx_MQ below (Qx Z b (.inr (some (.int r'))) M') (XCx Z b (.inr (some (.int r'))) M') args s 7 42 (A0 b)) (F0 m 0 ls []) := by
  unfold f_L_act_0 at h
  have hx := C.1
  have hb := C.2.1
  refine lv_iload_n hx hb dL_act_0 rfl (lv_at hl 1 rfl) ?_
  refine lv_if_ne (tgt := 15) hx hb dL_act_1 (by decide) (fun c1 => ?_) (fun c1 => ?_)
  · have h := (if_neg c1).symm.trans h
    refine lv_iload_n hx hb dL_act_15 rfl (lv_at hl 1 rfl) ?_
    refine lv_iconst (v := (1 : Int32)) hx hb dL_act_16 (by decide) ?_
    refine lv_icmp_ne (tgt := 34) hx hb dL_act_17 (by decide) (fun c17 => ?_) (fun c17 => ?_)
    · have h := (if_neg c17).symm.trans h
      refine lv_iload_n hx hb dL_act_34 rfl (lv_at hl 1 rfl) ?_
      refine lv_iconst (v := (2 : Int32)) hx hb dL_act_35 (by decide) ?_
      refine lv_icmp_ne (tgt := 50) hx hb dL_act_36 (by decide) (fun c36 => ?_) (fun c36 => ?_)
      · have h := (if_neg c36).symm.trans h
        refine lv_iload_n hx hb dL_act_50 rfl (lv_at hl 1 rfl) ?_
        refine lv_iconst (v := (3 : Int32)) hx hb dL_act_51 (by decide) ?_
        refine lv_icmp_ne (tgt := 63) hx hb dL_act_52 (by decide) (fun c52 => ?_) (fun c52 => ?_)
        · have h := (if_neg c52).symm.trans h
          refine lv_iload_n hx hb dL_act_63 rfl (lv_at hl 1 rfl) ?_
          refine lv_iconst (v := (4 : Int32)) hx hb dL_act_64 (by decide) ?_
          refine lv_icmp_ne (tgt := 93) hx hb dL_act_65 (by decide) (fun c65 => ?_) (fun c65 => ?_)
          · have h := (if_neg c65).symm.trans h
            refine lv_iload_n hx hb dL_act_93 rfl (lv_at hl 1 rfl) ?_
            refine lv_iconst (v := (5 : Int32)) hx hb dL_act_94 (by decide) ?_
            refine lv_icmp_ne (tgt := 123) hx hb dL_act_95 (by decide) (fun c95 => ?_) (fun c95 => ?_)
            · have h := (if_neg c95).symm.trans h
              refine lv_iload_n hx hb dL_act_123 rfl (lv_at hl 1 rfl) ?_
              refine lv_bipush (v := (6 : Int32)) hx hb dL_act_124 (by decide) ?_
              refine lv_icmp_ne (tgt := 137) hx hb dL_act_126 (by decide) (fun c126 => ?_) (fun c126 => ?_)
              · have h := (if_neg c126).symm.trans h
                refine lv_iload_n hx hb dL_act_137 rfl (lv_at hl 1 rfl) ?_
                refine lv_bipush (v := (7 : Int32)) hx hb dL_act_138 (by decide) ?_
                refine lv_icmp_ne (tgt := 151) hx hb dL_act_140 (by decide) (fun c140 => ?_) (fun c140 => ?_)
                · have h := (if_neg c140).symm.trans h
                  refine lv_iload_n hx hb dL_act_151 rfl (lv_at hl 1 rfl) ?_
                  refine lv_bipush (v := (8 : Int32)) hx hb dL_act_152 (by decide) ?_
                  refine lv_icmp_ne (tgt := 165) hx hb dL_act_154 (by decide) (fun c154 => ?_) (fun c154 => ?_)
                  · have h := (if_neg c154).symm.trans h
                    refine lv_iload_n hx hb dL_act_165 rfl (lv_at hl 1 rfl) ?_
                    refine lv_bipush (v := (9 : Int32)) hx hb dL_act_166 (by decide) ?_
                    refine lv_icmp_ne (tgt := 180) hx hb dL_act_168 (by decide) (fun c168 => ?_) (fun c168 => ?_)
                    · have h := (if_neg c168).symm.trans h
                      refine lv_iload_n hx hb dL_act_180 rfl (lv_at hl 1 rfl) ?_
                      refine lv_bipush (v := (10 : Int32)) hx hb dL_act_181 (by decide) ?_
                      refine lv_icmp_ne (tgt := 199) hx hb dL_act_183 (by decide) (fun c183 => ?_) (fun c183 => ?_)
                      · have h := (if_neg c183).symm.trans h
                        refine lv_iload_n hx hb dL_act_199 rfl (lv_at hl 1 rfl) ?_
                        refine lv_bipush (v := (11 : Int32)) hx hb dL_act_200 (by decide) ?_
                        refine lv_icmp_ne (tgt := 220) hx hb dL_act_202 (by decide) (fun c202 => ?_) (fun c202 => ?_)
                        · have h := (if_neg c202).symm.trans h
                          refine lv_iload_n hx hb dL_act_220 rfl (lv_at hl 1 rfl) ?_
                          refine lv_bipush (v := (12 : Int32)) hx hb dL_act_221 (by decide) ?_
                          refine lv_icmp_ne (tgt := 237) hx hb dL_act_223 (by decide) (fun c223 => ?_) (fun c223 => ?_)
                          · have h := (if_neg c223).symm.trans h
                            refine lv_iload_n hx hb dL_act_237 rfl (lv_at hl 1 rfl) ?_
                            refine lv_bipush (v := (13 : Int32)) hx hb dL_act_238 (by decide) ?_
                            refine lv_icmp_ne (tgt := 251) hx hb dL_act_240 (by decide) (fun c240 => ?_) (fun c240 => ?_)
                            · have h := (if_neg c240).symm.trans h
                              refine lv_iload_n hx hb dL_act_251 rfl (lv_at hl 1 rfl) ?_
                              refine lv_bipush (v := (14 : Int32)) hx hb dL_act_252 (by decide) ?_
                              refine lv_icmp_ne (tgt := 265) hx hb dL_act_254 (by decide) (fun c254 => ?_) (fun c254 => ?_)
                              · have h := (if_neg c254).symm.trans h
                                refine lv_iload_n hx hb dL_act_265 rfl (lv_at hl 1 rfl) ?_
                                refine lv_bipush (v := (15 : Int32)) hx hb dL_act_266 (by decide) ?_
                                refine lv_icmp_ne (tgt := 290) hx hb dL_act_268 (by decide) (fun c268 => ?_) (fun c268 => ?_)
                                · have h := (if_neg c268).symm.trans h
                                  refine lv_iload_n hx hb dL_act_290 rfl (lv_at hl 1 rfl) ?_
                                  refine lv_bipush (v := (16 : Int32)) hx hb dL_act_291 (by decide) ?_
                                  refine lv_icmp_ne (tgt := 304) hx hb dL_act_293 (by decide) (fun c293 => ?_) (fun c293 => ?_)
                                  · have h := (if_neg c293).symm.trans h
                                    refine lv_iload_n hx hb dL_act_304 rfl (lv_at hl 1 rfl) ?_
                                    refine lv_bipush (v := (17 : Int32)) hx hb dL_act_305 (by decide) ?_
                                    refine lv_icmp_ne (tgt := 323) hx hb dL_act_307 (by decide) (fun c307 => ?_) (fun c307 => ?_)
                                    · have h := (if_neg c307).symm.trans h
                                      refine lv_iload_n hx hb dL_act_323 rfl (lv_at hl 1 rfl) ?_
                                      refine lv_bipush (v := (18 : Int32)) hx hb dL_act_324 (by decide) ?_
                                      refine lv_icmp_ne (tgt := 343) hx hb dL_act_326 (by decide) (fun c326 => ?_) (fun c326 => ?_)
                                      · have h := (if_neg c326).symm.trans h
                                        refine lv_iload_n hx hb dL_act_343 rfl (lv_at hl 1 rfl) ?_
                                        refine lv_bipush (v := (19 : Int32)) hx hb dL_act_344 (by decide) ?_
                                        refine lv_icmp_ne (tgt := 374) hx hb dL_act_346 (by decide) (fun c346 => ?_) (fun c346 => ?_)
                                        · have h := (if_neg c346).symm.trans h
                                          refine lv_aload_n hx hb dL_act_374 rfl (lv_at hl 0 rfl) ?_
                                          refine lv_iconst (v := (0 : Int32)) hx hb dL_act_375 (by decide) ?_
                                          refine lv_iload_n hx hb dL_act_376 rfl (lv_at hl 2 rfl) ?_
                                          refine lv_iload_n hx hb dL_act_377 rfl (lv_at hl 3 rfl) ?_
                                          refine lv_iconst (v := (1 : Int32)) hx hb dL_act_378 (by decide) ?_
                                          refine lv_iload hx hb dL_act_379 (lv_at hl 4 rfl) ?_
                                          rcases bdc_e h with ⟨E381, M381, hc381, h⟩ | ⟨r381, M381, hc381, h⟩
                                          · by_cases e0 : E381 = "java/lang/IndexOutOfBoundsException"
                                            · have h := (if_pos e0).symm.trans h
                                              subst e0
                                              refine kL_24C C hml hl.1 (c_X4_copy hlf hc381) ⟨Nat.le_of_ble_eq_true rfl, Nat.le_of_ble_eq_true rfl⟩ ⟨Nat.le_of_ble_eq_true rfl, Nat.le_of_ble_eq_true rfl⟩ (Nat.le_of_ble_eq_true rfl) hS hW dL_act_381 (fun H locs q9 ce hW hS h91 h92 h93 => ?_)
                                              refine vx_catch (own := RL) (name := "java/lang/IndexOutOfBoundsException") (E := "java/lang/IndexOutOfBoundsException") C.2.2.1 ([] : List ExceptionTableEntry) (⟨0, 384, 385, 71⟩ : ExceptionTableEntry) ([⟨0, 384, 391, 73⟩, ⟨0, 384, 397, 75⟩] : List ExceptionTableEntry) (by rw [hT]; rfl) (fun z hz => by cases hz) (by decide) (by decide) (C.2.2.2.1 _ q408) (va_Nw.use rfl (C.2.2.2.2.2.1 _ (List.mem_append_right _ (List.mem_append_right _ (List.mem_of_getElem? (i := 1) rfl))))) h91 h92 h93 ?_
                                              refine W.eq (g2 := F0 m 385 ls [.ref q9]) rfl ?_
                                              refine lv_astore (lv' := [(6, .ref q9), (0, .ref (b + 0)), (1, .int x1), (2, .int x2), (3, .int x3), (4, .int x4), (5, .int x5)]) hx hb dL_act_385 hl (by decide) rfl (fun ls hl => ?_)
                                              refine lv_sipush (v := (-9001 : Int32)) hx hb dL_act_387 (by decide) ?_
                                              cases h
                                              exact ret_xi C hr hlk hS hW dL_act_390 (Nat.le_of_ble_eq_true rfl) (Nat.le_of_ble_eq_true rfl)
                                            · have h := (if_neg e0).symm.trans h
                                              by_cases e1 : E381 = "java/lang/IllegalArgumentException"
                                              · have h := (if_pos e1).symm.trans h
                                                subst e1
                                                refine kL_24C C hml hl.1 (c_X4_copy hlf hc381) ⟨Nat.le_of_ble_eq_true rfl, Nat.le_of_ble_eq_true rfl⟩ ⟨Nat.le_of_ble_eq_true rfl, Nat.le_of_ble_eq_true rfl⟩ (Nat.le_of_ble_eq_true rfl) hS hW dL_act_381 (fun H locs q9 ce hW hS h91 h92 h93 => ?_)
                                                refine vx_catch (own := RL) (name := "java/lang/IllegalArgumentException") (E := "java/lang/IllegalArgumentException") C.2.2.1 ([⟨0, 384, 385, 71⟩] : List ExceptionTableEntry) (⟨0, 384, 391, 73⟩ : ExceptionTableEntry) ([⟨0, 384, 397, 75⟩] : List ExceptionTableEntry) (by rw [hT]; rfl) (fun z hz => by
      simp only [List.mem_cons, List.not_mem_nil, or_false] at hz
      rcases hz with rfl
      · exact Or.inr ⟨by decide, "java/lang/IndexOutOfBoundsException", C.2.2.2.1 _ q408, C.2.2.2.2.2.2.2.2.2 _ (List.mem_of_getElem? (i := 0) rfl)⟩) (by decide) (by decide) (C.2.2.2.1 _ q409) (va_Nw.use rfl (C.2.2.2.2.2.1 _ (List.mem_append_right _ (List.mem_append_right _ (List.mem_of_getElem? (i := 0) rfl))))) h91 h92 h93 ?_
                                                refine W.eq (g2 := F0 m 391 ls [.ref q9]) rfl ?_
                                                refine lv_astore (lv' := [(6, .ref q9), (0, .ref (b + 0)), (1, .int x1), (2, .int x2), (3, .int x3), (4, .int x4), (5, .int x5)]) hx hb dL_act_391 hl (by decide) rfl (fun ls hl => ?_)
                                                refine lv_sipush (v := (-9002 : Int32)) hx hb dL_act_393 (by decide) ?_
                                                cases h
                                                exact ret_xi C hr hlk hS hW dL_act_396 (Nat.le_of_ble_eq_true rfl) (Nat.le_of_ble_eq_true rfl)
                                              · have h := (if_neg e1).symm.trans h
                                                by_cases e2 : E381 = "java/lang/IllegalStateException"
                                                · have h := (if_pos e2).symm.trans h
                                                  subst e2
                                                  refine kL_24C C hml hl.1 (c_X4_copy hlf hc381) ⟨Nat.le_of_ble_eq_true rfl, Nat.le_of_ble_eq_true rfl⟩ ⟨Nat.le_of_ble_eq_true rfl, Nat.le_of_ble_eq_true rfl⟩ (Nat.le_of_ble_eq_true rfl) hS hW dL_act_381 (fun H locs q9 ce hW hS h91 h92 h93 => ?_)
                                                  refine vx_catch (own := RL) (name := "java/lang/IllegalStateException") (E := "java/lang/IllegalStateException") C.2.2.1 ([⟨0, 384, 385, 71⟩, ⟨0, 384, 391, 73⟩] : List ExceptionTableEntry) (⟨0, 384, 397, 75⟩ : ExceptionTableEntry) ([] : List ExceptionTableEntry) (by rw [hT]; rfl) (fun z hz => by
      simp only [List.mem_cons, List.not_mem_nil, or_false] at hz
      rcases hz with rfl | rfl
      · exact Or.inr ⟨by decide, "java/lang/IndexOutOfBoundsException", C.2.2.2.1 _ q408, C.2.2.2.2.2.2.2.2.2 _ (List.mem_of_getElem? (i := 5) rfl)⟩
      · exact Or.inr ⟨by decide, "java/lang/IllegalArgumentException", C.2.2.2.1 _ q409, C.2.2.2.2.2.2.2.2.2 _ (List.mem_of_getElem? (i := 4) rfl)⟩) (by decide) (by decide) (C.2.2.2.1 _ q410) (va_Nw.use rfl (C.2.2.2.2.2.1 _ (List.mem_append_right _ (List.mem_append_right _ (List.mem_of_getElem? (i := 2) rfl))))) h91 h92 h93 ?_
                                                  refine W.eq (g2 := F0 m 397 ls [.ref q9]) rfl ?_
                                                  refine lv_astore (lv' := [(6, .ref q9), (0, .ref (b + 0)), (1, .int x1), (2, .int x2), (3, .int x3), (4, .int x4), (5, .int x5)]) hx hb dL_act_397 hl (by decide) rfl (fun ls hl => ?_)
                                                  refine lv_sipush (v := (-9003 : Int32)) hx hb dL_act_399 (by decide) ?_
                                                  cases h
                                                  exact ret_xi C hr hlk hS hW dL_act_402 (Nat.le_of_ble_eq_true rfl) (Nat.le_of_ble_eq_true rfl)
                                                · have h := (if_neg e2).symm.trans h
                                                  cases h
                                          refine kL_24R C hml hl.1 (c_X4_copy hlf hc381) ⟨Nat.le_of_ble_eq_true rfl, Nat.le_of_ble_eq_true rfl⟩ ⟨Nat.le_of_ble_eq_true rfl, Nat.le_of_ble_eq_true rfl⟩ (Nat.le_of_ble_eq_true rfl) hS hW dL_act_381 (fun H locs hW hS => ?_)
                                          cases h
                                          exact ret_xi C hr hlk hS hW dL_act_384 (Nat.le_of_ble_eq_true rfl) (Nat.le_of_ble_eq_true rfl)
                                        · have h := (if_pos c346).symm.trans h
                                          refine lv_aload_n hx hb dL_act_349 rfl (lv_at hl 0 rfl) ?_
                                          refine lv_iload_n hx hb dL_act_350 rfl (lv_at hl 2 rfl) ?_
                                          refine lv_iload_n hx hb dL_act_351 rfl (lv_at hl 3 rfl) ?_
                                          refine lv_iconst (v := (1 : Int32)) hx hb dL_act_352 (by decide) ?_
                                          refine lv_iload hx hb dL_act_353 (lv_at hl 4 rfl) ?_
                                          refine lv_iconst (v := (1 : Int32)) hx hb dL_act_355 (by decide) ?_
                                          refine lv_icmp_ne (tgt := 363) hx hb dL_act_356 (by decide) (fun c356 => ?_) (fun c356 => ?_)
                                          · have h := (if_neg c356).symm.trans h
                                            refine lv_iconst (v := (0 : Int32)) hx hb dL_act_363 (by decide) ?_
                                            exact w_L_act_364 C hml hr hlk hlf hT h hS hW (lv_sub hl [5] rfl)
                                          · have h := (if_pos c356).symm.trans h
                                            refine lv_iconst (v := (1 : Int32)) hx hb dL_act_359 (by decide) ?_
                                            refine lv_goto (tgt := 364) hx hb dL_act_360 (by decide) ?_
                                            exact w_L_act_364 C hml hr hlk hlf hT h hS hW (lv_sub hl [5] rfl)
                                      · have h := (if_pos c326).symm.trans h
                                        refine lv_aload_n hx hb dL_act_329 rfl (lv_at hl 0 rfl) ?_
                                        refine lv_iload_n hx hb dL_act_330 rfl (lv_at hl 2 rfl) ?_
                                        refine lv_iload_n hx hb dL_act_331 rfl (lv_at hl 3 rfl) ?_
                                        refine lv_iconst (v := (0 : Int32)) hx hb dL_act_332 (by decide) ?_
                                        refine lv_iload hx hb dL_act_333 (lv_at hl 4 rfl) ?_
                                        refine lv_iload hx hb dL_act_335 (lv_at hl 5 rfl) ?_
                                        rcases bdc_e h with ⟨E337, M337, hc337, h⟩ | ⟨r337, M337, hc337, h⟩
                                        · by_cases e0 : E337 = "java/lang/IndexOutOfBoundsException"
                                          · have h := (if_pos e0).symm.trans h
                                            subst e0
                                            refine kL_13C C hml hl.1 (c_X4_put hlf hc337) ⟨Nat.le_of_ble_eq_true rfl, Nat.le_of_ble_eq_true rfl⟩ ⟨Nat.le_of_ble_eq_true rfl, Nat.le_of_ble_eq_true rfl⟩ (Nat.le_of_ble_eq_true rfl) hS hW dL_act_337 (fun H locs q9 ce hW hS h91 h92 h93 => ?_)
                                            refine vx_catch (own := RL) (name := "java/lang/IndexOutOfBoundsException") (E := "java/lang/IndexOutOfBoundsException") C.2.2.1 ([] : List ExceptionTableEntry) (⟨0, 384, 385, 71⟩ : ExceptionTableEntry) ([⟨0, 384, 391, 73⟩, ⟨0, 384, 397, 75⟩] : List ExceptionTableEntry) (by rw [hT]; rfl) (fun z hz => by cases hz) (by decide) (by decide) (C.2.2.2.1 _ q408) (va_Nw.use rfl (C.2.2.2.2.2.1 _ (List.mem_append_right _ (List.mem_append_right _ (List.mem_of_getElem? (i := 1) rfl))))) h91 h92 h93 ?_
                                            refine W.eq (g2 := F0 m 385 ls [.ref q9]) rfl ?_
                                            refine lv_astore (lv' := [(6, .ref q9), (0, .ref (b + 0)), (1, .int x1), (2, .int x2), (3, .int x3), (4, .int x4), (5, .int x5)]) hx hb dL_act_385 hl (by decide) rfl (fun ls hl => ?_)
                                            refine lv_sipush (v := (-9001 : Int32)) hx hb dL_act_387 (by decide) ?_
                                            cases h
                                            exact ret_xi C hr hlk hS hW dL_act_390 (Nat.le_of_ble_eq_true rfl) (Nat.le_of_ble_eq_true rfl)
                                          · have h := (if_neg e0).symm.trans h
                                            by_cases e1 : E337 = "java/lang/IllegalArgumentException"
                                            · have h := (if_pos e1).symm.trans h
                                              subst e1
                                              refine kL_13C C hml hl.1 (c_X4_put hlf hc337) ⟨Nat.le_of_ble_eq_true rfl, Nat.le_of_ble_eq_true rfl⟩ ⟨Nat.le_of_ble_eq_true rfl, Nat.le_of_ble_eq_true rfl⟩ (Nat.le_of_ble_eq_true rfl) hS hW dL_act_337 (fun H locs q9 ce hW hS h91 h92 h93 => ?_)
                                              refine vx_catch (own := RL) (name := "java/lang/IllegalArgumentException") (E := "java/lang/IllegalArgumentException") C.2.2.1 ([⟨0, 384, 385, 71⟩] : List ExceptionTableEntry) (⟨0, 384, 391, 73⟩ : ExceptionTableEntry) ([⟨0, 384, 397, 75⟩] : List ExceptionTableEntry) (by rw [hT]; rfl) (fun z hz => by
      simp only [List.mem_cons, List.not_mem_nil, or_false] at hz
      rcases hz with rfl
      · exact Or.inr ⟨by decide, "java/lang/IndexOutOfBoundsException", C.2.2.2.1 _ q408, C.2.2.2.2.2.2.2.2.2 _ (List.mem_of_getElem? (i := 0) rfl)⟩) (by decide) (by decide) (C.2.2.2.1 _ q409) (va_Nw.use rfl (C.2.2.2.2.2.1 _ (List.mem_append_right _ (List.mem_append_right _ (List.mem_of_getElem? (i := 0) rfl))))) h91 h92 h93 ?_
                                              refine W.eq (g2 := F0 m 391 ls [.ref q9]) rfl ?_
                                              refine lv_astore (lv' := [(6, .ref q9), (0, .ref (b + 0)), (1, .int x1), (2, .int x2), (3, .int x3), (4, .int x4), (5, .int x5)]) hx hb dL_act_391 hl (by decide) rfl (fun ls hl => ?_)
                                              refine lv_sipush (v := (-9002 : Int32)) hx hb dL_act_393 (by decide) ?_
                                              cases h
                                              exact ret_xi C hr hlk hS hW dL_act_396 (Nat.le_of_ble_eq_true rfl) (Nat.le_of_ble_eq_true rfl)
                                            · have h := (if_neg e1).symm.trans h
                                              by_cases e2 : E337 = "java/lang/IllegalStateException"
                                              · have h := (if_pos e2).symm.trans h
                                                subst e2
                                                refine kL_13C C hml hl.1 (c_X4_put hlf hc337) ⟨Nat.le_of_ble_eq_true rfl, Nat.le_of_ble_eq_true rfl⟩ ⟨Nat.le_of_ble_eq_true rfl, Nat.le_of_ble_eq_true rfl⟩ (Nat.le_of_ble_eq_true rfl) hS hW dL_act_337 (fun H locs q9 ce hW hS h91 h92 h93 => ?_)
                                                refine vx_catch (own := RL) (name := "java/lang/IllegalStateException") (E := "java/lang/IllegalStateException") C.2.2.1 ([⟨0, 384, 385, 71⟩, ⟨0, 384, 391, 73⟩] : List ExceptionTableEntry) (⟨0, 384, 397, 75⟩ : ExceptionTableEntry) ([] : List ExceptionTableEntry) (by rw [hT]; rfl) (fun z hz => by
      simp only [List.mem_cons, List.not_mem_nil, or_false] at hz
      rcases hz with rfl | rfl
      · exact Or.inr ⟨by decide, "java/lang/IndexOutOfBoundsException", C.2.2.2.1 _ q408, C.2.2.2.2.2.2.2.2.2 _ (List.mem_of_getElem? (i := 5) rfl)⟩
      · exact Or.inr ⟨by decide, "java/lang/IllegalArgumentException", C.2.2.2.1 _ q409, C.2.2.2.2.2.2.2.2.2 _ (List.mem_of_getElem? (i := 4) rfl)⟩) (by decide) (by decide) (C.2.2.2.1 _ q410) (va_Nw.use rfl (C.2.2.2.2.2.1 _ (List.mem_append_right _ (List.mem_append_right _ (List.mem_of_getElem? (i := 2) rfl))))) h91 h92 h93 ?_
                                                refine W.eq (g2 := F0 m 397 ls [.ref q9]) rfl ?_
                                                refine lv_astore (lv' := [(6, .ref q9), (0, .ref (b + 0)), (1, .int x1), (2, .int x2), (3, .int x3), (4, .int x4), (5, .int x5)]) hx hb dL_act_397 hl (by decide) rfl (fun ls hl => ?_)
                                                refine lv_sipush (v := (-9003 : Int32)) hx hb dL_act_399 (by decide) ?_
                                                cases h
                                                exact ret_xi C hr hlk hS hW dL_act_402 (Nat.le_of_ble_eq_true rfl) (Nat.le_of_ble_eq_true rfl)
                                              · have h := (if_neg e2).symm.trans h
                                                cases h
                                        refine kL_13R C hml hl.1 (c_X4_put hlf hc337) ⟨Nat.le_of_ble_eq_true rfl, Nat.le_of_ble_eq_true rfl⟩ ⟨Nat.le_of_ble_eq_true rfl, Nat.le_of_ble_eq_true rfl⟩ (Nat.le_of_ble_eq_true rfl) hS hW dL_act_337 (fun H locs hW hS => ?_)
                                        refine lv_goto (tgt := 384) hx hb dL_act_340 (by decide) ?_
                                        cases h
                                        exact ret_xi C hr hlk hS hW dL_act_384 (Nat.le_of_ble_eq_true rfl) (Nat.le_of_ble_eq_true rfl)
                                    · have h := (if_pos c307).symm.trans h
                                      refine lv_aload_n hx hb dL_act_310 rfl (lv_at hl 0 rfl) ?_
                                      refine lv_iload_n hx hb dL_act_311 rfl (lv_at hl 2 rfl) ?_
                                      refine lv_iload_n hx hb dL_act_312 rfl (lv_at hl 3 rfl) ?_
                                      refine lv_iload hx hb dL_act_313 (lv_at hl 4 rfl) ?_
                                      refine lv_iload hx hb dL_act_315 (lv_at hl 5 rfl) ?_
                                      rcases bdc_e h with ⟨E317, M317, hc317, h⟩ | ⟨r317, M317, hc317, h⟩
                                      · by_cases e0 : E317 = "java/lang/IndexOutOfBoundsException"
                                        · have h := (if_pos e0).symm.trans h
                                          subst e0
                                          refine kL_68C C hml hl.1 (c_X4_restore hlf hc317) ⟨Nat.le_of_ble_eq_true rfl, Nat.le_of_ble_eq_true rfl⟩ ⟨Nat.le_of_ble_eq_true rfl, Nat.le_of_ble_eq_true rfl⟩ (Nat.le_of_ble_eq_true rfl) hS hW dL_act_317 (fun H locs q9 ce hW hS h91 h92 h93 => ?_)
                                          refine vx_catch (own := RL) (name := "java/lang/IndexOutOfBoundsException") (E := "java/lang/IndexOutOfBoundsException") C.2.2.1 ([] : List ExceptionTableEntry) (⟨0, 384, 385, 71⟩ : ExceptionTableEntry) ([⟨0, 384, 391, 73⟩, ⟨0, 384, 397, 75⟩] : List ExceptionTableEntry) (by rw [hT]; rfl) (fun z hz => by cases hz) (by decide) (by decide) (C.2.2.2.1 _ q408) (va_Nw.use rfl (C.2.2.2.2.2.1 _ (List.mem_append_right _ (List.mem_append_right _ (List.mem_of_getElem? (i := 1) rfl))))) h91 h92 h93 ?_
                                          refine W.eq (g2 := F0 m 385 ls [.ref q9]) rfl ?_
                                          refine lv_astore (lv' := [(6, .ref q9), (0, .ref (b + 0)), (1, .int x1), (2, .int x2), (3, .int x3), (4, .int x4), (5, .int x5)]) hx hb dL_act_385 hl (by decide) rfl (fun ls hl => ?_)
                                          refine lv_sipush (v := (-9001 : Int32)) hx hb dL_act_387 (by decide) ?_
                                          cases h
                                          exact ret_xi C hr hlk hS hW dL_act_390 (Nat.le_of_ble_eq_true rfl) (Nat.le_of_ble_eq_true rfl)
                                        · have h := (if_neg e0).symm.trans h
                                          by_cases e1 : E317 = "java/lang/IllegalArgumentException"
                                          · have h := (if_pos e1).symm.trans h
                                            subst e1
                                            refine kL_68C C hml hl.1 (c_X4_restore hlf hc317) ⟨Nat.le_of_ble_eq_true rfl, Nat.le_of_ble_eq_true rfl⟩ ⟨Nat.le_of_ble_eq_true rfl, Nat.le_of_ble_eq_true rfl⟩ (Nat.le_of_ble_eq_true rfl) hS hW dL_act_317 (fun H locs q9 ce hW hS h91 h92 h93 => ?_)
                                            refine vx_catch (own := RL) (name := "java/lang/IllegalArgumentException") (E := "java/lang/IllegalArgumentException") C.2.2.1 ([⟨0, 384, 385, 71⟩] : List ExceptionTableEntry) (⟨0, 384, 391, 73⟩ : ExceptionTableEntry) ([⟨0, 384, 397, 75⟩] : List ExceptionTableEntry) (by rw [hT]; rfl) (fun z hz => by
      simp only [List.mem_cons, List.not_mem_nil, or_false] at hz
      rcases hz with rfl
      · exact Or.inr ⟨by decide, "java/lang/IndexOutOfBoundsException", C.2.2.2.1 _ q408, C.2.2.2.2.2.2.2.2.2 _ (List.mem_of_getElem? (i := 0) rfl)⟩) (by decide) (by decide) (C.2.2.2.1 _ q409) (va_Nw.use rfl (C.2.2.2.2.2.1 _ (List.mem_append_right _ (List.mem_append_right _ (List.mem_of_getElem? (i := 0) rfl))))) h91 h92 h93 ?_
                                            refine W.eq (g2 := F0 m 391 ls [.ref q9]) rfl ?_
                                            refine lv_astore (lv' := [(6, .ref q9), (0, .ref (b + 0)), (1, .int x1), (2, .int x2), (3, .int x3), (4, .int x4), (5, .int x5)]) hx hb dL_act_391 hl (by decide) rfl (fun ls hl => ?_)
                                            refine lv_sipush (v := (-9002 : Int32)) hx hb dL_act_393 (by decide) ?_
                                            cases h
                                            exact ret_xi C hr hlk hS hW dL_act_396 (Nat.le_of_ble_eq_true rfl) (Nat.le_of_ble_eq_true rfl)
                                          · have h := (if_neg e1).symm.trans h
                                            by_cases e2 : E317 = "java/lang/IllegalStateException"
                                            · have h := (if_pos e2).symm.trans h
                                              subst e2
                                              refine kL_68C C hml hl.1 (c_X4_restore hlf hc317) ⟨Nat.le_of_ble_eq_true rfl, Nat.le_of_ble_eq_true rfl⟩ ⟨Nat.le_of_ble_eq_true rfl, Nat.le_of_ble_eq_true rfl⟩ (Nat.le_of_ble_eq_true rfl) hS hW dL_act_317 (fun H locs q9 ce hW hS h91 h92 h93 => ?_)
                                              refine vx_catch (own := RL) (name := "java/lang/IllegalStateException") (E := "java/lang/IllegalStateException") C.2.2.1 ([⟨0, 384, 385, 71⟩, ⟨0, 384, 391, 73⟩] : List ExceptionTableEntry) (⟨0, 384, 397, 75⟩ : ExceptionTableEntry) ([] : List ExceptionTableEntry) (by rw [hT]; rfl) (fun z hz => by
      simp only [List.mem_cons, List.not_mem_nil, or_false] at hz
      rcases hz with rfl | rfl
      · exact Or.inr ⟨by decide, "java/lang/IndexOutOfBoundsException", C.2.2.2.1 _ q408, C.2.2.2.2.2.2.2.2.2 _ (List.mem_of_getElem? (i := 5) rfl)⟩
      · exact Or.inr ⟨by decide, "java/lang/IllegalArgumentException", C.2.2.2.1 _ q409, C.2.2.2.2.2.2.2.2.2 _ (List.mem_of_getElem? (i := 4) rfl)⟩) (by decide) (by decide) (C.2.2.2.1 _ q410) (va_Nw.use rfl (C.2.2.2.2.2.1 _ (List.mem_append_right _ (List.mem_append_right _ (List.mem_of_getElem? (i := 2) rfl))))) h91 h92 h93 ?_
                                              refine W.eq (g2 := F0 m 397 ls [.ref q9]) rfl ?_
                                              refine lv_astore (lv' := [(6, .ref q9), (0, .ref (b + 0)), (1, .int x1), (2, .int x2), (3, .int x3), (4, .int x4), (5, .int x5)]) hx hb dL_act_397 hl (by decide) rfl (fun ls hl => ?_)
                                              refine lv_sipush (v := (-9003 : Int32)) hx hb dL_act_399 (by decide) ?_
                                              cases h
                                              exact ret_xi C hr hlk hS hW dL_act_402 (Nat.le_of_ble_eq_true rfl) (Nat.le_of_ble_eq_true rfl)
                                            · have h := (if_neg e2).symm.trans h
                                              cases h
                                      refine kL_68R C hml hl.1 (c_X4_restore hlf hc317) ⟨Nat.le_of_ble_eq_true rfl, Nat.le_of_ble_eq_true rfl⟩ ⟨Nat.le_of_ble_eq_true rfl, Nat.le_of_ble_eq_true rfl⟩ (Nat.le_of_ble_eq_true rfl) hS hW dL_act_317 (fun H locs hW hS => ?_)
                                      refine lv_goto (tgt := 384) hx hb dL_act_320 (by decide) ?_
                                      cases h
                                      exact ret_xi C hr hlk hS hW dL_act_384 (Nat.le_of_ble_eq_true rfl) (Nat.le_of_ble_eq_true rfl)
                                  · have h := (if_pos c293).symm.trans h
                                    refine lv_aload_n hx hb dL_act_296 rfl (lv_at hl 0 rfl) ?_
                                    refine lv_iload_n hx hb dL_act_297 rfl (lv_at hl 2 rfl) ?_
                                    rcases bdc_e h with ⟨E298, M298, hc298, h⟩ | ⟨r298, M298, hc298, h⟩
                                    · by_cases e0 : E298 = "java/lang/IndexOutOfBoundsException"
                                      · have h := (if_pos e0).symm.trans h
                                        subst e0
                                        refine kL_65C C hml hl.1 (c_X4_keep hlf hc298) ⟨Nat.le_of_ble_eq_true rfl, Nat.le_of_ble_eq_true rfl⟩ ⟨Nat.le_of_ble_eq_true rfl, Nat.le_of_ble_eq_true rfl⟩ (Nat.le_of_ble_eq_true rfl) hS hW dL_act_298 (fun H locs q9 ce hW hS h91 h92 h93 => ?_)
                                        refine vx_catch (own := RL) (name := "java/lang/IndexOutOfBoundsException") (E := "java/lang/IndexOutOfBoundsException") C.2.2.1 ([] : List ExceptionTableEntry) (⟨0, 384, 385, 71⟩ : ExceptionTableEntry) ([⟨0, 384, 391, 73⟩, ⟨0, 384, 397, 75⟩] : List ExceptionTableEntry) (by rw [hT]; rfl) (fun z hz => by cases hz) (by decide) (by decide) (C.2.2.2.1 _ q408) (va_Nw.use rfl (C.2.2.2.2.2.1 _ (List.mem_append_right _ (List.mem_append_right _ (List.mem_of_getElem? (i := 1) rfl))))) h91 h92 h93 ?_
                                        refine W.eq (g2 := F0 m 385 ls [.ref q9]) rfl ?_
                                        refine lv_astore (lv' := [(6, .ref q9), (0, .ref (b + 0)), (1, .int x1), (2, .int x2), (3, .int x3), (4, .int x4), (5, .int x5)]) hx hb dL_act_385 hl (by decide) rfl (fun ls hl => ?_)
                                        refine lv_sipush (v := (-9001 : Int32)) hx hb dL_act_387 (by decide) ?_
                                        cases h
                                        exact ret_xi C hr hlk hS hW dL_act_390 (Nat.le_of_ble_eq_true rfl) (Nat.le_of_ble_eq_true rfl)
                                      · have h := (if_neg e0).symm.trans h
                                        by_cases e1 : E298 = "java/lang/IllegalArgumentException"
                                        · have h := (if_pos e1).symm.trans h
                                          subst e1
                                          refine kL_65C C hml hl.1 (c_X4_keep hlf hc298) ⟨Nat.le_of_ble_eq_true rfl, Nat.le_of_ble_eq_true rfl⟩ ⟨Nat.le_of_ble_eq_true rfl, Nat.le_of_ble_eq_true rfl⟩ (Nat.le_of_ble_eq_true rfl) hS hW dL_act_298 (fun H locs q9 ce hW hS h91 h92 h93 => ?_)
                                          refine vx_catch (own := RL) (name := "java/lang/IllegalArgumentException") (E := "java/lang/IllegalArgumentException") C.2.2.1 ([⟨0, 384, 385, 71⟩] : List ExceptionTableEntry) (⟨0, 384, 391, 73⟩ : ExceptionTableEntry) ([⟨0, 384, 397, 75⟩] : List ExceptionTableEntry) (by rw [hT]; rfl) (fun z hz => by
      simp only [List.mem_cons, List.not_mem_nil, or_false] at hz
      rcases hz with rfl
      · exact Or.inr ⟨by decide, "java/lang/IndexOutOfBoundsException", C.2.2.2.1 _ q408, C.2.2.2.2.2.2.2.2.2 _ (List.mem_of_getElem? (i := 0) rfl)⟩) (by decide) (by decide) (C.2.2.2.1 _ q409) (va_Nw.use rfl (C.2.2.2.2.2.1 _ (List.mem_append_right _ (List.mem_append_right _ (List.mem_of_getElem? (i := 0) rfl))))) h91 h92 h93 ?_
                                          refine W.eq (g2 := F0 m 391 ls [.ref q9]) rfl ?_
                                          refine lv_astore (lv' := [(6, .ref q9), (0, .ref (b + 0)), (1, .int x1), (2, .int x2), (3, .int x3), (4, .int x4), (5, .int x5)]) hx hb dL_act_391 hl (by decide) rfl (fun ls hl => ?_)
                                          refine lv_sipush (v := (-9002 : Int32)) hx hb dL_act_393 (by decide) ?_
                                          cases h
                                          exact ret_xi C hr hlk hS hW dL_act_396 (Nat.le_of_ble_eq_true rfl) (Nat.le_of_ble_eq_true rfl)
                                        · have h := (if_neg e1).symm.trans h
                                          by_cases e2 : E298 = "java/lang/IllegalStateException"
                                          · have h := (if_pos e2).symm.trans h
                                            subst e2
                                            refine kL_65C C hml hl.1 (c_X4_keep hlf hc298) ⟨Nat.le_of_ble_eq_true rfl, Nat.le_of_ble_eq_true rfl⟩ ⟨Nat.le_of_ble_eq_true rfl, Nat.le_of_ble_eq_true rfl⟩ (Nat.le_of_ble_eq_true rfl) hS hW dL_act_298 (fun H locs q9 ce hW hS h91 h92 h93 => ?_)
                                            refine vx_catch (own := RL) (name := "java/lang/IllegalStateException") (E := "java/lang/IllegalStateException") C.2.2.1 ([⟨0, 384, 385, 71⟩, ⟨0, 384, 391, 73⟩] : List ExceptionTableEntry) (⟨0, 384, 397, 75⟩ : ExceptionTableEntry) ([] : List ExceptionTableEntry) (by rw [hT]; rfl) (fun z hz => by
      simp only [List.mem_cons, List.not_mem_nil, or_false] at hz
      rcases hz with rfl | rfl
      · exact Or.inr ⟨by decide, "java/lang/IndexOutOfBoundsException", C.2.2.2.1 _ q408, C.2.2.2.2.2.2.2.2.2 _ (List.mem_of_getElem? (i := 5) rfl)⟩
      · exact Or.inr ⟨by decide, "java/lang/IllegalArgumentException", C.2.2.2.1 _ q409, C.2.2.2.2.2.2.2.2.2 _ (List.mem_of_getElem? (i := 4) rfl)⟩) (by decide) (by decide) (C.2.2.2.1 _ q410) (va_Nw.use rfl (C.2.2.2.2.2.1 _ (List.mem_append_right _ (List.mem_append_right _ (List.mem_of_getElem? (i := 2) rfl))))) h91 h92 h93 ?_
                                            refine W.eq (g2 := F0 m 397 ls [.ref q9]) rfl ?_
                                            refine lv_astore (lv' := [(6, .ref q9), (0, .ref (b + 0)), (1, .int x1), (2, .int x2), (3, .int x3), (4, .int x4), (5, .int x5)]) hx hb dL_act_397 hl (by decide) rfl (fun ls hl => ?_)
                                            refine lv_sipush (v := (-9003 : Int32)) hx hb dL_act_399 (by decide) ?_
                                            cases h
                                            exact ret_xi C hr hlk hS hW dL_act_402 (Nat.le_of_ble_eq_true rfl) (Nat.le_of_ble_eq_true rfl)
                                          · have h := (if_neg e2).symm.trans h
                                            cases h
                                    refine kL_65R C hml hl.1 (c_X4_keep hlf hc298) ⟨Nat.le_of_ble_eq_true rfl, Nat.le_of_ble_eq_true rfl⟩ ⟨Nat.le_of_ble_eq_true rfl, Nat.le_of_ble_eq_true rfl⟩ (Nat.le_of_ble_eq_true rfl) hS hW dL_act_298 (fun H locs hW hS => ?_)
                                    refine lv_goto (tgt := 384) hx hb dL_act_301 (by decide) ?_
                                    cases h
                                    exact ret_xi C hr hlk hS hW dL_act_384 (Nat.le_of_ble_eq_true rfl) (Nat.le_of_ble_eq_true rfl)
                                · have h := (if_pos c268).symm.trans h
                                  refine lv_aload_n hx hb dL_act_271 rfl (lv_at hl 0 rfl) ?_
                                  refine lv_iload_n hx hb dL_act_272 rfl (lv_at hl 2 rfl) ?_
                                  refine lv_iload_n hx hb dL_act_273 rfl (lv_at hl 3 rfl) ?_
                                  refine lv_iload hx hb dL_act_274 (lv_at hl 4 rfl) ?_
                                  rcases bdc_e h with ⟨E276, M276, hc276, h⟩ | ⟨r276, M276, hc276, h⟩
                                  · by_cases e0 : E276 = "java/lang/IndexOutOfBoundsException"
                                    · have h := (if_pos e0).symm.trans h
                                      subst e0
                                      refine kL_61C C hml hl.1 (c_X4_mayChange hlf hc276) ⟨Nat.le_of_ble_eq_true rfl, Nat.le_of_ble_eq_true rfl⟩ ⟨Nat.le_of_ble_eq_true rfl, Nat.le_of_ble_eq_true rfl⟩ (Nat.le_of_ble_eq_true rfl) hS hW dL_act_276 (fun H locs q9 ce hW hS h91 h92 h93 => ?_)
                                      refine vx_catch (own := RL) (name := "java/lang/IndexOutOfBoundsException") (E := "java/lang/IndexOutOfBoundsException") C.2.2.1 ([] : List ExceptionTableEntry) (⟨0, 384, 385, 71⟩ : ExceptionTableEntry) ([⟨0, 384, 391, 73⟩, ⟨0, 384, 397, 75⟩] : List ExceptionTableEntry) (by rw [hT]; rfl) (fun z hz => by cases hz) (by decide) (by decide) (C.2.2.2.1 _ q408) (va_Nw.use rfl (C.2.2.2.2.2.1 _ (List.mem_append_right _ (List.mem_append_right _ (List.mem_of_getElem? (i := 1) rfl))))) h91 h92 h93 ?_
                                      refine W.eq (g2 := F0 m 385 ls [.ref q9]) rfl ?_
                                      refine lv_astore (lv' := [(6, .ref q9), (0, .ref (b + 0)), (1, .int x1), (2, .int x2), (3, .int x3), (4, .int x4), (5, .int x5)]) hx hb dL_act_385 hl (by decide) rfl (fun ls hl => ?_)
                                      refine lv_sipush (v := (-9001 : Int32)) hx hb dL_act_387 (by decide) ?_
                                      cases h
                                      exact ret_xi C hr hlk hS hW dL_act_390 (Nat.le_of_ble_eq_true rfl) (Nat.le_of_ble_eq_true rfl)
                                    · have h := (if_neg e0).symm.trans h
                                      by_cases e1 : E276 = "java/lang/IllegalArgumentException"
                                      · have h := (if_pos e1).symm.trans h
                                        subst e1
                                        refine kL_61C C hml hl.1 (c_X4_mayChange hlf hc276) ⟨Nat.le_of_ble_eq_true rfl, Nat.le_of_ble_eq_true rfl⟩ ⟨Nat.le_of_ble_eq_true rfl, Nat.le_of_ble_eq_true rfl⟩ (Nat.le_of_ble_eq_true rfl) hS hW dL_act_276 (fun H locs q9 ce hW hS h91 h92 h93 => ?_)
                                        refine vx_catch (own := RL) (name := "java/lang/IllegalArgumentException") (E := "java/lang/IllegalArgumentException") C.2.2.1 ([⟨0, 384, 385, 71⟩] : List ExceptionTableEntry) (⟨0, 384, 391, 73⟩ : ExceptionTableEntry) ([⟨0, 384, 397, 75⟩] : List ExceptionTableEntry) (by rw [hT]; rfl) (fun z hz => by
      simp only [List.mem_cons, List.not_mem_nil, or_false] at hz
      rcases hz with rfl
      · exact Or.inr ⟨by decide, "java/lang/IndexOutOfBoundsException", C.2.2.2.1 _ q408, C.2.2.2.2.2.2.2.2.2 _ (List.mem_of_getElem? (i := 0) rfl)⟩) (by decide) (by decide) (C.2.2.2.1 _ q409) (va_Nw.use rfl (C.2.2.2.2.2.1 _ (List.mem_append_right _ (List.mem_append_right _ (List.mem_of_getElem? (i := 0) rfl))))) h91 h92 h93 ?_
                                        refine W.eq (g2 := F0 m 391 ls [.ref q9]) rfl ?_
                                        refine lv_astore (lv' := [(6, .ref q9), (0, .ref (b + 0)), (1, .int x1), (2, .int x2), (3, .int x3), (4, .int x4), (5, .int x5)]) hx hb dL_act_391 hl (by decide) rfl (fun ls hl => ?_)
                                        refine lv_sipush (v := (-9002 : Int32)) hx hb dL_act_393 (by decide) ?_
                                        cases h
                                        exact ret_xi C hr hlk hS hW dL_act_396 (Nat.le_of_ble_eq_true rfl) (Nat.le_of_ble_eq_true rfl)
                                      · have h := (if_neg e1).symm.trans h
                                        by_cases e2 : E276 = "java/lang/IllegalStateException"
                                        · have h := (if_pos e2).symm.trans h
                                          subst e2
                                          refine kL_61C C hml hl.1 (c_X4_mayChange hlf hc276) ⟨Nat.le_of_ble_eq_true rfl, Nat.le_of_ble_eq_true rfl⟩ ⟨Nat.le_of_ble_eq_true rfl, Nat.le_of_ble_eq_true rfl⟩ (Nat.le_of_ble_eq_true rfl) hS hW dL_act_276 (fun H locs q9 ce hW hS h91 h92 h93 => ?_)
                                          refine vx_catch (own := RL) (name := "java/lang/IllegalStateException") (E := "java/lang/IllegalStateException") C.2.2.1 ([⟨0, 384, 385, 71⟩, ⟨0, 384, 391, 73⟩] : List ExceptionTableEntry) (⟨0, 384, 397, 75⟩ : ExceptionTableEntry) ([] : List ExceptionTableEntry) (by rw [hT]; rfl) (fun z hz => by
      simp only [List.mem_cons, List.not_mem_nil, or_false] at hz
      rcases hz with rfl | rfl
      · exact Or.inr ⟨by decide, "java/lang/IndexOutOfBoundsException", C.2.2.2.1 _ q408, C.2.2.2.2.2.2.2.2.2 _ (List.mem_of_getElem? (i := 5) rfl)⟩
      · exact Or.inr ⟨by decide, "java/lang/IllegalArgumentException", C.2.2.2.1 _ q409, C.2.2.2.2.2.2.2.2.2 _ (List.mem_of_getElem? (i := 4) rfl)⟩) (by decide) (by decide) (C.2.2.2.1 _ q410) (va_Nw.use rfl (C.2.2.2.2.2.1 _ (List.mem_append_right _ (List.mem_append_right _ (List.mem_of_getElem? (i := 2) rfl))))) h91 h92 h93 ?_
                                          refine W.eq (g2 := F0 m 397 ls [.ref q9]) rfl ?_
                                          refine lv_astore (lv' := [(6, .ref q9), (0, .ref (b + 0)), (1, .int x1), (2, .int x2), (3, .int x3), (4, .int x4), (5, .int x5)]) hx hb dL_act_397 hl (by decide) rfl (fun ls hl => ?_)
                                          refine lv_sipush (v := (-9003 : Int32)) hx hb dL_act_399 (by decide) ?_
                                          cases h
                                          exact ret_xi C hr hlk hS hW dL_act_402 (Nat.le_of_ble_eq_true rfl) (Nat.le_of_ble_eq_true rfl)
                                        · have h := (if_neg e2).symm.trans h
                                          cases h
                                  refine kL_61R C hml hl.1 (c_X4_mayChange hlf hc276) ⟨Nat.le_of_ble_eq_true rfl, Nat.le_of_ble_eq_true rfl⟩ ⟨Nat.le_of_ble_eq_true rfl, Nat.le_of_ble_eq_true rfl⟩ (Nat.le_of_ble_eq_true rfl) hS hW dL_act_276 (fun H locs hW hS => ?_)
                                  refine lv_if_eq (tgt := 286) hx hb dL_act_279 (by decide) (fun c279 => ?_) (fun c279 => ?_)
                                  · have h := (if_pos c279).symm.trans h
                                    refine lv_iconst (v := (0 : Int32)) hx hb dL_act_286 (by decide) ?_
                                    refine lv_goto (tgt := 384) hx hb dL_act_287 (by decide) ?_
                                    cases h
                                    exact ret_xi C hr hlk hS hW dL_act_384 (Nat.le_of_ble_eq_true rfl) (Nat.le_of_ble_eq_true rfl)
                                  · have h := (if_neg c279).symm.trans h
                                    refine lv_iconst (v := (1 : Int32)) hx hb dL_act_282 (by decide) ?_
                                    refine lv_goto (tgt := 384) hx hb dL_act_283 (by decide) ?_
                                    cases h
                                    exact ret_xi C hr hlk hS hW dL_act_384 (Nat.le_of_ble_eq_true rfl) (Nat.le_of_ble_eq_true rfl)
                              · have h := (if_pos c254).symm.trans h
                                refine lv_aload_n hx hb dL_act_257 rfl (lv_at hl 0 rfl) ?_
                                refine lv_iload_n hx hb dL_act_258 rfl (lv_at hl 2 rfl) ?_
                                rcases bdc_e h with ⟨E259, M259, hc259, h⟩ | ⟨r259, M259, hc259, h⟩
                                · by_cases e0 : E259 = "java/lang/IndexOutOfBoundsException"
                                  · have h := (if_pos e0).symm.trans h
                                    subst e0
                                    refine kL_58C C hml hl.1 (c_X4_covering hlf hc259) ⟨Nat.le_of_ble_eq_true rfl, Nat.le_of_ble_eq_true rfl⟩ ⟨Nat.le_of_ble_eq_true rfl, Nat.le_of_ble_eq_true rfl⟩ (Nat.le_of_ble_eq_true rfl) hS hW dL_act_259 (fun H locs q9 ce hW hS h91 h92 h93 => ?_)
                                    refine vx_catch (own := RL) (name := "java/lang/IndexOutOfBoundsException") (E := "java/lang/IndexOutOfBoundsException") C.2.2.1 ([] : List ExceptionTableEntry) (⟨0, 384, 385, 71⟩ : ExceptionTableEntry) ([⟨0, 384, 391, 73⟩, ⟨0, 384, 397, 75⟩] : List ExceptionTableEntry) (by rw [hT]; rfl) (fun z hz => by cases hz) (by decide) (by decide) (C.2.2.2.1 _ q408) (va_Nw.use rfl (C.2.2.2.2.2.1 _ (List.mem_append_right _ (List.mem_append_right _ (List.mem_of_getElem? (i := 1) rfl))))) h91 h92 h93 ?_
                                    refine W.eq (g2 := F0 m 385 ls [.ref q9]) rfl ?_
                                    refine lv_astore (lv' := [(6, .ref q9), (0, .ref (b + 0)), (1, .int x1), (2, .int x2), (3, .int x3), (4, .int x4), (5, .int x5)]) hx hb dL_act_385 hl (by decide) rfl (fun ls hl => ?_)
                                    refine lv_sipush (v := (-9001 : Int32)) hx hb dL_act_387 (by decide) ?_
                                    cases h
                                    exact ret_xi C hr hlk hS hW dL_act_390 (Nat.le_of_ble_eq_true rfl) (Nat.le_of_ble_eq_true rfl)
                                  · have h := (if_neg e0).symm.trans h
                                    by_cases e1 : E259 = "java/lang/IllegalArgumentException"
                                    · have h := (if_pos e1).symm.trans h
                                      subst e1
                                      refine kL_58C C hml hl.1 (c_X4_covering hlf hc259) ⟨Nat.le_of_ble_eq_true rfl, Nat.le_of_ble_eq_true rfl⟩ ⟨Nat.le_of_ble_eq_true rfl, Nat.le_of_ble_eq_true rfl⟩ (Nat.le_of_ble_eq_true rfl) hS hW dL_act_259 (fun H locs q9 ce hW hS h91 h92 h93 => ?_)
                                      refine vx_catch (own := RL) (name := "java/lang/IllegalArgumentException") (E := "java/lang/IllegalArgumentException") C.2.2.1 ([⟨0, 384, 385, 71⟩] : List ExceptionTableEntry) (⟨0, 384, 391, 73⟩ : ExceptionTableEntry) ([⟨0, 384, 397, 75⟩] : List ExceptionTableEntry) (by rw [hT]; rfl) (fun z hz => by
      simp only [List.mem_cons, List.not_mem_nil, or_false] at hz
      rcases hz with rfl
      · exact Or.inr ⟨by decide, "java/lang/IndexOutOfBoundsException", C.2.2.2.1 _ q408, C.2.2.2.2.2.2.2.2.2 _ (List.mem_of_getElem? (i := 0) rfl)⟩) (by decide) (by decide) (C.2.2.2.1 _ q409) (va_Nw.use rfl (C.2.2.2.2.2.1 _ (List.mem_append_right _ (List.mem_append_right _ (List.mem_of_getElem? (i := 0) rfl))))) h91 h92 h93 ?_
                                      refine W.eq (g2 := F0 m 391 ls [.ref q9]) rfl ?_
                                      refine lv_astore (lv' := [(6, .ref q9), (0, .ref (b + 0)), (1, .int x1), (2, .int x2), (3, .int x3), (4, .int x4), (5, .int x5)]) hx hb dL_act_391 hl (by decide) rfl (fun ls hl => ?_)
                                      refine lv_sipush (v := (-9002 : Int32)) hx hb dL_act_393 (by decide) ?_
                                      cases h
                                      exact ret_xi C hr hlk hS hW dL_act_396 (Nat.le_of_ble_eq_true rfl) (Nat.le_of_ble_eq_true rfl)
                                    · have h := (if_neg e1).symm.trans h
                                      by_cases e2 : E259 = "java/lang/IllegalStateException"
                                      · have h := (if_pos e2).symm.trans h
                                        subst e2
                                        refine kL_58C C hml hl.1 (c_X4_covering hlf hc259) ⟨Nat.le_of_ble_eq_true rfl, Nat.le_of_ble_eq_true rfl⟩ ⟨Nat.le_of_ble_eq_true rfl, Nat.le_of_ble_eq_true rfl⟩ (Nat.le_of_ble_eq_true rfl) hS hW dL_act_259 (fun H locs q9 ce hW hS h91 h92 h93 => ?_)
                                        refine vx_catch (own := RL) (name := "java/lang/IllegalStateException") (E := "java/lang/IllegalStateException") C.2.2.1 ([⟨0, 384, 385, 71⟩, ⟨0, 384, 391, 73⟩] : List ExceptionTableEntry) (⟨0, 384, 397, 75⟩ : ExceptionTableEntry) ([] : List ExceptionTableEntry) (by rw [hT]; rfl) (fun z hz => by
      simp only [List.mem_cons, List.not_mem_nil, or_false] at hz
      rcases hz with rfl | rfl
      · exact Or.inr ⟨by decide, "java/lang/IndexOutOfBoundsException", C.2.2.2.1 _ q408, C.2.2.2.2.2.2.2.2.2 _ (List.mem_of_getElem? (i := 5) rfl)⟩
      · exact Or.inr ⟨by decide, "java/lang/IllegalArgumentException", C.2.2.2.1 _ q409, C.2.2.2.2.2.2.2.2.2 _ (List.mem_of_getElem? (i := 4) rfl)⟩) (by decide) (by decide) (C.2.2.2.1 _ q410) (va_Nw.use rfl (C.2.2.2.2.2.1 _ (List.mem_append_right _ (List.mem_append_right _ (List.mem_of_getElem? (i := 2) rfl))))) h91 h92 h93 ?_
                                        refine W.eq (g2 := F0 m 397 ls [.ref q9]) rfl ?_
                                        refine lv_astore (lv' := [(6, .ref q9), (0, .ref (b + 0)), (1, .int x1), (2, .int x2), (3, .int x3), (4, .int x4), (5, .int x5)]) hx hb dL_act_397 hl (by decide) rfl (fun ls hl => ?_)
                                        refine lv_sipush (v := (-9003 : Int32)) hx hb dL_act_399 (by decide) ?_
                                        cases h
                                        exact ret_xi C hr hlk hS hW dL_act_402 (Nat.le_of_ble_eq_true rfl) (Nat.le_of_ble_eq_true rfl)
                                      · have h := (if_neg e2).symm.trans h
                                        cases h
                                refine kL_58R C hml hl.1 (c_X4_covering hlf hc259) ⟨Nat.le_of_ble_eq_true rfl, Nat.le_of_ble_eq_true rfl⟩ ⟨Nat.le_of_ble_eq_true rfl, Nat.le_of_ble_eq_true rfl⟩ (Nat.le_of_ble_eq_true rfl) hS hW dL_act_259 (fun H locs hW hS => ?_)
                                refine lv_goto (tgt := 384) hx hb dL_act_262 (by decide) ?_
                                cases h
                                exact ret_xi C hr hlk hS hW dL_act_384 (Nat.le_of_ble_eq_true rfl) (Nat.le_of_ble_eq_true rfl)
                            · have h := (if_pos c240).symm.trans h
                              refine lv_aload_n hx hb dL_act_243 rfl (lv_at hl 0 rfl) ?_
                              refine lv_iload_n hx hb dL_act_244 rfl (lv_at hl 2 rfl) ?_
                              rcases bdc_e h with ⟨E245, M245, hc245, h⟩ | ⟨r245, M245, hc245, h⟩
                              · by_cases e0 : E245 = "java/lang/IndexOutOfBoundsException"
                                · have h := (if_pos e0).symm.trans h
                                  subst e0
                                  refine kL_55C C hml hl.1 (c_X4_pass hlf hc245) ⟨Nat.le_of_ble_eq_true rfl, Nat.le_of_ble_eq_true rfl⟩ ⟨Nat.le_of_ble_eq_true rfl, Nat.le_of_ble_eq_true rfl⟩ (Nat.le_of_ble_eq_true rfl) hS hW dL_act_245 (fun H locs q9 ce hW hS h91 h92 h93 => ?_)
                                  refine vx_catch (own := RL) (name := "java/lang/IndexOutOfBoundsException") (E := "java/lang/IndexOutOfBoundsException") C.2.2.1 ([] : List ExceptionTableEntry) (⟨0, 384, 385, 71⟩ : ExceptionTableEntry) ([⟨0, 384, 391, 73⟩, ⟨0, 384, 397, 75⟩] : List ExceptionTableEntry) (by rw [hT]; rfl) (fun z hz => by cases hz) (by decide) (by decide) (C.2.2.2.1 _ q408) (va_Nw.use rfl (C.2.2.2.2.2.1 _ (List.mem_append_right _ (List.mem_append_right _ (List.mem_of_getElem? (i := 1) rfl))))) h91 h92 h93 ?_
                                  refine W.eq (g2 := F0 m 385 ls [.ref q9]) rfl ?_
                                  refine lv_astore (lv' := [(6, .ref q9), (0, .ref (b + 0)), (1, .int x1), (2, .int x2), (3, .int x3), (4, .int x4), (5, .int x5)]) hx hb dL_act_385 hl (by decide) rfl (fun ls hl => ?_)
                                  refine lv_sipush (v := (-9001 : Int32)) hx hb dL_act_387 (by decide) ?_
                                  cases h
                                  exact ret_xi C hr hlk hS hW dL_act_390 (Nat.le_of_ble_eq_true rfl) (Nat.le_of_ble_eq_true rfl)
                                · have h := (if_neg e0).symm.trans h
                                  by_cases e1 : E245 = "java/lang/IllegalArgumentException"
                                  · have h := (if_pos e1).symm.trans h
                                    subst e1
                                    refine kL_55C C hml hl.1 (c_X4_pass hlf hc245) ⟨Nat.le_of_ble_eq_true rfl, Nat.le_of_ble_eq_true rfl⟩ ⟨Nat.le_of_ble_eq_true rfl, Nat.le_of_ble_eq_true rfl⟩ (Nat.le_of_ble_eq_true rfl) hS hW dL_act_245 (fun H locs q9 ce hW hS h91 h92 h93 => ?_)
                                    refine vx_catch (own := RL) (name := "java/lang/IllegalArgumentException") (E := "java/lang/IllegalArgumentException") C.2.2.1 ([⟨0, 384, 385, 71⟩] : List ExceptionTableEntry) (⟨0, 384, 391, 73⟩ : ExceptionTableEntry) ([⟨0, 384, 397, 75⟩] : List ExceptionTableEntry) (by rw [hT]; rfl) (fun z hz => by
      simp only [List.mem_cons, List.not_mem_nil, or_false] at hz
      rcases hz with rfl
      · exact Or.inr ⟨by decide, "java/lang/IndexOutOfBoundsException", C.2.2.2.1 _ q408, C.2.2.2.2.2.2.2.2.2 _ (List.mem_of_getElem? (i := 0) rfl)⟩) (by decide) (by decide) (C.2.2.2.1 _ q409) (va_Nw.use rfl (C.2.2.2.2.2.1 _ (List.mem_append_right _ (List.mem_append_right _ (List.mem_of_getElem? (i := 0) rfl))))) h91 h92 h93 ?_
                                    refine W.eq (g2 := F0 m 391 ls [.ref q9]) rfl ?_
                                    refine lv_astore (lv' := [(6, .ref q9), (0, .ref (b + 0)), (1, .int x1), (2, .int x2), (3, .int x3), (4, .int x4), (5, .int x5)]) hx hb dL_act_391 hl (by decide) rfl (fun ls hl => ?_)
                                    refine lv_sipush (v := (-9002 : Int32)) hx hb dL_act_393 (by decide) ?_
                                    cases h
                                    exact ret_xi C hr hlk hS hW dL_act_396 (Nat.le_of_ble_eq_true rfl) (Nat.le_of_ble_eq_true rfl)
                                  · have h := (if_neg e1).symm.trans h
                                    by_cases e2 : E245 = "java/lang/IllegalStateException"
                                    · have h := (if_pos e2).symm.trans h
                                      subst e2
                                      refine kL_55C C hml hl.1 (c_X4_pass hlf hc245) ⟨Nat.le_of_ble_eq_true rfl, Nat.le_of_ble_eq_true rfl⟩ ⟨Nat.le_of_ble_eq_true rfl, Nat.le_of_ble_eq_true rfl⟩ (Nat.le_of_ble_eq_true rfl) hS hW dL_act_245 (fun H locs q9 ce hW hS h91 h92 h93 => ?_)
                                      refine vx_catch (own := RL) (name := "java/lang/IllegalStateException") (E := "java/lang/IllegalStateException") C.2.2.1 ([⟨0, 384, 385, 71⟩, ⟨0, 384, 391, 73⟩] : List ExceptionTableEntry) (⟨0, 384, 397, 75⟩ : ExceptionTableEntry) ([] : List ExceptionTableEntry) (by rw [hT]; rfl) (fun z hz => by
      simp only [List.mem_cons, List.not_mem_nil, or_false] at hz
      rcases hz with rfl | rfl
      · exact Or.inr ⟨by decide, "java/lang/IndexOutOfBoundsException", C.2.2.2.1 _ q408, C.2.2.2.2.2.2.2.2.2 _ (List.mem_of_getElem? (i := 5) rfl)⟩
      · exact Or.inr ⟨by decide, "java/lang/IllegalArgumentException", C.2.2.2.1 _ q409, C.2.2.2.2.2.2.2.2.2 _ (List.mem_of_getElem? (i := 4) rfl)⟩) (by decide) (by decide) (C.2.2.2.1 _ q410) (va_Nw.use rfl (C.2.2.2.2.2.1 _ (List.mem_append_right _ (List.mem_append_right _ (List.mem_of_getElem? (i := 2) rfl))))) h91 h92 h93 ?_
                                      refine W.eq (g2 := F0 m 397 ls [.ref q9]) rfl ?_
                                      refine lv_astore (lv' := [(6, .ref q9), (0, .ref (b + 0)), (1, .int x1), (2, .int x2), (3, .int x3), (4, .int x4), (5, .int x5)]) hx hb dL_act_397 hl (by decide) rfl (fun ls hl => ?_)
                                      refine lv_sipush (v := (-9003 : Int32)) hx hb dL_act_399 (by decide) ?_
                                      cases h
                                      exact ret_xi C hr hlk hS hW dL_act_402 (Nat.le_of_ble_eq_true rfl) (Nat.le_of_ble_eq_true rfl)
                                    · have h := (if_neg e2).symm.trans h
                                      cases h
                              refine kL_55R C hml hl.1 (c_X4_pass hlf hc245) ⟨Nat.le_of_ble_eq_true rfl, Nat.le_of_ble_eq_true rfl⟩ ⟨Nat.le_of_ble_eq_true rfl, Nat.le_of_ble_eq_true rfl⟩ (Nat.le_of_ble_eq_true rfl) hS hW dL_act_245 (fun H locs hW hS => ?_)
                              refine lv_goto (tgt := 384) hx hb dL_act_248 (by decide) ?_
                              cases h
                              exact ret_xi C hr hlk hS hW dL_act_384 (Nat.le_of_ble_eq_true rfl) (Nat.le_of_ble_eq_true rfl)
                          · have h := (if_pos c223).symm.trans h
                            refine lv_aload_n hx hb dL_act_226 rfl (lv_at hl 0 rfl) ?_
                            refine lv_iload_n hx hb dL_act_227 rfl (lv_at hl 2 rfl) ?_
                            refine lv_iload_n hx hb dL_act_228 rfl (lv_at hl 3 rfl) ?_
                            refine lv_iload hx hb dL_act_229 (lv_at hl 4 rfl) ?_
                            rcases bdc_e h with ⟨E231, M231, hc231, h⟩ | ⟨r231, M231, hc231, h⟩
                            · by_cases e0 : E231 = "java/lang/IndexOutOfBoundsException"
                              · have h := (if_pos e0).symm.trans h
                                subst e0
                                refine kL_52C C hml hl.1 (c_X4_refresh hlf hc231) ⟨Nat.le_of_ble_eq_true rfl, Nat.le_of_ble_eq_true rfl⟩ ⟨Nat.le_of_ble_eq_true rfl, Nat.le_of_ble_eq_true rfl⟩ (Nat.le_of_ble_eq_true rfl) hS hW dL_act_231 (fun H locs q9 ce hW hS h91 h92 h93 => ?_)
                                refine vx_catch (own := RL) (name := "java/lang/IndexOutOfBoundsException") (E := "java/lang/IndexOutOfBoundsException") C.2.2.1 ([] : List ExceptionTableEntry) (⟨0, 384, 385, 71⟩ : ExceptionTableEntry) ([⟨0, 384, 391, 73⟩, ⟨0, 384, 397, 75⟩] : List ExceptionTableEntry) (by rw [hT]; rfl) (fun z hz => by cases hz) (by decide) (by decide) (C.2.2.2.1 _ q408) (va_Nw.use rfl (C.2.2.2.2.2.1 _ (List.mem_append_right _ (List.mem_append_right _ (List.mem_of_getElem? (i := 1) rfl))))) h91 h92 h93 ?_
                                refine W.eq (g2 := F0 m 385 ls [.ref q9]) rfl ?_
                                refine lv_astore (lv' := [(6, .ref q9), (0, .ref (b + 0)), (1, .int x1), (2, .int x2), (3, .int x3), (4, .int x4), (5, .int x5)]) hx hb dL_act_385 hl (by decide) rfl (fun ls hl => ?_)
                                refine lv_sipush (v := (-9001 : Int32)) hx hb dL_act_387 (by decide) ?_
                                cases h
                                exact ret_xi C hr hlk hS hW dL_act_390 (Nat.le_of_ble_eq_true rfl) (Nat.le_of_ble_eq_true rfl)
                              · have h := (if_neg e0).symm.trans h
                                by_cases e1 : E231 = "java/lang/IllegalArgumentException"
                                · have h := (if_pos e1).symm.trans h
                                  subst e1
                                  refine kL_52C C hml hl.1 (c_X4_refresh hlf hc231) ⟨Nat.le_of_ble_eq_true rfl, Nat.le_of_ble_eq_true rfl⟩ ⟨Nat.le_of_ble_eq_true rfl, Nat.le_of_ble_eq_true rfl⟩ (Nat.le_of_ble_eq_true rfl) hS hW dL_act_231 (fun H locs q9 ce hW hS h91 h92 h93 => ?_)
                                  refine vx_catch (own := RL) (name := "java/lang/IllegalArgumentException") (E := "java/lang/IllegalArgumentException") C.2.2.1 ([⟨0, 384, 385, 71⟩] : List ExceptionTableEntry) (⟨0, 384, 391, 73⟩ : ExceptionTableEntry) ([⟨0, 384, 397, 75⟩] : List ExceptionTableEntry) (by rw [hT]; rfl) (fun z hz => by
      simp only [List.mem_cons, List.not_mem_nil, or_false] at hz
      rcases hz with rfl
      · exact Or.inr ⟨by decide, "java/lang/IndexOutOfBoundsException", C.2.2.2.1 _ q408, C.2.2.2.2.2.2.2.2.2 _ (List.mem_of_getElem? (i := 0) rfl)⟩) (by decide) (by decide) (C.2.2.2.1 _ q409) (va_Nw.use rfl (C.2.2.2.2.2.1 _ (List.mem_append_right _ (List.mem_append_right _ (List.mem_of_getElem? (i := 0) rfl))))) h91 h92 h93 ?_
                                  refine W.eq (g2 := F0 m 391 ls [.ref q9]) rfl ?_
                                  refine lv_astore (lv' := [(6, .ref q9), (0, .ref (b + 0)), (1, .int x1), (2, .int x2), (3, .int x3), (4, .int x4), (5, .int x5)]) hx hb dL_act_391 hl (by decide) rfl (fun ls hl => ?_)
                                  refine lv_sipush (v := (-9002 : Int32)) hx hb dL_act_393 (by decide) ?_
                                  cases h
                                  exact ret_xi C hr hlk hS hW dL_act_396 (Nat.le_of_ble_eq_true rfl) (Nat.le_of_ble_eq_true rfl)
                                · have h := (if_neg e1).symm.trans h
                                  by_cases e2 : E231 = "java/lang/IllegalStateException"
                                  · have h := (if_pos e2).symm.trans h
                                    subst e2
                                    refine kL_52C C hml hl.1 (c_X4_refresh hlf hc231) ⟨Nat.le_of_ble_eq_true rfl, Nat.le_of_ble_eq_true rfl⟩ ⟨Nat.le_of_ble_eq_true rfl, Nat.le_of_ble_eq_true rfl⟩ (Nat.le_of_ble_eq_true rfl) hS hW dL_act_231 (fun H locs q9 ce hW hS h91 h92 h93 => ?_)
                                    refine vx_catch (own := RL) (name := "java/lang/IllegalStateException") (E := "java/lang/IllegalStateException") C.2.2.1 ([⟨0, 384, 385, 71⟩, ⟨0, 384, 391, 73⟩] : List ExceptionTableEntry) (⟨0, 384, 397, 75⟩ : ExceptionTableEntry) ([] : List ExceptionTableEntry) (by rw [hT]; rfl) (fun z hz => by
      simp only [List.mem_cons, List.not_mem_nil, or_false] at hz
      rcases hz with rfl | rfl
      · exact Or.inr ⟨by decide, "java/lang/IndexOutOfBoundsException", C.2.2.2.1 _ q408, C.2.2.2.2.2.2.2.2.2 _ (List.mem_of_getElem? (i := 5) rfl)⟩
      · exact Or.inr ⟨by decide, "java/lang/IllegalArgumentException", C.2.2.2.1 _ q409, C.2.2.2.2.2.2.2.2.2 _ (List.mem_of_getElem? (i := 4) rfl)⟩) (by decide) (by decide) (C.2.2.2.1 _ q410) (va_Nw.use rfl (C.2.2.2.2.2.1 _ (List.mem_append_right _ (List.mem_append_right _ (List.mem_of_getElem? (i := 2) rfl))))) h91 h92 h93 ?_
                                    refine W.eq (g2 := F0 m 397 ls [.ref q9]) rfl ?_
                                    refine lv_astore (lv' := [(6, .ref q9), (0, .ref (b + 0)), (1, .int x1), (2, .int x2), (3, .int x3), (4, .int x4), (5, .int x5)]) hx hb dL_act_397 hl (by decide) rfl (fun ls hl => ?_)
                                    refine lv_sipush (v := (-9003 : Int32)) hx hb dL_act_399 (by decide) ?_
                                    cases h
                                    exact ret_xi C hr hlk hS hW dL_act_402 (Nat.le_of_ble_eq_true rfl) (Nat.le_of_ble_eq_true rfl)
                                  · have h := (if_neg e2).symm.trans h
                                    cases h
                            refine kL_52R C hml hl.1 (c_X4_refresh hlf hc231) ⟨Nat.le_of_ble_eq_true rfl, Nat.le_of_ble_eq_true rfl⟩ ⟨Nat.le_of_ble_eq_true rfl, Nat.le_of_ble_eq_true rfl⟩ (Nat.le_of_ble_eq_true rfl) hS hW dL_act_231 (fun H locs hW hS => ?_)
                            refine lv_goto (tgt := 384) hx hb dL_act_234 (by decide) ?_
                            cases h
                            exact ret_xi C hr hlk hS hW dL_act_384 (Nat.le_of_ble_eq_true rfl) (Nat.le_of_ble_eq_true rfl)
                        · have h := (if_pos c202).symm.trans h
                          refine lv_aload_n hx hb dL_act_205 rfl (lv_at hl 0 rfl) ?_
                          refine lv_iload_n hx hb dL_act_206 rfl (lv_at hl 2 rfl) ?_
                          refine lv_iload_n hx hb dL_act_207 rfl (lv_at hl 3 rfl) ?_
                          refine lv_iconst (v := (0 : Int32)) hx hb dL_act_208 (by decide) ?_
                          refine lv_iconst (v := (0 : Int32)) hx hb dL_act_209 (by decide) ?_
                          refine lv_iload hx hb dL_act_210 (lv_at hl 4 rfl) ?_
                          refine lv_iload hx hb dL_act_212 (lv_at hl 5 rfl) ?_
                          rcases bdc_e h with ⟨E214, M214, hc214, h⟩ | ⟨r214, M214, hc214, h⟩
                          · by_cases e0 : E214 = "java/lang/IndexOutOfBoundsException"
                            · have h := (if_pos e0).symm.trans h
                              subst e0
                              refine kL_48C C hml hl.1 (c_X4_lock hlf hc214) ⟨Nat.le_of_ble_eq_true rfl, Nat.le_of_ble_eq_true rfl⟩ ⟨Nat.le_of_ble_eq_true rfl, Nat.le_of_ble_eq_true rfl⟩ (Nat.le_of_ble_eq_true rfl) hS hW dL_act_214 (fun H locs q9 ce hW hS h91 h92 h93 => ?_)
                              refine vx_catch (own := RL) (name := "java/lang/IndexOutOfBoundsException") (E := "java/lang/IndexOutOfBoundsException") C.2.2.1 ([] : List ExceptionTableEntry) (⟨0, 384, 385, 71⟩ : ExceptionTableEntry) ([⟨0, 384, 391, 73⟩, ⟨0, 384, 397, 75⟩] : List ExceptionTableEntry) (by rw [hT]; rfl) (fun z hz => by cases hz) (by decide) (by decide) (C.2.2.2.1 _ q408) (va_Nw.use rfl (C.2.2.2.2.2.1 _ (List.mem_append_right _ (List.mem_append_right _ (List.mem_of_getElem? (i := 1) rfl))))) h91 h92 h93 ?_
                              refine W.eq (g2 := F0 m 385 ls [.ref q9]) rfl ?_
                              refine lv_astore (lv' := [(6, .ref q9), (0, .ref (b + 0)), (1, .int x1), (2, .int x2), (3, .int x3), (4, .int x4), (5, .int x5)]) hx hb dL_act_385 hl (by decide) rfl (fun ls hl => ?_)
                              refine lv_sipush (v := (-9001 : Int32)) hx hb dL_act_387 (by decide) ?_
                              cases h
                              exact ret_xi C hr hlk hS hW dL_act_390 (Nat.le_of_ble_eq_true rfl) (Nat.le_of_ble_eq_true rfl)
                            · have h := (if_neg e0).symm.trans h
                              by_cases e1 : E214 = "java/lang/IllegalArgumentException"
                              · have h := (if_pos e1).symm.trans h
                                subst e1
                                refine kL_48C C hml hl.1 (c_X4_lock hlf hc214) ⟨Nat.le_of_ble_eq_true rfl, Nat.le_of_ble_eq_true rfl⟩ ⟨Nat.le_of_ble_eq_true rfl, Nat.le_of_ble_eq_true rfl⟩ (Nat.le_of_ble_eq_true rfl) hS hW dL_act_214 (fun H locs q9 ce hW hS h91 h92 h93 => ?_)
                                refine vx_catch (own := RL) (name := "java/lang/IllegalArgumentException") (E := "java/lang/IllegalArgumentException") C.2.2.1 ([⟨0, 384, 385, 71⟩] : List ExceptionTableEntry) (⟨0, 384, 391, 73⟩ : ExceptionTableEntry) ([⟨0, 384, 397, 75⟩] : List ExceptionTableEntry) (by rw [hT]; rfl) (fun z hz => by
      simp only [List.mem_cons, List.not_mem_nil, or_false] at hz
      rcases hz with rfl
      · exact Or.inr ⟨by decide, "java/lang/IndexOutOfBoundsException", C.2.2.2.1 _ q408, C.2.2.2.2.2.2.2.2.2 _ (List.mem_of_getElem? (i := 0) rfl)⟩) (by decide) (by decide) (C.2.2.2.1 _ q409) (va_Nw.use rfl (C.2.2.2.2.2.1 _ (List.mem_append_right _ (List.mem_append_right _ (List.mem_of_getElem? (i := 0) rfl))))) h91 h92 h93 ?_
                                refine W.eq (g2 := F0 m 391 ls [.ref q9]) rfl ?_
                                refine lv_astore (lv' := [(6, .ref q9), (0, .ref (b + 0)), (1, .int x1), (2, .int x2), (3, .int x3), (4, .int x4), (5, .int x5)]) hx hb dL_act_391 hl (by decide) rfl (fun ls hl => ?_)
                                refine lv_sipush (v := (-9002 : Int32)) hx hb dL_act_393 (by decide) ?_
                                cases h
                                exact ret_xi C hr hlk hS hW dL_act_396 (Nat.le_of_ble_eq_true rfl) (Nat.le_of_ble_eq_true rfl)
                              · have h := (if_neg e1).symm.trans h
                                by_cases e2 : E214 = "java/lang/IllegalStateException"
                                · have h := (if_pos e2).symm.trans h
                                  subst e2
                                  refine kL_48C C hml hl.1 (c_X4_lock hlf hc214) ⟨Nat.le_of_ble_eq_true rfl, Nat.le_of_ble_eq_true rfl⟩ ⟨Nat.le_of_ble_eq_true rfl, Nat.le_of_ble_eq_true rfl⟩ (Nat.le_of_ble_eq_true rfl) hS hW dL_act_214 (fun H locs q9 ce hW hS h91 h92 h93 => ?_)
                                  refine vx_catch (own := RL) (name := "java/lang/IllegalStateException") (E := "java/lang/IllegalStateException") C.2.2.1 ([⟨0, 384, 385, 71⟩, ⟨0, 384, 391, 73⟩] : List ExceptionTableEntry) (⟨0, 384, 397, 75⟩ : ExceptionTableEntry) ([] : List ExceptionTableEntry) (by rw [hT]; rfl) (fun z hz => by
      simp only [List.mem_cons, List.not_mem_nil, or_false] at hz
      rcases hz with rfl | rfl
      · exact Or.inr ⟨by decide, "java/lang/IndexOutOfBoundsException", C.2.2.2.1 _ q408, C.2.2.2.2.2.2.2.2.2 _ (List.mem_of_getElem? (i := 5) rfl)⟩
      · exact Or.inr ⟨by decide, "java/lang/IllegalArgumentException", C.2.2.2.1 _ q409, C.2.2.2.2.2.2.2.2.2 _ (List.mem_of_getElem? (i := 4) rfl)⟩) (by decide) (by decide) (C.2.2.2.1 _ q410) (va_Nw.use rfl (C.2.2.2.2.2.1 _ (List.mem_append_right _ (List.mem_append_right _ (List.mem_of_getElem? (i := 2) rfl))))) h91 h92 h93 ?_
                                  refine W.eq (g2 := F0 m 397 ls [.ref q9]) rfl ?_
                                  refine lv_astore (lv' := [(6, .ref q9), (0, .ref (b + 0)), (1, .int x1), (2, .int x2), (3, .int x3), (4, .int x4), (5, .int x5)]) hx hb dL_act_397 hl (by decide) rfl (fun ls hl => ?_)
                                  refine lv_sipush (v := (-9003 : Int32)) hx hb dL_act_399 (by decide) ?_
                                  cases h
                                  exact ret_xi C hr hlk hS hW dL_act_402 (Nat.le_of_ble_eq_true rfl) (Nat.le_of_ble_eq_true rfl)
                                · have h := (if_neg e2).symm.trans h
                                  cases h
                          refine kL_48R C hml hl.1 (c_X4_lock hlf hc214) ⟨Nat.le_of_ble_eq_true rfl, Nat.le_of_ble_eq_true rfl⟩ ⟨Nat.le_of_ble_eq_true rfl, Nat.le_of_ble_eq_true rfl⟩ (Nat.le_of_ble_eq_true rfl) hS hW dL_act_214 (fun H locs hW hS => ?_)
                          refine lv_goto (tgt := 384) hx hb dL_act_217 (by decide) ?_
                          cases h
                          exact ret_xi C hr hlk hS hW dL_act_384 (Nat.le_of_ble_eq_true rfl) (Nat.le_of_ble_eq_true rfl)
                      · have h := (if_pos c183).symm.trans h
                        refine lv_aload_n hx hb dL_act_186 rfl (lv_at hl 0 rfl) ?_
                        refine lv_iload_n hx hb dL_act_187 rfl (lv_at hl 2 rfl) ?_
                        refine lv_iload_n hx hb dL_act_188 rfl (lv_at hl 3 rfl) ?_
                        refine lv_iload hx hb dL_act_189 (lv_at hl 4 rfl) ?_
                        refine lv_iload hx hb dL_act_191 (lv_at hl 5 rfl) ?_
                        rcases bdc_e h with ⟨E193, M193, hc193, h⟩ | ⟨r193, M193, hc193, h⟩
                        · by_cases e0 : E193 = "java/lang/IndexOutOfBoundsException"
                          · have h := (if_pos e0).symm.trans h
                            subst e0
                            refine kL_44C C hml hl.1 (c_X4_order hlf hc193) ⟨Nat.le_of_ble_eq_true rfl, Nat.le_of_ble_eq_true rfl⟩ ⟨Nat.le_of_ble_eq_true rfl, Nat.le_of_ble_eq_true rfl⟩ (Nat.le_of_ble_eq_true rfl) hS hW dL_act_193 (fun H locs q9 ce hW hS h91 h92 h93 => ?_)
                            refine vx_catch (own := RL) (name := "java/lang/IndexOutOfBoundsException") (E := "java/lang/IndexOutOfBoundsException") C.2.2.1 ([] : List ExceptionTableEntry) (⟨0, 384, 385, 71⟩ : ExceptionTableEntry) ([⟨0, 384, 391, 73⟩, ⟨0, 384, 397, 75⟩] : List ExceptionTableEntry) (by rw [hT]; rfl) (fun z hz => by cases hz) (by decide) (by decide) (C.2.2.2.1 _ q408) (va_Nw.use rfl (C.2.2.2.2.2.1 _ (List.mem_append_right _ (List.mem_append_right _ (List.mem_of_getElem? (i := 1) rfl))))) h91 h92 h93 ?_
                            refine W.eq (g2 := F0 m 385 ls [.ref q9]) rfl ?_
                            refine lv_astore (lv' := [(6, .ref q9), (0, .ref (b + 0)), (1, .int x1), (2, .int x2), (3, .int x3), (4, .int x4), (5, .int x5)]) hx hb dL_act_385 hl (by decide) rfl (fun ls hl => ?_)
                            refine lv_sipush (v := (-9001 : Int32)) hx hb dL_act_387 (by decide) ?_
                            cases h
                            exact ret_xi C hr hlk hS hW dL_act_390 (Nat.le_of_ble_eq_true rfl) (Nat.le_of_ble_eq_true rfl)
                          · have h := (if_neg e0).symm.trans h
                            by_cases e1 : E193 = "java/lang/IllegalArgumentException"
                            · have h := (if_pos e1).symm.trans h
                              subst e1
                              refine kL_44C C hml hl.1 (c_X4_order hlf hc193) ⟨Nat.le_of_ble_eq_true rfl, Nat.le_of_ble_eq_true rfl⟩ ⟨Nat.le_of_ble_eq_true rfl, Nat.le_of_ble_eq_true rfl⟩ (Nat.le_of_ble_eq_true rfl) hS hW dL_act_193 (fun H locs q9 ce hW hS h91 h92 h93 => ?_)
                              refine vx_catch (own := RL) (name := "java/lang/IllegalArgumentException") (E := "java/lang/IllegalArgumentException") C.2.2.1 ([⟨0, 384, 385, 71⟩] : List ExceptionTableEntry) (⟨0, 384, 391, 73⟩ : ExceptionTableEntry) ([⟨0, 384, 397, 75⟩] : List ExceptionTableEntry) (by rw [hT]; rfl) (fun z hz => by
      simp only [List.mem_cons, List.not_mem_nil, or_false] at hz
      rcases hz with rfl
      · exact Or.inr ⟨by decide, "java/lang/IndexOutOfBoundsException", C.2.2.2.1 _ q408, C.2.2.2.2.2.2.2.2.2 _ (List.mem_of_getElem? (i := 0) rfl)⟩) (by decide) (by decide) (C.2.2.2.1 _ q409) (va_Nw.use rfl (C.2.2.2.2.2.1 _ (List.mem_append_right _ (List.mem_append_right _ (List.mem_of_getElem? (i := 0) rfl))))) h91 h92 h93 ?_
                              refine W.eq (g2 := F0 m 391 ls [.ref q9]) rfl ?_
                              refine lv_astore (lv' := [(6, .ref q9), (0, .ref (b + 0)), (1, .int x1), (2, .int x2), (3, .int x3), (4, .int x4), (5, .int x5)]) hx hb dL_act_391 hl (by decide) rfl (fun ls hl => ?_)
                              refine lv_sipush (v := (-9002 : Int32)) hx hb dL_act_393 (by decide) ?_
                              cases h
                              exact ret_xi C hr hlk hS hW dL_act_396 (Nat.le_of_ble_eq_true rfl) (Nat.le_of_ble_eq_true rfl)
                            · have h := (if_neg e1).symm.trans h
                              by_cases e2 : E193 = "java/lang/IllegalStateException"
                              · have h := (if_pos e2).symm.trans h
                                subst e2
                                refine kL_44C C hml hl.1 (c_X4_order hlf hc193) ⟨Nat.le_of_ble_eq_true rfl, Nat.le_of_ble_eq_true rfl⟩ ⟨Nat.le_of_ble_eq_true rfl, Nat.le_of_ble_eq_true rfl⟩ (Nat.le_of_ble_eq_true rfl) hS hW dL_act_193 (fun H locs q9 ce hW hS h91 h92 h93 => ?_)
                                refine vx_catch (own := RL) (name := "java/lang/IllegalStateException") (E := "java/lang/IllegalStateException") C.2.2.1 ([⟨0, 384, 385, 71⟩, ⟨0, 384, 391, 73⟩] : List ExceptionTableEntry) (⟨0, 384, 397, 75⟩ : ExceptionTableEntry) ([] : List ExceptionTableEntry) (by rw [hT]; rfl) (fun z hz => by
      simp only [List.mem_cons, List.not_mem_nil, or_false] at hz
      rcases hz with rfl | rfl
      · exact Or.inr ⟨by decide, "java/lang/IndexOutOfBoundsException", C.2.2.2.1 _ q408, C.2.2.2.2.2.2.2.2.2 _ (List.mem_of_getElem? (i := 5) rfl)⟩
      · exact Or.inr ⟨by decide, "java/lang/IllegalArgumentException", C.2.2.2.1 _ q409, C.2.2.2.2.2.2.2.2.2 _ (List.mem_of_getElem? (i := 4) rfl)⟩) (by decide) (by decide) (C.2.2.2.1 _ q410) (va_Nw.use rfl (C.2.2.2.2.2.1 _ (List.mem_append_right _ (List.mem_append_right _ (List.mem_of_getElem? (i := 2) rfl))))) h91 h92 h93 ?_
                                refine W.eq (g2 := F0 m 397 ls [.ref q9]) rfl ?_
                                refine lv_astore (lv' := [(6, .ref q9), (0, .ref (b + 0)), (1, .int x1), (2, .int x2), (3, .int x3), (4, .int x4), (5, .int x5)]) hx hb dL_act_397 hl (by decide) rfl (fun ls hl => ?_)
                                refine lv_sipush (v := (-9003 : Int32)) hx hb dL_act_399 (by decide) ?_
                                cases h
                                exact ret_xi C hr hlk hS hW dL_act_402 (Nat.le_of_ble_eq_true rfl) (Nat.le_of_ble_eq_true rfl)
                              · have h := (if_neg e2).symm.trans h
                                cases h
                        refine kL_44R C hml hl.1 (c_X4_order hlf hc193) ⟨Nat.le_of_ble_eq_true rfl, Nat.le_of_ble_eq_true rfl⟩ ⟨Nat.le_of_ble_eq_true rfl, Nat.le_of_ble_eq_true rfl⟩ (Nat.le_of_ble_eq_true rfl) hS hW dL_act_193 (fun H locs hW hS => ?_)
                        refine lv_goto (tgt := 384) hx hb dL_act_196 (by decide) ?_
                        cases h
                        exact ret_xi C hr hlk hS hW dL_act_384 (Nat.le_of_ble_eq_true rfl) (Nat.le_of_ble_eq_true rfl)
                    · have h := (if_pos c168).symm.trans h
                      refine lv_aload_n hx hb dL_act_171 rfl (lv_at hl 0 rfl) ?_
                      refine lv_iload_n hx hb dL_act_172 rfl (lv_at hl 2 rfl) ?_
                      refine lv_iload_n hx hb dL_act_173 rfl (lv_at hl 3 rfl) ?_
                      rcases bdc_e h with ⟨E174, M174, hc174, h⟩ | ⟨r174, M174, hc174, h⟩
                      · by_cases e0 : E174 = "java/lang/IndexOutOfBoundsException"
                        · have h := (if_pos e0).symm.trans h
                          subst e0
                          refine kL_40C C hml hl.1 (c_X4_memberAt hlf hc174) ⟨Nat.le_of_ble_eq_true rfl, Nat.le_of_ble_eq_true rfl⟩ ⟨Nat.le_of_ble_eq_true rfl, Nat.le_of_ble_eq_true rfl⟩ (Nat.le_of_ble_eq_true rfl) hS hW dL_act_174 (fun H locs q9 ce hW hS h91 h92 h93 => ?_)
                          refine vx_catch (own := RL) (name := "java/lang/IndexOutOfBoundsException") (E := "java/lang/IndexOutOfBoundsException") C.2.2.1 ([] : List ExceptionTableEntry) (⟨0, 384, 385, 71⟩ : ExceptionTableEntry) ([⟨0, 384, 391, 73⟩, ⟨0, 384, 397, 75⟩] : List ExceptionTableEntry) (by rw [hT]; rfl) (fun z hz => by cases hz) (by decide) (by decide) (C.2.2.2.1 _ q408) (va_Nw.use rfl (C.2.2.2.2.2.1 _ (List.mem_append_right _ (List.mem_append_right _ (List.mem_of_getElem? (i := 1) rfl))))) h91 h92 h93 ?_
                          refine W.eq (g2 := F0 m 385 ls [.ref q9]) rfl ?_
                          refine lv_astore (lv' := [(6, .ref q9), (0, .ref (b + 0)), (1, .int x1), (2, .int x2), (3, .int x3), (4, .int x4), (5, .int x5)]) hx hb dL_act_385 hl (by decide) rfl (fun ls hl => ?_)
                          refine lv_sipush (v := (-9001 : Int32)) hx hb dL_act_387 (by decide) ?_
                          cases h
                          exact ret_xi C hr hlk hS hW dL_act_390 (Nat.le_of_ble_eq_true rfl) (Nat.le_of_ble_eq_true rfl)
                        · have h := (if_neg e0).symm.trans h
                          by_cases e1 : E174 = "java/lang/IllegalArgumentException"
                          · have h := (if_pos e1).symm.trans h
                            subst e1
                            refine kL_40C C hml hl.1 (c_X4_memberAt hlf hc174) ⟨Nat.le_of_ble_eq_true rfl, Nat.le_of_ble_eq_true rfl⟩ ⟨Nat.le_of_ble_eq_true rfl, Nat.le_of_ble_eq_true rfl⟩ (Nat.le_of_ble_eq_true rfl) hS hW dL_act_174 (fun H locs q9 ce hW hS h91 h92 h93 => ?_)
                            refine vx_catch (own := RL) (name := "java/lang/IllegalArgumentException") (E := "java/lang/IllegalArgumentException") C.2.2.1 ([⟨0, 384, 385, 71⟩] : List ExceptionTableEntry) (⟨0, 384, 391, 73⟩ : ExceptionTableEntry) ([⟨0, 384, 397, 75⟩] : List ExceptionTableEntry) (by rw [hT]; rfl) (fun z hz => by
      simp only [List.mem_cons, List.not_mem_nil, or_false] at hz
      rcases hz with rfl
      · exact Or.inr ⟨by decide, "java/lang/IndexOutOfBoundsException", C.2.2.2.1 _ q408, C.2.2.2.2.2.2.2.2.2 _ (List.mem_of_getElem? (i := 0) rfl)⟩) (by decide) (by decide) (C.2.2.2.1 _ q409) (va_Nw.use rfl (C.2.2.2.2.2.1 _ (List.mem_append_right _ (List.mem_append_right _ (List.mem_of_getElem? (i := 0) rfl))))) h91 h92 h93 ?_
                            refine W.eq (g2 := F0 m 391 ls [.ref q9]) rfl ?_
                            refine lv_astore (lv' := [(6, .ref q9), (0, .ref (b + 0)), (1, .int x1), (2, .int x2), (3, .int x3), (4, .int x4), (5, .int x5)]) hx hb dL_act_391 hl (by decide) rfl (fun ls hl => ?_)
                            refine lv_sipush (v := (-9002 : Int32)) hx hb dL_act_393 (by decide) ?_
                            cases h
                            exact ret_xi C hr hlk hS hW dL_act_396 (Nat.le_of_ble_eq_true rfl) (Nat.le_of_ble_eq_true rfl)
                          · have h := (if_neg e1).symm.trans h
                            by_cases e2 : E174 = "java/lang/IllegalStateException"
                            · have h := (if_pos e2).symm.trans h
                              subst e2
                              refine kL_40C C hml hl.1 (c_X4_memberAt hlf hc174) ⟨Nat.le_of_ble_eq_true rfl, Nat.le_of_ble_eq_true rfl⟩ ⟨Nat.le_of_ble_eq_true rfl, Nat.le_of_ble_eq_true rfl⟩ (Nat.le_of_ble_eq_true rfl) hS hW dL_act_174 (fun H locs q9 ce hW hS h91 h92 h93 => ?_)
                              refine vx_catch (own := RL) (name := "java/lang/IllegalStateException") (E := "java/lang/IllegalStateException") C.2.2.1 ([⟨0, 384, 385, 71⟩, ⟨0, 384, 391, 73⟩] : List ExceptionTableEntry) (⟨0, 384, 397, 75⟩ : ExceptionTableEntry) ([] : List ExceptionTableEntry) (by rw [hT]; rfl) (fun z hz => by
      simp only [List.mem_cons, List.not_mem_nil, or_false] at hz
      rcases hz with rfl | rfl
      · exact Or.inr ⟨by decide, "java/lang/IndexOutOfBoundsException", C.2.2.2.1 _ q408, C.2.2.2.2.2.2.2.2.2 _ (List.mem_of_getElem? (i := 5) rfl)⟩
      · exact Or.inr ⟨by decide, "java/lang/IllegalArgumentException", C.2.2.2.1 _ q409, C.2.2.2.2.2.2.2.2.2 _ (List.mem_of_getElem? (i := 4) rfl)⟩) (by decide) (by decide) (C.2.2.2.1 _ q410) (va_Nw.use rfl (C.2.2.2.2.2.1 _ (List.mem_append_right _ (List.mem_append_right _ (List.mem_of_getElem? (i := 2) rfl))))) h91 h92 h93 ?_
                              refine W.eq (g2 := F0 m 397 ls [.ref q9]) rfl ?_
                              refine lv_astore (lv' := [(6, .ref q9), (0, .ref (b + 0)), (1, .int x1), (2, .int x2), (3, .int x3), (4, .int x4), (5, .int x5)]) hx hb dL_act_397 hl (by decide) rfl (fun ls hl => ?_)
                              refine lv_sipush (v := (-9003 : Int32)) hx hb dL_act_399 (by decide) ?_
                              cases h
                              exact ret_xi C hr hlk hS hW dL_act_402 (Nat.le_of_ble_eq_true rfl) (Nat.le_of_ble_eq_true rfl)
                            · have h := (if_neg e2).symm.trans h
                              cases h
                      refine kL_40R C hml hl.1 (c_X4_memberAt hlf hc174) ⟨Nat.le_of_ble_eq_true rfl, Nat.le_of_ble_eq_true rfl⟩ ⟨Nat.le_of_ble_eq_true rfl, Nat.le_of_ble_eq_true rfl⟩ (Nat.le_of_ble_eq_true rfl) hS hW dL_act_174 (fun H locs hW hS => ?_)
                      refine lv_goto (tgt := 384) hx hb dL_act_177 (by decide) ?_
                      cases h
                      exact ret_xi C hr hlk hS hW dL_act_384 (Nat.le_of_ble_eq_true rfl) (Nat.le_of_ble_eq_true rfl)
                  · have h := (if_pos c154).symm.trans h
                    refine lv_aload_n hx hb dL_act_157 rfl (lv_at hl 0 rfl) ?_
                    refine lv_iload_n hx hb dL_act_158 rfl (lv_at hl 2 rfl) ?_
                    rcases bdc_e h with ⟨E159, M159, hc159, h⟩ | ⟨r159, M159, hc159, h⟩
                    · by_cases e0 : E159 = "java/lang/IndexOutOfBoundsException"
                      · have h := (if_pos e0).symm.trans h
                        subst e0
                        refine kL_37C C hml hl.1 (c_X4_members hlf hc159) ⟨Nat.le_of_ble_eq_true rfl, Nat.le_of_ble_eq_true rfl⟩ ⟨Nat.le_of_ble_eq_true rfl, Nat.le_of_ble_eq_true rfl⟩ (Nat.le_of_ble_eq_true rfl) hS hW dL_act_159 (fun H locs q9 ce hW hS h91 h92 h93 => ?_)
                        refine vx_catch (own := RL) (name := "java/lang/IndexOutOfBoundsException") (E := "java/lang/IndexOutOfBoundsException") C.2.2.1 ([] : List ExceptionTableEntry) (⟨0, 384, 385, 71⟩ : ExceptionTableEntry) ([⟨0, 384, 391, 73⟩, ⟨0, 384, 397, 75⟩] : List ExceptionTableEntry) (by rw [hT]; rfl) (fun z hz => by cases hz) (by decide) (by decide) (C.2.2.2.1 _ q408) (va_Nw.use rfl (C.2.2.2.2.2.1 _ (List.mem_append_right _ (List.mem_append_right _ (List.mem_of_getElem? (i := 1) rfl))))) h91 h92 h93 ?_
                        refine W.eq (g2 := F0 m 385 ls [.ref q9]) rfl ?_
                        refine lv_astore (lv' := [(6, .ref q9), (0, .ref (b + 0)), (1, .int x1), (2, .int x2), (3, .int x3), (4, .int x4), (5, .int x5)]) hx hb dL_act_385 hl (by decide) rfl (fun ls hl => ?_)
                        refine lv_sipush (v := (-9001 : Int32)) hx hb dL_act_387 (by decide) ?_
                        cases h
                        exact ret_xi C hr hlk hS hW dL_act_390 (Nat.le_of_ble_eq_true rfl) (Nat.le_of_ble_eq_true rfl)
                      · have h := (if_neg e0).symm.trans h
                        by_cases e1 : E159 = "java/lang/IllegalArgumentException"
                        · have h := (if_pos e1).symm.trans h
                          subst e1
                          refine kL_37C C hml hl.1 (c_X4_members hlf hc159) ⟨Nat.le_of_ble_eq_true rfl, Nat.le_of_ble_eq_true rfl⟩ ⟨Nat.le_of_ble_eq_true rfl, Nat.le_of_ble_eq_true rfl⟩ (Nat.le_of_ble_eq_true rfl) hS hW dL_act_159 (fun H locs q9 ce hW hS h91 h92 h93 => ?_)
                          refine vx_catch (own := RL) (name := "java/lang/IllegalArgumentException") (E := "java/lang/IllegalArgumentException") C.2.2.1 ([⟨0, 384, 385, 71⟩] : List ExceptionTableEntry) (⟨0, 384, 391, 73⟩ : ExceptionTableEntry) ([⟨0, 384, 397, 75⟩] : List ExceptionTableEntry) (by rw [hT]; rfl) (fun z hz => by
      simp only [List.mem_cons, List.not_mem_nil, or_false] at hz
      rcases hz with rfl
      · exact Or.inr ⟨by decide, "java/lang/IndexOutOfBoundsException", C.2.2.2.1 _ q408, C.2.2.2.2.2.2.2.2.2 _ (List.mem_of_getElem? (i := 0) rfl)⟩) (by decide) (by decide) (C.2.2.2.1 _ q409) (va_Nw.use rfl (C.2.2.2.2.2.1 _ (List.mem_append_right _ (List.mem_append_right _ (List.mem_of_getElem? (i := 0) rfl))))) h91 h92 h93 ?_
                          refine W.eq (g2 := F0 m 391 ls [.ref q9]) rfl ?_
                          refine lv_astore (lv' := [(6, .ref q9), (0, .ref (b + 0)), (1, .int x1), (2, .int x2), (3, .int x3), (4, .int x4), (5, .int x5)]) hx hb dL_act_391 hl (by decide) rfl (fun ls hl => ?_)
                          refine lv_sipush (v := (-9002 : Int32)) hx hb dL_act_393 (by decide) ?_
                          cases h
                          exact ret_xi C hr hlk hS hW dL_act_396 (Nat.le_of_ble_eq_true rfl) (Nat.le_of_ble_eq_true rfl)
                        · have h := (if_neg e1).symm.trans h
                          by_cases e2 : E159 = "java/lang/IllegalStateException"
                          · have h := (if_pos e2).symm.trans h
                            subst e2
                            refine kL_37C C hml hl.1 (c_X4_members hlf hc159) ⟨Nat.le_of_ble_eq_true rfl, Nat.le_of_ble_eq_true rfl⟩ ⟨Nat.le_of_ble_eq_true rfl, Nat.le_of_ble_eq_true rfl⟩ (Nat.le_of_ble_eq_true rfl) hS hW dL_act_159 (fun H locs q9 ce hW hS h91 h92 h93 => ?_)
                            refine vx_catch (own := RL) (name := "java/lang/IllegalStateException") (E := "java/lang/IllegalStateException") C.2.2.1 ([⟨0, 384, 385, 71⟩, ⟨0, 384, 391, 73⟩] : List ExceptionTableEntry) (⟨0, 384, 397, 75⟩ : ExceptionTableEntry) ([] : List ExceptionTableEntry) (by rw [hT]; rfl) (fun z hz => by
      simp only [List.mem_cons, List.not_mem_nil, or_false] at hz
      rcases hz with rfl | rfl
      · exact Or.inr ⟨by decide, "java/lang/IndexOutOfBoundsException", C.2.2.2.1 _ q408, C.2.2.2.2.2.2.2.2.2 _ (List.mem_of_getElem? (i := 5) rfl)⟩
      · exact Or.inr ⟨by decide, "java/lang/IllegalArgumentException", C.2.2.2.1 _ q409, C.2.2.2.2.2.2.2.2.2 _ (List.mem_of_getElem? (i := 4) rfl)⟩) (by decide) (by decide) (C.2.2.2.1 _ q410) (va_Nw.use rfl (C.2.2.2.2.2.1 _ (List.mem_append_right _ (List.mem_append_right _ (List.mem_of_getElem? (i := 2) rfl))))) h91 h92 h93 ?_
                            refine W.eq (g2 := F0 m 397 ls [.ref q9]) rfl ?_
                            refine lv_astore (lv' := [(6, .ref q9), (0, .ref (b + 0)), (1, .int x1), (2, .int x2), (3, .int x3), (4, .int x4), (5, .int x5)]) hx hb dL_act_397 hl (by decide) rfl (fun ls hl => ?_)
                            refine lv_sipush (v := (-9003 : Int32)) hx hb dL_act_399 (by decide) ?_
                            cases h
                            exact ret_xi C hr hlk hS hW dL_act_402 (Nat.le_of_ble_eq_true rfl) (Nat.le_of_ble_eq_true rfl)
                          · have h := (if_neg e2).symm.trans h
                            cases h
                    refine kL_37R C hml hl.1 (c_X4_members hlf hc159) ⟨Nat.le_of_ble_eq_true rfl, Nat.le_of_ble_eq_true rfl⟩ ⟨Nat.le_of_ble_eq_true rfl, Nat.le_of_ble_eq_true rfl⟩ (Nat.le_of_ble_eq_true rfl) hS hW dL_act_159 (fun H locs hW hS => ?_)
                    refine lv_goto (tgt := 384) hx hb dL_act_162 (by decide) ?_
                    cases h
                    exact ret_xi C hr hlk hS hW dL_act_384 (Nat.le_of_ble_eq_true rfl) (Nat.le_of_ble_eq_true rfl)
                · have h := (if_pos c140).symm.trans h
                  refine lv_aload_n hx hb dL_act_143 rfl (lv_at hl 0 rfl) ?_
                  refine lv_iload_n hx hb dL_act_144 rfl (lv_at hl 2 rfl) ?_
                  rcases bdc_e h with ⟨E145, M145, hc145, h⟩ | ⟨r145, M145, hc145, h⟩
                  · by_cases e0 : E145 = "java/lang/IndexOutOfBoundsException"
                    · have h := (if_pos e0).symm.trans h
                      subst e0
                      refine kL_34C C hml hl.1 (c_X4_content hlf hc145) ⟨Nat.le_of_ble_eq_true rfl, Nat.le_of_ble_eq_true rfl⟩ ⟨Nat.le_of_ble_eq_true rfl, Nat.le_of_ble_eq_true rfl⟩ (Nat.le_of_ble_eq_true rfl) hS hW dL_act_145 (fun H locs q9 ce hW hS h91 h92 h93 => ?_)
                      refine vx_catch (own := RL) (name := "java/lang/IndexOutOfBoundsException") (E := "java/lang/IndexOutOfBoundsException") C.2.2.1 ([] : List ExceptionTableEntry) (⟨0, 384, 385, 71⟩ : ExceptionTableEntry) ([⟨0, 384, 391, 73⟩, ⟨0, 384, 397, 75⟩] : List ExceptionTableEntry) (by rw [hT]; rfl) (fun z hz => by cases hz) (by decide) (by decide) (C.2.2.2.1 _ q408) (va_Nw.use rfl (C.2.2.2.2.2.1 _ (List.mem_append_right _ (List.mem_append_right _ (List.mem_of_getElem? (i := 1) rfl))))) h91 h92 h93 ?_
                      refine W.eq (g2 := F0 m 385 ls [.ref q9]) rfl ?_
                      refine lv_astore (lv' := [(6, .ref q9), (0, .ref (b + 0)), (1, .int x1), (2, .int x2), (3, .int x3), (4, .int x4), (5, .int x5)]) hx hb dL_act_385 hl (by decide) rfl (fun ls hl => ?_)
                      refine lv_sipush (v := (-9001 : Int32)) hx hb dL_act_387 (by decide) ?_
                      cases h
                      exact ret_xi C hr hlk hS hW dL_act_390 (Nat.le_of_ble_eq_true rfl) (Nat.le_of_ble_eq_true rfl)
                    · have h := (if_neg e0).symm.trans h
                      by_cases e1 : E145 = "java/lang/IllegalArgumentException"
                      · have h := (if_pos e1).symm.trans h
                        subst e1
                        refine kL_34C C hml hl.1 (c_X4_content hlf hc145) ⟨Nat.le_of_ble_eq_true rfl, Nat.le_of_ble_eq_true rfl⟩ ⟨Nat.le_of_ble_eq_true rfl, Nat.le_of_ble_eq_true rfl⟩ (Nat.le_of_ble_eq_true rfl) hS hW dL_act_145 (fun H locs q9 ce hW hS h91 h92 h93 => ?_)
                        refine vx_catch (own := RL) (name := "java/lang/IllegalArgumentException") (E := "java/lang/IllegalArgumentException") C.2.2.1 ([⟨0, 384, 385, 71⟩] : List ExceptionTableEntry) (⟨0, 384, 391, 73⟩ : ExceptionTableEntry) ([⟨0, 384, 397, 75⟩] : List ExceptionTableEntry) (by rw [hT]; rfl) (fun z hz => by
      simp only [List.mem_cons, List.not_mem_nil, or_false] at hz
      rcases hz with rfl
      · exact Or.inr ⟨by decide, "java/lang/IndexOutOfBoundsException", C.2.2.2.1 _ q408, C.2.2.2.2.2.2.2.2.2 _ (List.mem_of_getElem? (i := 0) rfl)⟩) (by decide) (by decide) (C.2.2.2.1 _ q409) (va_Nw.use rfl (C.2.2.2.2.2.1 _ (List.mem_append_right _ (List.mem_append_right _ (List.mem_of_getElem? (i := 0) rfl))))) h91 h92 h93 ?_
                        refine W.eq (g2 := F0 m 391 ls [.ref q9]) rfl ?_
                        refine lv_astore (lv' := [(6, .ref q9), (0, .ref (b + 0)), (1, .int x1), (2, .int x2), (3, .int x3), (4, .int x4), (5, .int x5)]) hx hb dL_act_391 hl (by decide) rfl (fun ls hl => ?_)
                        refine lv_sipush (v := (-9002 : Int32)) hx hb dL_act_393 (by decide) ?_
                        cases h
                        exact ret_xi C hr hlk hS hW dL_act_396 (Nat.le_of_ble_eq_true rfl) (Nat.le_of_ble_eq_true rfl)
                      · have h := (if_neg e1).symm.trans h
                        by_cases e2 : E145 = "java/lang/IllegalStateException"
                        · have h := (if_pos e2).symm.trans h
                          subst e2
                          refine kL_34C C hml hl.1 (c_X4_content hlf hc145) ⟨Nat.le_of_ble_eq_true rfl, Nat.le_of_ble_eq_true rfl⟩ ⟨Nat.le_of_ble_eq_true rfl, Nat.le_of_ble_eq_true rfl⟩ (Nat.le_of_ble_eq_true rfl) hS hW dL_act_145 (fun H locs q9 ce hW hS h91 h92 h93 => ?_)
                          refine vx_catch (own := RL) (name := "java/lang/IllegalStateException") (E := "java/lang/IllegalStateException") C.2.2.1 ([⟨0, 384, 385, 71⟩, ⟨0, 384, 391, 73⟩] : List ExceptionTableEntry) (⟨0, 384, 397, 75⟩ : ExceptionTableEntry) ([] : List ExceptionTableEntry) (by rw [hT]; rfl) (fun z hz => by
      simp only [List.mem_cons, List.not_mem_nil, or_false] at hz
      rcases hz with rfl | rfl
      · exact Or.inr ⟨by decide, "java/lang/IndexOutOfBoundsException", C.2.2.2.1 _ q408, C.2.2.2.2.2.2.2.2.2 _ (List.mem_of_getElem? (i := 5) rfl)⟩
      · exact Or.inr ⟨by decide, "java/lang/IllegalArgumentException", C.2.2.2.1 _ q409, C.2.2.2.2.2.2.2.2.2 _ (List.mem_of_getElem? (i := 4) rfl)⟩) (by decide) (by decide) (C.2.2.2.1 _ q410) (va_Nw.use rfl (C.2.2.2.2.2.1 _ (List.mem_append_right _ (List.mem_append_right _ (List.mem_of_getElem? (i := 2) rfl))))) h91 h92 h93 ?_
                          refine W.eq (g2 := F0 m 397 ls [.ref q9]) rfl ?_
                          refine lv_astore (lv' := [(6, .ref q9), (0, .ref (b + 0)), (1, .int x1), (2, .int x2), (3, .int x3), (4, .int x4), (5, .int x5)]) hx hb dL_act_397 hl (by decide) rfl (fun ls hl => ?_)
                          refine lv_sipush (v := (-9003 : Int32)) hx hb dL_act_399 (by decide) ?_
                          cases h
                          exact ret_xi C hr hlk hS hW dL_act_402 (Nat.le_of_ble_eq_true rfl) (Nat.le_of_ble_eq_true rfl)
                        · have h := (if_neg e2).symm.trans h
                          cases h
                  refine kL_34R C hml hl.1 (c_X4_content hlf hc145) ⟨Nat.le_of_ble_eq_true rfl, Nat.le_of_ble_eq_true rfl⟩ ⟨Nat.le_of_ble_eq_true rfl, Nat.le_of_ble_eq_true rfl⟩ (Nat.le_of_ble_eq_true rfl) hS hW dL_act_145 (fun H locs hW hS => ?_)
                  refine lv_goto (tgt := 384) hx hb dL_act_148 (by decide) ?_
                  cases h
                  exact ret_xi C hr hlk hS hW dL_act_384 (Nat.le_of_ble_eq_true rfl) (Nat.le_of_ble_eq_true rfl)
              · have h := (if_pos c126).symm.trans h
                refine lv_aload_n hx hb dL_act_129 rfl (lv_at hl 0 rfl) ?_
                refine lv_iload_n hx hb dL_act_130 rfl (lv_at hl 2 rfl) ?_
                rcases bdc_e h with ⟨E131, M131, hc131, h⟩ | ⟨r131, M131, hc131, h⟩
                · by_cases e0 : E131 = "java/lang/IndexOutOfBoundsException"
                  · have h := (if_pos e0).symm.trans h
                    subst e0
                    refine kL_31C C hml hl.1 (c_X4_kindOf hlf hc131) ⟨Nat.le_of_ble_eq_true rfl, Nat.le_of_ble_eq_true rfl⟩ ⟨Nat.le_of_ble_eq_true rfl, Nat.le_of_ble_eq_true rfl⟩ (Nat.le_of_ble_eq_true rfl) hS hW dL_act_131 (fun H locs q9 ce hW hS h91 h92 h93 => ?_)
                    refine vx_catch (own := RL) (name := "java/lang/IndexOutOfBoundsException") (E := "java/lang/IndexOutOfBoundsException") C.2.2.1 ([] : List ExceptionTableEntry) (⟨0, 384, 385, 71⟩ : ExceptionTableEntry) ([⟨0, 384, 391, 73⟩, ⟨0, 384, 397, 75⟩] : List ExceptionTableEntry) (by rw [hT]; rfl) (fun z hz => by cases hz) (by decide) (by decide) (C.2.2.2.1 _ q408) (va_Nw.use rfl (C.2.2.2.2.2.1 _ (List.mem_append_right _ (List.mem_append_right _ (List.mem_of_getElem? (i := 1) rfl))))) h91 h92 h93 ?_
                    refine W.eq (g2 := F0 m 385 ls [.ref q9]) rfl ?_
                    refine lv_astore (lv' := [(6, .ref q9), (0, .ref (b + 0)), (1, .int x1), (2, .int x2), (3, .int x3), (4, .int x4), (5, .int x5)]) hx hb dL_act_385 hl (by decide) rfl (fun ls hl => ?_)
                    refine lv_sipush (v := (-9001 : Int32)) hx hb dL_act_387 (by decide) ?_
                    cases h
                    exact ret_xi C hr hlk hS hW dL_act_390 (Nat.le_of_ble_eq_true rfl) (Nat.le_of_ble_eq_true rfl)
                  · have h := (if_neg e0).symm.trans h
                    by_cases e1 : E131 = "java/lang/IllegalArgumentException"
                    · have h := (if_pos e1).symm.trans h
                      subst e1
                      refine kL_31C C hml hl.1 (c_X4_kindOf hlf hc131) ⟨Nat.le_of_ble_eq_true rfl, Nat.le_of_ble_eq_true rfl⟩ ⟨Nat.le_of_ble_eq_true rfl, Nat.le_of_ble_eq_true rfl⟩ (Nat.le_of_ble_eq_true rfl) hS hW dL_act_131 (fun H locs q9 ce hW hS h91 h92 h93 => ?_)
                      refine vx_catch (own := RL) (name := "java/lang/IllegalArgumentException") (E := "java/lang/IllegalArgumentException") C.2.2.1 ([⟨0, 384, 385, 71⟩] : List ExceptionTableEntry) (⟨0, 384, 391, 73⟩ : ExceptionTableEntry) ([⟨0, 384, 397, 75⟩] : List ExceptionTableEntry) (by rw [hT]; rfl) (fun z hz => by
      simp only [List.mem_cons, List.not_mem_nil, or_false] at hz
      rcases hz with rfl
      · exact Or.inr ⟨by decide, "java/lang/IndexOutOfBoundsException", C.2.2.2.1 _ q408, C.2.2.2.2.2.2.2.2.2 _ (List.mem_of_getElem? (i := 0) rfl)⟩) (by decide) (by decide) (C.2.2.2.1 _ q409) (va_Nw.use rfl (C.2.2.2.2.2.1 _ (List.mem_append_right _ (List.mem_append_right _ (List.mem_of_getElem? (i := 0) rfl))))) h91 h92 h93 ?_
                      refine W.eq (g2 := F0 m 391 ls [.ref q9]) rfl ?_
                      refine lv_astore (lv' := [(6, .ref q9), (0, .ref (b + 0)), (1, .int x1), (2, .int x2), (3, .int x3), (4, .int x4), (5, .int x5)]) hx hb dL_act_391 hl (by decide) rfl (fun ls hl => ?_)
                      refine lv_sipush (v := (-9002 : Int32)) hx hb dL_act_393 (by decide) ?_
                      cases h
                      exact ret_xi C hr hlk hS hW dL_act_396 (Nat.le_of_ble_eq_true rfl) (Nat.le_of_ble_eq_true rfl)
                    · have h := (if_neg e1).symm.trans h
                      by_cases e2 : E131 = "java/lang/IllegalStateException"
                      · have h := (if_pos e2).symm.trans h
                        subst e2
                        refine kL_31C C hml hl.1 (c_X4_kindOf hlf hc131) ⟨Nat.le_of_ble_eq_true rfl, Nat.le_of_ble_eq_true rfl⟩ ⟨Nat.le_of_ble_eq_true rfl, Nat.le_of_ble_eq_true rfl⟩ (Nat.le_of_ble_eq_true rfl) hS hW dL_act_131 (fun H locs q9 ce hW hS h91 h92 h93 => ?_)
                        refine vx_catch (own := RL) (name := "java/lang/IllegalStateException") (E := "java/lang/IllegalStateException") C.2.2.1 ([⟨0, 384, 385, 71⟩, ⟨0, 384, 391, 73⟩] : List ExceptionTableEntry) (⟨0, 384, 397, 75⟩ : ExceptionTableEntry) ([] : List ExceptionTableEntry) (by rw [hT]; rfl) (fun z hz => by
      simp only [List.mem_cons, List.not_mem_nil, or_false] at hz
      rcases hz with rfl | rfl
      · exact Or.inr ⟨by decide, "java/lang/IndexOutOfBoundsException", C.2.2.2.1 _ q408, C.2.2.2.2.2.2.2.2.2 _ (List.mem_of_getElem? (i := 5) rfl)⟩
      · exact Or.inr ⟨by decide, "java/lang/IllegalArgumentException", C.2.2.2.1 _ q409, C.2.2.2.2.2.2.2.2.2 _ (List.mem_of_getElem? (i := 4) rfl)⟩) (by decide) (by decide) (C.2.2.2.1 _ q410) (va_Nw.use rfl (C.2.2.2.2.2.1 _ (List.mem_append_right _ (List.mem_append_right _ (List.mem_of_getElem? (i := 2) rfl))))) h91 h92 h93 ?_
                        refine W.eq (g2 := F0 m 397 ls [.ref q9]) rfl ?_
                        refine lv_astore (lv' := [(6, .ref q9), (0, .ref (b + 0)), (1, .int x1), (2, .int x2), (3, .int x3), (4, .int x4), (5, .int x5)]) hx hb dL_act_397 hl (by decide) rfl (fun ls hl => ?_)
                        refine lv_sipush (v := (-9003 : Int32)) hx hb dL_act_399 (by decide) ?_
                        cases h
                        exact ret_xi C hr hlk hS hW dL_act_402 (Nat.le_of_ble_eq_true rfl) (Nat.le_of_ble_eq_true rfl)
                      · have h := (if_neg e2).symm.trans h
                        cases h
                refine kL_31R C hml hl.1 (c_X4_kindOf hlf hc131) ⟨Nat.le_of_ble_eq_true rfl, Nat.le_of_ble_eq_true rfl⟩ ⟨Nat.le_of_ble_eq_true rfl, Nat.le_of_ble_eq_true rfl⟩ (Nat.le_of_ble_eq_true rfl) hS hW dL_act_131 (fun H locs hW hS => ?_)
                refine lv_goto (tgt := 384) hx hb dL_act_134 (by decide) ?_
                cases h
                exact ret_xi C hr hlk hS hW dL_act_384 (Nat.le_of_ble_eq_true rfl) (Nat.le_of_ble_eq_true rfl)
            · have h := (if_pos c95).symm.trans h
              refine lv_aload_n hx hb dL_act_98 rfl (lv_at hl 0 rfl) ?_
              refine lv_iload_n hx hb dL_act_99 rfl (lv_at hl 2 rfl) ?_
              refine lv_iload_n hx hb dL_act_100 rfl (lv_at hl 3 rfl) ?_
              refine lv_iload hx hb dL_act_101 (lv_at hl 4 rfl) ?_
              refine lv_iload hx hb dL_act_103 (lv_at hl 5 rfl) ?_
              refine lv_iconst (v := (2 : Int32)) hx hb dL_act_105 (by decide) ?_
              refine lv_irem hx hb dL_act_106 (by decide) ?_
              refine lv_iconst (v := (1 : Int32)) hx hb dL_act_107 (by decide) ?_
              refine lv_icmp_ne (tgt := 115) hx hb dL_act_108 (by decide) (fun c108 => ?_) (fun c108 => ?_)
              · have h := (if_neg c108).symm.trans h
                refine lv_iconst (v := (0 : Int32)) hx hb dL_act_115 (by decide) ?_
                exact w_L_act_116 C hml hr hlk hlf hT h hS hW (lv_sub hl [] rfl)
              · have h := (if_pos c108).symm.trans h
                refine lv_iconst (v := (1 : Int32)) hx hb dL_act_111 (by decide) ?_
                refine lv_goto (tgt := 116) hx hb dL_act_112 (by decide) ?_
                exact w_L_act_116 C hml hr hlk hlf hT h hS hW (lv_sub hl [] rfl)
          · have h := (if_pos c65).symm.trans h
            refine lv_aload_n hx hb dL_act_68 rfl (lv_at hl 0 rfl) ?_
            refine lv_iload_n hx hb dL_act_69 rfl (lv_at hl 2 rfl) ?_
            refine lv_iload_n hx hb dL_act_70 rfl (lv_at hl 3 rfl) ?_
            refine lv_iload hx hb dL_act_71 (lv_at hl 4 rfl) ?_
            refine lv_iload hx hb dL_act_73 (lv_at hl 5 rfl) ?_
            refine lv_iconst (v := (2 : Int32)) hx hb dL_act_75 (by decide) ?_
            refine lv_irem hx hb dL_act_76 (by decide) ?_
            refine lv_iconst (v := (1 : Int32)) hx hb dL_act_77 (by decide) ?_
            refine lv_icmp_ne (tgt := 85) hx hb dL_act_78 (by decide) (fun c78 => ?_) (fun c78 => ?_)
            · have h := (if_neg c78).symm.trans h
              refine lv_iconst (v := (0 : Int32)) hx hb dL_act_85 (by decide) ?_
              exact w_L_act_86 C hml hr hlk hlf hT h hS hW (lv_sub hl [] rfl)
            · have h := (if_pos c78).symm.trans h
              refine lv_iconst (v := (1 : Int32)) hx hb dL_act_81 (by decide) ?_
              refine lv_goto (tgt := 86) hx hb dL_act_82 (by decide) ?_
              exact w_L_act_86 C hml hr hlk hlf hT h hS hW (lv_sub hl [] rfl)
        · have h := (if_pos c52).symm.trans h
          refine lv_aload_n hx hb dL_act_55 rfl (lv_at hl 0 rfl) ?_
          refine lv_iload_n hx hb dL_act_56 rfl (lv_at hl 2 rfl) ?_
          rcases bdc_e h with ⟨E57, M57, hc57, h⟩ | ⟨r57, M57, hc57, h⟩
          · by_cases e0 : E57 = "java/lang/IndexOutOfBoundsException"
            · have h := (if_pos e0).symm.trans h
              subst e0
              refine kL_20C C hml hl.1 (c_X4_failureAt hlf hc57) ⟨Nat.le_of_ble_eq_true rfl, Nat.le_of_ble_eq_true rfl⟩ ⟨Nat.le_of_ble_eq_true rfl, Nat.le_of_ble_eq_true rfl⟩ (Nat.le_of_ble_eq_true rfl) hS hW dL_act_57 (fun H locs q9 ce hW hS h91 h92 h93 => ?_)
              refine vx_catch (own := RL) (name := "java/lang/IndexOutOfBoundsException") (E := "java/lang/IndexOutOfBoundsException") C.2.2.1 ([] : List ExceptionTableEntry) (⟨0, 384, 385, 71⟩ : ExceptionTableEntry) ([⟨0, 384, 391, 73⟩, ⟨0, 384, 397, 75⟩] : List ExceptionTableEntry) (by rw [hT]; rfl) (fun z hz => by cases hz) (by decide) (by decide) (C.2.2.2.1 _ q408) (va_Nw.use rfl (C.2.2.2.2.2.1 _ (List.mem_append_right _ (List.mem_append_right _ (List.mem_of_getElem? (i := 1) rfl))))) h91 h92 h93 ?_
              refine W.eq (g2 := F0 m 385 ls [.ref q9]) rfl ?_
              refine lv_astore (lv' := [(6, .ref q9), (0, .ref (b + 0)), (1, .int x1), (2, .int x2), (3, .int x3), (4, .int x4), (5, .int x5)]) hx hb dL_act_385 hl (by decide) rfl (fun ls hl => ?_)
              refine lv_sipush (v := (-9001 : Int32)) hx hb dL_act_387 (by decide) ?_
              cases h
              exact ret_xi C hr hlk hS hW dL_act_390 (Nat.le_of_ble_eq_true rfl) (Nat.le_of_ble_eq_true rfl)
            · have h := (if_neg e0).symm.trans h
              by_cases e1 : E57 = "java/lang/IllegalArgumentException"
              · have h := (if_pos e1).symm.trans h
                subst e1
                refine kL_20C C hml hl.1 (c_X4_failureAt hlf hc57) ⟨Nat.le_of_ble_eq_true rfl, Nat.le_of_ble_eq_true rfl⟩ ⟨Nat.le_of_ble_eq_true rfl, Nat.le_of_ble_eq_true rfl⟩ (Nat.le_of_ble_eq_true rfl) hS hW dL_act_57 (fun H locs q9 ce hW hS h91 h92 h93 => ?_)
                refine vx_catch (own := RL) (name := "java/lang/IllegalArgumentException") (E := "java/lang/IllegalArgumentException") C.2.2.1 ([⟨0, 384, 385, 71⟩] : List ExceptionTableEntry) (⟨0, 384, 391, 73⟩ : ExceptionTableEntry) ([⟨0, 384, 397, 75⟩] : List ExceptionTableEntry) (by rw [hT]; rfl) (fun z hz => by
      simp only [List.mem_cons, List.not_mem_nil, or_false] at hz
      rcases hz with rfl
      · exact Or.inr ⟨by decide, "java/lang/IndexOutOfBoundsException", C.2.2.2.1 _ q408, C.2.2.2.2.2.2.2.2.2 _ (List.mem_of_getElem? (i := 0) rfl)⟩) (by decide) (by decide) (C.2.2.2.1 _ q409) (va_Nw.use rfl (C.2.2.2.2.2.1 _ (List.mem_append_right _ (List.mem_append_right _ (List.mem_of_getElem? (i := 0) rfl))))) h91 h92 h93 ?_
                refine W.eq (g2 := F0 m 391 ls [.ref q9]) rfl ?_
                refine lv_astore (lv' := [(6, .ref q9), (0, .ref (b + 0)), (1, .int x1), (2, .int x2), (3, .int x3), (4, .int x4), (5, .int x5)]) hx hb dL_act_391 hl (by decide) rfl (fun ls hl => ?_)
                refine lv_sipush (v := (-9002 : Int32)) hx hb dL_act_393 (by decide) ?_
                cases h
                exact ret_xi C hr hlk hS hW dL_act_396 (Nat.le_of_ble_eq_true rfl) (Nat.le_of_ble_eq_true rfl)
              · have h := (if_neg e1).symm.trans h
                by_cases e2 : E57 = "java/lang/IllegalStateException"
                · have h := (if_pos e2).symm.trans h
                  subst e2
                  refine kL_20C C hml hl.1 (c_X4_failureAt hlf hc57) ⟨Nat.le_of_ble_eq_true rfl, Nat.le_of_ble_eq_true rfl⟩ ⟨Nat.le_of_ble_eq_true rfl, Nat.le_of_ble_eq_true rfl⟩ (Nat.le_of_ble_eq_true rfl) hS hW dL_act_57 (fun H locs q9 ce hW hS h91 h92 h93 => ?_)
                  refine vx_catch (own := RL) (name := "java/lang/IllegalStateException") (E := "java/lang/IllegalStateException") C.2.2.1 ([⟨0, 384, 385, 71⟩, ⟨0, 384, 391, 73⟩] : List ExceptionTableEntry) (⟨0, 384, 397, 75⟩ : ExceptionTableEntry) ([] : List ExceptionTableEntry) (by rw [hT]; rfl) (fun z hz => by
      simp only [List.mem_cons, List.not_mem_nil, or_false] at hz
      rcases hz with rfl | rfl
      · exact Or.inr ⟨by decide, "java/lang/IndexOutOfBoundsException", C.2.2.2.1 _ q408, C.2.2.2.2.2.2.2.2.2 _ (List.mem_of_getElem? (i := 5) rfl)⟩
      · exact Or.inr ⟨by decide, "java/lang/IllegalArgumentException", C.2.2.2.1 _ q409, C.2.2.2.2.2.2.2.2.2 _ (List.mem_of_getElem? (i := 4) rfl)⟩) (by decide) (by decide) (C.2.2.2.1 _ q410) (va_Nw.use rfl (C.2.2.2.2.2.1 _ (List.mem_append_right _ (List.mem_append_right _ (List.mem_of_getElem? (i := 2) rfl))))) h91 h92 h93 ?_
                  refine W.eq (g2 := F0 m 397 ls [.ref q9]) rfl ?_
                  refine lv_astore (lv' := [(6, .ref q9), (0, .ref (b + 0)), (1, .int x1), (2, .int x2), (3, .int x3), (4, .int x4), (5, .int x5)]) hx hb dL_act_397 hl (by decide) rfl (fun ls hl => ?_)
                  refine lv_sipush (v := (-9003 : Int32)) hx hb dL_act_399 (by decide) ?_
                  cases h
                  exact ret_xi C hr hlk hS hW dL_act_402 (Nat.le_of_ble_eq_true rfl) (Nat.le_of_ble_eq_true rfl)
                · have h := (if_neg e2).symm.trans h
                  cases h
          refine kL_20R C hml hl.1 (c_X4_failureAt hlf hc57) ⟨Nat.le_of_ble_eq_true rfl, Nat.le_of_ble_eq_true rfl⟩ ⟨Nat.le_of_ble_eq_true rfl, Nat.le_of_ble_eq_true rfl⟩ (Nat.le_of_ble_eq_true rfl) hS hW dL_act_57 (fun H locs hW hS => ?_)
          refine lv_goto (tgt := 384) hx hb dL_act_60 (by decide) ?_
          cases h
          exact ret_xi C hr hlk hS hW dL_act_384 (Nat.le_of_ble_eq_true rfl) (Nat.le_of_ble_eq_true rfl)
      · have h := (if_pos c36).symm.trans h
        refine lv_aload_n hx hb dL_act_39 rfl (lv_at hl 0 rfl) ?_
        refine lv_iload_n hx hb dL_act_40 rfl (lv_at hl 2 rfl) ?_
        refine lv_iload_n hx hb dL_act_41 rfl (lv_at hl 3 rfl) ?_
        refine lv_iload hx hb dL_act_42 (lv_at hl 4 rfl) ?_
        rcases bdc_e h with ⟨E44, M44, hc44, h⟩ | ⟨r44, M44, hc44, h⟩
        · by_cases e0 : E44 = "java/lang/IndexOutOfBoundsException"
          · have h := (if_pos e0).symm.trans h
            subst e0
            refine kL_17C C hml hl.1 (c_X4_delete hlf hc44) ⟨Nat.le_of_ble_eq_true rfl, Nat.le_of_ble_eq_true rfl⟩ ⟨Nat.le_of_ble_eq_true rfl, Nat.le_of_ble_eq_true rfl⟩ (Nat.le_of_ble_eq_true rfl) hS hW dL_act_44 (fun H locs q9 ce hW hS h91 h92 h93 => ?_)
            refine vx_catch (own := RL) (name := "java/lang/IndexOutOfBoundsException") (E := "java/lang/IndexOutOfBoundsException") C.2.2.1 ([] : List ExceptionTableEntry) (⟨0, 384, 385, 71⟩ : ExceptionTableEntry) ([⟨0, 384, 391, 73⟩, ⟨0, 384, 397, 75⟩] : List ExceptionTableEntry) (by rw [hT]; rfl) (fun z hz => by cases hz) (by decide) (by decide) (C.2.2.2.1 _ q408) (va_Nw.use rfl (C.2.2.2.2.2.1 _ (List.mem_append_right _ (List.mem_append_right _ (List.mem_of_getElem? (i := 1) rfl))))) h91 h92 h93 ?_
            refine W.eq (g2 := F0 m 385 ls [.ref q9]) rfl ?_
            refine lv_astore (lv' := [(6, .ref q9), (0, .ref (b + 0)), (1, .int x1), (2, .int x2), (3, .int x3), (4, .int x4), (5, .int x5)]) hx hb dL_act_385 hl (by decide) rfl (fun ls hl => ?_)
            refine lv_sipush (v := (-9001 : Int32)) hx hb dL_act_387 (by decide) ?_
            cases h
            exact ret_xi C hr hlk hS hW dL_act_390 (Nat.le_of_ble_eq_true rfl) (Nat.le_of_ble_eq_true rfl)
          · have h := (if_neg e0).symm.trans h
            by_cases e1 : E44 = "java/lang/IllegalArgumentException"
            · have h := (if_pos e1).symm.trans h
              subst e1
              refine kL_17C C hml hl.1 (c_X4_delete hlf hc44) ⟨Nat.le_of_ble_eq_true rfl, Nat.le_of_ble_eq_true rfl⟩ ⟨Nat.le_of_ble_eq_true rfl, Nat.le_of_ble_eq_true rfl⟩ (Nat.le_of_ble_eq_true rfl) hS hW dL_act_44 (fun H locs q9 ce hW hS h91 h92 h93 => ?_)
              refine vx_catch (own := RL) (name := "java/lang/IllegalArgumentException") (E := "java/lang/IllegalArgumentException") C.2.2.1 ([⟨0, 384, 385, 71⟩] : List ExceptionTableEntry) (⟨0, 384, 391, 73⟩ : ExceptionTableEntry) ([⟨0, 384, 397, 75⟩] : List ExceptionTableEntry) (by rw [hT]; rfl) (fun z hz => by
      simp only [List.mem_cons, List.not_mem_nil, or_false] at hz
      rcases hz with rfl
      · exact Or.inr ⟨by decide, "java/lang/IndexOutOfBoundsException", C.2.2.2.1 _ q408, C.2.2.2.2.2.2.2.2.2 _ (List.mem_of_getElem? (i := 0) rfl)⟩) (by decide) (by decide) (C.2.2.2.1 _ q409) (va_Nw.use rfl (C.2.2.2.2.2.1 _ (List.mem_append_right _ (List.mem_append_right _ (List.mem_of_getElem? (i := 0) rfl))))) h91 h92 h93 ?_
              refine W.eq (g2 := F0 m 391 ls [.ref q9]) rfl ?_
              refine lv_astore (lv' := [(6, .ref q9), (0, .ref (b + 0)), (1, .int x1), (2, .int x2), (3, .int x3), (4, .int x4), (5, .int x5)]) hx hb dL_act_391 hl (by decide) rfl (fun ls hl => ?_)
              refine lv_sipush (v := (-9002 : Int32)) hx hb dL_act_393 (by decide) ?_
              cases h
              exact ret_xi C hr hlk hS hW dL_act_396 (Nat.le_of_ble_eq_true rfl) (Nat.le_of_ble_eq_true rfl)
            · have h := (if_neg e1).symm.trans h
              by_cases e2 : E44 = "java/lang/IllegalStateException"
              · have h := (if_pos e2).symm.trans h
                subst e2
                refine kL_17C C hml hl.1 (c_X4_delete hlf hc44) ⟨Nat.le_of_ble_eq_true rfl, Nat.le_of_ble_eq_true rfl⟩ ⟨Nat.le_of_ble_eq_true rfl, Nat.le_of_ble_eq_true rfl⟩ (Nat.le_of_ble_eq_true rfl) hS hW dL_act_44 (fun H locs q9 ce hW hS h91 h92 h93 => ?_)
                refine vx_catch (own := RL) (name := "java/lang/IllegalStateException") (E := "java/lang/IllegalStateException") C.2.2.1 ([⟨0, 384, 385, 71⟩, ⟨0, 384, 391, 73⟩] : List ExceptionTableEntry) (⟨0, 384, 397, 75⟩ : ExceptionTableEntry) ([] : List ExceptionTableEntry) (by rw [hT]; rfl) (fun z hz => by
      simp only [List.mem_cons, List.not_mem_nil, or_false] at hz
      rcases hz with rfl | rfl
      · exact Or.inr ⟨by decide, "java/lang/IndexOutOfBoundsException", C.2.2.2.1 _ q408, C.2.2.2.2.2.2.2.2.2 _ (List.mem_of_getElem? (i := 5) rfl)⟩
      · exact Or.inr ⟨by decide, "java/lang/IllegalArgumentException", C.2.2.2.1 _ q409, C.2.2.2.2.2.2.2.2.2 _ (List.mem_of_getElem? (i := 4) rfl)⟩) (by decide) (by decide) (C.2.2.2.1 _ q410) (va_Nw.use rfl (C.2.2.2.2.2.1 _ (List.mem_append_right _ (List.mem_append_right _ (List.mem_of_getElem? (i := 2) rfl))))) h91 h92 h93 ?_
                refine W.eq (g2 := F0 m 397 ls [.ref q9]) rfl ?_
                refine lv_astore (lv' := [(6, .ref q9), (0, .ref (b + 0)), (1, .int x1), (2, .int x2), (3, .int x3), (4, .int x4), (5, .int x5)]) hx hb dL_act_397 hl (by decide) rfl (fun ls hl => ?_)
                refine lv_sipush (v := (-9003 : Int32)) hx hb dL_act_399 (by decide) ?_
                cases h
                exact ret_xi C hr hlk hS hW dL_act_402 (Nat.le_of_ble_eq_true rfl) (Nat.le_of_ble_eq_true rfl)
              · have h := (if_neg e2).symm.trans h
                cases h
        refine kL_17R C hml hl.1 (c_X4_delete hlf hc44) ⟨Nat.le_of_ble_eq_true rfl, Nat.le_of_ble_eq_true rfl⟩ ⟨Nat.le_of_ble_eq_true rfl, Nat.le_of_ble_eq_true rfl⟩ (Nat.le_of_ble_eq_true rfl) hS hW dL_act_44 (fun H locs hW hS => ?_)
        refine lv_goto (tgt := 384) hx hb dL_act_47 (by decide) ?_
        cases h
        exact ret_xi C hr hlk hS hW dL_act_384 (Nat.le_of_ble_eq_true rfl) (Nat.le_of_ble_eq_true rfl)
    · have h := (if_pos c17).symm.trans h
      refine lv_aload_n hx hb dL_act_20 rfl (lv_at hl 0 rfl) ?_
      refine lv_iload_n hx hb dL_act_21 rfl (lv_at hl 2 rfl) ?_
      refine lv_iload_n hx hb dL_act_22 rfl (lv_at hl 3 rfl) ?_
      refine lv_iload hx hb dL_act_23 (lv_at hl 4 rfl) ?_
      refine lv_iconst (v := (-1 : Int32)) hx hb dL_act_25 (by decide) ?_
      refine lv_iload hx hb dL_act_26 (lv_at hl 5 rfl) ?_
      rcases bdc_e h with ⟨E28, M28, hc28, h⟩ | ⟨r28, M28, hc28, h⟩
      · by_cases e0 : E28 = "java/lang/IndexOutOfBoundsException"
        · have h := (if_pos e0).symm.trans h
          subst e0
          refine kL_13C C hml hl.1 (c_X4_put hlf hc28) ⟨Nat.le_of_ble_eq_true rfl, Nat.le_of_ble_eq_true rfl⟩ ⟨Nat.le_of_ble_eq_true rfl, Nat.le_of_ble_eq_true rfl⟩ (Nat.le_of_ble_eq_true rfl) hS hW dL_act_28 (fun H locs q9 ce hW hS h91 h92 h93 => ?_)
          refine vx_catch (own := RL) (name := "java/lang/IndexOutOfBoundsException") (E := "java/lang/IndexOutOfBoundsException") C.2.2.1 ([] : List ExceptionTableEntry) (⟨0, 384, 385, 71⟩ : ExceptionTableEntry) ([⟨0, 384, 391, 73⟩, ⟨0, 384, 397, 75⟩] : List ExceptionTableEntry) (by rw [hT]; rfl) (fun z hz => by cases hz) (by decide) (by decide) (C.2.2.2.1 _ q408) (va_Nw.use rfl (C.2.2.2.2.2.1 _ (List.mem_append_right _ (List.mem_append_right _ (List.mem_of_getElem? (i := 1) rfl))))) h91 h92 h93 ?_
          refine W.eq (g2 := F0 m 385 ls [.ref q9]) rfl ?_
          refine lv_astore (lv' := [(6, .ref q9), (0, .ref (b + 0)), (1, .int x1), (2, .int x2), (3, .int x3), (4, .int x4), (5, .int x5)]) hx hb dL_act_385 hl (by decide) rfl (fun ls hl => ?_)
          refine lv_sipush (v := (-9001 : Int32)) hx hb dL_act_387 (by decide) ?_
          cases h
          exact ret_xi C hr hlk hS hW dL_act_390 (Nat.le_of_ble_eq_true rfl) (Nat.le_of_ble_eq_true rfl)
        · have h := (if_neg e0).symm.trans h
          by_cases e1 : E28 = "java/lang/IllegalArgumentException"
          · have h := (if_pos e1).symm.trans h
            subst e1
            refine kL_13C C hml hl.1 (c_X4_put hlf hc28) ⟨Nat.le_of_ble_eq_true rfl, Nat.le_of_ble_eq_true rfl⟩ ⟨Nat.le_of_ble_eq_true rfl, Nat.le_of_ble_eq_true rfl⟩ (Nat.le_of_ble_eq_true rfl) hS hW dL_act_28 (fun H locs q9 ce hW hS h91 h92 h93 => ?_)
            refine vx_catch (own := RL) (name := "java/lang/IllegalArgumentException") (E := "java/lang/IllegalArgumentException") C.2.2.1 ([⟨0, 384, 385, 71⟩] : List ExceptionTableEntry) (⟨0, 384, 391, 73⟩ : ExceptionTableEntry) ([⟨0, 384, 397, 75⟩] : List ExceptionTableEntry) (by rw [hT]; rfl) (fun z hz => by
      simp only [List.mem_cons, List.not_mem_nil, or_false] at hz
      rcases hz with rfl
      · exact Or.inr ⟨by decide, "java/lang/IndexOutOfBoundsException", C.2.2.2.1 _ q408, C.2.2.2.2.2.2.2.2.2 _ (List.mem_of_getElem? (i := 0) rfl)⟩) (by decide) (by decide) (C.2.2.2.1 _ q409) (va_Nw.use rfl (C.2.2.2.2.2.1 _ (List.mem_append_right _ (List.mem_append_right _ (List.mem_of_getElem? (i := 0) rfl))))) h91 h92 h93 ?_
            refine W.eq (g2 := F0 m 391 ls [.ref q9]) rfl ?_
            refine lv_astore (lv' := [(6, .ref q9), (0, .ref (b + 0)), (1, .int x1), (2, .int x2), (3, .int x3), (4, .int x4), (5, .int x5)]) hx hb dL_act_391 hl (by decide) rfl (fun ls hl => ?_)
            refine lv_sipush (v := (-9002 : Int32)) hx hb dL_act_393 (by decide) ?_
            cases h
            exact ret_xi C hr hlk hS hW dL_act_396 (Nat.le_of_ble_eq_true rfl) (Nat.le_of_ble_eq_true rfl)
          · have h := (if_neg e1).symm.trans h
            by_cases e2 : E28 = "java/lang/IllegalStateException"
            · have h := (if_pos e2).symm.trans h
              subst e2
              refine kL_13C C hml hl.1 (c_X4_put hlf hc28) ⟨Nat.le_of_ble_eq_true rfl, Nat.le_of_ble_eq_true rfl⟩ ⟨Nat.le_of_ble_eq_true rfl, Nat.le_of_ble_eq_true rfl⟩ (Nat.le_of_ble_eq_true rfl) hS hW dL_act_28 (fun H locs q9 ce hW hS h91 h92 h93 => ?_)
              refine vx_catch (own := RL) (name := "java/lang/IllegalStateException") (E := "java/lang/IllegalStateException") C.2.2.1 ([⟨0, 384, 385, 71⟩, ⟨0, 384, 391, 73⟩] : List ExceptionTableEntry) (⟨0, 384, 397, 75⟩ : ExceptionTableEntry) ([] : List ExceptionTableEntry) (by rw [hT]; rfl) (fun z hz => by
      simp only [List.mem_cons, List.not_mem_nil, or_false] at hz
      rcases hz with rfl | rfl
      · exact Or.inr ⟨by decide, "java/lang/IndexOutOfBoundsException", C.2.2.2.1 _ q408, C.2.2.2.2.2.2.2.2.2 _ (List.mem_of_getElem? (i := 5) rfl)⟩
      · exact Or.inr ⟨by decide, "java/lang/IllegalArgumentException", C.2.2.2.1 _ q409, C.2.2.2.2.2.2.2.2.2 _ (List.mem_of_getElem? (i := 4) rfl)⟩) (by decide) (by decide) (C.2.2.2.1 _ q410) (va_Nw.use rfl (C.2.2.2.2.2.1 _ (List.mem_append_right _ (List.mem_append_right _ (List.mem_of_getElem? (i := 2) rfl))))) h91 h92 h93 ?_
              refine W.eq (g2 := F0 m 397 ls [.ref q9]) rfl ?_
              refine lv_astore (lv' := [(6, .ref q9), (0, .ref (b + 0)), (1, .int x1), (2, .int x2), (3, .int x3), (4, .int x4), (5, .int x5)]) hx hb dL_act_397 hl (by decide) rfl (fun ls hl => ?_)
              refine lv_sipush (v := (-9003 : Int32)) hx hb dL_act_399 (by decide) ?_
              cases h
              exact ret_xi C hr hlk hS hW dL_act_402 (Nat.le_of_ble_eq_true rfl) (Nat.le_of_ble_eq_true rfl)
            · have h := (if_neg e2).symm.trans h
              cases h
      refine kL_13R C hml hl.1 (c_X4_put hlf hc28) ⟨Nat.le_of_ble_eq_true rfl, Nat.le_of_ble_eq_true rfl⟩ ⟨Nat.le_of_ble_eq_true rfl, Nat.le_of_ble_eq_true rfl⟩ (Nat.le_of_ble_eq_true rfl) hS hW dL_act_28 (fun H locs hW hS => ?_)
      refine lv_goto (tgt := 384) hx hb dL_act_31 (by decide) ?_
      cases h
      exact ret_xi C hr hlk hS hW dL_act_384 (Nat.le_of_ble_eq_true rfl) (Nat.le_of_ble_eq_true rfl)
  · have h := (if_pos c1).symm.trans h
    refine lv_aload_n hx hb dL_act_4 rfl (lv_at hl 0 rfl) ?_
    refine lv_iload_n hx hb dL_act_5 rfl (lv_at hl 2 rfl) ?_
    refine lv_iload_n hx hb dL_act_6 rfl (lv_at hl 3 rfl) ?_
    refine lv_iload hx hb dL_act_7 (lv_at hl 4 rfl) ?_
    rcases bdc_e h with ⟨E9, M9, hc9, h⟩ | ⟨r9, M9, hc9, h⟩
    · by_cases e0 : E9 = "java/lang/IndexOutOfBoundsException"
      · have h := (if_pos e0).symm.trans h
        subst e0
        refine kL_7C C hml hl.1 (c_X4_makeCollection hlf hc9) ⟨Nat.le_of_ble_eq_true rfl, Nat.le_of_ble_eq_true rfl⟩ ⟨Nat.le_of_ble_eq_true rfl, Nat.le_of_ble_eq_true rfl⟩ (Nat.le_of_ble_eq_true rfl) hS hW dL_act_9 (fun H locs q9 ce hW hS h91 h92 h93 => ?_)
        refine vx_catch (own := RL) (name := "java/lang/IndexOutOfBoundsException") (E := "java/lang/IndexOutOfBoundsException") C.2.2.1 ([] : List ExceptionTableEntry) (⟨0, 384, 385, 71⟩ : ExceptionTableEntry) ([⟨0, 384, 391, 73⟩, ⟨0, 384, 397, 75⟩] : List ExceptionTableEntry) (by rw [hT]; rfl) (fun z hz => by cases hz) (by decide) (by decide) (C.2.2.2.1 _ q408) (va_Nw.use rfl (C.2.2.2.2.2.1 _ (List.mem_append_right _ (List.mem_append_right _ (List.mem_of_getElem? (i := 1) rfl))))) h91 h92 h93 ?_
        refine W.eq (g2 := F0 m 385 ls [.ref q9]) rfl ?_
        refine lv_astore (lv' := [(6, .ref q9), (0, .ref (b + 0)), (1, .int x1), (2, .int x2), (3, .int x3), (4, .int x4), (5, .int x5)]) hx hb dL_act_385 hl (by decide) rfl (fun ls hl => ?_)
        refine lv_sipush (v := (-9001 : Int32)) hx hb dL_act_387 (by decide) ?_
        cases h
        exact ret_xi C hr hlk hS hW dL_act_390 (Nat.le_of_ble_eq_true rfl) (Nat.le_of_ble_eq_true rfl)
      · have h := (if_neg e0).symm.trans h
        by_cases e1 : E9 = "java/lang/IllegalArgumentException"
        · have h := (if_pos e1).symm.trans h
          subst e1
          refine kL_7C C hml hl.1 (c_X4_makeCollection hlf hc9) ⟨Nat.le_of_ble_eq_true rfl, Nat.le_of_ble_eq_true rfl⟩ ⟨Nat.le_of_ble_eq_true rfl, Nat.le_of_ble_eq_true rfl⟩ (Nat.le_of_ble_eq_true rfl) hS hW dL_act_9 (fun H locs q9 ce hW hS h91 h92 h93 => ?_)
          refine vx_catch (own := RL) (name := "java/lang/IllegalArgumentException") (E := "java/lang/IllegalArgumentException") C.2.2.1 ([⟨0, 384, 385, 71⟩] : List ExceptionTableEntry) (⟨0, 384, 391, 73⟩ : ExceptionTableEntry) ([⟨0, 384, 397, 75⟩] : List ExceptionTableEntry) (by rw [hT]; rfl) (fun z hz => by
      simp only [List.mem_cons, List.not_mem_nil, or_false] at hz
      rcases hz with rfl
      · exact Or.inr ⟨by decide, "java/lang/IndexOutOfBoundsException", C.2.2.2.1 _ q408, C.2.2.2.2.2.2.2.2.2 _ (List.mem_of_getElem? (i := 0) rfl)⟩) (by decide) (by decide) (C.2.2.2.1 _ q409) (va_Nw.use rfl (C.2.2.2.2.2.1 _ (List.mem_append_right _ (List.mem_append_right _ (List.mem_of_getElem? (i := 0) rfl))))) h91 h92 h93 ?_
          refine W.eq (g2 := F0 m 391 ls [.ref q9]) rfl ?_
          refine lv_astore (lv' := [(6, .ref q9), (0, .ref (b + 0)), (1, .int x1), (2, .int x2), (3, .int x3), (4, .int x4), (5, .int x5)]) hx hb dL_act_391 hl (by decide) rfl (fun ls hl => ?_)
          refine lv_sipush (v := (-9002 : Int32)) hx hb dL_act_393 (by decide) ?_
          cases h
          exact ret_xi C hr hlk hS hW dL_act_396 (Nat.le_of_ble_eq_true rfl) (Nat.le_of_ble_eq_true rfl)
        · have h := (if_neg e1).symm.trans h
          by_cases e2 : E9 = "java/lang/IllegalStateException"
          · have h := (if_pos e2).symm.trans h
            subst e2
            refine kL_7C C hml hl.1 (c_X4_makeCollection hlf hc9) ⟨Nat.le_of_ble_eq_true rfl, Nat.le_of_ble_eq_true rfl⟩ ⟨Nat.le_of_ble_eq_true rfl, Nat.le_of_ble_eq_true rfl⟩ (Nat.le_of_ble_eq_true rfl) hS hW dL_act_9 (fun H locs q9 ce hW hS h91 h92 h93 => ?_)
            refine vx_catch (own := RL) (name := "java/lang/IllegalStateException") (E := "java/lang/IllegalStateException") C.2.2.1 ([⟨0, 384, 385, 71⟩, ⟨0, 384, 391, 73⟩] : List ExceptionTableEntry) (⟨0, 384, 397, 75⟩ : ExceptionTableEntry) ([] : List ExceptionTableEntry) (by rw [hT]; rfl) (fun z hz => by
      simp only [List.mem_cons, List.not_mem_nil, or_false] at hz
      rcases hz with rfl | rfl
      · exact Or.inr ⟨by decide, "java/lang/IndexOutOfBoundsException", C.2.2.2.1 _ q408, C.2.2.2.2.2.2.2.2.2 _ (List.mem_of_getElem? (i := 5) rfl)⟩
      · exact Or.inr ⟨by decide, "java/lang/IllegalArgumentException", C.2.2.2.1 _ q409, C.2.2.2.2.2.2.2.2.2 _ (List.mem_of_getElem? (i := 4) rfl)⟩) (by decide) (by decide) (C.2.2.2.1 _ q410) (va_Nw.use rfl (C.2.2.2.2.2.1 _ (List.mem_append_right _ (List.mem_append_right _ (List.mem_of_getElem? (i := 2) rfl))))) h91 h92 h93 ?_
            refine W.eq (g2 := F0 m 397 ls [.ref q9]) rfl ?_
            refine lv_astore (lv' := [(6, .ref q9), (0, .ref (b + 0)), (1, .int x1), (2, .int x2), (3, .int x3), (4, .int x4), (5, .int x5)]) hx hb dL_act_397 hl (by decide) rfl (fun ls hl => ?_)
            refine lv_sipush (v := (-9003 : Int32)) hx hb dL_act_399 (by decide) ?_
            cases h
            exact ret_xi C hr hlk hS hW dL_act_402 (Nat.le_of_ble_eq_true rfl) (Nat.le_of_ble_eq_true rfl)
          · have h := (if_neg e2).symm.trans h
            cases h
    refine kL_7R C hml hl.1 (c_X4_makeCollection hlf hc9) ⟨Nat.le_of_ble_eq_true rfl, Nat.le_of_ble_eq_true rfl⟩ ⟨Nat.le_of_ble_eq_true rfl, Nat.le_of_ble_eq_true rfl⟩ (Nat.le_of_ble_eq_true rfl) hS hW dL_act_9 (fun H locs hW hS => ?_)
    refine lv_goto (tgt := 384) hx hb dL_act_12 (by decide) ?_
    cases h
    exact ret_xi C hr hlk hS hW dL_act_384 (Nat.le_of_ble_eq_true rfl) (Nat.le_of_ble_eq_true rfl)
def f_L_act (M : Mem) (x1 : Int32) (x2 : Int32) (x3 : Int32) (x4 : Int32) (x5 : Int32) : Option (Int32 × Mem) := f_L_act_0 M x1 x2 x3 x4 x5
set_option maxHeartbeats 4000000 in
set_option maxRecDepth 100000 in
theorem c_L_act {l : Launch} {Z : Zt} {b : Nat} (hlf : l.stackTraces = false) {x1 : Int32} {x2 : Int32} {x3 : Int32} {x4 : Int32} {x5 : Int32} {M : Mem} {r' : Int32} {M' : Mem} (h : f_L_act M x1 x2 x3 x4 x5 = some (r', M')) : vx_Met l yL_act (Cond.codeWith yL_act cL_act 7 (some .int) [(0, 384, 385, 71), (0, 384, 391, 73), (0, 384, 397, 75)] :: wsA) rm_L_act (va_Pc [.ref (b + 0), .int x1, .int x2, .int x3, .int x4, .int x5] (Pre Z b M)) (Qx Z b (.inr (some (.int r'))) M') (XCx Z b (.inr (some (.int r'))) M') 7 42 (A0 b) := by
  refine vx_ofWH (cc := cL_act) (maxL := 7) (ret := (some .int)) (hh := [(0, 384, 385, 71), (0, 384, 391, 73), (0, 384, 397, 75)]) (by decide) rfl ?_
  intro p e s m args below meth c s₁ B hml hv
  obtain ⟨rfl, hE, hW⟩ := hv
  have hT : c.exceptionTable.toList = tableOf [(0, 384, 385, 71), (0, 384, 391, 73), (0, 384, 397, 75)] := vx_table (x := yL_act) B (atoms_spec (ws := Cond.codeWith yL_act cL_act 7 (some .int) [(0, 384, 385, 71), (0, 384, 391, 73), (0, 384, 397, 75)] :: wsA) B.pre _ List.mem_cons_self)
  have C : Cx p s m [.ref (b + 0), .int x1, .int x2, .int x3, .int x4, .int x5].toArray c cL_act RL Z b := ⟨B.exec, B.bytes, findClass_of_methodNamed B.named, fun w hw => atoms_spec (ws := Cond.codeWith yL_act cL_act 7 (some .int) [(0, 384, 385, 71), (0, 384, 391, 73), (0, 384, 397, 75)] :: wsA) B.pre w (List.mem_cons_of_mem _ hw), hE⟩
  have hl := lv_entry [.ref (b + 0), .int x1, .int x2, .int x3, .int x4, .int x5] (n := 7) (Nat.le_of_ble_eq_true rfl)
  rw [lg_entry_eq]
  generalize (lg_sl [.ref (b + 0), .int x1, .int x2, .int x3, .int x4, .int x5] ++ List.replicate (7 - (lg_sl [.ref (b + 0), .int x1, .int x2, .int x3, .int x4, .int x5]).length) Slot.unset).toArray = ls at hl ⊢
  have hl : lv_has ls 7 [(0, .ref (b + 0)), (1, .int x1), (2, .int x2), (3, .int x3), (4, .int x4), (5, .int x5)] := hl
  exact w_L_act_0 C hml B.returns B.notSynchronized hlf hT h va_S.rf hW hl
def f_L_order_70 (M : Mem) (x1 : Int32) (x4 : Int32) (x5 : Int32) : Option (Int32 × Mem) :=
  if x5 < (3 : Int32) then some ((1 : Int32), M) else bdr (f_X4_memberAt M x1 (2 : Int32)) (fun r79 M79 => if r79 = x4 then some ((1 : Int32), M79) else some ((0 : Int32), M79))
set_option maxHeartbeats 4000000 in
set_option maxRecDepth 100000 in
theorem w_L_order_70 {p : Program} {l : Launch} {e : Env} {s : State} {m : MethodId} {args : Array Value} {below : List Frame} {meth : Method} {c : Code} {Z : Zt} {b : Nat} (C : Cx p s m args c cL_order RL Z b) (hml : c.maxLocals = 6) (hr : meth.sig.returnType = (some .boolean)) (hlk : meth.locks = false) (hlf : l.stackTraces = false) {r' : Int32} {M' : Mem} {M : Mem} {x1 : Int32} {x4 : Int32} {x5 : Int32} (h : f_L_order_70 M x1 x4 x5 = some (r', M')) {H : Heap} {locs : List Loc} {ls : Array Slot} (hS : va_S (A0 b) s.heap H locs) (hW : Wd Z b M H) (hl : lv_has ls 6 [(0, .ref (b + 0)), (1, .int x1), (4, .int x4), (5, .int x5)]) : W p l e rm_L_order s m args below meth c H locs 5 30 (MQ below (Qn Z b (some (.int r')) M') args s 7 42 (A0 b)) (F0 m 70 ls []) := by
  unfold f_L_order_70 at h
  have hx := C.1
  have hb := C.2.1
  refine lv_iload hx hb dL_order_70 (lv_at hl 3 rfl) ?_
  refine lv_iconst (v := (3 : Int32)) hx hb dL_order_72 (by decide) ?_
  refine lv_icmp_lt (tgt := 87) hx hb dL_order_73 (by decide) (fun c73 => ?_) (fun c73 => ?_)
  · have h := (if_pos c73).symm.trans h
    refine lv_iconst (v := (1 : Int32)) hx hb dL_order_87 (by decide) ?_
    refine lv_goto (tgt := 92) hx hb dL_order_88 (by decide) ?_
    cases h
    exact ret_zN C hr hlk (by decide) hS hW dL_order_92 (Nat.le_of_ble_eq_true rfl) (Nat.le_of_ble_eq_true rfl)
  · have h := (if_neg c73).symm.trans h
    refine lv_aload_n hx hb dL_order_76 rfl (lv_at hl 0 rfl) ?_
    refine lv_iload_n hx hb dL_order_77 rfl (lv_at hl 1 rfl) ?_
    refine lv_iconst (v := (2 : Int32)) hx hb dL_order_78 (by decide) ?_
    obtain ⟨r79, M79, hc79, h⟩ := bdr_e h
    refine kL_40R C hml hl.1 (c_X4_memberAt hlf hc79) ⟨Nat.le_of_ble_eq_true rfl, Nat.le_of_ble_eq_true rfl⟩ ⟨Nat.le_of_ble_eq_true rfl, Nat.le_of_ble_eq_true rfl⟩ (Nat.le_of_ble_eq_true rfl) hS hW dL_order_79 (fun H locs hW hS => ?_)
    refine lv_iload hx hb dL_order_82 (lv_at hl 2 rfl) ?_
    refine lv_icmp_ne (tgt := 91) hx hb dL_order_84 (by decide) (fun c84 => ?_) (fun c84 => ?_)
    · have h := (if_neg c84).symm.trans h
      refine lv_iconst (v := (0 : Int32)) hx hb dL_order_91 (by decide) ?_
      cases h
      exact ret_zN C hr hlk (by decide) hS hW dL_order_92 (Nat.le_of_ble_eq_true rfl) (Nat.le_of_ble_eq_true rfl)
    · have h := (if_pos c84).symm.trans h
      refine lv_iconst (v := (1 : Int32)) hx hb dL_order_87 (by decide) ?_
      refine lv_goto (tgt := 92) hx hb dL_order_88 (by decide) ?_
      cases h
      exact ret_zN C hr hlk (by decide) hS hW dL_order_92 (Nat.le_of_ble_eq_true rfl) (Nat.le_of_ble_eq_true rfl)
def f_L_order_54 (M : Mem) (x1 : Int32) (x3 : Int32) (x4 : Int32) (x5 : Int32) : Option (Int32 × Mem) :=
  if x5 < (2 : Int32) then f_L_order_70 M x1 x4 x5 else bdr (f_X4_memberAt M x1 (1 : Int32)) (fun r63 M63 => if r63 = x3 then f_L_order_70 M63 x1 x4 x5 else some ((0 : Int32), M63))
set_option maxHeartbeats 4000000 in
set_option maxRecDepth 100000 in
theorem w_L_order_54 {p : Program} {l : Launch} {e : Env} {s : State} {m : MethodId} {args : Array Value} {below : List Frame} {meth : Method} {c : Code} {Z : Zt} {b : Nat} (C : Cx p s m args c cL_order RL Z b) (hml : c.maxLocals = 6) (hr : meth.sig.returnType = (some .boolean)) (hlk : meth.locks = false) (hlf : l.stackTraces = false) {r' : Int32} {M' : Mem} {M : Mem} {x1 : Int32} {x3 : Int32} {x4 : Int32} {x5 : Int32} (h : f_L_order_54 M x1 x3 x4 x5 = some (r', M')) {H : Heap} {locs : List Loc} {ls : Array Slot} (hS : va_S (A0 b) s.heap H locs) (hW : Wd Z b M H) (hl : lv_has ls 6 [(0, .ref (b + 0)), (1, .int x1), (3, .int x3), (4, .int x4), (5, .int x5)]) : W p l e rm_L_order s m args below meth c H locs 3 18 (MQ below (Qn Z b (some (.int r')) M') args s 7 42 (A0 b)) (F0 m 54 ls []) := by
  unfold f_L_order_54 at h
  have hx := C.1
  have hb := C.2.1
  refine lv_iload hx hb dL_order_54 (lv_at hl 4 rfl) ?_
  refine lv_iconst (v := (2 : Int32)) hx hb dL_order_56 (by decide) ?_
  refine lv_icmp_lt (tgt := 70) hx hb dL_order_57 (by decide) (fun c57 => ?_) (fun c57 => ?_)
  · have h := (if_pos c57).symm.trans h
    exact W.widen (k := 5) (n := 30) (Nat.le_of_ble_eq_true rfl) (Nat.le_of_ble_eq_true rfl) (w_L_order_70 C hml hr hlk hlf h hS hW (lv_sub hl [0, 1, 3, 4] rfl))
  · have h := (if_neg c57).symm.trans h
    refine lv_aload_n hx hb dL_order_60 rfl (lv_at hl 0 rfl) ?_
    refine lv_iload_n hx hb dL_order_61 rfl (lv_at hl 1 rfl) ?_
    refine lv_iconst (v := (1 : Int32)) hx hb dL_order_62 (by decide) ?_
    obtain ⟨r63, M63, hc63, h⟩ := bdr_e h
    refine kL_40R C hml hl.1 (c_X4_memberAt hlf hc63) ⟨Nat.le_of_ble_eq_true rfl, Nat.le_of_ble_eq_true rfl⟩ ⟨Nat.le_of_ble_eq_true rfl, Nat.le_of_ble_eq_true rfl⟩ (Nat.le_of_ble_eq_true rfl) hS hW dL_order_63 (fun H locs hW hS => ?_)
    refine lv_iload_n hx hb dL_order_66 rfl (lv_at hl 2 rfl) ?_
    refine lv_icmp_ne (tgt := 91) hx hb dL_order_67 (by decide) (fun c67 => ?_) (fun c67 => ?_)
    · have h := (if_neg c67).symm.trans h
      refine lv_iconst (v := (0 : Int32)) hx hb dL_order_91 (by decide) ?_
      cases h
      exact ret_zN C hr hlk (by decide) hS hW dL_order_92 (Nat.le_of_ble_eq_true rfl) (Nat.le_of_ble_eq_true rfl)
    · have h := (if_pos c67).symm.trans h
      exact W.widen (k := 5) (n := 30) (Nat.le_of_ble_eq_true rfl) (Nat.le_of_ble_eq_true rfl) (w_L_order_70 C hml hr hlk hlf h hS hW (lv_sub hl [0, 1, 3, 4] rfl))
def f_L_order_26 (M : Mem) (x1 : Int32) (x2 : Int32) (x3 : Int32) (x4 : Int32) (xs0 : Int32) : Option (Int32 × Mem) :=
  bdr (f_X4_members M x1) (fun r30 M30 => if r30 = xs0 then (if xs0 < (1 : Int32) then f_L_order_54 M30 x1 x3 x4 xs0 else bdr (f_X4_memberAt M30 x1 (0 : Int32)) (fun r47 M47 => if r47 = x2 then f_L_order_54 M47 x1 x3 x4 xs0 else some ((0 : Int32), M47))) else some ((0 : Int32), M30))
set_option maxHeartbeats 4000000 in
set_option maxRecDepth 100000 in
theorem w_L_order_26 {p : Program} {l : Launch} {e : Env} {s : State} {m : MethodId} {args : Array Value} {below : List Frame} {meth : Method} {c : Code} {Z : Zt} {b : Nat} (C : Cx p s m args c cL_order RL Z b) (hml : c.maxLocals = 6) (hr : meth.sig.returnType = (some .boolean)) (hlk : meth.locks = false) (hlf : l.stackTraces = false) {r' : Int32} {M' : Mem} {M : Mem} {x1 : Int32} {x2 : Int32} {x3 : Int32} {x4 : Int32} {xs0 : Int32} (h : f_L_order_26 M x1 x2 x3 x4 xs0 = some (r', M')) {H : Heap} {locs : List Loc} {ls : Array Slot} (hS : va_S (A0 b) s.heap H locs) (hW : Wd Z b M H) (hl : lv_has ls 6 [(0, .ref (b + 0)), (1, .int x1), (2, .int x2), (3, .int x3), (4, .int x4)]) : W p l e rm_L_order s m args below meth c H locs 0 0 (MQ below (Qn Z b (some (.int r')) M') args s 7 42 (A0 b)) (F0 m 26 ls [.int xs0]) := by
  unfold f_L_order_26 at h
  have hx := C.1
  have hb := C.2.1
  refine lv_istore (lv' := [(5, .int xs0), (0, .ref (b + 0)), (1, .int x1), (2, .int x2), (3, .int x3), (4, .int x4)]) hx hb dL_order_26 hl (by decide) rfl (fun ls hl => ?_)
  refine lv_aload_n hx hb dL_order_28 rfl (lv_at hl 1 rfl) ?_
  refine lv_iload_n hx hb dL_order_29 rfl (lv_at hl 2 rfl) ?_
  obtain ⟨r30, M30, hc30, h⟩ := bdr_e h
  refine kL_37R C hml hl.1 (c_X4_members hlf hc30) ⟨Nat.le_of_ble_eq_true rfl, Nat.le_of_ble_eq_true rfl⟩ ⟨Nat.le_of_ble_eq_true rfl, Nat.le_of_ble_eq_true rfl⟩ (Nat.le_of_ble_eq_true rfl) hS hW dL_order_30 (fun H locs hW hS => ?_)
  refine lv_iload hx hb dL_order_33 (lv_at hl 0 rfl) ?_
  refine lv_icmp_ne (tgt := 91) hx hb dL_order_35 (by decide) (fun c35 => ?_) (fun c35 => ?_)
  · have h := (if_neg c35).symm.trans h
    refine lv_iconst (v := (0 : Int32)) hx hb dL_order_91 (by decide) ?_
    cases h
    exact ret_zN C hr hlk (by decide) hS hW dL_order_92 (Nat.le_of_ble_eq_true rfl) (Nat.le_of_ble_eq_true rfl)
  · have h := (if_pos c35).symm.trans h
    refine lv_iload hx hb dL_order_38 (lv_at hl 0 rfl) ?_
    refine lv_iconst (v := (1 : Int32)) hx hb dL_order_40 (by decide) ?_
    refine lv_icmp_lt (tgt := 54) hx hb dL_order_41 (by decide) (fun c41 => ?_) (fun c41 => ?_)
    · have h := (if_pos c41).symm.trans h
      exact W.widen (k := 3) (n := 18) (Nat.le_of_ble_eq_true rfl) (Nat.le_of_ble_eq_true rfl) (w_L_order_54 C hml hr hlk hlf h hS hW (lv_sub hl [1, 2, 4, 5, 0] rfl))
    · have h := (if_neg c41).symm.trans h
      refine lv_aload_n hx hb dL_order_44 rfl (lv_at hl 1 rfl) ?_
      refine lv_iload_n hx hb dL_order_45 rfl (lv_at hl 2 rfl) ?_
      refine lv_iconst (v := (0 : Int32)) hx hb dL_order_46 (by decide) ?_
      obtain ⟨r47, M47, hc47, h⟩ := bdr_e h
      refine kL_40R C hml hl.1 (c_X4_memberAt hlf hc47) ⟨Nat.le_of_ble_eq_true rfl, Nat.le_of_ble_eq_true rfl⟩ ⟨Nat.le_of_ble_eq_true rfl, Nat.le_of_ble_eq_true rfl⟩ (Nat.le_of_ble_eq_true rfl) hS hW dL_order_47 (fun H locs hW hS => ?_)
      refine lv_iload_n hx hb dL_order_50 rfl (lv_at hl 3 rfl) ?_
      refine lv_icmp_ne (tgt := 91) hx hb dL_order_51 (by decide) (fun c51 => ?_) (fun c51 => ?_)
      · have h := (if_neg c51).symm.trans h
        refine lv_iconst (v := (0 : Int32)) hx hb dL_order_91 (by decide) ?_
        cases h
        exact ret_zN C hr hlk (by decide) hS hW dL_order_92 (Nat.le_of_ble_eq_true rfl) (Nat.le_of_ble_eq_true rfl)
      · have h := (if_pos c51).symm.trans h
        exact W.widen (k := 3) (n := 18) (Nat.le_of_ble_eq_true rfl) (Nat.le_of_ble_eq_true rfl) (w_L_order_54 C hml hr hlk hlf h hS hW (lv_sub hl [1, 2, 4, 5, 0] rfl))
def f_L_order_0 (M : Mem) (x1 : Int32) (x2 : Int32) (x3 : Int32) (x4 : Int32) : Option (Int32 × Mem) :=
  if x2 = 0 then f_L_order_26 M x1 x2 x3 x4 (0 : Int32) else if x3 = 0 then f_L_order_26 M x1 x2 x3 x4 (1 : Int32) else if x4 = 0 then f_L_order_26 M x1 x2 x3 x4 (2 : Int32) else f_L_order_26 M x1 x2 x3 x4 (3 : Int32)
set_option maxHeartbeats 4000000 in
set_option maxRecDepth 100000 in
theorem w_L_order_0 {p : Program} {l : Launch} {e : Env} {s : State} {m : MethodId} {args : Array Value} {below : List Frame} {meth : Method} {c : Code} {Z : Zt} {b : Nat} (C : Cx p s m args c cL_order RL Z b) (hml : c.maxLocals = 6) (hr : meth.sig.returnType = (some .boolean)) (hlk : meth.locks = false) (hlf : l.stackTraces = false) {r' : Int32} {M' : Mem} {M : Mem} {x1 : Int32} {x2 : Int32} {x3 : Int32} {x4 : Int32} (h : f_L_order_0 M x1 x2 x3 x4 = some (r', M')) {H : Heap} {locs : List Loc} {ls : Array Slot} (hS : va_S (A0 b) s.heap H locs) (hW : Wd Z b M H) (hl : lv_has ls 6 [(0, .ref (b + 0)), (1, .int x1), (2, .int x2), (3, .int x3), (4, .int x4)]) : W p l e rm_L_order s m args below meth c H locs 0 0 (MQ below (Qn Z b (some (.int r')) M') args s 7 42 (A0 b)) (F0 m 0 ls []) := by
  unfold f_L_order_0 at h
  have hx := C.1
  have hb := C.2.1
  refine lv_iload_n hx hb dL_order_0 rfl (lv_at hl 2 rfl) ?_
  refine lv_if_ne (tgt := 8) hx hb dL_order_1 (by decide) (fun c1 => ?_) (fun c1 => ?_)
  · have h := (if_neg c1).symm.trans h
    refine lv_iload_n hx hb dL_order_8 rfl (lv_at hl 3 rfl) ?_
    refine lv_if_ne (tgt := 16) hx hb dL_order_9 (by decide) (fun c9 => ?_) (fun c9 => ?_)
    · have h := (if_neg c9).symm.trans h
      refine lv_iload hx hb dL_order_16 (lv_at hl 4 rfl) ?_
      refine lv_if_ne (tgt := 25) hx hb dL_order_18 (by decide) (fun c18 => ?_) (fun c18 => ?_)
      · have h := (if_neg c18).symm.trans h
        refine lv_iconst (v := (3 : Int32)) hx hb dL_order_25 (by decide) ?_
        exact W.widen (k := 0) (n := 0) (Nat.le_of_ble_eq_true rfl) (Nat.le_of_ble_eq_true rfl) (w_L_order_26 C hml hr hlk hlf h hS hW (lv_sub hl [0, 1, 2, 3, 4] rfl))
      · have h := (if_pos c18).symm.trans h
        refine lv_iconst (v := (2 : Int32)) hx hb dL_order_21 (by decide) ?_
        refine lv_goto (tgt := 26) hx hb dL_order_22 (by decide) ?_
        exact W.widen (k := 0) (n := 0) (Nat.le_of_ble_eq_true rfl) (Nat.le_of_ble_eq_true rfl) (w_L_order_26 C hml hr hlk hlf h hS hW (lv_sub hl [0, 1, 2, 3, 4] rfl))
    · have h := (if_pos c9).symm.trans h
      refine lv_iconst (v := (1 : Int32)) hx hb dL_order_12 (by decide) ?_
      refine lv_goto (tgt := 26) hx hb dL_order_13 (by decide) ?_
      exact W.widen (k := 0) (n := 0) (Nat.le_of_ble_eq_true rfl) (Nat.le_of_ble_eq_true rfl) (w_L_order_26 C hml hr hlk hlf h hS hW (lv_sub hl [0, 1, 2, 3, 4] rfl))
  · have h := (if_pos c1).symm.trans h
    refine lv_iconst (v := (0 : Int32)) hx hb dL_order_4 (by decide) ?_
    refine lv_goto (tgt := 26) hx hb dL_order_5 (by decide) ?_
    exact W.widen (k := 0) (n := 0) (Nat.le_of_ble_eq_true rfl) (Nat.le_of_ble_eq_true rfl) (w_L_order_26 C hml hr hlk hlf h hS hW (lv_sub hl [0, 1, 2, 3, 4] rfl))
def f_L_order (M : Mem) (x1 : Int32) (x2 : Int32) (x3 : Int32) (x4 : Int32) : Option (Int32 × Mem) := f_L_order_0 M x1 x2 x3 x4
set_option maxHeartbeats 4000000 in
set_option maxRecDepth 100000 in
theorem c_L_order {l : Launch} {Z : Zt} {b : Nat} (hlf : l.stackTraces = false) {x1 : Int32} {x2 : Int32} {x3 : Int32} {x4 : Int32} {M : Mem} {r' : Int32} {M' : Mem} (h : f_L_order M x1 x2 x3 x4 = some (r', M')) : CtN l yL_order cL_order 6 (some .boolean) rm_L_order 7 42 Z b [.ref (b + 0), .int x1, .int x2, .int x3, .int x4] M (some (.int r')) M' := by
  refine Met.ofW (cc := cL_order) (maxL := 6) (ret := (some .boolean)) (by decide) rfl ?_
  intro p e s m args below meth c s₁ B hml hv
  obtain ⟨rfl, hE, hW⟩ := hv
  have C : Cx p s m [.ref (b + 0), .int x1, .int x2, .int x3, .int x4].toArray c cL_order RL Z b := ⟨B.exec, B.bytes, findClass_of_methodNamed B.named, fun w hw => atoms_spec (ws := Cond.code yL_order cL_order 6 (some .boolean) :: wsA) B.pre w (List.mem_cons_of_mem _ hw), hE⟩
  have hl := lv_entry [.ref (b + 0), .int x1, .int x2, .int x3, .int x4] (n := 6) (Nat.le_of_ble_eq_true rfl)
  rw [lg_entry_eq]
  generalize (lg_sl [.ref (b + 0), .int x1, .int x2, .int x3, .int x4] ++ List.replicate (6 - (lg_sl [.ref (b + 0), .int x1, .int x2, .int x3, .int x4]).length) Slot.unset).toArray = ls at hl ⊢
  have hl : lv_has ls 6 [(0, .ref (b + 0)), (1, .int x1), (2, .int x2), (3, .int x3), (4, .int x4)] := hl
  exact w_L_order_0 C hml B.returns B.notSynchronized hlf h va_S.rf hW hl

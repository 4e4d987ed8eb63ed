def f_X1_tokensOver_39 (K4 : Mem → Int32 → Int32 → Int32 → Option (Int32 × Mem)) (M : Mem) (x1 : Int32) (x2 : Int32) (x3 : Int32) : Option (Int32 × Mem) :=
  K4 M x1 x2 (x3 + 1)
set_option maxHeartbeats 4000000 in
set_option maxRecDepth 100000 in
theorem w_X1_tokensOver_39 {p : Program} {l : Launch} {e : Env} {s : State} {m : MethodId} {args : Array Value} {below : List Frame} {meth : Method} {c : Code} {Z : Zt} {b : Nat} (C : Cx p s m args c cX1_tokensOver RX1 Z b) (hml : c.maxLocals = 5) (hr : meth.sig.returnType = (some .int)) (hlk : meth.locks = false) {r' : Int32} {M' : Mem} {K4 : Mem → Int32 → Int32 → Int32 → Option (Int32 × Mem)} (hK4 : ∀ {M : Mem} {x1 : Int32} {x2 : Int32} {x3 : Int32} (h : K4 M x1 x2 x3 = some (r', M')) {H : Heap} {locs : List Loc} {ls : Array Slot} (hS : va_S (A0 b) s.heap H locs) (hW : Wd Z b M H) (hl : lv_has ls 5 [(0, .ref (b + 123)), (1, .int x1), (2, .int x2), (3, .int x3)]), W p l e rm_X1_tokensOver s m args below meth c H locs 0 0 (MQ below (Qn Z b (some (.int r')) M') args s 0 0 (A0 b)) (F0 m 4 ls [])) {M : Mem} {x1 : Int32} {x2 : Int32} {x3 : Int32} (h : f_X1_tokensOver_39 K4 M x1 x2 x3 = some (r', M')) {H : Heap} {locs : List Loc} {ls : Array Slot} (hS : va_S (A0 b) s.heap H locs) (hW : Wd Z b M H) (hl : lv_has ls 5 [(0, .ref (b + 123)), (1, .int x1), (2, .int x2), (3, .int x3)]) : W p l e rm_X1_tokensOver s m args below meth c H locs 0 0 (MQ below (Qn Z b (some (.int r')) M') args s 0 0 (A0 b)) (F0 m 39 ls []) := by
  unfold f_X1_tokensOver_39 at h
  have hx := C.1
  have hb := C.2.1
  refine lv_iinc (v := x3 + 1) (lv' := [(3, .int (x3 + 1)), (0, .ref (b + 123)), (1, .int x1), (2, .int x2)]) hx hb dX1_tokensOver_39 hl (k := 3) rfl rfl (by decide) rfl (fun ls hl => ?_)
  refine lv_goto (tgt := 4) hx hb dX1_tokensOver_42 (by decide) ?_
  exact hK4 h hS hW (lv_sub hl [1, 2, 3, 0] rfl)
def f_X1_tokensOver_4B (K4 : Mem → Int32 → Int32 → Int32 → Option (Int32 × Mem)) (M : Mem) (x1 : Int32) (x2 : Int32) (x3 : Int32) : Option (Int32 × Mem) :=
  if (M 10 0) ≤ x3 then some (x2, M) else bd2 (f_X1_find M x3) (fun q14 M14 => oe q14 (f_X1_tokensOver_39 K4 M14 x1 x2 x3) (fun k14 => if 30 ≤ k14 then none else bd2 (f_X0_covers M14 k14 x1) (fun r27 M27 => if r27 = 0 then f_X1_tokensOver_39 K4 M27 x1 x2 x3 else f_X1_tokensOver_39 K4 M27 x1 (x2 ||| ((1 : Int32) <<< (x3 &&& 31))) x3)))
def f_X1_tokensOver_4 : Nat → Mem → Int32 → Int32 → Int32 → Option (Int32 × Mem)
  | 0 => fun _ _ _ _ => none
  | n + 1 => f_X1_tokensOver_4B (f_X1_tokensOver_4 n)
set_option maxHeartbeats 4000000 in
set_option maxRecDepth 100000 in
theorem w_X1_tokensOver_4 {p : Program} {l : Launch} {e : Env} {s : State} {m : MethodId} {args : Array Value} {below : List Frame} {meth : Method} {c : Code} {Z : Zt} {b : Nat} (C : Cx p s m args c cX1_tokensOver RX1 Z b) (hml : c.maxLocals = 5) (hr : meth.sig.returnType = (some .int)) (hlk : meth.locks = false) {r' : Int32} {M' : Mem} : ∀ (n : Nat) {M : Mem} {x1 : Int32} {x2 : Int32} {x3 : Int32} (h : f_X1_tokensOver_4 n M x1 x2 x3 = some (r', M')) {H : Heap} {locs : List Loc} {ls : Array Slot} (hS : va_S (A0 b) s.heap H locs) (hW : Wd Z b M H) (hl : lv_has ls 5 [(0, .ref (b + 123)), (1, .int x1), (2, .int x2), (3, .int x3)]), W p l e rm_X1_tokensOver s m args below meth c H locs 0 0 (MQ below (Qn Z b (some (.int r')) M') args s 0 0 (A0 b)) (F0 m 4 ls []) := by
  intro n
  induction n with
  | zero =>
    intro M x1 x2 x3 h
    cases h
  | succ n ih =>
    intro M x1 x2 x3 h H locs ls hS hW hl
    have h : f_X1_tokensOver_4B (f_X1_tokensOver_4 n) M x1 x2 x3 = some (r', M') := h
    unfold f_X1_tokensOver_4B at h
    have hK4 := @ih
    have hx := C.1
    have hb := C.2.1
    refine lv_iload_n hx hb dX1_tokensOver_4 rfl (lv_at hl 3 rfl) ?_
    refine lv_aload_n hx hb dX1_tokensOver_5 rfl (lv_at hl 0 rfl) ?_
    refine gX1_18 C hW dX1_tokensOver_6 ?_
    refine lv_icmp_ge (tgt := 45) hx hb dX1_tokensOver_9 (by decide) (fun c9 => ?_) (fun c9 => ?_)
    · have h := (if_pos c9).symm.trans h
      refine lv_iload_n hx hb dX1_tokensOver_45 rfl (lv_at hl 2 rfl) ?_
      cases h
      exact ret_i C hr hlk hS hW dX1_tokensOver_46
    · have h := (if_neg c9).symm.trans h
      refine lv_aload_n hx hb dX1_tokensOver_12 rfl (lv_at hl 0 rfl) ?_
      refine lv_iload_n hx hb dX1_tokensOver_13 rfl (lv_at hl 3 rfl) ?_
      obtain ⟨q14, M14, hc14, h⟩ := bd2_e h
      refine kX1_28 C hml hl.1 (c_X1_find hc14) ⟨Nat.le_of_ble_eq_true rfl, Nat.le_of_ble_eq_true rfl⟩ ⟨Nat.le_of_ble_eq_true rfl, Nat.le_of_ble_eq_true rfl⟩ (Nat.le_of_ble_eq_true rfl) hS hW dX1_tokensOver_14 (fun H locs hW hS => ?_)
      rcases q14 with _ | k14
      · have h := oe_n h
        refine W.eq (g2 := F0 m 17 ls [.null]) rfl ?_
        refine lv_astoreN (lv' := [(4, .null), (0, .ref (b + 123)), (1, .int x1), (2, .int x2), (3, .int x3)]) hx hb dX1_tokensOver_17 hl (by decide) rfl (fun ls hl => ?_)
        refine lv_aloadN hx hb dX1_tokensOver_19 (lv_at hl 0 rfl) ?_
        refine lv_ifnullN (tgt := 39) hx hb dX1_tokensOver_21 (by decide) ?_
        exact w_X1_tokensOver_39 C hml hr hlk hK4 h hS hW (lv_sub hl [1, 2, 3, 4] rfl)
      · obtain ⟨g14, h⟩ := gd (oe_s h)
        have hk14 := Nat.lt_of_not_le g14
        refine W.eq (g2 := F0 m 17 ls [.ref (b + (125 + k14))]) rfl ?_
        refine lv_astore (lv' := [(4, .ref (b + (125 + k14))), (0, .ref (b + 123)), (1, .int x1), (2, .int x2), (3, .int x3)]) hx hb dX1_tokensOver_17 hl (by decide) rfl (fun ls hl => ?_)
        refine lv_aload hx hb dX1_tokensOver_19 (lv_at hl 0 rfl) ?_
        refine lv_ifnull hx hb dX1_tokensOver_21 ?_
        refine lv_aload hx hb dX1_tokensOver_24 (lv_at hl 0 rfl) ?_
        refine lv_iload_n hx hb dX1_tokensOver_26 rfl (lv_at hl 2 rfl) ?_
        obtain ⟨r27, M27, hc27, h⟩ := bd2_e h
        refine kX1_32 hk14 C hml hl.1 (c_X0_covers hk14 hc27) ⟨Nat.le_of_ble_eq_true rfl, Nat.le_of_ble_eq_true rfl⟩ ⟨Nat.le_of_ble_eq_true rfl, Nat.le_of_ble_eq_true rfl⟩ (Nat.le_of_ble_eq_true rfl) hS hW dX1_tokensOver_27 (fun H locs hW hS => ?_)
        refine lv_if_eq (tgt := 39) hx hb dX1_tokensOver_30 (by decide) (fun c30 => ?_) (fun c30 => ?_)
        · have h := (if_pos c30).symm.trans h
          exact w_X1_tokensOver_39 C hml hr hlk hK4 h hS hW (lv_sub hl [1, 2, 3, 4] rfl)
        · have h := (if_neg c30).symm.trans h
          refine lv_iload_n hx hb dX1_tokensOver_33 rfl (lv_at hl 3 rfl) ?_
          refine lv_iconst (v := (1 : Int32)) hx hb dX1_tokensOver_34 (by decide) ?_
          refine lv_iload_n hx hb dX1_tokensOver_35 rfl (lv_at hl 4 rfl) ?_
          refine lv_ishl hx hb dX1_tokensOver_36 ?_
          refine lv_ior hx hb dX1_tokensOver_37 ?_
          refine lv_istore_n (lv' := [(2, .int (x2 ||| ((1 : Int32) <<< (x3 &&& 31)))), (4, .ref (b + (125 + k14))), (0, .ref (b + 123)), (1, .int x1), (3, .int x3)]) hx hb dX1_tokensOver_38 rfl hl (by decide) rfl (fun ls hl => ?_)
          exact w_X1_tokensOver_39 C hml hr hlk hK4 h hS hW (lv_sub hl [2, 3, 0, 4] rfl)
def f_X1_tokensOver_0 (M : Mem) (x1 : Int32) : Option (Int32 × Mem) :=
  f_X1_tokensOver_4 64 M x1 (0 : Int32) (0 : Int32)
set_option maxHeartbeats 4000000 in
set_option maxRecDepth 100000 in
theorem w_X1_tokensOver_0 {p : Program} {l : Launch} {e : Env} {s : State} {m : MethodId} {args : Array Value} {below : List Frame} {meth : Method} {c : Code} {Z : Zt} {b : Nat} (C : Cx p s m args c cX1_tokensOver RX1 Z b) (hml : c.maxLocals = 5) (hr : meth.sig.returnType = (some .int)) (hlk : meth.locks = false) {r' : Int32} {M' : Mem} {M : Mem} {x1 : Int32} (h : f_X1_tokensOver_0 M x1 = some (r', M')) {H : Heap} {locs : List Loc} {ls : Array Slot} (hS : va_S (A0 b) s.heap H locs) (hW : Wd Z b M H) (hl : lv_has ls 5 [(0, .ref (b + 123)), (1, .int x1)]) : W p l e rm_X1_tokensOver s m args below meth c H locs 0 0 (MQ below (Qn Z b (some (.int r')) M') args s 0 0 (A0 b)) (F0 m 0 ls []) := by
  unfold f_X1_tokensOver_0 at h
  have hx := C.1
  have hb := C.2.1
  refine lv_iconst (v := (0 : Int32)) hx hb dX1_tokensOver_0 (by decide) ?_
  refine lv_istore_n (lv' := [(2, .int (0 : Int32)), (0, .ref (b + 123)), (1, .int x1)]) hx hb dX1_tokensOver_1 rfl hl (by decide) rfl (fun ls hl => ?_)
  refine lv_iconst (v := (0 : Int32)) hx hb dX1_tokensOver_2 (by decide) ?_
  refine lv_istore_n (lv' := [(3, .int (0 : Int32)), (2, .int (0 : Int32)), (0, .ref (b + 123)), (1, .int x1)]) hx hb dX1_tokensOver_3 rfl hl (by decide) rfl (fun ls hl => ?_)
  exact w_X1_tokensOver_4 C hml hr hlk 64 h hS hW (lv_sub hl [2, 3, 1, 0] rfl)
def f_X1_tokensOver (M : Mem) (x1 : Int32) : Option (Int32 × Mem) := f_X1_tokensOver_0 M x1
set_option maxHeartbeats 4000000 in
set_option maxRecDepth 100000 in
theorem c_X1_tokensOver {l : Launch} {Z : Zt} {b : Nat} {M : Mem} {x1 : Int32} {r' : Int32} {M' : Mem} (h : f_X1_tokensOver M x1 = some (r', M')) : Ct l yX1_tokensOver cX1_tokensOver 5 (some .int) rm_X1_tokensOver Z b [.ref (b + 123), .int x1] M (some (.int r')) M' := by
  refine Met.ofW (cc := cX1_tokensOver) (maxL := 5) (ret := (some .int)) (by decide) rfl ?_
  intro p e s m args below meth c s₁ B hml hv
  obtain ⟨rfl, hE, hW⟩ := hv
  have C : Cx p s m [.ref (b + 123), .int x1].toArray c cX1_tokensOver RX1 Z b := ⟨B.exec, B.bytes, findClass_of_methodNamed B.named, fun w hw => atoms_spec (ws := Cond.code yX1_tokensOver cX1_tokensOver 5 (some .int) :: wsA) B.pre w (List.mem_cons_of_mem _ hw), hE⟩
  have hl := lv_entry [.ref (b + 123), .int x1] (n := 5) (Nat.le_of_ble_eq_true rfl)
  rw [lg_entry_eq]
  generalize (lg_sl [.ref (b + 123), .int x1] ++ List.replicate (5 - (lg_sl [.ref (b + 123), .int x1]).length) Slot.unset).toArray = ls at hl ⊢
  have hl : lv_has ls 5 [(0, .ref (b + 123)), (1, .int x1)] := hl
  exact w_X1_tokensOver_0 C hml B.returns B.notSynchronized h va_S.rf hW hl
def f_X1_allows_66 (K23 : Mem → Int32 → Int32 → Int32 → Option (Int32 × Mem)) (M : Mem) (x1 : Int32) (x5 : Int32) (x6 : Int32) : Option (Int32 × Mem) :=
  K23 M x1 x5 (x6 + 1)
set_option maxHeartbeats 4000000 in
set_option maxRecDepth 100000 in
theorem w_X1_allows_66 {p : Program} {l : Launch} {e : Env} {s : State} {m : MethodId} {args : Array Value} {below : List Frame} {meth : Method} {c : Code} {Z : Zt} {b : Nat} (C : Cx p s m args c cX1_allows RX1 Z b) (hml : c.maxLocals = 8) (hr : meth.sig.returnType = (some .boolean)) (hlk : meth.locks = false) {r' : Int32} {M' : Mem} {K23 : Mem → Int32 → Int32 → Int32 → Option (Int32 × Mem)} (hK23 : ∀ {M : Mem} {x1 : Int32} {x5 : Int32} {x6 : Int32} (h : K23 M x1 x5 x6 = some (r', M')) {H : Heap} {locs : List Loc} {ls : Array Slot} (hS : va_S (A0 b) s.heap H locs) (hW : Wd Z b M H) (hl : lv_has ls 8 [(0, .ref (b + 123)), (1, .int x1), (5, .int x5), (6, .int x6)]), W p l e rm_X1_allows s m args below meth c H locs 0 0 (MQ below (Qn Z b (some (.int r')) M') args s 0 0 (A0 b)) (F0 m 23 ls [])) {M : Mem} {x1 : Int32} {x5 : Int32} {x6 : Int32} (h : f_X1_allows_66 K23 M x1 x5 x6 = some (r', M')) {H : Heap} {locs : List Loc} {ls : Array Slot} (hS : va_S (A0 b) s.heap H locs) (hW : Wd Z b M H) (hl : lv_has ls 8 [(0, .ref (b + 123)), (1, .int x1), (5, .int x5), (6, .int x6)]) : W p l e rm_X1_allows s m args below meth c H locs 0 0 (MQ below (Qn Z b (some (.int r')) M') args s 0 0 (A0 b)) (F0 m 66 ls []) := by
  unfold f_X1_allows_66 at h
  have hx := C.1
  have hb := C.2.1
  refine lv_iinc (v := x6 + 1) (lv' := [(6, .int (x6 + 1)), (0, .ref (b + 123)), (1, .int x1), (5, .int x5)]) hx hb dX1_allows_66 hl (k := 3) rfl rfl (by decide) rfl (fun ls hl => ?_)
  refine lv_goto (tgt := 23) hx hb dX1_allows_69 (by decide) ?_
  exact hK23 h hS hW (lv_sub hl [1, 2, 3, 0] rfl)
def f_X1_allows_23B (K23 : Mem → Int32 → Int32 → Int32 → Option (Int32 × Mem)) (M : Mem) (x1 : Int32) (x5 : Int32) (x6 : Int32) : Option (Int32 × Mem) :=
  if (M 10 0) ≤ x6 then some ((0 : Int32), M) else bd2 (f_X1_find M x6) (fun q35 M35 => oe q35 (f_X1_allows_66 K23 M35 x1 x5 x6) (fun k35 => if 30 ≤ k35 then none else if (M35 12 k35) = x1 then (if (x5 &&& ((1 : Int32) <<< (x6 &&& 31))) = 0 then f_X1_allows_66 K23 M35 x1 x5 x6 else some ((1 : Int32), M35)) else f_X1_allows_66 K23 M35 x1 x5 x6))
def f_X1_allows_23 : Nat → Mem → Int32 → Int32 → Int32 → Option (Int32 × Mem)
  | 0 => fun _ _ _ _ => none
  | n + 1 => f_X1_allows_23B (f_X1_allows_23 n)
set_option maxHeartbeats 4000000 in
set_option maxRecDepth 100000 in
theorem w_X1_allows_23 {p : Program} {l : Launch} {e : Env} {s : State} {m : MethodId} {args : Array Value} {below : List Frame} {meth : Method} {c : Code} {Z : Zt} {b : Nat} (C : Cx p s m args c cX1_allows RX1 Z b) (hml : c.maxLocals = 8) (hr : meth.sig.returnType = (some .boolean)) (hlk : meth.locks = false) {r' : Int32} {M' : Mem} : ∀ (n : Nat) {M : Mem} {x1 : Int32} {x5 : Int32} {x6 : Int32} (h : f_X1_allows_23 n M x1 x5 x6 = some (r', M')) {H : Heap} {locs : List Loc} {ls : Array Slot} (hS : va_S (A0 b) s.heap H locs) (hW : Wd Z b M H) (hl : lv_has ls 8 [(0, .ref (b + 123)), (1, .int x1), (5, .int x5), (6, .int x6)]), W p l e rm_X1_allows s m args below meth c H locs 0 0 (MQ below (Qn Z b (some (.int r')) M') args s 0 0 (A0 b)) (F0 m 23 ls []) := by
  intro n
  induction n with
  | zero =>
    intro M x1 x5 x6 h
    cases h
  | succ n ih =>
    intro M x1 x5 x6 h H locs ls hS hW hl
    have h : f_X1_allows_23B (f_X1_allows_23 n) M x1 x5 x6 = some (r', M') := h
    unfold f_X1_allows_23B at h
    have hK23 := @ih
    have hx := C.1
    have hb := C.2.1
    refine lv_iload hx hb dX1_allows_23 (lv_at hl 3 rfl) ?_
    refine lv_aload_n hx hb dX1_allows_25 rfl (lv_at hl 0 rfl) ?_
    refine gX1_18 C hW dX1_allows_26 ?_
    refine lv_icmp_ge (tgt := 72) hx hb dX1_allows_29 (by decide) (fun c29 => ?_) (fun c29 => ?_)
    · have h := (if_pos c29).symm.trans h
      refine lv_iconst (v := (0 : Int32)) hx hb dX1_allows_72 (by decide) ?_
      cases h
      exact ret_z C hr hlk (by decide) hS hW dX1_allows_73
    · have h := (if_neg c29).symm.trans h
      refine lv_aload_n hx hb dX1_allows_32 rfl (lv_at hl 0 rfl) ?_
      refine lv_iload hx hb dX1_allows_33 (lv_at hl 3 rfl) ?_
      obtain ⟨q35, M35, hc35, h⟩ := bd2_e h
      refine kX1_28 C hml hl.1 (c_X1_find hc35) ⟨Nat.le_of_ble_eq_true rfl, Nat.le_of_ble_eq_true rfl⟩ ⟨Nat.le_of_ble_eq_true rfl, Nat.le_of_ble_eq_true rfl⟩ (Nat.le_of_ble_eq_true rfl) hS hW dX1_allows_35 (fun H locs hW hS => ?_)
      rcases q35 with _ | k35
      · have h := oe_n h
        refine W.eq (g2 := F0 m 38 ls [.null]) rfl ?_
        refine lv_astoreN (lv' := [(7, .null), (0, .ref (b + 123)), (1, .int x1), (5, .int x5), (6, .int x6)]) hx hb dX1_allows_38 hl (by decide) rfl (fun ls hl => ?_)
        refine lv_aloadN hx hb dX1_allows_40 (lv_at hl 0 rfl) ?_
        refine lv_ifnullN (tgt := 66) hx hb dX1_allows_42 (by decide) ?_
        exact w_X1_allows_66 C hml hr hlk hK23 h hS hW (lv_sub hl [1, 2, 3, 4] rfl)
      · obtain ⟨g35, h⟩ := gd (oe_s h)
        have hk35 := Nat.lt_of_not_le g35
        refine W.eq (g2 := F0 m 38 ls [.ref (b + (125 + k35))]) rfl ?_
        refine lv_astore (lv' := [(7, .ref (b + (125 + k35))), (0, .ref (b + 123)), (1, .int x1), (5, .int x5), (6, .int x6)]) hx hb dX1_allows_38 hl (by decide) rfl (fun ls hl => ?_)
        refine lv_aload hx hb dX1_allows_40 (lv_at hl 0 rfl) ?_
        refine lv_ifnull hx hb dX1_allows_42 ?_
        refine lv_aload hx hb dX1_allows_45 (lv_at hl 0 rfl) ?_
        refine gX1_40 hk35 C hW dX1_allows_47 ?_
        refine lv_iload_n hx hb dX1_allows_50 rfl (lv_at hl 2 rfl) ?_
        refine lv_icmp_ne (tgt := 66) hx hb dX1_allows_51 (by decide) (fun c51 => ?_) (fun c51 => ?_)
        · have h := (if_neg c51).symm.trans h
          exact w_X1_allows_66 C hml hr hlk hK23 h hS hW (lv_sub hl [1, 2, 3, 4] rfl)
        · have h := (if_pos c51).symm.trans h
          refine lv_iload hx hb dX1_allows_54 (lv_at hl 3 rfl) ?_
          refine lv_iconst (v := (1 : Int32)) hx hb dX1_allows_56 (by decide) ?_
          refine lv_iload hx hb dX1_allows_57 (lv_at hl 4 rfl) ?_
          refine lv_ishl hx hb dX1_allows_59 ?_
          refine lv_iand hx hb dX1_allows_60 ?_
          refine lv_if_eq (tgt := 66) hx hb dX1_allows_61 (by decide) (fun c61 => ?_) (fun c61 => ?_)
          · have h := (if_pos c61).symm.trans h
            exact w_X1_allows_66 C hml hr hlk hK23 h hS hW (lv_sub hl [1, 2, 3, 4] rfl)
          · have h := (if_neg c61).symm.trans h
            refine lv_iconst (v := (1 : Int32)) hx hb dX1_allows_64 (by decide) ?_
            cases h
            exact ret_z C hr hlk (by decide) hS hW dX1_allows_65
def f_X1_allows_0 (M : Mem) (x1 : Int32) (x2 : Int32) (x3 : Int32) : Option (Int32 × Mem) :=
  bd2 (f_X1_tokensOver M x2) (fun r2 M2 => if r2 = 0 then some ((1 : Int32), M2) else f_X1_allows_23 64 M2 x1 (r2 &&& x3) (0 : Int32))
set_option maxHeartbeats 4000000 in
set_option maxRecDepth 100000 in
theorem w_X1_allows_0 {p : Program} {l : Launch} {e : Env} {s : State} {m : MethodId} {args : Array Value} {below : List Frame} {meth : Method} {c : Code} {Z : Zt} {b : Nat} (C : Cx p s m args c cX1_allows RX1 Z b) (hml : c.maxLocals = 8) (hr : meth.sig.returnType = (some .boolean)) (hlk : meth.locks = false) {r' : Int32} {M' : Mem} {M : Mem} {x1 : Int32} {x2 : Int32} {x3 : Int32} (h : f_X1_allows_0 M x1 x2 x3 = some (r', M')) {H : Heap} {locs : List Loc} {ls : Array Slot} (hS : va_S (A0 b) s.heap H locs) (hW : Wd Z b M H) (hl : lv_has ls 8 [(0, .ref (b + 123)), (1, .int x1), (2, .int x2), (3, .int x3)]) : W p l e rm_X1_allows s m args below meth c H locs 0 0 (MQ below (Qn Z b (some (.int r')) M') args s 0 0 (A0 b)) (F0 m 0 ls []) := by
  unfold f_X1_allows_0 at h
  have hx := C.1
  have hb := C.2.1
  refine lv_aload_n hx hb dX1_allows_0 rfl (lv_at hl 0 rfl) ?_
  refine lv_iload_n hx hb dX1_allows_1 rfl (lv_at hl 2 rfl) ?_
  obtain ⟨r2, M2, hc2, h⟩ := bd2_e h
  refine kX1_36 C hml hl.1 (c_X1_tokensOver hc2) ⟨Nat.le_of_ble_eq_true rfl, Nat.le_of_ble_eq_true rfl⟩ ⟨Nat.le_of_ble_eq_true rfl, Nat.le_of_ble_eq_true rfl⟩ (Nat.le_of_ble_eq_true rfl) hS hW dX1_allows_2 (fun H locs hW hS => ?_)
  refine lv_istore (lv' := [(4, .int r2), (0, .ref (b + 123)), (1, .int x1), (2, .int x2), (3, .int x3)]) hx hb dX1_allows_5 hl (by decide) rfl (fun ls hl => ?_)
  refine lv_iload hx hb dX1_allows_7 (lv_at hl 0 rfl) ?_
  refine lv_if_ne (tgt := 14) hx hb dX1_allows_9 (by decide) (fun c9 => ?_) (fun c9 => ?_)
  · have h := (if_neg c9).symm.trans h
    refine lv_iload hx hb dX1_allows_14 (lv_at hl 0 rfl) ?_
    refine lv_iload_n hx hb dX1_allows_16 rfl (lv_at hl 4 rfl) ?_
    refine lv_iand hx hb dX1_allows_17 ?_
    refine lv_istore (lv' := [(5, .int (r2 &&& x3)), (4, .int r2), (0, .ref (b + 123)), (1, .int x1), (2, .int x2), (3, .int x3)]) hx hb dX1_allows_18 hl (by decide) rfl (fun ls hl => ?_)
    refine lv_iconst (v := (0 : Int32)) hx hb dX1_allows_20 (by decide) ?_
    refine lv_istore (lv' := [(6, .int (0 : Int32)), (5, .int (r2 &&& x3)), (4, .int r2), (0, .ref (b + 123)), (1, .int x1), (2, .int x2), (3, .int x3)]) hx hb dX1_allows_21 hl (by decide) rfl (fun ls hl => ?_)
    exact w_X1_allows_23 C hml hr hlk 64 h hS hW (lv_sub hl [3, 4, 1, 0] rfl)
  · have h := (if_pos c9).symm.trans h
    refine lv_iconst (v := (1 : Int32)) hx hb dX1_allows_12 (by decide) ?_
    cases h
    exact ret_z C hr hlk (by decide) hS hW dX1_allows_13
def f_X1_allows (M : Mem) (x1 : Int32) (x2 : Int32) (x3 : Int32) : Option (Int32 × Mem) := f_X1_allows_0 M x1 x2 x3
set_option maxHeartbeats 4000000 in
set_option maxRecDepth 100000 in
theorem c_X1_allows {l : Launch} {Z : Zt} {b : Nat} {M : Mem} {x1 : Int32} {x2 : Int32} {x3 : Int32} {r' : Int32} {M' : Mem} (h : f_X1_allows M x1 x2 x3 = some (r', M')) : Ct l yX1_allows cX1_allows 8 (some .boolean) rm_X1_allows Z b [.ref (b + 123), .int x1, .int x2, .int x3] M (some (.int r')) M' := by
  refine Met.ofW (cc := cX1_allows) (maxL := 8) (ret := (some .boolean)) (by decide) rfl ?_
  intro p e s m args below meth c s₁ B hml hv
  obtain ⟨rfl, hE, hW⟩ := hv
  have C : Cx p s m [.ref (b + 123), .int x1, .int x2, .int x3].toArray c cX1_allows RX1 Z b := ⟨B.exec, B.bytes, findClass_of_methodNamed B.named, fun w hw => atoms_spec (ws := Cond.code yX1_allows cX1_allows 8 (some .boolean) :: wsA) B.pre w (List.mem_cons_of_mem _ hw), hE⟩
  have hl := lv_entry [.ref (b + 123), .int x1, .int x2, .int x3] (n := 8) (Nat.le_of_ble_eq_true rfl)
  rw [lg_entry_eq]
  generalize (lg_sl [.ref (b + 123), .int x1, .int x2, .int x3] ++ List.replicate (8 - (lg_sl [.ref (b + 123), .int x1, .int x2, .int x3]).length) Slot.unset).toArray = ls at hl ⊢
  have hl : lv_has ls 8 [(0, .ref (b + 123)), (1, .int x1), (2, .int x2), (3, .int x3)] := hl
  exact w_X1_allows_0 C hml B.returns B.notSynchronized h va_S.rf hW hl
def f_X4_allowsWithParent_0 (M : Mem) (x1 : Int32) (x2 : Int32) (x3 : Int32) : Option (Int32 × Mem) :=
  bd2 (f_X1_allows M x1 x2 x3) (fun r7 M7 => if r7 = 0 then some ((0 : Int32), M7) else bd2 (f_X4_parentOf M7 x2) (fun r19 M19 => bd2 (f_X1_allows M19 x1 r19 x3) (fun r23 M23 => if r23 = 0 then some ((0 : Int32), M23) else some ((1 : Int32), M23))))
set_option maxHeartbeats 4000000 in
set_option maxRecDepth 100000 in
theorem w_X4_allowsWithParent_0 {p : Program} {l : Launch} {e : Env} {s : State} {m : MethodId} {args : Array Value} {below : List Frame} {meth : Method} {c : Code} {Z : Zt} {b : Nat} (C : Cx p s m args c cX4_allowsWithParent RX4 Z b) (hml : c.maxLocals = 4) (hr : meth.sig.returnType = (some .boolean)) (hlk : meth.locks = false) {r' : Int32} {M' : Mem} {M : Mem} {x1 : Int32} {x2 : Int32} {x3 : Int32} (h : f_X4_allowsWithParent_0 M x1 x2 x3 = some (r', M')) {H : Heap} {locs : List Loc} {ls : Array Slot} (hS : va_S (A0 b) s.heap H locs) (hW : Wd Z b M H) (hl : lv_has ls 4 [(0, .ref (b + 0)), (1, .int x1), (2, .int x2), (3, .int x3)]) : W p l e rm_X4_allowsWithParent s m args below meth c H locs 0 0 (MQ below (Qn Z b (some (.int r')) M') args s 0 0 (A0 b)) (F0 m 0 ls []) := by
  unfold f_X4_allowsWithParent_0 at h
  have hx := C.1
  have hb := C.2.1
  refine lv_aload_n hx hb dX4_allowsWithParent_0 rfl (lv_at hl 0 rfl) ?_
  refine gX4_19 C hW dX4_allowsWithParent_1 ?_
  refine lv_iload_n hx hb dX4_allowsWithParent_4 rfl (lv_at hl 1 rfl) ?_
  refine lv_iload_n hx hb dX4_allowsWithParent_5 rfl (lv_at hl 2 rfl) ?_
  refine lv_iload_n hx hb dX4_allowsWithParent_6 rfl (lv_at hl 3 rfl) ?_
  obtain ⟨r7, M7, hc7, h⟩ := bd2_e h
  refine kX4_111 C hml hl.1 (c_X1_allows hc7) ⟨Nat.le_of_ble_eq_true rfl, Nat.le_of_ble_eq_true rfl⟩ ⟨Nat.le_of_ble_eq_true rfl, Nat.le_of_ble_eq_true rfl⟩ (Nat.le_of_ble_eq_true rfl) hS hW dX4_allowsWithParent_7 (fun H locs hW hS => ?_)
  refine lv_if_eq (tgt := 33) hx hb dX4_allowsWithParent_10 (by decide) (fun c10 => ?_) (fun c10 => ?_)
  · have h := (if_pos c10).symm.trans h
    refine lv_iconst (v := (0 : Int32)) hx hb dX4_allowsWithParent_33 (by decide) ?_
    cases h
    exact ret_z C hr hlk (by decide) hS hW dX4_allowsWithParent_34
  · have h := (if_neg c10).symm.trans h
    refine lv_aload_n hx hb dX4_allowsWithParent_13 rfl (lv_at hl 0 rfl) ?_
    refine gX4_19 C hW dX4_allowsWithParent_14 ?_
    refine lv_iload_n hx hb dX4_allowsWithParent_17 rfl (lv_at hl 1 rfl) ?_
    refine lv_iload_n hx hb dX4_allowsWithParent_18 rfl (lv_at hl 2 rfl) ?_
    obtain ⟨r19, M19, hc19, h⟩ := bd2_e h
    refine kX4_41 C hml hl.1 (c_X4_parentOf hc19) ⟨Nat.le_of_ble_eq_true rfl, Nat.le_of_ble_eq_true rfl⟩ ⟨Nat.le_of_ble_eq_true rfl, Nat.le_of_ble_eq_true rfl⟩ (Nat.le_of_ble_eq_true rfl) hS hW dX4_allowsWithParent_19 (fun H locs hW hS => ?_)
    refine lv_iload_n hx hb dX4_allowsWithParent_22 rfl (lv_at hl 3 rfl) ?_
    obtain ⟨r23, M23, hc23, h⟩ := bd2_e h
    refine kX4_111 C hml hl.1 (c_X1_allows hc23) ⟨Nat.le_of_ble_eq_true rfl, Nat.le_of_ble_eq_true rfl⟩ ⟨Nat.le_of_ble_eq_true rfl, Nat.le_of_ble_eq_true rfl⟩ (Nat.le_of_ble_eq_true rfl) hS hW dX4_allowsWithParent_23 (fun H locs hW hS => ?_)
    refine lv_if_eq (tgt := 33) hx hb dX4_allowsWithParent_26 (by decide) (fun c26 => ?_) (fun c26 => ?_)
    · have h := (if_pos c26).symm.trans h
      refine lv_iconst (v := (0 : Int32)) hx hb dX4_allowsWithParent_33 (by decide) ?_
      cases h
      exact ret_z C hr hlk (by decide) hS hW dX4_allowsWithParent_34
    · have h := (if_neg c26).symm.trans h
      refine lv_iconst (v := (1 : Int32)) hx hb dX4_allowsWithParent_29 (by decide) ?_
      refine lv_goto (tgt := 34) hx hb dX4_allowsWithParent_30 (by decide) ?_
      cases h
      exact ret_z C hr hlk (by decide) hS hW dX4_allowsWithParent_34
def f_X4_allowsWithParent (M : Mem) (x1 : Int32) (x2 : Int32) (x3 : Int32) : Option (Int32 × Mem) := f_X4_allowsWithParent_0 M x1 x2 x3
set_option maxHeartbeats 4000000 in
set_option maxRecDepth 100000 in
theorem c_X4_allowsWithParent {l : Launch} {Z : Zt} {b : Nat} {M : Mem} {x1 : Int32} {x2 : Int32} {x3 : Int32} {r' : Int32} {M' : Mem} (h : f_X4_allowsWithParent M x1 x2 x3 = some (r', M')) : Ct l yX4_allowsWithParent cX4_allowsWithParent 4 (some .boolean) rm_X4_allowsWithParent Z b [.ref (b + 0), .int x1, .int x2, .int x3] M (some (.int r')) M' := by
  refine Met.ofW (cc := cX4_allowsWithParent) (maxL := 4) (ret := (some .boolean)) (by decide) rfl ?_
  intro p e s m args below meth c s₁ B hml hv
  obtain ⟨rfl, hE, hW⟩ := hv
  have C : Cx p s m [.ref (b + 0), .int x1, .int x2, .int x3].toArray c cX4_allowsWithParent RX4 Z b := ⟨B.exec, B.bytes, findClass_of_methodNamed B.named, fun w hw => atoms_spec (ws := Cond.code yX4_allowsWithParent cX4_allowsWithParent 4 (some .boolean) :: wsA) B.pre w (List.mem_cons_of_mem _ hw), hE⟩
  have hl := lv_entry [.ref (b + 0), .int x1, .int x2, .int x3] (n := 4) (Nat.le_of_ble_eq_true rfl)
  rw [lg_entry_eq]
  generalize (lg_sl [.ref (b + 0), .int x1, .int x2, .int x3] ++ List.replicate (4 - (lg_sl [.ref (b + 0), .int x1, .int x2, .int x3]).length) Slot.unset).toArray = ls at hl ⊢
  have hl : lv_has ls 4 [(0, .ref (b + 0)), (1, .int x1), (2, .int x2), (3, .int x3)] := hl
  exact w_X4_allowsWithParent_0 C hml B.returns B.notSynchronized h va_S.rf hW hl
def f_X2_begin_0 (M : Mem) (k0 : Nat) (x1 : Int32) (x2 : Int32) (x3 : Int32) : Option Mem :=
  some (mu (mu (mu (mu (mu M 4 k0 x1) 5 k0 x2) 6 k0 x3) 7 k0 (0 : Int32)) 8 k0 (0 : Int32))
set_option maxHeartbeats 4000000 in
set_option maxRecDepth 100000 in
theorem w_X2_begin_0 {p : Program} {l : Launch} {e : Env} {s : State} {m : MethodId} {args : Array Value} {below : List Frame} {meth : Method} {c : Code} {Z : Zt} {b : Nat} (C : Cx p s m args c cX2_begin RX2 Z b) (hml : c.maxLocals = 4) (hr : meth.sig.returnType = (none : Option Jvm.ClassFile.FieldType)) (hlk : meth.locks = false) {M' : Mem} {M : Mem} {k0 : Nat} {x1 : Int32} {x2 : Int32} {x3 : Int32} (hk0 : k0 < 60) (h : f_X2_begin_0 M k0 x1 x2 x3 = some M') {H : Heap} {locs : List Loc} {ls : Array Slot} (hS : va_S (A0 b) s.heap H locs) (hW : Wd Z b M H) (hl : lv_has ls 4 [(0, .ref (b + (3 + 2 * k0))), (1, .int x1), (2, .int x2), (3, .int x3)]) : W p l e rm_X2_begin s m args below meth c H locs 0 0 (MQ below (Qn Z b none M') args s 0 0 (A0 b)) (F0 m 0 ls []) := by
  unfold f_X2_begin_0 at h
  have hx := C.1
  have hb := C.2.1
  refine lv_aload_n hx hb dX2_begin_0 rfl (lv_at hl 0 rfl) ?_
  refine lv_iload_n hx hb dX2_begin_1 rfl (lv_at hl 1 rfl) ?_
  refine pX2_15 hk0 C hS hW dX2_begin_2 (fun H locs hW hS => ?_)
  refine lv_aload_n hx hb dX2_begin_5 rfl (lv_at hl 0 rfl) ?_
  refine lv_iload_n hx hb dX2_begin_6 rfl (lv_at hl 2 rfl) ?_
  refine pX2_19 hk0 C hS hW dX2_begin_7 (fun H locs hW hS => ?_)
  refine lv_aload_n hx hb dX2_begin_10 rfl (lv_at hl 0 rfl) ?_
  refine lv_iload_n hx hb dX2_begin_11 rfl (lv_at hl 3 rfl) ?_
  refine pX2_22 hk0 C hS hW dX2_begin_12 (fun H locs hW hS => ?_)
  refine lv_aload_n hx hb dX2_begin_15 rfl (lv_at hl 0 rfl) ?_
  refine lv_iconst (v := (0 : Int32)) hx hb dX2_begin_16 (by decide) ?_
  refine pX2_25 hk0 (by decide) C hS hW dX2_begin_17 (fun H locs hW hS => ?_)
  refine lv_aload_n hx hb dX2_begin_20 rfl (lv_at hl 0 rfl) ?_
  refine lv_iconst (v := (0 : Int32)) hx hb dX2_begin_21 (by decide) ?_
  refine pX2_29 hk0 C hS hW dX2_begin_22 (fun H locs hW hS => ?_)
  cases h
  exact ret_v C hr hlk hS hW dX2_begin_25
def f_X2_begin (M : Mem) (k0 : Nat) (x1 : Int32) (x2 : Int32) (x3 : Int32) : Option Mem := f_X2_begin_0 M k0 x1 x2 x3
set_option maxHeartbeats 4000000 in
set_option maxRecDepth 100000 in
theorem c_X2_begin {l : Launch} {Z : Zt} {b : Nat} {M : Mem} {k0 : Nat} {x1 : Int32} {x2 : Int32} {x3 : Int32} {M' : Mem} (hk0 : k0 < 60) (h : f_X2_begin M k0 x1 x2 x3 = some M') : Ct l yX2_begin cX2_begin 4 (none : Option Jvm.ClassFile.FieldType) rm_X2_begin Z b [.ref (b + (3 + 2 * k0)), .int x1, .int x2, .int x3] M none M' := by
  refine Met.ofW (cc := cX2_begin) (maxL := 4) (ret := (none : Option Jvm.ClassFile.FieldType)) (by decide) rfl ?_
  intro p e s m args below meth c s₁ B hml hv
  obtain ⟨rfl, hE, hW⟩ := hv
  have C : Cx p s m [.ref (b + (3 + 2 * k0)), .int x1, .int x2, .int x3].toArray c cX2_begin RX2 Z b := ⟨B.exec, B.bytes, findClass_of_methodNamed B.named, fun w hw => atoms_spec (ws := Cond.code yX2_begin cX2_begin 4 (none : Option Jvm.ClassFile.FieldType) :: wsA) B.pre w (List.mem_cons_of_mem _ hw), hE⟩
  have hl := lv_entry [.ref (b + (3 + 2 * k0)), .int x1, .int x2, .int x3] (n := 4) (Nat.le_of_ble_eq_true rfl)
  rw [lg_entry_eq]
  generalize (lg_sl [.ref (b + (3 + 2 * k0)), .int x1, .int x2, .int x3] ++ List.replicate (4 - (lg_sl [.ref (b + (3 + 2 * k0)), .int x1, .int x2, .int x3]).length) Slot.unset).toArray = ls at hl ⊢
  have hl : lv_has ls 4 [(0, .ref (b + (3 + 2 * k0))), (1, .int x1), (2, .int x2), (3, .int x3)] := hl
  exact w_X2_begin_0 C hml B.returns B.notSynchronized hk0 h va_S.rf hW hl
def f_X3_append_0 (M : Mem) (x1 : Int32) (x2 : Int32) (x3 : Int32) : Option Mem :=
  if (M 2 0) < (60 : Int32) then (if (M 2 0) < 0 ∨ 60 ≤ (M 2 0).toNatClampNeg then none else if 60 ≤ rk M (M 2 0).toNatClampNeg then none else bd1 (f_X2_begin M (rk M (M 2 0).toNatClampNeg) x1 x2 x3) (fun M25 => some (mu M25 2 0 ((M25 2 0) + (1 : Int32))))) else some M
set_option maxHeartbeats 4000000 in
set_option maxRecDepth 100000 in
theorem w_X3_append_0 {p : Program} {l : Launch} {e : Env} {s : State} {m : MethodId} {args : Array Value} {below : List Frame} {meth : Method} {c : Code} {Z : Zt} {b : Nat} (C : Cx p s m args c cX3_append RX3 Z b) (hml : c.maxLocals = 4) (hr : meth.sig.returnType = (none : Option Jvm.ClassFile.FieldType)) (hlk : meth.locks = false) {M' : Mem} {M : Mem} {x1 : Int32} {x2 : Int32} {x3 : Int32} (h : f_X3_append_0 M x1 x2 x3 = some M') {H : Heap} {locs : List Loc} {ls : Array Slot} (hS : va_S (A0 b) s.heap H locs) (hW : Wd Z b M H) (hl : lv_has ls 4 [(0, .ref (b + 1)), (1, .int x1), (2, .int x2), (3, .int x3)]) : W p l e rm_X3_append s m args below meth c H locs 0 0 (MQ below (Qn Z b none M') args s 0 0 (A0 b)) (F0 m 0 ls []) := by
  unfold f_X3_append_0 at h
  have hx := C.1
  have hb := C.2.1
  refine lv_aload_n hx hb dX3_append_0 rfl (lv_at hl 0 rfl) ?_
  refine gX3_18 C hW dX3_append_1 ?_
  refine lv_aload_n hx hb dX3_append_4 rfl (lv_at hl 0 rfl) ?_
  refine gX3_11 C hW dX3_append_5 ?_
  refine alen_2 C hW dX3_append_8 ?_
  refine lv_icmp_lt (tgt := 13) hx hb dX3_append_9 (by decide) (fun c9 => ?_) (fun c9 => ?_)
  · have h := (if_pos c9).symm.trans h
    refine lv_aload_n hx hb dX3_append_13 rfl (lv_at hl 0 rfl) ?_
    refine gX3_11 C hW dX3_append_14 ?_
    refine lv_aload_n hx hb dX3_append_17 rfl (lv_at hl 0 rfl) ?_
    refine gX3_18 C hW dX3_append_18 ?_
    obtain ⟨g21, h⟩ := gd h
    obtain ⟨gr21, h⟩ := gd h
    have hr21 := Nat.lt_of_not_le gr21
    refine ald_row C hW g21 dX3_append_21 ?_
    refine lv_iload_n hx hb dX3_append_22 rfl (lv_at hl 1 rfl) ?_
    refine lv_iload_n hx hb dX3_append_23 rfl (lv_at hl 2 rfl) ?_
    refine lv_iload_n hx hb dX3_append_24 rfl (lv_at hl 3 rfl) ?_
    obtain ⟨M25, hc25, h⟩ := bd1_e h
    refine kX3_43 hr21 C hml hl.1 (c_X2_begin hr21 hc25) ⟨Nat.le_of_ble_eq_true rfl, Nat.le_of_ble_eq_true rfl⟩ ⟨Nat.le_of_ble_eq_true rfl, Nat.le_of_ble_eq_true rfl⟩ (Nat.le_of_ble_eq_true rfl) hS hW dX3_append_25 (fun H locs hW hS => ?_)
    refine lv_aload_n hx hb dX3_append_28 rfl (lv_at hl 0 rfl) ?_
    refine lv_dup hx hb dX3_append_29 rfl ?_
    refine gX3_18 C hW dX3_append_30 ?_
    refine lv_iconst (v := (1 : Int32)) hx hb dX3_append_33 (by decide) ?_
    refine lv_iadd hx hb dX3_append_34 ?_
    refine pX3_18 C hS hW dX3_append_35 (fun H locs hW hS => ?_)
    cases h
    exact ret_v C hr hlk hS hW dX3_append_38
  · have h := (if_neg c9).symm.trans h
    cases h
    exact ret_v C hr hlk hS hW dX3_append_12
def f_X3_append (M : Mem) (x1 : Int32) (x2 : Int32) (x3 : Int32) : Option Mem := f_X3_append_0 M x1 x2 x3
set_option maxHeartbeats 4000000 in
set_option maxRecDepth 100000 in
theorem c_X3_append {l : Launch} {Z : Zt} {b : Nat} {M : Mem} {x1 : Int32} {x2 : Int32} {x3 : Int32} {M' : Mem} (h : f_X3_append M x1 x2 x3 = some M') : Ct l yX3_append cX3_append 4 (none : Option Jvm.ClassFile.FieldType) rm_X3_append Z b [.ref (b + 1), .int x1, .int x2, .int x3] M none M' := by
  refine Met.ofW (cc := cX3_append) (maxL := 4) (ret := (none : Option Jvm.ClassFile.FieldType)) (by decide) rfl ?_
  intro p e s m args below meth c s₁ B hml hv
  obtain ⟨rfl, hE, hW⟩ := hv
  have C : Cx p s m [.ref (b + 1), .int x1, .int x2, .int x3].toArray c cX3_append RX3 Z b := ⟨B.exec, B.bytes, findClass_of_methodNamed B.named, fun w hw => atoms_spec (ws := Cond.code yX3_append cX3_append 4 (none : Option Jvm.ClassFile.FieldType) :: wsA) B.pre w (List.mem_cons_of_mem _ hw), hE⟩
  have hl := lv_entry [.ref (b + 1), .int x1, .int x2, .int x3] (n := 4) (Nat.le_of_ble_eq_true rfl)
  rw [lg_entry_eq]
  generalize (lg_sl [.ref (b + 1), .int x1, .int x2, .int x3] ++ List.replicate (4 - (lg_sl [.ref (b + 1), .int x1, .int x2, .int x3]).length) Slot.unset).toArray = ls at hl ⊢
  have hl : lv_has ls 4 [(0, .ref (b + 1)), (1, .int x1), (2, .int x2), (3, .int x3)] := hl
  exact w_X3_append_0 C hml B.returns B.notSynchronized h va_S.rf hW hl
def f_X4_makeCollection_0 (M : Mem) (x1 : Int32) (x2 : Int32) (x3 : Int32) : Option ((String ⊕ Int32) × Mem) :=
  bdx (f_X4_requireClient M x1) (fun r1 M1 => bdx (f_X4_requirePathBelowTop M1 x2) (fun r5 M5 => bdx (f_X4_requireNotNegative M5 x3) (fun r9 M9 => bd2 (f_X4_parentOf M9 x2) (fun r17 M17 => bd2 (f_X3_isCollection M17 r17) (fun r20 M20 => if r20 = 0 then some (.inr (1 : Int32), M20) else bd2 (f_X3_find M20 x2) (fun q33 M33 => oe q33 (bd2 (f_X4_allowsWithParent M33 x1 x2 x3) (fun r45 M45 => if r45 = 0 then some (.inr (4 : Int32), M45) else if (M45 2 0) < (60 : Int32) then bd1 (f_X3_append M45 x2 (2 : Int32) (0 : Int32)) (fun M74 => some (.inr (0 : Int32), M74)) else some (.inr (5 : Int32), M45))) (fun k33 => if 60 ≤ k33 then none else some (.inr (2 : Int32), M33))))))))
set_option maxHeartbeats 4000000 in
set_option maxRecDepth 100000 in
theorem w_X4_makeCollection_0 {p : Program} {l : Launch} {e : Env} {s : State} {m : MethodId} {args : Array Value} {below : List Frame} {meth : Method} {c : Code} {Z : Zt} {b : Nat} (C : Cx p s m args c cX4_makeCollection RX4 Z b) (hml : c.maxLocals = 4) (hr : meth.sig.returnType = (some .int)) (hlk : meth.locks = false) (hlf : l.stackTraces = false) (ht : ∀ x ∈ c.exceptionTable.toList, False) {res : ((String ⊕ Int32) × Mem)} {M : Mem} {x1 : Int32} {x2 : Int32} {x3 : Int32} (h : f_X4_makeCollection_0 M x1 x2 x3 = some res) {H : Heap} {locs : List Loc} {ls : Array Slot} (hS : va_S (A0 b) s.heap H locs) (hW : Wd Z b M H) (hl : lv_has ls 4 [(0, .ref (b + 0)), (1, .int x1), (2, .int x2), (3, .int x3)]) : W p l e rm_X4_makeCollection s m args below meth c H locs 0 0 (vx_MQ below (Qx Z b (voI res.1) res.2) (XCx Z b (voI res.1) res.2) args s 4 24 (A0 b)) (F0 m 0 ls []) := by
  unfold f_X4_makeCollection_0 at h
  have hx := C.1
  have hb := C.2.1
  refine lv_iload_n hx hb dX4_makeCollection_0 rfl (lv_at hl 1 rfl) ?_
  rcases bdx_e h with ⟨E1, M1, hc1, rfl⟩ | ⟨r1, M1, hc1, h⟩
  · exact kX4_31T C hml hl.1 (c_X4_requireClient hlf hc1) ⟨Nat.le_of_ble_eq_true rfl, Nat.le_of_ble_eq_true rfl⟩ ⟨Nat.le_of_ble_eq_true rfl, Nat.le_of_ble_eq_true rfl⟩ (Nat.le_of_ble_eq_true rfl) hS hW dX4_makeCollection_1 ht hlk (Nat.le_of_ble_eq_true rfl) (Nat.le_of_ble_eq_true rfl)
  refine kX4_31R C hml hl.1 (c_X4_requireClient hlf hc1) ⟨Nat.le_of_ble_eq_true rfl, Nat.le_of_ble_eq_true rfl⟩ ⟨Nat.le_of_ble_eq_true rfl, Nat.le_of_ble_eq_true rfl⟩ (Nat.le_of_ble_eq_true rfl) hS hW dX4_makeCollection_1 (fun H locs hW hS => ?_)
  refine lv_iload_n hx hb dX4_makeCollection_4 rfl (lv_at hl 2 rfl) ?_
  rcases bdx_e h with ⟨E5, M5, hc5, rfl⟩ | ⟨r5, M5, hc5, h⟩
  · exact kX4_35T C hml hl.1 (c_X4_requirePathBelowTop hlf hc5) ⟨Nat.le_of_ble_eq_true rfl, Nat.le_of_ble_eq_true rfl⟩ ⟨Nat.le_of_ble_eq_true rfl, Nat.le_of_ble_eq_true rfl⟩ (Nat.le_of_ble_eq_true rfl) hS hW dX4_makeCollection_5 ht hlk (Nat.le_of_ble_eq_true rfl) (Nat.le_of_ble_eq_true rfl)
  refine kX4_35R C hml hl.1 (c_X4_requirePathBelowTop hlf hc5) ⟨Nat.le_of_ble_eq_true rfl, Nat.le_of_ble_eq_true rfl⟩ ⟨Nat.le_of_ble_eq_true rfl, Nat.le_of_ble_eq_true rfl⟩ (Nat.le_of_ble_eq_true rfl) hS hW dX4_makeCollection_5 (fun H locs hW hS => ?_)
  refine lv_iload_n hx hb dX4_makeCollection_8 rfl (lv_at hl 3 rfl) ?_
  rcases bdx_e h with ⟨E9, M9, hc9, rfl⟩ | ⟨r9, M9, hc9, h⟩
  · exact kX4_38T C hml hl.1 (c_X4_requireNotNegative hlf hc9) ⟨Nat.le_of_ble_eq_true rfl, Nat.le_of_ble_eq_true rfl⟩ ⟨Nat.le_of_ble_eq_true rfl, Nat.le_of_ble_eq_true rfl⟩ (Nat.le_of_ble_eq_true rfl) hS hW dX4_makeCollection_9 ht hlk (Nat.le_of_ble_eq_true rfl) (Nat.le_of_ble_eq_true rfl)
  refine kX4_38R C hml hl.1 (c_X4_requireNotNegative hlf hc9) ⟨Nat.le_of_ble_eq_true rfl, Nat.le_of_ble_eq_true rfl⟩ ⟨Nat.le_of_ble_eq_true rfl, Nat.le_of_ble_eq_true rfl⟩ (Nat.le_of_ble_eq_true rfl) hS hW dX4_makeCollection_9 (fun H locs hW hS => ?_)
  refine lv_aload_n hx hb dX4_makeCollection_12 rfl (lv_at hl 0 rfl) ?_
  refine gX4_10 C hW dX4_makeCollection_13 ?_
  refine lv_iload_n hx hb dX4_makeCollection_16 rfl (lv_at hl 2 rfl) ?_
  obtain ⟨r17, M17, hc17, h⟩ := bd2_e h
  refine kX4_41 C hml hl.1 (c_X4_parentOf hc17) ⟨Nat.le_of_ble_eq_true rfl, Nat.le_of_ble_eq_true rfl⟩ ⟨Nat.le_of_ble_eq_true rfl, Nat.le_of_ble_eq_true rfl⟩ (Nat.le_of_ble_eq_true rfl) hS hW dX4_makeCollection_17 (fun H locs hW hS => ?_)
  obtain ⟨r20, M20, hc20, h⟩ := bd2_e h
  refine kX4_45 C hml hl.1 (c_X3_isCollection hc20) ⟨Nat.le_of_ble_eq_true rfl, Nat.le_of_ble_eq_true rfl⟩ ⟨Nat.le_of_ble_eq_true rfl, Nat.le_of_ble_eq_true rfl⟩ (Nat.le_of_ble_eq_true rfl) hS hW dX4_makeCollection_20 (fun H locs hW hS => ?_)
  refine lv_if_ne (tgt := 28) hx hb dX4_makeCollection_23 (by decide) (fun c23 => ?_) (fun c23 => ?_)
  · have h := (if_neg c23).symm.trans h
    refine lv_aload_n hx hb dX4_makeCollection_28 rfl (lv_at hl 0 rfl) ?_
    refine gX4_10 C hW dX4_makeCollection_29 ?_
    refine lv_iload_n hx hb dX4_makeCollection_32 rfl (lv_at hl 2 rfl) ?_
    obtain ⟨q33, M33, hc33, h⟩ := bd2_e h
    refine kX4_49 C hml hl.1 (c_X3_find hc33) ⟨Nat.le_of_ble_eq_true rfl, Nat.le_of_ble_eq_true rfl⟩ ⟨Nat.le_of_ble_eq_true rfl, Nat.le_of_ble_eq_true rfl⟩ (Nat.le_of_ble_eq_true rfl) hS hW dX4_makeCollection_33 (fun H locs hW hS => ?_)
    rcases q33 with _ | k33
    · have h := oe_n h
      refine W.eq (g2 := F0 m 36 ls [.null]) rfl ?_
      refine lv_ifnullN (tgt := 41) hx hb dX4_makeCollection_36 (by decide) ?_
      refine lv_aload_n hx hb dX4_makeCollection_41 rfl (lv_at hl 0 rfl) ?_
      refine lv_iload_n hx hb dX4_makeCollection_42 rfl (lv_at hl 1 rfl) ?_
      refine lv_iload_n hx hb dX4_makeCollection_43 rfl (lv_at hl 2 rfl) ?_
      refine lv_iload_n hx hb dX4_makeCollection_44 rfl (lv_at hl 3 rfl) ?_
      obtain ⟨r45, M45, hc45, h⟩ := bd2_e h
      refine kX4_53 C hml hl.1 (c_X4_allowsWithParent hc45) ⟨Nat.le_of_ble_eq_true rfl, Nat.le_of_ble_eq_true rfl⟩ ⟨Nat.le_of_ble_eq_true rfl, Nat.le_of_ble_eq_true rfl⟩ (Nat.le_of_ble_eq_true rfl) hS hW dX4_makeCollection_45 (fun H locs hW hS => ?_)
      refine lv_if_ne (tgt := 53) hx hb dX4_makeCollection_48 (by decide) (fun c48 => ?_) (fun c48 => ?_)
      · have h := (if_neg c48).symm.trans h
        refine lv_aload_n hx hb dX4_makeCollection_53 rfl (lv_at hl 0 rfl) ?_
        refine gX4_10 C hW dX4_makeCollection_54 ?_
        refine gX4_57 C hW dX4_makeCollection_57 ?_
        refine lv_bipush (v := (60 : Int32)) hx hb dX4_makeCollection_60 (by decide) ?_
        refine lv_icmp_lt (tgt := 67) hx hb dX4_makeCollection_62 (by decide) (fun c62 => ?_) (fun c62 => ?_)
        · have h := (if_pos c62).symm.trans h
          refine lv_aload_n hx hb dX4_makeCollection_67 rfl (lv_at hl 0 rfl) ?_
          refine gX4_10 C hW dX4_makeCollection_68 ?_
          refine lv_iload_n hx hb dX4_makeCollection_71 rfl (lv_at hl 2 rfl) ?_
          refine lv_iconst (v := (2 : Int32)) hx hb dX4_makeCollection_72 (by decide) ?_
          refine lv_iconst (v := (0 : Int32)) hx hb dX4_makeCollection_73 (by decide) ?_
          obtain ⟨M74, hc74, h⟩ := bd1_e h
          refine kX4_60 C hml hl.1 (c_X3_append hc74) ⟨Nat.le_of_ble_eq_true rfl, Nat.le_of_ble_eq_true rfl⟩ ⟨Nat.le_of_ble_eq_true rfl, Nat.le_of_ble_eq_true rfl⟩ (Nat.le_of_ble_eq_true rfl) hS hW dX4_makeCollection_74 (fun H locs hW hS => ?_)
          refine lv_iconst (v := (0 : Int32)) hx hb dX4_makeCollection_77 (by decide) ?_
          cases h
          exact ret_xi C hr hlk hS hW dX4_makeCollection_78 (Nat.le_of_ble_eq_true rfl) (Nat.le_of_ble_eq_true rfl)
        · have h := (if_neg c62).symm.trans h
          refine lv_iconst (v := (5 : Int32)) hx hb dX4_makeCollection_65 (by decide) ?_
          cases h
          exact ret_xi C hr hlk hS hW dX4_makeCollection_66 (Nat.le_of_ble_eq_true rfl) (Nat.le_of_ble_eq_true rfl)
      · have h := (if_pos c48).symm.trans h
        refine lv_iconst (v := (4 : Int32)) hx hb dX4_makeCollection_51 (by decide) ?_
        cases h
        exact ret_xi C hr hlk hS hW dX4_makeCollection_52 (Nat.le_of_ble_eq_true rfl) (Nat.le_of_ble_eq_true rfl)
    · obtain ⟨g33, h⟩ := gd (oe_s h)
      have hk33 := Nat.lt_of_not_le g33
      refine W.eq (g2 := F0 m 36 ls [.ref (b + (3 + 2 * k33))]) rfl ?_
      refine lv_ifnull hx hb dX4_makeCollection_36 ?_
      refine lv_iconst (v := (2 : Int32)) hx hb dX4_makeCollection_39 (by decide) ?_
      cases h
      exact ret_xi C hr hlk hS hW dX4_makeCollection_40 (Nat.le_of_ble_eq_true rfl) (Nat.le_of_ble_eq_true rfl)
  · have h := (if_pos c23).symm.trans h
    refine lv_iconst (v := (1 : Int32)) hx hb dX4_makeCollection_26 (by decide) ?_
    cases h
    exact ret_xi C hr hlk hS hW dX4_makeCollection_27 (Nat.le_of_ble_eq_true rfl) (Nat.le_of_ble_eq_true rfl)
def f_X4_makeCollection (M : Mem) (x1 : Int32) (x2 : Int32) (x3 : Int32) : Option ((String ⊕ Int32) × Mem) := f_X4_makeCollection_0 M x1 x2 x3
set_option maxHeartbeats 4000000 in
set_option maxRecDepth 100000 in
theorem c_X4_makeCollection {l : Launch} {Z : Zt} {b : Nat} (hlf : l.stackTraces = false) {M : Mem} {x1 : Int32} {x2 : Int32} {x3 : Int32} {res : ((String ⊕ Int32) × Mem)} (h : f_X4_makeCollection M x1 x2 x3 = some res) : Cx' l yX4_makeCollection cX4_makeCollection 4 (some .int) rm_X4_makeCollection 4 24 Z b [.ref (b + 0), .int x1, .int x2, .int x3] M (voI res.1) res.2 := by
  refine vx_ofW (cc := cX4_makeCollection) (maxL := 4) (ret := (some .int)) (by decide) rfl ?_
  intro p e s m args below meth c s₁ B hml ht hv
  obtain ⟨rfl, hE, hW⟩ := hv
  have C : Cx p s m [.ref (b + 0), .int x1, .int x2, .int x3].toArray c cX4_makeCollection RX4 Z b := ⟨B.exec, B.bytes, findClass_of_methodNamed B.named, fun w hw => atoms_spec (ws := Cond.code yX4_makeCollection cX4_makeCollection 4 (some .int) :: wsA) B.pre w (List.mem_cons_of_mem _ hw), hE⟩
  have hl := lv_entry [.ref (b + 0), .int x1, .int x2, .int x3] (n := 4) (Nat.le_of_ble_eq_true rfl)
  rw [lg_entry_eq]
  generalize (lg_sl [.ref (b + 0), .int x1, .int x2, .int x3] ++ List.replicate (4 - (lg_sl [.ref (b + 0), .int x1, .int x2, .int x3]).length) Slot.unset).toArray = ls at hl ⊢
  have hl : lv_has ls 4 [(0, .ref (b + 0)), (1, .int x1), (2, .int x2), (3, .int x3)] := hl
  exact w_X4_makeCollection_0 C hml B.returns B.notSynchronized hlf ht h va_S.rf hW hl
def f_X3_findFile_0 (M : Mem) (x1 : Int32) : Option (Option Nat × Mem) :=
  bd2 (f_X3_find M x1) (fun q2 M2 => oe q2 (some (none, M2)) (fun k2 => if 60 ≤ k2 then none else if (M2 5 k2) = (1 : Int32) then some (some k2, M2) else some (none, M2)))
set_option maxHeartbeats 4000000 in
set_option maxRecDepth 100000 in
theorem w_X3_findFile_0 {p : Program} {l : Launch} {e : Env} {s : State} {m : MethodId} {args : Array Value} {below : List Frame} {meth : Method} {c : Code} {Z : Zt} {b : Nat} (C : Cx p s m args c cX3_findFile RX3 Z b) (hml : c.maxLocals = 3) (hr : meth.sig.returnType = (some (.object "ShelfServer$Resource"))) (hlk : meth.locks = false) {r' : Option Nat} {M' : Mem} {M : Mem} {x1 : Int32} (h : f_X3_findFile_0 M x1 = some (r', M')) {H : Heap} {locs : List Loc} {ls : Array Slot} (hS : va_S (A0 b) s.heap H locs) (hW : Wd Z b M H) (hl : lv_has ls 3 [(0, .ref (b + 1)), (1, .int x1)]) : W p l e rm_X3_findFile s m args below meth c H locs 0 0 (MQ below (Qn Z b (some (rR b r')) M') args s 0 0 (A0 b)) (F0 m 0 ls []) := by
  unfold f_X3_findFile_0 at h
  have hx := C.1
  have hb := C.2.1
  refine lv_aload_n hx hb dX3_findFile_0 rfl (lv_at hl 0 rfl) ?_
  refine lv_iload_n hx hb dX3_findFile_1 rfl (lv_at hl 1 rfl) ?_
  obtain ⟨q2, M2, hc2, h⟩ := bd2_e h
  refine kX3_33 C hml hl.1 (c_X3_find hc2) ⟨Nat.le_of_ble_eq_true rfl, Nat.le_of_ble_eq_true rfl⟩ ⟨Nat.le_of_ble_eq_true rfl, Nat.le_of_ble_eq_true rfl⟩ (Nat.le_of_ble_eq_true rfl) hS hW dX3_findFile_2 (fun H locs hW hS => ?_)
  rcases q2 with _ | k2
  · have h := oe_n h
    refine W.eq (g2 := F0 m 5 ls [.null]) rfl ?_
    refine lv_astore_nN (lv' := [(2, .null), (0, .ref (b + 1)), (1, .int x1)]) hx hb dX3_findFile_5 rfl hl (by decide) rfl (fun ls hl => ?_)
    refine lv_aload_nN hx hb dX3_findFile_6 rfl (lv_at hl 0 rfl) ?_
    refine lv_ifnullN (tgt := 18) hx hb dX3_findFile_7 (by decide) ?_
    refine lv_null hx hb dX3_findFile_18 ?_
    refine lv_goto (tgt := 23) hx hb dX3_findFile_19 (by decide) ?_
    cases h
    exact ret_q C hr hlk (Or.inl rfl) hS hW dX3_findFile_23
  · obtain ⟨g2, h⟩ := gd (oe_s h)
    have hk2 := Nat.lt_of_not_le g2
    refine W.eq (g2 := F0 m 5 ls [.ref (b + (3 + 2 * k2))]) rfl ?_
    refine lv_astore_n (lv' := [(2, .ref (b + (3 + 2 * k2))), (0, .ref (b + 1)), (1, .int x1)]) hx hb dX3_findFile_5 rfl hl (by decide) rfl (fun ls hl => ?_)
    refine lv_aload_n hx hb dX3_findFile_6 rfl (lv_at hl 0 rfl) ?_
    refine lv_ifnull hx hb dX3_findFile_7 ?_
    refine lv_aload_n hx hb dX3_findFile_10 rfl (lv_at hl 0 rfl) ?_
    refine gX3_37 hk2 C hW dX3_findFile_11 ?_
    refine lv_iconst (v := (1 : Int32)) hx hb dX3_findFile_14 (by decide) ?_
    refine lv_icmp_eq (tgt := 22) hx hb dX3_findFile_15 (by decide) (fun c15 => ?_) (fun c15 => ?_)
    · have h := (if_pos c15).symm.trans h
      refine lv_aload_n hx hb dX3_findFile_22 rfl (lv_at hl 0 rfl) ?_
      cases h
      exact ret_q C hr hlk (Or.inr ⟨_, rfl⟩) hS hW dX3_findFile_23
    · have h := (if_neg c15).symm.trans h
      refine lv_null hx hb dX3_findFile_18 ?_
      refine lv_goto (tgt := 23) hx hb dX3_findFile_19 (by decide) ?_
      cases h
      exact ret_q C hr hlk (Or.inl rfl) hS hW dX3_findFile_23
def f_X3_findFile (M : Mem) (x1 : Int32) : Option (Option Nat × Mem) := f_X3_findFile_0 M x1
set_option maxHeartbeats 4000000 in
set_option maxRecDepth 100000 in
theorem c_X3_findFile {l : Launch} {Z : Zt} {b : Nat} {M : Mem} {x1 : Int32} {r' : Option Nat} {M' : Mem} (h : f_X3_findFile M x1 = some (r', M')) : Ct l yX3_findFile cX3_findFile 3 (some (.object "ShelfServer$Resource")) rm_X3_findFile Z b [.ref (b + 1), .int x1] M (some (rR b r')) M' := by
  refine Met.ofW (cc := cX3_findFile) (maxL := 3) (ret := (some (.object "ShelfServer$Resource"))) (by decide) rfl ?_
  intro p e s m args below meth c s₁ B hml hv
  obtain ⟨rfl, hE, hW⟩ := hv
  have C : Cx p s m [.ref (b + 1), .int x1].toArray c cX3_findFile RX3 Z b := ⟨B.exec, B.bytes, findClass_of_methodNamed B.named, fun w hw => atoms_spec (ws := Cond.code yX3_findFile cX3_findFile 3 (some (.object "ShelfServer$Resource")) :: wsA) B.pre w (List.mem_cons_of_mem _ hw), hE⟩
  have hl := lv_entry [.ref (b + 1), .int x1] (n := 3) (Nat.le_of_ble_eq_true rfl)
  rw [lg_entry_eq]
  generalize (lg_sl [.ref (b + 1), .int x1] ++ List.replicate (3 - (lg_sl [.ref (b + 1), .int x1]).length) Slot.unset).toArray = ls at hl ⊢
  have hl : lv_has ls 3 [(0, .ref (b + 1)), (1, .int x1)] := hl
  exact w_X3_findFile_0 C hml B.returns B.notSynchronized h va_S.rf hW hl
def f_X4_outcomeOfWriting_60 (M : Mem) (x1 : Int32) (x2 : Int32) (x4 : Int32) (z5 : Option Nat) : Option (Int32 × Mem) :=
  oe z5 (bd2 (f_X4_allowsWithParent M x1 x2 x4) (fun r90 M90 => if r90 = 0 then some ((4 : Int32), M90) else if (M90 2 0) < (60 : Int32) then some ((0 : Int32), M90) else some ((5 : Int32), M90))) (fun k5 => bd2 (f_X1_allows M x1 x2 x4) (fun r73 M73 => if r73 = 0 then some ((4 : Int32), M73) else some ((0 : Int32), M73)))
set_option maxHeartbeats 4000000 in
set_option maxRecDepth 100000 in
theorem w_X4_outcomeOfWriting_60 {p : Program} {l : Launch} {e : Env} {s : State} {m : MethodId} {args : Array Value} {below : List Frame} {meth : Method} {c : Code} {Z : Zt} {b : Nat} (C : Cx p s m args c cX4_outcomeOfWriting RX4 Z b) (hml : c.maxLocals = 6) (hr : meth.sig.returnType = (some .int)) (hlk : meth.locks = false) {r' : Int32} {M' : Mem} {M : Mem} {x1 : Int32} {x2 : Int32} {x4 : Int32} {z5 : Option Nat} (hz5 : ∀ k, z5 = some k → k < 60) (h : f_X4_outcomeOfWriting_60 M x1 x2 x4 z5 = some (r', M')) {H : Heap} {locs : List Loc} {ls : Array Slot} (hS : va_S (A0 b) s.heap H locs) (hW : Wd Z b M H) (hl : lv_has ls 6 [(0, .ref (b + 0)), (1, .int x1), (2, .int x2), (4, .int x4), (5, rR b z5)]) : W p l e rm_X4_outcomeOfWriting s m args below meth c H locs 0 0 (MQ below (Qn Z b (some (.int r')) M') args s 0 0 (A0 b)) (F0 m 60 ls []) := by
  unfold f_X4_outcomeOfWriting_60 at h
  have hx := C.1
  have hb := C.2.1
  rcases z5 with _ | k5
  · have h := oe_n h
    have hl : lv_has ls 6 [(0, .ref (b + 0)), (1, .int x1), (2, .int x2), (4, .int x4), (5, .null)] := hl
    refine lv_aloadN hx hb dX4_outcomeOfWriting_60 (lv_at hl 4 rfl) ?_
    refine lv_ifnullN (tgt := 85) hx hb dX4_outcomeOfWriting_62 (by decide) ?_
    refine lv_aload_n hx hb dX4_outcomeOfWriting_85 rfl (lv_at hl 0 rfl) ?_
    refine lv_iload_n hx hb dX4_outcomeOfWriting_86 rfl (lv_at hl 1 rfl) ?_
    refine lv_iload_n hx hb dX4_outcomeOfWriting_87 rfl (lv_at hl 2 rfl) ?_
    refine lv_iload hx hb dX4_outcomeOfWriting_88 (lv_at hl 3 rfl) ?_
    obtain ⟨r90, M90, hc90, h⟩ := bd2_e h
    refine kX4_53 C hml hl.1 (c_X4_allowsWithParent hc90) ⟨Nat.le_of_ble_eq_true rfl, Nat.le_of_ble_eq_true rfl⟩ ⟨Nat.le_of_ble_eq_true rfl, Nat.le_of_ble_eq_true rfl⟩ (Nat.le_of_ble_eq_true rfl) hS hW dX4_outcomeOfWriting_90 (fun H locs hW hS => ?_)
    refine lv_if_ne (tgt := 98) hx hb dX4_outcomeOfWriting_93 (by decide) (fun c93 => ?_) (fun c93 => ?_)
    · have h := (if_neg c93).symm.trans h
      refine lv_aload_n hx hb dX4_outcomeOfWriting_98 rfl (lv_at hl 0 rfl) ?_
      refine gX4_10 C hW dX4_outcomeOfWriting_99 ?_
      refine gX4_57 C hW dX4_outcomeOfWriting_102 ?_
      refine lv_bipush (v := (60 : Int32)) hx hb dX4_outcomeOfWriting_105 (by decide) ?_
      refine lv_icmp_lt (tgt := 114) hx hb dX4_outcomeOfWriting_107 (by decide) (fun c107 => ?_) (fun c107 => ?_)
      · have h := (if_pos c107).symm.trans h
        refine lv_iconst (v := (0 : Int32)) hx hb dX4_outcomeOfWriting_114 (by decide) ?_
        cases h
        exact ret_i C hr hlk hS hW dX4_outcomeOfWriting_115
      · have h := (if_neg c107).symm.trans h
        refine lv_iconst (v := (5 : Int32)) hx hb dX4_outcomeOfWriting_110 (by decide) ?_
        refine lv_goto (tgt := 115) hx hb dX4_outcomeOfWriting_111 (by decide) ?_
        cases h
        exact ret_i C hr hlk hS hW dX4_outcomeOfWriting_115
    · have h := (if_pos c93).symm.trans h
      refine lv_iconst (v := (4 : Int32)) hx hb dX4_outcomeOfWriting_96 (by decide) ?_
      cases h
      exact ret_i C hr hlk hS hW dX4_outcomeOfWriting_97
  · have h := oe_s h
    have hk5 : k5 < 60 := hz5 _ rfl
    have hl : lv_has ls 6 [(0, .ref (b + 0)), (1, .int x1), (2, .int x2), (4, .int x4), (5, .ref (b + (3 + 2 * k5)))] := hl
    refine lv_aload hx hb dX4_outcomeOfWriting_60 (lv_at hl 4 rfl) ?_
    refine lv_ifnull hx hb dX4_outcomeOfWriting_62 ?_
    refine lv_aload_n hx hb dX4_outcomeOfWriting_65 rfl (lv_at hl 0 rfl) ?_
    refine gX4_19 C hW dX4_outcomeOfWriting_66 ?_
    refine lv_iload_n hx hb dX4_outcomeOfWriting_69 rfl (lv_at hl 1 rfl) ?_
    refine lv_iload_n hx hb dX4_outcomeOfWriting_70 rfl (lv_at hl 2 rfl) ?_
    refine lv_iload hx hb dX4_outcomeOfWriting_71 (lv_at hl 3 rfl) ?_
    obtain ⟨r73, M73, hc73, h⟩ := bd2_e h
    refine kX4_111 C hml hl.1 (c_X1_allows hc73) ⟨Nat.le_of_ble_eq_true rfl, Nat.le_of_ble_eq_true rfl⟩ ⟨Nat.le_of_ble_eq_true rfl, Nat.le_of_ble_eq_true rfl⟩ (Nat.le_of_ble_eq_true rfl) hS hW dX4_outcomeOfWriting_73 (fun H locs hW hS => ?_)
    refine lv_if_eq (tgt := 83) hx hb dX4_outcomeOfWriting_76 (by decide) (fun c76 => ?_) (fun c76 => ?_)
    · have h := (if_pos c76).symm.trans h
      refine lv_iconst (v := (4 : Int32)) hx hb dX4_outcomeOfWriting_83 (by decide) ?_
      cases h
      exact ret_i C hr hlk hS hW dX4_outcomeOfWriting_84
    · have h := (if_neg c76).symm.trans h
      refine lv_iconst (v := (0 : Int32)) hx hb dX4_outcomeOfWriting_79 (by decide) ?_
      refine lv_goto (tgt := 84) hx hb dX4_outcomeOfWriting_80 (by decide) ?_
      cases h
      exact ret_i C hr hlk hS hW dX4_outcomeOfWriting_84
def f_X4_outcomeOfWriting_0 (M : Mem) (x1 : Int32) (x2 : Int32) (x3 : Int32) (x4 : Int32) : Option (Int32 × Mem) :=
  bd2 (f_X4_parentOf M x2) (fun r5 M5 => bd2 (f_X3_isCollection M5 r5) (fun r8 M8 => if r8 = 0 then some ((1 : Int32), M8) else bd2 (f_X3_isCollection M8 x2) (fun r21 M21 => if r21 = 0 then bd2 (f_X3_findFile M21 x2) (fun q34 M34 => oe q34 (if x3 = (-1 : Int32) then f_X4_outcomeOfWriting_60 M34 x1 x2 x4 none else some ((3 : Int32), M34)) (fun k34 => if 60 ≤ k34 then none else if x3 = (-1 : Int32) then f_X4_outcomeOfWriting_60 M34 x1 x2 x4 (some k34) else if (M34 6 k34) = x3 then f_X4_outcomeOfWriting_60 M34 x1 x2 x4 (some k34) else some ((3 : Int32), M34))) else some ((2 : Int32), M21))))
set_option maxHeartbeats 4000000 in
set_option maxRecDepth 100000 in
theorem w_X4_outcomeOfWriting_0 {p : Program} {l : Launch} {e : Env} {s : State} {m : MethodId} {args : Array Value} {below : List Frame} {meth : Method} {c : Code} {Z : Zt} {b : Nat} (C : Cx p s m args c cX4_outcomeOfWriting RX4 Z b) (hml : c.maxLocals = 6) (hr : meth.sig.returnType = (some .int)) (hlk : meth.locks = false) {r' : Int32} {M' : Mem} {M : Mem} {x1 : Int32} {x2 : Int32} {x3 : Int32} {x4 : Int32} (h : f_X4_outcomeOfWriting_0 M x1 x2 x3 x4 = some (r', M')) {H : Heap} {locs : List Loc} {ls : Array Slot} (hS : va_S (A0 b) s.heap H locs) (hW : Wd Z b M H) (hl : lv_has ls 6 [(0, .ref (b + 0)), (1, .int x1), (2, .int x2), (3, .int x3), (4, .int x4)]) : W p l e rm_X4_outcomeOfWriting s m args below meth c H locs 0 0 (MQ below (Qn Z b (some (.int r')) M') args s 0 0 (A0 b)) (F0 m 0 ls []) := by
  unfold f_X4_outcomeOfWriting_0 at h
  have hx := C.1
  have hb := C.2.1
  refine lv_aload_n hx hb dX4_outcomeOfWriting_0 rfl (lv_at hl 0 rfl) ?_
  refine gX4_10 C hW dX4_outcomeOfWriting_1 ?_
  refine lv_iload_n hx hb dX4_outcomeOfWriting_4 rfl (lv_at hl 2 rfl) ?_
  obtain ⟨r5, M5, hc5, h⟩ := bd2_e h
  refine kX4_41 C hml hl.1 (c_X4_parentOf hc5) ⟨Nat.le_of_ble_eq_true rfl, Nat.le_of_ble_eq_true rfl⟩ ⟨Nat.le_of_ble_eq_true rfl, Nat.le_of_ble_eq_true rfl⟩ (Nat.le_of_ble_eq_true rfl) hS hW dX4_outcomeOfWriting_5 (fun H locs hW hS => ?_)
  obtain ⟨r8, M8, hc8, h⟩ := bd2_e h
  refine kX4_45 C hml hl.1 (c_X3_isCollection hc8) ⟨Nat.le_of_ble_eq_true rfl, Nat.le_of_ble_eq_true rfl⟩ ⟨Nat.le_of_ble_eq_true rfl, Nat.le_of_ble_eq_true rfl⟩ (Nat.le_of_ble_eq_true rfl) hS hW dX4_outcomeOfWriting_8 (fun H locs hW hS => ?_)
  refine lv_if_ne (tgt := 16) hx hb dX4_outcomeOfWriting_11 (by decide) (fun c11 => ?_) (fun c11 => ?_)
  · have h := (if_neg c11).symm.trans h
    refine lv_aload_n hx hb dX4_outcomeOfWriting_16 rfl (lv_at hl 0 rfl) ?_
    refine gX4_10 C hW dX4_outcomeOfWriting_17 ?_
    refine lv_iload_n hx hb dX4_outcomeOfWriting_20 rfl (lv_at hl 2 rfl) ?_
    obtain ⟨r21, M21, hc21, h⟩ := bd2_e h
    refine kX4_45 C hml hl.1 (c_X3_isCollection hc21) ⟨Nat.le_of_ble_eq_true rfl, Nat.le_of_ble_eq_true rfl⟩ ⟨Nat.le_of_ble_eq_true rfl, Nat.le_of_ble_eq_true rfl⟩ (Nat.le_of_ble_eq_true rfl) hS hW dX4_outcomeOfWriting_21 (fun H locs hW hS => ?_)
    refine lv_if_eq (tgt := 29) hx hb dX4_outcomeOfWriting_24 (by decide) (fun c24 => ?_) (fun c24 => ?_)
    · have h := (if_pos c24).symm.trans h
      refine lv_aload_n hx hb dX4_outcomeOfWriting_29 rfl (lv_at hl 0 rfl) ?_
      refine gX4_10 C hW dX4_outcomeOfWriting_30 ?_
      refine lv_iload_n hx hb dX4_outcomeOfWriting_33 rfl (lv_at hl 2 rfl) ?_
      obtain ⟨q34, M34, hc34, h⟩ := bd2_e h
      refine kX4_129 C hml hl.1 (c_X3_findFile hc34) ⟨Nat.le_of_ble_eq_true rfl, Nat.le_of_ble_eq_true rfl⟩ ⟨Nat.le_of_ble_eq_true rfl, Nat.le_of_ble_eq_true rfl⟩ (Nat.le_of_ble_eq_true rfl) hS hW dX4_outcomeOfWriting_34 (fun H locs hW hS => ?_)
      rcases q34 with _ | k34
      · have h := oe_n h
        refine W.eq (g2 := F0 m 37 ls [.null]) rfl ?_
        refine lv_astoreN (lv' := [(5, .null), (0, .ref (b + 0)), (1, .int x1), (2, .int x2), (3, .int x3), (4, .int x4)]) hx hb dX4_outcomeOfWriting_37 hl (by decide) rfl (fun ls hl => ?_)
        refine lv_iload_n hx hb dX4_outcomeOfWriting_39 rfl (lv_at hl 4 rfl) ?_
        refine lv_iconst (v := (-1 : Int32)) hx hb dX4_outcomeOfWriting_40 (by decide) ?_
        refine lv_icmp_eq (tgt := 60) hx hb dX4_outcomeOfWriting_41 (by decide) (fun c41 => ?_) (fun c41 => ?_)
        · have h := (if_pos c41).symm.trans h
          exact w_X4_outcomeOfWriting_60 C hml hr hlk (fun _ h => by cases h) h hS hW (lv_sub hl [1, 2, 3, 5, 0] rfl)
        · have h := (if_neg c41).symm.trans h
          refine lv_aloadN hx hb dX4_outcomeOfWriting_44 (lv_at hl 0 rfl) ?_
          refine lv_ifnullN (tgt := 58) hx hb dX4_outcomeOfWriting_46 (by decide) ?_
          refine lv_iconst (v := (3 : Int32)) hx hb dX4_outcomeOfWriting_58 (by decide) ?_
          cases h
          exact ret_i C hr hlk hS hW dX4_outcomeOfWriting_59
      · obtain ⟨g34, h⟩ := gd (oe_s h)
        have hk34 := Nat.lt_of_not_le g34
        refine W.eq (g2 := F0 m 37 ls [.ref (b + (3 + 2 * k34))]) rfl ?_
        refine lv_astore (lv' := [(5, .ref (b + (3 + 2 * k34))), (0, .ref (b + 0)), (1, .int x1), (2, .int x2), (3, .int x3), (4, .int x4)]) hx hb dX4_outcomeOfWriting_37 hl (by decide) rfl (fun ls hl => ?_)
        refine lv_iload_n hx hb dX4_outcomeOfWriting_39 rfl (lv_at hl 4 rfl) ?_
        refine lv_iconst (v := (-1 : Int32)) hx hb dX4_outcomeOfWriting_40 (by decide) ?_
        refine lv_icmp_eq (tgt := 60) hx hb dX4_outcomeOfWriting_41 (by decide) (fun c41 => ?_) (fun c41 => ?_)
        · have h := (if_pos c41).symm.trans h
          exact w_X4_outcomeOfWriting_60 C hml hr hlk (fun _ h => by cases h; exact hk34) h hS hW (lv_sub hl [1, 2, 3, 5, 0] rfl)
        · have h := (if_neg c41).symm.trans h
          refine lv_aload hx hb dX4_outcomeOfWriting_44 (lv_at hl 0 rfl) ?_
          refine lv_ifnull hx hb dX4_outcomeOfWriting_46 ?_
          refine lv_aload hx hb dX4_outcomeOfWriting_49 (lv_at hl 0 rfl) ?_
          refine gX4_132 hk34 C hW dX4_outcomeOfWriting_51 ?_
          refine lv_iload_n hx hb dX4_outcomeOfWriting_54 rfl (lv_at hl 4 rfl) ?_
          refine lv_icmp_eq (tgt := 60) hx hb dX4_outcomeOfWriting_55 (by decide) (fun c55 => ?_) (fun c55 => ?_)
          · have h := (if_pos c55).symm.trans h
            exact w_X4_outcomeOfWriting_60 C hml hr hlk (fun _ h => by cases h; exact hk34) h hS hW (lv_sub hl [1, 2, 3, 5, 0] rfl)
          · have h := (if_neg c55).symm.trans h
            refine lv_iconst (v := (3 : Int32)) hx hb dX4_outcomeOfWriting_58 (by decide) ?_
            cases h
            exact ret_i C hr hlk hS hW dX4_outcomeOfWriting_59
    · have h := (if_neg c24).symm.trans h
      refine lv_iconst (v := (2 : Int32)) hx hb dX4_outcomeOfWriting_27 (by decide) ?_
      cases h
      exact ret_i C hr hlk hS hW dX4_outcomeOfWriting_28
  · have h := (if_pos c11).symm.trans h
    refine lv_iconst (v := (1 : Int32)) hx hb dX4_outcomeOfWriting_14 (by decide) ?_
    cases h
    exact ret_i C hr hlk hS hW dX4_outcomeOfWriting_15
def f_X4_outcomeOfWriting (M : Mem) (x1 : Int32) (x2 : Int32) (x3 : Int32) (x4 : Int32) : Option (Int32 × Mem) := f_X4_outcomeOfWriting_0 M x1 x2 x3 x4
set_option maxHeartbeats 4000000 in
set_option maxRecDepth 100000 in
theorem c_X4_outcomeOfWriting {l : Launch} {Z : Zt} {b : Nat} {M : Mem} {x1 : Int32} {x2 : Int32} {x3 : Int32} {x4 : Int32} {r' : Int32} {M' : Mem} (h : f_X4_outcomeOfWriting M x1 x2 x3 x4 = some (r', M')) : Ct l yX4_outcomeOfWriting cX4_outcomeOfWriting 6 (some .int) rm_X4_outcomeOfWriting Z b [.ref (b + 0), .int x1, .int x2, .int x3, .int x4] M (some (.int r')) M' := by
  refine Met.ofW (cc := cX4_outcomeOfWriting) (maxL := 6) (ret := (some .int)) (by decide) rfl ?_
  intro p e s m args below meth c s₁ B hml hv
  obtain ⟨rfl, hE, hW⟩ := hv
  have C : Cx p s m [.ref (b + 0), .int x1, .int x2, .int x3, .int x4].toArray c cX4_outcomeOfWriting RX4 Z b := ⟨B.exec, B.bytes, findClass_of_methodNamed B.named, fun w hw => atoms_spec (ws := Cond.code yX4_outcomeOfWriting cX4_outcomeOfWriting 6 (some .int) :: wsA) B.pre w (List.mem_cons_of_mem _ hw), hE⟩
  have hl := lv_entry [.ref (b + 0), .int x1, .int x2, .int x3, .int x4] (n := 6) (Nat.le_of_ble_eq_true rfl)
  rw [lg_entry_eq]
  generalize (lg_sl [.ref (b + 0), .int x1, .int x2, .int x3, .int x4] ++ List.replicate (6 - (lg_sl [.ref (b + 0), .int x1, .int x2, .int x3, .int x4]).length) Slot.unset).toArray = ls at hl ⊢
  have hl : lv_has ls 6 [(0, .ref (b + 0)), (1, .int x1), (2, .int x2), (3, .int x3), (4, .int x4)] := hl
  exact w_X4_outcomeOfWriting_0 C hml B.returns B.notSynchronized h va_S.rf hW hl
def f_X4_write_0 (M : Mem) (x1 : Int32) (x2 : Int32) : Option Mem :=
  bd2 (f_X3_findFile M x1) (fun q5 M5 => oe q5 (bd1 (f_X3_append M5 x1 (1 : Int32) x2) (fun M20 => some M20)) (fun k5 => if 60 ≤ k5 then none else some (mu M5 6 k5 x2)))
set_option maxHeartbeats 4000000 in
set_option maxRecDepth 100000 in
theorem w_X4_write_0 {p : Program} {l : Launch} {e : Env} {s : State} {m : MethodId} {args : Array Value} {below : List Frame} {meth : Method} {c : Code} {Z : Zt} {b : Nat} (C : Cx p s m args c cX4_write RX4 Z b) (hml : c.maxLocals = 4) (hr : meth.sig.returnType = (none : Option Jvm.ClassFile.FieldType)) (hlk : meth.locks = false) {M' : Mem} {M : Mem} {x1 : Int32} {x2 : Int32} (h : f_X4_write_0 M x1 x2 = some M') {H : Heap} {locs : List Loc} {ls : Array Slot} (hS : va_S (A0 b) s.heap H locs) (hW : Wd Z b M H) (hl : lv_has ls 4 [(0, .ref (b + 0)), (1, .int x1), (2, .int x2)]) : W p l e rm_X4_write s m args below meth c H locs 0 0 (MQ below (Qn Z b none M') args s 0 0 (A0 b)) (F0 m 0 ls []) := by
  unfold f_X4_write_0 at h
  have hx := C.1
  have hb := C.2.1
  refine lv_aload_n hx hb dX4_write_0 rfl (lv_at hl 0 rfl) ?_
  refine gX4_10 C hW dX4_write_1 ?_
  refine lv_iload_n hx hb dX4_write_4 rfl (lv_at hl 1 rfl) ?_
  obtain ⟨q5, M5, hc5, h⟩ := bd2_e h
  refine kX4_129 C hml hl.1 (c_X3_findFile hc5) ⟨Nat.le_of_ble_eq_true rfl, Nat.le_of_ble_eq_true rfl⟩ ⟨Nat.le_of_ble_eq_true rfl, Nat.le_of_ble_eq_true rfl⟩ (Nat.le_of_ble_eq_true rfl) hS hW dX4_write_5 (fun H locs hW hS => ?_)
  rcases q5 with _ | k5
  · have h := oe_n h
    refine W.eq (g2 := F0 m 8 ls [.null]) rfl ?_
    refine lv_astore_nN (lv' := [(3, .null), (0, .ref (b + 0)), (1, .int x1), (2, .int x2)]) hx hb dX4_write_8 rfl hl (by decide) rfl (fun ls hl => ?_)
    refine lv_aload_nN hx hb dX4_write_9 rfl (lv_at hl 0 rfl) ?_
    refine lv_ifnonnullN hx hb dX4_write_10 ?_
    refine lv_aload_n hx hb dX4_write_13 rfl (lv_at hl 1 rfl) ?_
    refine gX4_10 C hW dX4_write_14 ?_
    refine lv_iload_n hx hb dX4_write_17 rfl (lv_at hl 2 rfl) ?_
    refine lv_iconst (v := (1 : Int32)) hx hb dX4_write_18 (by decide) ?_
    refine lv_iload_n hx hb dX4_write_19 rfl (lv_at hl 3 rfl) ?_
    obtain ⟨M20, hc20, h⟩ := bd1_e h
    refine kX4_60 C hml hl.1 (c_X3_append hc20) ⟨Nat.le_of_ble_eq_true rfl, Nat.le_of_ble_eq_true rfl⟩ ⟨Nat.le_of_ble_eq_true rfl, Nat.le_of_ble_eq_true rfl⟩ (Nat.le_of_ble_eq_true rfl) hS hW dX4_write_20 (fun H locs hW hS => ?_)
    refine lv_goto (tgt := 31) hx hb dX4_write_23 (by decide) ?_
    cases h
    exact ret_v C hr hlk hS hW dX4_write_31
  · obtain ⟨g5, h⟩ := gd (oe_s h)
    have hk5 := Nat.lt_of_not_le g5
    refine W.eq (g2 := F0 m 8 ls [.ref (b + (3 + 2 * k5))]) rfl ?_
    refine lv_astore_n (lv' := [(3, .ref (b + (3 + 2 * k5))), (0, .ref (b + 0)), (1, .int x1), (2, .int x2)]) hx hb dX4_write_8 rfl hl (by decide) rfl (fun ls hl => ?_)
    refine lv_aload_n hx hb dX4_write_9 rfl (lv_at hl 0 rfl) ?_
    refine lv_ifnonnull (tgt := 26) hx hb dX4_write_10 (by decide) ?_
    refine lv_aload_n hx hb dX4_write_26 rfl (lv_at hl 0 rfl) ?_
    refine lv_iload_n hx hb dX4_write_27 rfl (lv_at hl 3 rfl) ?_
    refine pX4_132 hk5 C hS hW dX4_write_28 (fun H locs hW hS => ?_)
    cases h
    exact ret_v C hr hlk hS hW dX4_write_31
def f_X4_write (M : Mem) (x1 : Int32) (x2 : Int32) : Option Mem := f_X4_write_0 M x1 x2
set_option maxHeartbeats 4000000 in
set_option maxRecDepth 100000 in
theorem c_X4_write {l : Launch} {Z : Zt} {b : Nat} {M : Mem} {x1 : Int32} {x2 : Int32} {M' : Mem} (h : f_X4_write M x1 x2 = some M') : Ct l yX4_write cX4_write 4 (none : Option Jvm.ClassFile.FieldType) rm_X4_write Z b [.ref (b + 0), .int x1, .int x2] M none M' := by
  refine Met.ofW (cc := cX4_write) (maxL := 4) (ret := (none : Option Jvm.ClassFile.FieldType)) (by decide) rfl ?_
  intro p e s m args below meth c s₁ B hml hv
  obtain ⟨rfl, hE, hW⟩ := hv
  have C : Cx p s m [.ref (b + 0), .int x1, .int x2].toArray c cX4_write RX4 Z b := ⟨B.exec, B.bytes, findClass_of_methodNamed B.named, fun w hw => atoms_spec (ws := Cond.code yX4_write cX4_write 4 (none : Option Jvm.ClassFile.FieldType) :: wsA) B.pre w (List.mem_cons_of_mem _ hw), hE⟩
  have hl := lv_entry [.ref (b + 0), .int x1, .int x2] (n := 4) (Nat.le_of_ble_eq_true rfl)
  rw [lg_entry_eq]
  generalize (lg_sl [.ref (b + 0), .int x1, .int x2] ++ List.replicate (4 - (lg_sl [.ref (b + 0), .int x1, .int x2]).length) Slot.unset).toArray = ls at hl ⊢
  have hl : lv_has ls 4 [(0, .ref (b + 0)), (1, .int x1), (2, .int x2)] := hl
  exact w_X4_write_0 C hml B.returns B.notSynchronized h va_S.rf hW hl
def f_X4_put_0 (M : Mem) (x1 : Int32) (x2 : Int32) (x3 : Int32) (x4 : Int32) (x5 : Int32) : Option ((String ⊕ Int32) × Mem) :=
  bdx (f_X4_requireClient M x1) (fun r1 M1 => bdx (f_X4_requirePathBelowTop M1 x2) (fun r5 M5 => bdx (f_X4_requireRange M5 x3 (0 : Int32) (999 : Int32)) (fun r13 M13 => bdx (f_X4_requireRange M13 x4 (-1 : Int32) (999 : Int32)) (fun r22 M22 => bdx (f_X4_requireNotNegative M22 x5) (fun r27 M27 => bd2 (f_X4_outcomeOfWriting M27 x1 x2 x4 x5) (fun r37 M37 => if r37 = 0 then bd1 (f_X4_write M37 x2 x3) (fun M50 => some (.inr r37, M50)) else some (.inr r37, M37)))))))
set_option maxHeartbeats 4000000 in
set_option maxRecDepth 100000 in
theorem w_X4_put_0 {p : Program} {l : Launch} {e : Env} {s : State} {m : MethodId} {args : Array Value} {below : List Frame} {meth : Method} {c : Code} {Z : Zt} {b : Nat} (C : Cx p s m args c cX4_put RX4 Z b) (hml : c.maxLocals = 7) (hr : meth.sig.returnType = (some .int)) (hlk : meth.locks = false) (hlf : l.stackTraces = false) (ht : ∀ x ∈ c.exceptionTable.toList, False) {res : ((String ⊕ Int32) × Mem)} {M : Mem} {x1 : Int32} {x2 : Int32} {x3 : Int32} {x4 : Int32} {x5 : Int32} (h : f_X4_put_0 M x1 x2 x3 x4 x5 = some res) {H : Heap} {locs : List Loc} {ls : Array Slot} (hS : va_S (A0 b) s.heap H locs) (hW : Wd Z b M H) (hl : lv_has ls 7 [(0, .ref (b + 0)), (1, .int x1), (2, .int x2), (3, .int x3), (4, .int x4), (5, .int x5)]) : W p l e rm_X4_put s m args below meth c H locs 0 0 (vx_MQ below (Qx Z b (voI res.1) res.2) (XCx Z b (voI res.1) res.2) args s 6 36 (A0 b)) (F0 m 0 ls []) := by
  unfold f_X4_put_0 at h
  have hx := C.1
  have hb := C.2.1
  refine lv_iload_n hx hb dX4_put_0 rfl (lv_at hl 1 rfl) ?_
  rcases bdx_e h with ⟨E1, M1, hc1, rfl⟩ | ⟨r1, M1, hc1, h⟩
  · exact kX4_31T C hml hl.1 (c_X4_requireClient hlf hc1) ⟨Nat.le_of_ble_eq_true rfl, Nat.le_of_ble_eq_true rfl⟩ ⟨Nat.le_of_ble_eq_true rfl, Nat.le_of_ble_eq_true rfl⟩ (Nat.le_of_ble_eq_true rfl) hS hW dX4_put_1 ht hlk (Nat.le_of_ble_eq_true rfl) (Nat.le_of_ble_eq_true rfl)
  refine kX4_31R C hml hl.1 (c_X4_requireClient hlf hc1) ⟨Nat.le_of_ble_eq_true rfl, Nat.le_of_ble_eq_true rfl⟩ ⟨Nat.le_of_ble_eq_true rfl, Nat.le_of_ble_eq_true rfl⟩ (Nat.le_of_ble_eq_true rfl) hS hW dX4_put_1 (fun H locs hW hS => ?_)
  refine lv_iload_n hx hb dX4_put_4 rfl (lv_at hl 2 rfl) ?_
  rcases bdx_e h with ⟨E5, M5, hc5, rfl⟩ | ⟨r5, M5, hc5, h⟩
  · exact kX4_35T C hml hl.1 (c_X4_requirePathBelowTop hlf hc5) ⟨Nat.le_of_ble_eq_true rfl, Nat.le_of_ble_eq_true rfl⟩ ⟨Nat.le_of_ble_eq_true rfl, Nat.le_of_ble_eq_true rfl⟩ (Nat.le_of_ble_eq_true rfl) hS hW dX4_put_5 ht hlk (Nat.le_of_ble_eq_true rfl) (Nat.le_of_ble_eq_true rfl)
  refine kX4_35R C hml hl.1 (c_X4_requirePathBelowTop hlf hc5) ⟨Nat.le_of_ble_eq_true rfl, Nat.le_of_ble_eq_true rfl⟩ ⟨Nat.le_of_ble_eq_true rfl, Nat.le_of_ble_eq_true rfl⟩ (Nat.le_of_ble_eq_true rfl) hS hW dX4_put_5 (fun H locs hW hS => ?_)
  refine lv_iload_n hx hb dX4_put_8 rfl (lv_at hl 3 rfl) ?_
  refine lv_iconst (v := (0 : Int32)) hx hb dX4_put_9 (by decide) ?_
  refine lv_sipush (v := (999 : Int32)) hx hb dX4_put_10 (by decide) ?_
  rcases bdx_e h with ⟨E13, M13, hc13, rfl⟩ | ⟨r13, M13, hc13, h⟩
  · exact kX4_64T C hml hl.1 (c_X4_requireRange hlf hc13) ⟨Nat.le_of_ble_eq_true rfl, Nat.le_of_ble_eq_true rfl⟩ ⟨Nat.le_of_ble_eq_true rfl, Nat.le_of_ble_eq_true rfl⟩ (Nat.le_of_ble_eq_true rfl) hS hW dX4_put_13 ht hlk (Nat.le_of_ble_eq_true rfl) (Nat.le_of_ble_eq_true rfl)
  refine kX4_64R C hml hl.1 (c_X4_requireRange hlf hc13) ⟨Nat.le_of_ble_eq_true rfl, Nat.le_of_ble_eq_true rfl⟩ ⟨Nat.le_of_ble_eq_true rfl, Nat.le_of_ble_eq_true rfl⟩ (Nat.le_of_ble_eq_true rfl) hS hW dX4_put_13 (fun H locs hW hS => ?_)
  refine lv_iload hx hb dX4_put_16 (lv_at hl 4 rfl) ?_
  refine lv_iconst (v := (-1 : Int32)) hx hb dX4_put_18 (by decide) ?_
  refine lv_sipush (v := (999 : Int32)) hx hb dX4_put_19 (by decide) ?_
  rcases bdx_e h with ⟨E22, M22, hc22, rfl⟩ | ⟨r22, M22, hc22, h⟩
  · exact kX4_64T C hml hl.1 (c_X4_requireRange hlf hc22) ⟨Nat.le_of_ble_eq_true rfl, Nat.le_of_ble_eq_true rfl⟩ ⟨Nat.le_of_ble_eq_true rfl, Nat.le_of_ble_eq_true rfl⟩ (Nat.le_of_ble_eq_true rfl) hS hW dX4_put_22 ht hlk (Nat.le_of_ble_eq_true rfl) (Nat.le_of_ble_eq_true rfl)
  refine kX4_64R C hml hl.1 (c_X4_requireRange hlf hc22) ⟨Nat.le_of_ble_eq_true rfl, Nat.le_of_ble_eq_true rfl⟩ ⟨Nat.le_of_ble_eq_true rfl, Nat.le_of_ble_eq_true rfl⟩ (Nat.le_of_ble_eq_true rfl) hS hW dX4_put_22 (fun H locs hW hS => ?_)
  refine lv_iload hx hb dX4_put_25 (lv_at hl 5 rfl) ?_
  rcases bdx_e h with ⟨E27, M27, hc27, rfl⟩ | ⟨r27, M27, hc27, h⟩
  · exact kX4_38T C hml hl.1 (c_X4_requireNotNegative hlf hc27) ⟨Nat.le_of_ble_eq_true rfl, Nat.le_of_ble_eq_true rfl⟩ ⟨Nat.le_of_ble_eq_true rfl, Nat.le_of_ble_eq_true rfl⟩ (Nat.le_of_ble_eq_true rfl) hS hW dX4_put_27 ht hlk (Nat.le_of_ble_eq_true rfl) (Nat.le_of_ble_eq_true rfl)
  refine kX4_38R C hml hl.1 (c_X4_requireNotNegative hlf hc27) ⟨Nat.le_of_ble_eq_true rfl, Nat.le_of_ble_eq_true rfl⟩ ⟨Nat.le_of_ble_eq_true rfl, Nat.le_of_ble_eq_true rfl⟩ (Nat.le_of_ble_eq_true rfl) hS hW dX4_put_27 (fun H locs hW hS => ?_)
  refine lv_aload_n hx hb dX4_put_30 rfl (lv_at hl 0 rfl) ?_
  refine lv_iload_n hx hb dX4_put_31 rfl (lv_at hl 1 rfl) ?_
  refine lv_iload_n hx hb dX4_put_32 rfl (lv_at hl 2 rfl) ?_
  refine lv_iload hx hb dX4_put_33 (lv_at hl 4 rfl) ?_
  refine lv_iload hx hb dX4_put_35 (lv_at hl 5 rfl) ?_
  obtain ⟨r37, M37, hc37, h⟩ := bd2_e h
  refine kX4_67 C hml hl.1 (c_X4_outcomeOfWriting hc37) ⟨Nat.le_of_ble_eq_true rfl, Nat.le_of_ble_eq_true rfl⟩ ⟨Nat.le_of_ble_eq_true rfl, Nat.le_of_ble_eq_true rfl⟩ (Nat.le_of_ble_eq_true rfl) hS hW dX4_put_37 (fun H locs hW hS => ?_)
  refine lv_istore (lv' := [(6, .int r37), (0, .ref (b + 0)), (1, .int x1), (2, .int x2), (3, .int x3), (4, .int x4), (5, .int x5)]) hx hb dX4_put_40 hl (by decide) rfl (fun ls hl => ?_)
  refine lv_iload hx hb dX4_put_42 (lv_at hl 0 rfl) ?_
  refine lv_if_ne (tgt := 53) hx hb dX4_put_44 (by decide) (fun c44 => ?_) (fun c44 => ?_)
  · have h := (if_neg c44).symm.trans h
    refine lv_iload hx hb dX4_put_53 (lv_at hl 0 rfl) ?_
    cases h
    exact ret_xi C hr hlk hS hW dX4_put_55 (Nat.le_of_ble_eq_true rfl) (Nat.le_of_ble_eq_true rfl)
  · have h := (if_pos c44).symm.trans h
    refine lv_aload_n hx hb dX4_put_47 rfl (lv_at hl 1 rfl) ?_
    refine lv_iload_n hx hb dX4_put_48 rfl (lv_at hl 3 rfl) ?_
    refine lv_iload_n hx hb dX4_put_49 rfl (lv_at hl 4 rfl) ?_
    obtain ⟨M50, hc50, h⟩ := bd1_e h
    refine kX4_71 C hml hl.1 (c_X4_write hc50) ⟨Nat.le_of_ble_eq_true rfl, Nat.le_of_ble_eq_true rfl⟩ ⟨Nat.le_of_ble_eq_true rfl, Nat.le_of_ble_eq_true rfl⟩ (Nat.le_of_ble_eq_true rfl) hS hW dX4_put_50 (fun H locs hW hS => ?_)
    refine lv_iload hx hb dX4_put_53 (lv_at hl 0 rfl) ?_
    cases h
    exact ret_xi C hr hlk hS hW dX4_put_55 (Nat.le_of_ble_eq_true rfl) (Nat.le_of_ble_eq_true rfl)
def f_X4_put (M : Mem) (x1 : Int32) (x2 : Int32) (x3 : Int32) (x4 : Int32) (x5 : Int32) : Option ((String ⊕ Int32) × Mem) := f_X4_put_0 M x1 x2 x3 x4 x5
set_option maxHeartbeats 4000000 in
set_option maxRecDepth 100000 in
theorem c_X4_put {l : Launch} {Z : Zt} {b : Nat} (hlf : l.stackTraces = false) {M : Mem} {x1 : Int32} {x2 : Int32} {x3 : Int32} {x4 : Int32} {x5 : Int32} {res : ((String ⊕ Int32) × Mem)} (h : f_X4_put M x1 x2 x3 x4 x5 = some res) : Cx' l yX4_put cX4_put 7 (some .int) rm_X4_put 6 36 Z b [.ref (b + 0), .int x1, .int x2, .int x3, .int x4, .int x5] M (voI res.1) res.2 := by
  refine vx_ofW (cc := cX4_put) (maxL := 7) (ret := (some .int)) (by decide) rfl ?_
  intro p e s m args below meth c s₁ B hml ht hv
  obtain ⟨rfl, hE, hW⟩ := hv
  have C : Cx p s m [.ref (b + 0), .int x1, .int x2, .int x3, .int x4, .int x5].toArray c cX4_put RX4 Z b := ⟨B.exec, B.bytes, findClass_of_methodNamed B.named, fun w hw => atoms_spec (ws := Cond.code yX4_put cX4_put 7 (some .int) :: wsA) B.pre w (List.mem_cons_of_mem _ hw), hE⟩
  have hl := lv_entry [.ref (b + 0), .int x1, .int x2, .int x3, .int x4, .int x5] (n := 7) (Nat.le_of_ble_eq_true rfl)
  rw [lg_entry_eq]
  generalize (lg_sl [.ref (b + 0), .int x1, .int x2, .int x3, .int x4, .int x5] ++ List.replicate (7 - (lg_sl [.ref (b + 0), .int x1, .int x2, .int x3, .int x4, .int x5]).length) Slot.unset).toArray = ls at hl ⊢
  have hl : lv_has ls 7 [(0, .ref (b + 0)), (1, .int x1), (2, .int x2), (3, .int x3), (4, .int x4), (5, .int x5)] := hl
  exact w_X4_put_0 C hml B.returns B.notSynchronized hlf ht h va_S.rf hW hl
def f_X3_pathAt_0 (M : Mem) (x1 : Int32) : Option (Int32 × Mem) :=
  if x1 < 0 then some ((-1 : Int32), M) else if (M 2 0) ≤ x1 then some ((-1 : Int32), M) else if x1 < (60 : Int32) then (if x1 < 0 ∨ 60 ≤ x1.toNatClampNeg then none else if 60 ≤ rk M x1.toNatClampNeg then none else some (M 4 (rk M x1.toNatClampNeg), M)) else some ((-1 : Int32), M)
set_option maxHeartbeats 4000000 in
set_option maxRecDepth 100000 in
theorem w_X3_pathAt_0 {p : Program} {l : Launch} {e : Env} {s : State} {m : MethodId} {args : Array Value} {below : List Frame} {meth : Method} {c : Code} {Z : Zt} {b : Nat} (C : Cx p s m args c cX3_pathAt RX3 Z b) (hml : c.maxLocals = 2) (hr : meth.sig.returnType = (some .int)) (hlk : meth.locks = false) {r' : Int32} {M' : Mem} {M : Mem} {x1 : Int32} (h : f_X3_pathAt_0 M x1 = some (r', M')) {H : Heap} {locs : List Loc} {ls : Array Slot} (hS : va_S (A0 b) s.heap H locs) (hW : Wd Z b M H) (hl : lv_has ls 2 [(0, .ref (b + 1)), (1, .int x1)]) : W p l e rm_X3_pathAt s m args below meth c H locs 0 0 (MQ below (Qn Z b (some (.int r')) M') args s 0 0 (A0 b)) (F0 m 0 ls []) := by
  unfold f_X3_pathAt_0 at h
  have hx := C.1
  have hb := C.2.1
  refine lv_iload_n hx hb dX3_pathAt_0 rfl (lv_at hl 1 rfl) ?_
  refine lv_if_lt (tgt := 21) hx hb dX3_pathAt_1 (by decide) (fun c1 => ?_) (fun c1 => ?_)
  · have h := (if_pos c1).symm.trans h
    refine lv_iconst (v := (-1 : Int32)) hx hb dX3_pathAt_21 (by decide) ?_
    refine lv_goto (tgt := 34) hx hb dX3_pathAt_22 (by decide) ?_
    cases h
    exact ret_i C hr hlk hS hW dX3_pathAt_34
  · have h := (if_neg c1).symm.trans h
    refine lv_iload_n hx hb dX3_pathAt_4 rfl (lv_at hl 1 rfl) ?_
    refine lv_aload_n hx hb dX3_pathAt_5 rfl (lv_at hl 0 rfl) ?_
    refine gX3_18 C hW dX3_pathAt_6 ?_
    refine lv_icmp_ge (tgt := 21) hx hb dX3_pathAt_9 (by decide) (fun c9 => ?_) (fun c9 => ?_)
    · have h := (if_pos c9).symm.trans h
      refine lv_iconst (v := (-1 : Int32)) hx hb dX3_pathAt_21 (by decide) ?_
      refine lv_goto (tgt := 34) hx hb dX3_pathAt_22 (by decide) ?_
      cases h
      exact ret_i C hr hlk hS hW dX3_pathAt_34
    · have h := (if_neg c9).symm.trans h
      refine lv_iload_n hx hb dX3_pathAt_12 rfl (lv_at hl 1 rfl) ?_
      refine lv_aload_n hx hb dX3_pathAt_13 rfl (lv_at hl 0 rfl) ?_
      refine gX3_11 C hW dX3_pathAt_14 ?_
      refine alen_2 C hW dX3_pathAt_17 ?_
      refine lv_icmp_lt (tgt := 25) hx hb dX3_pathAt_18 (by decide) (fun c18 => ?_) (fun c18 => ?_)
      · have h := (if_pos c18).symm.trans h
        refine lv_aload_n hx hb dX3_pathAt_25 rfl (lv_at hl 0 rfl) ?_
        refine gX3_11 C hW dX3_pathAt_26 ?_
        refine lv_iload_n hx hb dX3_pathAt_29 rfl (lv_at hl 1 rfl) ?_
        obtain ⟨g30, h⟩ := gd h
        obtain ⟨gr30, h⟩ := gd h
        have hr30 := Nat.lt_of_not_le gr30
        refine ald_row C hW g30 dX3_pathAt_30 ?_
        refine gX3_22 hr30 C hW dX3_pathAt_31 ?_
        cases h
        exact ret_i C hr hlk hS hW dX3_pathAt_34
      · have h := (if_neg c18).symm.trans h
        refine lv_iconst (v := (-1 : Int32)) hx hb dX3_pathAt_21 (by decide) ?_
        refine lv_goto (tgt := 34) hx hb dX3_pathAt_22 (by decide) ?_
        cases h
        exact ret_i C hr hlk hS hW dX3_pathAt_34
def f_X3_pathAt (M : Mem) (x1 : Int32) : Option (Int32 × Mem) := f_X3_pathAt_0 M x1
set_option maxHeartbeats 4000000 in
set_option maxRecDepth 100000 in
theorem c_X3_pathAt {l : Launch} {Z : Zt} {b : Nat} {M : Mem} {x1 : Int32} {r' : Int32} {M' : Mem} (h : f_X3_pathAt M x1 = some (r', M')) : Ct l yX3_pathAt cX3_pathAt 2 (some .int) rm_X3_pathAt Z b [.ref (b + 1), .int x1] M (some (.int r')) M' := by
  refine Met.ofW (cc := cX3_pathAt) (maxL := 2) (ret := (some .int)) (by decide) rfl ?_
  intro p e s m args below meth c s₁ B hml hv
  obtain ⟨rfl, hE, hW⟩ := hv
  have C : Cx p s m [.ref (b + 1), .int x1].toArray c cX3_pathAt RX3 Z b := ⟨B.exec, B.bytes, findClass_of_methodNamed B.named, fun w hw => atoms_spec (ws := Cond.code yX3_pathAt cX3_pathAt 2 (some .int) :: wsA) B.pre w (List.mem_cons_of_mem _ hw), hE⟩
  have hl := lv_entry [.ref (b + 1), .int x1] (n := 2) (Nat.le_of_ble_eq_true rfl)
  rw [lg_entry_eq]
  generalize (lg_sl [.ref (b + 1), .int x1] ++ List.replicate (2 - (lg_sl [.ref (b + 1), .int x1]).length) Slot.unset).toArray = ls at hl ⊢
  have hl : lv_has ls 2 [(0, .ref (b + 1)), (1, .int x1)] := hl
  exact w_X3_pathAt_0 C hml B.returns B.notSynchronized h va_S.rf hW hl
def f_X4_insertFailure_54 (M : Mem) (x1 : Int32) (x2 : Int32) : Option Mem :=
  if x2 < 0 ∨ 60 ≤ x2.toNatClampNeg then none else some (mu (mu M 1 x2.toNatClampNeg x1) 0 0 (((mu M 1 x2.toNatClampNeg x1) 0 0) + (1 : Int32)))
set_option maxHeartbeats 4000000 in
set_option maxRecDepth 100000 in
theorem w_X4_insertFailure_54 {p : Program} {l : Launch} {e : Env} {s : State} {m : MethodId} {args : Array Value} {below : List Frame} {meth : Method} {c : Code} {Z : Zt} {b : Nat} (C : Cx p s m args c cX4_insertFailure RX4 Z b) (hml : c.maxLocals = 3) (hr : meth.sig.returnType = (none : Option Jvm.ClassFile.FieldType)) (hlk : meth.locks = false) {M' : Mem} {M : Mem} {x1 : Int32} {x2 : Int32} (h : f_X4_insertFailure_54 M x1 x2 = some M') {H : Heap} {locs : List Loc} {ls : Array Slot} (hS : va_S (A0 b) s.heap H locs) (hW : Wd Z b M H) (hl : lv_has ls 3 [(0, .ref (b + 0)), (1, .int x1), (2, .int x2)]) : W p l e rm_X4_insertFailure s m args below meth c H locs 0 0 (MQ below (Qn Z b none M') args s 0 0 (A0 b)) (F0 m 54 ls []) := by
  unfold f_X4_insertFailure_54 at h
  have hx := C.1
  have hb := C.2.1
  refine lv_aload_n hx hb dX4_insertFailure_54 rfl (lv_at hl 0 rfl) ?_
  refine gX4_23 C hW dX4_insertFailure_55 ?_
  refine lv_iload_n hx hb dX4_insertFailure_58 rfl (lv_at hl 2 rfl) ?_
  refine lv_iload_n hx hb dX4_insertFailure_59 rfl (lv_at hl 1 rfl) ?_
  obtain ⟨g60, h⟩ := gd h
  refine ast_155 C hS hW g60 dX4_insertFailure_60 (fun H locs hW hS => ?_)
  refine lv_aload_n hx hb dX4_insertFailure_61 rfl (lv_at hl 0 rfl) ?_
  refine lv_dup hx hb dX4_insertFailure_62 rfl ?_
  refine gX4_27 C hW dX4_insertFailure_63 ?_
  refine lv_iconst (v := (1 : Int32)) hx hb dX4_insertFailure_66 (by decide) ?_
  refine lv_iadd hx hb dX4_insertFailure_67 ?_
  refine pX4_27 C hS hW dX4_insertFailure_68 (fun H locs hW hS => ?_)
  cases h
  exact ret_v C hr hlk hS hW dX4_insertFailure_71
def f_X4_insertFailure_18B (K18 : Mem → Int32 → Int32 → Option Mem) (M : Mem) (x1 : Int32) (x2 : Int32) : Option Mem :=
  if x2 ≤ 0 then f_X4_insertFailure_54 M x1 x2 else if (x2 - (1 : Int32)) < 0 ∨ 60 ≤ (x2 - (1 : Int32)).toNatClampNeg then none else if (M 1 (x2 - (1 : Int32)).toNatClampNeg) ≤ x1 then f_X4_insertFailure_54 M x1 x2 else if (x2 - (1 : Int32)) < 0 ∨ 60 ≤ (x2 - (1 : Int32)).toNatClampNeg then none else if x2 < 0 ∨ 60 ≤ x2.toNatClampNeg then none else K18 (mu M 1 x2.toNatClampNeg (M 1 (x2 - (1 : Int32)).toNatClampNeg)) x1 (x2 + (-1))
def f_X4_insertFailure_18 : Nat → Mem → Int32 → Int32 → Option Mem
  | 0 => fun _ _ _ => none
  | n + 1 => f_X4_insertFailure_18B (f_X4_insertFailure_18 n)
set_option maxHeartbeats 4000000 in
set_option maxRecDepth 100000 in
theorem w_X4_insertFailure_18 {p : Program} {l : Launch} {e : Env} {s : State} {m : MethodId} {args : Array Value} {below : List Frame} {meth : Method} {c : Code} {Z : Zt} {b : Nat} (C : Cx p s m args c cX4_insertFailure RX4 Z b) (hml : c.maxLocals = 3) (hr : meth.sig.returnType = (none : Option Jvm.ClassFile.FieldType)) (hlk : meth.locks = false) {M' : Mem} : ∀ (n : Nat) {M : Mem} {x1 : Int32} {x2 : Int32} (h : f_X4_insertFailure_18 n M x1 x2 = some M') {H : Heap} {locs : List Loc} {ls : Array Slot} (hS : va_S (A0 b) s.heap H locs) (hW : Wd Z b M H) (hl : lv_has ls 3 [(0, .ref (b + 0)), (1, .int x1), (2, .int x2)]), W p l e rm_X4_insertFailure s m args below meth c H locs 0 0 (MQ below (Qn Z b none M') args s 0 0 (A0 b)) (F0 m 18 ls []) := by
  intro n
  induction n with
  | zero =>
    intro M x1 x2 h
    cases h
  | succ n ih =>
    intro M x1 x2 h H locs ls hS hW hl
    have h : f_X4_insertFailure_18B (f_X4_insertFailure_18 n) M x1 x2 = some M' := h
    unfold f_X4_insertFailure_18B at h
    have hK18 := @ih
    have hx := C.1
    have hb := C.2.1
    refine lv_iload_n hx hb dX4_insertFailure_18 rfl (lv_at hl 2 rfl) ?_
    refine lv_if_le (tgt := 54) hx hb dX4_insertFailure_19 (by decide) (fun c19 => ?_) (fun c19 => ?_)
    · have h := (if_pos c19).symm.trans h
      exact w_X4_insertFailure_54 C hml hr hlk h hS hW (lv_sub hl [0, 1, 2] rfl)
    · have h := (if_neg c19).symm.trans h
      refine lv_aload_n hx hb dX4_insertFailure_22 rfl (lv_at hl 0 rfl) ?_
      refine gX4_23 C hW dX4_insertFailure_23 ?_
      refine lv_iload_n hx hb dX4_insertFailure_26 rfl (lv_at hl 2 rfl) ?_
      refine lv_iconst (v := (1 : Int32)) hx hb dX4_insertFailure_27 (by decide) ?_
      refine lv_isub hx hb dX4_insertFailure_28 ?_
      obtain ⟨g29, h⟩ := gd h
      refine ald_155 C hW g29 dX4_insertFailure_29 ?_
      refine lv_iload_n hx hb dX4_insertFailure_30 rfl (lv_at hl 1 rfl) ?_
      refine lv_icmp_le (tgt := 54) hx hb dX4_insertFailure_31 (by decide) (fun c31 => ?_) (fun c31 => ?_)
      · have h := (if_pos c31).symm.trans h
        exact w_X4_insertFailure_54 C hml hr hlk h hS hW (lv_sub hl [0, 1, 2] rfl)
      · have h := (if_neg c31).symm.trans h
        refine lv_aload_n hx hb dX4_insertFailure_34 rfl (lv_at hl 0 rfl) ?_
        refine gX4_23 C hW dX4_insertFailure_35 ?_
        refine lv_iload_n hx hb dX4_insertFailure_38 rfl (lv_at hl 2 rfl) ?_
        refine lv_aload_n hx hb dX4_insertFailure_39 rfl (lv_at hl 0 rfl) ?_
        refine gX4_23 C hW dX4_insertFailure_40 ?_
        refine lv_iload_n hx hb dX4_insertFailure_43 rfl (lv_at hl 2 rfl) ?_
        refine lv_iconst (v := (1 : Int32)) hx hb dX4_insertFailure_44 (by decide) ?_
        refine lv_isub hx hb dX4_insertFailure_45 ?_
        obtain ⟨g46, h⟩ := gd h
        refine ald_155 C hW g46 dX4_insertFailure_46 ?_
        obtain ⟨g47, h⟩ := gd h
        refine ast_155 C hS hW g47 dX4_insertFailure_47 (fun H locs hW hS => ?_)
        refine lv_iinc (v := x2 + (-1)) (lv' := [(2, .int (x2 + (-1))), (0, .ref (b + 0)), (1, .int x1)]) hx hb dX4_insertFailure_48 hl (k := 2) rfl rfl (by decide) rfl (fun ls hl => ?_)
        refine lv_goto (tgt := 18) hx hb dX4_insertFailure_51 (by decide) ?_
        exact hK18 h hS hW (lv_sub hl [1, 2, 0] rfl)
def f_X4_insertFailure_0 (M : Mem) (x1 : Int32) : Option Mem :=
  if (M 0 0) < (60 : Int32) then f_X4_insertFailure_18 64 M x1 (M 0 0) else some M
set_option maxHeartbeats 4000000 in
set_option maxRecDepth 100000 in
theorem w_X4_insertFailure_0 {p : Program} {l : Launch} {e : Env} {s : State} {m : MethodId} {args : Array Value} {below : List Frame} {meth : Method} {c : Code} {Z : Zt} {b : Nat} (C : Cx p s m args c cX4_insertFailure RX4 Z b) (hml : c.maxLocals = 3) (hr : meth.sig.returnType = (none : Option Jvm.ClassFile.FieldType)) (hlk : meth.locks = false) {M' : Mem} {M : Mem} {x1 : Int32} (h : f_X4_insertFailure_0 M x1 = some M') {H : Heap} {locs : List Loc} {ls : Array Slot} (hS : va_S (A0 b) s.heap H locs) (hW : Wd Z b M H) (hl : lv_has ls 3 [(0, .ref (b + 0)), (1, .int x1)]) : W p l e rm_X4_insertFailure s m args below meth c H locs 0 0 (MQ below (Qn Z b none M') args s 0 0 (A0 b)) (F0 m 0 ls []) := by
  unfold f_X4_insertFailure_0 at h
  have hx := C.1
  have hb := C.2.1
  refine lv_aload_n hx hb dX4_insertFailure_0 rfl (lv_at hl 0 rfl) ?_
  refine gX4_27 C hW dX4_insertFailure_1 ?_
  refine lv_aload_n hx hb dX4_insertFailure_4 rfl (lv_at hl 0 rfl) ?_
  refine gX4_23 C hW dX4_insertFailure_5 ?_
  refine alen_155 C hW dX4_insertFailure_8 ?_
  refine lv_icmp_lt (tgt := 13) hx hb dX4_insertFailure_9 (by decide) (fun c9 => ?_) (fun c9 => ?_)
  · have h := (if_pos c9).symm.trans h
    refine lv_aload_n hx hb dX4_insertFailure_13 rfl (lv_at hl 0 rfl) ?_
    refine gX4_27 C hW dX4_insertFailure_14 ?_
    refine lv_istore_n (lv' := [(2, .int (M 0 0)), (0, .ref (b + 0)), (1, .int x1)]) hx hb dX4_insertFailure_17 rfl hl (by decide) rfl (fun ls hl => ?_)
    exact w_X4_insertFailure_18 C hml hr hlk 64 h hS hW (lv_sub hl [1, 2, 0] rfl)
  · have h := (if_neg c9).symm.trans h
    cases h
    exact ret_v C hr hlk hS hW dX4_insertFailure_12
def f_X4_insertFailure (M : Mem) (x1 : Int32) : Option Mem := f_X4_insertFailure_0 M x1
set_option maxHeartbeats 4000000 in
set_option maxRecDepth 100000 in
theorem c_X4_insertFailure {l : Launch} {Z : Zt} {b : Nat} {M : Mem} {x1 : Int32} {M' : Mem} (h : f_X4_insertFailure M x1 = some M') : Ct l yX4_insertFailure cX4_insertFailure 3 (none : Option Jvm.ClassFile.FieldType) rm_X4_insertFailure Z b [.ref (b + 0), .int x1] M none M' := by
  refine Met.ofW (cc := cX4_insertFailure) (maxL := 3) (ret := (none : Option Jvm.ClassFile.FieldType)) (by decide) rfl ?_
  intro p e s m args below meth c s₁ B hml hv
  obtain ⟨rfl, hE, hW⟩ := hv
  have C : Cx p s m [.ref (b + 0), .int x1].toArray c cX4_insertFailure RX4 Z b := ⟨B.exec, B.bytes, findClass_of_methodNamed B.named, fun w hw => atoms_spec (ws := Cond.code yX4_insertFailure cX4_insertFailure 3 (none : Option Jvm.ClassFile.FieldType) :: wsA) B.pre w (List.mem_cons_of_mem _ hw), hE⟩
  have hl := lv_entry [.ref (b + 0), .int x1] (n := 3) (Nat.le_of_ble_eq_true rfl)
  rw [lg_entry_eq]
  generalize (lg_sl [.ref (b + 0), .int x1] ++ List.replicate (3 - (lg_sl [.ref (b + 0), .int x1]).length) Slot.unset).toArray = ls at hl ⊢
  have hl : lv_has ls 3 [(0, .ref (b + 0)), (1, .int x1)] := hl
  exact w_X4_insertFailure_0 C hml B.returns B.notSynchronized h va_S.rf hW hl
def f_X4_noteFailures_55 (K3 : Mem → Int32 → Int32 → Int32 → Int32 → Option Mem) (M : Mem) (x1 : Int32) (x2 : Int32) (x3 : Int32) (x4 : Int32) : Option Mem :=
  K3 M x1 x2 x3 (x4 + 1)
set_option maxHeartbeats 4000000 in
set_option maxRecDepth 100000 in
theorem w_X4_noteFailures_55 {p : Program} {l : Launch} {e : Env} {s : State} {m : MethodId} {args : Array Value} {below : List Frame} {meth : Method} {c : Code} {Z : Zt} {b : Nat} (C : Cx p s m args c cX4_noteFailures RX4 Z b) (hml : c.maxLocals = 6) (hr : meth.sig.returnType = (none : Option Jvm.ClassFile.FieldType)) (hlk : meth.locks = false) {M' : Mem} {K3 : Mem → Int32 → Int32 → Int32 → Int32 → Option Mem} (hK3 : ∀ {M : Mem} {x1 : Int32} {x2 : Int32} {x3 : Int32} {x4 : Int32} (h : K3 M x1 x2 x3 x4 = some M') {H : Heap} {locs : List Loc} {ls : Array Slot} (hS : va_S (A0 b) s.heap H locs) (hW : Wd Z b M H) (hl : lv_has ls 6 [(0, .ref (b + 0)), (1, .int x1), (2, .int x2), (3, .int x3), (4, .int x4)]), W p l e rm_X4_noteFailures s m args below meth c H locs 0 0 (MQ below (Qn Z b none M') args s 0 0 (A0 b)) (F0 m 3 ls [])) {M : Mem} {x1 : Int32} {x2 : Int32} {x3 : Int32} {x4 : Int32} (h : f_X4_noteFailures_55 K3 M x1 x2 x3 x4 = some M') {H : Heap} {locs : List Loc} {ls : Array Slot} (hS : va_S (A0 b) s.heap H locs) (hW : Wd Z b M H) (hl : lv_has ls 6 [(0, .ref (b + 0)), (1, .int x1), (2, .int x2), (3, .int x3), (4, .int x4)]) : W p l e rm_X4_noteFailures s m args below meth c H locs 0 0 (MQ below (Qn Z b none M') args s 0 0 (A0 b)) (F0 m 55 ls []) := by
  unfold f_X4_noteFailures_55 at h
  have hx := C.1
  have hb := C.2.1
  refine lv_iinc (v := x4 + 1) (lv' := [(4, .int (x4 + 1)), (0, .ref (b + 0)), (1, .int x1), (2, .int x2), (3, .int x3)]) hx hb dX4_noteFailures_55 hl (k := 4) rfl rfl (by decide) rfl (fun ls hl => ?_)
  refine lv_goto (tgt := 3) hx hb dX4_noteFailures_58 (by decide) ?_
  exact hK3 h hS hW (lv_sub hl [1, 2, 3, 4, 0] rfl)
def f_X4_noteFailures_3B (K3 : Mem → Int32 → Int32 → Int32 → Int32 → Option Mem) (M : Mem) (x1 : Int32) (x2 : Int32) (x3 : Int32) (x4 : Int32) : Option Mem :=
  if (M 2 0) ≤ x4 then some M else bd2 (f_X3_pathAt M x4) (fun r21 M21 => bd2 (f_X4_isAbove M21 x2 r21) (fun r29 M29 => if r29 = 0 then f_X4_noteFailures_55 K3 M29 x1 x2 x3 x4 else bd2 (f_X1_allows M29 x1 r21 x3) (fun r43 M43 => if r43 = 0 then bd1 (f_X4_insertFailure M43 r21) (fun M52 => f_X4_noteFailures_55 K3 M52 x1 x2 x3 x4) else f_X4_noteFailures_55 K3 M43 x1 x2 x3 x4)))
def f_X4_noteFailures_3 : Nat → Mem → Int32 → Int32 → Int32 → Int32 → Option Mem
  | 0 => fun _ _ _ _ _ => none
  | n + 1 => f_X4_noteFailures_3B (f_X4_noteFailures_3 n)
set_option maxHeartbeats 4000000 in
set_option maxRecDepth 100000 in
theorem w_X4_noteFailures_3 {p : Program} {l : Launch} {e : Env} {s : State} {m : MethodId} {args : Array Value} {below : List Frame} {meth : Method} {c : Code} {Z : Zt} {b : Nat} (C : Cx p s m args c cX4_noteFailures RX4 Z b) (hml : c.maxLocals = 6) (hr : meth.sig.returnType = (none : Option Jvm.ClassFile.FieldType)) (hlk : meth.locks = false) {M' : Mem} : ∀ (n : Nat) {M : Mem} {x1 : Int32} {x2 : Int32} {x3 : Int32} {x4 : Int32} (h : f_X4_noteFailures_3 n M x1 x2 x3 x4 = some M') {H : Heap} {locs : List Loc} {ls : Array Slot} (hS : va_S (A0 b) s.heap H locs) (hW : Wd Z b M H) (hl : lv_has ls 6 [(0, .ref (b + 0)), (1, .int x1), (2, .int x2), (3, .int x3), (4, .int x4)]), W p l e rm_X4_noteFailures s m args below meth c H locs 0 0 (MQ below (Qn Z b none M') args s 0 0 (A0 b)) (F0 m 3 ls []) := by
  intro n
  induction n with
  | zero =>
    intro M x1 x2 x3 x4 h
    cases h
  | succ n ih =>
    intro M x1 x2 x3 x4 h H locs ls hS hW hl
    have h : f_X4_noteFailures_3B (f_X4_noteFailures_3 n) M x1 x2 x3 x4 = some M' := h
    unfold f_X4_noteFailures_3B at h
    have hK3 := @ih
    have hx := C.1
    have hb := C.2.1
    refine lv_iload hx hb dX4_noteFailures_3 (lv_at hl 4 rfl) ?_
    refine lv_aload_n hx hb dX4_noteFailures_5 rfl (lv_at hl 0 rfl) ?_
    refine gX4_10 C hW dX4_noteFailures_6 ?_
    refine gX4_57 C hW dX4_noteFailures_9 ?_
    refine lv_icmp_ge (tgt := 61) hx hb dX4_noteFailures_12 (by decide) (fun c12 => ?_) (fun c12 => ?_)
    · have h := (if_pos c12).symm.trans h
      cases h
      exact ret_v C hr hlk hS hW dX4_noteFailures_61
    · have h := (if_neg c12).symm.trans h
      refine lv_aload_n hx hb dX4_noteFailures_15 rfl (lv_at hl 0 rfl) ?_
      refine gX4_10 C hW dX4_noteFailures_16 ?_
      refine lv_iload hx hb dX4_noteFailures_19 (lv_at hl 4 rfl) ?_
      obtain ⟨r21, M21, hc21, h⟩ := bd2_e h
      refine kX4_144 C hml hl.1 (c_X3_pathAt hc21) ⟨Nat.le_of_ble_eq_true rfl, Nat.le_of_ble_eq_true rfl⟩ ⟨Nat.le_of_ble_eq_true rfl, Nat.le_of_ble_eq_true rfl⟩ (Nat.le_of_ble_eq_true rfl) hS hW dX4_noteFailures_21 (fun H locs hW hS => ?_)
      refine lv_istore (lv' := [(5, .int r21), (0, .ref (b + 0)), (1, .int x1), (2, .int x2), (3, .int x3), (4, .int x4)]) hx hb dX4_noteFailures_24 hl (by decide) rfl (fun ls hl => ?_)
      refine lv_iload_n hx hb dX4_noteFailures_26 rfl (lv_at hl 3 rfl) ?_
      refine lv_iload hx hb dX4_noteFailures_27 (lv_at hl 0 rfl) ?_
      obtain ⟨r29, M29, hc29, h⟩ := bd2_e h
      refine kX4_231 C hml hl.1 (c_X4_isAbove hc29) ⟨Nat.le_of_ble_eq_true rfl, Nat.le_of_ble_eq_true rfl⟩ ⟨Nat.le_of_ble_eq_true rfl, Nat.le_of_ble_eq_true rfl⟩ (Nat.le_of_ble_eq_true rfl) hS hW dX4_noteFailures_29 (fun H locs hW hS => ?_)
      refine lv_if_eq (tgt := 55) hx hb dX4_noteFailures_32 (by decide) (fun c32 => ?_) (fun c32 => ?_)
      · have h := (if_pos c32).symm.trans h
        exact w_X4_noteFailures_55 C hml hr hlk hK3 h hS hW (lv_sub hl [1, 2, 3, 4, 5] rfl)
      · have h := (if_neg c32).symm.trans h
        refine lv_aload_n hx hb dX4_noteFailures_35 rfl (lv_at hl 1 rfl) ?_
        refine gX4_19 C hW dX4_noteFailures_36 ?_
        refine lv_iload_n hx hb dX4_noteFailures_39 rfl (lv_at hl 2 rfl) ?_
        refine lv_iload hx hb dX4_noteFailures_40 (lv_at hl 0 rfl) ?_
        refine lv_iload_n hx hb dX4_noteFailures_42 rfl (lv_at hl 4 rfl) ?_
        obtain ⟨r43, M43, hc43, h⟩ := bd2_e h
        refine kX4_111 C hml hl.1 (c_X1_allows hc43) ⟨Nat.le_of_ble_eq_true rfl, Nat.le_of_ble_eq_true rfl⟩ ⟨Nat.le_of_ble_eq_true rfl, Nat.le_of_ble_eq_true rfl⟩ (Nat.le_of_ble_eq_true rfl) hS hW dX4_noteFailures_43 (fun H locs hW hS => ?_)
        refine lv_if_ne (tgt := 55) hx hb dX4_noteFailures_46 (by decide) (fun c46 => ?_) (fun c46 => ?_)
        · have h := (if_neg c46).symm.trans h
          exact w_X4_noteFailures_55 C hml hr hlk hK3 h hS hW (lv_sub hl [1, 2, 3, 4, 5] rfl)
        · have h := (if_pos c46).symm.trans h
          refine lv_aload_n hx hb dX4_noteFailures_49 rfl (lv_at hl 1 rfl) ?_
          refine lv_iload hx hb dX4_noteFailures_50 (lv_at hl 0 rfl) ?_
          obtain ⟨M52, hc52, h⟩ := bd1_e h
          refine kX4_237 C hml hl.1 (c_X4_insertFailure hc52) ⟨Nat.le_of_ble_eq_true rfl, Nat.le_of_ble_eq_true rfl⟩ ⟨Nat.le_of_ble_eq_true rfl, Nat.le_of_ble_eq_true rfl⟩ (Nat.le_of_ble_eq_true rfl) hS hW dX4_noteFailures_52 (fun H locs hW hS => ?_)
          exact w_X4_noteFailures_55 C hml hr hlk hK3 h hS hW (lv_sub hl [1, 2, 3, 4, 5] rfl)
def f_X4_noteFailures_0 (M : Mem) (x1 : Int32) (x2 : Int32) (x3 : Int32) : Option Mem :=
  f_X4_noteFailures_3 64 M x1 x2 x3 (0 : Int32)
set_option maxHeartbeats 4000000 in
set_option maxRecDepth 100000 in
theorem w_X4_noteFailures_0 {p : Program} {l : Launch} {e : Env} {s : State} {m : MethodId} {args : Array Value} {below : List Frame} {meth : Method} {c : Code} {Z : Zt} {b : Nat} (C : Cx p s m args c cX4_noteFailures RX4 Z b) (hml : c.maxLocals = 6) (hr : meth.sig.returnType = (none : Option Jvm.ClassFile.FieldType)) (hlk : meth.locks = false) {M' : Mem} {M : Mem} {x1 : Int32} {x2 : Int32} {x3 : Int32} (h : f_X4_noteFailures_0 M x1 x2 x3 = some M') {H : Heap} {locs : List Loc} {ls : Array Slot} (hS : va_S (A0 b) s.heap H locs) (hW : Wd Z b M H) (hl : lv_has ls 6 [(0, .ref (b + 0)), (1, .int x1), (2, .int x2), (3, .int x3)]) : W p l e rm_X4_noteFailures s m args below meth c H locs 0 0 (MQ below (Qn Z b none M') args s 0 0 (A0 b)) (F0 m 0 ls []) := by
  unfold f_X4_noteFailures_0 at h
  have hx := C.1
  have hb := C.2.1
  refine lv_iconst (v := (0 : Int32)) hx hb dX4_noteFailures_0 (by decide) ?_
  refine lv_istore (lv' := [(4, .int (0 : Int32)), (0, .ref (b + 0)), (1, .int x1), (2, .int x2), (3, .int x3)]) hx hb dX4_noteFailures_1 hl (by decide) rfl (fun ls hl => ?_)
  exact w_X4_noteFailures_3 C hml hr hlk 64 h hS hW (lv_sub hl [1, 2, 3, 4, 0] rfl)
def f_X4_noteFailures (M : Mem) (x1 : Int32) (x2 : Int32) (x3 : Int32) : Option Mem := f_X4_noteFailures_0 M x1 x2 x3
set_option maxHeartbeats 4000000 in
set_option maxRecDepth 100000 in
theorem c_X4_noteFailures {l : Launch} {Z : Zt} {b : Nat} {M : Mem} {x1 : Int32} {x2 : Int32} {x3 : Int32} {M' : Mem} (h : f_X4_noteFailures M x1 x2 x3 = some M') : Ct l yX4_noteFailures cX4_noteFailures 6 (none : Option Jvm.ClassFile.FieldType) rm_X4_noteFailures Z b [.ref (b + 0), .int x1, .int x2, .int x3] M none M' := by
  refine Met.ofW (cc := cX4_noteFailures) (maxL := 6) (ret := (none : Option Jvm.ClassFile.FieldType)) (by decide) rfl ?_
  intro p e s m args below meth c s₁ B hml hv
  obtain ⟨rfl, hE, hW⟩ := hv
  have C : Cx p s m [.ref (b + 0), .int x1, .int x2, .int x3].toArray c cX4_noteFailures RX4 Z b := ⟨B.exec, B.bytes, findClass_of_methodNamed B.named, fun w hw => atoms_spec (ws := Cond.code yX4_noteFailures cX4_noteFailures 6 (none : Option Jvm.ClassFile.FieldType) :: wsA) B.pre w (List.mem_cons_of_mem _ hw), hE⟩
  have hl := lv_entry [.ref (b + 0), .int x1, .int x2, .int x3] (n := 6) (Nat.le_of_ble_eq_true rfl)
  rw [lg_entry_eq]
  generalize (lg_sl [.ref (b + 0), .int x1, .int x2, .int x3] ++ List.replicate (6 - (lg_sl [.ref (b + 0), .int x1, .int x2, .int x3]).length) Slot.unset).toArray = ls at hl ⊢
  have hl : lv_has ls 6 [(0, .ref (b + 0)), (1, .int x1), (2, .int x2), (3, .int x3)] := hl
  exact w_X4_noteFailures_0 C hml B.returns B.notSynchronized h va_S.rf hW hl
def f_X4_isIn_0 (M : Mem) (x0 : Int32) (x1 : Int32) : Option (Int32 × Mem) :=
  if x1 = x0 then some ((1 : Int32), M) else bd2 (f_X4_isAbove M x0 x1) (fun r7 M7 => if r7 = 0 then some ((0 : Int32), M7) else some ((1 : Int32), M7))
set_option maxHeartbeats 4000000 in
set_option maxRecDepth 100000 in
theorem w_X4_isIn_0 {p : Program} {l : Launch} {e : Env} {s : State} {m : MethodId} {args : Array Value} {below : List Frame} {meth : Method} {c : Code} {Z : Zt} {b : Nat} (C : Cx p s m args c cX4_isIn RX4 Z b) (hml : c.maxLocals = 2) (hr : meth.sig.returnType = (some .boolean)) (hlk : meth.locks = false) {r' : Int32} {M' : Mem} {M : Mem} {x0 : Int32} {x1 : Int32} (h : f_X4_isIn_0 M x0 x1 = some (r', M')) {H : Heap} {locs : List Loc} {ls : Array Slot} (hS : va_S (A0 b) s.heap H locs) (hW : Wd Z b M H) (hl : lv_has ls 2 [(0, .int x0), (1, .int x1)]) : W p l e rm_X4_isIn s m args below meth c H locs 0 0 (MQ below (Qn Z b (some (.int r')) M') args s 0 0 (A0 b)) (F0 m 0 ls []) := by
  unfold f_X4_isIn_0 at h
  have hx := C.1
  have hb := C.2.1
  refine lv_iload_n hx hb dX4_isIn_0 rfl (lv_at hl 1 rfl) ?_
  refine lv_iload_n hx hb dX4_isIn_1 rfl (lv_at hl 0 rfl) ?_
  refine lv_icmp_eq (tgt := 13) hx hb dX4_isIn_2 (by decide) (fun c2 => ?_) (fun c2 => ?_)
  · have h := (if_pos c2).symm.trans h
    refine lv_iconst (v := (1 : Int32)) hx hb dX4_isIn_13 (by decide) ?_
    refine lv_goto (tgt := 18) hx hb dX4_isIn_14 (by decide) ?_
    cases h
    exact ret_z C hr hlk (by decide) hS hW dX4_isIn_18
  · have h := (if_neg c2).symm.trans h
    refine lv_iload_n hx hb dX4_isIn_5 rfl (lv_at hl 0 rfl) ?_
    refine lv_iload_n hx hb dX4_isIn_6 rfl (lv_at hl 1 rfl) ?_
    obtain ⟨r7, M7, hc7, h⟩ := bd2_e h
    refine kX4_231 C hml hl.1 (c_X4_isAbove hc7) ⟨Nat.le_of_ble_eq_true rfl, Nat.le_of_ble_eq_true rfl⟩ ⟨Nat.le_of_ble_eq_true rfl, Nat.le_of_ble_eq_true rfl⟩ (Nat.le_of_ble_eq_true rfl) hS hW dX4_isIn_7 (fun H locs hW hS => ?_)
    refine lv_if_eq (tgt := 17) hx hb dX4_isIn_10 (by decide) (fun c10 => ?_) (fun c10 => ?_)
    · have h := (if_pos c10).symm.trans h
      refine lv_iconst (v := (0 : Int32)) hx hb dX4_isIn_17 (by decide) ?_
      cases h
      exact ret_z C hr hlk (by decide) hS hW dX4_isIn_18
    · have h := (if_neg c10).symm.trans h
      refine lv_iconst (v := (1 : Int32)) hx hb dX4_isIn_13 (by decide) ?_
      refine lv_goto (tgt := 18) hx hb dX4_isIn_14 (by decide) ?_
      cases h
      exact ret_z C hr hlk (by decide) hS hW dX4_isIn_18
def f_X4_isIn (M : Mem) (x0 : Int32) (x1 : Int32) : Option (Int32 × Mem) := f_X4_isIn_0 M x0 x1
set_option maxHeartbeats 4000000 in
set_option maxRecDepth 100000 in
theorem c_X4_isIn {l : Launch} {Z : Zt} {b : Nat} {M : Mem} {x0 : Int32} {x1 : Int32} {r' : Int32} {M' : Mem} (h : f_X4_isIn M x0 x1 = some (r', M')) : Ct l yX4_isIn cX4_isIn 2 (some .boolean) rm_X4_isIn Z b [.int x0, .int x1] M (some (.int r')) M' := by
  refine Met.ofW (cc := cX4_isIn) (maxL := 2) (ret := (some .boolean)) (by decide) rfl ?_
  intro p e s m args below meth c s₁ B hml hv
  obtain ⟨rfl, hE, hW⟩ := hv
  have C : Cx p s m [.int x0, .int x1].toArray c cX4_isIn RX4 Z b := ⟨B.exec, B.bytes, findClass_of_methodNamed B.named, fun w hw => atoms_spec (ws := Cond.code yX4_isIn cX4_isIn 2 (some .boolean) :: wsA) B.pre w (List.mem_cons_of_mem _ hw), hE⟩
  have hl := lv_entry [.int x0, .int x1] (n := 2) (Nat.le_of_ble_eq_true rfl)
  rw [lg_entry_eq]
  generalize (lg_sl [.int x0, .int x1] ++ List.replicate (2 - (lg_sl [.int x0, .int x1]).length) Slot.unset).toArray = ls at hl ⊢
  have hl : lv_has ls 2 [(0, .int x0), (1, .int x1)] := hl
  exact w_X4_isIn_0 C hml B.returns B.notSynchronized h va_S.rf hW hl

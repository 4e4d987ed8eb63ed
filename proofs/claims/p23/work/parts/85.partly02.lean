set_option maxHeartbeats 4000000 in
set_option maxRecDepth 100000 in
theorem t_partly_38 {p : Program} {l : Launch} {e : Env} {s : State} {m : MethodId} {args : Array Value} {below : List Frame} {meth : Method} {c : Code} {Z : Zt} {b : Nat} (C : Cx p s m args c cL_partly RL Z b) (hml : c.maxLocals = 2) (hr : meth.sig.returnType = some .boolean) (hlk : meth.locks = false) (hlf : l.stackTraces = false) {M : Mem} (h : RS M V100) {H : Heap} {locs : List Loc} {ls : Array Slot} {cells slots : Nat} (hS : va_S (A0 b) s.heap H locs) (hW : Wd Z b M H) (hl : lv_has ls 2 [(1, .int (37 : Int32)), (0, .ref (b + 0))]) (hcs : cells + 2104 ≤ 4189 ∧ slots + 12624 ≤ 25467) : W p l e rm_L_partly s m args below meth c H locs cells slots (MQ below (QT b) args s 4189 25467 (A0 b)) (F0 m 287 ls []) := by
  have hx := C.1
  have hb := C.2.1
  refine lv_iinc (v := (38 : Int32)) (lv' := [(1, .int (38 : Int32)), (0, .ref (b + 0))]) hx hb dL_partly_287 hl (k := 0) rfl (by decide) (by decide) rfl (fun ls hl => ?_)
  refine lv_goto (tgt := 238) hx hb dL_partly_290 (by decide) ?_
  refine lv_iload_n hx hb dL_partly_238 rfl (lv_at hl 0 rfl) ?_
  refine lv_bipush (v := (61 : Int32)) hx hb dL_partly_239 (by decide) ?_
  refine lv_icmp_ge (tgt := 293) hx hb dL_partly_241 (by decide) (fun c => absurd c (by decide)) (fun _ => ?_)
  refine lv_aload_n hx hb dL_partly_244 rfl (lv_at hl 1 rfl) ?_
  refine lv_iconst (v := (0 : Int32)) hx hb dL_partly_245 (by decide) ?_
  refine lv_iload_n hx hb dL_partly_246 rfl (lv_at hl 0 rfl) ?_
  refine lv_bipush (v := (10 : Int32)) hx hb dL_partly_247 (by decide) ?_
  refine lv_icmp_ge (tgt := 256) hx hb dL_partly_249 (by decide) (fun _ => ?_) (fun c => absurd (by decide) c)
  refine lv_bipush (v := (10 : Int32)) hx hb dL_partly_256 (by decide) ?_
  refine lv_iload_n hx hb dL_partly_258 rfl (lv_at hl 0 rfl) ?_
  refine lv_bipush (v := (10 : Int32)) hx hb dL_partly_259 (by decide) ?_
  refine lv_isub hx hb dL_partly_261 ?_
  refine W.eq (g2 := F0 m 262 ls [.int (28 : Int32), .int (10 : Int32), .int (0 : Int32), .ref (b + 0)]) (congrArg (fun v => F0 m 262 ls (.int v :: [.int (10 : Int32), .int (0 : Int32), .ref (b + 0)])) (show (38 : Int32) - (10 : Int32) = (28 : Int32) by decide)) ?_
  refine lv_bipush (v := (9 : Int32)) hx hb dL_partly_262 (by decide) ?_
  refine lv_idiv hx hb dL_partly_264 (by decide) ?_
  refine W.eq (g2 := F0 m 265 ls [.int (3 : Int32), .int (10 : Int32), .int (0 : Int32), .ref (b + 0)]) (congrArg (fun v => F0 m 265 ls (.int v :: [.int (10 : Int32), .int (0 : Int32), .ref (b + 0)])) (show (28 : Int32) / (9 : Int32) = (3 : Int32) by decide)) ?_
  refine lv_iconst (v := (1 : Int32)) hx hb dL_partly_265 (by decide) ?_
  refine lv_iadd hx hb dL_partly_266 ?_
  refine W.eq (g2 := F0 m 267 ls [.int (4 : Int32), .int (10 : Int32), .int (0 : Int32), .ref (b + 0)]) (congrArg (fun v => F0 m 267 ls (.int v :: [.int (10 : Int32), .int (0 : Int32), .ref (b + 0)])) (show (3 : Int32) + (1 : Int32) = (4 : Int32) by decide)) ?_
  refine lv_imul hx hb dL_partly_267 ?_
  refine W.eq (g2 := F0 m 268 ls [.int (40 : Int32), .int (0 : Int32), .ref (b + 0)]) (congrArg (fun v => F0 m 268 ls (.int v :: [.int (0 : Int32), .ref (b + 0)])) (show (10 : Int32) * (4 : Int32) = (40 : Int32) by decide)) ?_
  refine lv_iload_n hx hb dL_partly_268 rfl (lv_at hl 0 rfl) ?_
  refine lv_bipush (v := (10 : Int32)) hx hb dL_partly_269 (by decide) ?_
  refine lv_isub hx hb dL_partly_271 ?_
  refine W.eq (g2 := F0 m 272 ls [.int (28 : Int32), .int (40 : Int32), .int (0 : Int32), .ref (b + 0)]) (congrArg (fun v => F0 m 272 ls (.int v :: [.int (40 : Int32), .int (0 : Int32), .ref (b + 0)])) (show (38 : Int32) - (10 : Int32) = (28 : Int32) by decide)) ?_
  refine lv_bipush (v := (9 : Int32)) hx hb dL_partly_272 (by decide) ?_
  refine lv_irem hx hb dL_partly_274 (by decide) ?_
  refine W.eq (g2 := F0 m 275 ls [.int (1 : Int32), .int (40 : Int32), .int (0 : Int32), .ref (b + 0)]) (congrArg (fun v => F0 m 275 ls (.int v :: [.int (40 : Int32), .int (0 : Int32), .ref (b + 0)])) (show (28 : Int32) - (28 : Int32) / (9 : Int32) * (9 : Int32) = (1 : Int32) by decide)) ?_
  refine lv_iadd hx hb dL_partly_275 ?_
  refine W.eq (g2 := F0 m 276 ls [.int (41 : Int32), .int (0 : Int32), .ref (b + 0)]) (congrArg (fun v => F0 m 276 ls (.int v :: [.int (0 : Int32), .ref (b + 0)])) (show (40 : Int32) + (1 : Int32) = (41 : Int32) by decide)) ?_
  refine lv_iconst (v := (1 : Int32)) hx hb dL_partly_276 (by decide) ?_
  refine lv_iadd hx hb dL_partly_277 ?_
  refine W.eq (g2 := F0 m 278 ls [.int (42 : Int32), .int (0 : Int32), .ref (b + 0)]) (congrArg (fun v => F0 m 278 ls (.int v :: [.int (0 : Int32), .ref (b + 0)])) (show (41 : Int32) + (1 : Int32) = (42 : Int32) by decide)) ?_
  refine lv_iconst (v := (0 : Int32)) hx hb dL_partly_278 (by decide) ?_
  obtain ⟨M1, hc1, h1⟩ := s_mk V101 (0 : Int32) (c := (0 : Int32)) (x := (42 : Int32)) (tks := (0 : Int32)) h (by decide +kernel)
  have hc1 : f_X4_makeCollection M (0 : Int32) (42 : Int32) (0 : Int32) = some (.inr (0 : Int32), M1) := hc1
  refine kL_7R C hml hl.1 (c_X4_makeCollection hlf hc1) ⟨Nat.le_of_ble_eq_true rfl, Nat.le_of_ble_eq_true rfl⟩ ⟨by show _ ≤ 4189; omega, by show _ ≤ 25467; omega⟩ (Nat.le_of_ble_eq_true rfl) hS hW dL_partly_279 (fun H locs hW hS => ?_)
  refine lv_if_eq (tgt := 287) hx hb dL_partly_282 (by decide) (fun _ => ?_) (fun c => absurd (by decide) c)
  exact t_partly_39 C hml hr hlk hlf h1 hS hW (lv_sub hl [0, 1] rfl) ⟨by omega, by omega⟩
set_option maxHeartbeats 4000000 in
set_option maxRecDepth 100000 in
theorem t_partly_37 {p : Program} {l : Launch} {e : Env} {s : State} {m : MethodId} {args : Array Value} {below : List Frame} {meth : Method} {c : Code} {Z : Zt} {b : Nat} (C : Cx p s m args c cL_partly RL Z b) (hml : c.maxLocals = 2) (hr : meth.sig.returnType = some .boolean) (hlk : meth.locks = false) (hlf : l.stackTraces = false) {M : Mem} (h : RS M V99) {H : Heap} {locs : List Loc} {ls : Array Slot} {cells slots : Nat} (hS : va_S (A0 b) s.heap H locs) (hW : Wd Z b M H) (hl : lv_has ls 2 [(1, .int (36 : Int32)), (0, .ref (b + 0))]) (hcs : cells + 2108 ≤ 4189 ∧ slots + 12648 ≤ 25467) : W p l e rm_L_partly s m args below meth c H locs cells slots (MQ below (QT b) args s 4189 25467 (A0 b)) (F0 m 287 ls []) := by
  have hx := C.1
  have hb := C.2.1
  refine lv_iinc (v := (37 : Int32)) (lv' := [(1, .int (37 : Int32)), (0, .ref (b + 0))]) hx hb dL_partly_287 hl (k := 0) rfl (by decide) (by decide) rfl (fun ls hl => ?_)
  refine lv_goto (tgt := 238) hx hb dL_partly_290 (by decide) ?_
  refine lv_iload_n hx hb dL_partly_238 rfl (lv_at hl 0 rfl) ?_
  refine lv_bipush (v := (61 : Int32)) hx hb dL_partly_239 (by decide) ?_
  refine lv_icmp_ge (tgt := 293) hx hb dL_partly_241 (by decide) (fun c => absurd c (by decide)) (fun _ => ?_)
  refine lv_aload_n hx hb dL_partly_244 rfl (lv_at hl 1 rfl) ?_
  refine lv_iconst (v := (0 : Int32)) hx hb dL_partly_245 (by decide) ?_
  refine lv_iload_n hx hb dL_partly_246 rfl (lv_at hl 0 rfl) ?_
  refine lv_bipush (v := (10 : Int32)) hx hb dL_partly_247 (by decide) ?_
  refine lv_icmp_ge (tgt := 256) hx hb dL_partly_249 (by decide) (fun _ => ?_) (fun c => absurd (by decide) c)
  refine lv_bipush (v := (10 : Int32)) hx hb dL_partly_256 (by decide) ?_
  refine lv_iload_n hx hb dL_partly_258 rfl (lv_at hl 0 rfl) ?_
  refine lv_bipush (v := (10 : Int32)) hx hb dL_partly_259 (by decide) ?_
  refine lv_isub hx hb dL_partly_261 ?_
  refine W.eq (g2 := F0 m 262 ls [.int (27 : Int32), .int (10 : Int32), .int (0 : Int32), .ref (b + 0)]) (congrArg (fun v => F0 m 262 ls (.int v :: [.int (10 : Int32), .int (0 : Int32), .ref (b + 0)])) (show (37 : Int32) - (10 : Int32) = (27 : Int32) by decide)) ?_
  refine lv_bipush (v := (9 : Int32)) hx hb dL_partly_262 (by decide) ?_
  refine lv_idiv hx hb dL_partly_264 (by decide) ?_
  refine W.eq (g2 := F0 m 265 ls [.int (3 : Int32), .int (10 : Int32), .int (0 : Int32), .ref (b + 0)]) (congrArg (fun v => F0 m 265 ls (.int v :: [.int (10 : Int32), .int (0 : Int32), .ref (b + 0)])) (show (27 : Int32) / (9 : Int32) = (3 : Int32) by decide)) ?_
  refine lv_iconst (v := (1 : Int32)) hx hb dL_partly_265 (by decide) ?_
  refine lv_iadd hx hb dL_partly_266 ?_
  refine W.eq (g2 := F0 m 267 ls [.int (4 : Int32), .int (10 : Int32), .int (0 : Int32), .ref (b + 0)]) (congrArg (fun v => F0 m 267 ls (.int v :: [.int (10 : Int32), .int (0 : Int32), .ref (b + 0)])) (show (3 : Int32) + (1 : Int32) = (4 : Int32) by decide)) ?_
  refine lv_imul hx hb dL_partly_267 ?_
  refine W.eq (g2 := F0 m 268 ls [.int (40 : Int32), .int (0 : Int32), .ref (b + 0)]) (congrArg (fun v => F0 m 268 ls (.int v :: [.int (0 : Int32), .ref (b + 0)])) (show (10 : Int32) * (4 : Int32) = (40 : Int32) by decide)) ?_
  refine lv_iload_n hx hb dL_partly_268 rfl (lv_at hl 0 rfl) ?_
  refine lv_bipush (v := (10 : Int32)) hx hb dL_partly_269 (by decide) ?_
  refine lv_isub hx hb dL_partly_271 ?_
  refine W.eq (g2 := F0 m 272 ls [.int (27 : Int32), .int (40 : Int32), .int (0 : Int32), .ref (b + 0)]) (congrArg (fun v => F0 m 272 ls (.int v :: [.int (40 : Int32), .int (0 : Int32), .ref (b + 0)])) (show (37 : Int32) - (10 : Int32) = (27 : Int32) by decide)) ?_
  refine lv_bipush (v := (9 : Int32)) hx hb dL_partly_272 (by decide) ?_
  refine lv_irem hx hb dL_partly_274 (by decide) ?_
  refine W.eq (g2 := F0 m 275 ls [.int (0 : Int32), .int (40 : Int32), .int (0 : Int32), .ref (b + 0)]) (congrArg (fun v => F0 m 275 ls (.int v :: [.int (40 : Int32), .int (0 : Int32), .ref (b + 0)])) (show (27 : Int32) - (27 : Int32) / (9 : Int32) * (9 : Int32) = (0 : Int32) by decide)) ?_
  refine lv_iadd hx hb dL_partly_275 ?_
  refine W.eq (g2 := F0 m 276 ls [.int (40 : Int32), .int (0 : Int32), .ref (b + 0)]) (congrArg (fun v => F0 m 276 ls (.int v :: [.int (0 : Int32), .ref (b + 0)])) (show (40 : Int32) + (0 : Int32) = (40 : Int32) by decide)) ?_
  refine lv_iconst (v := (1 : Int32)) hx hb dL_partly_276 (by decide) ?_
  refine lv_iadd hx hb dL_partly_277 ?_
  refine W.eq (g2 := F0 m 278 ls [.int (41 : Int32), .int (0 : Int32), .ref (b + 0)]) (congrArg (fun v => F0 m 278 ls (.int v :: [.int (0 : Int32), .ref (b + 0)])) (show (40 : Int32) + (1 : Int32) = (41 : Int32) by decide)) ?_
  refine lv_iconst (v := (0 : Int32)) hx hb dL_partly_278 (by decide) ?_
  obtain ⟨M1, hc1, h1⟩ := s_mk V100 (0 : Int32) (c := (0 : Int32)) (x := (41 : Int32)) (tks := (0 : Int32)) h (by decide +kernel)
  have hc1 : f_X4_makeCollection M (0 : Int32) (41 : Int32) (0 : Int32) = some (.inr (0 : Int32), M1) := hc1
  refine kL_7R C hml hl.1 (c_X4_makeCollection hlf hc1) ⟨Nat.le_of_ble_eq_true rfl, Nat.le_of_ble_eq_true rfl⟩ ⟨by show _ ≤ 4189; omega, by show _ ≤ 25467; omega⟩ (Nat.le_of_ble_eq_true rfl) hS hW dL_partly_279 (fun H locs hW hS => ?_)
  refine lv_if_eq (tgt := 287) hx hb dL_partly_282 (by decide) (fun _ => ?_) (fun c => absurd (by decide) c)
  exact t_partly_38 C hml hr hlk hlf h1 hS hW (lv_sub hl [0, 1] rfl) ⟨by omega, by omega⟩
set_option maxHeartbeats 4000000 in
set_option maxRecDepth 100000 in
theorem t_partly_36 {p : Program} {l : Launch} {e : Env} {s : State} {m : MethodId} {args : Array Value} {below : List Frame} {meth : Method} {c : Code} {Z : Zt} {b : Nat} (C : Cx p s m args c cL_partly RL Z b) (hml : c.maxLocals = 2) (hr : meth.sig.returnType = some .boolean) (hlk : meth.locks = false) (hlf : l.stackTraces = false) {M : Mem} (h : RS M V98) {H : Heap} {locs : List Loc} {ls : Array Slot} {cells slots : Nat} (hS : va_S (A0 b) s.heap H locs) (hW : Wd Z b M H) (hl : lv_has ls 2 [(1, .int (35 : Int32)), (0, .ref (b + 0))]) (hcs : cells + 2112 ≤ 4189 ∧ slots + 12672 ≤ 25467) : W p l e rm_L_partly s m args below meth c H locs cells slots (MQ below (QT b) args s 4189 25467 (A0 b)) (F0 m 287 ls []) := by
  have hx := C.1
  have hb := C.2.1
  refine lv_iinc (v := (36 : Int32)) (lv' := [(1, .int (36 : Int32)), (0, .ref (b + 0))]) hx hb dL_partly_287 hl (k := 0) rfl (by decide) (by decide) rfl (fun ls hl => ?_)
  refine lv_goto (tgt := 238) hx hb dL_partly_290 (by decide) ?_
  refine lv_iload_n hx hb dL_partly_238 rfl (lv_at hl 0 rfl) ?_
  refine lv_bipush (v := (61 : Int32)) hx hb dL_partly_239 (by decide) ?_
  refine lv_icmp_ge (tgt := 293) hx hb dL_partly_241 (by decide) (fun c => absurd c (by decide)) (fun _ => ?_)
  refine lv_aload_n hx hb dL_partly_244 rfl (lv_at hl 1 rfl) ?_
  refine lv_iconst (v := (0 : Int32)) hx hb dL_partly_245 (by decide) ?_
  refine lv_iload_n hx hb dL_partly_246 rfl (lv_at hl 0 rfl) ?_
  refine lv_bipush (v := (10 : Int32)) hx hb dL_partly_247 (by decide) ?_
  refine lv_icmp_ge (tgt := 256) hx hb dL_partly_249 (by decide) (fun _ => ?_) (fun c => absurd (by decide) c)
  refine lv_bipush (v := (10 : Int32)) hx hb dL_partly_256 (by decide) ?_
  refine lv_iload_n hx hb dL_partly_258 rfl (lv_at hl 0 rfl) ?_
  refine lv_bipush (v := (10 : Int32)) hx hb dL_partly_259 (by decide) ?_
  refine lv_isub hx hb dL_partly_261 ?_
  refine W.eq (g2 := F0 m 262 ls [.int (26 : Int32), .int (10 : Int32), .int (0 : Int32), .ref (b + 0)]) (congrArg (fun v => F0 m 262 ls (.int v :: [.int (10 : Int32), .int (0 : Int32), .ref (b + 0)])) (show (36 : Int32) - (10 : Int32) = (26 : Int32) by decide)) ?_
  refine lv_bipush (v := (9 : Int32)) hx hb dL_partly_262 (by decide) ?_
  refine lv_idiv hx hb dL_partly_264 (by decide) ?_
  refine W.eq (g2 := F0 m 265 ls [.int (2 : Int32), .int (10 : Int32), .int (0 : Int32), .ref (b + 0)]) (congrArg (fun v => F0 m 265 ls (.int v :: [.int (10 : Int32), .int (0 : Int32), .ref (b + 0)])) (show (26 : Int32) / (9 : Int32) = (2 : Int32) by decide)) ?_
  refine lv_iconst (v := (1 : Int32)) hx hb dL_partly_265 (by decide) ?_
  refine lv_iadd hx hb dL_partly_266 ?_
  refine W.eq (g2 := F0 m 267 ls [.int (3 : Int32), .int (10 : Int32), .int (0 : Int32), .ref (b + 0)]) (congrArg (fun v => F0 m 267 ls (.int v :: [.int (10 : Int32), .int (0 : Int32), .ref (b + 0)])) (show (2 : Int32) + (1 : Int32) = (3 : Int32) by decide)) ?_
  refine lv_imul hx hb dL_partly_267 ?_
  refine W.eq (g2 := F0 m 268 ls [.int (30 : Int32), .int (0 : Int32), .ref (b + 0)]) (congrArg (fun v => F0 m 268 ls (.int v :: [.int (0 : Int32), .ref (b + 0)])) (show (10 : Int32) * (3 : Int32) = (30 : Int32) by decide)) ?_
  refine lv_iload_n hx hb dL_partly_268 rfl (lv_at hl 0 rfl) ?_
  refine lv_bipush (v := (10 : Int32)) hx hb dL_partly_269 (by decide) ?_
  refine lv_isub hx hb dL_partly_271 ?_
  refine W.eq (g2 := F0 m 272 ls [.int (26 : Int32), .int (30 : Int32), .int (0 : Int32), .ref (b + 0)]) (congrArg (fun v => F0 m 272 ls (.int v :: [.int (30 : Int32), .int (0 : Int32), .ref (b + 0)])) (show (36 : Int32) - (10 : Int32) = (26 : Int32) by decide)) ?_
  refine lv_bipush (v := (9 : Int32)) hx hb dL_partly_272 (by decide) ?_
  refine lv_irem hx hb dL_partly_274 (by decide) ?_
  refine W.eq (g2 := F0 m 275 ls [.int (8 : Int32), .int (30 : Int32), .int (0 : Int32), .ref (b + 0)]) (congrArg (fun v => F0 m 275 ls (.int v :: [.int (30 : Int32), .int (0 : Int32), .ref (b + 0)])) (show (26 : Int32) - (26 : Int32) / (9 : Int32) * (9 : Int32) = (8 : Int32) by decide)) ?_
  refine lv_iadd hx hb dL_partly_275 ?_
  refine W.eq (g2 := F0 m 276 ls [.int (38 : Int32), .int (0 : Int32), .ref (b + 0)]) (congrArg (fun v => F0 m 276 ls (.int v :: [.int (0 : Int32), .ref (b + 0)])) (show (30 : Int32) + (8 : Int32) = (38 : Int32) by decide)) ?_
  refine lv_iconst (v := (1 : Int32)) hx hb dL_partly_276 (by decide) ?_
  refine lv_iadd hx hb dL_partly_277 ?_
  refine W.eq (g2 := F0 m 278 ls [.int (39 : Int32), .int (0 : Int32), .ref (b + 0)]) (congrArg (fun v => F0 m 278 ls (.int v :: [.int (0 : Int32), .ref (b + 0)])) (show (38 : Int32) + (1 : Int32) = (39 : Int32) by decide)) ?_
  refine lv_iconst (v := (0 : Int32)) hx hb dL_partly_278 (by decide) ?_
  obtain ⟨M1, hc1, h1⟩ := s_mk V99 (0 : Int32) (c := (0 : Int32)) (x := (39 : Int32)) (tks := (0 : Int32)) h (by decide +kernel)
  have hc1 : f_X4_makeCollection M (0 : Int32) (39 : Int32) (0 : Int32) = some (.inr (0 : Int32), M1) := hc1
  refine kL_7R C hml hl.1 (c_X4_makeCollection hlf hc1) ⟨Nat.le_of_ble_eq_true rfl, Nat.le_of_ble_eq_true rfl⟩ ⟨by show _ ≤ 4189; omega, by show _ ≤ 25467; omega⟩ (Nat.le_of_ble_eq_true rfl) hS hW dL_partly_279 (fun H locs hW hS => ?_)
  refine lv_if_eq (tgt := 287) hx hb dL_partly_282 (by decide) (fun _ => ?_) (fun c => absurd (by decide) c)
  exact t_partly_37 C hml hr hlk hlf h1 hS hW (lv_sub hl [0, 1] rfl) ⟨by omega, by omega⟩
set_option maxHeartbeats 4000000 in
set_option maxRecDepth 100000 in
theorem t_partly_35 {p : Program} {l : Launch} {e : Env} {s : State} {m : MethodId} {args : Array Value} {below : List Frame} {meth : Method} {c : Code} {Z : Zt} {b : Nat} (C : Cx p s m args c cL_partly RL Z b) (hml : c.maxLocals = 2) (hr : meth.sig.returnType = some .boolean) (hlk : meth.locks = false) (hlf : l.stackTraces = false) {M : Mem} (h : RS M V97) {H : Heap} {locs : List Loc} {ls : Array Slot} {cells slots : Nat} (hS : va_S (A0 b) s.heap H locs) (hW : Wd Z b M H) (hl : lv_has ls 2 [(1, .int (34 : Int32)), (0, .ref (b + 0))]) (hcs : cells + 2116 ≤ 4189 ∧ slots + 12696 ≤ 25467) : W p l e rm_L_partly s m args below meth c H locs cells slots (MQ below (QT b) args s 4189 25467 (A0 b)) (F0 m 287 ls []) := by
  have hx := C.1
  have hb := C.2.1
  refine lv_iinc (v := (35 : Int32)) (lv' := [(1, .int (35 : Int32)), (0, .ref (b + 0))]) hx hb dL_partly_287 hl (k := 0) rfl (by decide) (by decide) rfl (fun ls hl => ?_)
  refine lv_goto (tgt := 238) hx hb dL_partly_290 (by decide) ?_
  refine lv_iload_n hx hb dL_partly_238 rfl (lv_at hl 0 rfl) ?_
  refine lv_bipush (v := (61 : Int32)) hx hb dL_partly_239 (by decide) ?_
  refine lv_icmp_ge (tgt := 293) hx hb dL_partly_241 (by decide) (fun c => absurd c (by decide)) (fun _ => ?_)
  refine lv_aload_n hx hb dL_partly_244 rfl (lv_at hl 1 rfl) ?_
  refine lv_iconst (v := (0 : Int32)) hx hb dL_partly_245 (by decide) ?_
  refine lv_iload_n hx hb dL_partly_246 rfl (lv_at hl 0 rfl) ?_
  refine lv_bipush (v := (10 : Int32)) hx hb dL_partly_247 (by decide) ?_
  refine lv_icmp_ge (tgt := 256) hx hb dL_partly_249 (by decide) (fun _ => ?_) (fun c => absurd (by decide) c)
  refine lv_bipush (v := (10 : Int32)) hx hb dL_partly_256 (by decide) ?_
  refine lv_iload_n hx hb dL_partly_258 rfl (lv_at hl 0 rfl) ?_
  refine lv_bipush (v := (10 : Int32)) hx hb dL_partly_259 (by decide) ?_
  refine lv_isub hx hb dL_partly_261 ?_
  refine W.eq (g2 := F0 m 262 ls [.int (25 : Int32), .int (10 : Int32), .int (0 : Int32), .ref (b + 0)]) (congrArg (fun v => F0 m 262 ls (.int v :: [.int (10 : Int32), .int (0 : Int32), .ref (b + 0)])) (show (35 : Int32) - (10 : Int32) = (25 : Int32) by decide)) ?_
  refine lv_bipush (v := (9 : Int32)) hx hb dL_partly_262 (by decide) ?_
  refine lv_idiv hx hb dL_partly_264 (by decide) ?_
  refine W.eq (g2 := F0 m 265 ls [.int (2 : Int32), .int (10 : Int32), .int (0 : Int32), .ref (b + 0)]) (congrArg (fun v => F0 m 265 ls (.int v :: [.int (10 : Int32), .int (0 : Int32), .ref (b + 0)])) (show (25 : Int32) / (9 : Int32) = (2 : Int32) by decide)) ?_
  refine lv_iconst (v := (1 : Int32)) hx hb dL_partly_265 (by decide) ?_
  refine lv_iadd hx hb dL_partly_266 ?_
  refine W.eq (g2 := F0 m 267 ls [.int (3 : Int32), .int (10 : Int32), .int (0 : Int32), .ref (b + 0)]) (congrArg (fun v => F0 m 267 ls (.int v :: [.int (10 : Int32), .int (0 : Int32), .ref (b + 0)])) (show (2 : Int32) + (1 : Int32) = (3 : Int32) by decide)) ?_
  refine lv_imul hx hb dL_partly_267 ?_
  refine W.eq (g2 := F0 m 268 ls [.int (30 : Int32), .int (0 : Int32), .ref (b + 0)]) (congrArg (fun v => F0 m 268 ls (.int v :: [.int (0 : Int32), .ref (b + 0)])) (show (10 : Int32) * (3 : Int32) = (30 : Int32) by decide)) ?_
  refine lv_iload_n hx hb dL_partly_268 rfl (lv_at hl 0 rfl) ?_
  refine lv_bipush (v := (10 : Int32)) hx hb dL_partly_269 (by decide) ?_
  refine lv_isub hx hb dL_partly_271 ?_
  refine W.eq (g2 := F0 m 272 ls [.int (25 : Int32), .int (30 : Int32), .int (0 : Int32), .ref (b + 0)]) (congrArg (fun v => F0 m 272 ls (.int v :: [.int (30 : Int32), .int (0 : Int32), .ref (b + 0)])) (show (35 : Int32) - (10 : Int32) = (25 : Int32) by decide)) ?_
  refine lv_bipush (v := (9 : Int32)) hx hb dL_partly_272 (by decide) ?_
  refine lv_irem hx hb dL_partly_274 (by decide) ?_
  refine W.eq (g2 := F0 m 275 ls [.int (7 : Int32), .int (30 : Int32), .int (0 : Int32), .ref (b + 0)]) (congrArg (fun v => F0 m 275 ls (.int v :: [.int (30 : Int32), .int (0 : Int32), .ref (b + 0)])) (show (25 : Int32) - (25 : Int32) / (9 : Int32) * (9 : Int32) = (7 : Int32) by decide)) ?_
  refine lv_iadd hx hb dL_partly_275 ?_
  refine W.eq (g2 := F0 m 276 ls [.int (37 : Int32), .int (0 : Int32), .ref (b + 0)]) (congrArg (fun v => F0 m 276 ls (.int v :: [.int (0 : Int32), .ref (b + 0)])) (show (30 : Int32) + (7 : Int32) = (37 : Int32) by decide)) ?_
  refine lv_iconst (v := (1 : Int32)) hx hb dL_partly_276 (by decide) ?_
  refine lv_iadd hx hb dL_partly_277 ?_
  refine W.eq (g2 := F0 m 278 ls [.int (38 : Int32), .int (0 : Int32), .ref (b + 0)]) (congrArg (fun v => F0 m 278 ls (.int v :: [.int (0 : Int32), .ref (b + 0)])) (show (37 : Int32) + (1 : Int32) = (38 : Int32) by decide)) ?_
  refine lv_iconst (v := (0 : Int32)) hx hb dL_partly_278 (by decide) ?_
  obtain ⟨M1, hc1, h1⟩ := s_mk V98 (0 : Int32) (c := (0 : Int32)) (x := (38 : Int32)) (tks := (0 : Int32)) h (by decide +kernel)
  have hc1 : f_X4_makeCollection M (0 : Int32) (38 : Int32) (0 : Int32) = some (.inr (0 : Int32), M1) := hc1
  refine kL_7R C hml hl.1 (c_X4_makeCollection hlf hc1) ⟨Nat.le_of_ble_eq_true rfl, Nat.le_of_ble_eq_true rfl⟩ ⟨by show _ ≤ 4189; omega, by show _ ≤ 25467; omega⟩ (Nat.le_of_ble_eq_true rfl) hS hW dL_partly_279 (fun H locs hW hS => ?_)
  refine lv_if_eq (tgt := 287) hx hb dL_partly_282 (by decide) (fun _ => ?_) (fun c => absurd (by decide) c)
  exact t_partly_36 C hml hr hlk hlf h1 hS hW (lv_sub hl [0, 1] rfl) ⟨by omega, by omega⟩
set_option maxHeartbeats 4000000 in
set_option maxRecDepth 100000 in
theorem t_partly_34 {p : Program} {l : Launch} {e : Env} {s : State} {m : MethodId} {args : Array Value} {below : List Frame} {meth : Method} {c : Code} {Z : Zt} {b : Nat} (C : Cx p s m args c cL_partly RL Z b) (hml : c.maxLocals = 2) (hr : meth.sig.returnType = some .boolean) (hlk : meth.locks = false) (hlf : l.stackTraces = false) {M : Mem} (h : RS M V96) {H : Heap} {locs : List Loc} {ls : Array Slot} {cells slots : Nat} (hS : va_S (A0 b) s.heap H locs) (hW : Wd Z b M H) (hl : lv_has ls 2 [(1, .int (33 : Int32)), (0, .ref (b + 0))]) (hcs : cells + 2120 ≤ 4189 ∧ slots + 12720 ≤ 25467) : W p l e rm_L_partly s m args below meth c H locs cells slots (MQ below (QT b) args s 4189 25467 (A0 b)) (F0 m 287 ls []) := by
  have hx := C.1
  have hb := C.2.1
  refine lv_iinc (v := (34 : Int32)) (lv' := [(1, .int (34 : Int32)), (0, .ref (b + 0))]) hx hb dL_partly_287 hl (k := 0) rfl (by decide) (by decide) rfl (fun ls hl => ?_)
  refine lv_goto (tgt := 238) hx hb dL_partly_290 (by decide) ?_
  refine lv_iload_n hx hb dL_partly_238 rfl (lv_at hl 0 rfl) ?_
  refine lv_bipush (v := (61 : Int32)) hx hb dL_partly_239 (by decide) ?_
  refine lv_icmp_ge (tgt := 293) hx hb dL_partly_241 (by decide) (fun c => absurd c (by decide)) (fun _ => ?_)
  refine lv_aload_n hx hb dL_partly_244 rfl (lv_at hl 1 rfl) ?_
  refine lv_iconst (v := (0 : Int32)) hx hb dL_partly_245 (by decide) ?_
  refine lv_iload_n hx hb dL_partly_246 rfl (lv_at hl 0 rfl) ?_
  refine lv_bipush (v := (10 : Int32)) hx hb dL_partly_247 (by decide) ?_
  refine lv_icmp_ge (tgt := 256) hx hb dL_partly_249 (by decide) (fun _ => ?_) (fun c => absurd (by decide) c)
  refine lv_bipush (v := (10 : Int32)) hx hb dL_partly_256 (by decide) ?_
  refine lv_iload_n hx hb dL_partly_258 rfl (lv_at hl 0 rfl) ?_
  refine lv_bipush (v := (10 : Int32)) hx hb dL_partly_259 (by decide) ?_
  refine lv_isub hx hb dL_partly_261 ?_
  refine W.eq (g2 := F0 m 262 ls [.int (24 : Int32), .int (10 : Int32), .int (0 : Int32), .ref (b + 0)]) (congrArg (fun v => F0 m 262 ls (.int v :: [.int (10 : Int32), .int (0 : Int32), .ref (b + 0)])) (show (34 : Int32) - (10 : Int32) = (24 : Int32) by decide)) ?_
  refine lv_bipush (v := (9 : Int32)) hx hb dL_partly_262 (by decide) ?_
  refine lv_idiv hx hb dL_partly_264 (by decide) ?_
  refine W.eq (g2 := F0 m 265 ls [.int (2 : Int32), .int (10 : Int32), .int (0 : Int32), .ref (b + 0)]) (congrArg (fun v => F0 m 265 ls (.int v :: [.int (10 : Int32), .int (0 : Int32), .ref (b + 0)])) (show (24 : Int32) / (9 : Int32) = (2 : Int32) by decide)) ?_
  refine lv_iconst (v := (1 : Int32)) hx hb dL_partly_265 (by decide) ?_
  refine lv_iadd hx hb dL_partly_266 ?_
  refine W.eq (g2 := F0 m 267 ls [.int (3 : Int32), .int (10 : Int32), .int (0 : Int32), .ref (b + 0)]) (congrArg (fun v => F0 m 267 ls (.int v :: [.int (10 : Int32), .int (0 : Int32), .ref (b + 0)])) (show (2 : Int32) + (1 : Int32) = (3 : Int32) by decide)) ?_
  refine lv_imul hx hb dL_partly_267 ?_
  refine W.eq (g2 := F0 m 268 ls [.int (30 : Int32), .int (0 : Int32), .ref (b + 0)]) (congrArg (fun v => F0 m 268 ls (.int v :: [.int (0 : Int32), .ref (b + 0)])) (show (10 : Int32) * (3 : Int32) = (30 : Int32) by decide)) ?_
  refine lv_iload_n hx hb dL_partly_268 rfl (lv_at hl 0 rfl) ?_
  refine lv_bipush (v := (10 : Int32)) hx hb dL_partly_269 (by decide) ?_
  refine lv_isub hx hb dL_partly_271 ?_
  refine W.eq (g2 := F0 m 272 ls [.int (24 : Int32), .int (30 : Int32), .int (0 : Int32), .ref (b + 0)]) (congrArg (fun v => F0 m 272 ls (.int v :: [.int (30 : Int32), .int (0 : Int32), .ref (b + 0)])) (show (34 : Int32) - (10 : Int32) = (24 : Int32) by decide)) ?_
  refine lv_bipush (v := (9 : Int32)) hx hb dL_partly_272 (by decide) ?_
  refine lv_irem hx hb dL_partly_274 (by decide) ?_
  refine W.eq (g2 := F0 m 275 ls [.int (6 : Int32), .int (30 : Int32), .int (0 : Int32), .ref (b + 0)]) (congrArg (fun v => F0 m 275 ls (.int v :: [.int (30 : Int32), .int (0 : Int32), .ref (b + 0)])) (show (24 : Int32) - (24 : Int32) / (9 : Int32) * (9 : Int32) = (6 : Int32) by decide)) ?_
  refine lv_iadd hx hb dL_partly_275 ?_
  refine W.eq (g2 := F0 m 276 ls [.int (36 : Int32), .int (0 : Int32), .ref (b + 0)]) (congrArg (fun v => F0 m 276 ls (.int v :: [.int (0 : Int32), .ref (b + 0)])) (show (30 : Int32) + (6 : Int32) = (36 : Int32) by decide)) ?_
  refine lv_iconst (v := (1 : Int32)) hx hb dL_partly_276 (by decide) ?_
  refine lv_iadd hx hb dL_partly_277 ?_
  refine W.eq (g2 := F0 m 278 ls [.int (37 : Int32), .int (0 : Int32), .ref (b + 0)]) (congrArg (fun v => F0 m 278 ls (.int v :: [.int (0 : Int32), .ref (b + 0)])) (show (36 : Int32) + (1 : Int32) = (37 : Int32) by decide)) ?_
  refine lv_iconst (v := (0 : Int32)) hx hb dL_partly_278 (by decide) ?_
  obtain ⟨M1, hc1, h1⟩ := s_mk V97 (0 : Int32) (c := (0 : Int32)) (x := (37 : Int32)) (tks := (0 : Int32)) h (by decide +kernel)
  have hc1 : f_X4_makeCollection M (0 : Int32) (37 : Int32) (0 : Int32) = some (.inr (0 : Int32), M1) := hc1
  refine kL_7R C hml hl.1 (c_X4_makeCollection hlf hc1) ⟨Nat.le_of_ble_eq_true rfl, Nat.le_of_ble_eq_true rfl⟩ ⟨by show _ ≤ 4189; omega, by show _ ≤ 25467; omega⟩ (Nat.le_of_ble_eq_true rfl) hS hW dL_partly_279 (fun H locs hW hS => ?_)
  refine lv_if_eq (tgt := 287) hx hb dL_partly_282 (by decide) (fun _ => ?_) (fun c => absurd (by decide) c)
  exact t_partly_35 C hml hr hlk hlf h1 hS hW (lv_sub hl [0, 1] rfl) ⟨by omega, by omega⟩
set_option maxHeartbeats 4000000 in
set_option maxRecDepth 100000 in
theorem t_partly_33 {p : Program} {l : Launch} {e : Env} {s : State} {m : MethodId} {args : Array Value} {below : List Frame} {meth : Method} {c : Code} {Z : Zt} {b : Nat} (C : Cx p s m args c cL_partly RL Z b) (hml : c.maxLocals = 2) (hr : meth.sig.returnType = some .boolean) (hlk : meth.locks = false) (hlf : l.stackTraces = false) {M : Mem} (h : RS M V95) {H : Heap} {locs : List Loc} {ls : Array Slot} {cells slots : Nat} (hS : va_S (A0 b) s.heap H locs) (hW : Wd Z b M H) (hl : lv_has ls 2 [(1, .int (32 : Int32)), (0, .ref (b + 0))]) (hcs : cells + 2124 ≤ 4189 ∧ slots + 12744 ≤ 25467) : W p l e rm_L_partly s m args below meth c H locs cells slots (MQ below (QT b) args s 4189 25467 (A0 b)) (F0 m 287 ls []) := by
  have hx := C.1
  have hb := C.2.1
  refine lv_iinc (v := (33 : Int32)) (lv' := [(1, .int (33 : Int32)), (0, .ref (b + 0))]) hx hb dL_partly_287 hl (k := 0) rfl (by decide) (by decide) rfl (fun ls hl => ?_)
  refine lv_goto (tgt := 238) hx hb dL_partly_290 (by decide) ?_
  refine lv_iload_n hx hb dL_partly_238 rfl (lv_at hl 0 rfl) ?_
  refine lv_bipush (v := (61 : Int32)) hx hb dL_partly_239 (by decide) ?_
  refine lv_icmp_ge (tgt := 293) hx hb dL_partly_241 (by decide) (fun c => absurd c (by decide)) (fun _ => ?_)
  refine lv_aload_n hx hb dL_partly_244 rfl (lv_at hl 1 rfl) ?_
  refine lv_iconst (v := (0 : Int32)) hx hb dL_partly_245 (by decide) ?_
  refine lv_iload_n hx hb dL_partly_246 rfl (lv_at hl 0 rfl) ?_
  refine lv_bipush (v := (10 : Int32)) hx hb dL_partly_247 (by decide) ?_
  refine lv_icmp_ge (tgt := 256) hx hb dL_partly_249 (by decide) (fun _ => ?_) (fun c => absurd (by decide) c)
  refine lv_bipush (v := (10 : Int32)) hx hb dL_partly_256 (by decide) ?_
  refine lv_iload_n hx hb dL_partly_258 rfl (lv_at hl 0 rfl) ?_
  refine lv_bipush (v := (10 : Int32)) hx hb dL_partly_259 (by decide) ?_
  refine lv_isub hx hb dL_partly_261 ?_
  refine W.eq (g2 := F0 m 262 ls [.int (23 : Int32), .int (10 : Int32), .int (0 : Int32), .ref (b + 0)]) (congrArg (fun v => F0 m 262 ls (.int v :: [.int (10 : Int32), .int (0 : Int32), .ref (b + 0)])) (show (33 : Int32) - (10 : Int32) = (23 : Int32) by decide)) ?_
  refine lv_bipush (v := (9 : Int32)) hx hb dL_partly_262 (by decide) ?_
  refine lv_idiv hx hb dL_partly_264 (by decide) ?_
  refine W.eq (g2 := F0 m 265 ls [.int (2 : Int32), .int (10 : Int32), .int (0 : Int32), .ref (b + 0)]) (congrArg (fun v => F0 m 265 ls (.int v :: [.int (10 : Int32), .int (0 : Int32), .ref (b + 0)])) (show (23 : Int32) / (9 : Int32) = (2 : Int32) by decide)) ?_
  refine lv_iconst (v := (1 : Int32)) hx hb dL_partly_265 (by decide) ?_
  refine lv_iadd hx hb dL_partly_266 ?_
  refine W.eq (g2 := F0 m 267 ls [.int (3 : Int32), .int (10 : Int32), .int (0 : Int32), .ref (b + 0)]) (congrArg (fun v => F0 m 267 ls (.int v :: [.int (10 : Int32), .int (0 : Int32), .ref (b + 0)])) (show (2 : Int32) + (1 : Int32) = (3 : Int32) by decide)) ?_
  refine lv_imul hx hb dL_partly_267 ?_
  refine W.eq (g2 := F0 m 268 ls [.int (30 : Int32), .int (0 : Int32), .ref (b + 0)]) (congrArg (fun v => F0 m 268 ls (.int v :: [.int (0 : Int32), .ref (b + 0)])) (show (10 : Int32) * (3 : Int32) = (30 : Int32) by decide)) ?_
  refine lv_iload_n hx hb dL_partly_268 rfl (lv_at hl 0 rfl) ?_
  refine lv_bipush (v := (10 : Int32)) hx hb dL_partly_269 (by decide) ?_
  refine lv_isub hx hb dL_partly_271 ?_
  refine W.eq (g2 := F0 m 272 ls [.int (23 : Int32), .int (30 : Int32), .int (0 : Int32), .ref (b + 0)]) (congrArg (fun v => F0 m 272 ls (.int v :: [.int (30 : Int32), .int (0 : Int32), .ref (b + 0)])) (show (33 : Int32) - (10 : Int32) = (23 : Int32) by decide)) ?_
  refine lv_bipush (v := (9 : Int32)) hx hb dL_partly_272 (by decide) ?_
  refine lv_irem hx hb dL_partly_274 (by decide) ?_
  refine W.eq (g2 := F0 m 275 ls [.int (5 : Int32), .int (30 : Int32), .int (0 : Int32), .ref (b + 0)]) (congrArg (fun v => F0 m 275 ls (.int v :: [.int (30 : Int32), .int (0 : Int32), .ref (b + 0)])) (show (23 : Int32) - (23 : Int32) / (9 : Int32) * (9 : Int32) = (5 : Int32) by decide)) ?_
  refine lv_iadd hx hb dL_partly_275 ?_
  refine W.eq (g2 := F0 m 276 ls [.int (35 : Int32), .int (0 : Int32), .ref (b + 0)]) (congrArg (fun v => F0 m 276 ls (.int v :: [.int (0 : Int32), .ref (b + 0)])) (show (30 : Int32) + (5 : Int32) = (35 : Int32) by decide)) ?_
  refine lv_iconst (v := (1 : Int32)) hx hb dL_partly_276 (by decide) ?_
  refine lv_iadd hx hb dL_partly_277 ?_
  refine W.eq (g2 := F0 m 278 ls [.int (36 : Int32), .int (0 : Int32), .ref (b + 0)]) (congrArg (fun v => F0 m 278 ls (.int v :: [.int (0 : Int32), .ref (b + 0)])) (show (35 : Int32) + (1 : Int32) = (36 : Int32) by decide)) ?_
  refine lv_iconst (v := (0 : Int32)) hx hb dL_partly_278 (by decide) ?_
  obtain ⟨M1, hc1, h1⟩ := s_mk V96 (0 : Int32) (c := (0 : Int32)) (x := (36 : Int32)) (tks := (0 : Int32)) h (by decide +kernel)
  have hc1 : f_X4_makeCollection M (0 : Int32) (36 : Int32) (0 : Int32) = some (.inr (0 : Int32), M1) := hc1
  refine kL_7R C hml hl.1 (c_X4_makeCollection hlf hc1) ⟨Nat.le_of_ble_eq_true rfl, Nat.le_of_ble_eq_true rfl⟩ ⟨by show _ ≤ 4189; omega, by show _ ≤ 25467; omega⟩ (Nat.le_of_ble_eq_true rfl) hS hW dL_partly_279 (fun H locs hW hS => ?_)
  refine lv_if_eq (tgt := 287) hx hb dL_partly_282 (by decide) (fun _ => ?_) (fun c => absurd (by decide) c)
  exact t_partly_34 C hml hr hlk hlf h1 hS hW (lv_sub hl [0, 1] rfl) ⟨by omega, by omega⟩
set_option maxHeartbeats 4000000 in
set_option maxRecDepth 100000 in
theorem t_partly_32 {p : Program} {l : Launch} {e : Env} {s : State} {m : MethodId} {args : Array Value} {below : List Frame} {meth : Method} {c : Code} {Z : Zt} {b : Nat} (C : Cx p s m args c cL_partly RL Z b) (hml : c.maxLocals = 2) (hr : meth.sig.returnType = some .boolean) (hlk : meth.locks = false) (hlf : l.stackTraces = false) {M : Mem} (h : RS M V94) {H : Heap} {locs : List Loc} {ls : Array Slot} {cells slots : Nat} (hS : va_S (A0 b) s.heap H locs) (hW : Wd Z b M H) (hl : lv_has ls 2 [(1, .int (31 : Int32)), (0, .ref (b + 0))]) (hcs : cells + 2128 ≤ 4189 ∧ slots + 12768 ≤ 25467) : W p l e rm_L_partly s m args below meth c H locs cells slots (MQ below (QT b) args s 4189 25467 (A0 b)) (F0 m 287 ls []) := by
  have hx := C.1
  have hb := C.2.1
  refine lv_iinc (v := (32 : Int32)) (lv' := [(1, .int (32 : Int32)), (0, .ref (b + 0))]) hx hb dL_partly_287 hl (k := 0) rfl (by decide) (by decide) rfl (fun ls hl => ?_)
  refine lv_goto (tgt := 238) hx hb dL_partly_290 (by decide) ?_
  refine lv_iload_n hx hb dL_partly_238 rfl (lv_at hl 0 rfl) ?_
  refine lv_bipush (v := (61 : Int32)) hx hb dL_partly_239 (by decide) ?_
  refine lv_icmp_ge (tgt := 293) hx hb dL_partly_241 (by decide) (fun c => absurd c (by decide)) (fun _ => ?_)
  refine lv_aload_n hx hb dL_partly_244 rfl (lv_at hl 1 rfl) ?_
  refine lv_iconst (v := (0 : Int32)) hx hb dL_partly_245 (by decide) ?_
  refine lv_iload_n hx hb dL_partly_246 rfl (lv_at hl 0 rfl) ?_
  refine lv_bipush (v := (10 : Int32)) hx hb dL_partly_247 (by decide) ?_
  refine lv_icmp_ge (tgt := 256) hx hb dL_partly_249 (by decide) (fun _ => ?_) (fun c => absurd (by decide) c)
  refine lv_bipush (v := (10 : Int32)) hx hb dL_partly_256 (by decide) ?_
  refine lv_iload_n hx hb dL_partly_258 rfl (lv_at hl 0 rfl) ?_
  refine lv_bipush (v := (10 : Int32)) hx hb dL_partly_259 (by decide) ?_
  refine lv_isub hx hb dL_partly_261 ?_
  refine W.eq (g2 := F0 m 262 ls [.int (22 : Int32), .int (10 : Int32), .int (0 : Int32), .ref (b + 0)]) (congrArg (fun v => F0 m 262 ls (.int v :: [.int (10 : Int32), .int (0 : Int32), .ref (b + 0)])) (show (32 : Int32) - (10 : Int32) = (22 : Int32) by decide)) ?_
  refine lv_bipush (v := (9 : Int32)) hx hb dL_partly_262 (by decide) ?_
  refine lv_idiv hx hb dL_partly_264 (by decide) ?_
  refine W.eq (g2 := F0 m 265 ls [.int (2 : Int32), .int (10 : Int32), .int (0 : Int32), .ref (b + 0)]) (congrArg (fun v => F0 m 265 ls (.int v :: [.int (10 : Int32), .int (0 : Int32), .ref (b + 0)])) (show (22 : Int32) / (9 : Int32) = (2 : Int32) by decide)) ?_
  refine lv_iconst (v := (1 : Int32)) hx hb dL_partly_265 (by decide) ?_
  refine lv_iadd hx hb dL_partly_266 ?_
  refine W.eq (g2 := F0 m 267 ls [.int (3 : Int32), .int (10 : Int32), .int (0 : Int32), .ref (b + 0)]) (congrArg (fun v => F0 m 267 ls (.int v :: [.int (10 : Int32), .int (0 : Int32), .ref (b + 0)])) (show (2 : Int32) + (1 : Int32) = (3 : Int32) by decide)) ?_
  refine lv_imul hx hb dL_partly_267 ?_
  refine W.eq (g2 := F0 m 268 ls [.int (30 : Int32), .int (0 : Int32), .ref (b + 0)]) (congrArg (fun v => F0 m 268 ls (.int v :: [.int (0 : Int32), .ref (b + 0)])) (show (10 : Int32) * (3 : Int32) = (30 : Int32) by decide)) ?_
  refine lv_iload_n hx hb dL_partly_268 rfl (lv_at hl 0 rfl) ?_
  refine lv_bipush (v := (10 : Int32)) hx hb dL_partly_269 (by decide) ?_
  refine lv_isub hx hb dL_partly_271 ?_
  refine W.eq (g2 := F0 m 272 ls [.int (22 : Int32), .int (30 : Int32), .int (0 : Int32), .ref (b + 0)]) (congrArg (fun v => F0 m 272 ls (.int v :: [.int (30 : Int32), .int (0 : Int32), .ref (b + 0)])) (show (32 : Int32) - (10 : Int32) = (22 : Int32) by decide)) ?_
  refine lv_bipush (v := (9 : Int32)) hx hb dL_partly_272 (by decide) ?_
  refine lv_irem hx hb dL_partly_274 (by decide) ?_
  refine W.eq (g2 := F0 m 275 ls [.int (4 : Int32), .int (30 : Int32), .int (0 : Int32), .ref (b + 0)]) (congrArg (fun v => F0 m 275 ls (.int v :: [.int (30 : Int32), .int (0 : Int32), .ref (b + 0)])) (show (22 : Int32) - (22 : Int32) / (9 : Int32) * (9 : Int32) = (4 : Int32) by decide)) ?_
  refine lv_iadd hx hb dL_partly_275 ?_
  refine W.eq (g2 := F0 m 276 ls [.int (34 : Int32), .int (0 : Int32), .ref (b + 0)]) (congrArg (fun v => F0 m 276 ls (.int v :: [.int (0 : Int32), .ref (b + 0)])) (show (30 : Int32) + (4 : Int32) = (34 : Int32) by decide)) ?_
  refine lv_iconst (v := (1 : Int32)) hx hb dL_partly_276 (by decide) ?_
  refine lv_iadd hx hb dL_partly_277 ?_
  refine W.eq (g2 := F0 m 278 ls [.int (35 : Int32), .int (0 : Int32), .ref (b + 0)]) (congrArg (fun v => F0 m 278 ls (.int v :: [.int (0 : Int32), .ref (b + 0)])) (show (34 : Int32) + (1 : Int32) = (35 : Int32) by decide)) ?_
  refine lv_iconst (v := (0 : Int32)) hx hb dL_partly_278 (by decide) ?_
  obtain ⟨M1, hc1, h1⟩ := s_mk V95 (0 : Int32) (c := (0 : Int32)) (x := (35 : Int32)) (tks := (0 : Int32)) h (by decide +kernel)
  have hc1 : f_X4_makeCollection M (0 : Int32) (35 : Int32) (0 : Int32) = some (.inr (0 : Int32), M1) := hc1
  refine kL_7R C hml hl.1 (c_X4_makeCollection hlf hc1) ⟨Nat.le_of_ble_eq_true rfl, Nat.le_of_ble_eq_true rfl⟩ ⟨by show _ ≤ 4189; omega, by show _ ≤ 25467; omega⟩ (Nat.le_of_ble_eq_true rfl) hS hW dL_partly_279 (fun H locs hW hS => ?_)
  refine lv_if_eq (tgt := 287) hx hb dL_partly_282 (by decide) (fun _ => ?_) (fun c => absurd (by decide) c)
  exact t_partly_33 C hml hr hlk hlf h1 hS hW (lv_sub hl [0, 1] rfl) ⟨by omega, by omega⟩
set_option maxHeartbeats 4000000 in
set_option maxRecDepth 100000 in
theorem t_partly_31 {p : Program} {l : Launch} {e : Env} {s : State} {m : MethodId} {args : Array Value} {below : List Frame} {meth : Method} {c : Code} {Z : Zt} {b : Nat} (C : Cx p s m args c cL_partly RL Z b) (hml : c.maxLocals = 2) (hr : meth.sig.returnType = some .boolean) (hlk : meth.locks = false) (hlf : l.stackTraces = false) {M : Mem} (h : RS M V93) {H : Heap} {locs : List Loc} {ls : Array Slot} {cells slots : Nat} (hS : va_S (A0 b) s.heap H locs) (hW : Wd Z b M H) (hl : lv_has ls 2 [(1, .int (30 : Int32)), (0, .ref (b + 0))]) (hcs : cells + 2132 ≤ 4189 ∧ slots + 12792 ≤ 25467) : W p l e rm_L_partly s m args below meth c H locs cells slots (MQ below (QT b) args s 4189 25467 (A0 b)) (F0 m 287 ls []) := by
  have hx := C.1
  have hb := C.2.1
  refine lv_iinc (v := (31 : Int32)) (lv' := [(1, .int (31 : Int32)), (0, .ref (b + 0))]) hx hb dL_partly_287 hl (k := 0) rfl (by decide) (by decide) rfl (fun ls hl => ?_)
  refine lv_goto (tgt := 238) hx hb dL_partly_290 (by decide) ?_
  refine lv_iload_n hx hb dL_partly_238 rfl (lv_at hl 0 rfl) ?_
  refine lv_bipush (v := (61 : Int32)) hx hb dL_partly_239 (by decide) ?_
  refine lv_icmp_ge (tgt := 293) hx hb dL_partly_241 (by decide) (fun c => absurd c (by decide)) (fun _ => ?_)
  refine lv_aload_n hx hb dL_partly_244 rfl (lv_at hl 1 rfl) ?_
  refine lv_iconst (v := (0 : Int32)) hx hb dL_partly_245 (by decide) ?_
  refine lv_iload_n hx hb dL_partly_246 rfl (lv_at hl 0 rfl) ?_
  refine lv_bipush (v := (10 : Int32)) hx hb dL_partly_247 (by decide) ?_
  refine lv_icmp_ge (tgt := 256) hx hb dL_partly_249 (by decide) (fun _ => ?_) (fun c => absurd (by decide) c)
  refine lv_bipush (v := (10 : Int32)) hx hb dL_partly_256 (by decide) ?_
  refine lv_iload_n hx hb dL_partly_258 rfl (lv_at hl 0 rfl) ?_
  refine lv_bipush (v := (10 : Int32)) hx hb dL_partly_259 (by decide) ?_
  refine lv_isub hx hb dL_partly_261 ?_
  refine W.eq (g2 := F0 m 262 ls [.int (21 : Int32), .int (10 : Int32), .int (0 : Int32), .ref (b + 0)]) (congrArg (fun v => F0 m 262 ls (.int v :: [.int (10 : Int32), .int (0 : Int32), .ref (b + 0)])) (show (31 : Int32) - (10 : Int32) = (21 : Int32) by decide)) ?_
  refine lv_bipush (v := (9 : Int32)) hx hb dL_partly_262 (by decide) ?_
  refine lv_idiv hx hb dL_partly_264 (by decide) ?_
  refine W.eq (g2 := F0 m 265 ls [.int (2 : Int32), .int (10 : Int32), .int (0 : Int32), .ref (b + 0)]) (congrArg (fun v => F0 m 265 ls (.int v :: [.int (10 : Int32), .int (0 : Int32), .ref (b + 0)])) (show (21 : Int32) / (9 : Int32) = (2 : Int32) by decide)) ?_
  refine lv_iconst (v := (1 : Int32)) hx hb dL_partly_265 (by decide) ?_
  refine lv_iadd hx hb dL_partly_266 ?_
  refine W.eq (g2 := F0 m 267 ls [.int (3 : Int32), .int (10 : Int32), .int (0 : Int32), .ref (b + 0)]) (congrArg (fun v => F0 m 267 ls (.int v :: [.int (10 : Int32), .int (0 : Int32), .ref (b + 0)])) (show (2 : Int32) + (1 : Int32) = (3 : Int32) by decide)) ?_
  refine lv_imul hx hb dL_partly_267 ?_
  refine W.eq (g2 := F0 m 268 ls [.int (30 : Int32), .int (0 : Int32), .ref (b + 0)]) (congrArg (fun v => F0 m 268 ls (.int v :: [.int (0 : Int32), .ref (b + 0)])) (show (10 : Int32) * (3 : Int32) = (30 : Int32) by decide)) ?_
  refine lv_iload_n hx hb dL_partly_268 rfl (lv_at hl 0 rfl) ?_
  refine lv_bipush (v := (10 : Int32)) hx hb dL_partly_269 (by decide) ?_
  refine lv_isub hx hb dL_partly_271 ?_
  refine W.eq (g2 := F0 m 272 ls [.int (21 : Int32), .int (30 : Int32), .int (0 : Int32), .ref (b + 0)]) (congrArg (fun v => F0 m 272 ls (.int v :: [.int (30 : Int32), .int (0 : Int32), .ref (b + 0)])) (show (31 : Int32) - (10 : Int32) = (21 : Int32) by decide)) ?_
  refine lv_bipush (v := (9 : Int32)) hx hb dL_partly_272 (by decide) ?_
  refine lv_irem hx hb dL_partly_274 (by decide) ?_
  refine W.eq (g2 := F0 m 275 ls [.int (3 : Int32), .int (30 : Int32), .int (0 : Int32), .ref (b + 0)]) (congrArg (fun v => F0 m 275 ls (.int v :: [.int (30 : Int32), .int (0 : Int32), .ref (b + 0)])) (show (21 : Int32) - (21 : Int32) / (9 : Int32) * (9 : Int32) = (3 : Int32) by decide)) ?_
  refine lv_iadd hx hb dL_partly_275 ?_
  refine W.eq (g2 := F0 m 276 ls [.int (33 : Int32), .int (0 : Int32), .ref (b + 0)]) (congrArg (fun v => F0 m 276 ls (.int v :: [.int (0 : Int32), .ref (b + 0)])) (show (30 : Int32) + (3 : Int32) = (33 : Int32) by decide)) ?_
  refine lv_iconst (v := (1 : Int32)) hx hb dL_partly_276 (by decide) ?_
  refine lv_iadd hx hb dL_partly_277 ?_
  refine W.eq (g2 := F0 m 278 ls [.int (34 : Int32), .int (0 : Int32), .ref (b + 0)]) (congrArg (fun v => F0 m 278 ls (.int v :: [.int (0 : Int32), .ref (b + 0)])) (show (33 : Int32) + (1 : Int32) = (34 : Int32) by decide)) ?_
  refine lv_iconst (v := (0 : Int32)) hx hb dL_partly_278 (by decide) ?_
  obtain ⟨M1, hc1, h1⟩ := s_mk V94 (0 : Int32) (c := (0 : Int32)) (x := (34 : Int32)) (tks := (0 : Int32)) h (by decide +kernel)
  have hc1 : f_X4_makeCollection M (0 : Int32) (34 : Int32) (0 : Int32) = some (.inr (0 : Int32), M1) := hc1
  refine kL_7R C hml hl.1 (c_X4_makeCollection hlf hc1) ⟨Nat.le_of_ble_eq_true rfl, Nat.le_of_ble_eq_true rfl⟩ ⟨by show _ ≤ 4189; omega, by show _ ≤ 25467; omega⟩ (Nat.le_of_ble_eq_true rfl) hS hW dL_partly_279 (fun H locs hW hS => ?_)
  refine lv_if_eq (tgt := 287) hx hb dL_partly_282 (by decide) (fun _ => ?_) (fun c => absurd (by decide) c)
  exact t_partly_32 C hml hr hlk hlf h1 hS hW (lv_sub hl [0, 1] rfl) ⟨by omega, by omega⟩
set_option maxHeartbeats 4000000 in
set_option maxRecDepth 100000 in
theorem t_partly_30 {p : Program} {l : Launch} {e : Env} {s : State} {m : MethodId} {args : Array Value} {below : List Frame} {meth : Method} {c : Code} {Z : Zt} {b : Nat} (C : Cx p s m args c cL_partly RL Z b) (hml : c.maxLocals = 2) (hr : meth.sig.returnType = some .boolean) (hlk : meth.locks = false) (hlf : l.stackTraces = false) {M : Mem} (h : RS M V92) {H : Heap} {locs : List Loc} {ls : Array Slot} {cells slots : Nat} (hS : va_S (A0 b) s.heap H locs) (hW : Wd Z b M H) (hl : lv_has ls 2 [(1, .int (29 : Int32)), (0, .ref (b + 0))]) (hcs : cells + 2136 ≤ 4189 ∧ slots + 12816 ≤ 25467) : W p l e rm_L_partly s m args below meth c H locs cells slots (MQ below (QT b) args s 4189 25467 (A0 b)) (F0 m 287 ls []) := by
  have hx := C.1
  have hb := C.2.1
  refine lv_iinc (v := (30 : Int32)) (lv' := [(1, .int (30 : Int32)), (0, .ref (b + 0))]) hx hb dL_partly_287 hl (k := 0) rfl (by decide) (by decide) rfl (fun ls hl => ?_)
  refine lv_goto (tgt := 238) hx hb dL_partly_290 (by decide) ?_
  refine lv_iload_n hx hb dL_partly_238 rfl (lv_at hl 0 rfl) ?_
  refine lv_bipush (v := (61 : Int32)) hx hb dL_partly_239 (by decide) ?_
  refine lv_icmp_ge (tgt := 293) hx hb dL_partly_241 (by decide) (fun c => absurd c (by decide)) (fun _ => ?_)
  refine lv_aload_n hx hb dL_partly_244 rfl (lv_at hl 1 rfl) ?_
  refine lv_iconst (v := (0 : Int32)) hx hb dL_partly_245 (by decide) ?_
  refine lv_iload_n hx hb dL_partly_246 rfl (lv_at hl 0 rfl) ?_
  refine lv_bipush (v := (10 : Int32)) hx hb dL_partly_247 (by decide) ?_
  refine lv_icmp_ge (tgt := 256) hx hb dL_partly_249 (by decide) (fun _ => ?_) (fun c => absurd (by decide) c)
  refine lv_bipush (v := (10 : Int32)) hx hb dL_partly_256 (by decide) ?_
  refine lv_iload_n hx hb dL_partly_258 rfl (lv_at hl 0 rfl) ?_
  refine lv_bipush (v := (10 : Int32)) hx hb dL_partly_259 (by decide) ?_
  refine lv_isub hx hb dL_partly_261 ?_
  refine W.eq (g2 := F0 m 262 ls [.int (20 : Int32), .int (10 : Int32), .int (0 : Int32), .ref (b + 0)]) (congrArg (fun v => F0 m 262 ls (.int v :: [.int (10 : Int32), .int (0 : Int32), .ref (b + 0)])) (show (30 : Int32) - (10 : Int32) = (20 : Int32) by decide)) ?_
  refine lv_bipush (v := (9 : Int32)) hx hb dL_partly_262 (by decide) ?_
  refine lv_idiv hx hb dL_partly_264 (by decide) ?_
  refine W.eq (g2 := F0 m 265 ls [.int (2 : Int32), .int (10 : Int32), .int (0 : Int32), .ref (b + 0)]) (congrArg (fun v => F0 m 265 ls (.int v :: [.int (10 : Int32), .int (0 : Int32), .ref (b + 0)])) (show (20 : Int32) / (9 : Int32) = (2 : Int32) by decide)) ?_
  refine lv_iconst (v := (1 : Int32)) hx hb dL_partly_265 (by decide) ?_
  refine lv_iadd hx hb dL_partly_266 ?_
  refine W.eq (g2 := F0 m 267 ls [.int (3 : Int32), .int (10 : Int32), .int (0 : Int32), .ref (b + 0)]) (congrArg (fun v => F0 m 267 ls (.int v :: [.int (10 : Int32), .int (0 : Int32), .ref (b + 0)])) (show (2 : Int32) + (1 : Int32) = (3 : Int32) by decide)) ?_
  refine lv_imul hx hb dL_partly_267 ?_
  refine W.eq (g2 := F0 m 268 ls [.int (30 : Int32), .int (0 : Int32), .ref (b + 0)]) (congrArg (fun v => F0 m 268 ls (.int v :: [.int (0 : Int32), .ref (b + 0)])) (show (10 : Int32) * (3 : Int32) = (30 : Int32) by decide)) ?_
  refine lv_iload_n hx hb dL_partly_268 rfl (lv_at hl 0 rfl) ?_
  refine lv_bipush (v := (10 : Int32)) hx hb dL_partly_269 (by decide) ?_
  refine lv_isub hx hb dL_partly_271 ?_
  refine W.eq (g2 := F0 m 272 ls [.int (20 : Int32), .int (30 : Int32), .int (0 : Int32), .ref (b + 0)]) (congrArg (fun v => F0 m 272 ls (.int v :: [.int (30 : Int32), .int (0 : Int32), .ref (b + 0)])) (show (30 : Int32) - (10 : Int32) = (20 : Int32) by decide)) ?_
  refine lv_bipush (v := (9 : Int32)) hx hb dL_partly_272 (by decide) ?_
  refine lv_irem hx hb dL_partly_274 (by decide) ?_
  refine W.eq (g2 := F0 m 275 ls [.int (2 : Int32), .int (30 : Int32), .int (0 : Int32), .ref (b + 0)]) (congrArg (fun v => F0 m 275 ls (.int v :: [.int (30 : Int32), .int (0 : Int32), .ref (b + 0)])) (show (20 : Int32) - (20 : Int32) / (9 : Int32) * (9 : Int32) = (2 : Int32) by decide)) ?_
  refine lv_iadd hx hb dL_partly_275 ?_
  refine W.eq (g2 := F0 m 276 ls [.int (32 : Int32), .int (0 : Int32), .ref (b + 0)]) (congrArg (fun v => F0 m 276 ls (.int v :: [.int (0 : Int32), .ref (b + 0)])) (show (30 : Int32) + (2 : Int32) = (32 : Int32) by decide)) ?_
  refine lv_iconst (v := (1 : Int32)) hx hb dL_partly_276 (by decide) ?_
  refine lv_iadd hx hb dL_partly_277 ?_
  refine W.eq (g2 := F0 m 278 ls [.int (33 : Int32), .int (0 : Int32), .ref (b + 0)]) (congrArg (fun v => F0 m 278 ls (.int v :: [.int (0 : Int32), .ref (b + 0)])) (show (32 : Int32) + (1 : Int32) = (33 : Int32) by decide)) ?_
  refine lv_iconst (v := (0 : Int32)) hx hb dL_partly_278 (by decide) ?_
  obtain ⟨M1, hc1, h1⟩ := s_mk V93 (0 : Int32) (c := (0 : Int32)) (x := (33 : Int32)) (tks := (0 : Int32)) h (by decide +kernel)
  have hc1 : f_X4_makeCollection M (0 : Int32) (33 : Int32) (0 : Int32) = some (.inr (0 : Int32), M1) := hc1
  refine kL_7R C hml hl.1 (c_X4_makeCollection hlf hc1) ⟨Nat.le_of_ble_eq_true rfl, Nat.le_of_ble_eq_true rfl⟩ ⟨by show _ ≤ 4189; omega, by show _ ≤ 25467; omega⟩ (Nat.le_of_ble_eq_true rfl) hS hW dL_partly_279 (fun H locs hW hS => ?_)
  refine lv_if_eq (tgt := 287) hx hb dL_partly_282 (by decide) (fun _ => ?_) (fun c => absurd (by decide) c)
  exact t_partly_31 C hml hr hlk hlf h1 hS hW (lv_sub hl [0, 1] rfl) ⟨by omega, by omega⟩
set_option maxHeartbeats 4000000 in
set_option maxRecDepth 100000 in
theorem t_partly_29 {p : Program} {l : Launch} {e : Env} {s : State} {m : MethodId} {args : Array Value} {below : List Frame} {meth : Method} {c : Code} {Z : Zt} {b : Nat} (C : Cx p s m args c cL_partly RL Z b) (hml : c.maxLocals = 2) (hr : meth.sig.returnType = some .boolean) (hlk : meth.locks = false) (hlf : l.stackTraces = false) {M : Mem} (h : RS M V91) {H : Heap} {locs : List Loc} {ls : Array Slot} {cells slots : Nat} (hS : va_S (A0 b) s.heap H locs) (hW : Wd Z b M H) (hl : lv_has ls 2 [(1, .int (28 : Int32)), (0, .ref (b + 0))]) (hcs : cells + 2140 ≤ 4189 ∧ slots + 12840 ≤ 25467) : W p l e rm_L_partly s m args below meth c H locs cells slots (MQ below (QT b) args s 4189 25467 (A0 b)) (F0 m 287 ls []) := by
  have hx := C.1
  have hb := C.2.1
  refine lv_iinc (v := (29 : Int32)) (lv' := [(1, .int (29 : Int32)), (0, .ref (b + 0))]) hx hb dL_partly_287 hl (k := 0) rfl (by decide) (by decide) rfl (fun ls hl => ?_)
  refine lv_goto (tgt := 238) hx hb dL_partly_290 (by decide) ?_
  refine lv_iload_n hx hb dL_partly_238 rfl (lv_at hl 0 rfl) ?_
  refine lv_bipush (v := (61 : Int32)) hx hb dL_partly_239 (by decide) ?_
  refine lv_icmp_ge (tgt := 293) hx hb dL_partly_241 (by decide) (fun c => absurd c (by decide)) (fun _ => ?_)
  refine lv_aload_n hx hb dL_partly_244 rfl (lv_at hl 1 rfl) ?_
  refine lv_iconst (v := (0 : Int32)) hx hb dL_partly_245 (by decide) ?_
  refine lv_iload_n hx hb dL_partly_246 rfl (lv_at hl 0 rfl) ?_
  refine lv_bipush (v := (10 : Int32)) hx hb dL_partly_247 (by decide) ?_
  refine lv_icmp_ge (tgt := 256) hx hb dL_partly_249 (by decide) (fun _ => ?_) (fun c => absurd (by decide) c)
  refine lv_bipush (v := (10 : Int32)) hx hb dL_partly_256 (by decide) ?_
  refine lv_iload_n hx hb dL_partly_258 rfl (lv_at hl 0 rfl) ?_
  refine lv_bipush (v := (10 : Int32)) hx hb dL_partly_259 (by decide) ?_
  refine lv_isub hx hb dL_partly_261 ?_
  refine W.eq (g2 := F0 m 262 ls [.int (19 : Int32), .int (10 : Int32), .int (0 : Int32), .ref (b + 0)]) (congrArg (fun v => F0 m 262 ls (.int v :: [.int (10 : Int32), .int (0 : Int32), .ref (b + 0)])) (show (29 : Int32) - (10 : Int32) = (19 : Int32) by decide)) ?_
  refine lv_bipush (v := (9 : Int32)) hx hb dL_partly_262 (by decide) ?_
  refine lv_idiv hx hb dL_partly_264 (by decide) ?_
  refine W.eq (g2 := F0 m 265 ls [.int (2 : Int32), .int (10 : Int32), .int (0 : Int32), .ref (b + 0)]) (congrArg (fun v => F0 m 265 ls (.int v :: [.int (10 : Int32), .int (0 : Int32), .ref (b + 0)])) (show (19 : Int32) / (9 : Int32) = (2 : Int32) by decide)) ?_
  refine lv_iconst (v := (1 : Int32)) hx hb dL_partly_265 (by decide) ?_
  refine lv_iadd hx hb dL_partly_266 ?_
  refine W.eq (g2 := F0 m 267 ls [.int (3 : Int32), .int (10 : Int32), .int (0 : Int32), .ref (b + 0)]) (congrArg (fun v => F0 m 267 ls (.int v :: [.int (10 : Int32), .int (0 : Int32), .ref (b + 0)])) (show (2 : Int32) + (1 : Int32) = (3 : Int32) by decide)) ?_
  refine lv_imul hx hb dL_partly_267 ?_
  refine W.eq (g2 := F0 m 268 ls [.int (30 : Int32), .int (0 : Int32), .ref (b + 0)]) (congrArg (fun v => F0 m 268 ls (.int v :: [.int (0 : Int32), .ref (b + 0)])) (show (10 : Int32) * (3 : Int32) = (30 : Int32) by decide)) ?_
  refine lv_iload_n hx hb dL_partly_268 rfl (lv_at hl 0 rfl) ?_
  refine lv_bipush (v := (10 : Int32)) hx hb dL_partly_269 (by decide) ?_
  refine lv_isub hx hb dL_partly_271 ?_
  refine W.eq (g2 := F0 m 272 ls [.int (19 : Int32), .int (30 : Int32), .int (0 : Int32), .ref (b + 0)]) (congrArg (fun v => F0 m 272 ls (.int v :: [.int (30 : Int32), .int (0 : Int32), .ref (b + 0)])) (show (29 : Int32) - (10 : Int32) = (19 : Int32) by decide)) ?_
  refine lv_bipush (v := (9 : Int32)) hx hb dL_partly_272 (by decide) ?_
  refine lv_irem hx hb dL_partly_274 (by decide) ?_
  refine W.eq (g2 := F0 m 275 ls [.int (1 : Int32), .int (30 : Int32), .int (0 : Int32), .ref (b + 0)]) (congrArg (fun v => F0 m 275 ls (.int v :: [.int (30 : Int32), .int (0 : Int32), .ref (b + 0)])) (show (19 : Int32) - (19 : Int32) / (9 : Int32) * (9 : Int32) = (1 : Int32) by decide)) ?_
  refine lv_iadd hx hb dL_partly_275 ?_
  refine W.eq (g2 := F0 m 276 ls [.int (31 : Int32), .int (0 : Int32), .ref (b + 0)]) (congrArg (fun v => F0 m 276 ls (.int v :: [.int (0 : Int32), .ref (b + 0)])) (show (30 : Int32) + (1 : Int32) = (31 : Int32) by decide)) ?_
  refine lv_iconst (v := (1 : Int32)) hx hb dL_partly_276 (by decide) ?_
  refine lv_iadd hx hb dL_partly_277 ?_
  refine W.eq (g2 := F0 m 278 ls [.int (32 : Int32), .int (0 : Int32), .ref (b + 0)]) (congrArg (fun v => F0 m 278 ls (.int v :: [.int (0 : Int32), .ref (b + 0)])) (show (31 : Int32) + (1 : Int32) = (32 : Int32) by decide)) ?_
  refine lv_iconst (v := (0 : Int32)) hx hb dL_partly_278 (by decide) ?_
  obtain ⟨M1, hc1, h1⟩ := s_mk V92 (0 : Int32) (c := (0 : Int32)) (x := (32 : Int32)) (tks := (0 : Int32)) h (by decide +kernel)
  have hc1 : f_X4_makeCollection M (0 : Int32) (32 : Int32) (0 : Int32) = some (.inr (0 : Int32), M1) := hc1
  refine kL_7R C hml hl.1 (c_X4_makeCollection hlf hc1) ⟨Nat.le_of_ble_eq_true rfl, Nat.le_of_ble_eq_true rfl⟩ ⟨by show _ ≤ 4189; omega, by show _ ≤ 25467; omega⟩ (Nat.le_of_ble_eq_true rfl) hS hW dL_partly_279 (fun H locs hW hS => ?_)
  refine lv_if_eq (tgt := 287) hx hb dL_partly_282 (by decide) (fun _ => ?_) (fun c => absurd (by decide) c)
  exact t_partly_30 C hml hr hlk hlf h1 hS hW (lv_sub hl [0, 1] rfl) ⟨by omega, by omega⟩
set_option maxHeartbeats 4000000 in
set_option maxRecDepth 100000 in
theorem t_partly_28 {p : Program} {l : Launch} {e : Env} {s : State} {m : MethodId} {args : Array Value} {below : List Frame} {meth : Method} {c : Code} {Z : Zt} {b : Nat} (C : Cx p s m args c cL_partly RL Z b) (hml : c.maxLocals = 2) (hr : meth.sig.returnType = some .boolean) (hlk : meth.locks = false) (hlf : l.stackTraces = false) {M : Mem} (h : RS M V90) {H : Heap} {locs : List Loc} {ls : Array Slot} {cells slots : Nat} (hS : va_S (A0 b) s.heap H locs) (hW : Wd Z b M H) (hl : lv_has ls 2 [(1, .int (27 : Int32)), (0, .ref (b + 0))]) (hcs : cells + 2144 ≤ 4189 ∧ slots + 12864 ≤ 25467) : W p l e rm_L_partly s m args below meth c H locs cells slots (MQ below (QT b) args s 4189 25467 (A0 b)) (F0 m 287 ls []) := by
  have hx := C.1
  have hb := C.2.1
  refine lv_iinc (v := (28 : Int32)) (lv' := [(1, .int (28 : Int32)), (0, .ref (b + 0))]) hx hb dL_partly_287 hl (k := 0) rfl (by decide) (by decide) rfl (fun ls hl => ?_)
  refine lv_goto (tgt := 238) hx hb dL_partly_290 (by decide) ?_
  refine lv_iload_n hx hb dL_partly_238 rfl (lv_at hl 0 rfl) ?_
  refine lv_bipush (v := (61 : Int32)) hx hb dL_partly_239 (by decide) ?_
  refine lv_icmp_ge (tgt := 293) hx hb dL_partly_241 (by decide) (fun c => absurd c (by decide)) (fun _ => ?_)
  refine lv_aload_n hx hb dL_partly_244 rfl (lv_at hl 1 rfl) ?_
  refine lv_iconst (v := (0 : Int32)) hx hb dL_partly_245 (by decide) ?_
  refine lv_iload_n hx hb dL_partly_246 rfl (lv_at hl 0 rfl) ?_
  refine lv_bipush (v := (10 : Int32)) hx hb dL_partly_247 (by decide) ?_
  refine lv_icmp_ge (tgt := 256) hx hb dL_partly_249 (by decide) (fun _ => ?_) (fun c => absurd (by decide) c)
  refine lv_bipush (v := (10 : Int32)) hx hb dL_partly_256 (by decide) ?_
  refine lv_iload_n hx hb dL_partly_258 rfl (lv_at hl 0 rfl) ?_
  refine lv_bipush (v := (10 : Int32)) hx hb dL_partly_259 (by decide) ?_
  refine lv_isub hx hb dL_partly_261 ?_
  refine W.eq (g2 := F0 m 262 ls [.int (18 : Int32), .int (10 : Int32), .int (0 : Int32), .ref (b + 0)]) (congrArg (fun v => F0 m 262 ls (.int v :: [.int (10 : Int32), .int (0 : Int32), .ref (b + 0)])) (show (28 : Int32) - (10 : Int32) = (18 : Int32) by decide)) ?_
  refine lv_bipush (v := (9 : Int32)) hx hb dL_partly_262 (by decide) ?_
  refine lv_idiv hx hb dL_partly_264 (by decide) ?_
  refine W.eq (g2 := F0 m 265 ls [.int (2 : Int32), .int (10 : Int32), .int (0 : Int32), .ref (b + 0)]) (congrArg (fun v => F0 m 265 ls (.int v :: [.int (10 : Int32), .int (0 : Int32), .ref (b + 0)])) (show (18 : Int32) / (9 : Int32) = (2 : Int32) by decide)) ?_
  refine lv_iconst (v := (1 : Int32)) hx hb dL_partly_265 (by decide) ?_
  refine lv_iadd hx hb dL_partly_266 ?_
  refine W.eq (g2 := F0 m 267 ls [.int (3 : Int32), .int (10 : Int32), .int (0 : Int32), .ref (b + 0)]) (congrArg (fun v => F0 m 267 ls (.int v :: [.int (10 : Int32), .int (0 : Int32), .ref (b + 0)])) (show (2 : Int32) + (1 : Int32) = (3 : Int32) by decide)) ?_
  refine lv_imul hx hb dL_partly_267 ?_
  refine W.eq (g2 := F0 m 268 ls [.int (30 : Int32), .int (0 : Int32), .ref (b + 0)]) (congrArg (fun v => F0 m 268 ls (.int v :: [.int (0 : Int32), .ref (b + 0)])) (show (10 : Int32) * (3 : Int32) = (30 : Int32) by decide)) ?_
  refine lv_iload_n hx hb dL_partly_268 rfl (lv_at hl 0 rfl) ?_
  refine lv_bipush (v := (10 : Int32)) hx hb dL_partly_269 (by decide) ?_
  refine lv_isub hx hb dL_partly_271 ?_
  refine W.eq (g2 := F0 m 272 ls [.int (18 : Int32), .int (30 : Int32), .int (0 : Int32), .ref (b + 0)]) (congrArg (fun v => F0 m 272 ls (.int v :: [.int (30 : Int32), .int (0 : Int32), .ref (b + 0)])) (show (28 : Int32) - (10 : Int32) = (18 : Int32) by decide)) ?_
  refine lv_bipush (v := (9 : Int32)) hx hb dL_partly_272 (by decide) ?_
  refine lv_irem hx hb dL_partly_274 (by decide) ?_
  refine W.eq (g2 := F0 m 275 ls [.int (0 : Int32), .int (30 : Int32), .int (0 : Int32), .ref (b + 0)]) (congrArg (fun v => F0 m 275 ls (.int v :: [.int (30 : Int32), .int (0 : Int32), .ref (b + 0)])) (show (18 : Int32) - (18 : Int32) / (9 : Int32) * (9 : Int32) = (0 : Int32) by decide)) ?_
  refine lv_iadd hx hb dL_partly_275 ?_
  refine W.eq (g2 := F0 m 276 ls [.int (30 : Int32), .int (0 : Int32), .ref (b + 0)]) (congrArg (fun v => F0 m 276 ls (.int v :: [.int (0 : Int32), .ref (b + 0)])) (show (30 : Int32) + (0 : Int32) = (30 : Int32) by decide)) ?_
  refine lv_iconst (v := (1 : Int32)) hx hb dL_partly_276 (by decide) ?_
  refine lv_iadd hx hb dL_partly_277 ?_
  refine W.eq (g2 := F0 m 278 ls [.int (31 : Int32), .int (0 : Int32), .ref (b + 0)]) (congrArg (fun v => F0 m 278 ls (.int v :: [.int (0 : Int32), .ref (b + 0)])) (show (30 : Int32) + (1 : Int32) = (31 : Int32) by decide)) ?_
  refine lv_iconst (v := (0 : Int32)) hx hb dL_partly_278 (by decide) ?_
  obtain ⟨M1, hc1, h1⟩ := s_mk V91 (0 : Int32) (c := (0 : Int32)) (x := (31 : Int32)) (tks := (0 : Int32)) h (by decide +kernel)
  have hc1 : f_X4_makeCollection M (0 : Int32) (31 : Int32) (0 : Int32) = some (.inr (0 : Int32), M1) := hc1
  refine kL_7R C hml hl.1 (c_X4_makeCollection hlf hc1) ⟨Nat.le_of_ble_eq_true rfl, Nat.le_of_ble_eq_true rfl⟩ ⟨by show _ ≤ 4189; omega, by show _ ≤ 25467; omega⟩ (Nat.le_of_ble_eq_true rfl) hS hW dL_partly_279 (fun H locs hW hS => ?_)
  refine lv_if_eq (tgt := 287) hx hb dL_partly_282 (by decide) (fun _ => ?_) (fun c => absurd (by decide) c)
  exact t_partly_29 C hml hr hlk hlf h1 hS hW (lv_sub hl [0, 1] rfl) ⟨by omega, by omega⟩
set_option maxHeartbeats 4000000 in
set_option maxRecDepth 100000 in
theorem t_partly_27 {p : Program} {l : Launch} {e : Env} {s : State} {m : MethodId} {args : Array Value} {below : List Frame} {meth : Method} {c : Code} {Z : Zt} {b : Nat} (C : Cx p s m args c cL_partly RL Z b) (hml : c.maxLocals = 2) (hr : meth.sig.returnType = some .boolean) (hlk : meth.locks = false) (hlf : l.stackTraces = false) {M : Mem} (h : RS M V89) {H : Heap} {locs : List Loc} {ls : Array Slot} {cells slots : Nat} (hS : va_S (A0 b) s.heap H locs) (hW : Wd Z b M H) (hl : lv_has ls 2 [(1, .int (26 : Int32)), (0, .ref (b + 0))]) (hcs : cells + 2148 ≤ 4189 ∧ slots + 12888 ≤ 25467) : W p l e rm_L_partly s m args below meth c H locs cells slots (MQ below (QT b) args s 4189 25467 (A0 b)) (F0 m 287 ls []) := by
  have hx := C.1
  have hb := C.2.1
  refine lv_iinc (v := (27 : Int32)) (lv' := [(1, .int (27 : Int32)), (0, .ref (b + 0))]) hx hb dL_partly_287 hl (k := 0) rfl (by decide) (by decide) rfl (fun ls hl => ?_)
  refine lv_goto (tgt := 238) hx hb dL_partly_290 (by decide) ?_
  refine lv_iload_n hx hb dL_partly_238 rfl (lv_at hl 0 rfl) ?_
  refine lv_bipush (v := (61 : Int32)) hx hb dL_partly_239 (by decide) ?_
  refine lv_icmp_ge (tgt := 293) hx hb dL_partly_241 (by decide) (fun c => absurd c (by decide)) (fun _ => ?_)
  refine lv_aload_n hx hb dL_partly_244 rfl (lv_at hl 1 rfl) ?_
  refine lv_iconst (v := (0 : Int32)) hx hb dL_partly_245 (by decide) ?_
  refine lv_iload_n hx hb dL_partly_246 rfl (lv_at hl 0 rfl) ?_
  refine lv_bipush (v := (10 : Int32)) hx hb dL_partly_247 (by decide) ?_
  refine lv_icmp_ge (tgt := 256) hx hb dL_partly_249 (by decide) (fun _ => ?_) (fun c => absurd (by decide) c)
  refine lv_bipush (v := (10 : Int32)) hx hb dL_partly_256 (by decide) ?_
  refine lv_iload_n hx hb dL_partly_258 rfl (lv_at hl 0 rfl) ?_
  refine lv_bipush (v := (10 : Int32)) hx hb dL_partly_259 (by decide) ?_
  refine lv_isub hx hb dL_partly_261 ?_
  refine W.eq (g2 := F0 m 262 ls [.int (17 : Int32), .int (10 : Int32), .int (0 : Int32), .ref (b + 0)]) (congrArg (fun v => F0 m 262 ls (.int v :: [.int (10 : Int32), .int (0 : Int32), .ref (b + 0)])) (show (27 : Int32) - (10 : Int32) = (17 : Int32) by decide)) ?_
  refine lv_bipush (v := (9 : Int32)) hx hb dL_partly_262 (by decide) ?_
  refine lv_idiv hx hb dL_partly_264 (by decide) ?_
  refine W.eq (g2 := F0 m 265 ls [.int (1 : Int32), .int (10 : Int32), .int (0 : Int32), .ref (b + 0)]) (congrArg (fun v => F0 m 265 ls (.int v :: [.int (10 : Int32), .int (0 : Int32), .ref (b + 0)])) (show (17 : Int32) / (9 : Int32) = (1 : Int32) by decide)) ?_
  refine lv_iconst (v := (1 : Int32)) hx hb dL_partly_265 (by decide) ?_
  refine lv_iadd hx hb dL_partly_266 ?_
  refine W.eq (g2 := F0 m 267 ls [.int (2 : Int32), .int (10 : Int32), .int (0 : Int32), .ref (b + 0)]) (congrArg (fun v => F0 m 267 ls (.int v :: [.int (10 : Int32), .int (0 : Int32), .ref (b + 0)])) (show (1 : Int32) + (1 : Int32) = (2 : Int32) by decide)) ?_
  refine lv_imul hx hb dL_partly_267 ?_
  refine W.eq (g2 := F0 m 268 ls [.int (20 : Int32), .int (0 : Int32), .ref (b + 0)]) (congrArg (fun v => F0 m 268 ls (.int v :: [.int (0 : Int32), .ref (b + 0)])) (show (10 : Int32) * (2 : Int32) = (20 : Int32) by decide)) ?_
  refine lv_iload_n hx hb dL_partly_268 rfl (lv_at hl 0 rfl) ?_
  refine lv_bipush (v := (10 : Int32)) hx hb dL_partly_269 (by decide) ?_
  refine lv_isub hx hb dL_partly_271 ?_
  refine W.eq (g2 := F0 m 272 ls [.int (17 : Int32), .int (20 : Int32), .int (0 : Int32), .ref (b + 0)]) (congrArg (fun v => F0 m 272 ls (.int v :: [.int (20 : Int32), .int (0 : Int32), .ref (b + 0)])) (show (27 : Int32) - (10 : Int32) = (17 : Int32) by decide)) ?_
  refine lv_bipush (v := (9 : Int32)) hx hb dL_partly_272 (by decide) ?_
  refine lv_irem hx hb dL_partly_274 (by decide) ?_
  refine W.eq (g2 := F0 m 275 ls [.int (8 : Int32), .int (20 : Int32), .int (0 : Int32), .ref (b + 0)]) (congrArg (fun v => F0 m 275 ls (.int v :: [.int (20 : Int32), .int (0 : Int32), .ref (b + 0)])) (show (17 : Int32) - (17 : Int32) / (9 : Int32) * (9 : Int32) = (8 : Int32) by decide)) ?_
  refine lv_iadd hx hb dL_partly_275 ?_
  refine W.eq (g2 := F0 m 276 ls [.int (28 : Int32), .int (0 : Int32), .ref (b + 0)]) (congrArg (fun v => F0 m 276 ls (.int v :: [.int (0 : Int32), .ref (b + 0)])) (show (20 : Int32) + (8 : Int32) = (28 : Int32) by decide)) ?_
  refine lv_iconst (v := (1 : Int32)) hx hb dL_partly_276 (by decide) ?_
  refine lv_iadd hx hb dL_partly_277 ?_
  refine W.eq (g2 := F0 m 278 ls [.int (29 : Int32), .int (0 : Int32), .ref (b + 0)]) (congrArg (fun v => F0 m 278 ls (.int v :: [.int (0 : Int32), .ref (b + 0)])) (show (28 : Int32) + (1 : Int32) = (29 : Int32) by decide)) ?_
  refine lv_iconst (v := (0 : Int32)) hx hb dL_partly_278 (by decide) ?_
  obtain ⟨M1, hc1, h1⟩ := s_mk V90 (0 : Int32) (c := (0 : Int32)) (x := (29 : Int32)) (tks := (0 : Int32)) h (by decide +kernel)
  have hc1 : f_X4_makeCollection M (0 : Int32) (29 : Int32) (0 : Int32) = some (.inr (0 : Int32), M1) := hc1
  refine kL_7R C hml hl.1 (c_X4_makeCollection hlf hc1) ⟨Nat.le_of_ble_eq_true rfl, Nat.le_of_ble_eq_true rfl⟩ ⟨by show _ ≤ 4189; omega, by show _ ≤ 25467; omega⟩ (Nat.le_of_ble_eq_true rfl) hS hW dL_partly_279 (fun H locs hW hS => ?_)
  refine lv_if_eq (tgt := 287) hx hb dL_partly_282 (by decide) (fun _ => ?_) (fun c => absurd (by decide) c)
  exact t_partly_28 C hml hr hlk hlf h1 hS hW (lv_sub hl [0, 1] rfl) ⟨by omega, by omega⟩
set_option maxHeartbeats 4000000 in
set_option maxRecDepth 100000 in
theorem t_partly_26 {p : Program} {l : Launch} {e : Env} {s : State} {m : MethodId} {args : Array Value} {below : List Frame} {meth : Method} {c : Code} {Z : Zt} {b : Nat} (C : Cx p s m args c cL_partly RL Z b) (hml : c.maxLocals = 2) (hr : meth.sig.returnType = some .boolean) (hlk : meth.locks = false) (hlf : l.stackTraces = false) {M : Mem} (h : RS M V88) {H : Heap} {locs : List Loc} {ls : Array Slot} {cells slots : Nat} (hS : va_S (A0 b) s.heap H locs) (hW : Wd Z b M H) (hl : lv_has ls 2 [(1, .int (25 : Int32)), (0, .ref (b + 0))]) (hcs : cells + 2152 ≤ 4189 ∧ slots + 12912 ≤ 25467) : W p l e rm_L_partly s m args below meth c H locs cells slots (MQ below (QT b) args s 4189 25467 (A0 b)) (F0 m 287 ls []) := by
  have hx := C.1
  have hb := C.2.1
  refine lv_iinc (v := (26 : Int32)) (lv' := [(1, .int (26 : Int32)), (0, .ref (b + 0))]) hx hb dL_partly_287 hl (k := 0) rfl (by decide) (by decide) rfl (fun ls hl => ?_)
  refine lv_goto (tgt := 238) hx hb dL_partly_290 (by decide) ?_
  refine lv_iload_n hx hb dL_partly_238 rfl (lv_at hl 0 rfl) ?_
  refine lv_bipush (v := (61 : Int32)) hx hb dL_partly_239 (by decide) ?_
  refine lv_icmp_ge (tgt := 293) hx hb dL_partly_241 (by decide) (fun c => absurd c (by decide)) (fun _ => ?_)
  refine lv_aload_n hx hb dL_partly_244 rfl (lv_at hl 1 rfl) ?_
  refine lv_iconst (v := (0 : Int32)) hx hb dL_partly_245 (by decide) ?_
  refine lv_iload_n hx hb dL_partly_246 rfl (lv_at hl 0 rfl) ?_
  refine lv_bipush (v := (10 : Int32)) hx hb dL_partly_247 (by decide) ?_
  refine lv_icmp_ge (tgt := 256) hx hb dL_partly_249 (by decide) (fun _ => ?_) (fun c => absurd (by decide) c)
  refine lv_bipush (v := (10 : Int32)) hx hb dL_partly_256 (by decide) ?_
  refine lv_iload_n hx hb dL_partly_258 rfl (lv_at hl 0 rfl) ?_
  refine lv_bipush (v := (10 : Int32)) hx hb dL_partly_259 (by decide) ?_
  refine lv_isub hx hb dL_partly_261 ?_
  refine W.eq (g2 := F0 m 262 ls [.int (16 : Int32), .int (10 : Int32), .int (0 : Int32), .ref (b + 0)]) (congrArg (fun v => F0 m 262 ls (.int v :: [.int (10 : Int32), .int (0 : Int32), .ref (b + 0)])) (show (26 : Int32) - (10 : Int32) = (16 : Int32) by decide)) ?_
  refine lv_bipush (v := (9 : Int32)) hx hb dL_partly_262 (by decide) ?_
  refine lv_idiv hx hb dL_partly_264 (by decide) ?_
  refine W.eq (g2 := F0 m 265 ls [.int (1 : Int32), .int (10 : Int32), .int (0 : Int32), .ref (b + 0)]) (congrArg (fun v => F0 m 265 ls (.int v :: [.int (10 : Int32), .int (0 : Int32), .ref (b + 0)])) (show (16 : Int32) / (9 : Int32) = (1 : Int32) by decide)) ?_
  refine lv_iconst (v := (1 : Int32)) hx hb dL_partly_265 (by decide) ?_
  refine lv_iadd hx hb dL_partly_266 ?_
  refine W.eq (g2 := F0 m 267 ls [.int (2 : Int32), .int (10 : Int32), .int (0 : Int32), .ref (b + 0)]) (congrArg (fun v => F0 m 267 ls (.int v :: [.int (10 : Int32), .int (0 : Int32), .ref (b + 0)])) (show (1 : Int32) + (1 : Int32) = (2 : Int32) by decide)) ?_
  refine lv_imul hx hb dL_partly_267 ?_
  refine W.eq (g2 := F0 m 268 ls [.int (20 : Int32), .int (0 : Int32), .ref (b + 0)]) (congrArg (fun v => F0 m 268 ls (.int v :: [.int (0 : Int32), .ref (b + 0)])) (show (10 : Int32) * (2 : Int32) = (20 : Int32) by decide)) ?_
  refine lv_iload_n hx hb dL_partly_268 rfl (lv_at hl 0 rfl) ?_
  refine lv_bipush (v := (10 : Int32)) hx hb dL_partly_269 (by decide) ?_
  refine lv_isub hx hb dL_partly_271 ?_
  refine W.eq (g2 := F0 m 272 ls [.int (16 : Int32), .int (20 : Int32), .int (0 : Int32), .ref (b + 0)]) (congrArg (fun v => F0 m 272 ls (.int v :: [.int (20 : Int32), .int (0 : Int32), .ref (b + 0)])) (show (26 : Int32) - (10 : Int32) = (16 : Int32) by decide)) ?_
  refine lv_bipush (v := (9 : Int32)) hx hb dL_partly_272 (by decide) ?_
  refine lv_irem hx hb dL_partly_274 (by decide) ?_
  refine W.eq (g2 := F0 m 275 ls [.int (7 : Int32), .int (20 : Int32), .int (0 : Int32), .ref (b + 0)]) (congrArg (fun v => F0 m 275 ls (.int v :: [.int (20 : Int32), .int (0 : Int32), .ref (b + 0)])) (show (16 : Int32) - (16 : Int32) / (9 : Int32) * (9 : Int32) = (7 : Int32) by decide)) ?_
  refine lv_iadd hx hb dL_partly_275 ?_
  refine W.eq (g2 := F0 m 276 ls [.int (27 : Int32), .int (0 : Int32), .ref (b + 0)]) (congrArg (fun v => F0 m 276 ls (.int v :: [.int (0 : Int32), .ref (b + 0)])) (show (20 : Int32) + (7 : Int32) = (27 : Int32) by decide)) ?_
  refine lv_iconst (v := (1 : Int32)) hx hb dL_partly_276 (by decide) ?_
  refine lv_iadd hx hb dL_partly_277 ?_
  refine W.eq (g2 := F0 m 278 ls [.int (28 : Int32), .int (0 : Int32), .ref (b + 0)]) (congrArg (fun v => F0 m 278 ls (.int v :: [.int (0 : Int32), .ref (b + 0)])) (show (27 : Int32) + (1 : Int32) = (28 : Int32) by decide)) ?_
  refine lv_iconst (v := (0 : Int32)) hx hb dL_partly_278 (by decide) ?_
  obtain ⟨M1, hc1, h1⟩ := s_mk V89 (0 : Int32) (c := (0 : Int32)) (x := (28 : Int32)) (tks := (0 : Int32)) h (by decide +kernel)
  have hc1 : f_X4_makeCollection M (0 : Int32) (28 : Int32) (0 : Int32) = some (.inr (0 : Int32), M1) := hc1
  refine kL_7R C hml hl.1 (c_X4_makeCollection hlf hc1) ⟨Nat.le_of_ble_eq_true rfl, Nat.le_of_ble_eq_true rfl⟩ ⟨by show _ ≤ 4189; omega, by show _ ≤ 25467; omega⟩ (Nat.le_of_ble_eq_true rfl) hS hW dL_partly_279 (fun H locs hW hS => ?_)
  refine lv_if_eq (tgt := 287) hx hb dL_partly_282 (by decide) (fun _ => ?_) (fun c => absurd (by decide) c)
  exact t_partly_27 C hml hr hlk hlf h1 hS hW (lv_sub hl [0, 1] rfl) ⟨by omega, by omega⟩
set_option maxHeartbeats 4000000 in
set_option maxRecDepth 100000 in
theorem t_partly_25 {p : Program} {l : Launch} {e : Env} {s : State} {m : MethodId} {args : Array Value} {below : List Frame} {meth : Method} {c : Code} {Z : Zt} {b : Nat} (C : Cx p s m args c cL_partly RL Z b) (hml : c.maxLocals = 2) (hr : meth.sig.returnType = some .boolean) (hlk : meth.locks = false) (hlf : l.stackTraces = false) {M : Mem} (h : RS M V87) {H : Heap} {locs : List Loc} {ls : Array Slot} {cells slots : Nat} (hS : va_S (A0 b) s.heap H locs) (hW : Wd Z b M H) (hl : lv_has ls 2 [(1, .int (24 : Int32)), (0, .ref (b + 0))]) (hcs : cells + 2156 ≤ 4189 ∧ slots + 12936 ≤ 25467) : W p l e rm_L_partly s m args below meth c H locs cells slots (MQ below (QT b) args s 4189 25467 (A0 b)) (F0 m 287 ls []) := by
  have hx := C.1
  have hb := C.2.1
  refine lv_iinc (v := (25 : Int32)) (lv' := [(1, .int (25 : Int32)), (0, .ref (b + 0))]) hx hb dL_partly_287 hl (k := 0) rfl (by decide) (by decide) rfl (fun ls hl => ?_)
  refine lv_goto (tgt := 238) hx hb dL_partly_290 (by decide) ?_
  refine lv_iload_n hx hb dL_partly_238 rfl (lv_at hl 0 rfl) ?_
  refine lv_bipush (v := (61 : Int32)) hx hb dL_partly_239 (by decide) ?_
  refine lv_icmp_ge (tgt := 293) hx hb dL_partly_241 (by decide) (fun c => absurd c (by decide)) (fun _ => ?_)
  refine lv_aload_n hx hb dL_partly_244 rfl (lv_at hl 1 rfl) ?_
  refine lv_iconst (v := (0 : Int32)) hx hb dL_partly_245 (by decide) ?_
  refine lv_iload_n hx hb dL_partly_246 rfl (lv_at hl 0 rfl) ?_
  refine lv_bipush (v := (10 : Int32)) hx hb dL_partly_247 (by decide) ?_
  refine lv_icmp_ge (tgt := 256) hx hb dL_partly_249 (by decide) (fun _ => ?_) (fun c => absurd (by decide) c)
  refine lv_bipush (v := (10 : Int32)) hx hb dL_partly_256 (by decide) ?_
  refine lv_iload_n hx hb dL_partly_258 rfl (lv_at hl 0 rfl) ?_
  refine lv_bipush (v := (10 : Int32)) hx hb dL_partly_259 (by decide) ?_
  refine lv_isub hx hb dL_partly_261 ?_
  refine W.eq (g2 := F0 m 262 ls [.int (15 : Int32), .int (10 : Int32), .int (0 : Int32), .ref (b + 0)]) (congrArg (fun v => F0 m 262 ls (.int v :: [.int (10 : Int32), .int (0 : Int32), .ref (b + 0)])) (show (25 : Int32) - (10 : Int32) = (15 : Int32) by decide)) ?_
  refine lv_bipush (v := (9 : Int32)) hx hb dL_partly_262 (by decide) ?_
  refine lv_idiv hx hb dL_partly_264 (by decide) ?_
  refine W.eq (g2 := F0 m 265 ls [.int (1 : Int32), .int (10 : Int32), .int (0 : Int32), .ref (b + 0)]) (congrArg (fun v => F0 m 265 ls (.int v :: [.int (10 : Int32), .int (0 : Int32), .ref (b + 0)])) (show (15 : Int32) / (9 : Int32) = (1 : Int32) by decide)) ?_
  refine lv_iconst (v := (1 : Int32)) hx hb dL_partly_265 (by decide) ?_
  refine lv_iadd hx hb dL_partly_266 ?_
  refine W.eq (g2 := F0 m 267 ls [.int (2 : Int32), .int (10 : Int32), .int (0 : Int32), .ref (b + 0)]) (congrArg (fun v => F0 m 267 ls (.int v :: [.int (10 : Int32), .int (0 : Int32), .ref (b + 0)])) (show (1 : Int32) + (1 : Int32) = (2 : Int32) by decide)) ?_
  refine lv_imul hx hb dL_partly_267 ?_
  refine W.eq (g2 := F0 m 268 ls [.int (20 : Int32), .int (0 : Int32), .ref (b + 0)]) (congrArg (fun v => F0 m 268 ls (.int v :: [.int (0 : Int32), .ref (b + 0)])) (show (10 : Int32) * (2 : Int32) = (20 : Int32) by decide)) ?_
  refine lv_iload_n hx hb dL_partly_268 rfl (lv_at hl 0 rfl) ?_
  refine lv_bipush (v := (10 : Int32)) hx hb dL_partly_269 (by decide) ?_
  refine lv_isub hx hb dL_partly_271 ?_
  refine W.eq (g2 := F0 m 272 ls [.int (15 : Int32), .int (20 : Int32), .int (0 : Int32), .ref (b + 0)]) (congrArg (fun v => F0 m 272 ls (.int v :: [.int (20 : Int32), .int (0 : Int32), .ref (b + 0)])) (show (25 : Int32) - (10 : Int32) = (15 : Int32) by decide)) ?_
  refine lv_bipush (v := (9 : Int32)) hx hb dL_partly_272 (by decide) ?_
  refine lv_irem hx hb dL_partly_274 (by decide) ?_
  refine W.eq (g2 := F0 m 275 ls [.int (6 : Int32), .int (20 : Int32), .int (0 : Int32), .ref (b + 0)]) (congrArg (fun v => F0 m 275 ls (.int v :: [.int (20 : Int32), .int (0 : Int32), .ref (b + 0)])) (show (15 : Int32) - (15 : Int32) / (9 : Int32) * (9 : Int32) = (6 : Int32) by decide)) ?_
  refine lv_iadd hx hb dL_partly_275 ?_
  refine W.eq (g2 := F0 m 276 ls [.int (26 : Int32), .int (0 : Int32), .ref (b + 0)]) (congrArg (fun v => F0 m 276 ls (.int v :: [.int (0 : Int32), .ref (b + 0)])) (show (20 : Int32) + (6 : Int32) = (26 : Int32) by decide)) ?_
  refine lv_iconst (v := (1 : Int32)) hx hb dL_partly_276 (by decide) ?_
  refine lv_iadd hx hb dL_partly_277 ?_
  refine W.eq (g2 := F0 m 278 ls [.int (27 : Int32), .int (0 : Int32), .ref (b + 0)]) (congrArg (fun v => F0 m 278 ls (.int v :: [.int (0 : Int32), .ref (b + 0)])) (show (26 : Int32) + (1 : Int32) = (27 : Int32) by decide)) ?_
  refine lv_iconst (v := (0 : Int32)) hx hb dL_partly_278 (by decide) ?_
  obtain ⟨M1, hc1, h1⟩ := s_mk V88 (0 : Int32) (c := (0 : Int32)) (x := (27 : Int32)) (tks := (0 : Int32)) h (by decide +kernel)
  have hc1 : f_X4_makeCollection M (0 : Int32) (27 : Int32) (0 : Int32) = some (.inr (0 : Int32), M1) := hc1
  refine kL_7R C hml hl.1 (c_X4_makeCollection hlf hc1) ⟨Nat.le_of_ble_eq_true rfl, Nat.le_of_ble_eq_true rfl⟩ ⟨by show _ ≤ 4189; omega, by show _ ≤ 25467; omega⟩ (Nat.le_of_ble_eq_true rfl) hS hW dL_partly_279 (fun H locs hW hS => ?_)
  refine lv_if_eq (tgt := 287) hx hb dL_partly_282 (by decide) (fun _ => ?_) (fun c => absurd (by decide) c)
  exact t_partly_26 C hml hr hlk hlf h1 hS hW (lv_sub hl [0, 1] rfl) ⟨by omega, by omega⟩
set_option maxHeartbeats 4000000 in
set_option maxRecDepth 100000 in
theorem t_partly_24 {p : Program} {l : Launch} {e : Env} {s : State} {m : MethodId} {args : Array Value} {below : List Frame} {meth : Method} {c : Code} {Z : Zt} {b : Nat} (C : Cx p s m args c cL_partly RL Z b) (hml : c.maxLocals = 2) (hr : meth.sig.returnType = some .boolean) (hlk : meth.locks = false) (hlf : l.stackTraces = false) {M : Mem} (h : RS M V86) {H : Heap} {locs : List Loc} {ls : Array Slot} {cells slots : Nat} (hS : va_S (A0 b) s.heap H locs) (hW : Wd Z b M H) (hl : lv_has ls 2 [(1, .int (23 : Int32)), (0, .ref (b + 0))]) (hcs : cells + 2160 ≤ 4189 ∧ slots + 12960 ≤ 25467) : W p l e rm_L_partly s m args below meth c H locs cells slots (MQ below (QT b) args s 4189 25467 (A0 b)) (F0 m 287 ls []) := by
  have hx := C.1
  have hb := C.2.1
  refine lv_iinc (v := (24 : Int32)) (lv' := [(1, .int (24 : Int32)), (0, .ref (b + 0))]) hx hb dL_partly_287 hl (k := 0) rfl (by decide) (by decide) rfl (fun ls hl => ?_)
  refine lv_goto (tgt := 238) hx hb dL_partly_290 (by decide) ?_
  refine lv_iload_n hx hb dL_partly_238 rfl (lv_at hl 0 rfl) ?_
  refine lv_bipush (v := (61 : Int32)) hx hb dL_partly_239 (by decide) ?_
  refine lv_icmp_ge (tgt := 293) hx hb dL_partly_241 (by decide) (fun c => absurd c (by decide)) (fun _ => ?_)
  refine lv_aload_n hx hb dL_partly_244 rfl (lv_at hl 1 rfl) ?_
  refine lv_iconst (v := (0 : Int32)) hx hb dL_partly_245 (by decide) ?_
  refine lv_iload_n hx hb dL_partly_246 rfl (lv_at hl 0 rfl) ?_
  refine lv_bipush (v := (10 : Int32)) hx hb dL_partly_247 (by decide) ?_
  refine lv_icmp_ge (tgt := 256) hx hb dL_partly_249 (by decide) (fun _ => ?_) (fun c => absurd (by decide) c)
  refine lv_bipush (v := (10 : Int32)) hx hb dL_partly_256 (by decide) ?_
  refine lv_iload_n hx hb dL_partly_258 rfl (lv_at hl 0 rfl) ?_
  refine lv_bipush (v := (10 : Int32)) hx hb dL_partly_259 (by decide) ?_
  refine lv_isub hx hb dL_partly_261 ?_
  refine W.eq (g2 := F0 m 262 ls [.int (14 : Int32), .int (10 : Int32), .int (0 : Int32), .ref (b + 0)]) (congrArg (fun v => F0 m 262 ls (.int v :: [.int (10 : Int32), .int (0 : Int32), .ref (b + 0)])) (show (24 : Int32) - (10 : Int32) = (14 : Int32) by decide)) ?_
  refine lv_bipush (v := (9 : Int32)) hx hb dL_partly_262 (by decide) ?_
  refine lv_idiv hx hb dL_partly_264 (by decide) ?_
  refine W.eq (g2 := F0 m 265 ls [.int (1 : Int32), .int (10 : Int32), .int (0 : Int32), .ref (b + 0)]) (congrArg (fun v => F0 m 265 ls (.int v :: [.int (10 : Int32), .int (0 : Int32), .ref (b + 0)])) (show (14 : Int32) / (9 : Int32) = (1 : Int32) by decide)) ?_
  refine lv_iconst (v := (1 : Int32)) hx hb dL_partly_265 (by decide) ?_
  refine lv_iadd hx hb dL_partly_266 ?_
  refine W.eq (g2 := F0 m 267 ls [.int (2 : Int32), .int (10 : Int32), .int (0 : Int32), .ref (b + 0)]) (congrArg (fun v => F0 m 267 ls (.int v :: [.int (10 : Int32), .int (0 : Int32), .ref (b + 0)])) (show (1 : Int32) + (1 : Int32) = (2 : Int32) by decide)) ?_
  refine lv_imul hx hb dL_partly_267 ?_
  refine W.eq (g2 := F0 m 268 ls [.int (20 : Int32), .int (0 : Int32), .ref (b + 0)]) (congrArg (fun v => F0 m 268 ls (.int v :: [.int (0 : Int32), .ref (b + 0)])) (show (10 : Int32) * (2 : Int32) = (20 : Int32) by decide)) ?_
  refine lv_iload_n hx hb dL_partly_268 rfl (lv_at hl 0 rfl) ?_
  refine lv_bipush (v := (10 : Int32)) hx hb dL_partly_269 (by decide) ?_
  refine lv_isub hx hb dL_partly_271 ?_
  refine W.eq (g2 := F0 m 272 ls [.int (14 : Int32), .int (20 : Int32), .int (0 : Int32), .ref (b + 0)]) (congrArg (fun v => F0 m 272 ls (.int v :: [.int (20 : Int32), .int (0 : Int32), .ref (b + 0)])) (show (24 : Int32) - (10 : Int32) = (14 : Int32) by decide)) ?_
  refine lv_bipush (v := (9 : Int32)) hx hb dL_partly_272 (by decide) ?_
  refine lv_irem hx hb dL_partly_274 (by decide) ?_
  refine W.eq (g2 := F0 m 275 ls [.int (5 : Int32), .int (20 : Int32), .int (0 : Int32), .ref (b + 0)]) (congrArg (fun v => F0 m 275 ls (.int v :: [.int (20 : Int32), .int (0 : Int32), .ref (b + 0)])) (show (14 : Int32) - (14 : Int32) / (9 : Int32) * (9 : Int32) = (5 : Int32) by decide)) ?_
  refine lv_iadd hx hb dL_partly_275 ?_
  refine W.eq (g2 := F0 m 276 ls [.int (25 : Int32), .int (0 : Int32), .ref (b + 0)]) (congrArg (fun v => F0 m 276 ls (.int v :: [.int (0 : Int32), .ref (b + 0)])) (show (20 : Int32) + (5 : Int32) = (25 : Int32) by decide)) ?_
  refine lv_iconst (v := (1 : Int32)) hx hb dL_partly_276 (by decide) ?_
  refine lv_iadd hx hb dL_partly_277 ?_
  refine W.eq (g2 := F0 m 278 ls [.int (26 : Int32), .int (0 : Int32), .ref (b + 0)]) (congrArg (fun v => F0 m 278 ls (.int v :: [.int (0 : Int32), .ref (b + 0)])) (show (25 : Int32) + (1 : Int32) = (26 : Int32) by decide)) ?_
  refine lv_iconst (v := (0 : Int32)) hx hb dL_partly_278 (by decide) ?_
  obtain ⟨M1, hc1, h1⟩ := s_mk V87 (0 : Int32) (c := (0 : Int32)) (x := (26 : Int32)) (tks := (0 : Int32)) h (by decide +kernel)
  have hc1 : f_X4_makeCollection M (0 : Int32) (26 : Int32) (0 : Int32) = some (.inr (0 : Int32), M1) := hc1
  refine kL_7R C hml hl.1 (c_X4_makeCollection hlf hc1) ⟨Nat.le_of_ble_eq_true rfl, Nat.le_of_ble_eq_true rfl⟩ ⟨by show _ ≤ 4189; omega, by show _ ≤ 25467; omega⟩ (Nat.le_of_ble_eq_true rfl) hS hW dL_partly_279 (fun H locs hW hS => ?_)
  refine lv_if_eq (tgt := 287) hx hb dL_partly_282 (by decide) (fun _ => ?_) (fun c => absurd (by decide) c)
  exact t_partly_25 C hml hr hlk hlf h1 hS hW (lv_sub hl [0, 1] rfl) ⟨by omega, by omega⟩
set_option maxHeartbeats 4000000 in
set_option maxRecDepth 100000 in
theorem t_partly_23 {p : Program} {l : Launch} {e : Env} {s : State} {m : MethodId} {args : Array Value} {below : List Frame} {meth : Method} {c : Code} {Z : Zt} {b : Nat} (C : Cx p s m args c cL_partly RL Z b) (hml : c.maxLocals = 2) (hr : meth.sig.returnType = some .boolean) (hlk : meth.locks = false) (hlf : l.stackTraces = false) {M : Mem} (h : RS M V85) {H : Heap} {locs : List Loc} {ls : Array Slot} {cells slots : Nat} (hS : va_S (A0 b) s.heap H locs) (hW : Wd Z b M H) (hl : lv_has ls 2 [(1, .int (22 : Int32)), (0, .ref (b + 0))]) (hcs : cells + 2164 ≤ 4189 ∧ slots + 12984 ≤ 25467) : W p l e rm_L_partly s m args below meth c H locs cells slots (MQ below (QT b) args s 4189 25467 (A0 b)) (F0 m 287 ls []) := by
  have hx := C.1
  have hb := C.2.1
  refine lv_iinc (v := (23 : Int32)) (lv' := [(1, .int (23 : Int32)), (0, .ref (b + 0))]) hx hb dL_partly_287 hl (k := 0) rfl (by decide) (by decide) rfl (fun ls hl => ?_)
  refine lv_goto (tgt := 238) hx hb dL_partly_290 (by decide) ?_
  refine lv_iload_n hx hb dL_partly_238 rfl (lv_at hl 0 rfl) ?_
  refine lv_bipush (v := (61 : Int32)) hx hb dL_partly_239 (by decide) ?_
  refine lv_icmp_ge (tgt := 293) hx hb dL_partly_241 (by decide) (fun c => absurd c (by decide)) (fun _ => ?_)
  refine lv_aload_n hx hb dL_partly_244 rfl (lv_at hl 1 rfl) ?_
  refine lv_iconst (v := (0 : Int32)) hx hb dL_partly_245 (by decide) ?_
  refine lv_iload_n hx hb dL_partly_246 rfl (lv_at hl 0 rfl) ?_
  refine lv_bipush (v := (10 : Int32)) hx hb dL_partly_247 (by decide) ?_
  refine lv_icmp_ge (tgt := 256) hx hb dL_partly_249 (by decide) (fun _ => ?_) (fun c => absurd (by decide) c)
  refine lv_bipush (v := (10 : Int32)) hx hb dL_partly_256 (by decide) ?_
  refine lv_iload_n hx hb dL_partly_258 rfl (lv_at hl 0 rfl) ?_
  refine lv_bipush (v := (10 : Int32)) hx hb dL_partly_259 (by decide) ?_
  refine lv_isub hx hb dL_partly_261 ?_
  refine W.eq (g2 := F0 m 262 ls [.int (13 : Int32), .int (10 : Int32), .int (0 : Int32), .ref (b + 0)]) (congrArg (fun v => F0 m 262 ls (.int v :: [.int (10 : Int32), .int (0 : Int32), .ref (b + 0)])) (show (23 : Int32) - (10 : Int32) = (13 : Int32) by decide)) ?_
  refine lv_bipush (v := (9 : Int32)) hx hb dL_partly_262 (by decide) ?_
  refine lv_idiv hx hb dL_partly_264 (by decide) ?_
  refine W.eq (g2 := F0 m 265 ls [.int (1 : Int32), .int (10 : Int32), .int (0 : Int32), .ref (b + 0)]) (congrArg (fun v => F0 m 265 ls (.int v :: [.int (10 : Int32), .int (0 : Int32), .ref (b + 0)])) (show (13 : Int32) / (9 : Int32) = (1 : Int32) by decide)) ?_
  refine lv_iconst (v := (1 : Int32)) hx hb dL_partly_265 (by decide) ?_
  refine lv_iadd hx hb dL_partly_266 ?_
  refine W.eq (g2 := F0 m 267 ls [.int (2 : Int32), .int (10 : Int32), .int (0 : Int32), .ref (b + 0)]) (congrArg (fun v => F0 m 267 ls (.int v :: [.int (10 : Int32), .int (0 : Int32), .ref (b + 0)])) (show (1 : Int32) + (1 : Int32) = (2 : Int32) by decide)) ?_
  refine lv_imul hx hb dL_partly_267 ?_
  refine W.eq (g2 := F0 m 268 ls [.int (20 : Int32), .int (0 : Int32), .ref (b + 0)]) (congrArg (fun v => F0 m 268 ls (.int v :: [.int (0 : Int32), .ref (b + 0)])) (show (10 : Int32) * (2 : Int32) = (20 : Int32) by decide)) ?_
  refine lv_iload_n hx hb dL_partly_268 rfl (lv_at hl 0 rfl) ?_
  refine lv_bipush (v := (10 : Int32)) hx hb dL_partly_269 (by decide) ?_
  refine lv_isub hx hb dL_partly_271 ?_
  refine W.eq (g2 := F0 m 272 ls [.int (13 : Int32), .int (20 : Int32), .int (0 : Int32), .ref (b + 0)]) (congrArg (fun v => F0 m 272 ls (.int v :: [.int (20 : Int32), .int (0 : Int32), .ref (b + 0)])) (show (23 : Int32) - (10 : Int32) = (13 : Int32) by decide)) ?_
  refine lv_bipush (v := (9 : Int32)) hx hb dL_partly_272 (by decide) ?_
  refine lv_irem hx hb dL_partly_274 (by decide) ?_
  refine W.eq (g2 := F0 m 275 ls [.int (4 : Int32), .int (20 : Int32), .int (0 : Int32), .ref (b + 0)]) (congrArg (fun v => F0 m 275 ls (.int v :: [.int (20 : Int32), .int (0 : Int32), .ref (b + 0)])) (show (13 : Int32) - (13 : Int32) / (9 : Int32) * (9 : Int32) = (4 : Int32) by decide)) ?_
  refine lv_iadd hx hb dL_partly_275 ?_
  refine W.eq (g2 := F0 m 276 ls [.int (24 : Int32), .int (0 : Int32), .ref (b + 0)]) (congrArg (fun v => F0 m 276 ls (.int v :: [.int (0 : Int32), .ref (b + 0)])) (show (20 : Int32) + (4 : Int32) = (24 : Int32) by decide)) ?_
  refine lv_iconst (v := (1 : Int32)) hx hb dL_partly_276 (by decide) ?_
  refine lv_iadd hx hb dL_partly_277 ?_
  refine W.eq (g2 := F0 m 278 ls [.int (25 : Int32), .int (0 : Int32), .ref (b + 0)]) (congrArg (fun v => F0 m 278 ls (.int v :: [.int (0 : Int32), .ref (b + 0)])) (show (24 : Int32) + (1 : Int32) = (25 : Int32) by decide)) ?_
  refine lv_iconst (v := (0 : Int32)) hx hb dL_partly_278 (by decide) ?_
  obtain ⟨M1, hc1, h1⟩ := s_mk V86 (0 : Int32) (c := (0 : Int32)) (x := (25 : Int32)) (tks := (0 : Int32)) h (by decide +kernel)
  have hc1 : f_X4_makeCollection M (0 : Int32) (25 : Int32) (0 : Int32) = some (.inr (0 : Int32), M1) := hc1
  refine kL_7R C hml hl.1 (c_X4_makeCollection hlf hc1) ⟨Nat.le_of_ble_eq_true rfl, Nat.le_of_ble_eq_true rfl⟩ ⟨by show _ ≤ 4189; omega, by show _ ≤ 25467; omega⟩ (Nat.le_of_ble_eq_true rfl) hS hW dL_partly_279 (fun H locs hW hS => ?_)
  refine lv_if_eq (tgt := 287) hx hb dL_partly_282 (by decide) (fun _ => ?_) (fun c => absurd (by decide) c)
  exact t_partly_24 C hml hr hlk hlf h1 hS hW (lv_sub hl [0, 1] rfl) ⟨by omega, by omega⟩
set_option maxHeartbeats 4000000 in
set_option maxRecDepth 100000 in
theorem t_partly_22 {p : Program} {l : Launch} {e : Env} {s : State} {m : MethodId} {args : Array Value} {below : List Frame} {meth : Method} {c : Code} {Z : Zt} {b : Nat} (C : Cx p s m args c cL_partly RL Z b) (hml : c.maxLocals = 2) (hr : meth.sig.returnType = some .boolean) (hlk : meth.locks = false) (hlf : l.stackTraces = false) {M : Mem} (h : RS M V84) {H : Heap} {locs : List Loc} {ls : Array Slot} {cells slots : Nat} (hS : va_S (A0 b) s.heap H locs) (hW : Wd Z b M H) (hl : lv_has ls 2 [(1, .int (21 : Int32)), (0, .ref (b + 0))]) (hcs : cells + 2168 ≤ 4189 ∧ slots + 13008 ≤ 25467) : W p l e rm_L_partly s m args below meth c H locs cells slots (MQ below (QT b) args s 4189 25467 (A0 b)) (F0 m 287 ls []) := by
  have hx := C.1
  have hb := C.2.1
  refine lv_iinc (v := (22 : Int32)) (lv' := [(1, .int (22 : Int32)), (0, .ref (b + 0))]) hx hb dL_partly_287 hl (k := 0) rfl (by decide) (by decide) rfl (fun ls hl => ?_)
  refine lv_goto (tgt := 238) hx hb dL_partly_290 (by decide) ?_
  refine lv_iload_n hx hb dL_partly_238 rfl (lv_at hl 0 rfl) ?_
  refine lv_bipush (v := (61 : Int32)) hx hb dL_partly_239 (by decide) ?_
  refine lv_icmp_ge (tgt := 293) hx hb dL_partly_241 (by decide) (fun c => absurd c (by decide)) (fun _ => ?_)
  refine lv_aload_n hx hb dL_partly_244 rfl (lv_at hl 1 rfl) ?_
  refine lv_iconst (v := (0 : Int32)) hx hb dL_partly_245 (by decide) ?_
  refine lv_iload_n hx hb dL_partly_246 rfl (lv_at hl 0 rfl) ?_
  refine lv_bipush (v := (10 : Int32)) hx hb dL_partly_247 (by decide) ?_
  refine lv_icmp_ge (tgt := 256) hx hb dL_partly_249 (by decide) (fun _ => ?_) (fun c => absurd (by decide) c)
  refine lv_bipush (v := (10 : Int32)) hx hb dL_partly_256 (by decide) ?_
  refine lv_iload_n hx hb dL_partly_258 rfl (lv_at hl 0 rfl) ?_
  refine lv_bipush (v := (10 : Int32)) hx hb dL_partly_259 (by decide) ?_
  refine lv_isub hx hb dL_partly_261 ?_
  refine W.eq (g2 := F0 m 262 ls [.int (12 : Int32), .int (10 : Int32), .int (0 : Int32), .ref (b + 0)]) (congrArg (fun v => F0 m 262 ls (.int v :: [.int (10 : Int32), .int (0 : Int32), .ref (b + 0)])) (show (22 : Int32) - (10 : Int32) = (12 : Int32) by decide)) ?_
  refine lv_bipush (v := (9 : Int32)) hx hb dL_partly_262 (by decide) ?_
  refine lv_idiv hx hb dL_partly_264 (by decide) ?_
  refine W.eq (g2 := F0 m 265 ls [.int (1 : Int32), .int (10 : Int32), .int (0 : Int32), .ref (b + 0)]) (congrArg (fun v => F0 m 265 ls (.int v :: [.int (10 : Int32), .int (0 : Int32), .ref (b + 0)])) (show (12 : Int32) / (9 : Int32) = (1 : Int32) by decide)) ?_
  refine lv_iconst (v := (1 : Int32)) hx hb dL_partly_265 (by decide) ?_
  refine lv_iadd hx hb dL_partly_266 ?_
  refine W.eq (g2 := F0 m 267 ls [.int (2 : Int32), .int (10 : Int32), .int (0 : Int32), .ref (b + 0)]) (congrArg (fun v => F0 m 267 ls (.int v :: [.int (10 : Int32), .int (0 : Int32), .ref (b + 0)])) (show (1 : Int32) + (1 : Int32) = (2 : Int32) by decide)) ?_
  refine lv_imul hx hb dL_partly_267 ?_
  refine W.eq (g2 := F0 m 268 ls [.int (20 : Int32), .int (0 : Int32), .ref (b + 0)]) (congrArg (fun v => F0 m 268 ls (.int v :: [.int (0 : Int32), .ref (b + 0)])) (show (10 : Int32) * (2 : Int32) = (20 : Int32) by decide)) ?_
  refine lv_iload_n hx hb dL_partly_268 rfl (lv_at hl 0 rfl) ?_
  refine lv_bipush (v := (10 : Int32)) hx hb dL_partly_269 (by decide) ?_
  refine lv_isub hx hb dL_partly_271 ?_
  refine W.eq (g2 := F0 m 272 ls [.int (12 : Int32), .int (20 : Int32), .int (0 : Int32), .ref (b + 0)]) (congrArg (fun v => F0 m 272 ls (.int v :: [.int (20 : Int32), .int (0 : Int32), .ref (b + 0)])) (show (22 : Int32) - (10 : Int32) = (12 : Int32) by decide)) ?_
  refine lv_bipush (v := (9 : Int32)) hx hb dL_partly_272 (by decide) ?_
  refine lv_irem hx hb dL_partly_274 (by decide) ?_
  refine W.eq (g2 := F0 m 275 ls [.int (3 : Int32), .int (20 : Int32), .int (0 : Int32), .ref (b + 0)]) (congrArg (fun v => F0 m 275 ls (.int v :: [.int (20 : Int32), .int (0 : Int32), .ref (b + 0)])) (show (12 : Int32) - (12 : Int32) / (9 : Int32) * (9 : Int32) = (3 : Int32) by decide)) ?_
  refine lv_iadd hx hb dL_partly_275 ?_
  refine W.eq (g2 := F0 m 276 ls [.int (23 : Int32), .int (0 : Int32), .ref (b + 0)]) (congrArg (fun v => F0 m 276 ls (.int v :: [.int (0 : Int32), .ref (b + 0)])) (show (20 : Int32) + (3 : Int32) = (23 : Int32) by decide)) ?_
  refine lv_iconst (v := (1 : Int32)) hx hb dL_partly_276 (by decide) ?_
  refine lv_iadd hx hb dL_partly_277 ?_
  refine W.eq (g2 := F0 m 278 ls [.int (24 : Int32), .int (0 : Int32), .ref (b + 0)]) (congrArg (fun v => F0 m 278 ls (.int v :: [.int (0 : Int32), .ref (b + 0)])) (show (23 : Int32) + (1 : Int32) = (24 : Int32) by decide)) ?_
  refine lv_iconst (v := (0 : Int32)) hx hb dL_partly_278 (by decide) ?_
  obtain ⟨M1, hc1, h1⟩ := s_mk V85 (0 : Int32) (c := (0 : Int32)) (x := (24 : Int32)) (tks := (0 : Int32)) h (by decide +kernel)
  have hc1 : f_X4_makeCollection M (0 : Int32) (24 : Int32) (0 : Int32) = some (.inr (0 : Int32), M1) := hc1
  refine kL_7R C hml hl.1 (c_X4_makeCollection hlf hc1) ⟨Nat.le_of_ble_eq_true rfl, Nat.le_of_ble_eq_true rfl⟩ ⟨by show _ ≤ 4189; omega, by show _ ≤ 25467; omega⟩ (Nat.le_of_ble_eq_true rfl) hS hW dL_partly_279 (fun H locs hW hS => ?_)
  refine lv_if_eq (tgt := 287) hx hb dL_partly_282 (by decide) (fun _ => ?_) (fun c => absurd (by decide) c)
  exact t_partly_23 C hml hr hlk hlf h1 hS hW (lv_sub hl [0, 1] rfl) ⟨by omega, by omega⟩
set_option maxHeartbeats 4000000 in
set_option maxRecDepth 100000 in
theorem t_partly_21 {p : Program} {l : Launch} {e : Env} {s : State} {m : MethodId} {args : Array Value} {below : List Frame} {meth : Method} {c : Code} {Z : Zt} {b : Nat} (C : Cx p s m args c cL_partly RL Z b) (hml : c.maxLocals = 2) (hr : meth.sig.returnType = some .boolean) (hlk : meth.locks = false) (hlf : l.stackTraces = false) {M : Mem} (h : RS M V83) {H : Heap} {locs : List Loc} {ls : Array Slot} {cells slots : Nat} (hS : va_S (A0 b) s.heap H locs) (hW : Wd Z b M H) (hl : lv_has ls 2 [(1, .int (20 : Int32)), (0, .ref (b + 0))]) (hcs : cells + 2172 ≤ 4189 ∧ slots + 13032 ≤ 25467) : W p l e rm_L_partly s m args below meth c H locs cells slots (MQ below (QT b) args s 4189 25467 (A0 b)) (F0 m 287 ls []) := by
  have hx := C.1
  have hb := C.2.1
  refine lv_iinc (v := (21 : Int32)) (lv' := [(1, .int (21 : Int32)), (0, .ref (b + 0))]) hx hb dL_partly_287 hl (k := 0) rfl (by decide) (by decide) rfl (fun ls hl => ?_)
  refine lv_goto (tgt := 238) hx hb dL_partly_290 (by decide) ?_
  refine lv_iload_n hx hb dL_partly_238 rfl (lv_at hl 0 rfl) ?_
  refine lv_bipush (v := (61 : Int32)) hx hb dL_partly_239 (by decide) ?_
  refine lv_icmp_ge (tgt := 293) hx hb dL_partly_241 (by decide) (fun c => absurd c (by decide)) (fun _ => ?_)
  refine lv_aload_n hx hb dL_partly_244 rfl (lv_at hl 1 rfl) ?_
  refine lv_iconst (v := (0 : Int32)) hx hb dL_partly_245 (by decide) ?_
  refine lv_iload_n hx hb dL_partly_246 rfl (lv_at hl 0 rfl) ?_
  refine lv_bipush (v := (10 : Int32)) hx hb dL_partly_247 (by decide) ?_
  refine lv_icmp_ge (tgt := 256) hx hb dL_partly_249 (by decide) (fun _ => ?_) (fun c => absurd (by decide) c)
  refine lv_bipush (v := (10 : Int32)) hx hb dL_partly_256 (by decide) ?_
  refine lv_iload_n hx hb dL_partly_258 rfl (lv_at hl 0 rfl) ?_
  refine lv_bipush (v := (10 : Int32)) hx hb dL_partly_259 (by decide) ?_
  refine lv_isub hx hb dL_partly_261 ?_
  refine W.eq (g2 := F0 m 262 ls [.int (11 : Int32), .int (10 : Int32), .int (0 : Int32), .ref (b + 0)]) (congrArg (fun v => F0 m 262 ls (.int v :: [.int (10 : Int32), .int (0 : Int32), .ref (b + 0)])) (show (21 : Int32) - (10 : Int32) = (11 : Int32) by decide)) ?_
  refine lv_bipush (v := (9 : Int32)) hx hb dL_partly_262 (by decide) ?_
  refine lv_idiv hx hb dL_partly_264 (by decide) ?_
  refine W.eq (g2 := F0 m 265 ls [.int (1 : Int32), .int (10 : Int32), .int (0 : Int32), .ref (b + 0)]) (congrArg (fun v => F0 m 265 ls (.int v :: [.int (10 : Int32), .int (0 : Int32), .ref (b + 0)])) (show (11 : Int32) / (9 : Int32) = (1 : Int32) by decide)) ?_
  refine lv_iconst (v := (1 : Int32)) hx hb dL_partly_265 (by decide) ?_
  refine lv_iadd hx hb dL_partly_266 ?_
  refine W.eq (g2 := F0 m 267 ls [.int (2 : Int32), .int (10 : Int32), .int (0 : Int32), .ref (b + 0)]) (congrArg (fun v => F0 m 267 ls (.int v :: [.int (10 : Int32), .int (0 : Int32), .ref (b + 0)])) (show (1 : Int32) + (1 : Int32) = (2 : Int32) by decide)) ?_
  refine lv_imul hx hb dL_partly_267 ?_
  refine W.eq (g2 := F0 m 268 ls [.int (20 : Int32), .int (0 : Int32), .ref (b + 0)]) (congrArg (fun v => F0 m 268 ls (.int v :: [.int (0 : Int32), .ref (b + 0)])) (show (10 : Int32) * (2 : Int32) = (20 : Int32) by decide)) ?_
  refine lv_iload_n hx hb dL_partly_268 rfl (lv_at hl 0 rfl) ?_
  refine lv_bipush (v := (10 : Int32)) hx hb dL_partly_269 (by decide) ?_
  refine lv_isub hx hb dL_partly_271 ?_
  refine W.eq (g2 := F0 m 272 ls [.int (11 : Int32), .int (20 : Int32), .int (0 : Int32), .ref (b + 0)]) (congrArg (fun v => F0 m 272 ls (.int v :: [.int (20 : Int32), .int (0 : Int32), .ref (b + 0)])) (show (21 : Int32) - (10 : Int32) = (11 : Int32) by decide)) ?_
  refine lv_bipush (v := (9 : Int32)) hx hb dL_partly_272 (by decide) ?_
  refine lv_irem hx hb dL_partly_274 (by decide) ?_
  refine W.eq (g2 := F0 m 275 ls [.int (2 : Int32), .int (20 : Int32), .int (0 : Int32), .ref (b + 0)]) (congrArg (fun v => F0 m 275 ls (.int v :: [.int (20 : Int32), .int (0 : Int32), .ref (b + 0)])) (show (11 : Int32) - (11 : Int32) / (9 : Int32) * (9 : Int32) = (2 : Int32) by decide)) ?_
  refine lv_iadd hx hb dL_partly_275 ?_
  refine W.eq (g2 := F0 m 276 ls [.int (22 : Int32), .int (0 : Int32), .ref (b + 0)]) (congrArg (fun v => F0 m 276 ls (.int v :: [.int (0 : Int32), .ref (b + 0)])) (show (20 : Int32) + (2 : Int32) = (22 : Int32) by decide)) ?_
  refine lv_iconst (v := (1 : Int32)) hx hb dL_partly_276 (by decide) ?_
  refine lv_iadd hx hb dL_partly_277 ?_
  refine W.eq (g2 := F0 m 278 ls [.int (23 : Int32), .int (0 : Int32), .ref (b + 0)]) (congrArg (fun v => F0 m 278 ls (.int v :: [.int (0 : Int32), .ref (b + 0)])) (show (22 : Int32) + (1 : Int32) = (23 : Int32) by decide)) ?_
  refine lv_iconst (v := (0 : Int32)) hx hb dL_partly_278 (by decide) ?_
  obtain ⟨M1, hc1, h1⟩ := s_mk V84 (0 : Int32) (c := (0 : Int32)) (x := (23 : Int32)) (tks := (0 : Int32)) h (by decide +kernel)
  have hc1 : f_X4_makeCollection M (0 : Int32) (23 : Int32) (0 : Int32) = some (.inr (0 : Int32), M1) := hc1
  refine kL_7R C hml hl.1 (c_X4_makeCollection hlf hc1) ⟨Nat.le_of_ble_eq_true rfl, Nat.le_of_ble_eq_true rfl⟩ ⟨by show _ ≤ 4189; omega, by show _ ≤ 25467; omega⟩ (Nat.le_of_ble_eq_true rfl) hS hW dL_partly_279 (fun H locs hW hS => ?_)
  refine lv_if_eq (tgt := 287) hx hb dL_partly_282 (by decide) (fun _ => ?_) (fun c => absurd (by decide) c)
  exact t_partly_22 C hml hr hlk hlf h1 hS hW (lv_sub hl [0, 1] rfl) ⟨by omega, by omega⟩
set_option maxHeartbeats 4000000 in
set_option maxRecDepth 100000 in
theorem t_partly_20 {p : Program} {l : Launch} {e : Env} {s : State} {m : MethodId} {args : Array Value} {below : List Frame} {meth : Method} {c : Code} {Z : Zt} {b : Nat} (C : Cx p s m args c cL_partly RL Z b) (hml : c.maxLocals = 2) (hr : meth.sig.returnType = some .boolean) (hlk : meth.locks = false) (hlf : l.stackTraces = false) {M : Mem} (h : RS M V82) {H : Heap} {locs : List Loc} {ls : Array Slot} {cells slots : Nat} (hS : va_S (A0 b) s.heap H locs) (hW : Wd Z b M H) (hl : lv_has ls 2 [(1, .int (19 : Int32)), (0, .ref (b + 0))]) (hcs : cells + 2176 ≤ 4189 ∧ slots + 13056 ≤ 25467) : W p l e rm_L_partly s m args below meth c H locs cells slots (MQ below (QT b) args s 4189 25467 (A0 b)) (F0 m 287 ls []) := by
  have hx := C.1
  have hb := C.2.1
  refine lv_iinc (v := (20 : Int32)) (lv' := [(1, .int (20 : Int32)), (0, .ref (b + 0))]) hx hb dL_partly_287 hl (k := 0) rfl (by decide) (by decide) rfl (fun ls hl => ?_)
  refine lv_goto (tgt := 238) hx hb dL_partly_290 (by decide) ?_
  refine lv_iload_n hx hb dL_partly_238 rfl (lv_at hl 0 rfl) ?_
  refine lv_bipush (v := (61 : Int32)) hx hb dL_partly_239 (by decide) ?_
  refine lv_icmp_ge (tgt := 293) hx hb dL_partly_241 (by decide) (fun c => absurd c (by decide)) (fun _ => ?_)
  refine lv_aload_n hx hb dL_partly_244 rfl (lv_at hl 1 rfl) ?_
  refine lv_iconst (v := (0 : Int32)) hx hb dL_partly_245 (by decide) ?_
  refine lv_iload_n hx hb dL_partly_246 rfl (lv_at hl 0 rfl) ?_
  refine lv_bipush (v := (10 : Int32)) hx hb dL_partly_247 (by decide) ?_
  refine lv_icmp_ge (tgt := 256) hx hb dL_partly_249 (by decide) (fun _ => ?_) (fun c => absurd (by decide) c)
  refine lv_bipush (v := (10 : Int32)) hx hb dL_partly_256 (by decide) ?_
  refine lv_iload_n hx hb dL_partly_258 rfl (lv_at hl 0 rfl) ?_
  refine lv_bipush (v := (10 : Int32)) hx hb dL_partly_259 (by decide) ?_
  refine lv_isub hx hb dL_partly_261 ?_
  refine W.eq (g2 := F0 m 262 ls [.int (10 : Int32), .int (10 : Int32), .int (0 : Int32), .ref (b + 0)]) (congrArg (fun v => F0 m 262 ls (.int v :: [.int (10 : Int32), .int (0 : Int32), .ref (b + 0)])) (show (20 : Int32) - (10 : Int32) = (10 : Int32) by decide)) ?_
  refine lv_bipush (v := (9 : Int32)) hx hb dL_partly_262 (by decide) ?_
  refine lv_idiv hx hb dL_partly_264 (by decide) ?_
  refine W.eq (g2 := F0 m 265 ls [.int (1 : Int32), .int (10 : Int32), .int (0 : Int32), .ref (b + 0)]) (congrArg (fun v => F0 m 265 ls (.int v :: [.int (10 : Int32), .int (0 : Int32), .ref (b + 0)])) (show (10 : Int32) / (9 : Int32) = (1 : Int32) by decide)) ?_
  refine lv_iconst (v := (1 : Int32)) hx hb dL_partly_265 (by decide) ?_
  refine lv_iadd hx hb dL_partly_266 ?_
  refine W.eq (g2 := F0 m 267 ls [.int (2 : Int32), .int (10 : Int32), .int (0 : Int32), .ref (b + 0)]) (congrArg (fun v => F0 m 267 ls (.int v :: [.int (10 : Int32), .int (0 : Int32), .ref (b + 0)])) (show (1 : Int32) + (1 : Int32) = (2 : Int32) by decide)) ?_
  refine lv_imul hx hb dL_partly_267 ?_
  refine W.eq (g2 := F0 m 268 ls [.int (20 : Int32), .int (0 : Int32), .ref (b + 0)]) (congrArg (fun v => F0 m 268 ls (.int v :: [.int (0 : Int32), .ref (b + 0)])) (show (10 : Int32) * (2 : Int32) = (20 : Int32) by decide)) ?_
  refine lv_iload_n hx hb dL_partly_268 rfl (lv_at hl 0 rfl) ?_
  refine lv_bipush (v := (10 : Int32)) hx hb dL_partly_269 (by decide) ?_
  refine lv_isub hx hb dL_partly_271 ?_
  refine W.eq (g2 := F0 m 272 ls [.int (10 : Int32), .int (20 : Int32), .int (0 : Int32), .ref (b + 0)]) (congrArg (fun v => F0 m 272 ls (.int v :: [.int (20 : Int32), .int (0 : Int32), .ref (b + 0)])) (show (20 : Int32) - (10 : Int32) = (10 : Int32) by decide)) ?_
  refine lv_bipush (v := (9 : Int32)) hx hb dL_partly_272 (by decide) ?_
  refine lv_irem hx hb dL_partly_274 (by decide) ?_
  refine W.eq (g2 := F0 m 275 ls [.int (1 : Int32), .int (20 : Int32), .int (0 : Int32), .ref (b + 0)]) (congrArg (fun v => F0 m 275 ls (.int v :: [.int (20 : Int32), .int (0 : Int32), .ref (b + 0)])) (show (10 : Int32) - (10 : Int32) / (9 : Int32) * (9 : Int32) = (1 : Int32) by decide)) ?_
  refine lv_iadd hx hb dL_partly_275 ?_
  refine W.eq (g2 := F0 m 276 ls [.int (21 : Int32), .int (0 : Int32), .ref (b + 0)]) (congrArg (fun v => F0 m 276 ls (.int v :: [.int (0 : Int32), .ref (b + 0)])) (show (20 : Int32) + (1 : Int32) = (21 : Int32) by decide)) ?_
  refine lv_iconst (v := (1 : Int32)) hx hb dL_partly_276 (by decide) ?_
  refine lv_iadd hx hb dL_partly_277 ?_
  refine W.eq (g2 := F0 m 278 ls [.int (22 : Int32), .int (0 : Int32), .ref (b + 0)]) (congrArg (fun v => F0 m 278 ls (.int v :: [.int (0 : Int32), .ref (b + 0)])) (show (21 : Int32) + (1 : Int32) = (22 : Int32) by decide)) ?_
  refine lv_iconst (v := (0 : Int32)) hx hb dL_partly_278 (by decide) ?_
  obtain ⟨M1, hc1, h1⟩ := s_mk V83 (0 : Int32) (c := (0 : Int32)) (x := (22 : Int32)) (tks := (0 : Int32)) h (by decide +kernel)
  have hc1 : f_X4_makeCollection M (0 : Int32) (22 : Int32) (0 : Int32) = some (.inr (0 : Int32), M1) := hc1
  refine kL_7R C hml hl.1 (c_X4_makeCollection hlf hc1) ⟨Nat.le_of_ble_eq_true rfl, Nat.le_of_ble_eq_true rfl⟩ ⟨by show _ ≤ 4189; omega, by show _ ≤ 25467; omega⟩ (Nat.le_of_ble_eq_true rfl) hS hW dL_partly_279 (fun H locs hW hS => ?_)
  refine lv_if_eq (tgt := 287) hx hb dL_partly_282 (by decide) (fun _ => ?_) (fun c => absurd (by decide) c)
  exact t_partly_21 C hml hr hlk hlf h1 hS hW (lv_sub hl [0, 1] rfl) ⟨by omega, by omega⟩
set_option maxHeartbeats 4000000 in
set_option maxRecDepth 100000 in
theorem t_partly_19 {p : Program} {l : Launch} {e : Env} {s : State} {m : MethodId} {args : Array Value} {below : List Frame} {meth : Method} {c : Code} {Z : Zt} {b : Nat} (C : Cx p s m args c cL_partly RL Z b) (hml : c.maxLocals = 2) (hr : meth.sig.returnType = some .boolean) (hlk : meth.locks = false) (hlf : l.stackTraces = false) {M : Mem} (h : RS M V81) {H : Heap} {locs : List Loc} {ls : Array Slot} {cells slots : Nat} (hS : va_S (A0 b) s.heap H locs) (hW : Wd Z b M H) (hl : lv_has ls 2 [(1, .int (18 : Int32)), (0, .ref (b + 0))]) (hcs : cells + 2180 ≤ 4189 ∧ slots + 13080 ≤ 25467) : W p l e rm_L_partly s m args below meth c H locs cells slots (MQ below (QT b) args s 4189 25467 (A0 b)) (F0 m 287 ls []) := by
  have hx := C.1
  have hb := C.2.1
  refine lv_iinc (v := (19 : Int32)) (lv' := [(1, .int (19 : Int32)), (0, .ref (b + 0))]) hx hb dL_partly_287 hl (k := 0) rfl (by decide) (by decide) rfl (fun ls hl => ?_)
  refine lv_goto (tgt := 238) hx hb dL_partly_290 (by decide) ?_
  refine lv_iload_n hx hb dL_partly_238 rfl (lv_at hl 0 rfl) ?_
  refine lv_bipush (v := (61 : Int32)) hx hb dL_partly_239 (by decide) ?_
  refine lv_icmp_ge (tgt := 293) hx hb dL_partly_241 (by decide) (fun c => absurd c (by decide)) (fun _ => ?_)
  refine lv_aload_n hx hb dL_partly_244 rfl (lv_at hl 1 rfl) ?_
  refine lv_iconst (v := (0 : Int32)) hx hb dL_partly_245 (by decide) ?_
  refine lv_iload_n hx hb dL_partly_246 rfl (lv_at hl 0 rfl) ?_
  refine lv_bipush (v := (10 : Int32)) hx hb dL_partly_247 (by decide) ?_
  refine lv_icmp_ge (tgt := 256) hx hb dL_partly_249 (by decide) (fun _ => ?_) (fun c => absurd (by decide) c)
  refine lv_bipush (v := (10 : Int32)) hx hb dL_partly_256 (by decide) ?_
  refine lv_iload_n hx hb dL_partly_258 rfl (lv_at hl 0 rfl) ?_
  refine lv_bipush (v := (10 : Int32)) hx hb dL_partly_259 (by decide) ?_
  refine lv_isub hx hb dL_partly_261 ?_
  refine W.eq (g2 := F0 m 262 ls [.int (9 : Int32), .int (10 : Int32), .int (0 : Int32), .ref (b + 0)]) (congrArg (fun v => F0 m 262 ls (.int v :: [.int (10 : Int32), .int (0 : Int32), .ref (b + 0)])) (show (19 : Int32) - (10 : Int32) = (9 : Int32) by decide)) ?_
  refine lv_bipush (v := (9 : Int32)) hx hb dL_partly_262 (by decide) ?_
  refine lv_idiv hx hb dL_partly_264 (by decide) ?_
  refine W.eq (g2 := F0 m 265 ls [.int (1 : Int32), .int (10 : Int32), .int (0 : Int32), .ref (b + 0)]) (congrArg (fun v => F0 m 265 ls (.int v :: [.int (10 : Int32), .int (0 : Int32), .ref (b + 0)])) (show (9 : Int32) / (9 : Int32) = (1 : Int32) by decide)) ?_
  refine lv_iconst (v := (1 : Int32)) hx hb dL_partly_265 (by decide) ?_
  refine lv_iadd hx hb dL_partly_266 ?_
  refine W.eq (g2 := F0 m 267 ls [.int (2 : Int32), .int (10 : Int32), .int (0 : Int32), .ref (b + 0)]) (congrArg (fun v => F0 m 267 ls (.int v :: [.int (10 : Int32), .int (0 : Int32), .ref (b + 0)])) (show (1 : Int32) + (1 : Int32) = (2 : Int32) by decide)) ?_
  refine lv_imul hx hb dL_partly_267 ?_
  refine W.eq (g2 := F0 m 268 ls [.int (20 : Int32), .int (0 : Int32), .ref (b + 0)]) (congrArg (fun v => F0 m 268 ls (.int v :: [.int (0 : Int32), .ref (b + 0)])) (show (10 : Int32) * (2 : Int32) = (20 : Int32) by decide)) ?_
  refine lv_iload_n hx hb dL_partly_268 rfl (lv_at hl 0 rfl) ?_
  refine lv_bipush (v := (10 : Int32)) hx hb dL_partly_269 (by decide) ?_
  refine lv_isub hx hb dL_partly_271 ?_
  refine W.eq (g2 := F0 m 272 ls [.int (9 : Int32), .int (20 : Int32), .int (0 : Int32), .ref (b + 0)]) (congrArg (fun v => F0 m 272 ls (.int v :: [.int (20 : Int32), .int (0 : Int32), .ref (b + 0)])) (show (19 : Int32) - (10 : Int32) = (9 : Int32) by decide)) ?_
  refine lv_bipush (v := (9 : Int32)) hx hb dL_partly_272 (by decide) ?_
  refine lv_irem hx hb dL_partly_274 (by decide) ?_
  refine W.eq (g2 := F0 m 275 ls [.int (0 : Int32), .int (20 : Int32), .int (0 : Int32), .ref (b + 0)]) (congrArg (fun v => F0 m 275 ls (.int v :: [.int (20 : Int32), .int (0 : Int32), .ref (b + 0)])) (show (9 : Int32) - (9 : Int32) / (9 : Int32) * (9 : Int32) = (0 : Int32) by decide)) ?_
  refine lv_iadd hx hb dL_partly_275 ?_
  refine W.eq (g2 := F0 m 276 ls [.int (20 : Int32), .int (0 : Int32), .ref (b + 0)]) (congrArg (fun v => F0 m 276 ls (.int v :: [.int (0 : Int32), .ref (b + 0)])) (show (20 : Int32) + (0 : Int32) = (20 : Int32) by decide)) ?_
  refine lv_iconst (v := (1 : Int32)) hx hb dL_partly_276 (by decide) ?_
  refine lv_iadd hx hb dL_partly_277 ?_
  refine W.eq (g2 := F0 m 278 ls [.int (21 : Int32), .int (0 : Int32), .ref (b + 0)]) (congrArg (fun v => F0 m 278 ls (.int v :: [.int (0 : Int32), .ref (b + 0)])) (show (20 : Int32) + (1 : Int32) = (21 : Int32) by decide)) ?_
  refine lv_iconst (v := (0 : Int32)) hx hb dL_partly_278 (by decide) ?_
  obtain ⟨M1, hc1, h1⟩ := s_mk V82 (0 : Int32) (c := (0 : Int32)) (x := (21 : Int32)) (tks := (0 : Int32)) h (by decide +kernel)
  have hc1 : f_X4_makeCollection M (0 : Int32) (21 : Int32) (0 : Int32) = some (.inr (0 : Int32), M1) := hc1
  refine kL_7R C hml hl.1 (c_X4_makeCollection hlf hc1) ⟨Nat.le_of_ble_eq_true rfl, Nat.le_of_ble_eq_true rfl⟩ ⟨by show _ ≤ 4189; omega, by show _ ≤ 25467; omega⟩ (Nat.le_of_ble_eq_true rfl) hS hW dL_partly_279 (fun H locs hW hS => ?_)
  refine lv_if_eq (tgt := 287) hx hb dL_partly_282 (by decide) (fun _ => ?_) (fun c => absurd (by decide) c)
  exact t_partly_20 C hml hr hlk hlf h1 hS hW (lv_sub hl [0, 1] rfl) ⟨by omega, by omega⟩
set_option maxHeartbeats 4000000 in
set_option maxRecDepth 100000 in
theorem t_partly_18 {p : Program} {l : Launch} {e : Env} {s : State} {m : MethodId} {args : Array Value} {below : List Frame} {meth : Method} {c : Code} {Z : Zt} {b : Nat} (C : Cx p s m args c cL_partly RL Z b) (hml : c.maxLocals = 2) (hr : meth.sig.returnType = some .boolean) (hlk : meth.locks = false) (hlf : l.stackTraces = false) {M : Mem} (h : RS M V80) {H : Heap} {locs : List Loc} {ls : Array Slot} {cells slots : Nat} (hS : va_S (A0 b) s.heap H locs) (hW : Wd Z b M H) (hl : lv_has ls 2 [(1, .int (17 : Int32)), (0, .ref (b + 0))]) (hcs : cells + 2184 ≤ 4189 ∧ slots + 13104 ≤ 25467) : W p l e rm_L_partly s m args below meth c H locs cells slots (MQ below (QT b) args s 4189 25467 (A0 b)) (F0 m 287 ls []) := by
  have hx := C.1
  have hb := C.2.1
  refine lv_iinc (v := (18 : Int32)) (lv' := [(1, .int (18 : Int32)), (0, .ref (b + 0))]) hx hb dL_partly_287 hl (k := 0) rfl (by decide) (by decide) rfl (fun ls hl => ?_)
  refine lv_goto (tgt := 238) hx hb dL_partly_290 (by decide) ?_
  refine lv_iload_n hx hb dL_partly_238 rfl (lv_at hl 0 rfl) ?_
  refine lv_bipush (v := (61 : Int32)) hx hb dL_partly_239 (by decide) ?_
  refine lv_icmp_ge (tgt := 293) hx hb dL_partly_241 (by decide) (fun c => absurd c (by decide)) (fun _ => ?_)
  refine lv_aload_n hx hb dL_partly_244 rfl (lv_at hl 1 rfl) ?_
  refine lv_iconst (v := (0 : Int32)) hx hb dL_partly_245 (by decide) ?_
  refine lv_iload_n hx hb dL_partly_246 rfl (lv_at hl 0 rfl) ?_
  refine lv_bipush (v := (10 : Int32)) hx hb dL_partly_247 (by decide) ?_
  refine lv_icmp_ge (tgt := 256) hx hb dL_partly_249 (by decide) (fun _ => ?_) (fun c => absurd (by decide) c)
  refine lv_bipush (v := (10 : Int32)) hx hb dL_partly_256 (by decide) ?_
  refine lv_iload_n hx hb dL_partly_258 rfl (lv_at hl 0 rfl) ?_
  refine lv_bipush (v := (10 : Int32)) hx hb dL_partly_259 (by decide) ?_
  refine lv_isub hx hb dL_partly_261 ?_
  refine W.eq (g2 := F0 m 262 ls [.int (8 : Int32), .int (10 : Int32), .int (0 : Int32), .ref (b + 0)]) (congrArg (fun v => F0 m 262 ls (.int v :: [.int (10 : Int32), .int (0 : Int32), .ref (b + 0)])) (show (18 : Int32) - (10 : Int32) = (8 : Int32) by decide)) ?_
  refine lv_bipush (v := (9 : Int32)) hx hb dL_partly_262 (by decide) ?_
  refine lv_idiv hx hb dL_partly_264 (by decide) ?_
  refine W.eq (g2 := F0 m 265 ls [.int (0 : Int32), .int (10 : Int32), .int (0 : Int32), .ref (b + 0)]) (congrArg (fun v => F0 m 265 ls (.int v :: [.int (10 : Int32), .int (0 : Int32), .ref (b + 0)])) (show (8 : Int32) / (9 : Int32) = (0 : Int32) by decide)) ?_
  refine lv_iconst (v := (1 : Int32)) hx hb dL_partly_265 (by decide) ?_
  refine lv_iadd hx hb dL_partly_266 ?_
  refine W.eq (g2 := F0 m 267 ls [.int (1 : Int32), .int (10 : Int32), .int (0 : Int32), .ref (b + 0)]) (congrArg (fun v => F0 m 267 ls (.int v :: [.int (10 : Int32), .int (0 : Int32), .ref (b + 0)])) (show (0 : Int32) + (1 : Int32) = (1 : Int32) by decide)) ?_
  refine lv_imul hx hb dL_partly_267 ?_
  refine W.eq (g2 := F0 m 268 ls [.int (10 : Int32), .int (0 : Int32), .ref (b + 0)]) (congrArg (fun v => F0 m 268 ls (.int v :: [.int (0 : Int32), .ref (b + 0)])) (show (10 : Int32) * (1 : Int32) = (10 : Int32) by decide)) ?_
  refine lv_iload_n hx hb dL_partly_268 rfl (lv_at hl 0 rfl) ?_
  refine lv_bipush (v := (10 : Int32)) hx hb dL_partly_269 (by decide) ?_
  refine lv_isub hx hb dL_partly_271 ?_
  refine W.eq (g2 := F0 m 272 ls [.int (8 : Int32), .int (10 : Int32), .int (0 : Int32), .ref (b + 0)]) (congrArg (fun v => F0 m 272 ls (.int v :: [.int (10 : Int32), .int (0 : Int32), .ref (b + 0)])) (show (18 : Int32) - (10 : Int32) = (8 : Int32) by decide)) ?_
  refine lv_bipush (v := (9 : Int32)) hx hb dL_partly_272 (by decide) ?_
  refine lv_irem hx hb dL_partly_274 (by decide) ?_
  refine W.eq (g2 := F0 m 275 ls [.int (8 : Int32), .int (10 : Int32), .int (0 : Int32), .ref (b + 0)]) (congrArg (fun v => F0 m 275 ls (.int v :: [.int (10 : Int32), .int (0 : Int32), .ref (b + 0)])) (show (8 : Int32) - (8 : Int32) / (9 : Int32) * (9 : Int32) = (8 : Int32) by decide)) ?_
  refine lv_iadd hx hb dL_partly_275 ?_
  refine W.eq (g2 := F0 m 276 ls [.int (18 : Int32), .int (0 : Int32), .ref (b + 0)]) (congrArg (fun v => F0 m 276 ls (.int v :: [.int (0 : Int32), .ref (b + 0)])) (show (10 : Int32) + (8 : Int32) = (18 : Int32) by decide)) ?_
  refine lv_iconst (v := (1 : Int32)) hx hb dL_partly_276 (by decide) ?_
  refine lv_iadd hx hb dL_partly_277 ?_
  refine W.eq (g2 := F0 m 278 ls [.int (19 : Int32), .int (0 : Int32), .ref (b + 0)]) (congrArg (fun v => F0 m 278 ls (.int v :: [.int (0 : Int32), .ref (b + 0)])) (show (18 : Int32) + (1 : Int32) = (19 : Int32) by decide)) ?_
  refine lv_iconst (v := (0 : Int32)) hx hb dL_partly_278 (by decide) ?_
  obtain ⟨M1, hc1, h1⟩ := s_mk V81 (0 : Int32) (c := (0 : Int32)) (x := (19 : Int32)) (tks := (0 : Int32)) h (by decide +kernel)
  have hc1 : f_X4_makeCollection M (0 : Int32) (19 : Int32) (0 : Int32) = some (.inr (0 : Int32), M1) := hc1
  refine kL_7R C hml hl.1 (c_X4_makeCollection hlf hc1) ⟨Nat.le_of_ble_eq_true rfl, Nat.le_of_ble_eq_true rfl⟩ ⟨by show _ ≤ 4189; omega, by show _ ≤ 25467; omega⟩ (Nat.le_of_ble_eq_true rfl) hS hW dL_partly_279 (fun H locs hW hS => ?_)
  refine lv_if_eq (tgt := 287) hx hb dL_partly_282 (by decide) (fun _ => ?_) (fun c => absurd (by decide) c)
  exact t_partly_19 C hml hr hlk hlf h1 hS hW (lv_sub hl [0, 1] rfl) ⟨by omega, by omega⟩
set_option maxHeartbeats 4000000 in
set_option maxRecDepth 100000 in
theorem t_partly_17 {p : Program} {l : Launch} {e : Env} {s : State} {m : MethodId} {args : Array Value} {below : List Frame} {meth : Method} {c : Code} {Z : Zt} {b : Nat} (C : Cx p s m args c cL_partly RL Z b) (hml : c.maxLocals = 2) (hr : meth.sig.returnType = some .boolean) (hlk : meth.locks = false) (hlf : l.stackTraces = false) {M : Mem} (h : RS M V79) {H : Heap} {locs : List Loc} {ls : Array Slot} {cells slots : Nat} (hS : va_S (A0 b) s.heap H locs) (hW : Wd Z b M H) (hl : lv_has ls 2 [(1, .int (16 : Int32)), (0, .ref (b + 0))]) (hcs : cells + 2188 ≤ 4189 ∧ slots + 13128 ≤ 25467) : W p l e rm_L_partly s m args below meth c H locs cells slots (MQ below (QT b) args s 4189 25467 (A0 b)) (F0 m 287 ls []) := by
  have hx := C.1
  have hb := C.2.1
  refine lv_iinc (v := (17 : Int32)) (lv' := [(1, .int (17 : Int32)), (0, .ref (b + 0))]) hx hb dL_partly_287 hl (k := 0) rfl (by decide) (by decide) rfl (fun ls hl => ?_)
  refine lv_goto (tgt := 238) hx hb dL_partly_290 (by decide) ?_
  refine lv_iload_n hx hb dL_partly_238 rfl (lv_at hl 0 rfl) ?_
  refine lv_bipush (v := (61 : Int32)) hx hb dL_partly_239 (by decide) ?_
  refine lv_icmp_ge (tgt := 293) hx hb dL_partly_241 (by decide) (fun c => absurd c (by decide)) (fun _ => ?_)
  refine lv_aload_n hx hb dL_partly_244 rfl (lv_at hl 1 rfl) ?_
  refine lv_iconst (v := (0 : Int32)) hx hb dL_partly_245 (by decide) ?_
  refine lv_iload_n hx hb dL_partly_246 rfl (lv_at hl 0 rfl) ?_
  refine lv_bipush (v := (10 : Int32)) hx hb dL_partly_247 (by decide) ?_
  refine lv_icmp_ge (tgt := 256) hx hb dL_partly_249 (by decide) (fun _ => ?_) (fun c => absurd (by decide) c)
  refine lv_bipush (v := (10 : Int32)) hx hb dL_partly_256 (by decide) ?_
  refine lv_iload_n hx hb dL_partly_258 rfl (lv_at hl 0 rfl) ?_
  refine lv_bipush (v := (10 : Int32)) hx hb dL_partly_259 (by decide) ?_
  refine lv_isub hx hb dL_partly_261 ?_
  refine W.eq (g2 := F0 m 262 ls [.int (7 : Int32), .int (10 : Int32), .int (0 : Int32), .ref (b + 0)]) (congrArg (fun v => F0 m 262 ls (.int v :: [.int (10 : Int32), .int (0 : Int32), .ref (b + 0)])) (show (17 : Int32) - (10 : Int32) = (7 : Int32) by decide)) ?_
  refine lv_bipush (v := (9 : Int32)) hx hb dL_partly_262 (by decide) ?_
  refine lv_idiv hx hb dL_partly_264 (by decide) ?_
  refine W.eq (g2 := F0 m 265 ls [.int (0 : Int32), .int (10 : Int32), .int (0 : Int32), .ref (b + 0)]) (congrArg (fun v => F0 m 265 ls (.int v :: [.int (10 : Int32), .int (0 : Int32), .ref (b + 0)])) (show (7 : Int32) / (9 : Int32) = (0 : Int32) by decide)) ?_
  refine lv_iconst (v := (1 : Int32)) hx hb dL_partly_265 (by decide) ?_
  refine lv_iadd hx hb dL_partly_266 ?_
  refine W.eq (g2 := F0 m 267 ls [.int (1 : Int32), .int (10 : Int32), .int (0 : Int32), .ref (b + 0)]) (congrArg (fun v => F0 m 267 ls (.int v :: [.int (10 : Int32), .int (0 : Int32), .ref (b + 0)])) (show (0 : Int32) + (1 : Int32) = (1 : Int32) by decide)) ?_
  refine lv_imul hx hb dL_partly_267 ?_
  refine W.eq (g2 := F0 m 268 ls [.int (10 : Int32), .int (0 : Int32), .ref (b + 0)]) (congrArg (fun v => F0 m 268 ls (.int v :: [.int (0 : Int32), .ref (b + 0)])) (show (10 : Int32) * (1 : Int32) = (10 : Int32) by decide)) ?_
  refine lv_iload_n hx hb dL_partly_268 rfl (lv_at hl 0 rfl) ?_
  refine lv_bipush (v := (10 : Int32)) hx hb dL_partly_269 (by decide) ?_
  refine lv_isub hx hb dL_partly_271 ?_
  refine W.eq (g2 := F0 m 272 ls [.int (7 : Int32), .int (10 : Int32), .int (0 : Int32), .ref (b + 0)]) (congrArg (fun v => F0 m 272 ls (.int v :: [.int (10 : Int32), .int (0 : Int32), .ref (b + 0)])) (show (17 : Int32) - (10 : Int32) = (7 : Int32) by decide)) ?_
  refine lv_bipush (v := (9 : Int32)) hx hb dL_partly_272 (by decide) ?_
  refine lv_irem hx hb dL_partly_274 (by decide) ?_
  refine W.eq (g2 := F0 m 275 ls [.int (7 : Int32), .int (10 : Int32), .int (0 : Int32), .ref (b + 0)]) (congrArg (fun v => F0 m 275 ls (.int v :: [.int (10 : Int32), .int (0 : Int32), .ref (b + 0)])) (show (7 : Int32) - (7 : Int32) / (9 : Int32) * (9 : Int32) = (7 : Int32) by decide)) ?_
  refine lv_iadd hx hb dL_partly_275 ?_
  refine W.eq (g2 := F0 m 276 ls [.int (17 : Int32), .int (0 : Int32), .ref (b + 0)]) (congrArg (fun v => F0 m 276 ls (.int v :: [.int (0 : Int32), .ref (b + 0)])) (show (10 : Int32) + (7 : Int32) = (17 : Int32) by decide)) ?_
  refine lv_iconst (v := (1 : Int32)) hx hb dL_partly_276 (by decide) ?_
  refine lv_iadd hx hb dL_partly_277 ?_
  refine W.eq (g2 := F0 m 278 ls [.int (18 : Int32), .int (0 : Int32), .ref (b + 0)]) (congrArg (fun v => F0 m 278 ls (.int v :: [.int (0 : Int32), .ref (b + 0)])) (show (17 : Int32) + (1 : Int32) = (18 : Int32) by decide)) ?_
  refine lv_iconst (v := (0 : Int32)) hx hb dL_partly_278 (by decide) ?_
  obtain ⟨M1, hc1, h1⟩ := s_mk V80 (0 : Int32) (c := (0 : Int32)) (x := (18 : Int32)) (tks := (0 : Int32)) h (by decide +kernel)
  have hc1 : f_X4_makeCollection M (0 : Int32) (18 : Int32) (0 : Int32) = some (.inr (0 : Int32), M1) := hc1
  refine kL_7R C hml hl.1 (c_X4_makeCollection hlf hc1) ⟨Nat.le_of_ble_eq_true rfl, Nat.le_of_ble_eq_true rfl⟩ ⟨by show _ ≤ 4189; omega, by show _ ≤ 25467; omega⟩ (Nat.le_of_ble_eq_true rfl) hS hW dL_partly_279 (fun H locs hW hS => ?_)
  refine lv_if_eq (tgt := 287) hx hb dL_partly_282 (by decide) (fun _ => ?_) (fun c => absurd (by decide) c)
  exact t_partly_18 C hml hr hlk hlf h1 hS hW (lv_sub hl [0, 1] rfl) ⟨by omega, by omega⟩
set_option maxHeartbeats 4000000 in
set_option maxRecDepth 100000 in
theorem t_partly_16 {p : Program} {l : Launch} {e : Env} {s : State} {m : MethodId} {args : Array Value} {below : List Frame} {meth : Method} {c : Code} {Z : Zt} {b : Nat} (C : Cx p s m args c cL_partly RL Z b) (hml : c.maxLocals = 2) (hr : meth.sig.returnType = some .boolean) (hlk : meth.locks = false) (hlf : l.stackTraces = false) {M : Mem} (h : RS M V78) {H : Heap} {locs : List Loc} {ls : Array Slot} {cells slots : Nat} (hS : va_S (A0 b) s.heap H locs) (hW : Wd Z b M H) (hl : lv_has ls 2 [(1, .int (15 : Int32)), (0, .ref (b + 0))]) (hcs : cells + 2192 ≤ 4189 ∧ slots + 13152 ≤ 25467) : W p l e rm_L_partly s m args below meth c H locs cells slots (MQ below (QT b) args s 4189 25467 (A0 b)) (F0 m 287 ls []) := by
  have hx := C.1
  have hb := C.2.1
  refine lv_iinc (v := (16 : Int32)) (lv' := [(1, .int (16 : Int32)), (0, .ref (b + 0))]) hx hb dL_partly_287 hl (k := 0) rfl (by decide) (by decide) rfl (fun ls hl => ?_)
  refine lv_goto (tgt := 238) hx hb dL_partly_290 (by decide) ?_
  refine lv_iload_n hx hb dL_partly_238 rfl (lv_at hl 0 rfl) ?_
  refine lv_bipush (v := (61 : Int32)) hx hb dL_partly_239 (by decide) ?_
  refine lv_icmp_ge (tgt := 293) hx hb dL_partly_241 (by decide) (fun c => absurd c (by decide)) (fun _ => ?_)
  refine lv_aload_n hx hb dL_partly_244 rfl (lv_at hl 1 rfl) ?_
  refine lv_iconst (v := (0 : Int32)) hx hb dL_partly_245 (by decide) ?_
  refine lv_iload_n hx hb dL_partly_246 rfl (lv_at hl 0 rfl) ?_
  refine lv_bipush (v := (10 : Int32)) hx hb dL_partly_247 (by decide) ?_
  refine lv_icmp_ge (tgt := 256) hx hb dL_partly_249 (by decide) (fun _ => ?_) (fun c => absurd (by decide) c)
  refine lv_bipush (v := (10 : Int32)) hx hb dL_partly_256 (by decide) ?_
  refine lv_iload_n hx hb dL_partly_258 rfl (lv_at hl 0 rfl) ?_
  refine lv_bipush (v := (10 : Int32)) hx hb dL_partly_259 (by decide) ?_
  refine lv_isub hx hb dL_partly_261 ?_
  refine W.eq (g2 := F0 m 262 ls [.int (6 : Int32), .int (10 : Int32), .int (0 : Int32), .ref (b + 0)]) (congrArg (fun v => F0 m 262 ls (.int v :: [.int (10 : Int32), .int (0 : Int32), .ref (b + 0)])) (show (16 : Int32) - (10 : Int32) = (6 : Int32) by decide)) ?_
  refine lv_bipush (v := (9 : Int32)) hx hb dL_partly_262 (by decide) ?_
  refine lv_idiv hx hb dL_partly_264 (by decide) ?_
  refine W.eq (g2 := F0 m 265 ls [.int (0 : Int32), .int (10 : Int32), .int (0 : Int32), .ref (b + 0)]) (congrArg (fun v => F0 m 265 ls (.int v :: [.int (10 : Int32), .int (0 : Int32), .ref (b + 0)])) (show (6 : Int32) / (9 : Int32) = (0 : Int32) by decide)) ?_
  refine lv_iconst (v := (1 : Int32)) hx hb dL_partly_265 (by decide) ?_
  refine lv_iadd hx hb dL_partly_266 ?_
  refine W.eq (g2 := F0 m 267 ls [.int (1 : Int32), .int (10 : Int32), .int (0 : Int32), .ref (b + 0)]) (congrArg (fun v => F0 m 267 ls (.int v :: [.int (10 : Int32), .int (0 : Int32), .ref (b + 0)])) (show (0 : Int32) + (1 : Int32) = (1 : Int32) by decide)) ?_
  refine lv_imul hx hb dL_partly_267 ?_
  refine W.eq (g2 := F0 m 268 ls [.int (10 : Int32), .int (0 : Int32), .ref (b + 0)]) (congrArg (fun v => F0 m 268 ls (.int v :: [.int (0 : Int32), .ref (b + 0)])) (show (10 : Int32) * (1 : Int32) = (10 : Int32) by decide)) ?_
  refine lv_iload_n hx hb dL_partly_268 rfl (lv_at hl 0 rfl) ?_
  refine lv_bipush (v := (10 : Int32)) hx hb dL_partly_269 (by decide) ?_
  refine lv_isub hx hb dL_partly_271 ?_
  refine W.eq (g2 := F0 m 272 ls [.int (6 : Int32), .int (10 : Int32), .int (0 : Int32), .ref (b + 0)]) (congrArg (fun v => F0 m 272 ls (.int v :: [.int (10 : Int32), .int (0 : Int32), .ref (b + 0)])) (show (16 : Int32) - (10 : Int32) = (6 : Int32) by decide)) ?_
  refine lv_bipush (v := (9 : Int32)) hx hb dL_partly_272 (by decide) ?_
  refine lv_irem hx hb dL_partly_274 (by decide) ?_
  refine W.eq (g2 := F0 m 275 ls [.int (6 : Int32), .int (10 : Int32), .int (0 : Int32), .ref (b + 0)]) (congrArg (fun v => F0 m 275 ls (.int v :: [.int (10 : Int32), .int (0 : Int32), .ref (b + 0)])) (show (6 : Int32) - (6 : Int32) / (9 : Int32) * (9 : Int32) = (6 : Int32) by decide)) ?_
  refine lv_iadd hx hb dL_partly_275 ?_
  refine W.eq (g2 := F0 m 276 ls [.int (16 : Int32), .int (0 : Int32), .ref (b + 0)]) (congrArg (fun v => F0 m 276 ls (.int v :: [.int (0 : Int32), .ref (b + 0)])) (show (10 : Int32) + (6 : Int32) = (16 : Int32) by decide)) ?_
  refine lv_iconst (v := (1 : Int32)) hx hb dL_partly_276 (by decide) ?_
  refine lv_iadd hx hb dL_partly_277 ?_
  refine W.eq (g2 := F0 m 278 ls [.int (17 : Int32), .int (0 : Int32), .ref (b + 0)]) (congrArg (fun v => F0 m 278 ls (.int v :: [.int (0 : Int32), .ref (b + 0)])) (show (16 : Int32) + (1 : Int32) = (17 : Int32) by decide)) ?_
  refine lv_iconst (v := (0 : Int32)) hx hb dL_partly_278 (by decide) ?_
  obtain ⟨M1, hc1, h1⟩ := s_mk V79 (0 : Int32) (c := (0 : Int32)) (x := (17 : Int32)) (tks := (0 : Int32)) h (by decide +kernel)
  have hc1 : f_X4_makeCollection M (0 : Int32) (17 : Int32) (0 : Int32) = some (.inr (0 : Int32), M1) := hc1
  refine kL_7R C hml hl.1 (c_X4_makeCollection hlf hc1) ⟨Nat.le_of_ble_eq_true rfl, Nat.le_of_ble_eq_true rfl⟩ ⟨by show _ ≤ 4189; omega, by show _ ≤ 25467; omega⟩ (Nat.le_of_ble_eq_true rfl) hS hW dL_partly_279 (fun H locs hW hS => ?_)
  refine lv_if_eq (tgt := 287) hx hb dL_partly_282 (by decide) (fun _ => ?_) (fun c => absurd (by decide) c)
  exact t_partly_17 C hml hr hlk hlf h1 hS hW (lv_sub hl [0, 1] rfl) ⟨by omega, by omega⟩
set_option maxHeartbeats 4000000 in
set_option maxRecDepth 100000 in
theorem t_partly_15 {p : Program} {l : Launch} {e : Env} {s : State} {m : MethodId} {args : Array Value} {below : List Frame} {meth : Method} {c : Code} {Z : Zt} {b : Nat} (C : Cx p s m args c cL_partly RL Z b) (hml : c.maxLocals = 2) (hr : meth.sig.returnType = some .boolean) (hlk : meth.locks = false) (hlf : l.stackTraces = false) {M : Mem} (h : RS M V77) {H : Heap} {locs : List Loc} {ls : Array Slot} {cells slots : Nat} (hS : va_S (A0 b) s.heap H locs) (hW : Wd Z b M H) (hl : lv_has ls 2 [(1, .int (14 : Int32)), (0, .ref (b + 0))]) (hcs : cells + 2196 ≤ 4189 ∧ slots + 13176 ≤ 25467) : W p l e rm_L_partly s m args below meth c H locs cells slots (MQ below (QT b) args s 4189 25467 (A0 b)) (F0 m 287 ls []) := by
  have hx := C.1
  have hb := C.2.1
  refine lv_iinc (v := (15 : Int32)) (lv' := [(1, .int (15 : Int32)), (0, .ref (b + 0))]) hx hb dL_partly_287 hl (k := 0) rfl (by decide) (by decide) rfl (fun ls hl => ?_)
  refine lv_goto (tgt := 238) hx hb dL_partly_290 (by decide) ?_
  refine lv_iload_n hx hb dL_partly_238 rfl (lv_at hl 0 rfl) ?_
  refine lv_bipush (v := (61 : Int32)) hx hb dL_partly_239 (by decide) ?_
  refine lv_icmp_ge (tgt := 293) hx hb dL_partly_241 (by decide) (fun c => absurd c (by decide)) (fun _ => ?_)
  refine lv_aload_n hx hb dL_partly_244 rfl (lv_at hl 1 rfl) ?_
  refine lv_iconst (v := (0 : Int32)) hx hb dL_partly_245 (by decide) ?_
  refine lv_iload_n hx hb dL_partly_246 rfl (lv_at hl 0 rfl) ?_
  refine lv_bipush (v := (10 : Int32)) hx hb dL_partly_247 (by decide) ?_
  refine lv_icmp_ge (tgt := 256) hx hb dL_partly_249 (by decide) (fun _ => ?_) (fun c => absurd (by decide) c)
  refine lv_bipush (v := (10 : Int32)) hx hb dL_partly_256 (by decide) ?_
  refine lv_iload_n hx hb dL_partly_258 rfl (lv_at hl 0 rfl) ?_
  refine lv_bipush (v := (10 : Int32)) hx hb dL_partly_259 (by decide) ?_
  refine lv_isub hx hb dL_partly_261 ?_
  refine W.eq (g2 := F0 m 262 ls [.int (5 : Int32), .int (10 : Int32), .int (0 : Int32), .ref (b + 0)]) (congrArg (fun v => F0 m 262 ls (.int v :: [.int (10 : Int32), .int (0 : Int32), .ref (b + 0)])) (show (15 : Int32) - (10 : Int32) = (5 : Int32) by decide)) ?_
  refine lv_bipush (v := (9 : Int32)) hx hb dL_partly_262 (by decide) ?_
  refine lv_idiv hx hb dL_partly_264 (by decide) ?_
  refine W.eq (g2 := F0 m 265 ls [.int (0 : Int32), .int (10 : Int32), .int (0 : Int32), .ref (b + 0)]) (congrArg (fun v => F0 m 265 ls (.int v :: [.int (10 : Int32), .int (0 : Int32), .ref (b + 0)])) (show (5 : Int32) / (9 : Int32) = (0 : Int32) by decide)) ?_
  refine lv_iconst (v := (1 : Int32)) hx hb dL_partly_265 (by decide) ?_
  refine lv_iadd hx hb dL_partly_266 ?_
  refine W.eq (g2 := F0 m 267 ls [.int (1 : Int32), .int (10 : Int32), .int (0 : Int32), .ref (b + 0)]) (congrArg (fun v => F0 m 267 ls (.int v :: [.int (10 : Int32), .int (0 : Int32), .ref (b + 0)])) (show (0 : Int32) + (1 : Int32) = (1 : Int32) by decide)) ?_
  refine lv_imul hx hb dL_partly_267 ?_
  refine W.eq (g2 := F0 m 268 ls [.int (10 : Int32), .int (0 : Int32), .ref (b + 0)]) (congrArg (fun v => F0 m 268 ls (.int v :: [.int (0 : Int32), .ref (b + 0)])) (show (10 : Int32) * (1 : Int32) = (10 : Int32) by decide)) ?_
  refine lv_iload_n hx hb dL_partly_268 rfl (lv_at hl 0 rfl) ?_
  refine lv_bipush (v := (10 : Int32)) hx hb dL_partly_269 (by decide) ?_
  refine lv_isub hx hb dL_partly_271 ?_
  refine W.eq (g2 := F0 m 272 ls [.int (5 : Int32), .int (10 : Int32), .int (0 : Int32), .ref (b + 0)]) (congrArg (fun v => F0 m 272 ls (.int v :: [.int (10 : Int32), .int (0 : Int32), .ref (b + 0)])) (show (15 : Int32) - (10 : Int32) = (5 : Int32) by decide)) ?_
  refine lv_bipush (v := (9 : Int32)) hx hb dL_partly_272 (by decide) ?_
  refine lv_irem hx hb dL_partly_274 (by decide) ?_
  refine W.eq (g2 := F0 m 275 ls [.int (5 : Int32), .int (10 : Int32), .int (0 : Int32), .ref (b + 0)]) (congrArg (fun v => F0 m 275 ls (.int v :: [.int (10 : Int32), .int (0 : Int32), .ref (b + 0)])) (show (5 : Int32) - (5 : Int32) / (9 : Int32) * (9 : Int32) = (5 : Int32) by decide)) ?_
  refine lv_iadd hx hb dL_partly_275 ?_
  refine W.eq (g2 := F0 m 276 ls [.int (15 : Int32), .int (0 : Int32), .ref (b + 0)]) (congrArg (fun v => F0 m 276 ls (.int v :: [.int (0 : Int32), .ref (b + 0)])) (show (10 : Int32) + (5 : Int32) = (15 : Int32) by decide)) ?_
  refine lv_iconst (v := (1 : Int32)) hx hb dL_partly_276 (by decide) ?_
  refine lv_iadd hx hb dL_partly_277 ?_
  refine W.eq (g2 := F0 m 278 ls [.int (16 : Int32), .int (0 : Int32), .ref (b + 0)]) (congrArg (fun v => F0 m 278 ls (.int v :: [.int (0 : Int32), .ref (b + 0)])) (show (15 : Int32) + (1 : Int32) = (16 : Int32) by decide)) ?_
  refine lv_iconst (v := (0 : Int32)) hx hb dL_partly_278 (by decide) ?_
  obtain ⟨M1, hc1, h1⟩ := s_mk V78 (0 : Int32) (c := (0 : Int32)) (x := (16 : Int32)) (tks := (0 : Int32)) h (by decide +kernel)
  have hc1 : f_X4_makeCollection M (0 : Int32) (16 : Int32) (0 : Int32) = some (.inr (0 : Int32), M1) := hc1
  refine kL_7R C hml hl.1 (c_X4_makeCollection hlf hc1) ⟨Nat.le_of_ble_eq_true rfl, Nat.le_of_ble_eq_true rfl⟩ ⟨by show _ ≤ 4189; omega, by show _ ≤ 25467; omega⟩ (Nat.le_of_ble_eq_true rfl) hS hW dL_partly_279 (fun H locs hW hS => ?_)
  refine lv_if_eq (tgt := 287) hx hb dL_partly_282 (by decide) (fun _ => ?_) (fun c => absurd (by decide) c)
  exact t_partly_16 C hml hr hlk hlf h1 hS hW (lv_sub hl [0, 1] rfl) ⟨by omega, by omega⟩

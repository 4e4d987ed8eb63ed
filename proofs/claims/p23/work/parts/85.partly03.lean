set_option maxHeartbeats 4000000 in
set_option maxRecDepth 100000 in
theorem t_partly_14 {p : Program} {l : Launch} {e : Env} {s : State} {m : MethodId} {args : Array Value} {below : List Frame} {meth : Method} {c : Code} {Z : Zt} {b : Nat} (C : Cx p s m args c cL_partly RL Z b) (hml : c.maxLocals = 2) (hr : meth.sig.returnType = some .boolean) (hlk : meth.locks = false) (hlf : l.stackTraces = false) {M : Mem} (h : RS M V76) {H : Heap} {locs : List Loc} {ls : Array Slot} {cells slots : Nat} (hS : va_S (A0 b) s.heap H locs) (hW : Wd Z b M H) (hl : lv_has ls 2 [(1, .int (13 : Int32)), (0, .ref (b + 0))]) (hcs : cells + 2200 ≤ 4189 ∧ slots + 13200 ≤ 25467) : W p l e rm_L_partly s m args below meth c H locs cells slots (MQ below (QT b) args s 4189 25467 (A0 b)) (F0 m 287 ls []) := by
  have hx := C.1
  have hb := C.2.1
  refine lv_iinc (v := (14 : Int32)) (lv' := [(1, .int (14 : Int32)), (0, .ref (b + 0))]) hx hb dL_partly_287 hl (k := 0) rfl (by decide) (by decide) rfl (fun ls hl => ?_)
  refine lv_goto (tgt := 238) hx hb dL_partly_290 (by decide) ?_
  refine lv_iload_n hx hb dL_partly_238 rfl (lv_at hl 0 rfl) ?_
  refine lv_bipush (v := (61 : Int32)) hx hb dL_partly_239 (by decide) ?_
  refine lv_icmp_ge (tgt := 293) hx hb dL_partly_241 (by decide) (fun c => absurd c (by decide)) (fun _ => ?_)
  refine lv_aload_n hx hb dL_partly_244 rfl (lv_at hl 1 rfl) ?_
  refine lv_iconst (v := (0 : Int32)) hx hb dL_partly_245 (by decide) ?_
  refine lv_iload_n hx hb dL_partly_246 rfl (lv_at hl 0 rfl) ?_
  refine lv_bipush (v := (10 : Int32)) hx hb dL_partly_247 (by decide) ?_
  refine lv_icmp_ge (tgt := 256) hx hb dL_partly_249 (by decide) (fun _ => ?_) (fun c => absurd (by decide) c)
  refine lv_bipush (v := (10 : Int32)) hx hb dL_partly_256 (by decide) ?_
  refine lv_iload_n hx hb dL_partly_258 rfl (lv_at hl 0 rfl) ?_
  refine lv_bipush (v := (10 : Int32)) hx hb dL_partly_259 (by decide) ?_
  refine lv_isub hx hb dL_partly_261 ?_
  refine W.eq (g2 := F0 m 262 ls [.int (4 : Int32), .int (10 : Int32), .int (0 : Int32), .ref (b + 0)]) (congrArg (fun v => F0 m 262 ls (.int v :: [.int (10 : Int32), .int (0 : Int32), .ref (b + 0)])) (show (14 : Int32) - (10 : Int32) = (4 : Int32) by decide)) ?_
  refine lv_bipush (v := (9 : Int32)) hx hb dL_partly_262 (by decide) ?_
  refine lv_idiv hx hb dL_partly_264 (by decide) ?_
  refine W.eq (g2 := F0 m 265 ls [.int (0 : Int32), .int (10 : Int32), .int (0 : Int32), .ref (b + 0)]) (congrArg (fun v => F0 m 265 ls (.int v :: [.int (10 : Int32), .int (0 : Int32), .ref (b + 0)])) (show (4 : Int32) / (9 : Int32) = (0 : Int32) by decide)) ?_
  refine lv_iconst (v := (1 : Int32)) hx hb dL_partly_265 (by decide) ?_
  refine lv_iadd hx hb dL_partly_266 ?_
  refine W.eq (g2 := F0 m 267 ls [.int (1 : Int32), .int (10 : Int32), .int (0 : Int32), .ref (b + 0)]) (congrArg (fun v => F0 m 267 ls (.int v :: [.int (10 : Int32), .int (0 : Int32), .ref (b + 0)])) (show (0 : Int32) + (1 : Int32) = (1 : Int32) by decide)) ?_
  refine lv_imul hx hb dL_partly_267 ?_
  refine W.eq (g2 := F0 m 268 ls [.int (10 : Int32), .int (0 : Int32), .ref (b + 0)]) (congrArg (fun v => F0 m 268 ls (.int v :: [.int (0 : Int32), .ref (b + 0)])) (show (10 : Int32) * (1 : Int32) = (10 : Int32) by decide)) ?_
  refine lv_iload_n hx hb dL_partly_268 rfl (lv_at hl 0 rfl) ?_
  refine lv_bipush (v := (10 : Int32)) hx hb dL_partly_269 (by decide) ?_
  refine lv_isub hx hb dL_partly_271 ?_
  refine W.eq (g2 := F0 m 272 ls [.int (4 : Int32), .int (10 : Int32), .int (0 : Int32), .ref (b + 0)]) (congrArg (fun v => F0 m 272 ls (.int v :: [.int (10 : Int32), .int (0 : Int32), .ref (b + 0)])) (show (14 : Int32) - (10 : Int32) = (4 : Int32) by decide)) ?_
  refine lv_bipush (v := (9 : Int32)) hx hb dL_partly_272 (by decide) ?_
  refine lv_irem hx hb dL_partly_274 (by decide) ?_
  refine W.eq (g2 := F0 m 275 ls [.int (4 : Int32), .int (10 : Int32), .int (0 : Int32), .ref (b + 0)]) (congrArg (fun v => F0 m 275 ls (.int v :: [.int (10 : Int32), .int (0 : Int32), .ref (b + 0)])) (show (4 : Int32) - (4 : Int32) / (9 : Int32) * (9 : Int32) = (4 : Int32) by decide)) ?_
  refine lv_iadd hx hb dL_partly_275 ?_
  refine W.eq (g2 := F0 m 276 ls [.int (14 : Int32), .int (0 : Int32), .ref (b + 0)]) (congrArg (fun v => F0 m 276 ls (.int v :: [.int (0 : Int32), .ref (b + 0)])) (show (10 : Int32) + (4 : Int32) = (14 : Int32) by decide)) ?_
  refine lv_iconst (v := (1 : Int32)) hx hb dL_partly_276 (by decide) ?_
  refine lv_iadd hx hb dL_partly_277 ?_
  refine W.eq (g2 := F0 m 278 ls [.int (15 : Int32), .int (0 : Int32), .ref (b + 0)]) (congrArg (fun v => F0 m 278 ls (.int v :: [.int (0 : Int32), .ref (b + 0)])) (show (14 : Int32) + (1 : Int32) = (15 : Int32) by decide)) ?_
  refine lv_iconst (v := (0 : Int32)) hx hb dL_partly_278 (by decide) ?_
  obtain ⟨M1, hc1, h1⟩ := s_mk V77 (0 : Int32) (c := (0 : Int32)) (x := (15 : Int32)) (tks := (0 : Int32)) h (by decide +kernel)
  have hc1 : f_X4_makeCollection M (0 : Int32) (15 : Int32) (0 : Int32) = some (.inr (0 : Int32), M1) := hc1
  refine kL_7R C hml hl.1 (c_X4_makeCollection hlf hc1) ⟨Nat.le_of_ble_eq_true rfl, Nat.le_of_ble_eq_true rfl⟩ ⟨by show _ ≤ 4189; omega, by show _ ≤ 25467; omega⟩ (Nat.le_of_ble_eq_true rfl) hS hW dL_partly_279 (fun H locs hW hS => ?_)
  refine lv_if_eq (tgt := 287) hx hb dL_partly_282 (by decide) (fun _ => ?_) (fun c => absurd (by decide) c)
  exact t_partly_15 C hml hr hlk hlf h1 hS hW (lv_sub hl [0, 1] rfl) ⟨by omega, by omega⟩
set_option maxHeartbeats 4000000 in
set_option maxRecDepth 100000 in
theorem t_partly_13 {p : Program} {l : Launch} {e : Env} {s : State} {m : MethodId} {args : Array Value} {below : List Frame} {meth : Method} {c : Code} {Z : Zt} {b : Nat} (C : Cx p s m args c cL_partly RL Z b) (hml : c.maxLocals = 2) (hr : meth.sig.returnType = some .boolean) (hlk : meth.locks = false) (hlf : l.stackTraces = false) {M : Mem} (h : RS M V75) {H : Heap} {locs : List Loc} {ls : Array Slot} {cells slots : Nat} (hS : va_S (A0 b) s.heap H locs) (hW : Wd Z b M H) (hl : lv_has ls 2 [(1, .int (12 : Int32)), (0, .ref (b + 0))]) (hcs : cells + 2204 ≤ 4189 ∧ slots + 13224 ≤ 25467) : W p l e rm_L_partly s m args below meth c H locs cells slots (MQ below (QT b) args s 4189 25467 (A0 b)) (F0 m 287 ls []) := by
  have hx := C.1
  have hb := C.2.1
  refine lv_iinc (v := (13 : Int32)) (lv' := [(1, .int (13 : Int32)), (0, .ref (b + 0))]) hx hb dL_partly_287 hl (k := 0) rfl (by decide) (by decide) rfl (fun ls hl => ?_)
  refine lv_goto (tgt := 238) hx hb dL_partly_290 (by decide) ?_
  refine lv_iload_n hx hb dL_partly_238 rfl (lv_at hl 0 rfl) ?_
  refine lv_bipush (v := (61 : Int32)) hx hb dL_partly_239 (by decide) ?_
  refine lv_icmp_ge (tgt := 293) hx hb dL_partly_241 (by decide) (fun c => absurd c (by decide)) (fun _ => ?_)
  refine lv_aload_n hx hb dL_partly_244 rfl (lv_at hl 1 rfl) ?_
  refine lv_iconst (v := (0 : Int32)) hx hb dL_partly_245 (by decide) ?_
  refine lv_iload_n hx hb dL_partly_246 rfl (lv_at hl 0 rfl) ?_
  refine lv_bipush (v := (10 : Int32)) hx hb dL_partly_247 (by decide) ?_
  refine lv_icmp_ge (tgt := 256) hx hb dL_partly_249 (by decide) (fun _ => ?_) (fun c => absurd (by decide) c)
  refine lv_bipush (v := (10 : Int32)) hx hb dL_partly_256 (by decide) ?_
  refine lv_iload_n hx hb dL_partly_258 rfl (lv_at hl 0 rfl) ?_
  refine lv_bipush (v := (10 : Int32)) hx hb dL_partly_259 (by decide) ?_
  refine lv_isub hx hb dL_partly_261 ?_
  refine W.eq (g2 := F0 m 262 ls [.int (3 : Int32), .int (10 : Int32), .int (0 : Int32), .ref (b + 0)]) (congrArg (fun v => F0 m 262 ls (.int v :: [.int (10 : Int32), .int (0 : Int32), .ref (b + 0)])) (show (13 : Int32) - (10 : Int32) = (3 : Int32) by decide)) ?_
  refine lv_bipush (v := (9 : Int32)) hx hb dL_partly_262 (by decide) ?_
  refine lv_idiv hx hb dL_partly_264 (by decide) ?_
  refine W.eq (g2 := F0 m 265 ls [.int (0 : Int32), .int (10 : Int32), .int (0 : Int32), .ref (b + 0)]) (congrArg (fun v => F0 m 265 ls (.int v :: [.int (10 : Int32), .int (0 : Int32), .ref (b + 0)])) (show (3 : Int32) / (9 : Int32) = (0 : Int32) by decide)) ?_
  refine lv_iconst (v := (1 : Int32)) hx hb dL_partly_265 (by decide) ?_
  refine lv_iadd hx hb dL_partly_266 ?_
  refine W.eq (g2 := F0 m 267 ls [.int (1 : Int32), .int (10 : Int32), .int (0 : Int32), .ref (b + 0)]) (congrArg (fun v => F0 m 267 ls (.int v :: [.int (10 : Int32), .int (0 : Int32), .ref (b + 0)])) (show (0 : Int32) + (1 : Int32) = (1 : Int32) by decide)) ?_
  refine lv_imul hx hb dL_partly_267 ?_
  refine W.eq (g2 := F0 m 268 ls [.int (10 : Int32), .int (0 : Int32), .ref (b + 0)]) (congrArg (fun v => F0 m 268 ls (.int v :: [.int (0 : Int32), .ref (b + 0)])) (show (10 : Int32) * (1 : Int32) = (10 : Int32) by decide)) ?_
  refine lv_iload_n hx hb dL_partly_268 rfl (lv_at hl 0 rfl) ?_
  refine lv_bipush (v := (10 : Int32)) hx hb dL_partly_269 (by decide) ?_
  refine lv_isub hx hb dL_partly_271 ?_
  refine W.eq (g2 := F0 m 272 ls [.int (3 : Int32), .int (10 : Int32), .int (0 : Int32), .ref (b + 0)]) (congrArg (fun v => F0 m 272 ls (.int v :: [.int (10 : Int32), .int (0 : Int32), .ref (b + 0)])) (show (13 : Int32) - (10 : Int32) = (3 : Int32) by decide)) ?_
  refine lv_bipush (v := (9 : Int32)) hx hb dL_partly_272 (by decide) ?_
  refine lv_irem hx hb dL_partly_274 (by decide) ?_
  refine W.eq (g2 := F0 m 275 ls [.int (3 : Int32), .int (10 : Int32), .int (0 : Int32), .ref (b + 0)]) (congrArg (fun v => F0 m 275 ls (.int v :: [.int (10 : Int32), .int (0 : Int32), .ref (b + 0)])) (show (3 : Int32) - (3 : Int32) / (9 : Int32) * (9 : Int32) = (3 : Int32) by decide)) ?_
  refine lv_iadd hx hb dL_partly_275 ?_
  refine W.eq (g2 := F0 m 276 ls [.int (13 : Int32), .int (0 : Int32), .ref (b + 0)]) (congrArg (fun v => F0 m 276 ls (.int v :: [.int (0 : Int32), .ref (b + 0)])) (show (10 : Int32) + (3 : Int32) = (13 : Int32) by decide)) ?_
  refine lv_iconst (v := (1 : Int32)) hx hb dL_partly_276 (by decide) ?_
  refine lv_iadd hx hb dL_partly_277 ?_
  refine W.eq (g2 := F0 m 278 ls [.int (14 : Int32), .int (0 : Int32), .ref (b + 0)]) (congrArg (fun v => F0 m 278 ls (.int v :: [.int (0 : Int32), .ref (b + 0)])) (show (13 : Int32) + (1 : Int32) = (14 : Int32) by decide)) ?_
  refine lv_iconst (v := (0 : Int32)) hx hb dL_partly_278 (by decide) ?_
  obtain ⟨M1, hc1, h1⟩ := s_mk V76 (0 : Int32) (c := (0 : Int32)) (x := (14 : Int32)) (tks := (0 : Int32)) h (by decide +kernel)
  have hc1 : f_X4_makeCollection M (0 : Int32) (14 : Int32) (0 : Int32) = some (.inr (0 : Int32), M1) := hc1
  refine kL_7R C hml hl.1 (c_X4_makeCollection hlf hc1) ⟨Nat.le_of_ble_eq_true rfl, Nat.le_of_ble_eq_true rfl⟩ ⟨by show _ ≤ 4189; omega, by show _ ≤ 25467; omega⟩ (Nat.le_of_ble_eq_true rfl) hS hW dL_partly_279 (fun H locs hW hS => ?_)
  refine lv_if_eq (tgt := 287) hx hb dL_partly_282 (by decide) (fun _ => ?_) (fun c => absurd (by decide) c)
  exact t_partly_14 C hml hr hlk hlf h1 hS hW (lv_sub hl [0, 1] rfl) ⟨by omega, by omega⟩
set_option maxHeartbeats 4000000 in
set_option maxRecDepth 100000 in
theorem t_partly_12 {p : Program} {l : Launch} {e : Env} {s : State} {m : MethodId} {args : Array Value} {below : List Frame} {meth : Method} {c : Code} {Z : Zt} {b : Nat} (C : Cx p s m args c cL_partly RL Z b) (hml : c.maxLocals = 2) (hr : meth.sig.returnType = some .boolean) (hlk : meth.locks = false) (hlf : l.stackTraces = false) {M : Mem} (h : RS M V74) {H : Heap} {locs : List Loc} {ls : Array Slot} {cells slots : Nat} (hS : va_S (A0 b) s.heap H locs) (hW : Wd Z b M H) (hl : lv_has ls 2 [(1, .int (11 : Int32)), (0, .ref (b + 0))]) (hcs : cells + 2208 ≤ 4189 ∧ slots + 13248 ≤ 25467) : W p l e rm_L_partly s m args below meth c H locs cells slots (MQ below (QT b) args s 4189 25467 (A0 b)) (F0 m 287 ls []) := by
  have hx := C.1
  have hb := C.2.1
  refine lv_iinc (v := (12 : Int32)) (lv' := [(1, .int (12 : Int32)), (0, .ref (b + 0))]) hx hb dL_partly_287 hl (k := 0) rfl (by decide) (by decide) rfl (fun ls hl => ?_)
  refine lv_goto (tgt := 238) hx hb dL_partly_290 (by decide) ?_
  refine lv_iload_n hx hb dL_partly_238 rfl (lv_at hl 0 rfl) ?_
  refine lv_bipush (v := (61 : Int32)) hx hb dL_partly_239 (by decide) ?_
  refine lv_icmp_ge (tgt := 293) hx hb dL_partly_241 (by decide) (fun c => absurd c (by decide)) (fun _ => ?_)
  refine lv_aload_n hx hb dL_partly_244 rfl (lv_at hl 1 rfl) ?_
  refine lv_iconst (v := (0 : Int32)) hx hb dL_partly_245 (by decide) ?_
  refine lv_iload_n hx hb dL_partly_246 rfl (lv_at hl 0 rfl) ?_
  refine lv_bipush (v := (10 : Int32)) hx hb dL_partly_247 (by decide) ?_
  refine lv_icmp_ge (tgt := 256) hx hb dL_partly_249 (by decide) (fun _ => ?_) (fun c => absurd (by decide) c)
  refine lv_bipush (v := (10 : Int32)) hx hb dL_partly_256 (by decide) ?_
  refine lv_iload_n hx hb dL_partly_258 rfl (lv_at hl 0 rfl) ?_
  refine lv_bipush (v := (10 : Int32)) hx hb dL_partly_259 (by decide) ?_
  refine lv_isub hx hb dL_partly_261 ?_
  refine W.eq (g2 := F0 m 262 ls [.int (2 : Int32), .int (10 : Int32), .int (0 : Int32), .ref (b + 0)]) (congrArg (fun v => F0 m 262 ls (.int v :: [.int (10 : Int32), .int (0 : Int32), .ref (b + 0)])) (show (12 : Int32) - (10 : Int32) = (2 : Int32) by decide)) ?_
  refine lv_bipush (v := (9 : Int32)) hx hb dL_partly_262 (by decide) ?_
  refine lv_idiv hx hb dL_partly_264 (by decide) ?_
  refine W.eq (g2 := F0 m 265 ls [.int (0 : Int32), .int (10 : Int32), .int (0 : Int32), .ref (b + 0)]) (congrArg (fun v => F0 m 265 ls (.int v :: [.int (10 : Int32), .int (0 : Int32), .ref (b + 0)])) (show (2 : Int32) / (9 : Int32) = (0 : Int32) by decide)) ?_
  refine lv_iconst (v := (1 : Int32)) hx hb dL_partly_265 (by decide) ?_
  refine lv_iadd hx hb dL_partly_266 ?_
  refine W.eq (g2 := F0 m 267 ls [.int (1 : Int32), .int (10 : Int32), .int (0 : Int32), .ref (b + 0)]) (congrArg (fun v => F0 m 267 ls (.int v :: [.int (10 : Int32), .int (0 : Int32), .ref (b + 0)])) (show (0 : Int32) + (1 : Int32) = (1 : Int32) by decide)) ?_
  refine lv_imul hx hb dL_partly_267 ?_
  refine W.eq (g2 := F0 m 268 ls [.int (10 : Int32), .int (0 : Int32), .ref (b + 0)]) (congrArg (fun v => F0 m 268 ls (.int v :: [.int (0 : Int32), .ref (b + 0)])) (show (10 : Int32) * (1 : Int32) = (10 : Int32) by decide)) ?_
  refine lv_iload_n hx hb dL_partly_268 rfl (lv_at hl 0 rfl) ?_
  refine lv_bipush (v := (10 : Int32)) hx hb dL_partly_269 (by decide) ?_
  refine lv_isub hx hb dL_partly_271 ?_
  refine W.eq (g2 := F0 m 272 ls [.int (2 : Int32), .int (10 : Int32), .int (0 : Int32), .ref (b + 0)]) (congrArg (fun v => F0 m 272 ls (.int v :: [.int (10 : Int32), .int (0 : Int32), .ref (b + 0)])) (show (12 : Int32) - (10 : Int32) = (2 : Int32) by decide)) ?_
  refine lv_bipush (v := (9 : Int32)) hx hb dL_partly_272 (by decide) ?_
  refine lv_irem hx hb dL_partly_274 (by decide) ?_
  refine W.eq (g2 := F0 m 275 ls [.int (2 : Int32), .int (10 : Int32), .int (0 : Int32), .ref (b + 0)]) (congrArg (fun v => F0 m 275 ls (.int v :: [.int (10 : Int32), .int (0 : Int32), .ref (b + 0)])) (show (2 : Int32) - (2 : Int32) / (9 : Int32) * (9 : Int32) = (2 : Int32) by decide)) ?_
  refine lv_iadd hx hb dL_partly_275 ?_
  refine W.eq (g2 := F0 m 276 ls [.int (12 : Int32), .int (0 : Int32), .ref (b + 0)]) (congrArg (fun v => F0 m 276 ls (.int v :: [.int (0 : Int32), .ref (b + 0)])) (show (10 : Int32) + (2 : Int32) = (12 : Int32) by decide)) ?_
  refine lv_iconst (v := (1 : Int32)) hx hb dL_partly_276 (by decide) ?_
  refine lv_iadd hx hb dL_partly_277 ?_
  refine W.eq (g2 := F0 m 278 ls [.int (13 : Int32), .int (0 : Int32), .ref (b + 0)]) (congrArg (fun v => F0 m 278 ls (.int v :: [.int (0 : Int32), .ref (b + 0)])) (show (12 : Int32) + (1 : Int32) = (13 : Int32) by decide)) ?_
  refine lv_iconst (v := (0 : Int32)) hx hb dL_partly_278 (by decide) ?_
  obtain ⟨M1, hc1, h1⟩ := s_mk V75 (0 : Int32) (c := (0 : Int32)) (x := (13 : Int32)) (tks := (0 : Int32)) h (by decide +kernel)
  have hc1 : f_X4_makeCollection M (0 : Int32) (13 : Int32) (0 : Int32) = some (.inr (0 : Int32), M1) := hc1
  refine kL_7R C hml hl.1 (c_X4_makeCollection hlf hc1) ⟨Nat.le_of_ble_eq_true rfl, Nat.le_of_ble_eq_true rfl⟩ ⟨by show _ ≤ 4189; omega, by show _ ≤ 25467; omega⟩ (Nat.le_of_ble_eq_true rfl) hS hW dL_partly_279 (fun H locs hW hS => ?_)
  refine lv_if_eq (tgt := 287) hx hb dL_partly_282 (by decide) (fun _ => ?_) (fun c => absurd (by decide) c)
  exact t_partly_13 C hml hr hlk hlf h1 hS hW (lv_sub hl [0, 1] rfl) ⟨by omega, by omega⟩
set_option maxHeartbeats 4000000 in
set_option maxRecDepth 100000 in
theorem t_partly_11 {p : Program} {l : Launch} {e : Env} {s : State} {m : MethodId} {args : Array Value} {below : List Frame} {meth : Method} {c : Code} {Z : Zt} {b : Nat} (C : Cx p s m args c cL_partly RL Z b) (hml : c.maxLocals = 2) (hr : meth.sig.returnType = some .boolean) (hlk : meth.locks = false) (hlf : l.stackTraces = false) {M : Mem} (h : RS M V73) {H : Heap} {locs : List Loc} {ls : Array Slot} {cells slots : Nat} (hS : va_S (A0 b) s.heap H locs) (hW : Wd Z b M H) (hl : lv_has ls 2 [(1, .int (10 : Int32)), (0, .ref (b + 0))]) (hcs : cells + 2212 ≤ 4189 ∧ slots + 13272 ≤ 25467) : W p l e rm_L_partly s m args below meth c H locs cells slots (MQ below (QT b) args s 4189 25467 (A0 b)) (F0 m 287 ls []) := by
  have hx := C.1
  have hb := C.2.1
  refine lv_iinc (v := (11 : Int32)) (lv' := [(1, .int (11 : Int32)), (0, .ref (b + 0))]) hx hb dL_partly_287 hl (k := 0) rfl (by decide) (by decide) rfl (fun ls hl => ?_)
  refine lv_goto (tgt := 238) hx hb dL_partly_290 (by decide) ?_
  refine lv_iload_n hx hb dL_partly_238 rfl (lv_at hl 0 rfl) ?_
  refine lv_bipush (v := (61 : Int32)) hx hb dL_partly_239 (by decide) ?_
  refine lv_icmp_ge (tgt := 293) hx hb dL_partly_241 (by decide) (fun c => absurd c (by decide)) (fun _ => ?_)
  refine lv_aload_n hx hb dL_partly_244 rfl (lv_at hl 1 rfl) ?_
  refine lv_iconst (v := (0 : Int32)) hx hb dL_partly_245 (by decide) ?_
  refine lv_iload_n hx hb dL_partly_246 rfl (lv_at hl 0 rfl) ?_
  refine lv_bipush (v := (10 : Int32)) hx hb dL_partly_247 (by decide) ?_
  refine lv_icmp_ge (tgt := 256) hx hb dL_partly_249 (by decide) (fun _ => ?_) (fun c => absurd (by decide) c)
  refine lv_bipush (v := (10 : Int32)) hx hb dL_partly_256 (by decide) ?_
  refine lv_iload_n hx hb dL_partly_258 rfl (lv_at hl 0 rfl) ?_
  refine lv_bipush (v := (10 : Int32)) hx hb dL_partly_259 (by decide) ?_
  refine lv_isub hx hb dL_partly_261 ?_
  refine W.eq (g2 := F0 m 262 ls [.int (1 : Int32), .int (10 : Int32), .int (0 : Int32), .ref (b + 0)]) (congrArg (fun v => F0 m 262 ls (.int v :: [.int (10 : Int32), .int (0 : Int32), .ref (b + 0)])) (show (11 : Int32) - (10 : Int32) = (1 : Int32) by decide)) ?_
  refine lv_bipush (v := (9 : Int32)) hx hb dL_partly_262 (by decide) ?_
  refine lv_idiv hx hb dL_partly_264 (by decide) ?_
  refine W.eq (g2 := F0 m 265 ls [.int (0 : Int32), .int (10 : Int32), .int (0 : Int32), .ref (b + 0)]) (congrArg (fun v => F0 m 265 ls (.int v :: [.int (10 : Int32), .int (0 : Int32), .ref (b + 0)])) (show (1 : Int32) / (9 : Int32) = (0 : Int32) by decide)) ?_
  refine lv_iconst (v := (1 : Int32)) hx hb dL_partly_265 (by decide) ?_
  refine lv_iadd hx hb dL_partly_266 ?_
  refine W.eq (g2 := F0 m 267 ls [.int (1 : Int32), .int (10 : Int32), .int (0 : Int32), .ref (b + 0)]) (congrArg (fun v => F0 m 267 ls (.int v :: [.int (10 : Int32), .int (0 : Int32), .ref (b + 0)])) (show (0 : Int32) + (1 : Int32) = (1 : Int32) by decide)) ?_
  refine lv_imul hx hb dL_partly_267 ?_
  refine W.eq (g2 := F0 m 268 ls [.int (10 : Int32), .int (0 : Int32), .ref (b + 0)]) (congrArg (fun v => F0 m 268 ls (.int v :: [.int (0 : Int32), .ref (b + 0)])) (show (10 : Int32) * (1 : Int32) = (10 : Int32) by decide)) ?_
  refine lv_iload_n hx hb dL_partly_268 rfl (lv_at hl 0 rfl) ?_
  refine lv_bipush (v := (10 : Int32)) hx hb dL_partly_269 (by decide) ?_
  refine lv_isub hx hb dL_partly_271 ?_
  refine W.eq (g2 := F0 m 272 ls [.int (1 : Int32), .int (10 : Int32), .int (0 : Int32), .ref (b + 0)]) (congrArg (fun v => F0 m 272 ls (.int v :: [.int (10 : Int32), .int (0 : Int32), .ref (b + 0)])) (show (11 : Int32) - (10 : Int32) = (1 : Int32) by decide)) ?_
  refine lv_bipush (v := (9 : Int32)) hx hb dL_partly_272 (by decide) ?_
  refine lv_irem hx hb dL_partly_274 (by decide) ?_
  refine W.eq (g2 := F0 m 275 ls [.int (1 : Int32), .int (10 : Int32), .int (0 : Int32), .ref (b + 0)]) (congrArg (fun v => F0 m 275 ls (.int v :: [.int (10 : Int32), .int (0 : Int32), .ref (b + 0)])) (show (1 : Int32) - (1 : Int32) / (9 : Int32) * (9 : Int32) = (1 : Int32) by decide)) ?_
  refine lv_iadd hx hb dL_partly_275 ?_
  refine W.eq (g2 := F0 m 276 ls [.int (11 : Int32), .int (0 : Int32), .ref (b + 0)]) (congrArg (fun v => F0 m 276 ls (.int v :: [.int (0 : Int32), .ref (b + 0)])) (show (10 : Int32) + (1 : Int32) = (11 : Int32) by decide)) ?_
  refine lv_iconst (v := (1 : Int32)) hx hb dL_partly_276 (by decide) ?_
  refine lv_iadd hx hb dL_partly_277 ?_
  refine W.eq (g2 := F0 m 278 ls [.int (12 : Int32), .int (0 : Int32), .ref (b + 0)]) (congrArg (fun v => F0 m 278 ls (.int v :: [.int (0 : Int32), .ref (b + 0)])) (show (11 : Int32) + (1 : Int32) = (12 : Int32) by decide)) ?_
  refine lv_iconst (v := (0 : Int32)) hx hb dL_partly_278 (by decide) ?_
  obtain ⟨M1, hc1, h1⟩ := s_mk V74 (0 : Int32) (c := (0 : Int32)) (x := (12 : Int32)) (tks := (0 : Int32)) h (by decide +kernel)
  have hc1 : f_X4_makeCollection M (0 : Int32) (12 : Int32) (0 : Int32) = some (.inr (0 : Int32), M1) := hc1
  refine kL_7R C hml hl.1 (c_X4_makeCollection hlf hc1) ⟨Nat.le_of_ble_eq_true rfl, Nat.le_of_ble_eq_true rfl⟩ ⟨by show _ ≤ 4189; omega, by show _ ≤ 25467; omega⟩ (Nat.le_of_ble_eq_true rfl) hS hW dL_partly_279 (fun H locs hW hS => ?_)
  refine lv_if_eq (tgt := 287) hx hb dL_partly_282 (by decide) (fun _ => ?_) (fun c => absurd (by decide) c)
  exact t_partly_12 C hml hr hlk hlf h1 hS hW (lv_sub hl [0, 1] rfl) ⟨by omega, by omega⟩
set_option maxHeartbeats 4000000 in
set_option maxRecDepth 100000 in
theorem t_partly_10 {p : Program} {l : Launch} {e : Env} {s : State} {m : MethodId} {args : Array Value} {below : List Frame} {meth : Method} {c : Code} {Z : Zt} {b : Nat} (C : Cx p s m args c cL_partly RL Z b) (hml : c.maxLocals = 2) (hr : meth.sig.returnType = some .boolean) (hlk : meth.locks = false) (hlf : l.stackTraces = false) {M : Mem} (h : RS M V72) {H : Heap} {locs : List Loc} {ls : Array Slot} {cells slots : Nat} (hS : va_S (A0 b) s.heap H locs) (hW : Wd Z b M H) (hl : lv_has ls 2 [(1, .int (10 : Int32)), (0, .ref (b + 0))]) (hcs : cells + 2216 ≤ 4189 ∧ slots + 13296 ≤ 25467) : W p l e rm_L_partly s m args below meth c H locs cells slots (MQ below (QT b) args s 4189 25467 (A0 b)) (F0 m 244 ls []) := by
  have hx := C.1
  have hb := C.2.1
  refine lv_aload_n hx hb dL_partly_244 rfl (lv_at hl 1 rfl) ?_
  refine lv_iconst (v := (0 : Int32)) hx hb dL_partly_245 (by decide) ?_
  refine lv_iload_n hx hb dL_partly_246 rfl (lv_at hl 0 rfl) ?_
  refine lv_bipush (v := (10 : Int32)) hx hb dL_partly_247 (by decide) ?_
  refine lv_icmp_ge (tgt := 256) hx hb dL_partly_249 (by decide) (fun _ => ?_) (fun c => absurd (by decide) c)
  refine lv_bipush (v := (10 : Int32)) hx hb dL_partly_256 (by decide) ?_
  refine lv_iload_n hx hb dL_partly_258 rfl (lv_at hl 0 rfl) ?_
  refine lv_bipush (v := (10 : Int32)) hx hb dL_partly_259 (by decide) ?_
  refine lv_isub hx hb dL_partly_261 ?_
  refine W.eq (g2 := F0 m 262 ls [.int (0 : Int32), .int (10 : Int32), .int (0 : Int32), .ref (b + 0)]) (congrArg (fun v => F0 m 262 ls (.int v :: [.int (10 : Int32), .int (0 : Int32), .ref (b + 0)])) (show (10 : Int32) - (10 : Int32) = (0 : Int32) by decide)) ?_
  refine lv_bipush (v := (9 : Int32)) hx hb dL_partly_262 (by decide) ?_
  refine lv_idiv hx hb dL_partly_264 (by decide) ?_
  refine W.eq (g2 := F0 m 265 ls [.int (0 : Int32), .int (10 : Int32), .int (0 : Int32), .ref (b + 0)]) (congrArg (fun v => F0 m 265 ls (.int v :: [.int (10 : Int32), .int (0 : Int32), .ref (b + 0)])) (show (0 : Int32) / (9 : Int32) = (0 : Int32) by decide)) ?_
  refine lv_iconst (v := (1 : Int32)) hx hb dL_partly_265 (by decide) ?_
  refine lv_iadd hx hb dL_partly_266 ?_
  refine W.eq (g2 := F0 m 267 ls [.int (1 : Int32), .int (10 : Int32), .int (0 : Int32), .ref (b + 0)]) (congrArg (fun v => F0 m 267 ls (.int v :: [.int (10 : Int32), .int (0 : Int32), .ref (b + 0)])) (show (0 : Int32) + (1 : Int32) = (1 : Int32) by decide)) ?_
  refine lv_imul hx hb dL_partly_267 ?_
  refine W.eq (g2 := F0 m 268 ls [.int (10 : Int32), .int (0 : Int32), .ref (b + 0)]) (congrArg (fun v => F0 m 268 ls (.int v :: [.int (0 : Int32), .ref (b + 0)])) (show (10 : Int32) * (1 : Int32) = (10 : Int32) by decide)) ?_
  refine lv_iload_n hx hb dL_partly_268 rfl (lv_at hl 0 rfl) ?_
  refine lv_bipush (v := (10 : Int32)) hx hb dL_partly_269 (by decide) ?_
  refine lv_isub hx hb dL_partly_271 ?_
  refine W.eq (g2 := F0 m 272 ls [.int (0 : Int32), .int (10 : Int32), .int (0 : Int32), .ref (b + 0)]) (congrArg (fun v => F0 m 272 ls (.int v :: [.int (10 : Int32), .int (0 : Int32), .ref (b + 0)])) (show (10 : Int32) - (10 : Int32) = (0 : Int32) by decide)) ?_
  refine lv_bipush (v := (9 : Int32)) hx hb dL_partly_272 (by decide) ?_
  refine lv_irem hx hb dL_partly_274 (by decide) ?_
  refine W.eq (g2 := F0 m 275 ls [.int (0 : Int32), .int (10 : Int32), .int (0 : Int32), .ref (b + 0)]) (congrArg (fun v => F0 m 275 ls (.int v :: [.int (10 : Int32), .int (0 : Int32), .ref (b + 0)])) (show (0 : Int32) - (0 : Int32) / (9 : Int32) * (9 : Int32) = (0 : Int32) by decide)) ?_
  refine lv_iadd hx hb dL_partly_275 ?_
  refine W.eq (g2 := F0 m 276 ls [.int (10 : Int32), .int (0 : Int32), .ref (b + 0)]) (congrArg (fun v => F0 m 276 ls (.int v :: [.int (0 : Int32), .ref (b + 0)])) (show (10 : Int32) + (0 : Int32) = (10 : Int32) by decide)) ?_
  refine lv_iconst (v := (1 : Int32)) hx hb dL_partly_276 (by decide) ?_
  refine lv_iadd hx hb dL_partly_277 ?_
  refine W.eq (g2 := F0 m 278 ls [.int (11 : Int32), .int (0 : Int32), .ref (b + 0)]) (congrArg (fun v => F0 m 278 ls (.int v :: [.int (0 : Int32), .ref (b + 0)])) (show (10 : Int32) + (1 : Int32) = (11 : Int32) by decide)) ?_
  refine lv_iconst (v := (0 : Int32)) hx hb dL_partly_278 (by decide) ?_
  obtain ⟨M1, hc1, h1⟩ := s_mk V73 (0 : Int32) (c := (0 : Int32)) (x := (11 : Int32)) (tks := (0 : Int32)) h (by decide +kernel)
  have hc1 : f_X4_makeCollection M (0 : Int32) (11 : Int32) (0 : Int32) = some (.inr (0 : Int32), M1) := hc1
  refine kL_7R C hml hl.1 (c_X4_makeCollection hlf hc1) ⟨Nat.le_of_ble_eq_true rfl, Nat.le_of_ble_eq_true rfl⟩ ⟨by show _ ≤ 4189; omega, by show _ ≤ 25467; omega⟩ (Nat.le_of_ble_eq_true rfl) hS hW dL_partly_279 (fun H locs hW hS => ?_)
  refine lv_if_eq (tgt := 287) hx hb dL_partly_282 (by decide) (fun _ => ?_) (fun c => absurd (by decide) c)
  exact t_partly_11 C hml hr hlk hlf h1 hS hW (lv_sub hl [0, 1] rfl) ⟨by omega, by omega⟩
set_option maxHeartbeats 4000000 in
set_option maxRecDepth 100000 in
theorem t_partly_9 {p : Program} {l : Launch} {e : Env} {s : State} {m : MethodId} {args : Array Value} {below : List Frame} {meth : Method} {c : Code} {Z : Zt} {b : Nat} (C : Cx p s m args c cL_partly RL Z b) (hml : c.maxLocals = 2) (hr : meth.sig.returnType = some .boolean) (hlk : meth.locks = false) (hlf : l.stackTraces = false) {M : Mem} (h : RS M V70) {H : Heap} {locs : List Loc} {ls : Array Slot} {cells slots : Nat} (hS : va_S (A0 b) s.heap H locs) (hW : Wd Z b M H) (hl : lv_has ls 2 [(1, .int (8 : Int32)), (0, .ref (b + 0))]) (hcs : cells + 2224 ≤ 4189 ∧ slots + 13344 ≤ 25467) : W p l e rm_L_partly s m args below meth c H locs cells slots (MQ below (QT b) args s 4189 25467 (A0 b)) (F0 m 252 ls [.int (0 : Int32), .ref (b + 0)]) := by
  have hx := C.1
  have hb := C.2.1
  refine lv_iload_n hx hb dL_partly_252 rfl (lv_at hl 0 rfl) ?_
  refine lv_goto (tgt := 278) hx hb dL_partly_253 (by decide) ?_
  refine lv_iconst (v := (0 : Int32)) hx hb dL_partly_278 (by decide) ?_
  obtain ⟨M1, hc1, h1⟩ := s_mk V71 (0 : Int32) (c := (0 : Int32)) (x := (8 : Int32)) (tks := (0 : Int32)) h (by decide +kernel)
  have hc1 : f_X4_makeCollection M (0 : Int32) (8 : Int32) (0 : Int32) = some (.inr (0 : Int32), M1) := hc1
  refine kL_7R C hml hl.1 (c_X4_makeCollection hlf hc1) ⟨Nat.le_of_ble_eq_true rfl, Nat.le_of_ble_eq_true rfl⟩ ⟨by show _ ≤ 4189; omega, by show _ ≤ 25467; omega⟩ (Nat.le_of_ble_eq_true rfl) hS hW dL_partly_279 (fun H locs hW hS => ?_)
  refine lv_if_eq (tgt := 287) hx hb dL_partly_282 (by decide) (fun _ => ?_) (fun c => absurd (by decide) c)
  refine lv_iinc (v := (9 : Int32)) (lv' := [(1, .int (9 : Int32)), (0, .ref (b + 0))]) hx hb dL_partly_287 hl (k := 0) rfl (by decide) (by decide) rfl (fun ls hl => ?_)
  refine lv_goto (tgt := 238) hx hb dL_partly_290 (by decide) ?_
  refine lv_iload_n hx hb dL_partly_238 rfl (lv_at hl 0 rfl) ?_
  refine lv_bipush (v := (61 : Int32)) hx hb dL_partly_239 (by decide) ?_
  refine lv_icmp_ge (tgt := 293) hx hb dL_partly_241 (by decide) (fun c => absurd c (by decide)) (fun _ => ?_)
  refine lv_aload_n hx hb dL_partly_244 rfl (lv_at hl 1 rfl) ?_
  refine lv_iconst (v := (0 : Int32)) hx hb dL_partly_245 (by decide) ?_
  refine lv_iload_n hx hb dL_partly_246 rfl (lv_at hl 0 rfl) ?_
  refine lv_bipush (v := (10 : Int32)) hx hb dL_partly_247 (by decide) ?_
  refine lv_icmp_ge (tgt := 256) hx hb dL_partly_249 (by decide) (fun c => absurd c (by decide)) (fun _ => ?_)
  refine lv_iload_n hx hb dL_partly_252 rfl (lv_at hl 0 rfl) ?_
  refine lv_goto (tgt := 278) hx hb dL_partly_253 (by decide) ?_
  refine lv_iconst (v := (0 : Int32)) hx hb dL_partly_278 (by decide) ?_
  obtain ⟨M2, hc2, h2⟩ := s_mk V72 (0 : Int32) (c := (0 : Int32)) (x := (9 : Int32)) (tks := (0 : Int32)) h1 (by decide +kernel)
  have hc2 : f_X4_makeCollection M1 (0 : Int32) (9 : Int32) (0 : Int32) = some (.inr (0 : Int32), M2) := hc2
  refine kL_7R C hml hl.1 (c_X4_makeCollection hlf hc2) ⟨Nat.le_of_ble_eq_true rfl, Nat.le_of_ble_eq_true rfl⟩ ⟨by show _ ≤ 4189; omega, by show _ ≤ 25467; omega⟩ (Nat.le_of_ble_eq_true rfl) hS hW dL_partly_279 (fun H locs hW hS => ?_)
  refine lv_if_eq (tgt := 287) hx hb dL_partly_282 (by decide) (fun _ => ?_) (fun c => absurd (by decide) c)
  refine lv_iinc (v := (10 : Int32)) (lv' := [(1, .int (10 : Int32)), (0, .ref (b + 0))]) hx hb dL_partly_287 hl (k := 0) rfl (by decide) (by decide) rfl (fun ls hl => ?_)
  refine lv_goto (tgt := 238) hx hb dL_partly_290 (by decide) ?_
  refine lv_iload_n hx hb dL_partly_238 rfl (lv_at hl 0 rfl) ?_
  refine lv_bipush (v := (61 : Int32)) hx hb dL_partly_239 (by decide) ?_
  refine lv_icmp_ge (tgt := 293) hx hb dL_partly_241 (by decide) (fun c => absurd c (by decide)) (fun _ => ?_)
  exact t_partly_10 C hml hr hlk hlf h2 hS hW (lv_sub hl [0, 1] rfl) ⟨by omega, by omega⟩
set_option maxHeartbeats 4000000 in
set_option maxRecDepth 100000 in
theorem t_partly_8 {p : Program} {l : Launch} {e : Env} {s : State} {m : MethodId} {args : Array Value} {below : List Frame} {meth : Method} {c : Code} {Z : Zt} {b : Nat} (C : Cx p s m args c cL_partly RL Z b) (hml : c.maxLocals = 2) (hr : meth.sig.returnType = some .boolean) (hlk : meth.locks = false) (hlf : l.stackTraces = false) {M : Mem} (h : RS M V69) {H : Heap} {locs : List Loc} {ls : Array Slot} {cells slots : Nat} (hS : va_S (A0 b) s.heap H locs) (hW : Wd Z b M H) (hl : lv_has ls 2 [(1, .int (6 : Int32)), (0, .ref (b + 0))]) (hcs : cells + 2228 ≤ 4189 ∧ slots + 13368 ≤ 25467) : W p l e rm_L_partly s m args below meth c H locs cells slots (MQ below (QT b) args s 4189 25467 (A0 b)) (F0 m 287 ls []) := by
  have hx := C.1
  have hb := C.2.1
  refine lv_iinc (v := (7 : Int32)) (lv' := [(1, .int (7 : Int32)), (0, .ref (b + 0))]) hx hb dL_partly_287 hl (k := 0) rfl (by decide) (by decide) rfl (fun ls hl => ?_)
  refine lv_goto (tgt := 238) hx hb dL_partly_290 (by decide) ?_
  refine lv_iload_n hx hb dL_partly_238 rfl (lv_at hl 0 rfl) ?_
  refine lv_bipush (v := (61 : Int32)) hx hb dL_partly_239 (by decide) ?_
  refine lv_icmp_ge (tgt := 293) hx hb dL_partly_241 (by decide) (fun c => absurd c (by decide)) (fun _ => ?_)
  refine lv_aload_n hx hb dL_partly_244 rfl (lv_at hl 1 rfl) ?_
  refine lv_iconst (v := (0 : Int32)) hx hb dL_partly_245 (by decide) ?_
  refine lv_iload_n hx hb dL_partly_246 rfl (lv_at hl 0 rfl) ?_
  refine lv_bipush (v := (10 : Int32)) hx hb dL_partly_247 (by decide) ?_
  refine lv_icmp_ge (tgt := 256) hx hb dL_partly_249 (by decide) (fun c => absurd c (by decide)) (fun _ => ?_)
  refine lv_iload_n hx hb dL_partly_252 rfl (lv_at hl 0 rfl) ?_
  refine lv_goto (tgt := 278) hx hb dL_partly_253 (by decide) ?_
  refine lv_iconst (v := (0 : Int32)) hx hb dL_partly_278 (by decide) ?_
  obtain ⟨M1, hc1, h1⟩ := s_mk V70 (0 : Int32) (c := (0 : Int32)) (x := (7 : Int32)) (tks := (0 : Int32)) h (by decide +kernel)
  have hc1 : f_X4_makeCollection M (0 : Int32) (7 : Int32) (0 : Int32) = some (.inr (0 : Int32), M1) := hc1
  refine kL_7R C hml hl.1 (c_X4_makeCollection hlf hc1) ⟨Nat.le_of_ble_eq_true rfl, Nat.le_of_ble_eq_true rfl⟩ ⟨by show _ ≤ 4189; omega, by show _ ≤ 25467; omega⟩ (Nat.le_of_ble_eq_true rfl) hS hW dL_partly_279 (fun H locs hW hS => ?_)
  refine lv_if_eq (tgt := 287) hx hb dL_partly_282 (by decide) (fun _ => ?_) (fun c => absurd (by decide) c)
  refine lv_iinc (v := (8 : Int32)) (lv' := [(1, .int (8 : Int32)), (0, .ref (b + 0))]) hx hb dL_partly_287 hl (k := 0) rfl (by decide) (by decide) rfl (fun ls hl => ?_)
  refine lv_goto (tgt := 238) hx hb dL_partly_290 (by decide) ?_
  refine lv_iload_n hx hb dL_partly_238 rfl (lv_at hl 0 rfl) ?_
  refine lv_bipush (v := (61 : Int32)) hx hb dL_partly_239 (by decide) ?_
  refine lv_icmp_ge (tgt := 293) hx hb dL_partly_241 (by decide) (fun c => absurd c (by decide)) (fun _ => ?_)
  refine lv_aload_n hx hb dL_partly_244 rfl (lv_at hl 1 rfl) ?_
  refine lv_iconst (v := (0 : Int32)) hx hb dL_partly_245 (by decide) ?_
  refine lv_iload_n hx hb dL_partly_246 rfl (lv_at hl 0 rfl) ?_
  refine lv_bipush (v := (10 : Int32)) hx hb dL_partly_247 (by decide) ?_
  refine lv_icmp_ge (tgt := 256) hx hb dL_partly_249 (by decide) (fun c => absurd c (by decide)) (fun _ => ?_)
  exact t_partly_9 C hml hr hlk hlf h1 hS hW (lv_sub hl [0, 1] rfl) ⟨by omega, by omega⟩
set_option maxHeartbeats 4000000 in
set_option maxRecDepth 100000 in
theorem t_partly_7 {p : Program} {l : Launch} {e : Env} {s : State} {m : MethodId} {args : Array Value} {below : List Frame} {meth : Method} {c : Code} {Z : Zt} {b : Nat} (C : Cx p s m args c cL_partly RL Z b) (hml : c.maxLocals = 2) (hr : meth.sig.returnType = some .boolean) (hlk : meth.locks = false) (hlf : l.stackTraces = false) {M : Mem} (h : RS M V67) {H : Heap} {locs : List Loc} {ls : Array Slot} {cells slots : Nat} (hS : va_S (A0 b) s.heap H locs) (hW : Wd Z b M H) (hl : lv_has ls 2 [(1, .int (5 : Int32)), (0, .ref (b + 0))]) (hcs : cells + 2236 ≤ 4189 ∧ slots + 13416 ≤ 25467) : W p l e rm_L_partly s m args below meth c H locs cells slots (MQ below (QT b) args s 4189 25467 (A0 b)) (F0 m 244 ls []) := by
  have hx := C.1
  have hb := C.2.1
  refine lv_aload_n hx hb dL_partly_244 rfl (lv_at hl 1 rfl) ?_
  refine lv_iconst (v := (0 : Int32)) hx hb dL_partly_245 (by decide) ?_
  refine lv_iload_n hx hb dL_partly_246 rfl (lv_at hl 0 rfl) ?_
  refine lv_bipush (v := (10 : Int32)) hx hb dL_partly_247 (by decide) ?_
  refine lv_icmp_ge (tgt := 256) hx hb dL_partly_249 (by decide) (fun c => absurd c (by decide)) (fun _ => ?_)
  refine lv_iload_n hx hb dL_partly_252 rfl (lv_at hl 0 rfl) ?_
  refine lv_goto (tgt := 278) hx hb dL_partly_253 (by decide) ?_
  refine lv_iconst (v := (0 : Int32)) hx hb dL_partly_278 (by decide) ?_
  obtain ⟨M1, hc1, h1⟩ := s_mk V68 (0 : Int32) (c := (0 : Int32)) (x := (5 : Int32)) (tks := (0 : Int32)) h (by decide +kernel)
  have hc1 : f_X4_makeCollection M (0 : Int32) (5 : Int32) (0 : Int32) = some (.inr (0 : Int32), M1) := hc1
  refine kL_7R C hml hl.1 (c_X4_makeCollection hlf hc1) ⟨Nat.le_of_ble_eq_true rfl, Nat.le_of_ble_eq_true rfl⟩ ⟨by show _ ≤ 4189; omega, by show _ ≤ 25467; omega⟩ (Nat.le_of_ble_eq_true rfl) hS hW dL_partly_279 (fun H locs hW hS => ?_)
  refine lv_if_eq (tgt := 287) hx hb dL_partly_282 (by decide) (fun _ => ?_) (fun c => absurd (by decide) c)
  refine lv_iinc (v := (6 : Int32)) (lv' := [(1, .int (6 : Int32)), (0, .ref (b + 0))]) hx hb dL_partly_287 hl (k := 0) rfl (by decide) (by decide) rfl (fun ls hl => ?_)
  refine lv_goto (tgt := 238) hx hb dL_partly_290 (by decide) ?_
  refine lv_iload_n hx hb dL_partly_238 rfl (lv_at hl 0 rfl) ?_
  refine lv_bipush (v := (61 : Int32)) hx hb dL_partly_239 (by decide) ?_
  refine lv_icmp_ge (tgt := 293) hx hb dL_partly_241 (by decide) (fun c => absurd c (by decide)) (fun _ => ?_)
  refine lv_aload_n hx hb dL_partly_244 rfl (lv_at hl 1 rfl) ?_
  refine lv_iconst (v := (0 : Int32)) hx hb dL_partly_245 (by decide) ?_
  refine lv_iload_n hx hb dL_partly_246 rfl (lv_at hl 0 rfl) ?_
  refine lv_bipush (v := (10 : Int32)) hx hb dL_partly_247 (by decide) ?_
  refine lv_icmp_ge (tgt := 256) hx hb dL_partly_249 (by decide) (fun c => absurd c (by decide)) (fun _ => ?_)
  refine lv_iload_n hx hb dL_partly_252 rfl (lv_at hl 0 rfl) ?_
  refine lv_goto (tgt := 278) hx hb dL_partly_253 (by decide) ?_
  refine lv_iconst (v := (0 : Int32)) hx hb dL_partly_278 (by decide) ?_
  obtain ⟨M2, hc2, h2⟩ := s_mk V69 (0 : Int32) (c := (0 : Int32)) (x := (6 : Int32)) (tks := (0 : Int32)) h1 (by decide +kernel)
  have hc2 : f_X4_makeCollection M1 (0 : Int32) (6 : Int32) (0 : Int32) = some (.inr (0 : Int32), M2) := hc2
  refine kL_7R C hml hl.1 (c_X4_makeCollection hlf hc2) ⟨Nat.le_of_ble_eq_true rfl, Nat.le_of_ble_eq_true rfl⟩ ⟨by show _ ≤ 4189; omega, by show _ ≤ 25467; omega⟩ (Nat.le_of_ble_eq_true rfl) hS hW dL_partly_279 (fun H locs hW hS => ?_)
  refine lv_if_eq (tgt := 287) hx hb dL_partly_282 (by decide) (fun _ => ?_) (fun c => absurd (by decide) c)
  exact t_partly_8 C hml hr hlk hlf h2 hS hW (lv_sub hl [0, 1] rfl) ⟨by omega, by omega⟩
set_option maxHeartbeats 4000000 in
set_option maxRecDepth 100000 in
theorem t_partly_6 {p : Program} {l : Launch} {e : Env} {s : State} {m : MethodId} {args : Array Value} {below : List Frame} {meth : Method} {c : Code} {Z : Zt} {b : Nat} (C : Cx p s m args c cL_partly RL Z b) (hml : c.maxLocals = 2) (hr : meth.sig.returnType = some .boolean) (hlk : meth.locks = false) (hlf : l.stackTraces = false) {M : Mem} (h : RS M V65) {H : Heap} {locs : List Loc} {ls : Array Slot} {cells slots : Nat} (hS : va_S (A0 b) s.heap H locs) (hW : Wd Z b M H) (hl : lv_has ls 2 [(1, .int (3 : Int32)), (0, .ref (b + 0))]) (hcs : cells + 2244 ≤ 4189 ∧ slots + 13464 ≤ 25467) : W p l e rm_L_partly s m args below meth c H locs cells slots (MQ below (QT b) args s 4189 25467 (A0 b)) (F0 m 252 ls [.int (0 : Int32), .ref (b + 0)]) := by
  have hx := C.1
  have hb := C.2.1
  refine lv_iload_n hx hb dL_partly_252 rfl (lv_at hl 0 rfl) ?_
  refine lv_goto (tgt := 278) hx hb dL_partly_253 (by decide) ?_
  refine lv_iconst (v := (0 : Int32)) hx hb dL_partly_278 (by decide) ?_
  obtain ⟨M1, hc1, h1⟩ := s_mk V66 (0 : Int32) (c := (0 : Int32)) (x := (3 : Int32)) (tks := (0 : Int32)) h (by decide +kernel)
  have hc1 : f_X4_makeCollection M (0 : Int32) (3 : Int32) (0 : Int32) = some (.inr (0 : Int32), M1) := hc1
  refine kL_7R C hml hl.1 (c_X4_makeCollection hlf hc1) ⟨Nat.le_of_ble_eq_true rfl, Nat.le_of_ble_eq_true rfl⟩ ⟨by show _ ≤ 4189; omega, by show _ ≤ 25467; omega⟩ (Nat.le_of_ble_eq_true rfl) hS hW dL_partly_279 (fun H locs hW hS => ?_)
  refine lv_if_eq (tgt := 287) hx hb dL_partly_282 (by decide) (fun _ => ?_) (fun c => absurd (by decide) c)
  refine lv_iinc (v := (4 : Int32)) (lv' := [(1, .int (4 : Int32)), (0, .ref (b + 0))]) hx hb dL_partly_287 hl (k := 0) rfl (by decide) (by decide) rfl (fun ls hl => ?_)
  refine lv_goto (tgt := 238) hx hb dL_partly_290 (by decide) ?_
  refine lv_iload_n hx hb dL_partly_238 rfl (lv_at hl 0 rfl) ?_
  refine lv_bipush (v := (61 : Int32)) hx hb dL_partly_239 (by decide) ?_
  refine lv_icmp_ge (tgt := 293) hx hb dL_partly_241 (by decide) (fun c => absurd c (by decide)) (fun _ => ?_)
  refine lv_aload_n hx hb dL_partly_244 rfl (lv_at hl 1 rfl) ?_
  refine lv_iconst (v := (0 : Int32)) hx hb dL_partly_245 (by decide) ?_
  refine lv_iload_n hx hb dL_partly_246 rfl (lv_at hl 0 rfl) ?_
  refine lv_bipush (v := (10 : Int32)) hx hb dL_partly_247 (by decide) ?_
  refine lv_icmp_ge (tgt := 256) hx hb dL_partly_249 (by decide) (fun c => absurd c (by decide)) (fun _ => ?_)
  refine lv_iload_n hx hb dL_partly_252 rfl (lv_at hl 0 rfl) ?_
  refine lv_goto (tgt := 278) hx hb dL_partly_253 (by decide) ?_
  refine lv_iconst (v := (0 : Int32)) hx hb dL_partly_278 (by decide) ?_
  obtain ⟨M2, hc2, h2⟩ := s_mk V67 (0 : Int32) (c := (0 : Int32)) (x := (4 : Int32)) (tks := (0 : Int32)) h1 (by decide +kernel)
  have hc2 : f_X4_makeCollection M1 (0 : Int32) (4 : Int32) (0 : Int32) = some (.inr (0 : Int32), M2) := hc2
  refine kL_7R C hml hl.1 (c_X4_makeCollection hlf hc2) ⟨Nat.le_of_ble_eq_true rfl, Nat.le_of_ble_eq_true rfl⟩ ⟨by show _ ≤ 4189; omega, by show _ ≤ 25467; omega⟩ (Nat.le_of_ble_eq_true rfl) hS hW dL_partly_279 (fun H locs hW hS => ?_)
  refine lv_if_eq (tgt := 287) hx hb dL_partly_282 (by decide) (fun _ => ?_) (fun c => absurd (by decide) c)
  refine lv_iinc (v := (5 : Int32)) (lv' := [(1, .int (5 : Int32)), (0, .ref (b + 0))]) hx hb dL_partly_287 hl (k := 0) rfl (by decide) (by decide) rfl (fun ls hl => ?_)
  refine lv_goto (tgt := 238) hx hb dL_partly_290 (by decide) ?_
  refine lv_iload_n hx hb dL_partly_238 rfl (lv_at hl 0 rfl) ?_
  refine lv_bipush (v := (61 : Int32)) hx hb dL_partly_239 (by decide) ?_
  refine lv_icmp_ge (tgt := 293) hx hb dL_partly_241 (by decide) (fun c => absurd c (by decide)) (fun _ => ?_)
  exact t_partly_7 C hml hr hlk hlf h2 hS hW (lv_sub hl [0, 1] rfl) ⟨by omega, by omega⟩
set_option maxHeartbeats 4000000 in
set_option maxRecDepth 100000 in
theorem t_partly_5 {p : Program} {l : Launch} {e : Env} {s : State} {m : MethodId} {args : Array Value} {below : List Frame} {meth : Method} {c : Code} {Z : Zt} {b : Nat} (C : Cx p s m args c cL_partly RL Z b) (hml : c.maxLocals = 2) (hr : meth.sig.returnType = some .boolean) (hlk : meth.locks = false) (hlf : l.stackTraces = false) {M : Mem} (h : RS M V63) {H : Heap} {locs : List Loc} {ls : Array Slot} {cells slots : Nat} (hS : va_S (A0 b) s.heap H locs) (hW : Wd Z b M H) (hl : lv_has ls 2 [(1, .int (1 : Int32)), (0, .ref (b + 0))]) (hcs : cells + 2252 ≤ 4189 ∧ slots + 13512 ≤ 25467) : W p l e rm_L_partly s m args below meth c H locs cells slots (MQ below (QT b) args s 4189 25467 (A0 b)) (F0 m 278 ls [.int (1 : Int32), .int (0 : Int32), .ref (b + 0)]) := by
  have hx := C.1
  have hb := C.2.1
  refine lv_iconst (v := (0 : Int32)) hx hb dL_partly_278 (by decide) ?_
  obtain ⟨M1, hc1, h1⟩ := s_mk V64 (0 : Int32) (c := (0 : Int32)) (x := (1 : Int32)) (tks := (0 : Int32)) h (by decide +kernel)
  have hc1 : f_X4_makeCollection M (0 : Int32) (1 : Int32) (0 : Int32) = some (.inr (0 : Int32), M1) := hc1
  refine kL_7R C hml hl.1 (c_X4_makeCollection hlf hc1) ⟨Nat.le_of_ble_eq_true rfl, Nat.le_of_ble_eq_true rfl⟩ ⟨by show _ ≤ 4189; omega, by show _ ≤ 25467; omega⟩ (Nat.le_of_ble_eq_true rfl) hS hW dL_partly_279 (fun H locs hW hS => ?_)
  refine lv_if_eq (tgt := 287) hx hb dL_partly_282 (by decide) (fun _ => ?_) (fun c => absurd (by decide) c)
  refine lv_iinc (v := (2 : Int32)) (lv' := [(1, .int (2 : Int32)), (0, .ref (b + 0))]) hx hb dL_partly_287 hl (k := 0) rfl (by decide) (by decide) rfl (fun ls hl => ?_)
  refine lv_goto (tgt := 238) hx hb dL_partly_290 (by decide) ?_
  refine lv_iload_n hx hb dL_partly_238 rfl (lv_at hl 0 rfl) ?_
  refine lv_bipush (v := (61 : Int32)) hx hb dL_partly_239 (by decide) ?_
  refine lv_icmp_ge (tgt := 293) hx hb dL_partly_241 (by decide) (fun c => absurd c (by decide)) (fun _ => ?_)
  refine lv_aload_n hx hb dL_partly_244 rfl (lv_at hl 1 rfl) ?_
  refine lv_iconst (v := (0 : Int32)) hx hb dL_partly_245 (by decide) ?_
  refine lv_iload_n hx hb dL_partly_246 rfl (lv_at hl 0 rfl) ?_
  refine lv_bipush (v := (10 : Int32)) hx hb dL_partly_247 (by decide) ?_
  refine lv_icmp_ge (tgt := 256) hx hb dL_partly_249 (by decide) (fun c => absurd c (by decide)) (fun _ => ?_)
  refine lv_iload_n hx hb dL_partly_252 rfl (lv_at hl 0 rfl) ?_
  refine lv_goto (tgt := 278) hx hb dL_partly_253 (by decide) ?_
  refine lv_iconst (v := (0 : Int32)) hx hb dL_partly_278 (by decide) ?_
  obtain ⟨M2, hc2, h2⟩ := s_mk V65 (0 : Int32) (c := (0 : Int32)) (x := (2 : Int32)) (tks := (0 : Int32)) h1 (by decide +kernel)
  have hc2 : f_X4_makeCollection M1 (0 : Int32) (2 : Int32) (0 : Int32) = some (.inr (0 : Int32), M2) := hc2
  refine kL_7R C hml hl.1 (c_X4_makeCollection hlf hc2) ⟨Nat.le_of_ble_eq_true rfl, Nat.le_of_ble_eq_true rfl⟩ ⟨by show _ ≤ 4189; omega, by show _ ≤ 25467; omega⟩ (Nat.le_of_ble_eq_true rfl) hS hW dL_partly_279 (fun H locs hW hS => ?_)
  refine lv_if_eq (tgt := 287) hx hb dL_partly_282 (by decide) (fun _ => ?_) (fun c => absurd (by decide) c)
  refine lv_iinc (v := (3 : Int32)) (lv' := [(1, .int (3 : Int32)), (0, .ref (b + 0))]) hx hb dL_partly_287 hl (k := 0) rfl (by decide) (by decide) rfl (fun ls hl => ?_)
  refine lv_goto (tgt := 238) hx hb dL_partly_290 (by decide) ?_
  refine lv_iload_n hx hb dL_partly_238 rfl (lv_at hl 0 rfl) ?_
  refine lv_bipush (v := (61 : Int32)) hx hb dL_partly_239 (by decide) ?_
  refine lv_icmp_ge (tgt := 293) hx hb dL_partly_241 (by decide) (fun c => absurd c (by decide)) (fun _ => ?_)
  refine lv_aload_n hx hb dL_partly_244 rfl (lv_at hl 1 rfl) ?_
  refine lv_iconst (v := (0 : Int32)) hx hb dL_partly_245 (by decide) ?_
  refine lv_iload_n hx hb dL_partly_246 rfl (lv_at hl 0 rfl) ?_
  refine lv_bipush (v := (10 : Int32)) hx hb dL_partly_247 (by decide) ?_
  refine lv_icmp_ge (tgt := 256) hx hb dL_partly_249 (by decide) (fun c => absurd c (by decide)) (fun _ => ?_)
  exact t_partly_6 C hml hr hlk hlf h2 hS hW (lv_sub hl [0, 1] rfl) ⟨by omega, by omega⟩
set_option maxHeartbeats 4000000 in
set_option maxRecDepth 100000 in
theorem t_partly_4 {p : Program} {l : Launch} {e : Env} {s : State} {m : MethodId} {args : Array Value} {below : List Frame} {meth : Method} {c : Code} {Z : Zt} {b : Nat} (C : Cx p s m args c cL_partly RL Z b) (hml : c.maxLocals = 2) (hr : meth.sig.returnType = some .boolean) (hlk : meth.locks = false) (hlf : l.stackTraces = false) {M : Mem} (h : RS M V63) {H : Heap} {locs : List Loc} {ls : Array Slot} {cells slots : Nat} (hS : va_S (A0 b) s.heap H locs) (hW : Wd Z b M H) (hl : lv_has ls 2 [(0, .ref (b + 0))]) (hcs : cells + 3965 ≤ 4189 ∧ slots + 23790 ≤ 25467) : W p l e rm_L_partly s m args below meth c H locs cells slots (MQ below (QT b) args s 4189 25467 (A0 b)) (F0 m 204 ls []) := by
  have hx := C.1
  have hb := C.2.1
  refine lv_aload_n hx hb dL_partly_204 rfl (lv_at hl 0 rfl) ?_
  have hc : f_X4_failures M = some ((0 : Int32), M) := s_failures h (by decide +kernel)
  refine kL_81 C hml hl.1 (c_X4_failures hc) ⟨Nat.le_of_ble_eq_true rfl, Nat.le_of_ble_eq_true rfl⟩ ⟨by show _ ≤ 4189; omega, by show _ ≤ 25467; omega⟩ (Nat.le_of_ble_eq_true rfl) hS hW dL_partly_205 (fun H locs hW hS => ?_)
  refine lv_if_ne (tgt := 234) hx hb dL_partly_208 (by decide) (fun c => absurd (by decide) c) (fun _ => ?_)
  refine lv_aload_n hx hb dL_partly_211 rfl (lv_at hl 0 rfl) ?_
  have hc : f_X4_resources M = some ((0 : Int32), M) := s_resources h (by decide +kernel)
  refine kL_77 C hml hl.1 (c_X4_resources hc) ⟨Nat.le_of_ble_eq_true rfl, Nat.le_of_ble_eq_true rfl⟩ ⟨by show _ ≤ 4189; omega, by show _ ≤ 25467; omega⟩ (Nat.le_of_ble_eq_true rfl) hS hW dL_partly_212 (fun H locs hW hS => ?_)
  refine lv_if_ne (tgt := 234) hx hb dL_partly_215 (by decide) (fun c => absurd (by decide) c) (fun _ => ?_)
  refine lv_aload_n hx hb dL_partly_218 rfl (lv_at hl 0 rfl) ?_
  refine lv_bipush (v := (11 : Int32)) hx hb dL_partly_219 (by decide) ?_
  have hc : f_X4_covering M (11 : Int32) = some (.inr (0 : Int32), M) := s_covering h (by decide +kernel)
  refine kL_58R C hml hl.1 (c_X4_covering hlf hc) ⟨Nat.le_of_ble_eq_true rfl, Nat.le_of_ble_eq_true rfl⟩ ⟨by show _ ≤ 4189; omega, by show _ ≤ 25467; omega⟩ (Nat.le_of_ble_eq_true rfl) hS hW dL_partly_221 (fun H locs hW hS => ?_)
  refine lv_if_ne (tgt := 234) hx hb dL_partly_224 (by decide) (fun c => absurd (by decide) c) (fun _ => ?_)
  refine lv_aload_n hx hb dL_partly_227 rfl (lv_at hl 0 rfl) ?_
  refine kL_92 C hml hl.1 (c_L_refuses hlf h) ⟨Nat.le_of_ble_eq_true rfl, Nat.le_of_ble_eq_true rfl⟩ ⟨by show _ ≤ 4189; omega, by show _ ≤ 25467; omega⟩ (Nat.le_of_ble_eq_true rfl) hS hW dL_partly_228 (fun H locs hW hS => ?_)
  refine lv_if_ne (tgt := 236) hx hb dL_partly_231 (by decide) (fun _ => ?_) (fun c => absurd c (by decide))
  refine lv_iconst (v := (1 : Int32)) hx hb dL_partly_236 (by decide) ?_
  refine lv_istore_n (lv' := [(1, .int (1 : Int32)), (0, .ref (b + 0))]) hx hb dL_partly_237 rfl hl (by decide) rfl (fun ls hl => ?_)
  refine lv_iload_n hx hb dL_partly_238 rfl (lv_at hl 0 rfl) ?_
  refine lv_bipush (v := (61 : Int32)) hx hb dL_partly_239 (by decide) ?_
  refine lv_icmp_ge (tgt := 293) hx hb dL_partly_241 (by decide) (fun c => absurd c (by decide)) (fun _ => ?_)
  refine lv_aload_n hx hb dL_partly_244 rfl (lv_at hl 1 rfl) ?_
  refine lv_iconst (v := (0 : Int32)) hx hb dL_partly_245 (by decide) ?_
  refine lv_iload_n hx hb dL_partly_246 rfl (lv_at hl 0 rfl) ?_
  refine lv_bipush (v := (10 : Int32)) hx hb dL_partly_247 (by decide) ?_
  refine lv_icmp_ge (tgt := 256) hx hb dL_partly_249 (by decide) (fun c => absurd c (by decide)) (fun _ => ?_)
  refine lv_iload_n hx hb dL_partly_252 rfl (lv_at hl 0 rfl) ?_
  refine lv_goto (tgt := 278) hx hb dL_partly_253 (by decide) ?_
  exact t_partly_5 C hml hr hlk hlf h hS hW (lv_sub hl [0, 1] rfl) ⟨by omega, by omega⟩
set_option maxHeartbeats 4000000 in
set_option maxRecDepth 100000 in
theorem t_partly_3 {p : Program} {l : Launch} {e : Env} {s : State} {m : MethodId} {args : Array Value} {below : List Frame} {meth : Method} {c : Code} {Z : Zt} {b : Nat} (C : Cx p s m args c cL_partly RL Z b) (hml : c.maxLocals = 2) (hr : meth.sig.returnType = some .boolean) (hlk : meth.locks = false) (hlf : l.stackTraces = false) {M : Mem} (h : RS M V61) {H : Heap} {locs : List Loc} {ls : Array Slot} {cells slots : Nat} (hS : va_S (A0 b) s.heap H locs) (hW : Wd Z b M H) (hl : lv_has ls 2 [(0, .ref (b + 0))]) (hcs : cells + 3974 ≤ 4189 ∧ slots + 23844 ≤ 25467) : W p l e rm_L_partly s m args below meth c H locs cells slots (MQ below (QT b) args s 4189 25467 (A0 b)) (F0 m 156 ls []) := by
  have hx := C.1
  have hb := C.2.1
  refine lv_aload_n hx hb dL_partly_156 rfl (lv_at hl 0 rfl) ?_
  refine lv_iconst (v := (2 : Int32)) hx hb dL_partly_157 (by decide) ?_
  refine lv_iconst (v := (1 : Int32)) hx hb dL_partly_158 (by decide) ?_
  refine lv_iconst (v := (3 : Int32)) hx hb dL_partly_159 (by decide) ?_
  obtain ⟨M1, hc1, h1⟩ := s_delete V62 (6 : Int32) true (c := (2 : Int32)) (x := (1 : Int32)) (tks := (3 : Int32)) h (by decide +kernel)
  have hc1 : f_X4_delete M (2 : Int32) (1 : Int32) (3 : Int32) = some (.inr (6 : Int32), M1) := hc1
  refine kL_17R C hml hl.1 (c_X4_delete hlf hc1) ⟨Nat.le_of_ble_eq_true rfl, Nat.le_of_ble_eq_true rfl⟩ ⟨by show _ ≤ 4189; omega, by show _ ≤ 25467; omega⟩ (Nat.le_of_ble_eq_true rfl) hS hW dL_partly_160 (fun H locs hW hS => ?_)
  refine lv_bipush (v := (6 : Int32)) hx hb dL_partly_163 (by decide) ?_
  refine lv_icmp_ne (tgt := 234) hx hb dL_partly_165 (by decide) (fun c => absurd (by decide) c) (fun _ => ?_)
  refine lv_aload_n hx hb dL_partly_168 rfl (lv_at hl 0 rfl) ?_
  have hc : f_X4_failures M1 = some ((1 : Int32), M1) := s_failures h1 (by decide +kernel)
  refine kL_81 C hml hl.1 (c_X4_failures hc) ⟨Nat.le_of_ble_eq_true rfl, Nat.le_of_ble_eq_true rfl⟩ ⟨by show _ ≤ 4189; omega, by show _ ≤ 25467; omega⟩ (Nat.le_of_ble_eq_true rfl) hS hW dL_partly_169 (fun H locs hW hS => ?_)
  refine lv_iconst (v := (1 : Int32)) hx hb dL_partly_172 (by decide) ?_
  refine lv_icmp_ne (tgt := 234) hx hb dL_partly_173 (by decide) (fun c => absurd (by decide) c) (fun _ => ?_)
  refine lv_aload_n hx hb dL_partly_176 rfl (lv_at hl 0 rfl) ?_
  refine lv_iconst (v := (0 : Int32)) hx hb dL_partly_177 (by decide) ?_
  have hc : f_X4_failureAt M1 (0 : Int32) = some (.inr (11 : Int32), M1) := s_failureAt 11 h1 (by decide +kernel)
  refine kL_20R C hml hl.1 (c_X4_failureAt hlf hc) ⟨Nat.le_of_ble_eq_true rfl, Nat.le_of_ble_eq_true rfl⟩ ⟨by show _ ≤ 4189; omega, by show _ ≤ 25467; omega⟩ (Nat.le_of_ble_eq_true rfl) hS hW dL_partly_178 (fun H locs hW hS => ?_)
  refine lv_bipush (v := (11 : Int32)) hx hb dL_partly_181 (by decide) ?_
  refine lv_icmp_ne (tgt := 234) hx hb dL_partly_183 (by decide) (fun c => absurd (by decide) c) (fun _ => ?_)
  refine lv_aload_n hx hb dL_partly_186 rfl (lv_at hl 0 rfl) ?_
  have hc : f_X4_resources M1 = some ((2 : Int32), M1) := s_resources h1 (by decide +kernel)
  refine kL_77 C hml hl.1 (c_X4_resources hc) ⟨Nat.le_of_ble_eq_true rfl, Nat.le_of_ble_eq_true rfl⟩ ⟨by show _ ≤ 4189; omega, by show _ ≤ 25467; omega⟩ (Nat.le_of_ble_eq_true rfl) hS hW dL_partly_187 (fun H locs hW hS => ?_)
  refine lv_iconst (v := (2 : Int32)) hx hb dL_partly_190 (by decide) ?_
  refine lv_icmp_ne (tgt := 234) hx hb dL_partly_191 (by decide) (fun c => absurd (by decide) c) (fun _ => ?_)
  refine lv_aload_n hx hb dL_partly_194 rfl (lv_at hl 0 rfl) ?_
  refine lv_iconst (v := (3 : Int32)) hx hb dL_partly_195 (by decide) ?_
  refine lv_iconst (v := (1 : Int32)) hx hb dL_partly_196 (by decide) ?_
  refine lv_iconst (v := (4 : Int32)) hx hb dL_partly_197 (by decide) ?_
  obtain ⟨M2, hc2, h2⟩ := s_delete V63 (0 : Int32) true (c := (3 : Int32)) (x := (1 : Int32)) (tks := (4 : Int32)) h1 (by decide +kernel)
  have hc2 : f_X4_delete M1 (3 : Int32) (1 : Int32) (4 : Int32) = some (.inr (0 : Int32), M2) := hc2
  refine kL_17R C hml hl.1 (c_X4_delete hlf hc2) ⟨Nat.le_of_ble_eq_true rfl, Nat.le_of_ble_eq_true rfl⟩ ⟨by show _ ≤ 4189; omega, by show _ ≤ 25467; omega⟩ (Nat.le_of_ble_eq_true rfl) hS hW dL_partly_198 (fun H locs hW hS => ?_)
  refine lv_if_ne (tgt := 234) hx hb dL_partly_201 (by decide) (fun c => absurd (by decide) c) (fun _ => ?_)
  exact t_partly_4 C hml hr hlk hlf h2 hS hW (lv_sub hl [0] rfl) ⟨by omega, by omega⟩
set_option maxHeartbeats 4000000 in
set_option maxRecDepth 100000 in
theorem t_partly_2 {p : Program} {l : Launch} {e : Env} {s : State} {m : MethodId} {args : Array Value} {below : List Frame} {meth : Method} {c : Code} {Z : Zt} {b : Nat} (C : Cx p s m args c cL_partly RL Z b) (hml : c.maxLocals = 2) (hr : meth.sig.returnType = some .boolean) (hlk : meth.locks = false) (hlf : l.stackTraces = false) {M : Mem} (h : RS M V61) {H : Heap} {locs : List Loc} {ls : Array Slot} {cells slots : Nat} (hS : va_S (A0 b) s.heap H locs) (hW : Wd Z b M H) (hl : lv_has ls 2 [(0, .ref (b + 0))]) (hcs : cells + 3978 ≤ 4189 ∧ slots + 23868 ≤ 25467) : W p l e rm_L_partly s m args below meth c H locs cells slots (MQ below (QT b) args s 4189 25467 (A0 b)) (F0 m 100 ls []) := by
  have hx := C.1
  have hb := C.2.1
  refine lv_aload_n hx hb dL_partly_100 rfl (lv_at hl 0 rfl) ?_
  have hc : f_X4_failures M = some ((3 : Int32), M) := s_failures h (by decide +kernel)
  refine kL_81 C hml hl.1 (c_X4_failures hc) ⟨Nat.le_of_ble_eq_true rfl, Nat.le_of_ble_eq_true rfl⟩ ⟨by show _ ≤ 4189; omega, by show _ ≤ 25467; omega⟩ (Nat.le_of_ble_eq_true rfl) hS hW dL_partly_101 (fun H locs hW hS => ?_)
  refine lv_iconst (v := (3 : Int32)) hx hb dL_partly_104 (by decide) ?_
  refine lv_icmp_ne (tgt := 234) hx hb dL_partly_105 (by decide) (fun c => absurd (by decide) c) (fun _ => ?_)
  refine lv_aload_n hx hb dL_partly_108 rfl (lv_at hl 0 rfl) ?_
  refine lv_iconst (v := (0 : Int32)) hx hb dL_partly_109 (by decide) ?_
  have hc : f_X4_failureAt M (0 : Int32) = some (.inr (11 : Int32), M) := s_failureAt 11 h (by decide +kernel)
  refine kL_20R C hml hl.1 (c_X4_failureAt hlf hc) ⟨Nat.le_of_ble_eq_true rfl, Nat.le_of_ble_eq_true rfl⟩ ⟨by show _ ≤ 4189; omega, by show _ ≤ 25467; omega⟩ (Nat.le_of_ble_eq_true rfl) hS hW dL_partly_110 (fun H locs hW hS => ?_)
  refine lv_bipush (v := (11 : Int32)) hx hb dL_partly_113 (by decide) ?_
  refine lv_icmp_ne (tgt := 234) hx hb dL_partly_115 (by decide) (fun c => absurd (by decide) c) (fun _ => ?_)
  refine lv_aload_n hx hb dL_partly_118 rfl (lv_at hl 0 rfl) ?_
  refine lv_iconst (v := (1 : Int32)) hx hb dL_partly_119 (by decide) ?_
  have hc : f_X4_failureAt M (1 : Int32) = some (.inr (12 : Int32), M) := s_failureAt 12 h (by decide +kernel)
  refine kL_20R C hml hl.1 (c_X4_failureAt hlf hc) ⟨Nat.le_of_ble_eq_true rfl, Nat.le_of_ble_eq_true rfl⟩ ⟨by show _ ≤ 4189; omega, by show _ ≤ 25467; omega⟩ (Nat.le_of_ble_eq_true rfl) hS hW dL_partly_120 (fun H locs hW hS => ?_)
  refine lv_bipush (v := (12 : Int32)) hx hb dL_partly_123 (by decide) ?_
  refine lv_icmp_ne (tgt := 234) hx hb dL_partly_125 (by decide) (fun c => absurd (by decide) c) (fun _ => ?_)
  refine lv_aload_n hx hb dL_partly_128 rfl (lv_at hl 0 rfl) ?_
  refine lv_iconst (v := (2 : Int32)) hx hb dL_partly_129 (by decide) ?_
  have hc : f_X4_failureAt M (2 : Int32) = some (.inr (131 : Int32), M) := s_failureAt 131 h (by decide +kernel)
  refine kL_20R C hml hl.1 (c_X4_failureAt hlf hc) ⟨Nat.le_of_ble_eq_true rfl, Nat.le_of_ble_eq_true rfl⟩ ⟨by show _ ≤ 4189; omega, by show _ ≤ 25467; omega⟩ (Nat.le_of_ble_eq_true rfl) hS hW dL_partly_130 (fun H locs hW hS => ?_)
  refine lv_sipush (v := (131 : Int32)) hx hb dL_partly_133 (by decide) ?_
  refine lv_icmp_ne (tgt := 234) hx hb dL_partly_136 (by decide) (fun c => absurd (by decide) c) (fun _ => ?_)
  refine lv_aload_n hx hb dL_partly_139 rfl (lv_at hl 0 rfl) ?_
  have hc : f_X4_resources M = some ((5 : Int32), M) := s_resources h (by decide +kernel)
  refine kL_77 C hml hl.1 (c_X4_resources hc) ⟨Nat.le_of_ble_eq_true rfl, Nat.le_of_ble_eq_true rfl⟩ ⟨by show _ ≤ 4189; omega, by show _ ≤ 25467; omega⟩ (Nat.le_of_ble_eq_true rfl) hS hW dL_partly_140 (fun H locs hW hS => ?_)
  refine lv_iconst (v := (5 : Int32)) hx hb dL_partly_143 (by decide) ?_
  refine lv_icmp_ne (tgt := 234) hx hb dL_partly_144 (by decide) (fun c => absurd (by decide) c) (fun _ => ?_)
  refine lv_aload_n hx hb dL_partly_147 rfl (lv_at hl 0 rfl) ?_
  refine lv_bipush (v := (12 : Int32)) hx hb dL_partly_148 (by decide) ?_
  have hc : f_X4_members M (12 : Int32) = some (.inr (0 : Int32), M) := s_members h (by decide +kernel)
  refine kL_37R C hml hl.1 (c_X4_members hlf hc) ⟨Nat.le_of_ble_eq_true rfl, Nat.le_of_ble_eq_true rfl⟩ ⟨by show _ ≤ 4189; omega, by show _ ≤ 25467; omega⟩ (Nat.le_of_ble_eq_true rfl) hS hW dL_partly_150 (fun H locs hW hS => ?_)
  refine lv_if_ne (tgt := 234) hx hb dL_partly_153 (by decide) (fun c => absurd (by decide) c) (fun _ => ?_)
  exact t_partly_3 C hml hr hlk hlf h hS hW (lv_sub hl [0] rfl) ⟨by omega, by omega⟩
set_option maxHeartbeats 4000000 in
set_option maxRecDepth 100000 in
theorem t_partly_1 {p : Program} {l : Launch} {e : Env} {s : State} {m : MethodId} {args : Array Value} {below : List Frame} {meth : Method} {c : Code} {Z : Zt} {b : Nat} (C : Cx p s m args c cL_partly RL Z b) (hml : c.maxLocals = 2) (hr : meth.sig.returnType = some .boolean) (hlk : meth.locks = false) (hlf : l.stackTraces = false) {M : Mem} (h : RS M V58) {H : Heap} {locs : List Loc} {ls : Array Slot} {cells slots : Nat} (hS : va_S (A0 b) s.heap H locs) (hW : Wd Z b M H) (hl : lv_has ls 2 [(0, .ref (b + 0))]) (hcs : cells + 3992 ≤ 4189 ∧ slots + 23952 ≤ 25467) : W p l e rm_L_partly s m args below meth c H locs cells slots (MQ below (QT b) args s 4189 25467 (A0 b)) (F0 m 55 ls []) := by
  have hx := C.1
  have hb := C.2.1
  refine lv_aload_n hx hb dL_partly_55 rfl (lv_at hl 0 rfl) ?_
  refine lv_iconst (v := (2 : Int32)) hx hb dL_partly_56 (by decide) ?_
  refine lv_sipush (v := (131 : Int32)) hx hb dL_partly_57 (by decide) ?_
  refine lv_iconst (v := (0 : Int32)) hx hb dL_partly_60 (by decide) ?_
  refine lv_iconst (v := (0 : Int32)) hx hb dL_partly_61 (by decide) ?_
  refine lv_bipush (v := (9 : Int32)) hx hb dL_partly_62 (by decide) ?_
  refine lv_iconst (v := (0 : Int32)) hx hb dL_partly_64 (by decide) ?_
  obtain ⟨M1, hc1, h1⟩ := s_lock V59 (1 : Int32) false false (c := (2 : Int32)) (x := (131 : Int32)) (y := (9 : Int32)) (tks := (0 : Int32)) h (by decide +kernel)
  have hc1 : f_X4_lock M (2 : Int32) (131 : Int32) (0 : Int32) (0 : Int32) (9 : Int32) (0 : Int32) = some (.inr (1 : Int32), M1) := hc1
  refine kL_48R C hml hl.1 (c_X4_lock hlf hc1) ⟨Nat.le_of_ble_eq_true rfl, Nat.le_of_ble_eq_true rfl⟩ ⟨by show _ ≤ 4189; omega, by show _ ≤ 25467; omega⟩ (Nat.le_of_ble_eq_true rfl) hS hW dL_partly_65 (fun H locs hW hS => ?_)
  refine lv_iconst (v := (1 : Int32)) hx hb dL_partly_68 (by decide) ?_
  refine lv_icmp_ne (tgt := 234) hx hb dL_partly_69 (by decide) (fun c => absurd (by decide) c) (fun _ => ?_)
  refine lv_aload_n hx hb dL_partly_72 rfl (lv_at hl 0 rfl) ?_
  refine lv_iconst (v := (3 : Int32)) hx hb dL_partly_73 (by decide) ?_
  refine lv_bipush (v := (11 : Int32)) hx hb dL_partly_74 (by decide) ?_
  refine lv_iconst (v := (0 : Int32)) hx hb dL_partly_76 (by decide) ?_
  refine lv_iconst (v := (0 : Int32)) hx hb dL_partly_77 (by decide) ?_
  refine lv_bipush (v := (9 : Int32)) hx hb dL_partly_78 (by decide) ?_
  refine lv_iconst (v := (0 : Int32)) hx hb dL_partly_80 (by decide) ?_
  obtain ⟨M2, hc2, h2⟩ := s_lock V60 (2 : Int32) false false (c := (3 : Int32)) (x := (11 : Int32)) (y := (9 : Int32)) (tks := (0 : Int32)) h1 (by decide +kernel)
  have hc2 : f_X4_lock M1 (3 : Int32) (11 : Int32) (0 : Int32) (0 : Int32) (9 : Int32) (0 : Int32) = some (.inr (2 : Int32), M2) := hc2
  refine kL_48R C hml hl.1 (c_X4_lock hlf hc2) ⟨Nat.le_of_ble_eq_true rfl, Nat.le_of_ble_eq_true rfl⟩ ⟨by show _ ≤ 4189; omega, by show _ ≤ 25467; omega⟩ (Nat.le_of_ble_eq_true rfl) hS hW dL_partly_81 (fun H locs hW hS => ?_)
  refine lv_iconst (v := (2 : Int32)) hx hb dL_partly_84 (by decide) ?_
  refine lv_icmp_ne (tgt := 234) hx hb dL_partly_85 (by decide) (fun c => absurd (by decide) c) (fun _ => ?_)
  refine lv_aload_n hx hb dL_partly_88 rfl (lv_at hl 0 rfl) ?_
  refine lv_iconst (v := (0 : Int32)) hx hb dL_partly_89 (by decide) ?_
  refine lv_iconst (v := (1 : Int32)) hx hb dL_partly_90 (by decide) ?_
  refine lv_iconst (v := (0 : Int32)) hx hb dL_partly_91 (by decide) ?_
  obtain ⟨M3, hc3, h3⟩ := s_delete V61 (6 : Int32) true (c := (0 : Int32)) (x := (1 : Int32)) (tks := (0 : Int32)) h2 (by decide +kernel)
  have hc3 : f_X4_delete M2 (0 : Int32) (1 : Int32) (0 : Int32) = some (.inr (6 : Int32), M3) := hc3
  refine kL_17R C hml hl.1 (c_X4_delete hlf hc3) ⟨Nat.le_of_ble_eq_true rfl, Nat.le_of_ble_eq_true rfl⟩ ⟨by show _ ≤ 4189; omega, by show _ ≤ 25467; omega⟩ (Nat.le_of_ble_eq_true rfl) hS hW dL_partly_92 (fun H locs hW hS => ?_)
  refine lv_bipush (v := (6 : Int32)) hx hb dL_partly_95 (by decide) ?_
  refine lv_icmp_ne (tgt := 234) hx hb dL_partly_97 (by decide) (fun c => absurd (by decide) c) (fun _ => ?_)
  exact t_partly_2 C hml hr hlk hlf h3 hS hW (lv_sub hl [0] rfl) ⟨by omega, by omega⟩
set_option maxHeartbeats 4000000 in
set_option maxRecDepth 100000 in
theorem t_partly_0 {p : Program} {l : Launch} {e : Env} {s : State} {m : MethodId} {args : Array Value} {below : List Frame} {meth : Method} {c : Code} {Z : Zt} {b : Nat} (C : Cx p s m args c cL_partly RL Z b) (hml : c.maxLocals = 2) (hr : meth.sig.returnType = some .boolean) (hlk : meth.locks = false) (hlf : l.stackTraces = false) {M : Mem} (h : RS M ([], [], 0, [])) {H : Heap} {locs : List Loc} {ls : Array Slot} {cells slots : Nat} (hS : va_S (A0 b) s.heap H locs) (hW : Wd Z b M H) (hl : lv_has ls 2 [(0, .ref (b + 0))]) (hcs : cells + 4033 ≤ 4189 ∧ slots + 24198 ≤ 25467) : W p l e rm_L_partly s m args below meth c H locs cells slots (MQ below (QT b) args s 4189 25467 (A0 b)) (F0 m 8 ls []) := by
  have hx := C.1
  have hb := C.2.1
  refine lv_aload_n hx hb dL_partly_8 rfl (lv_at hl 0 rfl) ?_
  obtain ⟨M1, h1, hc1⟩ := c_L_shelf (l := l) (Z := Z) (b := b) hlf h
  refine kL_99 C hml hl.1 hc1 ⟨Nat.le_of_ble_eq_true rfl, Nat.le_of_ble_eq_true rfl⟩ ⟨by show _ ≤ 4189; omega, by show _ ≤ 25467; omega⟩ (Nat.le_of_ble_eq_true rfl) hS hW dL_partly_9 (fun H locs hW hS => ?_)
  refine lv_if_eq (tgt := 234) hx hb dL_partly_12 (by decide) (fun c => absurd c (by decide)) (fun _ => ?_)
  refine lv_aload_n hx hb dL_partly_15 rfl (lv_at hl 0 rfl) ?_
  refine lv_iconst (v := (0 : Int32)) hx hb dL_partly_16 (by decide) ?_
  refine lv_bipush (v := (13 : Int32)) hx hb dL_partly_17 (by decide) ?_
  refine lv_iconst (v := (0 : Int32)) hx hb dL_partly_19 (by decide) ?_
  obtain ⟨M2, hc2, h2⟩ := s_mk V56 (0 : Int32) (c := (0 : Int32)) (x := (13 : Int32)) (tks := (0 : Int32)) h1 (by decide +kernel)
  have hc2 : f_X4_makeCollection M1 (0 : Int32) (13 : Int32) (0 : Int32) = some (.inr (0 : Int32), M2) := hc2
  refine kL_7R C hml hl.1 (c_X4_makeCollection hlf hc2) ⟨Nat.le_of_ble_eq_true rfl, Nat.le_of_ble_eq_true rfl⟩ ⟨by show _ ≤ 4189; omega, by show _ ≤ 25467; omega⟩ (Nat.le_of_ble_eq_true rfl) hS hW dL_partly_20 (fun H locs hW hS => ?_)
  refine lv_if_ne (tgt := 234) hx hb dL_partly_23 (by decide) (fun c => absurd (by decide) c) (fun _ => ?_)
  refine lv_aload_n hx hb dL_partly_26 rfl (lv_at hl 0 rfl) ?_
  refine lv_iconst (v := (0 : Int32)) hx hb dL_partly_27 (by decide) ?_
  refine lv_sipush (v := (131 : Int32)) hx hb dL_partly_28 (by decide) ?_
  refine lv_iconst (v := (3 : Int32)) hx hb dL_partly_31 (by decide) ?_
  refine lv_iconst (v := (-1 : Int32)) hx hb dL_partly_32 (by decide) ?_
  refine lv_iconst (v := (0 : Int32)) hx hb dL_partly_33 (by decide) ?_
  obtain ⟨M3, hc3, h3⟩ := s_put V57 (0 : Int32) (c := (0 : Int32)) (x := (131 : Int32)) (ct := (3 : Int32)) (ex := (-1 : Int32)) (tks := (0 : Int32)) h2 (by decide +kernel)
  have hc3 : f_X4_put M2 (0 : Int32) (131 : Int32) (3 : Int32) (-1 : Int32) (0 : Int32) = some (.inr (0 : Int32), M3) := hc3
  refine kL_13R C hml hl.1 (c_X4_put hlf hc3) ⟨Nat.le_of_ble_eq_true rfl, Nat.le_of_ble_eq_true rfl⟩ ⟨by show _ ≤ 4189; omega, by show _ ≤ 25467; omega⟩ (Nat.le_of_ble_eq_true rfl) hS hW dL_partly_34 (fun H locs hW hS => ?_)
  refine lv_if_ne (tgt := 234) hx hb dL_partly_37 (by decide) (fun c => absurd (by decide) c) (fun _ => ?_)
  refine lv_aload_n hx hb dL_partly_40 rfl (lv_at hl 0 rfl) ?_
  refine lv_iconst (v := (2 : Int32)) hx hb dL_partly_41 (by decide) ?_
  refine lv_bipush (v := (12 : Int32)) hx hb dL_partly_42 (by decide) ?_
  refine lv_iconst (v := (0 : Int32)) hx hb dL_partly_44 (by decide) ?_
  refine lv_iconst (v := (0 : Int32)) hx hb dL_partly_45 (by decide) ?_
  refine lv_bipush (v := (9 : Int32)) hx hb dL_partly_46 (by decide) ?_
  refine lv_iconst (v := (0 : Int32)) hx hb dL_partly_48 (by decide) ?_
  obtain ⟨M4, hc4, h4⟩ := s_lock V58 (0 : Int32) false false (c := (2 : Int32)) (x := (12 : Int32)) (y := (9 : Int32)) (tks := (0 : Int32)) h3 (by decide +kernel)
  have hc4 : f_X4_lock M3 (2 : Int32) (12 : Int32) (0 : Int32) (0 : Int32) (9 : Int32) (0 : Int32) = some (.inr (0 : Int32), M4) := hc4
  refine kL_48R C hml hl.1 (c_X4_lock hlf hc4) ⟨Nat.le_of_ble_eq_true rfl, Nat.le_of_ble_eq_true rfl⟩ ⟨by show _ ≤ 4189; omega, by show _ ≤ 25467; omega⟩ (Nat.le_of_ble_eq_true rfl) hS hW dL_partly_49 (fun H locs hW hS => ?_)
  refine lv_if_ne (tgt := 234) hx hb dL_partly_52 (by decide) (fun c => absurd (by decide) c) (fun _ => ?_)
  exact t_partly_1 C hml hr hlk hlf h4 hS hW (lv_sub hl [0] rfl) ⟨by omega, by omega⟩
set_option maxHeartbeats 4000000 in
set_option maxRecDepth 100000 in
theorem c_L_partly {l : Launch} (hlf : l.stackTraces = false) {Z : Zt} {b : Nat} : CtT l yL_partly cL_partly 2 rm_L_partly 4189 25467 Z b := by
  refine Met.ofW (cc := cL_partly) (maxL := 2) (ret := (some .boolean)) (by decide) rfl ?_
  intro p e s m args below meth c s₁ B hml hv
  obtain ⟨rfl, hE, hbs⟩ := hv
  have C : Cx p s m ([] : List Value).toArray c cL_partly RL Z b := ⟨B.exec, B.bytes, findClass_of_methodNamed B.named, fun w hw => atoms_spec (ws := Cond.code yL_partly cL_partly 2 (some .boolean) :: wsA) B.pre w (List.mem_cons_of_mem _ hw), hE.1⟩
  have hx := C.1
  have hb := C.2.1
  have hP : Pw Z b 0 (fun _ => srv .null .null .null) s.heap := ⟨by omega, fun k q hq => by obtain ⟨hk, -⟩ := pwl_at hq; omega⟩
  have hl := lv_entry ([] : List Value) (n := 2) (Nat.le_of_ble_eq_true rfl)
  rw [lg_entry_eq]
  generalize (lg_sl ([] : List Value) ++ List.replicate (2 - (lg_sl ([] : List Value)).length) Slot.unset).toArray = ls at hl ⊢
  have hl : lv_has ls 2 [] := hl
  refine nw_obj (ci := 4) (fs := [.null, .null, .null, .int 0]) (C := RX4) (T := TX4) (N := 4) hx hb C.2.2.2.1 inaX4 tyX4 tyX4_ok C.2.2.1 (C.2.2.2.1 _ q54) (C.2.2.2.1 _ q55) (C.2.2.2.1 _ q43) C.2.2.2.2.1 hP va_S.rf rfl (fun j hj => by rcases (show j = 0 ∨ j = 1 ∨ j = 2 ∨ j = 3 by omega) with rfl | rfl | rfl | rfl <;> rfl) (Nat.le_of_ble_eq_true rfl) (Nat.le_of_ble_eq_true rfl) dL_partly_0 (fun H1 hP hS => ?_)
  refine lv_dup hx hb dL_partly_3 rfl ?_
  refine cl_goI (va_runI (As := []) (b := b + 0) ⟨hx, hb, hml, C.2.2.1, C.2.2.2.1⟩ (c_X4_init (vup_s _ _ _)) (cwI 0 C.2.2.2.1 (gN q58) rfl rfl rfl (C.2.2.2.1 _ q43) (C.2.2.2.1 _ q56) (C.2.2.2.1 _ q57) rfl (by decide +kernel) ⟨Nat.le_of_ble_eq_true rfl, Nat.le_of_ble_eq_true rfl⟩) ⟨Prei.blind _ _ _ _ _, fun U hU hWU => ⟨rfl, hE.call hS hU hWU, by rw [hU]; exact hP⟩⟩ rfl rfl hl.1 rfl (lv_room (Nat.le_of_ble_eq_true rfl)) dL_partly_4 ⟨Nat.le_of_ble_eq_true rfl, Nat.le_of_ble_eq_true rfl⟩) hS (fun H1 locs hP hS => ?_)
  refine lv_astore_n (lv' := [(0, .ref (b + 0))]) hx hb dL_partly_7 rfl hl (by decide) rfl (fun ls hl => ?_)
  have hW : Wd Z b M0 H1 := eZ_Wd hP
  exact t_partly_0 C hml B.returns B.notSynchronized hlf RS_0 hS hW hl ⟨by omega, by omega⟩

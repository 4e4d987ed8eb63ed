set_option maxHeartbeats 4000000 in
set_option maxRecDepth 100000 in
theorem t_partly_62 {p : Program} {l : Launch} {e : Env} {s : State} {m : MethodId} {args : Array Value} {below : List Frame} {meth : Method} {c : Code} {Z : Zt} {b : Nat} (C : Cx p s m args c cL_partly RL Z b) (hml : c.maxLocals = 2) (hr : meth.sig.returnType = some .boolean) (hlk : meth.locks = false) (hlf : l.stackTraces = false) {M : Mem} (h : RS M V123) {H : Heap} {locs : List Loc} {ls : Array Slot} {cells slots : Nat} (hS : va_S (A0 b) s.heap H locs) (hW : Wd Z b M H) (hl : lv_has ls 2 [(1, .int (61 : Int32)), (0, .ref (b + 0))]) (hcs : cells + 2002 ≤ 4189 ∧ slots + 12012 ≤ 25467) : W p l e rm_L_partly s m args below meth c H locs cells slots (MQ below (QT b) args s 4189 25467 (A0 b)) (F0 m 328 ls []) := by
  have hx := C.1
  have hb := C.2.1
  refine lv_aload_n hx hb dL_partly_328 rfl (lv_at hl 1 rfl) ?_
  refine lv_bipush (v := (11 : Int32)) hx hb dL_partly_329 (by decide) ?_
  refine lv_iconst (v := (0 : Int32)) hx hb dL_partly_331 (by decide) ?_
  refine lv_bipush (v := (67 : Int32)) hx hb dL_partly_332 (by decide) ?_
  refine lv_iconst (v := (5 : Int32)) hx hb dL_partly_334 (by decide) ?_
  refine lv_iconst (v := (0 : Int32)) hx hb dL_partly_335 (by decide) ?_
  have hc : f_L_act M (11 : Int32) (0 : Int32) (67 : Int32) (5 : Int32) (0 : Int32) = some ((-9003 : Int32), M) := by rw [act_11]; exact hnd_S (s_lockS false false h (by decide +kernel))
  refine kL_85 C hml hl.1 (c_L_act hlf hc) ⟨Nat.le_of_ble_eq_true rfl, Nat.le_of_ble_eq_true rfl⟩ ⟨by show _ ≤ 4189; omega, by show _ ≤ 25467; omega⟩ (Nat.le_of_ble_eq_true rfl) hS hW dL_partly_336 (fun H locs hW hS => ?_)
  refine lv_sipush (v := (-9003 : Int32)) hx hb dL_partly_339 (by decide) ?_
  refine lv_icmp_ne (tgt := 452) hx hb dL_partly_342 (by decide) (fun c => absurd (by decide) c) (fun _ => ?_)
  refine lv_aload_n hx hb dL_partly_345 rfl (lv_at hl 1 rfl) ?_
  refine lv_iconst (v := (0 : Int32)) hx hb dL_partly_346 (by decide) ?_
  refine lv_bipush (v := (11 : Int32)) hx hb dL_partly_347 (by decide) ?_
  refine lv_bipush (v := (67 : Int32)) hx hb dL_partly_349 (by decide) ?_
  refine lv_iconst (v := (0 : Int32)) hx hb dL_partly_351 (by decide) ?_
  refine lv_iconst (v := (0 : Int32)) hx hb dL_partly_352 (by decide) ?_
  obtain ⟨M1, hc1, h1⟩ := s_copy V123 (5 : Int32) false (c := (0 : Int32)) (x := (11 : Int32)) (y := (67 : Int32)) (tks := (0 : Int32)) h (by decide +kernel)
  have hc1 : f_X4_copy M (0 : Int32) (11 : Int32) (67 : Int32) (0 : Int32) (0 : Int32) = some (.inr (5 : Int32), M1) := hc1
  refine kL_24R C hml hl.1 (c_X4_copy hlf hc1) ⟨Nat.le_of_ble_eq_true rfl, Nat.le_of_ble_eq_true rfl⟩ ⟨by show _ ≤ 4189; omega, by show _ ≤ 25467; omega⟩ (Nat.le_of_ble_eq_true rfl) hS hW dL_partly_353 (fun H locs hW hS => ?_)
  refine lv_iconst (v := (5 : Int32)) hx hb dL_partly_356 (by decide) ?_
  refine lv_icmp_ne (tgt := 452) hx hb dL_partly_357 (by decide) (fun c => absurd (by decide) c) (fun _ => ?_)
  refine lv_aload_n hx hb dL_partly_360 rfl (lv_at hl 1 rfl) ?_
  refine lv_iconst (v := (0 : Int32)) hx hb dL_partly_361 (by decide) ?_
  refine lv_bipush (v := (11 : Int32)) hx hb dL_partly_362 (by decide) ?_
  refine lv_bipush (v := (12 : Int32)) hx hb dL_partly_364 (by decide) ?_
  refine lv_iconst (v := (1 : Int32)) hx hb dL_partly_366 (by decide) ?_
  refine lv_iconst (v := (0 : Int32)) hx hb dL_partly_367 (by decide) ?_
  obtain ⟨M2, hc2, h2⟩ := s_copy V124 (0 : Int32) true (c := (0 : Int32)) (x := (11 : Int32)) (y := (12 : Int32)) (tks := (0 : Int32)) h1 (by decide +kernel)
  have hc2 : f_X4_copy M1 (0 : Int32) (11 : Int32) (12 : Int32) (1 : Int32) (0 : Int32) = some (.inr (0 : Int32), M2) := hc2
  refine kL_24R C hml hl.1 (c_X4_copy hlf hc2) ⟨Nat.le_of_ble_eq_true rfl, Nat.le_of_ble_eq_true rfl⟩ ⟨by show _ ≤ 4189; omega, by show _ ≤ 25467; omega⟩ (Nat.le_of_ble_eq_true rfl) hS hW dL_partly_368 (fun H locs hW hS => ?_)
  refine lv_if_ne (tgt := 452) hx hb dL_partly_371 (by decide) (fun c => absurd (by decide) c) (fun _ => ?_)
  exact t_partly_63 C hml hr hlk hlf h2 hS hW (lv_sub hl [0, 1] rfl) ⟨by omega, by omega⟩
set_option maxHeartbeats 4000000 in
set_option maxRecDepth 100000 in
theorem t_partly_61 {p : Program} {l : Launch} {e : Env} {s : State} {m : MethodId} {args : Array Value} {below : List Frame} {meth : Method} {c : Code} {Z : Zt} {b : Nat} (C : Cx p s m args c cL_partly RL Z b) (hml : c.maxLocals = 2) (hr : meth.sig.returnType = some .boolean) (hlk : meth.locks = false) (hlf : l.stackTraces = false) {M : Mem} (h : RS M V123) {H : Heap} {locs : List Loc} {ls : Array Slot} {cells slots : Nat} (hS : va_S (A0 b) s.heap H locs) (hW : Wd Z b M H) (hl : lv_has ls 2 [(1, .int (60 : Int32)), (0, .ref (b + 0))]) (hcs : cells + 2012 ≤ 4189 ∧ slots + 12072 ≤ 25467) : W p l e rm_L_partly s m args below meth c H locs cells slots (MQ below (QT b) args s 4189 25467 (A0 b)) (F0 m 287 ls []) := by
  have hx := C.1
  have hb := C.2.1
  refine lv_iinc (v := (61 : Int32)) (lv' := [(1, .int (61 : Int32)), (0, .ref (b + 0))]) hx hb dL_partly_287 hl (k := 0) rfl (by decide) (by decide) rfl (fun ls hl => ?_)
  refine lv_goto (tgt := 238) hx hb dL_partly_290 (by decide) ?_
  refine lv_iload_n hx hb dL_partly_238 rfl (lv_at hl 0 rfl) ?_
  refine lv_bipush (v := (61 : Int32)) hx hb dL_partly_239 (by decide) ?_
  refine lv_icmp_ge (tgt := 293) hx hb dL_partly_241 (by decide) (fun _ => ?_) (fun c => absurd (by decide) c)
  refine lv_aload_n hx hb dL_partly_293 rfl (lv_at hl 1 rfl) ?_
  have hc : f_X4_resources M = some ((60 : Int32), M) := s_resources h (by decide +kernel)
  refine kL_77 C hml hl.1 (c_X4_resources hc) ⟨Nat.le_of_ble_eq_true rfl, Nat.le_of_ble_eq_true rfl⟩ ⟨by show _ ≤ 4189; omega, by show _ ≤ 25467; omega⟩ (Nat.le_of_ble_eq_true rfl) hS hW dL_partly_294 (fun H locs hW hS => ?_)
  refine lv_bipush (v := (60 : Int32)) hx hb dL_partly_297 (by decide) ?_
  refine lv_icmp_ne (tgt := 452) hx hb dL_partly_299 (by decide) (fun c => absurd (by decide) c) (fun _ => ?_)
  refine lv_aload_n hx hb dL_partly_302 rfl (lv_at hl 1 rfl) ?_
  refine lv_iconst (v := (0 : Int32)) hx hb dL_partly_303 (by decide) ?_
  refine lv_bipush (v := (67 : Int32)) hx hb dL_partly_304 (by decide) ?_
  refine lv_iconst (v := (0 : Int32)) hx hb dL_partly_306 (by decide) ?_
  obtain ⟨M1, hc1, h1⟩ := s_mk V123 (5 : Int32) (c := (0 : Int32)) (x := (67 : Int32)) (tks := (0 : Int32)) h (by decide +kernel)
  have hc1 : f_X4_makeCollection M (0 : Int32) (67 : Int32) (0 : Int32) = some (.inr (5 : Int32), M1) := hc1
  refine kL_7R C hml hl.1 (c_X4_makeCollection hlf hc1) ⟨Nat.le_of_ble_eq_true rfl, Nat.le_of_ble_eq_true rfl⟩ ⟨by show _ ≤ 4189; omega, by show _ ≤ 25467; omega⟩ (Nat.le_of_ble_eq_true rfl) hS hW dL_partly_307 (fun H locs hW hS => ?_)
  refine lv_iconst (v := (5 : Int32)) hx hb dL_partly_310 (by decide) ?_
  refine lv_icmp_ne (tgt := 452) hx hb dL_partly_311 (by decide) (fun c => absurd (by decide) c) (fun _ => ?_)
  refine lv_aload_n hx hb dL_partly_314 rfl (lv_at hl 1 rfl) ?_
  refine lv_iconst (v := (0 : Int32)) hx hb dL_partly_315 (by decide) ?_
  refine lv_bipush (v := (67 : Int32)) hx hb dL_partly_316 (by decide) ?_
  refine lv_iconst (v := (1 : Int32)) hx hb dL_partly_318 (by decide) ?_
  refine lv_iconst (v := (-1 : Int32)) hx hb dL_partly_319 (by decide) ?_
  refine lv_iconst (v := (0 : Int32)) hx hb dL_partly_320 (by decide) ?_
  obtain ⟨M2, hc2, h2⟩ := s_put V123 (5 : Int32) (c := (0 : Int32)) (x := (67 : Int32)) (ct := (1 : Int32)) (ex := (-1 : Int32)) (tks := (0 : Int32)) h1 (by decide +kernel)
  have hc2 : f_X4_put M1 (0 : Int32) (67 : Int32) (1 : Int32) (-1 : Int32) (0 : Int32) = some (.inr (5 : Int32), M2) := hc2
  refine kL_13R C hml hl.1 (c_X4_put hlf hc2) ⟨Nat.le_of_ble_eq_true rfl, Nat.le_of_ble_eq_true rfl⟩ ⟨by show _ ≤ 4189; omega, by show _ ≤ 25467; omega⟩ (Nat.le_of_ble_eq_true rfl) hS hW dL_partly_321 (fun H locs hW hS => ?_)
  refine lv_iconst (v := (5 : Int32)) hx hb dL_partly_324 (by decide) ?_
  refine lv_icmp_ne (tgt := 452) hx hb dL_partly_325 (by decide) (fun c => absurd (by decide) c) (fun _ => ?_)
  exact t_partly_62 C hml hr hlk hlf h2 hS hW (lv_sub hl [0, 1] rfl) ⟨by omega, by omega⟩
set_option maxHeartbeats 4000000 in
set_option maxRecDepth 100000 in
theorem t_partly_60 {p : Program} {l : Launch} {e : Env} {s : State} {m : MethodId} {args : Array Value} {below : List Frame} {meth : Method} {c : Code} {Z : Zt} {b : Nat} (C : Cx p s m args c cL_partly RL Z b) (hml : c.maxLocals = 2) (hr : meth.sig.returnType = some .boolean) (hlk : meth.locks = false) (hlf : l.stackTraces = false) {M : Mem} (h : RS M V122) {H : Heap} {locs : List Loc} {ls : Array Slot} {cells slots : Nat} (hS : va_S (A0 b) s.heap H locs) (hW : Wd Z b M H) (hl : lv_has ls 2 [(1, .int (59 : Int32)), (0, .ref (b + 0))]) (hcs : cells + 2016 ≤ 4189 ∧ slots + 12096 ≤ 25467) : W p l e rm_L_partly s m args below meth c H locs cells slots (MQ below (QT b) args s 4189 25467 (A0 b)) (F0 m 287 ls []) := by
  have hx := C.1
  have hb := C.2.1
  refine lv_iinc (v := (60 : Int32)) (lv' := [(1, .int (60 : Int32)), (0, .ref (b + 0))]) hx hb dL_partly_287 hl (k := 0) rfl (by decide) (by decide) rfl (fun ls hl => ?_)
  refine lv_goto (tgt := 238) hx hb dL_partly_290 (by decide) ?_
  refine lv_iload_n hx hb dL_partly_238 rfl (lv_at hl 0 rfl) ?_
  refine lv_bipush (v := (61 : Int32)) hx hb dL_partly_239 (by decide) ?_
  refine lv_icmp_ge (tgt := 293) hx hb dL_partly_241 (by decide) (fun c => absurd c (by decide)) (fun _ => ?_)
  refine lv_aload_n hx hb dL_partly_244 rfl (lv_at hl 1 rfl) ?_
  refine lv_iconst (v := (0 : Int32)) hx hb dL_partly_245 (by decide) ?_
  refine lv_iload_n hx hb dL_partly_246 rfl (lv_at hl 0 rfl) ?_
  refine lv_bipush (v := (10 : Int32)) hx hb dL_partly_247 (by decide) ?_
  refine lv_icmp_ge (tgt := 256) hx hb dL_partly_249 (by decide) (fun _ => ?_) (fun c => absurd (by decide) c)
  refine lv_bipush (v := (10 : Int32)) hx hb dL_partly_256 (by decide) ?_
  refine lv_iload_n hx hb dL_partly_258 rfl (lv_at hl 0 rfl) ?_
  refine lv_bipush (v := (10 : Int32)) hx hb dL_partly_259 (by decide) ?_
  refine lv_isub hx hb dL_partly_261 ?_
  refine W.eq (g2 := F0 m 262 ls [.int (50 : Int32), .int (10 : Int32), .int (0 : Int32), .ref (b + 0)]) (congrArg (fun v => F0 m 262 ls (.int v :: [.int (10 : Int32), .int (0 : Int32), .ref (b + 0)])) (show (60 : Int32) - (10 : Int32) = (50 : Int32) by decide)) ?_
  refine lv_bipush (v := (9 : Int32)) hx hb dL_partly_262 (by decide) ?_
  refine lv_idiv hx hb dL_partly_264 (by decide) ?_
  refine W.eq (g2 := F0 m 265 ls [.int (5 : Int32), .int (10 : Int32), .int (0 : Int32), .ref (b + 0)]) (congrArg (fun v => F0 m 265 ls (.int v :: [.int (10 : Int32), .int (0 : Int32), .ref (b + 0)])) (show (50 : Int32) / (9 : Int32) = (5 : Int32) by decide)) ?_
  refine lv_iconst (v := (1 : Int32)) hx hb dL_partly_265 (by decide) ?_
  refine lv_iadd hx hb dL_partly_266 ?_
  refine W.eq (g2 := F0 m 267 ls [.int (6 : Int32), .int (10 : Int32), .int (0 : Int32), .ref (b + 0)]) (congrArg (fun v => F0 m 267 ls (.int v :: [.int (10 : Int32), .int (0 : Int32), .ref (b + 0)])) (show (5 : Int32) + (1 : Int32) = (6 : Int32) by decide)) ?_
  refine lv_imul hx hb dL_partly_267 ?_
  refine W.eq (g2 := F0 m 268 ls [.int (60 : Int32), .int (0 : Int32), .ref (b + 0)]) (congrArg (fun v => F0 m 268 ls (.int v :: [.int (0 : Int32), .ref (b + 0)])) (show (10 : Int32) * (6 : Int32) = (60 : Int32) by decide)) ?_
  refine lv_iload_n hx hb dL_partly_268 rfl (lv_at hl 0 rfl) ?_
  refine lv_bipush (v := (10 : Int32)) hx hb dL_partly_269 (by decide) ?_
  refine lv_isub hx hb dL_partly_271 ?_
  refine W.eq (g2 := F0 m 272 ls [.int (50 : Int32), .int (60 : Int32), .int (0 : Int32), .ref (b + 0)]) (congrArg (fun v => F0 m 272 ls (.int v :: [.int (60 : Int32), .int (0 : Int32), .ref (b + 0)])) (show (60 : Int32) - (10 : Int32) = (50 : Int32) by decide)) ?_
  refine lv_bipush (v := (9 : Int32)) hx hb dL_partly_272 (by decide) ?_
  refine lv_irem hx hb dL_partly_274 (by decide) ?_
  refine W.eq (g2 := F0 m 275 ls [.int (5 : Int32), .int (60 : Int32), .int (0 : Int32), .ref (b + 0)]) (congrArg (fun v => F0 m 275 ls (.int v :: [.int (60 : Int32), .int (0 : Int32), .ref (b + 0)])) (show (50 : Int32) - (50 : Int32) / (9 : Int32) * (9 : Int32) = (5 : Int32) by decide)) ?_
  refine lv_iadd hx hb dL_partly_275 ?_
  refine W.eq (g2 := F0 m 276 ls [.int (65 : Int32), .int (0 : Int32), .ref (b + 0)]) (congrArg (fun v => F0 m 276 ls (.int v :: [.int (0 : Int32), .ref (b + 0)])) (show (60 : Int32) + (5 : Int32) = (65 : Int32) by decide)) ?_
  refine lv_iconst (v := (1 : Int32)) hx hb dL_partly_276 (by decide) ?_
  refine lv_iadd hx hb dL_partly_277 ?_
  refine W.eq (g2 := F0 m 278 ls [.int (66 : Int32), .int (0 : Int32), .ref (b + 0)]) (congrArg (fun v => F0 m 278 ls (.int v :: [.int (0 : Int32), .ref (b + 0)])) (show (65 : Int32) + (1 : Int32) = (66 : Int32) by decide)) ?_
  refine lv_iconst (v := (0 : Int32)) hx hb dL_partly_278 (by decide) ?_
  obtain ⟨M1, hc1, h1⟩ := s_mk V123 (0 : Int32) (c := (0 : Int32)) (x := (66 : Int32)) (tks := (0 : Int32)) h (by decide +kernel)
  have hc1 : f_X4_makeCollection M (0 : Int32) (66 : Int32) (0 : Int32) = some (.inr (0 : Int32), M1) := hc1
  refine kL_7R C hml hl.1 (c_X4_makeCollection hlf hc1) ⟨Nat.le_of_ble_eq_true rfl, Nat.le_of_ble_eq_true rfl⟩ ⟨by show _ ≤ 4189; omega, by show _ ≤ 25467; omega⟩ (Nat.le_of_ble_eq_true rfl) hS hW dL_partly_279 (fun H locs hW hS => ?_)
  refine lv_if_eq (tgt := 287) hx hb dL_partly_282 (by decide) (fun _ => ?_) (fun c => absurd (by decide) c)
  exact t_partly_61 C hml hr hlk hlf h1 hS hW (lv_sub hl [0, 1] rfl) ⟨by omega, by omega⟩
set_option maxHeartbeats 4000000 in
set_option maxRecDepth 100000 in
theorem t_partly_59 {p : Program} {l : Launch} {e : Env} {s : State} {m : MethodId} {args : Array Value} {below : List Frame} {meth : Method} {c : Code} {Z : Zt} {b : Nat} (C : Cx p s m args c cL_partly RL Z b) (hml : c.maxLocals = 2) (hr : meth.sig.returnType = some .boolean) (hlk : meth.locks = false) (hlf : l.stackTraces = false) {M : Mem} (h : RS M V121) {H : Heap} {locs : List Loc} {ls : Array Slot} {cells slots : Nat} (hS : va_S (A0 b) s.heap H locs) (hW : Wd Z b M H) (hl : lv_has ls 2 [(1, .int (58 : Int32)), (0, .ref (b + 0))]) (hcs : cells + 2020 ≤ 4189 ∧ slots + 12120 ≤ 25467) : W p l e rm_L_partly s m args below meth c H locs cells slots (MQ below (QT b) args s 4189 25467 (A0 b)) (F0 m 287 ls []) := by
  have hx := C.1
  have hb := C.2.1
  refine lv_iinc (v := (59 : Int32)) (lv' := [(1, .int (59 : Int32)), (0, .ref (b + 0))]) hx hb dL_partly_287 hl (k := 0) rfl (by decide) (by decide) rfl (fun ls hl => ?_)
  refine lv_goto (tgt := 238) hx hb dL_partly_290 (by decide) ?_
  refine lv_iload_n hx hb dL_partly_238 rfl (lv_at hl 0 rfl) ?_
  refine lv_bipush (v := (61 : Int32)) hx hb dL_partly_239 (by decide) ?_
  refine lv_icmp_ge (tgt := 293) hx hb dL_partly_241 (by decide) (fun c => absurd c (by decide)) (fun _ => ?_)
  refine lv_aload_n hx hb dL_partly_244 rfl (lv_at hl 1 rfl) ?_
  refine lv_iconst (v := (0 : Int32)) hx hb dL_partly_245 (by decide) ?_
  refine lv_iload_n hx hb dL_partly_246 rfl (lv_at hl 0 rfl) ?_
  refine lv_bipush (v := (10 : Int32)) hx hb dL_partly_247 (by decide) ?_
  refine lv_icmp_ge (tgt := 256) hx hb dL_partly_249 (by decide) (fun _ => ?_) (fun c => absurd (by decide) c)
  refine lv_bipush (v := (10 : Int32)) hx hb dL_partly_256 (by decide) ?_
  refine lv_iload_n hx hb dL_partly_258 rfl (lv_at hl 0 rfl) ?_
  refine lv_bipush (v := (10 : Int32)) hx hb dL_partly_259 (by decide) ?_
  refine lv_isub hx hb dL_partly_261 ?_
  refine W.eq (g2 := F0 m 262 ls [.int (49 : Int32), .int (10 : Int32), .int (0 : Int32), .ref (b + 0)]) (congrArg (fun v => F0 m 262 ls (.int v :: [.int (10 : Int32), .int (0 : Int32), .ref (b + 0)])) (show (59 : Int32) - (10 : Int32) = (49 : Int32) by decide)) ?_
  refine lv_bipush (v := (9 : Int32)) hx hb dL_partly_262 (by decide) ?_
  refine lv_idiv hx hb dL_partly_264 (by decide) ?_
  refine W.eq (g2 := F0 m 265 ls [.int (5 : Int32), .int (10 : Int32), .int (0 : Int32), .ref (b + 0)]) (congrArg (fun v => F0 m 265 ls (.int v :: [.int (10 : Int32), .int (0 : Int32), .ref (b + 0)])) (show (49 : Int32) / (9 : Int32) = (5 : Int32) by decide)) ?_
  refine lv_iconst (v := (1 : Int32)) hx hb dL_partly_265 (by decide) ?_
  refine lv_iadd hx hb dL_partly_266 ?_
  refine W.eq (g2 := F0 m 267 ls [.int (6 : Int32), .int (10 : Int32), .int (0 : Int32), .ref (b + 0)]) (congrArg (fun v => F0 m 267 ls (.int v :: [.int (10 : Int32), .int (0 : Int32), .ref (b + 0)])) (show (5 : Int32) + (1 : Int32) = (6 : Int32) by decide)) ?_
  refine lv_imul hx hb dL_partly_267 ?_
  refine W.eq (g2 := F0 m 268 ls [.int (60 : Int32), .int (0 : Int32), .ref (b + 0)]) (congrArg (fun v => F0 m 268 ls (.int v :: [.int (0 : Int32), .ref (b + 0)])) (show (10 : Int32) * (6 : Int32) = (60 : Int32) by decide)) ?_
  refine lv_iload_n hx hb dL_partly_268 rfl (lv_at hl 0 rfl) ?_
  refine lv_bipush (v := (10 : Int32)) hx hb dL_partly_269 (by decide) ?_
  refine lv_isub hx hb dL_partly_271 ?_
  refine W.eq (g2 := F0 m 272 ls [.int (49 : Int32), .int (60 : Int32), .int (0 : Int32), .ref (b + 0)]) (congrArg (fun v => F0 m 272 ls (.int v :: [.int (60 : Int32), .int (0 : Int32), .ref (b + 0)])) (show (59 : Int32) - (10 : Int32) = (49 : Int32) by decide)) ?_
  refine lv_bipush (v := (9 : Int32)) hx hb dL_partly_272 (by decide) ?_
  refine lv_irem hx hb dL_partly_274 (by decide) ?_
  refine W.eq (g2 := F0 m 275 ls [.int (4 : Int32), .int (60 : Int32), .int (0 : Int32), .ref (b + 0)]) (congrArg (fun v => F0 m 275 ls (.int v :: [.int (60 : Int32), .int (0 : Int32), .ref (b + 0)])) (show (49 : Int32) - (49 : Int32) / (9 : Int32) * (9 : Int32) = (4 : Int32) by decide)) ?_
  refine lv_iadd hx hb dL_partly_275 ?_
  refine W.eq (g2 := F0 m 276 ls [.int (64 : Int32), .int (0 : Int32), .ref (b + 0)]) (congrArg (fun v => F0 m 276 ls (.int v :: [.int (0 : Int32), .ref (b + 0)])) (show (60 : Int32) + (4 : Int32) = (64 : Int32) by decide)) ?_
  refine lv_iconst (v := (1 : Int32)) hx hb dL_partly_276 (by decide) ?_
  refine lv_iadd hx hb dL_partly_277 ?_
  refine W.eq (g2 := F0 m 278 ls [.int (65 : Int32), .int (0 : Int32), .ref (b + 0)]) (congrArg (fun v => F0 m 278 ls (.int v :: [.int (0 : Int32), .ref (b + 0)])) (show (64 : Int32) + (1 : Int32) = (65 : Int32) by decide)) ?_
  refine lv_iconst (v := (0 : Int32)) hx hb dL_partly_278 (by decide) ?_
  obtain ⟨M1, hc1, h1⟩ := s_mk V122 (0 : Int32) (c := (0 : Int32)) (x := (65 : Int32)) (tks := (0 : Int32)) h (by decide +kernel)
  have hc1 : f_X4_makeCollection M (0 : Int32) (65 : Int32) (0 : Int32) = some (.inr (0 : Int32), M1) := hc1
  refine kL_7R C hml hl.1 (c_X4_makeCollection hlf hc1) ⟨Nat.le_of_ble_eq_true rfl, Nat.le_of_ble_eq_true rfl⟩ ⟨by show _ ≤ 4189; omega, by show _ ≤ 25467; omega⟩ (Nat.le_of_ble_eq_true rfl) hS hW dL_partly_279 (fun H locs hW hS => ?_)
  refine lv_if_eq (tgt := 287) hx hb dL_partly_282 (by decide) (fun _ => ?_) (fun c => absurd (by decide) c)
  exact t_partly_60 C hml hr hlk hlf h1 hS hW (lv_sub hl [0, 1] rfl) ⟨by omega, by omega⟩
set_option maxHeartbeats 4000000 in
set_option maxRecDepth 100000 in
theorem t_partly_58 {p : Program} {l : Launch} {e : Env} {s : State} {m : MethodId} {args : Array Value} {below : List Frame} {meth : Method} {c : Code} {Z : Zt} {b : Nat} (C : Cx p s m args c cL_partly RL Z b) (hml : c.maxLocals = 2) (hr : meth.sig.returnType = some .boolean) (hlk : meth.locks = false) (hlf : l.stackTraces = false) {M : Mem} (h : RS M V120) {H : Heap} {locs : List Loc} {ls : Array Slot} {cells slots : Nat} (hS : va_S (A0 b) s.heap H locs) (hW : Wd Z b M H) (hl : lv_has ls 2 [(1, .int (57 : Int32)), (0, .ref (b + 0))]) (hcs : cells + 2024 ≤ 4189 ∧ slots + 12144 ≤ 25467) : W p l e rm_L_partly s m args below meth c H locs cells slots (MQ below (QT b) args s 4189 25467 (A0 b)) (F0 m 287 ls []) := by
  have hx := C.1
  have hb := C.2.1
  refine lv_iinc (v := (58 : Int32)) (lv' := [(1, .int (58 : Int32)), (0, .ref (b + 0))]) hx hb dL_partly_287 hl (k := 0) rfl (by decide) (by decide) rfl (fun ls hl => ?_)
  refine lv_goto (tgt := 238) hx hb dL_partly_290 (by decide) ?_
  refine lv_iload_n hx hb dL_partly_238 rfl (lv_at hl 0 rfl) ?_
  refine lv_bipush (v := (61 : Int32)) hx hb dL_partly_239 (by decide) ?_
  refine lv_icmp_ge (tgt := 293) hx hb dL_partly_241 (by decide) (fun c => absurd c (by decide)) (fun _ => ?_)
  refine lv_aload_n hx hb dL_partly_244 rfl (lv_at hl 1 rfl) ?_
  refine lv_iconst (v := (0 : Int32)) hx hb dL_partly_245 (by decide) ?_
  refine lv_iload_n hx hb dL_partly_246 rfl (lv_at hl 0 rfl) ?_
  refine lv_bipush (v := (10 : Int32)) hx hb dL_partly_247 (by decide) ?_
  refine lv_icmp_ge (tgt := 256) hx hb dL_partly_249 (by decide) (fun _ => ?_) (fun c => absurd (by decide) c)
  refine lv_bipush (v := (10 : Int32)) hx hb dL_partly_256 (by decide) ?_
  refine lv_iload_n hx hb dL_partly_258 rfl (lv_at hl 0 rfl) ?_
  refine lv_bipush (v := (10 : Int32)) hx hb dL_partly_259 (by decide) ?_
  refine lv_isub hx hb dL_partly_261 ?_
  refine W.eq (g2 := F0 m 262 ls [.int (48 : Int32), .int (10 : Int32), .int (0 : Int32), .ref (b + 0)]) (congrArg (fun v => F0 m 262 ls (.int v :: [.int (10 : Int32), .int (0 : Int32), .ref (b + 0)])) (show (58 : Int32) - (10 : Int32) = (48 : Int32) by decide)) ?_
  refine lv_bipush (v := (9 : Int32)) hx hb dL_partly_262 (by decide) ?_
  refine lv_idiv hx hb dL_partly_264 (by decide) ?_
  refine W.eq (g2 := F0 m 265 ls [.int (5 : Int32), .int (10 : Int32), .int (0 : Int32), .ref (b + 0)]) (congrArg (fun v => F0 m 265 ls (.int v :: [.int (10 : Int32), .int (0 : Int32), .ref (b + 0)])) (show (48 : Int32) / (9 : Int32) = (5 : Int32) by decide)) ?_
  refine lv_iconst (v := (1 : Int32)) hx hb dL_partly_265 (by decide) ?_
  refine lv_iadd hx hb dL_partly_266 ?_
  refine W.eq (g2 := F0 m 267 ls [.int (6 : Int32), .int (10 : Int32), .int (0 : Int32), .ref (b + 0)]) (congrArg (fun v => F0 m 267 ls (.int v :: [.int (10 : Int32), .int (0 : Int32), .ref (b + 0)])) (show (5 : Int32) + (1 : Int32) = (6 : Int32) by decide)) ?_
  refine lv_imul hx hb dL_partly_267 ?_
  refine W.eq (g2 := F0 m 268 ls [.int (60 : Int32), .int (0 : Int32), .ref (b + 0)]) (congrArg (fun v => F0 m 268 ls (.int v :: [.int (0 : Int32), .ref (b + 0)])) (show (10 : Int32) * (6 : Int32) = (60 : Int32) by decide)) ?_
  refine lv_iload_n hx hb dL_partly_268 rfl (lv_at hl 0 rfl) ?_
  refine lv_bipush (v := (10 : Int32)) hx hb dL_partly_269 (by decide) ?_
  refine lv_isub hx hb dL_partly_271 ?_
  refine W.eq (g2 := F0 m 272 ls [.int (48 : Int32), .int (60 : Int32), .int (0 : Int32), .ref (b + 0)]) (congrArg (fun v => F0 m 272 ls (.int v :: [.int (60 : Int32), .int (0 : Int32), .ref (b + 0)])) (show (58 : Int32) - (10 : Int32) = (48 : Int32) by decide)) ?_
  refine lv_bipush (v := (9 : Int32)) hx hb dL_partly_272 (by decide) ?_
  refine lv_irem hx hb dL_partly_274 (by decide) ?_
  refine W.eq (g2 := F0 m 275 ls [.int (3 : Int32), .int (60 : Int32), .int (0 : Int32), .ref (b + 0)]) (congrArg (fun v => F0 m 275 ls (.int v :: [.int (60 : Int32), .int (0 : Int32), .ref (b + 0)])) (show (48 : Int32) - (48 : Int32) / (9 : Int32) * (9 : Int32) = (3 : Int32) by decide)) ?_
  refine lv_iadd hx hb dL_partly_275 ?_
  refine W.eq (g2 := F0 m 276 ls [.int (63 : Int32), .int (0 : Int32), .ref (b + 0)]) (congrArg (fun v => F0 m 276 ls (.int v :: [.int (0 : Int32), .ref (b + 0)])) (show (60 : Int32) + (3 : Int32) = (63 : Int32) by decide)) ?_
  refine lv_iconst (v := (1 : Int32)) hx hb dL_partly_276 (by decide) ?_
  refine lv_iadd hx hb dL_partly_277 ?_
  refine W.eq (g2 := F0 m 278 ls [.int (64 : Int32), .int (0 : Int32), .ref (b + 0)]) (congrArg (fun v => F0 m 278 ls (.int v :: [.int (0 : Int32), .ref (b + 0)])) (show (63 : Int32) + (1 : Int32) = (64 : Int32) by decide)) ?_
  refine lv_iconst (v := (0 : Int32)) hx hb dL_partly_278 (by decide) ?_
  obtain ⟨M1, hc1, h1⟩ := s_mk V121 (0 : Int32) (c := (0 : Int32)) (x := (64 : Int32)) (tks := (0 : Int32)) h (by decide +kernel)
  have hc1 : f_X4_makeCollection M (0 : Int32) (64 : Int32) (0 : Int32) = some (.inr (0 : Int32), M1) := hc1
  refine kL_7R C hml hl.1 (c_X4_makeCollection hlf hc1) ⟨Nat.le_of_ble_eq_true rfl, Nat.le_of_ble_eq_true rfl⟩ ⟨by show _ ≤ 4189; omega, by show _ ≤ 25467; omega⟩ (Nat.le_of_ble_eq_true rfl) hS hW dL_partly_279 (fun H locs hW hS => ?_)
  refine lv_if_eq (tgt := 287) hx hb dL_partly_282 (by decide) (fun _ => ?_) (fun c => absurd (by decide) c)
  exact t_partly_59 C hml hr hlk hlf h1 hS hW (lv_sub hl [0, 1] rfl) ⟨by omega, by omega⟩
set_option maxHeartbeats 4000000 in
set_option maxRecDepth 100000 in
theorem t_partly_57 {p : Program} {l : Launch} {e : Env} {s : State} {m : MethodId} {args : Array Value} {below : List Frame} {meth : Method} {c : Code} {Z : Zt} {b : Nat} (C : Cx p s m args c cL_partly RL Z b) (hml : c.maxLocals = 2) (hr : meth.sig.returnType = some .boolean) (hlk : meth.locks = false) (hlf : l.stackTraces = false) {M : Mem} (h : RS M V119) {H : Heap} {locs : List Loc} {ls : Array Slot} {cells slots : Nat} (hS : va_S (A0 b) s.heap H locs) (hW : Wd Z b M H) (hl : lv_has ls 2 [(1, .int (56 : Int32)), (0, .ref (b + 0))]) (hcs : cells + 2028 ≤ 4189 ∧ slots + 12168 ≤ 25467) : W p l e rm_L_partly s m args below meth c H locs cells slots (MQ below (QT b) args s 4189 25467 (A0 b)) (F0 m 287 ls []) := by
  have hx := C.1
  have hb := C.2.1
  refine lv_iinc (v := (57 : Int32)) (lv' := [(1, .int (57 : Int32)), (0, .ref (b + 0))]) hx hb dL_partly_287 hl (k := 0) rfl (by decide) (by decide) rfl (fun ls hl => ?_)
  refine lv_goto (tgt := 238) hx hb dL_partly_290 (by decide) ?_
  refine lv_iload_n hx hb dL_partly_238 rfl (lv_at hl 0 rfl) ?_
  refine lv_bipush (v := (61 : Int32)) hx hb dL_partly_239 (by decide) ?_
  refine lv_icmp_ge (tgt := 293) hx hb dL_partly_241 (by decide) (fun c => absurd c (by decide)) (fun _ => ?_)
  refine lv_aload_n hx hb dL_partly_244 rfl (lv_at hl 1 rfl) ?_
  refine lv_iconst (v := (0 : Int32)) hx hb dL_partly_245 (by decide) ?_
  refine lv_iload_n hx hb dL_partly_246 rfl (lv_at hl 0 rfl) ?_
  refine lv_bipush (v := (10 : Int32)) hx hb dL_partly_247 (by decide) ?_
  refine lv_icmp_ge (tgt := 256) hx hb dL_partly_249 (by decide) (fun _ => ?_) (fun c => absurd (by decide) c)
  refine lv_bipush (v := (10 : Int32)) hx hb dL_partly_256 (by decide) ?_
  refine lv_iload_n hx hb dL_partly_258 rfl (lv_at hl 0 rfl) ?_
  refine lv_bipush (v := (10 : Int32)) hx hb dL_partly_259 (by decide) ?_
  refine lv_isub hx hb dL_partly_261 ?_
  refine W.eq (g2 := F0 m 262 ls [.int (47 : Int32), .int (10 : Int32), .int (0 : Int32), .ref (b + 0)]) (congrArg (fun v => F0 m 262 ls (.int v :: [.int (10 : Int32), .int (0 : Int32), .ref (b + 0)])) (show (57 : Int32) - (10 : Int32) = (47 : Int32) by decide)) ?_
  refine lv_bipush (v := (9 : Int32)) hx hb dL_partly_262 (by decide) ?_
  refine lv_idiv hx hb dL_partly_264 (by decide) ?_
  refine W.eq (g2 := F0 m 265 ls [.int (5 : Int32), .int (10 : Int32), .int (0 : Int32), .ref (b + 0)]) (congrArg (fun v => F0 m 265 ls (.int v :: [.int (10 : Int32), .int (0 : Int32), .ref (b + 0)])) (show (47 : Int32) / (9 : Int32) = (5 : Int32) by decide)) ?_
  refine lv_iconst (v := (1 : Int32)) hx hb dL_partly_265 (by decide) ?_
  refine lv_iadd hx hb dL_partly_266 ?_
  refine W.eq (g2 := F0 m 267 ls [.int (6 : Int32), .int (10 : Int32), .int (0 : Int32), .ref (b + 0)]) (congrArg (fun v => F0 m 267 ls (.int v :: [.int (10 : Int32), .int (0 : Int32), .ref (b + 0)])) (show (5 : Int32) + (1 : Int32) = (6 : Int32) by decide)) ?_
  refine lv_imul hx hb dL_partly_267 ?_
  refine W.eq (g2 := F0 m 268 ls [.int (60 : Int32), .int (0 : Int32), .ref (b + 0)]) (congrArg (fun v => F0 m 268 ls (.int v :: [.int (0 : Int32), .ref (b + 0)])) (show (10 : Int32) * (6 : Int32) = (60 : Int32) by decide)) ?_
  refine lv_iload_n hx hb dL_partly_268 rfl (lv_at hl 0 rfl) ?_
  refine lv_bipush (v := (10 : Int32)) hx hb dL_partly_269 (by decide) ?_
  refine lv_isub hx hb dL_partly_271 ?_
  refine W.eq (g2 := F0 m 272 ls [.int (47 : Int32), .int (60 : Int32), .int (0 : Int32), .ref (b + 0)]) (congrArg (fun v => F0 m 272 ls (.int v :: [.int (60 : Int32), .int (0 : Int32), .ref (b + 0)])) (show (57 : Int32) - (10 : Int32) = (47 : Int32) by decide)) ?_
  refine lv_bipush (v := (9 : Int32)) hx hb dL_partly_272 (by decide) ?_
  refine lv_irem hx hb dL_partly_274 (by decide) ?_
  refine W.eq (g2 := F0 m 275 ls [.int (2 : Int32), .int (60 : Int32), .int (0 : Int32), .ref (b + 0)]) (congrArg (fun v => F0 m 275 ls (.int v :: [.int (60 : Int32), .int (0 : Int32), .ref (b + 0)])) (show (47 : Int32) - (47 : Int32) / (9 : Int32) * (9 : Int32) = (2 : Int32) by decide)) ?_
  refine lv_iadd hx hb dL_partly_275 ?_
  refine W.eq (g2 := F0 m 276 ls [.int (62 : Int32), .int (0 : Int32), .ref (b + 0)]) (congrArg (fun v => F0 m 276 ls (.int v :: [.int (0 : Int32), .ref (b + 0)])) (show (60 : Int32) + (2 : Int32) = (62 : Int32) by decide)) ?_
  refine lv_iconst (v := (1 : Int32)) hx hb dL_partly_276 (by decide) ?_
  refine lv_iadd hx hb dL_partly_277 ?_
  refine W.eq (g2 := F0 m 278 ls [.int (63 : Int32), .int (0 : Int32), .ref (b + 0)]) (congrArg (fun v => F0 m 278 ls (.int v :: [.int (0 : Int32), .ref (b + 0)])) (show (62 : Int32) + (1 : Int32) = (63 : Int32) by decide)) ?_
  refine lv_iconst (v := (0 : Int32)) hx hb dL_partly_278 (by decide) ?_
  obtain ⟨M1, hc1, h1⟩ := s_mk V120 (0 : Int32) (c := (0 : Int32)) (x := (63 : Int32)) (tks := (0 : Int32)) h (by decide +kernel)
  have hc1 : f_X4_makeCollection M (0 : Int32) (63 : Int32) (0 : Int32) = some (.inr (0 : Int32), M1) := hc1
  refine kL_7R C hml hl.1 (c_X4_makeCollection hlf hc1) ⟨Nat.le_of_ble_eq_true rfl, Nat.le_of_ble_eq_true rfl⟩ ⟨by show _ ≤ 4189; omega, by show _ ≤ 25467; omega⟩ (Nat.le_of_ble_eq_true rfl) hS hW dL_partly_279 (fun H locs hW hS => ?_)
  refine lv_if_eq (tgt := 287) hx hb dL_partly_282 (by decide) (fun _ => ?_) (fun c => absurd (by decide) c)
  exact t_partly_58 C hml hr hlk hlf h1 hS hW (lv_sub hl [0, 1] rfl) ⟨by omega, by omega⟩
set_option maxHeartbeats 4000000 in
set_option maxRecDepth 100000 in
theorem t_partly_56 {p : Program} {l : Launch} {e : Env} {s : State} {m : MethodId} {args : Array Value} {below : List Frame} {meth : Method} {c : Code} {Z : Zt} {b : Nat} (C : Cx p s m args c cL_partly RL Z b) (hml : c.maxLocals = 2) (hr : meth.sig.returnType = some .boolean) (hlk : meth.locks = false) (hlf : l.stackTraces = false) {M : Mem} (h : RS M V118) {H : Heap} {locs : List Loc} {ls : Array Slot} {cells slots : Nat} (hS : va_S (A0 b) s.heap H locs) (hW : Wd Z b M H) (hl : lv_has ls 2 [(1, .int (55 : Int32)), (0, .ref (b + 0))]) (hcs : cells + 2032 ≤ 4189 ∧ slots + 12192 ≤ 25467) : W p l e rm_L_partly s m args below meth c H locs cells slots (MQ below (QT b) args s 4189 25467 (A0 b)) (F0 m 287 ls []) := by
  have hx := C.1
  have hb := C.2.1
  refine lv_iinc (v := (56 : Int32)) (lv' := [(1, .int (56 : Int32)), (0, .ref (b + 0))]) hx hb dL_partly_287 hl (k := 0) rfl (by decide) (by decide) rfl (fun ls hl => ?_)
  refine lv_goto (tgt := 238) hx hb dL_partly_290 (by decide) ?_
  refine lv_iload_n hx hb dL_partly_238 rfl (lv_at hl 0 rfl) ?_
  refine lv_bipush (v := (61 : Int32)) hx hb dL_partly_239 (by decide) ?_
  refine lv_icmp_ge (tgt := 293) hx hb dL_partly_241 (by decide) (fun c => absurd c (by decide)) (fun _ => ?_)
  refine lv_aload_n hx hb dL_partly_244 rfl (lv_at hl 1 rfl) ?_
  refine lv_iconst (v := (0 : Int32)) hx hb dL_partly_245 (by decide) ?_
  refine lv_iload_n hx hb dL_partly_246 rfl (lv_at hl 0 rfl) ?_
  refine lv_bipush (v := (10 : Int32)) hx hb dL_partly_247 (by decide) ?_
  refine lv_icmp_ge (tgt := 256) hx hb dL_partly_249 (by decide) (fun _ => ?_) (fun c => absurd (by decide) c)
  refine lv_bipush (v := (10 : Int32)) hx hb dL_partly_256 (by decide) ?_
  refine lv_iload_n hx hb dL_partly_258 rfl (lv_at hl 0 rfl) ?_
  refine lv_bipush (v := (10 : Int32)) hx hb dL_partly_259 (by decide) ?_
  refine lv_isub hx hb dL_partly_261 ?_
  refine W.eq (g2 := F0 m 262 ls [.int (46 : Int32), .int (10 : Int32), .int (0 : Int32), .ref (b + 0)]) (congrArg (fun v => F0 m 262 ls (.int v :: [.int (10 : Int32), .int (0 : Int32), .ref (b + 0)])) (show (56 : Int32) - (10 : Int32) = (46 : Int32) by decide)) ?_
  refine lv_bipush (v := (9 : Int32)) hx hb dL_partly_262 (by decide) ?_
  refine lv_idiv hx hb dL_partly_264 (by decide) ?_
  refine W.eq (g2 := F0 m 265 ls [.int (5 : Int32), .int (10 : Int32), .int (0 : Int32), .ref (b + 0)]) (congrArg (fun v => F0 m 265 ls (.int v :: [.int (10 : Int32), .int (0 : Int32), .ref (b + 0)])) (show (46 : Int32) / (9 : Int32) = (5 : Int32) by decide)) ?_
  refine lv_iconst (v := (1 : Int32)) hx hb dL_partly_265 (by decide) ?_
  refine lv_iadd hx hb dL_partly_266 ?_
  refine W.eq (g2 := F0 m 267 ls [.int (6 : Int32), .int (10 : Int32), .int (0 : Int32), .ref (b + 0)]) (congrArg (fun v => F0 m 267 ls (.int v :: [.int (10 : Int32), .int (0 : Int32), .ref (b + 0)])) (show (5 : Int32) + (1 : Int32) = (6 : Int32) by decide)) ?_
  refine lv_imul hx hb dL_partly_267 ?_
  refine W.eq (g2 := F0 m 268 ls [.int (60 : Int32), .int (0 : Int32), .ref (b + 0)]) (congrArg (fun v => F0 m 268 ls (.int v :: [.int (0 : Int32), .ref (b + 0)])) (show (10 : Int32) * (6 : Int32) = (60 : Int32) by decide)) ?_
  refine lv_iload_n hx hb dL_partly_268 rfl (lv_at hl 0 rfl) ?_
  refine lv_bipush (v := (10 : Int32)) hx hb dL_partly_269 (by decide) ?_
  refine lv_isub hx hb dL_partly_271 ?_
  refine W.eq (g2 := F0 m 272 ls [.int (46 : Int32), .int (60 : Int32), .int (0 : Int32), .ref (b + 0)]) (congrArg (fun v => F0 m 272 ls (.int v :: [.int (60 : Int32), .int (0 : Int32), .ref (b + 0)])) (show (56 : Int32) - (10 : Int32) = (46 : Int32) by decide)) ?_
  refine lv_bipush (v := (9 : Int32)) hx hb dL_partly_272 (by decide) ?_
  refine lv_irem hx hb dL_partly_274 (by decide) ?_
  refine W.eq (g2 := F0 m 275 ls [.int (1 : Int32), .int (60 : Int32), .int (0 : Int32), .ref (b + 0)]) (congrArg (fun v => F0 m 275 ls (.int v :: [.int (60 : Int32), .int (0 : Int32), .ref (b + 0)])) (show (46 : Int32) - (46 : Int32) / (9 : Int32) * (9 : Int32) = (1 : Int32) by decide)) ?_
  refine lv_iadd hx hb dL_partly_275 ?_
  refine W.eq (g2 := F0 m 276 ls [.int (61 : Int32), .int (0 : Int32), .ref (b + 0)]) (congrArg (fun v => F0 m 276 ls (.int v :: [.int (0 : Int32), .ref (b + 0)])) (show (60 : Int32) + (1 : Int32) = (61 : Int32) by decide)) ?_
  refine lv_iconst (v := (1 : Int32)) hx hb dL_partly_276 (by decide) ?_
  refine lv_iadd hx hb dL_partly_277 ?_
  refine W.eq (g2 := F0 m 278 ls [.int (62 : Int32), .int (0 : Int32), .ref (b + 0)]) (congrArg (fun v => F0 m 278 ls (.int v :: [.int (0 : Int32), .ref (b + 0)])) (show (61 : Int32) + (1 : Int32) = (62 : Int32) by decide)) ?_
  refine lv_iconst (v := (0 : Int32)) hx hb dL_partly_278 (by decide) ?_
  obtain ⟨M1, hc1, h1⟩ := s_mk V119 (0 : Int32) (c := (0 : Int32)) (x := (62 : Int32)) (tks := (0 : Int32)) h (by decide +kernel)
  have hc1 : f_X4_makeCollection M (0 : Int32) (62 : Int32) (0 : Int32) = some (.inr (0 : Int32), M1) := hc1
  refine kL_7R C hml hl.1 (c_X4_makeCollection hlf hc1) ⟨Nat.le_of_ble_eq_true rfl, Nat.le_of_ble_eq_true rfl⟩ ⟨by show _ ≤ 4189; omega, by show _ ≤ 25467; omega⟩ (Nat.le_of_ble_eq_true rfl) hS hW dL_partly_279 (fun H locs hW hS => ?_)
  refine lv_if_eq (tgt := 287) hx hb dL_partly_282 (by decide) (fun _ => ?_) (fun c => absurd (by decide) c)
  exact t_partly_57 C hml hr hlk hlf h1 hS hW (lv_sub hl [0, 1] rfl) ⟨by omega, by omega⟩
set_option maxHeartbeats 4000000 in
set_option maxRecDepth 100000 in
theorem t_partly_55 {p : Program} {l : Launch} {e : Env} {s : State} {m : MethodId} {args : Array Value} {below : List Frame} {meth : Method} {c : Code} {Z : Zt} {b : Nat} (C : Cx p s m args c cL_partly RL Z b) (hml : c.maxLocals = 2) (hr : meth.sig.returnType = some .boolean) (hlk : meth.locks = false) (hlf : l.stackTraces = false) {M : Mem} (h : RS M V117) {H : Heap} {locs : List Loc} {ls : Array Slot} {cells slots : Nat} (hS : va_S (A0 b) s.heap H locs) (hW : Wd Z b M H) (hl : lv_has ls 2 [(1, .int (54 : Int32)), (0, .ref (b + 0))]) (hcs : cells + 2036 ≤ 4189 ∧ slots + 12216 ≤ 25467) : W p l e rm_L_partly s m args below meth c H locs cells slots (MQ below (QT b) args s 4189 25467 (A0 b)) (F0 m 287 ls []) := by
  have hx := C.1
  have hb := C.2.1
  refine lv_iinc (v := (55 : Int32)) (lv' := [(1, .int (55 : Int32)), (0, .ref (b + 0))]) hx hb dL_partly_287 hl (k := 0) rfl (by decide) (by decide) rfl (fun ls hl => ?_)
  refine lv_goto (tgt := 238) hx hb dL_partly_290 (by decide) ?_
  refine lv_iload_n hx hb dL_partly_238 rfl (lv_at hl 0 rfl) ?_
  refine lv_bipush (v := (61 : Int32)) hx hb dL_partly_239 (by decide) ?_
  refine lv_icmp_ge (tgt := 293) hx hb dL_partly_241 (by decide) (fun c => absurd c (by decide)) (fun _ => ?_)
  refine lv_aload_n hx hb dL_partly_244 rfl (lv_at hl 1 rfl) ?_
  refine lv_iconst (v := (0 : Int32)) hx hb dL_partly_245 (by decide) ?_
  refine lv_iload_n hx hb dL_partly_246 rfl (lv_at hl 0 rfl) ?_
  refine lv_bipush (v := (10 : Int32)) hx hb dL_partly_247 (by decide) ?_
  refine lv_icmp_ge (tgt := 256) hx hb dL_partly_249 (by decide) (fun _ => ?_) (fun c => absurd (by decide) c)
  refine lv_bipush (v := (10 : Int32)) hx hb dL_partly_256 (by decide) ?_
  refine lv_iload_n hx hb dL_partly_258 rfl (lv_at hl 0 rfl) ?_
  refine lv_bipush (v := (10 : Int32)) hx hb dL_partly_259 (by decide) ?_
  refine lv_isub hx hb dL_partly_261 ?_
  refine W.eq (g2 := F0 m 262 ls [.int (45 : Int32), .int (10 : Int32), .int (0 : Int32), .ref (b + 0)]) (congrArg (fun v => F0 m 262 ls (.int v :: [.int (10 : Int32), .int (0 : Int32), .ref (b + 0)])) (show (55 : Int32) - (10 : Int32) = (45 : Int32) by decide)) ?_
  refine lv_bipush (v := (9 : Int32)) hx hb dL_partly_262 (by decide) ?_
  refine lv_idiv hx hb dL_partly_264 (by decide) ?_
  refine W.eq (g2 := F0 m 265 ls [.int (5 : Int32), .int (10 : Int32), .int (0 : Int32), .ref (b + 0)]) (congrArg (fun v => F0 m 265 ls (.int v :: [.int (10 : Int32), .int (0 : Int32), .ref (b + 0)])) (show (45 : Int32) / (9 : Int32) = (5 : Int32) by decide)) ?_
  refine lv_iconst (v := (1 : Int32)) hx hb dL_partly_265 (by decide) ?_
  refine lv_iadd hx hb dL_partly_266 ?_
  refine W.eq (g2 := F0 m 267 ls [.int (6 : Int32), .int (10 : Int32), .int (0 : Int32), .ref (b + 0)]) (congrArg (fun v => F0 m 267 ls (.int v :: [.int (10 : Int32), .int (0 : Int32), .ref (b + 0)])) (show (5 : Int32) + (1 : Int32) = (6 : Int32) by decide)) ?_
  refine lv_imul hx hb dL_partly_267 ?_
  refine W.eq (g2 := F0 m 268 ls [.int (60 : Int32), .int (0 : Int32), .ref (b + 0)]) (congrArg (fun v => F0 m 268 ls (.int v :: [.int (0 : Int32), .ref (b + 0)])) (show (10 : Int32) * (6 : Int32) = (60 : Int32) by decide)) ?_
  refine lv_iload_n hx hb dL_partly_268 rfl (lv_at hl 0 rfl) ?_
  refine lv_bipush (v := (10 : Int32)) hx hb dL_partly_269 (by decide) ?_
  refine lv_isub hx hb dL_partly_271 ?_
  refine W.eq (g2 := F0 m 272 ls [.int (45 : Int32), .int (60 : Int32), .int (0 : Int32), .ref (b + 0)]) (congrArg (fun v => F0 m 272 ls (.int v :: [.int (60 : Int32), .int (0 : Int32), .ref (b + 0)])) (show (55 : Int32) - (10 : Int32) = (45 : Int32) by decide)) ?_
  refine lv_bipush (v := (9 : Int32)) hx hb dL_partly_272 (by decide) ?_
  refine lv_irem hx hb dL_partly_274 (by decide) ?_
  refine W.eq (g2 := F0 m 275 ls [.int (0 : Int32), .int (60 : Int32), .int (0 : Int32), .ref (b + 0)]) (congrArg (fun v => F0 m 275 ls (.int v :: [.int (60 : Int32), .int (0 : Int32), .ref (b + 0)])) (show (45 : Int32) - (45 : Int32) / (9 : Int32) * (9 : Int32) = (0 : Int32) by decide)) ?_
  refine lv_iadd hx hb dL_partly_275 ?_
  refine W.eq (g2 := F0 m 276 ls [.int (60 : Int32), .int (0 : Int32), .ref (b + 0)]) (congrArg (fun v => F0 m 276 ls (.int v :: [.int (0 : Int32), .ref (b + 0)])) (show (60 : Int32) + (0 : Int32) = (60 : Int32) by decide)) ?_
  refine lv_iconst (v := (1 : Int32)) hx hb dL_partly_276 (by decide) ?_
  refine lv_iadd hx hb dL_partly_277 ?_
  refine W.eq (g2 := F0 m 278 ls [.int (61 : Int32), .int (0 : Int32), .ref (b + 0)]) (congrArg (fun v => F0 m 278 ls (.int v :: [.int (0 : Int32), .ref (b + 0)])) (show (60 : Int32) + (1 : Int32) = (61 : Int32) by decide)) ?_
  refine lv_iconst (v := (0 : Int32)) hx hb dL_partly_278 (by decide) ?_
  obtain ⟨M1, hc1, h1⟩ := s_mk V118 (0 : Int32) (c := (0 : Int32)) (x := (61 : Int32)) (tks := (0 : Int32)) h (by decide +kernel)
  have hc1 : f_X4_makeCollection M (0 : Int32) (61 : Int32) (0 : Int32) = some (.inr (0 : Int32), M1) := hc1
  refine kL_7R C hml hl.1 (c_X4_makeCollection hlf hc1) ⟨Nat.le_of_ble_eq_true rfl, Nat.le_of_ble_eq_true rfl⟩ ⟨by show _ ≤ 4189; omega, by show _ ≤ 25467; omega⟩ (Nat.le_of_ble_eq_true rfl) hS hW dL_partly_279 (fun H locs hW hS => ?_)
  refine lv_if_eq (tgt := 287) hx hb dL_partly_282 (by decide) (fun _ => ?_) (fun c => absurd (by decide) c)
  exact t_partly_56 C hml hr hlk hlf h1 hS hW (lv_sub hl [0, 1] rfl) ⟨by omega, by omega⟩
set_option maxHeartbeats 4000000 in
set_option maxRecDepth 100000 in
theorem t_partly_54 {p : Program} {l : Launch} {e : Env} {s : State} {m : MethodId} {args : Array Value} {below : List Frame} {meth : Method} {c : Code} {Z : Zt} {b : Nat} (C : Cx p s m args c cL_partly RL Z b) (hml : c.maxLocals = 2) (hr : meth.sig.returnType = some .boolean) (hlk : meth.locks = false) (hlf : l.stackTraces = false) {M : Mem} (h : RS M V116) {H : Heap} {locs : List Loc} {ls : Array Slot} {cells slots : Nat} (hS : va_S (A0 b) s.heap H locs) (hW : Wd Z b M H) (hl : lv_has ls 2 [(1, .int (53 : Int32)), (0, .ref (b + 0))]) (hcs : cells + 2040 ≤ 4189 ∧ slots + 12240 ≤ 25467) : W p l e rm_L_partly s m args below meth c H locs cells slots (MQ below (QT b) args s 4189 25467 (A0 b)) (F0 m 287 ls []) := by
  have hx := C.1
  have hb := C.2.1
  refine lv_iinc (v := (54 : Int32)) (lv' := [(1, .int (54 : Int32)), (0, .ref (b + 0))]) hx hb dL_partly_287 hl (k := 0) rfl (by decide) (by decide) rfl (fun ls hl => ?_)
  refine lv_goto (tgt := 238) hx hb dL_partly_290 (by decide) ?_
  refine lv_iload_n hx hb dL_partly_238 rfl (lv_at hl 0 rfl) ?_
  refine lv_bipush (v := (61 : Int32)) hx hb dL_partly_239 (by decide) ?_
  refine lv_icmp_ge (tgt := 293) hx hb dL_partly_241 (by decide) (fun c => absurd c (by decide)) (fun _ => ?_)
  refine lv_aload_n hx hb dL_partly_244 rfl (lv_at hl 1 rfl) ?_
  refine lv_iconst (v := (0 : Int32)) hx hb dL_partly_245 (by decide) ?_
  refine lv_iload_n hx hb dL_partly_246 rfl (lv_at hl 0 rfl) ?_
  refine lv_bipush (v := (10 : Int32)) hx hb dL_partly_247 (by decide) ?_
  refine lv_icmp_ge (tgt := 256) hx hb dL_partly_249 (by decide) (fun _ => ?_) (fun c => absurd (by decide) c)
  refine lv_bipush (v := (10 : Int32)) hx hb dL_partly_256 (by decide) ?_
  refine lv_iload_n hx hb dL_partly_258 rfl (lv_at hl 0 rfl) ?_
  refine lv_bipush (v := (10 : Int32)) hx hb dL_partly_259 (by decide) ?_
  refine lv_isub hx hb dL_partly_261 ?_
  refine W.eq (g2 := F0 m 262 ls [.int (44 : Int32), .int (10 : Int32), .int (0 : Int32), .ref (b + 0)]) (congrArg (fun v => F0 m 262 ls (.int v :: [.int (10 : Int32), .int (0 : Int32), .ref (b + 0)])) (show (54 : Int32) - (10 : Int32) = (44 : Int32) by decide)) ?_
  refine lv_bipush (v := (9 : Int32)) hx hb dL_partly_262 (by decide) ?_
  refine lv_idiv hx hb dL_partly_264 (by decide) ?_
  refine W.eq (g2 := F0 m 265 ls [.int (4 : Int32), .int (10 : Int32), .int (0 : Int32), .ref (b + 0)]) (congrArg (fun v => F0 m 265 ls (.int v :: [.int (10 : Int32), .int (0 : Int32), .ref (b + 0)])) (show (44 : Int32) / (9 : Int32) = (4 : Int32) by decide)) ?_
  refine lv_iconst (v := (1 : Int32)) hx hb dL_partly_265 (by decide) ?_
  refine lv_iadd hx hb dL_partly_266 ?_
  refine W.eq (g2 := F0 m 267 ls [.int (5 : Int32), .int (10 : Int32), .int (0 : Int32), .ref (b + 0)]) (congrArg (fun v => F0 m 267 ls (.int v :: [.int (10 : Int32), .int (0 : Int32), .ref (b + 0)])) (show (4 : Int32) + (1 : Int32) = (5 : Int32) by decide)) ?_
  refine lv_imul hx hb dL_partly_267 ?_
  refine W.eq (g2 := F0 m 268 ls [.int (50 : Int32), .int (0 : Int32), .ref (b + 0)]) (congrArg (fun v => F0 m 268 ls (.int v :: [.int (0 : Int32), .ref (b + 0)])) (show (10 : Int32) * (5 : Int32) = (50 : Int32) by decide)) ?_
  refine lv_iload_n hx hb dL_partly_268 rfl (lv_at hl 0 rfl) ?_
  refine lv_bipush (v := (10 : Int32)) hx hb dL_partly_269 (by decide) ?_
  refine lv_isub hx hb dL_partly_271 ?_
  refine W.eq (g2 := F0 m 272 ls [.int (44 : Int32), .int (50 : Int32), .int (0 : Int32), .ref (b + 0)]) (congrArg (fun v => F0 m 272 ls (.int v :: [.int (50 : Int32), .int (0 : Int32), .ref (b + 0)])) (show (54 : Int32) - (10 : Int32) = (44 : Int32) by decide)) ?_
  refine lv_bipush (v := (9 : Int32)) hx hb dL_partly_272 (by decide) ?_
  refine lv_irem hx hb dL_partly_274 (by decide) ?_
  refine W.eq (g2 := F0 m 275 ls [.int (8 : Int32), .int (50 : Int32), .int (0 : Int32), .ref (b + 0)]) (congrArg (fun v => F0 m 275 ls (.int v :: [.int (50 : Int32), .int (0 : Int32), .ref (b + 0)])) (show (44 : Int32) - (44 : Int32) / (9 : Int32) * (9 : Int32) = (8 : Int32) by decide)) ?_
  refine lv_iadd hx hb dL_partly_275 ?_
  refine W.eq (g2 := F0 m 276 ls [.int (58 : Int32), .int (0 : Int32), .ref (b + 0)]) (congrArg (fun v => F0 m 276 ls (.int v :: [.int (0 : Int32), .ref (b + 0)])) (show (50 : Int32) + (8 : Int32) = (58 : Int32) by decide)) ?_
  refine lv_iconst (v := (1 : Int32)) hx hb dL_partly_276 (by decide) ?_
  refine lv_iadd hx hb dL_partly_277 ?_
  refine W.eq (g2 := F0 m 278 ls [.int (59 : Int32), .int (0 : Int32), .ref (b + 0)]) (congrArg (fun v => F0 m 278 ls (.int v :: [.int (0 : Int32), .ref (b + 0)])) (show (58 : Int32) + (1 : Int32) = (59 : Int32) by decide)) ?_
  refine lv_iconst (v := (0 : Int32)) hx hb dL_partly_278 (by decide) ?_
  obtain ⟨M1, hc1, h1⟩ := s_mk V117 (0 : Int32) (c := (0 : Int32)) (x := (59 : Int32)) (tks := (0 : Int32)) h (by decide +kernel)
  have hc1 : f_X4_makeCollection M (0 : Int32) (59 : Int32) (0 : Int32) = some (.inr (0 : Int32), M1) := hc1
  refine kL_7R C hml hl.1 (c_X4_makeCollection hlf hc1) ⟨Nat.le_of_ble_eq_true rfl, Nat.le_of_ble_eq_true rfl⟩ ⟨by show _ ≤ 4189; omega, by show _ ≤ 25467; omega⟩ (Nat.le_of_ble_eq_true rfl) hS hW dL_partly_279 (fun H locs hW hS => ?_)
  refine lv_if_eq (tgt := 287) hx hb dL_partly_282 (by decide) (fun _ => ?_) (fun c => absurd (by decide) c)
  exact t_partly_55 C hml hr hlk hlf h1 hS hW (lv_sub hl [0, 1] rfl) ⟨by omega, by omega⟩
set_option maxHeartbeats 4000000 in
set_option maxRecDepth 100000 in
theorem t_partly_53 {p : Program} {l : Launch} {e : Env} {s : State} {m : MethodId} {args : Array Value} {below : List Frame} {meth : Method} {c : Code} {Z : Zt} {b : Nat} (C : Cx p s m args c cL_partly RL Z b) (hml : c.maxLocals = 2) (hr : meth.sig.returnType = some .boolean) (hlk : meth.locks = false) (hlf : l.stackTraces = false) {M : Mem} (h : RS M V115) {H : Heap} {locs : List Loc} {ls : Array Slot} {cells slots : Nat} (hS : va_S (A0 b) s.heap H locs) (hW : Wd Z b M H) (hl : lv_has ls 2 [(1, .int (52 : Int32)), (0, .ref (b + 0))]) (hcs : cells + 2044 ≤ 4189 ∧ slots + 12264 ≤ 25467) : W p l e rm_L_partly s m args below meth c H locs cells slots (MQ below (QT b) args s 4189 25467 (A0 b)) (F0 m 287 ls []) := by
  have hx := C.1
  have hb := C.2.1
  refine lv_iinc (v := (53 : Int32)) (lv' := [(1, .int (53 : Int32)), (0, .ref (b + 0))]) hx hb dL_partly_287 hl (k := 0) rfl (by decide) (by decide) rfl (fun ls hl => ?_)
  refine lv_goto (tgt := 238) hx hb dL_partly_290 (by decide) ?_
  refine lv_iload_n hx hb dL_partly_238 rfl (lv_at hl 0 rfl) ?_
  refine lv_bipush (v := (61 : Int32)) hx hb dL_partly_239 (by decide) ?_
  refine lv_icmp_ge (tgt := 293) hx hb dL_partly_241 (by decide) (fun c => absurd c (by decide)) (fun _ => ?_)
  refine lv_aload_n hx hb dL_partly_244 rfl (lv_at hl 1 rfl) ?_
  refine lv_iconst (v := (0 : Int32)) hx hb dL_partly_245 (by decide) ?_
  refine lv_iload_n hx hb dL_partly_246 rfl (lv_at hl 0 rfl) ?_
  refine lv_bipush (v := (10 : Int32)) hx hb dL_partly_247 (by decide) ?_
  refine lv_icmp_ge (tgt := 256) hx hb dL_partly_249 (by decide) (fun _ => ?_) (fun c => absurd (by decide) c)
  refine lv_bipush (v := (10 : Int32)) hx hb dL_partly_256 (by decide) ?_
  refine lv_iload_n hx hb dL_partly_258 rfl (lv_at hl 0 rfl) ?_
  refine lv_bipush (v := (10 : Int32)) hx hb dL_partly_259 (by decide) ?_
  refine lv_isub hx hb dL_partly_261 ?_
  refine W.eq (g2 := F0 m 262 ls [.int (43 : Int32), .int (10 : Int32), .int (0 : Int32), .ref (b + 0)]) (congrArg (fun v => F0 m 262 ls (.int v :: [.int (10 : Int32), .int (0 : Int32), .ref (b + 0)])) (show (53 : Int32) - (10 : Int32) = (43 : Int32) by decide)) ?_
  refine lv_bipush (v := (9 : Int32)) hx hb dL_partly_262 (by decide) ?_
  refine lv_idiv hx hb dL_partly_264 (by decide) ?_
  refine W.eq (g2 := F0 m 265 ls [.int (4 : Int32), .int (10 : Int32), .int (0 : Int32), .ref (b + 0)]) (congrArg (fun v => F0 m 265 ls (.int v :: [.int (10 : Int32), .int (0 : Int32), .ref (b + 0)])) (show (43 : Int32) / (9 : Int32) = (4 : Int32) by decide)) ?_
  refine lv_iconst (v := (1 : Int32)) hx hb dL_partly_265 (by decide) ?_
  refine lv_iadd hx hb dL_partly_266 ?_
  refine W.eq (g2 := F0 m 267 ls [.int (5 : Int32), .int (10 : Int32), .int (0 : Int32), .ref (b + 0)]) (congrArg (fun v => F0 m 267 ls (.int v :: [.int (10 : Int32), .int (0 : Int32), .ref (b + 0)])) (show (4 : Int32) + (1 : Int32) = (5 : Int32) by decide)) ?_
  refine lv_imul hx hb dL_partly_267 ?_
  refine W.eq (g2 := F0 m 268 ls [.int (50 : Int32), .int (0 : Int32), .ref (b + 0)]) (congrArg (fun v => F0 m 268 ls (.int v :: [.int (0 : Int32), .ref (b + 0)])) (show (10 : Int32) * (5 : Int32) = (50 : Int32) by decide)) ?_
  refine lv_iload_n hx hb dL_partly_268 rfl (lv_at hl 0 rfl) ?_
  refine lv_bipush (v := (10 : Int32)) hx hb dL_partly_269 (by decide) ?_
  refine lv_isub hx hb dL_partly_271 ?_
  refine W.eq (g2 := F0 m 272 ls [.int (43 : Int32), .int (50 : Int32), .int (0 : Int32), .ref (b + 0)]) (congrArg (fun v => F0 m 272 ls (.int v :: [.int (50 : Int32), .int (0 : Int32), .ref (b + 0)])) (show (53 : Int32) - (10 : Int32) = (43 : Int32) by decide)) ?_
  refine lv_bipush (v := (9 : Int32)) hx hb dL_partly_272 (by decide) ?_
  refine lv_irem hx hb dL_partly_274 (by decide) ?_
  refine W.eq (g2 := F0 m 275 ls [.int (7 : Int32), .int (50 : Int32), .int (0 : Int32), .ref (b + 0)]) (congrArg (fun v => F0 m 275 ls (.int v :: [.int (50 : Int32), .int (0 : Int32), .ref (b + 0)])) (show (43 : Int32) - (43 : Int32) / (9 : Int32) * (9 : Int32) = (7 : Int32) by decide)) ?_
  refine lv_iadd hx hb dL_partly_275 ?_
  refine W.eq (g2 := F0 m 276 ls [.int (57 : Int32), .int (0 : Int32), .ref (b + 0)]) (congrArg (fun v => F0 m 276 ls (.int v :: [.int (0 : Int32), .ref (b + 0)])) (show (50 : Int32) + (7 : Int32) = (57 : Int32) by decide)) ?_
  refine lv_iconst (v := (1 : Int32)) hx hb dL_partly_276 (by decide) ?_
  refine lv_iadd hx hb dL_partly_277 ?_
  refine W.eq (g2 := F0 m 278 ls [.int (58 : Int32), .int (0 : Int32), .ref (b + 0)]) (congrArg (fun v => F0 m 278 ls (.int v :: [.int (0 : Int32), .ref (b + 0)])) (show (57 : Int32) + (1 : Int32) = (58 : Int32) by decide)) ?_
  refine lv_iconst (v := (0 : Int32)) hx hb dL_partly_278 (by decide) ?_
  obtain ⟨M1, hc1, h1⟩ := s_mk V116 (0 : Int32) (c := (0 : Int32)) (x := (58 : Int32)) (tks := (0 : Int32)) h (by decide +kernel)
  have hc1 : f_X4_makeCollection M (0 : Int32) (58 : Int32) (0 : Int32) = some (.inr (0 : Int32), M1) := hc1
  refine kL_7R C hml hl.1 (c_X4_makeCollection hlf hc1) ⟨Nat.le_of_ble_eq_true rfl, Nat.le_of_ble_eq_true rfl⟩ ⟨by show _ ≤ 4189; omega, by show _ ≤ 25467; omega⟩ (Nat.le_of_ble_eq_true rfl) hS hW dL_partly_279 (fun H locs hW hS => ?_)
  refine lv_if_eq (tgt := 287) hx hb dL_partly_282 (by decide) (fun _ => ?_) (fun c => absurd (by decide) c)
  exact t_partly_54 C hml hr hlk hlf h1 hS hW (lv_sub hl [0, 1] rfl) ⟨by omega, by omega⟩
set_option maxHeartbeats 4000000 in
set_option maxRecDepth 100000 in
theorem t_partly_52 {p : Program} {l : Launch} {e : Env} {s : State} {m : MethodId} {args : Array Value} {below : List Frame} {meth : Method} {c : Code} {Z : Zt} {b : Nat} (C : Cx p s m args c cL_partly RL Z b) (hml : c.maxLocals = 2) (hr : meth.sig.returnType = some .boolean) (hlk : meth.locks = false) (hlf : l.stackTraces = false) {M : Mem} (h : RS M V114) {H : Heap} {locs : List Loc} {ls : Array Slot} {cells slots : Nat} (hS : va_S (A0 b) s.heap H locs) (hW : Wd Z b M H) (hl : lv_has ls 2 [(1, .int (51 : Int32)), (0, .ref (b + 0))]) (hcs : cells + 2048 ≤ 4189 ∧ slots + 12288 ≤ 25467) : W p l e rm_L_partly s m args below meth c H locs cells slots (MQ below (QT b) args s 4189 25467 (A0 b)) (F0 m 287 ls []) := by
  have hx := C.1
  have hb := C.2.1
  refine lv_iinc (v := (52 : Int32)) (lv' := [(1, .int (52 : Int32)), (0, .ref (b + 0))]) hx hb dL_partly_287 hl (k := 0) rfl (by decide) (by decide) rfl (fun ls hl => ?_)
  refine lv_goto (tgt := 238) hx hb dL_partly_290 (by decide) ?_
  refine lv_iload_n hx hb dL_partly_238 rfl (lv_at hl 0 rfl) ?_
  refine lv_bipush (v := (61 : Int32)) hx hb dL_partly_239 (by decide) ?_
  refine lv_icmp_ge (tgt := 293) hx hb dL_partly_241 (by decide) (fun c => absurd c (by decide)) (fun _ => ?_)
  refine lv_aload_n hx hb dL_partly_244 rfl (lv_at hl 1 rfl) ?_
  refine lv_iconst (v := (0 : Int32)) hx hb dL_partly_245 (by decide) ?_
  refine lv_iload_n hx hb dL_partly_246 rfl (lv_at hl 0 rfl) ?_
  refine lv_bipush (v := (10 : Int32)) hx hb dL_partly_247 (by decide) ?_
  refine lv_icmp_ge (tgt := 256) hx hb dL_partly_249 (by decide) (fun _ => ?_) (fun c => absurd (by decide) c)
  refine lv_bipush (v := (10 : Int32)) hx hb dL_partly_256 (by decide) ?_
  refine lv_iload_n hx hb dL_partly_258 rfl (lv_at hl 0 rfl) ?_
  refine lv_bipush (v := (10 : Int32)) hx hb dL_partly_259 (by decide) ?_
  refine lv_isub hx hb dL_partly_261 ?_
  refine W.eq (g2 := F0 m 262 ls [.int (42 : Int32), .int (10 : Int32), .int (0 : Int32), .ref (b + 0)]) (congrArg (fun v => F0 m 262 ls (.int v :: [.int (10 : Int32), .int (0 : Int32), .ref (b + 0)])) (show (52 : Int32) - (10 : Int32) = (42 : Int32) by decide)) ?_
  refine lv_bipush (v := (9 : Int32)) hx hb dL_partly_262 (by decide) ?_
  refine lv_idiv hx hb dL_partly_264 (by decide) ?_
  refine W.eq (g2 := F0 m 265 ls [.int (4 : Int32), .int (10 : Int32), .int (0 : Int32), .ref (b + 0)]) (congrArg (fun v => F0 m 265 ls (.int v :: [.int (10 : Int32), .int (0 : Int32), .ref (b + 0)])) (show (42 : Int32) / (9 : Int32) = (4 : Int32) by decide)) ?_
  refine lv_iconst (v := (1 : Int32)) hx hb dL_partly_265 (by decide) ?_
  refine lv_iadd hx hb dL_partly_266 ?_
  refine W.eq (g2 := F0 m 267 ls [.int (5 : Int32), .int (10 : Int32), .int (0 : Int32), .ref (b + 0)]) (congrArg (fun v => F0 m 267 ls (.int v :: [.int (10 : Int32), .int (0 : Int32), .ref (b + 0)])) (show (4 : Int32) + (1 : Int32) = (5 : Int32) by decide)) ?_
  refine lv_imul hx hb dL_partly_267 ?_
  refine W.eq (g2 := F0 m 268 ls [.int (50 : Int32), .int (0 : Int32), .ref (b + 0)]) (congrArg (fun v => F0 m 268 ls (.int v :: [.int (0 : Int32), .ref (b + 0)])) (show (10 : Int32) * (5 : Int32) = (50 : Int32) by decide)) ?_
  refine lv_iload_n hx hb dL_partly_268 rfl (lv_at hl 0 rfl) ?_
  refine lv_bipush (v := (10 : Int32)) hx hb dL_partly_269 (by decide) ?_
  refine lv_isub hx hb dL_partly_271 ?_
  refine W.eq (g2 := F0 m 272 ls [.int (42 : Int32), .int (50 : Int32), .int (0 : Int32), .ref (b + 0)]) (congrArg (fun v => F0 m 272 ls (.int v :: [.int (50 : Int32), .int (0 : Int32), .ref (b + 0)])) (show (52 : Int32) - (10 : Int32) = (42 : Int32) by decide)) ?_
  refine lv_bipush (v := (9 : Int32)) hx hb dL_partly_272 (by decide) ?_
  refine lv_irem hx hb dL_partly_274 (by decide) ?_
  refine W.eq (g2 := F0 m 275 ls [.int (6 : Int32), .int (50 : Int32), .int (0 : Int32), .ref (b + 0)]) (congrArg (fun v => F0 m 275 ls (.int v :: [.int (50 : Int32), .int (0 : Int32), .ref (b + 0)])) (show (42 : Int32) - (42 : Int32) / (9 : Int32) * (9 : Int32) = (6 : Int32) by decide)) ?_
  refine lv_iadd hx hb dL_partly_275 ?_
  refine W.eq (g2 := F0 m 276 ls [.int (56 : Int32), .int (0 : Int32), .ref (b + 0)]) (congrArg (fun v => F0 m 276 ls (.int v :: [.int (0 : Int32), .ref (b + 0)])) (show (50 : Int32) + (6 : Int32) = (56 : Int32) by decide)) ?_
  refine lv_iconst (v := (1 : Int32)) hx hb dL_partly_276 (by decide) ?_
  refine lv_iadd hx hb dL_partly_277 ?_
  refine W.eq (g2 := F0 m 278 ls [.int (57 : Int32), .int (0 : Int32), .ref (b + 0)]) (congrArg (fun v => F0 m 278 ls (.int v :: [.int (0 : Int32), .ref (b + 0)])) (show (56 : Int32) + (1 : Int32) = (57 : Int32) by decide)) ?_
  refine lv_iconst (v := (0 : Int32)) hx hb dL_partly_278 (by decide) ?_
  obtain ⟨M1, hc1, h1⟩ := s_mk V115 (0 : Int32) (c := (0 : Int32)) (x := (57 : Int32)) (tks := (0 : Int32)) h (by decide +kernel)
  have hc1 : f_X4_makeCollection M (0 : Int32) (57 : Int32) (0 : Int32) = some (.inr (0 : Int32), M1) := hc1
  refine kL_7R C hml hl.1 (c_X4_makeCollection hlf hc1) ⟨Nat.le_of_ble_eq_true rfl, Nat.le_of_ble_eq_true rfl⟩ ⟨by show _ ≤ 4189; omega, by show _ ≤ 25467; omega⟩ (Nat.le_of_ble_eq_true rfl) hS hW dL_partly_279 (fun H locs hW hS => ?_)
  refine lv_if_eq (tgt := 287) hx hb dL_partly_282 (by decide) (fun _ => ?_) (fun c => absurd (by decide) c)
  exact t_partly_53 C hml hr hlk hlf h1 hS hW (lv_sub hl [0, 1] rfl) ⟨by omega, by omega⟩
set_option maxHeartbeats 4000000 in
set_option maxRecDepth 100000 in
theorem t_partly_51 {p : Program} {l : Launch} {e : Env} {s : State} {m : MethodId} {args : Array Value} {below : List Frame} {meth : Method} {c : Code} {Z : Zt} {b : Nat} (C : Cx p s m args c cL_partly RL Z b) (hml : c.maxLocals = 2) (hr : meth.sig.returnType = some .boolean) (hlk : meth.locks = false) (hlf : l.stackTraces = false) {M : Mem} (h : RS M V113) {H : Heap} {locs : List Loc} {ls : Array Slot} {cells slots : Nat} (hS : va_S (A0 b) s.heap H locs) (hW : Wd Z b M H) (hl : lv_has ls 2 [(1, .int (50 : Int32)), (0, .ref (b + 0))]) (hcs : cells + 2052 ≤ 4189 ∧ slots + 12312 ≤ 25467) : W p l e rm_L_partly s m args below meth c H locs cells slots (MQ below (QT b) args s 4189 25467 (A0 b)) (F0 m 287 ls []) := by
  have hx := C.1
  have hb := C.2.1
  refine lv_iinc (v := (51 : Int32)) (lv' := [(1, .int (51 : Int32)), (0, .ref (b + 0))]) hx hb dL_partly_287 hl (k := 0) rfl (by decide) (by decide) rfl (fun ls hl => ?_)
  refine lv_goto (tgt := 238) hx hb dL_partly_290 (by decide) ?_
  refine lv_iload_n hx hb dL_partly_238 rfl (lv_at hl 0 rfl) ?_
  refine lv_bipush (v := (61 : Int32)) hx hb dL_partly_239 (by decide) ?_
  refine lv_icmp_ge (tgt := 293) hx hb dL_partly_241 (by decide) (fun c => absurd c (by decide)) (fun _ => ?_)
  refine lv_aload_n hx hb dL_partly_244 rfl (lv_at hl 1 rfl) ?_
  refine lv_iconst (v := (0 : Int32)) hx hb dL_partly_245 (by decide) ?_
  refine lv_iload_n hx hb dL_partly_246 rfl (lv_at hl 0 rfl) ?_
  refine lv_bipush (v := (10 : Int32)) hx hb dL_partly_247 (by decide) ?_
  refine lv_icmp_ge (tgt := 256) hx hb dL_partly_249 (by decide) (fun _ => ?_) (fun c => absurd (by decide) c)
  refine lv_bipush (v := (10 : Int32)) hx hb dL_partly_256 (by decide) ?_
  refine lv_iload_n hx hb dL_partly_258 rfl (lv_at hl 0 rfl) ?_
  refine lv_bipush (v := (10 : Int32)) hx hb dL_partly_259 (by decide) ?_
  refine lv_isub hx hb dL_partly_261 ?_
  refine W.eq (g2 := F0 m 262 ls [.int (41 : Int32), .int (10 : Int32), .int (0 : Int32), .ref (b + 0)]) (congrArg (fun v => F0 m 262 ls (.int v :: [.int (10 : Int32), .int (0 : Int32), .ref (b + 0)])) (show (51 : Int32) - (10 : Int32) = (41 : Int32) by decide)) ?_
  refine lv_bipush (v := (9 : Int32)) hx hb dL_partly_262 (by decide) ?_
  refine lv_idiv hx hb dL_partly_264 (by decide) ?_
  refine W.eq (g2 := F0 m 265 ls [.int (4 : Int32), .int (10 : Int32), .int (0 : Int32), .ref (b + 0)]) (congrArg (fun v => F0 m 265 ls (.int v :: [.int (10 : Int32), .int (0 : Int32), .ref (b + 0)])) (show (41 : Int32) / (9 : Int32) = (4 : Int32) by decide)) ?_
  refine lv_iconst (v := (1 : Int32)) hx hb dL_partly_265 (by decide) ?_
  refine lv_iadd hx hb dL_partly_266 ?_
  refine W.eq (g2 := F0 m 267 ls [.int (5 : Int32), .int (10 : Int32), .int (0 : Int32), .ref (b + 0)]) (congrArg (fun v => F0 m 267 ls (.int v :: [.int (10 : Int32), .int (0 : Int32), .ref (b + 0)])) (show (4 : Int32) + (1 : Int32) = (5 : Int32) by decide)) ?_
  refine lv_imul hx hb dL_partly_267 ?_
  refine W.eq (g2 := F0 m 268 ls [.int (50 : Int32), .int (0 : Int32), .ref (b + 0)]) (congrArg (fun v => F0 m 268 ls (.int v :: [.int (0 : Int32), .ref (b + 0)])) (show (10 : Int32) * (5 : Int32) = (50 : Int32) by decide)) ?_
  refine lv_iload_n hx hb dL_partly_268 rfl (lv_at hl 0 rfl) ?_
  refine lv_bipush (v := (10 : Int32)) hx hb dL_partly_269 (by decide) ?_
  refine lv_isub hx hb dL_partly_271 ?_
  refine W.eq (g2 := F0 m 272 ls [.int (41 : Int32), .int (50 : Int32), .int (0 : Int32), .ref (b + 0)]) (congrArg (fun v => F0 m 272 ls (.int v :: [.int (50 : Int32), .int (0 : Int32), .ref (b + 0)])) (show (51 : Int32) - (10 : Int32) = (41 : Int32) by decide)) ?_
  refine lv_bipush (v := (9 : Int32)) hx hb dL_partly_272 (by decide) ?_
  refine lv_irem hx hb dL_partly_274 (by decide) ?_
  refine W.eq (g2 := F0 m 275 ls [.int (5 : Int32), .int (50 : Int32), .int (0 : Int32), .ref (b + 0)]) (congrArg (fun v => F0 m 275 ls (.int v :: [.int (50 : Int32), .int (0 : Int32), .ref (b + 0)])) (show (41 : Int32) - (41 : Int32) / (9 : Int32) * (9 : Int32) = (5 : Int32) by decide)) ?_
  refine lv_iadd hx hb dL_partly_275 ?_
  refine W.eq (g2 := F0 m 276 ls [.int (55 : Int32), .int (0 : Int32), .ref (b + 0)]) (congrArg (fun v => F0 m 276 ls (.int v :: [.int (0 : Int32), .ref (b + 0)])) (show (50 : Int32) + (5 : Int32) = (55 : Int32) by decide)) ?_
  refine lv_iconst (v := (1 : Int32)) hx hb dL_partly_276 (by decide) ?_
  refine lv_iadd hx hb dL_partly_277 ?_
  refine W.eq (g2 := F0 m 278 ls [.int (56 : Int32), .int (0 : Int32), .ref (b + 0)]) (congrArg (fun v => F0 m 278 ls (.int v :: [.int (0 : Int32), .ref (b + 0)])) (show (55 : Int32) + (1 : Int32) = (56 : Int32) by decide)) ?_
  refine lv_iconst (v := (0 : Int32)) hx hb dL_partly_278 (by decide) ?_
  obtain ⟨M1, hc1, h1⟩ := s_mk V114 (0 : Int32) (c := (0 : Int32)) (x := (56 : Int32)) (tks := (0 : Int32)) h (by decide +kernel)
  have hc1 : f_X4_makeCollection M (0 : Int32) (56 : Int32) (0 : Int32) = some (.inr (0 : Int32), M1) := hc1
  refine kL_7R C hml hl.1 (c_X4_makeCollection hlf hc1) ⟨Nat.le_of_ble_eq_true rfl, Nat.le_of_ble_eq_true rfl⟩ ⟨by show _ ≤ 4189; omega, by show _ ≤ 25467; omega⟩ (Nat.le_of_ble_eq_true rfl) hS hW dL_partly_279 (fun H locs hW hS => ?_)
  refine lv_if_eq (tgt := 287) hx hb dL_partly_282 (by decide) (fun _ => ?_) (fun c => absurd (by decide) c)
  exact t_partly_52 C hml hr hlk hlf h1 hS hW (lv_sub hl [0, 1] rfl) ⟨by omega, by omega⟩
set_option maxHeartbeats 4000000 in
set_option maxRecDepth 100000 in
theorem t_partly_50 {p : Program} {l : Launch} {e : Env} {s : State} {m : MethodId} {args : Array Value} {below : List Frame} {meth : Method} {c : Code} {Z : Zt} {b : Nat} (C : Cx p s m args c cL_partly RL Z b) (hml : c.maxLocals = 2) (hr : meth.sig.returnType = some .boolean) (hlk : meth.locks = false) (hlf : l.stackTraces = false) {M : Mem} (h : RS M V112) {H : Heap} {locs : List Loc} {ls : Array Slot} {cells slots : Nat} (hS : va_S (A0 b) s.heap H locs) (hW : Wd Z b M H) (hl : lv_has ls 2 [(1, .int (49 : Int32)), (0, .ref (b + 0))]) (hcs : cells + 2056 ≤ 4189 ∧ slots + 12336 ≤ 25467) : W p l e rm_L_partly s m args below meth c H locs cells slots (MQ below (QT b) args s 4189 25467 (A0 b)) (F0 m 287 ls []) := by
  have hx := C.1
  have hb := C.2.1
  refine lv_iinc (v := (50 : Int32)) (lv' := [(1, .int (50 : Int32)), (0, .ref (b + 0))]) hx hb dL_partly_287 hl (k := 0) rfl (by decide) (by decide) rfl (fun ls hl => ?_)
  refine lv_goto (tgt := 238) hx hb dL_partly_290 (by decide) ?_
  refine lv_iload_n hx hb dL_partly_238 rfl (lv_at hl 0 rfl) ?_
  refine lv_bipush (v := (61 : Int32)) hx hb dL_partly_239 (by decide) ?_
  refine lv_icmp_ge (tgt := 293) hx hb dL_partly_241 (by decide) (fun c => absurd c (by decide)) (fun _ => ?_)
  refine lv_aload_n hx hb dL_partly_244 rfl (lv_at hl 1 rfl) ?_
  refine lv_iconst (v := (0 : Int32)) hx hb dL_partly_245 (by decide) ?_
  refine lv_iload_n hx hb dL_partly_246 rfl (lv_at hl 0 rfl) ?_
  refine lv_bipush (v := (10 : Int32)) hx hb dL_partly_247 (by decide) ?_
  refine lv_icmp_ge (tgt := 256) hx hb dL_partly_249 (by decide) (fun _ => ?_) (fun c => absurd (by decide) c)
  refine lv_bipush (v := (10 : Int32)) hx hb dL_partly_256 (by decide) ?_
  refine lv_iload_n hx hb dL_partly_258 rfl (lv_at hl 0 rfl) ?_
  refine lv_bipush (v := (10 : Int32)) hx hb dL_partly_259 (by decide) ?_
  refine lv_isub hx hb dL_partly_261 ?_
  refine W.eq (g2 := F0 m 262 ls [.int (40 : Int32), .int (10 : Int32), .int (0 : Int32), .ref (b + 0)]) (congrArg (fun v => F0 m 262 ls (.int v :: [.int (10 : Int32), .int (0 : Int32), .ref (b + 0)])) (show (50 : Int32) - (10 : Int32) = (40 : Int32) by decide)) ?_
  refine lv_bipush (v := (9 : Int32)) hx hb dL_partly_262 (by decide) ?_
  refine lv_idiv hx hb dL_partly_264 (by decide) ?_
  refine W.eq (g2 := F0 m 265 ls [.int (4 : Int32), .int (10 : Int32), .int (0 : Int32), .ref (b + 0)]) (congrArg (fun v => F0 m 265 ls (.int v :: [.int (10 : Int32), .int (0 : Int32), .ref (b + 0)])) (show (40 : Int32) / (9 : Int32) = (4 : Int32) by decide)) ?_
  refine lv_iconst (v := (1 : Int32)) hx hb dL_partly_265 (by decide) ?_
  refine lv_iadd hx hb dL_partly_266 ?_
  refine W.eq (g2 := F0 m 267 ls [.int (5 : Int32), .int (10 : Int32), .int (0 : Int32), .ref (b + 0)]) (congrArg (fun v => F0 m 267 ls (.int v :: [.int (10 : Int32), .int (0 : Int32), .ref (b + 0)])) (show (4 : Int32) + (1 : Int32) = (5 : Int32) by decide)) ?_
  refine lv_imul hx hb dL_partly_267 ?_
  refine W.eq (g2 := F0 m 268 ls [.int (50 : Int32), .int (0 : Int32), .ref (b + 0)]) (congrArg (fun v => F0 m 268 ls (.int v :: [.int (0 : Int32), .ref (b + 0)])) (show (10 : Int32) * (5 : Int32) = (50 : Int32) by decide)) ?_
  refine lv_iload_n hx hb dL_partly_268 rfl (lv_at hl 0 rfl) ?_
  refine lv_bipush (v := (10 : Int32)) hx hb dL_partly_269 (by decide) ?_
  refine lv_isub hx hb dL_partly_271 ?_
  refine W.eq (g2 := F0 m 272 ls [.int (40 : Int32), .int (50 : Int32), .int (0 : Int32), .ref (b + 0)]) (congrArg (fun v => F0 m 272 ls (.int v :: [.int (50 : Int32), .int (0 : Int32), .ref (b + 0)])) (show (50 : Int32) - (10 : Int32) = (40 : Int32) by decide)) ?_
  refine lv_bipush (v := (9 : Int32)) hx hb dL_partly_272 (by decide) ?_
  refine lv_irem hx hb dL_partly_274 (by decide) ?_
  refine W.eq (g2 := F0 m 275 ls [.int (4 : Int32), .int (50 : Int32), .int (0 : Int32), .ref (b + 0)]) (congrArg (fun v => F0 m 275 ls (.int v :: [.int (50 : Int32), .int (0 : Int32), .ref (b + 0)])) (show (40 : Int32) - (40 : Int32) / (9 : Int32) * (9 : Int32) = (4 : Int32) by decide)) ?_
  refine lv_iadd hx hb dL_partly_275 ?_
  refine W.eq (g2 := F0 m 276 ls [.int (54 : Int32), .int (0 : Int32), .ref (b + 0)]) (congrArg (fun v => F0 m 276 ls (.int v :: [.int (0 : Int32), .ref (b + 0)])) (show (50 : Int32) + (4 : Int32) = (54 : Int32) by decide)) ?_
  refine lv_iconst (v := (1 : Int32)) hx hb dL_partly_276 (by decide) ?_
  refine lv_iadd hx hb dL_partly_277 ?_
  refine W.eq (g2 := F0 m 278 ls [.int (55 : Int32), .int (0 : Int32), .ref (b + 0)]) (congrArg (fun v => F0 m 278 ls (.int v :: [.int (0 : Int32), .ref (b + 0)])) (show (54 : Int32) + (1 : Int32) = (55 : Int32) by decide)) ?_
  refine lv_iconst (v := (0 : Int32)) hx hb dL_partly_278 (by decide) ?_
  obtain ⟨M1, hc1, h1⟩ := s_mk V113 (0 : Int32) (c := (0 : Int32)) (x := (55 : Int32)) (tks := (0 : Int32)) h (by decide +kernel)
  have hc1 : f_X4_makeCollection M (0 : Int32) (55 : Int32) (0 : Int32) = some (.inr (0 : Int32), M1) := hc1
  refine kL_7R C hml hl.1 (c_X4_makeCollection hlf hc1) ⟨Nat.le_of_ble_eq_true rfl, Nat.le_of_ble_eq_true rfl⟩ ⟨by show _ ≤ 4189; omega, by show _ ≤ 25467; omega⟩ (Nat.le_of_ble_eq_true rfl) hS hW dL_partly_279 (fun H locs hW hS => ?_)
  refine lv_if_eq (tgt := 287) hx hb dL_partly_282 (by decide) (fun _ => ?_) (fun c => absurd (by decide) c)
  exact t_partly_51 C hml hr hlk hlf h1 hS hW (lv_sub hl [0, 1] rfl) ⟨by omega, by omega⟩
set_option maxHeartbeats 4000000 in
set_option maxRecDepth 100000 in
theorem t_partly_49 {p : Program} {l : Launch} {e : Env} {s : State} {m : MethodId} {args : Array Value} {below : List Frame} {meth : Method} {c : Code} {Z : Zt} {b : Nat} (C : Cx p s m args c cL_partly RL Z b) (hml : c.maxLocals = 2) (hr : meth.sig.returnType = some .boolean) (hlk : meth.locks = false) (hlf : l.stackTraces = false) {M : Mem} (h : RS M V111) {H : Heap} {locs : List Loc} {ls : Array Slot} {cells slots : Nat} (hS : va_S (A0 b) s.heap H locs) (hW : Wd Z b M H) (hl : lv_has ls 2 [(1, .int (48 : Int32)), (0, .ref (b + 0))]) (hcs : cells + 2060 ≤ 4189 ∧ slots + 12360 ≤ 25467) : W p l e rm_L_partly s m args below meth c H locs cells slots (MQ below (QT b) args s 4189 25467 (A0 b)) (F0 m 287 ls []) := by
  have hx := C.1
  have hb := C.2.1
  refine lv_iinc (v := (49 : Int32)) (lv' := [(1, .int (49 : Int32)), (0, .ref (b + 0))]) hx hb dL_partly_287 hl (k := 0) rfl (by decide) (by decide) rfl (fun ls hl => ?_)
  refine lv_goto (tgt := 238) hx hb dL_partly_290 (by decide) ?_
  refine lv_iload_n hx hb dL_partly_238 rfl (lv_at hl 0 rfl) ?_
  refine lv_bipush (v := (61 : Int32)) hx hb dL_partly_239 (by decide) ?_
  refine lv_icmp_ge (tgt := 293) hx hb dL_partly_241 (by decide) (fun c => absurd c (by decide)) (fun _ => ?_)
  refine lv_aload_n hx hb dL_partly_244 rfl (lv_at hl 1 rfl) ?_
  refine lv_iconst (v := (0 : Int32)) hx hb dL_partly_245 (by decide) ?_
  refine lv_iload_n hx hb dL_partly_246 rfl (lv_at hl 0 rfl) ?_
  refine lv_bipush (v := (10 : Int32)) hx hb dL_partly_247 (by decide) ?_
  refine lv_icmp_ge (tgt := 256) hx hb dL_partly_249 (by decide) (fun _ => ?_) (fun c => absurd (by decide) c)
  refine lv_bipush (v := (10 : Int32)) hx hb dL_partly_256 (by decide) ?_
  refine lv_iload_n hx hb dL_partly_258 rfl (lv_at hl 0 rfl) ?_
  refine lv_bipush (v := (10 : Int32)) hx hb dL_partly_259 (by decide) ?_
  refine lv_isub hx hb dL_partly_261 ?_
  refine W.eq (g2 := F0 m 262 ls [.int (39 : Int32), .int (10 : Int32), .int (0 : Int32), .ref (b + 0)]) (congrArg (fun v => F0 m 262 ls (.int v :: [.int (10 : Int32), .int (0 : Int32), .ref (b + 0)])) (show (49 : Int32) - (10 : Int32) = (39 : Int32) by decide)) ?_
  refine lv_bipush (v := (9 : Int32)) hx hb dL_partly_262 (by decide) ?_
  refine lv_idiv hx hb dL_partly_264 (by decide) ?_
  refine W.eq (g2 := F0 m 265 ls [.int (4 : Int32), .int (10 : Int32), .int (0 : Int32), .ref (b + 0)]) (congrArg (fun v => F0 m 265 ls (.int v :: [.int (10 : Int32), .int (0 : Int32), .ref (b + 0)])) (show (39 : Int32) / (9 : Int32) = (4 : Int32) by decide)) ?_
  refine lv_iconst (v := (1 : Int32)) hx hb dL_partly_265 (by decide) ?_
  refine lv_iadd hx hb dL_partly_266 ?_
  refine W.eq (g2 := F0 m 267 ls [.int (5 : Int32), .int (10 : Int32), .int (0 : Int32), .ref (b + 0)]) (congrArg (fun v => F0 m 267 ls (.int v :: [.int (10 : Int32), .int (0 : Int32), .ref (b + 0)])) (show (4 : Int32) + (1 : Int32) = (5 : Int32) by decide)) ?_
  refine lv_imul hx hb dL_partly_267 ?_
  refine W.eq (g2 := F0 m 268 ls [.int (50 : Int32), .int (0 : Int32), .ref (b + 0)]) (congrArg (fun v => F0 m 268 ls (.int v :: [.int (0 : Int32), .ref (b + 0)])) (show (10 : Int32) * (5 : Int32) = (50 : Int32) by decide)) ?_
  refine lv_iload_n hx hb dL_partly_268 rfl (lv_at hl 0 rfl) ?_
  refine lv_bipush (v := (10 : Int32)) hx hb dL_partly_269 (by decide) ?_
  refine lv_isub hx hb dL_partly_271 ?_
  refine W.eq (g2 := F0 m 272 ls [.int (39 : Int32), .int (50 : Int32), .int (0 : Int32), .ref (b + 0)]) (congrArg (fun v => F0 m 272 ls (.int v :: [.int (50 : Int32), .int (0 : Int32), .ref (b + 0)])) (show (49 : Int32) - (10 : Int32) = (39 : Int32) by decide)) ?_
  refine lv_bipush (v := (9 : Int32)) hx hb dL_partly_272 (by decide) ?_
  refine lv_irem hx hb dL_partly_274 (by decide) ?_
  refine W.eq (g2 := F0 m 275 ls [.int (3 : Int32), .int (50 : Int32), .int (0 : Int32), .ref (b + 0)]) (congrArg (fun v => F0 m 275 ls (.int v :: [.int (50 : Int32), .int (0 : Int32), .ref (b + 0)])) (show (39 : Int32) - (39 : Int32) / (9 : Int32) * (9 : Int32) = (3 : Int32) by decide)) ?_
  refine lv_iadd hx hb dL_partly_275 ?_
  refine W.eq (g2 := F0 m 276 ls [.int (53 : Int32), .int (0 : Int32), .ref (b + 0)]) (congrArg (fun v => F0 m 276 ls (.int v :: [.int (0 : Int32), .ref (b + 0)])) (show (50 : Int32) + (3 : Int32) = (53 : Int32) by decide)) ?_
  refine lv_iconst (v := (1 : Int32)) hx hb dL_partly_276 (by decide) ?_
  refine lv_iadd hx hb dL_partly_277 ?_
  refine W.eq (g2 := F0 m 278 ls [.int (54 : Int32), .int (0 : Int32), .ref (b + 0)]) (congrArg (fun v => F0 m 278 ls (.int v :: [.int (0 : Int32), .ref (b + 0)])) (show (53 : Int32) + (1 : Int32) = (54 : Int32) by decide)) ?_
  refine lv_iconst (v := (0 : Int32)) hx hb dL_partly_278 (by decide) ?_
  obtain ⟨M1, hc1, h1⟩ := s_mk V112 (0 : Int32) (c := (0 : Int32)) (x := (54 : Int32)) (tks := (0 : Int32)) h (by decide +kernel)
  have hc1 : f_X4_makeCollection M (0 : Int32) (54 : Int32) (0 : Int32) = some (.inr (0 : Int32), M1) := hc1
  refine kL_7R C hml hl.1 (c_X4_makeCollection hlf hc1) ⟨Nat.le_of_ble_eq_true rfl, Nat.le_of_ble_eq_true rfl⟩ ⟨by show _ ≤ 4189; omega, by show _ ≤ 25467; omega⟩ (Nat.le_of_ble_eq_true rfl) hS hW dL_partly_279 (fun H locs hW hS => ?_)
  refine lv_if_eq (tgt := 287) hx hb dL_partly_282 (by decide) (fun _ => ?_) (fun c => absurd (by decide) c)
  exact t_partly_50 C hml hr hlk hlf h1 hS hW (lv_sub hl [0, 1] rfl) ⟨by omega, by omega⟩
set_option maxHeartbeats 4000000 in
set_option maxRecDepth 100000 in
theorem t_partly_48 {p : Program} {l : Launch} {e : Env} {s : State} {m : MethodId} {args : Array Value} {below : List Frame} {meth : Method} {c : Code} {Z : Zt} {b : Nat} (C : Cx p s m args c cL_partly RL Z b) (hml : c.maxLocals = 2) (hr : meth.sig.returnType = some .boolean) (hlk : meth.locks = false) (hlf : l.stackTraces = false) {M : Mem} (h : RS M V110) {H : Heap} {locs : List Loc} {ls : Array Slot} {cells slots : Nat} (hS : va_S (A0 b) s.heap H locs) (hW : Wd Z b M H) (hl : lv_has ls 2 [(1, .int (47 : Int32)), (0, .ref (b + 0))]) (hcs : cells + 2064 ≤ 4189 ∧ slots + 12384 ≤ 25467) : W p l e rm_L_partly s m args below meth c H locs cells slots (MQ below (QT b) args s 4189 25467 (A0 b)) (F0 m 287 ls []) := by
  have hx := C.1
  have hb := C.2.1
  refine lv_iinc (v := (48 : Int32)) (lv' := [(1, .int (48 : Int32)), (0, .ref (b + 0))]) hx hb dL_partly_287 hl (k := 0) rfl (by decide) (by decide) rfl (fun ls hl => ?_)
  refine lv_goto (tgt := 238) hx hb dL_partly_290 (by decide) ?_
  refine lv_iload_n hx hb dL_partly_238 rfl (lv_at hl 0 rfl) ?_
  refine lv_bipush (v := (61 : Int32)) hx hb dL_partly_239 (by decide) ?_
  refine lv_icmp_ge (tgt := 293) hx hb dL_partly_241 (by decide) (fun c => absurd c (by decide)) (fun _ => ?_)
  refine lv_aload_n hx hb dL_partly_244 rfl (lv_at hl 1 rfl) ?_
  refine lv_iconst (v := (0 : Int32)) hx hb dL_partly_245 (by decide) ?_
  refine lv_iload_n hx hb dL_partly_246 rfl (lv_at hl 0 rfl) ?_
  refine lv_bipush (v := (10 : Int32)) hx hb dL_partly_247 (by decide) ?_
  refine lv_icmp_ge (tgt := 256) hx hb dL_partly_249 (by decide) (fun _ => ?_) (fun c => absurd (by decide) c)
  refine lv_bipush (v := (10 : Int32)) hx hb dL_partly_256 (by decide) ?_
  refine lv_iload_n hx hb dL_partly_258 rfl (lv_at hl 0 rfl) ?_
  refine lv_bipush (v := (10 : Int32)) hx hb dL_partly_259 (by decide) ?_
  refine lv_isub hx hb dL_partly_261 ?_
  refine W.eq (g2 := F0 m 262 ls [.int (38 : Int32), .int (10 : Int32), .int (0 : Int32), .ref (b + 0)]) (congrArg (fun v => F0 m 262 ls (.int v :: [.int (10 : Int32), .int (0 : Int32), .ref (b + 0)])) (show (48 : Int32) - (10 : Int32) = (38 : Int32) by decide)) ?_
  refine lv_bipush (v := (9 : Int32)) hx hb dL_partly_262 (by decide) ?_
  refine lv_idiv hx hb dL_partly_264 (by decide) ?_
  refine W.eq (g2 := F0 m 265 ls [.int (4 : Int32), .int (10 : Int32), .int (0 : Int32), .ref (b + 0)]) (congrArg (fun v => F0 m 265 ls (.int v :: [.int (10 : Int32), .int (0 : Int32), .ref (b + 0)])) (show (38 : Int32) / (9 : Int32) = (4 : Int32) by decide)) ?_
  refine lv_iconst (v := (1 : Int32)) hx hb dL_partly_265 (by decide) ?_
  refine lv_iadd hx hb dL_partly_266 ?_
  refine W.eq (g2 := F0 m 267 ls [.int (5 : Int32), .int (10 : Int32), .int (0 : Int32), .ref (b + 0)]) (congrArg (fun v => F0 m 267 ls (.int v :: [.int (10 : Int32), .int (0 : Int32), .ref (b + 0)])) (show (4 : Int32) + (1 : Int32) = (5 : Int32) by decide)) ?_
  refine lv_imul hx hb dL_partly_267 ?_
  refine W.eq (g2 := F0 m 268 ls [.int (50 : Int32), .int (0 : Int32), .ref (b + 0)]) (congrArg (fun v => F0 m 268 ls (.int v :: [.int (0 : Int32), .ref (b + 0)])) (show (10 : Int32) * (5 : Int32) = (50 : Int32) by decide)) ?_
  refine lv_iload_n hx hb dL_partly_268 rfl (lv_at hl 0 rfl) ?_
  refine lv_bipush (v := (10 : Int32)) hx hb dL_partly_269 (by decide) ?_
  refine lv_isub hx hb dL_partly_271 ?_
  refine W.eq (g2 := F0 m 272 ls [.int (38 : Int32), .int (50 : Int32), .int (0 : Int32), .ref (b + 0)]) (congrArg (fun v => F0 m 272 ls (.int v :: [.int (50 : Int32), .int (0 : Int32), .ref (b + 0)])) (show (48 : Int32) - (10 : Int32) = (38 : Int32) by decide)) ?_
  refine lv_bipush (v := (9 : Int32)) hx hb dL_partly_272 (by decide) ?_
  refine lv_irem hx hb dL_partly_274 (by decide) ?_
  refine W.eq (g2 := F0 m 275 ls [.int (2 : Int32), .int (50 : Int32), .int (0 : Int32), .ref (b + 0)]) (congrArg (fun v => F0 m 275 ls (.int v :: [.int (50 : Int32), .int (0 : Int32), .ref (b + 0)])) (show (38 : Int32) - (38 : Int32) / (9 : Int32) * (9 : Int32) = (2 : Int32) by decide)) ?_
  refine lv_iadd hx hb dL_partly_275 ?_
  refine W.eq (g2 := F0 m 276 ls [.int (52 : Int32), .int (0 : Int32), .ref (b + 0)]) (congrArg (fun v => F0 m 276 ls (.int v :: [.int (0 : Int32), .ref (b + 0)])) (show (50 : Int32) + (2 : Int32) = (52 : Int32) by decide)) ?_
  refine lv_iconst (v := (1 : Int32)) hx hb dL_partly_276 (by decide) ?_
  refine lv_iadd hx hb dL_partly_277 ?_
  refine W.eq (g2 := F0 m 278 ls [.int (53 : Int32), .int (0 : Int32), .ref (b + 0)]) (congrArg (fun v => F0 m 278 ls (.int v :: [.int (0 : Int32), .ref (b + 0)])) (show (52 : Int32) + (1 : Int32) = (53 : Int32) by decide)) ?_
  refine lv_iconst (v := (0 : Int32)) hx hb dL_partly_278 (by decide) ?_
  obtain ⟨M1, hc1, h1⟩ := s_mk V111 (0 : Int32) (c := (0 : Int32)) (x := (53 : Int32)) (tks := (0 : Int32)) h (by decide +kernel)
  have hc1 : f_X4_makeCollection M (0 : Int32) (53 : Int32) (0 : Int32) = some (.inr (0 : Int32), M1) := hc1
  refine kL_7R C hml hl.1 (c_X4_makeCollection hlf hc1) ⟨Nat.le_of_ble_eq_true rfl, Nat.le_of_ble_eq_true rfl⟩ ⟨by show _ ≤ 4189; omega, by show _ ≤ 25467; omega⟩ (Nat.le_of_ble_eq_true rfl) hS hW dL_partly_279 (fun H locs hW hS => ?_)
  refine lv_if_eq (tgt := 287) hx hb dL_partly_282 (by decide) (fun _ => ?_) (fun c => absurd (by decide) c)
  exact t_partly_49 C hml hr hlk hlf h1 hS hW (lv_sub hl [0, 1] rfl) ⟨by omega, by omega⟩
set_option maxHeartbeats 4000000 in
set_option maxRecDepth 100000 in
theorem t_partly_47 {p : Program} {l : Launch} {e : Env} {s : State} {m : MethodId} {args : Array Value} {below : List Frame} {meth : Method} {c : Code} {Z : Zt} {b : Nat} (C : Cx p s m args c cL_partly RL Z b) (hml : c.maxLocals = 2) (hr : meth.sig.returnType = some .boolean) (hlk : meth.locks = false) (hlf : l.stackTraces = false) {M : Mem} (h : RS M V109) {H : Heap} {locs : List Loc} {ls : Array Slot} {cells slots : Nat} (hS : va_S (A0 b) s.heap H locs) (hW : Wd Z b M H) (hl : lv_has ls 2 [(1, .int (46 : Int32)), (0, .ref (b + 0))]) (hcs : cells + 2068 ≤ 4189 ∧ slots + 12408 ≤ 25467) : W p l e rm_L_partly s m args below meth c H locs cells slots (MQ below (QT b) args s 4189 25467 (A0 b)) (F0 m 287 ls []) := by
  have hx := C.1
  have hb := C.2.1
  refine lv_iinc (v := (47 : Int32)) (lv' := [(1, .int (47 : Int32)), (0, .ref (b + 0))]) hx hb dL_partly_287 hl (k := 0) rfl (by decide) (by decide) rfl (fun ls hl => ?_)
  refine lv_goto (tgt := 238) hx hb dL_partly_290 (by decide) ?_
  refine lv_iload_n hx hb dL_partly_238 rfl (lv_at hl 0 rfl) ?_
  refine lv_bipush (v := (61 : Int32)) hx hb dL_partly_239 (by decide) ?_
  refine lv_icmp_ge (tgt := 293) hx hb dL_partly_241 (by decide) (fun c => absurd c (by decide)) (fun _ => ?_)
  refine lv_aload_n hx hb dL_partly_244 rfl (lv_at hl 1 rfl) ?_
  refine lv_iconst (v := (0 : Int32)) hx hb dL_partly_245 (by decide) ?_
  refine lv_iload_n hx hb dL_partly_246 rfl (lv_at hl 0 rfl) ?_
  refine lv_bipush (v := (10 : Int32)) hx hb dL_partly_247 (by decide) ?_
  refine lv_icmp_ge (tgt := 256) hx hb dL_partly_249 (by decide) (fun _ => ?_) (fun c => absurd (by decide) c)
  refine lv_bipush (v := (10 : Int32)) hx hb dL_partly_256 (by decide) ?_
  refine lv_iload_n hx hb dL_partly_258 rfl (lv_at hl 0 rfl) ?_
  refine lv_bipush (v := (10 : Int32)) hx hb dL_partly_259 (by decide) ?_
  refine lv_isub hx hb dL_partly_261 ?_
  refine W.eq (g2 := F0 m 262 ls [.int (37 : Int32), .int (10 : Int32), .int (0 : Int32), .ref (b + 0)]) (congrArg (fun v => F0 m 262 ls (.int v :: [.int (10 : Int32), .int (0 : Int32), .ref (b + 0)])) (show (47 : Int32) - (10 : Int32) = (37 : Int32) by decide)) ?_
  refine lv_bipush (v := (9 : Int32)) hx hb dL_partly_262 (by decide) ?_
  refine lv_idiv hx hb dL_partly_264 (by decide) ?_
  refine W.eq (g2 := F0 m 265 ls [.int (4 : Int32), .int (10 : Int32), .int (0 : Int32), .ref (b + 0)]) (congrArg (fun v => F0 m 265 ls (.int v :: [.int (10 : Int32), .int (0 : Int32), .ref (b + 0)])) (show (37 : Int32) / (9 : Int32) = (4 : Int32) by decide)) ?_
  refine lv_iconst (v := (1 : Int32)) hx hb dL_partly_265 (by decide) ?_
  refine lv_iadd hx hb dL_partly_266 ?_
  refine W.eq (g2 := F0 m 267 ls [.int (5 : Int32), .int (10 : Int32), .int (0 : Int32), .ref (b + 0)]) (congrArg (fun v => F0 m 267 ls (.int v :: [.int (10 : Int32), .int (0 : Int32), .ref (b + 0)])) (show (4 : Int32) + (1 : Int32) = (5 : Int32) by decide)) ?_
  refine lv_imul hx hb dL_partly_267 ?_
  refine W.eq (g2 := F0 m 268 ls [.int (50 : Int32), .int (0 : Int32), .ref (b + 0)]) (congrArg (fun v => F0 m 268 ls (.int v :: [.int (0 : Int32), .ref (b + 0)])) (show (10 : Int32) * (5 : Int32) = (50 : Int32) by decide)) ?_
  refine lv_iload_n hx hb dL_partly_268 rfl (lv_at hl 0 rfl) ?_
  refine lv_bipush (v := (10 : Int32)) hx hb dL_partly_269 (by decide) ?_
  refine lv_isub hx hb dL_partly_271 ?_
  refine W.eq (g2 := F0 m 272 ls [.int (37 : Int32), .int (50 : Int32), .int (0 : Int32), .ref (b + 0)]) (congrArg (fun v => F0 m 272 ls (.int v :: [.int (50 : Int32), .int (0 : Int32), .ref (b + 0)])) (show (47 : Int32) - (10 : Int32) = (37 : Int32) by decide)) ?_
  refine lv_bipush (v := (9 : Int32)) hx hb dL_partly_272 (by decide) ?_
  refine lv_irem hx hb dL_partly_274 (by decide) ?_
  refine W.eq (g2 := F0 m 275 ls [.int (1 : Int32), .int (50 : Int32), .int (0 : Int32), .ref (b + 0)]) (congrArg (fun v => F0 m 275 ls (.int v :: [.int (50 : Int32), .int (0 : Int32), .ref (b + 0)])) (show (37 : Int32) - (37 : Int32) / (9 : Int32) * (9 : Int32) = (1 : Int32) by decide)) ?_
  refine lv_iadd hx hb dL_partly_275 ?_
  refine W.eq (g2 := F0 m 276 ls [.int (51 : Int32), .int (0 : Int32), .ref (b + 0)]) (congrArg (fun v => F0 m 276 ls (.int v :: [.int (0 : Int32), .ref (b + 0)])) (show (50 : Int32) + (1 : Int32) = (51 : Int32) by decide)) ?_
  refine lv_iconst (v := (1 : Int32)) hx hb dL_partly_276 (by decide) ?_
  refine lv_iadd hx hb dL_partly_277 ?_
  refine W.eq (g2 := F0 m 278 ls [.int (52 : Int32), .int (0 : Int32), .ref (b + 0)]) (congrArg (fun v => F0 m 278 ls (.int v :: [.int (0 : Int32), .ref (b + 0)])) (show (51 : Int32) + (1 : Int32) = (52 : Int32) by decide)) ?_
  refine lv_iconst (v := (0 : Int32)) hx hb dL_partly_278 (by decide) ?_
  obtain ⟨M1, hc1, h1⟩ := s_mk V110 (0 : Int32) (c := (0 : Int32)) (x := (52 : Int32)) (tks := (0 : Int32)) h (by decide +kernel)
  have hc1 : f_X4_makeCollection M (0 : Int32) (52 : Int32) (0 : Int32) = some (.inr (0 : Int32), M1) := hc1
  refine kL_7R C hml hl.1 (c_X4_makeCollection hlf hc1) ⟨Nat.le_of_ble_eq_true rfl, Nat.le_of_ble_eq_true rfl⟩ ⟨by show _ ≤ 4189; omega, by show _ ≤ 25467; omega⟩ (Nat.le_of_ble_eq_true rfl) hS hW dL_partly_279 (fun H locs hW hS => ?_)
  refine lv_if_eq (tgt := 287) hx hb dL_partly_282 (by decide) (fun _ => ?_) (fun c => absurd (by decide) c)
  exact t_partly_48 C hml hr hlk hlf h1 hS hW (lv_sub hl [0, 1] rfl) ⟨by omega, by omega⟩
set_option maxHeartbeats 4000000 in
set_option maxRecDepth 100000 in
theorem t_partly_46 {p : Program} {l : Launch} {e : Env} {s : State} {m : MethodId} {args : Array Value} {below : List Frame} {meth : Method} {c : Code} {Z : Zt} {b : Nat} (C : Cx p s m args c cL_partly RL Z b) (hml : c.maxLocals = 2) (hr : meth.sig.returnType = some .boolean) (hlk : meth.locks = false) (hlf : l.stackTraces = false) {M : Mem} (h : RS M V108) {H : Heap} {locs : List Loc} {ls : Array Slot} {cells slots : Nat} (hS : va_S (A0 b) s.heap H locs) (hW : Wd Z b M H) (hl : lv_has ls 2 [(1, .int (45 : Int32)), (0, .ref (b + 0))]) (hcs : cells + 2072 ≤ 4189 ∧ slots + 12432 ≤ 25467) : W p l e rm_L_partly s m args below meth c H locs cells slots (MQ below (QT b) args s 4189 25467 (A0 b)) (F0 m 287 ls []) := by
  have hx := C.1
  have hb := C.2.1
  refine lv_iinc (v := (46 : Int32)) (lv' := [(1, .int (46 : Int32)), (0, .ref (b + 0))]) hx hb dL_partly_287 hl (k := 0) rfl (by decide) (by decide) rfl (fun ls hl => ?_)
  refine lv_goto (tgt := 238) hx hb dL_partly_290 (by decide) ?_
  refine lv_iload_n hx hb dL_partly_238 rfl (lv_at hl 0 rfl) ?_
  refine lv_bipush (v := (61 : Int32)) hx hb dL_partly_239 (by decide) ?_
  refine lv_icmp_ge (tgt := 293) hx hb dL_partly_241 (by decide) (fun c => absurd c (by decide)) (fun _ => ?_)
  refine lv_aload_n hx hb dL_partly_244 rfl (lv_at hl 1 rfl) ?_
  refine lv_iconst (v := (0 : Int32)) hx hb dL_partly_245 (by decide) ?_
  refine lv_iload_n hx hb dL_partly_246 rfl (lv_at hl 0 rfl) ?_
  refine lv_bipush (v := (10 : Int32)) hx hb dL_partly_247 (by decide) ?_
  refine lv_icmp_ge (tgt := 256) hx hb dL_partly_249 (by decide) (fun _ => ?_) (fun c => absurd (by decide) c)
  refine lv_bipush (v := (10 : Int32)) hx hb dL_partly_256 (by decide) ?_
  refine lv_iload_n hx hb dL_partly_258 rfl (lv_at hl 0 rfl) ?_
  refine lv_bipush (v := (10 : Int32)) hx hb dL_partly_259 (by decide) ?_
  refine lv_isub hx hb dL_partly_261 ?_
  refine W.eq (g2 := F0 m 262 ls [.int (36 : Int32), .int (10 : Int32), .int (0 : Int32), .ref (b + 0)]) (congrArg (fun v => F0 m 262 ls (.int v :: [.int (10 : Int32), .int (0 : Int32), .ref (b + 0)])) (show (46 : Int32) - (10 : Int32) = (36 : Int32) by decide)) ?_
  refine lv_bipush (v := (9 : Int32)) hx hb dL_partly_262 (by decide) ?_
  refine lv_idiv hx hb dL_partly_264 (by decide) ?_
  refine W.eq (g2 := F0 m 265 ls [.int (4 : Int32), .int (10 : Int32), .int (0 : Int32), .ref (b + 0)]) (congrArg (fun v => F0 m 265 ls (.int v :: [.int (10 : Int32), .int (0 : Int32), .ref (b + 0)])) (show (36 : Int32) / (9 : Int32) = (4 : Int32) by decide)) ?_
  refine lv_iconst (v := (1 : Int32)) hx hb dL_partly_265 (by decide) ?_
  refine lv_iadd hx hb dL_partly_266 ?_
  refine W.eq (g2 := F0 m 267 ls [.int (5 : Int32), .int (10 : Int32), .int (0 : Int32), .ref (b + 0)]) (congrArg (fun v => F0 m 267 ls (.int v :: [.int (10 : Int32), .int (0 : Int32), .ref (b + 0)])) (show (4 : Int32) + (1 : Int32) = (5 : Int32) by decide)) ?_
  refine lv_imul hx hb dL_partly_267 ?_
  refine W.eq (g2 := F0 m 268 ls [.int (50 : Int32), .int (0 : Int32), .ref (b + 0)]) (congrArg (fun v => F0 m 268 ls (.int v :: [.int (0 : Int32), .ref (b + 0)])) (show (10 : Int32) * (5 : Int32) = (50 : Int32) by decide)) ?_
  refine lv_iload_n hx hb dL_partly_268 rfl (lv_at hl 0 rfl) ?_
  refine lv_bipush (v := (10 : Int32)) hx hb dL_partly_269 (by decide) ?_
  refine lv_isub hx hb dL_partly_271 ?_
  refine W.eq (g2 := F0 m 272 ls [.int (36 : Int32), .int (50 : Int32), .int (0 : Int32), .ref (b + 0)]) (congrArg (fun v => F0 m 272 ls (.int v :: [.int (50 : Int32), .int (0 : Int32), .ref (b + 0)])) (show (46 : Int32) - (10 : Int32) = (36 : Int32) by decide)) ?_
  refine lv_bipush (v := (9 : Int32)) hx hb dL_partly_272 (by decide) ?_
  refine lv_irem hx hb dL_partly_274 (by decide) ?_
  refine W.eq (g2 := F0 m 275 ls [.int (0 : Int32), .int (50 : Int32), .int (0 : Int32), .ref (b + 0)]) (congrArg (fun v => F0 m 275 ls (.int v :: [.int (50 : Int32), .int (0 : Int32), .ref (b + 0)])) (show (36 : Int32) - (36 : Int32) / (9 : Int32) * (9 : Int32) = (0 : Int32) by decide)) ?_
  refine lv_iadd hx hb dL_partly_275 ?_
  refine W.eq (g2 := F0 m 276 ls [.int (50 : Int32), .int (0 : Int32), .ref (b + 0)]) (congrArg (fun v => F0 m 276 ls (.int v :: [.int (0 : Int32), .ref (b + 0)])) (show (50 : Int32) + (0 : Int32) = (50 : Int32) by decide)) ?_
  refine lv_iconst (v := (1 : Int32)) hx hb dL_partly_276 (by decide) ?_
  refine lv_iadd hx hb dL_partly_277 ?_
  refine W.eq (g2 := F0 m 278 ls [.int (51 : Int32), .int (0 : Int32), .ref (b + 0)]) (congrArg (fun v => F0 m 278 ls (.int v :: [.int (0 : Int32), .ref (b + 0)])) (show (50 : Int32) + (1 : Int32) = (51 : Int32) by decide)) ?_
  refine lv_iconst (v := (0 : Int32)) hx hb dL_partly_278 (by decide) ?_
  obtain ⟨M1, hc1, h1⟩ := s_mk V109 (0 : Int32) (c := (0 : Int32)) (x := (51 : Int32)) (tks := (0 : Int32)) h (by decide +kernel)
  have hc1 : f_X4_makeCollection M (0 : Int32) (51 : Int32) (0 : Int32) = some (.inr (0 : Int32), M1) := hc1
  refine kL_7R C hml hl.1 (c_X4_makeCollection hlf hc1) ⟨Nat.le_of_ble_eq_true rfl, Nat.le_of_ble_eq_true rfl⟩ ⟨by show _ ≤ 4189; omega, by show _ ≤ 25467; omega⟩ (Nat.le_of_ble_eq_true rfl) hS hW dL_partly_279 (fun H locs hW hS => ?_)
  refine lv_if_eq (tgt := 287) hx hb dL_partly_282 (by decide) (fun _ => ?_) (fun c => absurd (by decide) c)
  exact t_partly_47 C hml hr hlk hlf h1 hS hW (lv_sub hl [0, 1] rfl) ⟨by omega, by omega⟩
set_option maxHeartbeats 4000000 in
set_option maxRecDepth 100000 in
theorem t_partly_45 {p : Program} {l : Launch} {e : Env} {s : State} {m : MethodId} {args : Array Value} {below : List Frame} {meth : Method} {c : Code} {Z : Zt} {b : Nat} (C : Cx p s m args c cL_partly RL Z b) (hml : c.maxLocals = 2) (hr : meth.sig.returnType = some .boolean) (hlk : meth.locks = false) (hlf : l.stackTraces = false) {M : Mem} (h : RS M V107) {H : Heap} {locs : List Loc} {ls : Array Slot} {cells slots : Nat} (hS : va_S (A0 b) s.heap H locs) (hW : Wd Z b M H) (hl : lv_has ls 2 [(1, .int (44 : Int32)), (0, .ref (b + 0))]) (hcs : cells + 2076 ≤ 4189 ∧ slots + 12456 ≤ 25467) : W p l e rm_L_partly s m args below meth c H locs cells slots (MQ below (QT b) args s 4189 25467 (A0 b)) (F0 m 287 ls []) := by
  have hx := C.1
  have hb := C.2.1
  refine lv_iinc (v := (45 : Int32)) (lv' := [(1, .int (45 : Int32)), (0, .ref (b + 0))]) hx hb dL_partly_287 hl (k := 0) rfl (by decide) (by decide) rfl (fun ls hl => ?_)
  refine lv_goto (tgt := 238) hx hb dL_partly_290 (by decide) ?_
  refine lv_iload_n hx hb dL_partly_238 rfl (lv_at hl 0 rfl) ?_
  refine lv_bipush (v := (61 : Int32)) hx hb dL_partly_239 (by decide) ?_
  refine lv_icmp_ge (tgt := 293) hx hb dL_partly_241 (by decide) (fun c => absurd c (by decide)) (fun _ => ?_)
  refine lv_aload_n hx hb dL_partly_244 rfl (lv_at hl 1 rfl) ?_
  refine lv_iconst (v := (0 : Int32)) hx hb dL_partly_245 (by decide) ?_
  refine lv_iload_n hx hb dL_partly_246 rfl (lv_at hl 0 rfl) ?_
  refine lv_bipush (v := (10 : Int32)) hx hb dL_partly_247 (by decide) ?_
  refine lv_icmp_ge (tgt := 256) hx hb dL_partly_249 (by decide) (fun _ => ?_) (fun c => absurd (by decide) c)
  refine lv_bipush (v := (10 : Int32)) hx hb dL_partly_256 (by decide) ?_
  refine lv_iload_n hx hb dL_partly_258 rfl (lv_at hl 0 rfl) ?_
  refine lv_bipush (v := (10 : Int32)) hx hb dL_partly_259 (by decide) ?_
  refine lv_isub hx hb dL_partly_261 ?_
  refine W.eq (g2 := F0 m 262 ls [.int (35 : Int32), .int (10 : Int32), .int (0 : Int32), .ref (b + 0)]) (congrArg (fun v => F0 m 262 ls (.int v :: [.int (10 : Int32), .int (0 : Int32), .ref (b + 0)])) (show (45 : Int32) - (10 : Int32) = (35 : Int32) by decide)) ?_
  refine lv_bipush (v := (9 : Int32)) hx hb dL_partly_262 (by decide) ?_
  refine lv_idiv hx hb dL_partly_264 (by decide) ?_
  refine W.eq (g2 := F0 m 265 ls [.int (3 : Int32), .int (10 : Int32), .int (0 : Int32), .ref (b + 0)]) (congrArg (fun v => F0 m 265 ls (.int v :: [.int (10 : Int32), .int (0 : Int32), .ref (b + 0)])) (show (35 : Int32) / (9 : Int32) = (3 : Int32) by decide)) ?_
  refine lv_iconst (v := (1 : Int32)) hx hb dL_partly_265 (by decide) ?_
  refine lv_iadd hx hb dL_partly_266 ?_
  refine W.eq (g2 := F0 m 267 ls [.int (4 : Int32), .int (10 : Int32), .int (0 : Int32), .ref (b + 0)]) (congrArg (fun v => F0 m 267 ls (.int v :: [.int (10 : Int32), .int (0 : Int32), .ref (b + 0)])) (show (3 : Int32) + (1 : Int32) = (4 : Int32) by decide)) ?_
  refine lv_imul hx hb dL_partly_267 ?_
  refine W.eq (g2 := F0 m 268 ls [.int (40 : Int32), .int (0 : Int32), .ref (b + 0)]) (congrArg (fun v => F0 m 268 ls (.int v :: [.int (0 : Int32), .ref (b + 0)])) (show (10 : Int32) * (4 : Int32) = (40 : Int32) by decide)) ?_
  refine lv_iload_n hx hb dL_partly_268 rfl (lv_at hl 0 rfl) ?_
  refine lv_bipush (v := (10 : Int32)) hx hb dL_partly_269 (by decide) ?_
  refine lv_isub hx hb dL_partly_271 ?_
  refine W.eq (g2 := F0 m 272 ls [.int (35 : Int32), .int (40 : Int32), .int (0 : Int32), .ref (b + 0)]) (congrArg (fun v => F0 m 272 ls (.int v :: [.int (40 : Int32), .int (0 : Int32), .ref (b + 0)])) (show (45 : Int32) - (10 : Int32) = (35 : Int32) by decide)) ?_
  refine lv_bipush (v := (9 : Int32)) hx hb dL_partly_272 (by decide) ?_
  refine lv_irem hx hb dL_partly_274 (by decide) ?_
  refine W.eq (g2 := F0 m 275 ls [.int (8 : Int32), .int (40 : Int32), .int (0 : Int32), .ref (b + 0)]) (congrArg (fun v => F0 m 275 ls (.int v :: [.int (40 : Int32), .int (0 : Int32), .ref (b + 0)])) (show (35 : Int32) - (35 : Int32) / (9 : Int32) * (9 : Int32) = (8 : Int32) by decide)) ?_
  refine lv_iadd hx hb dL_partly_275 ?_
  refine W.eq (g2 := F0 m 276 ls [.int (48 : Int32), .int (0 : Int32), .ref (b + 0)]) (congrArg (fun v => F0 m 276 ls (.int v :: [.int (0 : Int32), .ref (b + 0)])) (show (40 : Int32) + (8 : Int32) = (48 : Int32) by decide)) ?_
  refine lv_iconst (v := (1 : Int32)) hx hb dL_partly_276 (by decide) ?_
  refine lv_iadd hx hb dL_partly_277 ?_
  refine W.eq (g2 := F0 m 278 ls [.int (49 : Int32), .int (0 : Int32), .ref (b + 0)]) (congrArg (fun v => F0 m 278 ls (.int v :: [.int (0 : Int32), .ref (b + 0)])) (show (48 : Int32) + (1 : Int32) = (49 : Int32) by decide)) ?_
  refine lv_iconst (v := (0 : Int32)) hx hb dL_partly_278 (by decide) ?_
  obtain ⟨M1, hc1, h1⟩ := s_mk V108 (0 : Int32) (c := (0 : Int32)) (x := (49 : Int32)) (tks := (0 : Int32)) h (by decide +kernel)
  have hc1 : f_X4_makeCollection M (0 : Int32) (49 : Int32) (0 : Int32) = some (.inr (0 : Int32), M1) := hc1
  refine kL_7R C hml hl.1 (c_X4_makeCollection hlf hc1) ⟨Nat.le_of_ble_eq_true rfl, Nat.le_of_ble_eq_true rfl⟩ ⟨by show _ ≤ 4189; omega, by show _ ≤ 25467; omega⟩ (Nat.le_of_ble_eq_true rfl) hS hW dL_partly_279 (fun H locs hW hS => ?_)
  refine lv_if_eq (tgt := 287) hx hb dL_partly_282 (by decide) (fun _ => ?_) (fun c => absurd (by decide) c)
  exact t_partly_46 C hml hr hlk hlf h1 hS hW (lv_sub hl [0, 1] rfl) ⟨by omega, by omega⟩
set_option maxHeartbeats 4000000 in
set_option maxRecDepth 100000 in
theorem t_partly_44 {p : Program} {l : Launch} {e : Env} {s : State} {m : MethodId} {args : Array Value} {below : List Frame} {meth : Method} {c : Code} {Z : Zt} {b : Nat} (C : Cx p s m args c cL_partly RL Z b) (hml : c.maxLocals = 2) (hr : meth.sig.returnType = some .boolean) (hlk : meth.locks = false) (hlf : l.stackTraces = false) {M : Mem} (h : RS M V106) {H : Heap} {locs : List Loc} {ls : Array Slot} {cells slots : Nat} (hS : va_S (A0 b) s.heap H locs) (hW : Wd Z b M H) (hl : lv_has ls 2 [(1, .int (43 : Int32)), (0, .ref (b + 0))]) (hcs : cells + 2080 ≤ 4189 ∧ slots + 12480 ≤ 25467) : W p l e rm_L_partly s m args below meth c H locs cells slots (MQ below (QT b) args s 4189 25467 (A0 b)) (F0 m 287 ls []) := by
  have hx := C.1
  have hb := C.2.1
  refine lv_iinc (v := (44 : Int32)) (lv' := [(1, .int (44 : Int32)), (0, .ref (b + 0))]) hx hb dL_partly_287 hl (k := 0) rfl (by decide) (by decide) rfl (fun ls hl => ?_)
  refine lv_goto (tgt := 238) hx hb dL_partly_290 (by decide) ?_
  refine lv_iload_n hx hb dL_partly_238 rfl (lv_at hl 0 rfl) ?_
  refine lv_bipush (v := (61 : Int32)) hx hb dL_partly_239 (by decide) ?_
  refine lv_icmp_ge (tgt := 293) hx hb dL_partly_241 (by decide) (fun c => absurd c (by decide)) (fun _ => ?_)
  refine lv_aload_n hx hb dL_partly_244 rfl (lv_at hl 1 rfl) ?_
  refine lv_iconst (v := (0 : Int32)) hx hb dL_partly_245 (by decide) ?_
  refine lv_iload_n hx hb dL_partly_246 rfl (lv_at hl 0 rfl) ?_
  refine lv_bipush (v := (10 : Int32)) hx hb dL_partly_247 (by decide) ?_
  refine lv_icmp_ge (tgt := 256) hx hb dL_partly_249 (by decide) (fun _ => ?_) (fun c => absurd (by decide) c)
  refine lv_bipush (v := (10 : Int32)) hx hb dL_partly_256 (by decide) ?_
  refine lv_iload_n hx hb dL_partly_258 rfl (lv_at hl 0 rfl) ?_
  refine lv_bipush (v := (10 : Int32)) hx hb dL_partly_259 (by decide) ?_
  refine lv_isub hx hb dL_partly_261 ?_
  refine W.eq (g2 := F0 m 262 ls [.int (34 : Int32), .int (10 : Int32), .int (0 : Int32), .ref (b + 0)]) (congrArg (fun v => F0 m 262 ls (.int v :: [.int (10 : Int32), .int (0 : Int32), .ref (b + 0)])) (show (44 : Int32) - (10 : Int32) = (34 : Int32) by decide)) ?_
  refine lv_bipush (v := (9 : Int32)) hx hb dL_partly_262 (by decide) ?_
  refine lv_idiv hx hb dL_partly_264 (by decide) ?_
  refine W.eq (g2 := F0 m 265 ls [.int (3 : Int32), .int (10 : Int32), .int (0 : Int32), .ref (b + 0)]) (congrArg (fun v => F0 m 265 ls (.int v :: [.int (10 : Int32), .int (0 : Int32), .ref (b + 0)])) (show (34 : Int32) / (9 : Int32) = (3 : Int32) by decide)) ?_
  refine lv_iconst (v := (1 : Int32)) hx hb dL_partly_265 (by decide) ?_
  refine lv_iadd hx hb dL_partly_266 ?_
  refine W.eq (g2 := F0 m 267 ls [.int (4 : Int32), .int (10 : Int32), .int (0 : Int32), .ref (b + 0)]) (congrArg (fun v => F0 m 267 ls (.int v :: [.int (10 : Int32), .int (0 : Int32), .ref (b + 0)])) (show (3 : Int32) + (1 : Int32) = (4 : Int32) by decide)) ?_
  refine lv_imul hx hb dL_partly_267 ?_
  refine W.eq (g2 := F0 m 268 ls [.int (40 : Int32), .int (0 : Int32), .ref (b + 0)]) (congrArg (fun v => F0 m 268 ls (.int v :: [.int (0 : Int32), .ref (b + 0)])) (show (10 : Int32) * (4 : Int32) = (40 : Int32) by decide)) ?_
  refine lv_iload_n hx hb dL_partly_268 rfl (lv_at hl 0 rfl) ?_
  refine lv_bipush (v := (10 : Int32)) hx hb dL_partly_269 (by decide) ?_
  refine lv_isub hx hb dL_partly_271 ?_
  refine W.eq (g2 := F0 m 272 ls [.int (34 : Int32), .int (40 : Int32), .int (0 : Int32), .ref (b + 0)]) (congrArg (fun v => F0 m 272 ls (.int v :: [.int (40 : Int32), .int (0 : Int32), .ref (b + 0)])) (show (44 : Int32) - (10 : Int32) = (34 : Int32) by decide)) ?_
  refine lv_bipush (v := (9 : Int32)) hx hb dL_partly_272 (by decide) ?_
  refine lv_irem hx hb dL_partly_274 (by decide) ?_
  refine W.eq (g2 := F0 m 275 ls [.int (7 : Int32), .int (40 : Int32), .int (0 : Int32), .ref (b + 0)]) (congrArg (fun v => F0 m 275 ls (.int v :: [.int (40 : Int32), .int (0 : Int32), .ref (b + 0)])) (show (34 : Int32) - (34 : Int32) / (9 : Int32) * (9 : Int32) = (7 : Int32) by decide)) ?_
  refine lv_iadd hx hb dL_partly_275 ?_
  refine W.eq (g2 := F0 m 276 ls [.int (47 : Int32), .int (0 : Int32), .ref (b + 0)]) (congrArg (fun v => F0 m 276 ls (.int v :: [.int (0 : Int32), .ref (b + 0)])) (show (40 : Int32) + (7 : Int32) = (47 : Int32) by decide)) ?_
  refine lv_iconst (v := (1 : Int32)) hx hb dL_partly_276 (by decide) ?_
  refine lv_iadd hx hb dL_partly_277 ?_
  refine W.eq (g2 := F0 m 278 ls [.int (48 : Int32), .int (0 : Int32), .ref (b + 0)]) (congrArg (fun v => F0 m 278 ls (.int v :: [.int (0 : Int32), .ref (b + 0)])) (show (47 : Int32) + (1 : Int32) = (48 : Int32) by decide)) ?_
  refine lv_iconst (v := (0 : Int32)) hx hb dL_partly_278 (by decide) ?_
  obtain ⟨M1, hc1, h1⟩ := s_mk V107 (0 : Int32) (c := (0 : Int32)) (x := (48 : Int32)) (tks := (0 : Int32)) h (by decide +kernel)
  have hc1 : f_X4_makeCollection M (0 : Int32) (48 : Int32) (0 : Int32) = some (.inr (0 : Int32), M1) := hc1
  refine kL_7R C hml hl.1 (c_X4_makeCollection hlf hc1) ⟨Nat.le_of_ble_eq_true rfl, Nat.le_of_ble_eq_true rfl⟩ ⟨by show _ ≤ 4189; omega, by show _ ≤ 25467; omega⟩ (Nat.le_of_ble_eq_true rfl) hS hW dL_partly_279 (fun H locs hW hS => ?_)
  refine lv_if_eq (tgt := 287) hx hb dL_partly_282 (by decide) (fun _ => ?_) (fun c => absurd (by decide) c)
  exact t_partly_45 C hml hr hlk hlf h1 hS hW (lv_sub hl [0, 1] rfl) ⟨by omega, by omega⟩
set_option maxHeartbeats 4000000 in
set_option maxRecDepth 100000 in
theorem t_partly_43 {p : Program} {l : Launch} {e : Env} {s : State} {m : MethodId} {args : Array Value} {below : List Frame} {meth : Method} {c : Code} {Z : Zt} {b : Nat} (C : Cx p s m args c cL_partly RL Z b) (hml : c.maxLocals = 2) (hr : meth.sig.returnType = some .boolean) (hlk : meth.locks = false) (hlf : l.stackTraces = false) {M : Mem} (h : RS M V105) {H : Heap} {locs : List Loc} {ls : Array Slot} {cells slots : Nat} (hS : va_S (A0 b) s.heap H locs) (hW : Wd Z b M H) (hl : lv_has ls 2 [(1, .int (42 : Int32)), (0, .ref (b + 0))]) (hcs : cells + 2084 ≤ 4189 ∧ slots + 12504 ≤ 25467) : W p l e rm_L_partly s m args below meth c H locs cells slots (MQ below (QT b) args s 4189 25467 (A0 b)) (F0 m 287 ls []) := by
  have hx := C.1
  have hb := C.2.1
  refine lv_iinc (v := (43 : Int32)) (lv' := [(1, .int (43 : Int32)), (0, .ref (b + 0))]) hx hb dL_partly_287 hl (k := 0) rfl (by decide) (by decide) rfl (fun ls hl => ?_)
  refine lv_goto (tgt := 238) hx hb dL_partly_290 (by decide) ?_
  refine lv_iload_n hx hb dL_partly_238 rfl (lv_at hl 0 rfl) ?_
  refine lv_bipush (v := (61 : Int32)) hx hb dL_partly_239 (by decide) ?_
  refine lv_icmp_ge (tgt := 293) hx hb dL_partly_241 (by decide) (fun c => absurd c (by decide)) (fun _ => ?_)
  refine lv_aload_n hx hb dL_partly_244 rfl (lv_at hl 1 rfl) ?_
  refine lv_iconst (v := (0 : Int32)) hx hb dL_partly_245 (by decide) ?_
  refine lv_iload_n hx hb dL_partly_246 rfl (lv_at hl 0 rfl) ?_
  refine lv_bipush (v := (10 : Int32)) hx hb dL_partly_247 (by decide) ?_
  refine lv_icmp_ge (tgt := 256) hx hb dL_partly_249 (by decide) (fun _ => ?_) (fun c => absurd (by decide) c)
  refine lv_bipush (v := (10 : Int32)) hx hb dL_partly_256 (by decide) ?_
  refine lv_iload_n hx hb dL_partly_258 rfl (lv_at hl 0 rfl) ?_
  refine lv_bipush (v := (10 : Int32)) hx hb dL_partly_259 (by decide) ?_
  refine lv_isub hx hb dL_partly_261 ?_
  refine W.eq (g2 := F0 m 262 ls [.int (33 : Int32), .int (10 : Int32), .int (0 : Int32), .ref (b + 0)]) (congrArg (fun v => F0 m 262 ls (.int v :: [.int (10 : Int32), .int (0 : Int32), .ref (b + 0)])) (show (43 : Int32) - (10 : Int32) = (33 : Int32) by decide)) ?_
  refine lv_bipush (v := (9 : Int32)) hx hb dL_partly_262 (by decide) ?_
  refine lv_idiv hx hb dL_partly_264 (by decide) ?_
  refine W.eq (g2 := F0 m 265 ls [.int (3 : Int32), .int (10 : Int32), .int (0 : Int32), .ref (b + 0)]) (congrArg (fun v => F0 m 265 ls (.int v :: [.int (10 : Int32), .int (0 : Int32), .ref (b + 0)])) (show (33 : Int32) / (9 : Int32) = (3 : Int32) by decide)) ?_
  refine lv_iconst (v := (1 : Int32)) hx hb dL_partly_265 (by decide) ?_
  refine lv_iadd hx hb dL_partly_266 ?_
  refine W.eq (g2 := F0 m 267 ls [.int (4 : Int32), .int (10 : Int32), .int (0 : Int32), .ref (b + 0)]) (congrArg (fun v => F0 m 267 ls (.int v :: [.int (10 : Int32), .int (0 : Int32), .ref (b + 0)])) (show (3 : Int32) + (1 : Int32) = (4 : Int32) by decide)) ?_
  refine lv_imul hx hb dL_partly_267 ?_
  refine W.eq (g2 := F0 m 268 ls [.int (40 : Int32), .int (0 : Int32), .ref (b + 0)]) (congrArg (fun v => F0 m 268 ls (.int v :: [.int (0 : Int32), .ref (b + 0)])) (show (10 : Int32) * (4 : Int32) = (40 : Int32) by decide)) ?_
  refine lv_iload_n hx hb dL_partly_268 rfl (lv_at hl 0 rfl) ?_
  refine lv_bipush (v := (10 : Int32)) hx hb dL_partly_269 (by decide) ?_
  refine lv_isub hx hb dL_partly_271 ?_
  refine W.eq (g2 := F0 m 272 ls [.int (33 : Int32), .int (40 : Int32), .int (0 : Int32), .ref (b + 0)]) (congrArg (fun v => F0 m 272 ls (.int v :: [.int (40 : Int32), .int (0 : Int32), .ref (b + 0)])) (show (43 : Int32) - (10 : Int32) = (33 : Int32) by decide)) ?_
  refine lv_bipush (v := (9 : Int32)) hx hb dL_partly_272 (by decide) ?_
  refine lv_irem hx hb dL_partly_274 (by decide) ?_
  refine W.eq (g2 := F0 m 275 ls [.int (6 : Int32), .int (40 : Int32), .int (0 : Int32), .ref (b + 0)]) (congrArg (fun v => F0 m 275 ls (.int v :: [.int (40 : Int32), .int (0 : Int32), .ref (b + 0)])) (show (33 : Int32) - (33 : Int32) / (9 : Int32) * (9 : Int32) = (6 : Int32) by decide)) ?_
  refine lv_iadd hx hb dL_partly_275 ?_
  refine W.eq (g2 := F0 m 276 ls [.int (46 : Int32), .int (0 : Int32), .ref (b + 0)]) (congrArg (fun v => F0 m 276 ls (.int v :: [.int (0 : Int32), .ref (b + 0)])) (show (40 : Int32) + (6 : Int32) = (46 : Int32) by decide)) ?_
  refine lv_iconst (v := (1 : Int32)) hx hb dL_partly_276 (by decide) ?_
  refine lv_iadd hx hb dL_partly_277 ?_
  refine W.eq (g2 := F0 m 278 ls [.int (47 : Int32), .int (0 : Int32), .ref (b + 0)]) (congrArg (fun v => F0 m 278 ls (.int v :: [.int (0 : Int32), .ref (b + 0)])) (show (46 : Int32) + (1 : Int32) = (47 : Int32) by decide)) ?_
  refine lv_iconst (v := (0 : Int32)) hx hb dL_partly_278 (by decide) ?_
  obtain ⟨M1, hc1, h1⟩ := s_mk V106 (0 : Int32) (c := (0 : Int32)) (x := (47 : Int32)) (tks := (0 : Int32)) h (by decide +kernel)
  have hc1 : f_X4_makeCollection M (0 : Int32) (47 : Int32) (0 : Int32) = some (.inr (0 : Int32), M1) := hc1
  refine kL_7R C hml hl.1 (c_X4_makeCollection hlf hc1) ⟨Nat.le_of_ble_eq_true rfl, Nat.le_of_ble_eq_true rfl⟩ ⟨by show _ ≤ 4189; omega, by show _ ≤ 25467; omega⟩ (Nat.le_of_ble_eq_true rfl) hS hW dL_partly_279 (fun H locs hW hS => ?_)
  refine lv_if_eq (tgt := 287) hx hb dL_partly_282 (by decide) (fun _ => ?_) (fun c => absurd (by decide) c)
  exact t_partly_44 C hml hr hlk hlf h1 hS hW (lv_sub hl [0, 1] rfl) ⟨by omega, by omega⟩
set_option maxHeartbeats 4000000 in
set_option maxRecDepth 100000 in
theorem t_partly_42 {p : Program} {l : Launch} {e : Env} {s : State} {m : MethodId} {args : Array Value} {below : List Frame} {meth : Method} {c : Code} {Z : Zt} {b : Nat} (C : Cx p s m args c cL_partly RL Z b) (hml : c.maxLocals = 2) (hr : meth.sig.returnType = some .boolean) (hlk : meth.locks = false) (hlf : l.stackTraces = false) {M : Mem} (h : RS M V104) {H : Heap} {locs : List Loc} {ls : Array Slot} {cells slots : Nat} (hS : va_S (A0 b) s.heap H locs) (hW : Wd Z b M H) (hl : lv_has ls 2 [(1, .int (41 : Int32)), (0, .ref (b + 0))]) (hcs : cells + 2088 ≤ 4189 ∧ slots + 12528 ≤ 25467) : W p l e rm_L_partly s m args below meth c H locs cells slots (MQ below (QT b) args s 4189 25467 (A0 b)) (F0 m 287 ls []) := by
  have hx := C.1
  have hb := C.2.1
  refine lv_iinc (v := (42 : Int32)) (lv' := [(1, .int (42 : Int32)), (0, .ref (b + 0))]) hx hb dL_partly_287 hl (k := 0) rfl (by decide) (by decide) rfl (fun ls hl => ?_)
  refine lv_goto (tgt := 238) hx hb dL_partly_290 (by decide) ?_
  refine lv_iload_n hx hb dL_partly_238 rfl (lv_at hl 0 rfl) ?_
  refine lv_bipush (v := (61 : Int32)) hx hb dL_partly_239 (by decide) ?_
  refine lv_icmp_ge (tgt := 293) hx hb dL_partly_241 (by decide) (fun c => absurd c (by decide)) (fun _ => ?_)
  refine lv_aload_n hx hb dL_partly_244 rfl (lv_at hl 1 rfl) ?_
  refine lv_iconst (v := (0 : Int32)) hx hb dL_partly_245 (by decide) ?_
  refine lv_iload_n hx hb dL_partly_246 rfl (lv_at hl 0 rfl) ?_
  refine lv_bipush (v := (10 : Int32)) hx hb dL_partly_247 (by decide) ?_
  refine lv_icmp_ge (tgt := 256) hx hb dL_partly_249 (by decide) (fun _ => ?_) (fun c => absurd (by decide) c)
  refine lv_bipush (v := (10 : Int32)) hx hb dL_partly_256 (by decide) ?_
  refine lv_iload_n hx hb dL_partly_258 rfl (lv_at hl 0 rfl) ?_
  refine lv_bipush (v := (10 : Int32)) hx hb dL_partly_259 (by decide) ?_
  refine lv_isub hx hb dL_partly_261 ?_
  refine W.eq (g2 := F0 m 262 ls [.int (32 : Int32), .int (10 : Int32), .int (0 : Int32), .ref (b + 0)]) (congrArg (fun v => F0 m 262 ls (.int v :: [.int (10 : Int32), .int (0 : Int32), .ref (b + 0)])) (show (42 : Int32) - (10 : Int32) = (32 : Int32) by decide)) ?_
  refine lv_bipush (v := (9 : Int32)) hx hb dL_partly_262 (by decide) ?_
  refine lv_idiv hx hb dL_partly_264 (by decide) ?_
  refine W.eq (g2 := F0 m 265 ls [.int (3 : Int32), .int (10 : Int32), .int (0 : Int32), .ref (b + 0)]) (congrArg (fun v => F0 m 265 ls (.int v :: [.int (10 : Int32), .int (0 : Int32), .ref (b + 0)])) (show (32 : Int32) / (9 : Int32) = (3 : Int32) by decide)) ?_
  refine lv_iconst (v := (1 : Int32)) hx hb dL_partly_265 (by decide) ?_
  refine lv_iadd hx hb dL_partly_266 ?_
  refine W.eq (g2 := F0 m 267 ls [.int (4 : Int32), .int (10 : Int32), .int (0 : Int32), .ref (b + 0)]) (congrArg (fun v => F0 m 267 ls (.int v :: [.int (10 : Int32), .int (0 : Int32), .ref (b + 0)])) (show (3 : Int32) + (1 : Int32) = (4 : Int32) by decide)) ?_
  refine lv_imul hx hb dL_partly_267 ?_
  refine W.eq (g2 := F0 m 268 ls [.int (40 : Int32), .int (0 : Int32), .ref (b + 0)]) (congrArg (fun v => F0 m 268 ls (.int v :: [.int (0 : Int32), .ref (b + 0)])) (show (10 : Int32) * (4 : Int32) = (40 : Int32) by decide)) ?_
  refine lv_iload_n hx hb dL_partly_268 rfl (lv_at hl 0 rfl) ?_
  refine lv_bipush (v := (10 : Int32)) hx hb dL_partly_269 (by decide) ?_
  refine lv_isub hx hb dL_partly_271 ?_
  refine W.eq (g2 := F0 m 272 ls [.int (32 : Int32), .int (40 : Int32), .int (0 : Int32), .ref (b + 0)]) (congrArg (fun v => F0 m 272 ls (.int v :: [.int (40 : Int32), .int (0 : Int32), .ref (b + 0)])) (show (42 : Int32) - (10 : Int32) = (32 : Int32) by decide)) ?_
  refine lv_bipush (v := (9 : Int32)) hx hb dL_partly_272 (by decide) ?_
  refine lv_irem hx hb dL_partly_274 (by decide) ?_
  refine W.eq (g2 := F0 m 275 ls [.int (5 : Int32), .int (40 : Int32), .int (0 : Int32), .ref (b + 0)]) (congrArg (fun v => F0 m 275 ls (.int v :: [.int (40 : Int32), .int (0 : Int32), .ref (b + 0)])) (show (32 : Int32) - (32 : Int32) / (9 : Int32) * (9 : Int32) = (5 : Int32) by decide)) ?_
  refine lv_iadd hx hb dL_partly_275 ?_
  refine W.eq (g2 := F0 m 276 ls [.int (45 : Int32), .int (0 : Int32), .ref (b + 0)]) (congrArg (fun v => F0 m 276 ls (.int v :: [.int (0 : Int32), .ref (b + 0)])) (show (40 : Int32) + (5 : Int32) = (45 : Int32) by decide)) ?_
  refine lv_iconst (v := (1 : Int32)) hx hb dL_partly_276 (by decide) ?_
  refine lv_iadd hx hb dL_partly_277 ?_
  refine W.eq (g2 := F0 m 278 ls [.int (46 : Int32), .int (0 : Int32), .ref (b + 0)]) (congrArg (fun v => F0 m 278 ls (.int v :: [.int (0 : Int32), .ref (b + 0)])) (show (45 : Int32) + (1 : Int32) = (46 : Int32) by decide)) ?_
  refine lv_iconst (v := (0 : Int32)) hx hb dL_partly_278 (by decide) ?_
  obtain ⟨M1, hc1, h1⟩ := s_mk V105 (0 : Int32) (c := (0 : Int32)) (x := (46 : Int32)) (tks := (0 : Int32)) h (by decide +kernel)
  have hc1 : f_X4_makeCollection M (0 : Int32) (46 : Int32) (0 : Int32) = some (.inr (0 : Int32), M1) := hc1
  refine kL_7R C hml hl.1 (c_X4_makeCollection hlf hc1) ⟨Nat.le_of_ble_eq_true rfl, Nat.le_of_ble_eq_true rfl⟩ ⟨by show _ ≤ 4189; omega, by show _ ≤ 25467; omega⟩ (Nat.le_of_ble_eq_true rfl) hS hW dL_partly_279 (fun H locs hW hS => ?_)
  refine lv_if_eq (tgt := 287) hx hb dL_partly_282 (by decide) (fun _ => ?_) (fun c => absurd (by decide) c)
  exact t_partly_43 C hml hr hlk hlf h1 hS hW (lv_sub hl [0, 1] rfl) ⟨by omega, by omega⟩
set_option maxHeartbeats 4000000 in
set_option maxRecDepth 100000 in
theorem t_partly_41 {p : Program} {l : Launch} {e : Env} {s : State} {m : MethodId} {args : Array Value} {below : List Frame} {meth : Method} {c : Code} {Z : Zt} {b : Nat} (C : Cx p s m args c cL_partly RL Z b) (hml : c.maxLocals = 2) (hr : meth.sig.returnType = some .boolean) (hlk : meth.locks = false) (hlf : l.stackTraces = false) {M : Mem} (h : RS M V103) {H : Heap} {locs : List Loc} {ls : Array Slot} {cells slots : Nat} (hS : va_S (A0 b) s.heap H locs) (hW : Wd Z b M H) (hl : lv_has ls 2 [(1, .int (40 : Int32)), (0, .ref (b + 0))]) (hcs : cells + 2092 ≤ 4189 ∧ slots + 12552 ≤ 25467) : W p l e rm_L_partly s m args below meth c H locs cells slots (MQ below (QT b) args s 4189 25467 (A0 b)) (F0 m 287 ls []) := by
  have hx := C.1
  have hb := C.2.1
  refine lv_iinc (v := (41 : Int32)) (lv' := [(1, .int (41 : Int32)), (0, .ref (b + 0))]) hx hb dL_partly_287 hl (k := 0) rfl (by decide) (by decide) rfl (fun ls hl => ?_)
  refine lv_goto (tgt := 238) hx hb dL_partly_290 (by decide) ?_
  refine lv_iload_n hx hb dL_partly_238 rfl (lv_at hl 0 rfl) ?_
  refine lv_bipush (v := (61 : Int32)) hx hb dL_partly_239 (by decide) ?_
  refine lv_icmp_ge (tgt := 293) hx hb dL_partly_241 (by decide) (fun c => absurd c (by decide)) (fun _ => ?_)
  refine lv_aload_n hx hb dL_partly_244 rfl (lv_at hl 1 rfl) ?_
  refine lv_iconst (v := (0 : Int32)) hx hb dL_partly_245 (by decide) ?_
  refine lv_iload_n hx hb dL_partly_246 rfl (lv_at hl 0 rfl) ?_
  refine lv_bipush (v := (10 : Int32)) hx hb dL_partly_247 (by decide) ?_
  refine lv_icmp_ge (tgt := 256) hx hb dL_partly_249 (by decide) (fun _ => ?_) (fun c => absurd (by decide) c)
  refine lv_bipush (v := (10 : Int32)) hx hb dL_partly_256 (by decide) ?_
  refine lv_iload_n hx hb dL_partly_258 rfl (lv_at hl 0 rfl) ?_
  refine lv_bipush (v := (10 : Int32)) hx hb dL_partly_259 (by decide) ?_
  refine lv_isub hx hb dL_partly_261 ?_
  refine W.eq (g2 := F0 m 262 ls [.int (31 : Int32), .int (10 : Int32), .int (0 : Int32), .ref (b + 0)]) (congrArg (fun v => F0 m 262 ls (.int v :: [.int (10 : Int32), .int (0 : Int32), .ref (b + 0)])) (show (41 : Int32) - (10 : Int32) = (31 : Int32) by decide)) ?_
  refine lv_bipush (v := (9 : Int32)) hx hb dL_partly_262 (by decide) ?_
  refine lv_idiv hx hb dL_partly_264 (by decide) ?_
  refine W.eq (g2 := F0 m 265 ls [.int (3 : Int32), .int (10 : Int32), .int (0 : Int32), .ref (b + 0)]) (congrArg (fun v => F0 m 265 ls (.int v :: [.int (10 : Int32), .int (0 : Int32), .ref (b + 0)])) (show (31 : Int32) / (9 : Int32) = (3 : Int32) by decide)) ?_
  refine lv_iconst (v := (1 : Int32)) hx hb dL_partly_265 (by decide) ?_
  refine lv_iadd hx hb dL_partly_266 ?_
  refine W.eq (g2 := F0 m 267 ls [.int (4 : Int32), .int (10 : Int32), .int (0 : Int32), .ref (b + 0)]) (congrArg (fun v => F0 m 267 ls (.int v :: [.int (10 : Int32), .int (0 : Int32), .ref (b + 0)])) (show (3 : Int32) + (1 : Int32) = (4 : Int32) by decide)) ?_
  refine lv_imul hx hb dL_partly_267 ?_
  refine W.eq (g2 := F0 m 268 ls [.int (40 : Int32), .int (0 : Int32), .ref (b + 0)]) (congrArg (fun v => F0 m 268 ls (.int v :: [.int (0 : Int32), .ref (b + 0)])) (show (10 : Int32) * (4 : Int32) = (40 : Int32) by decide)) ?_
  refine lv_iload_n hx hb dL_partly_268 rfl (lv_at hl 0 rfl) ?_
  refine lv_bipush (v := (10 : Int32)) hx hb dL_partly_269 (by decide) ?_
  refine lv_isub hx hb dL_partly_271 ?_
  refine W.eq (g2 := F0 m 272 ls [.int (31 : Int32), .int (40 : Int32), .int (0 : Int32), .ref (b + 0)]) (congrArg (fun v => F0 m 272 ls (.int v :: [.int (40 : Int32), .int (0 : Int32), .ref (b + 0)])) (show (41 : Int32) - (10 : Int32) = (31 : Int32) by decide)) ?_
  refine lv_bipush (v := (9 : Int32)) hx hb dL_partly_272 (by decide) ?_
  refine lv_irem hx hb dL_partly_274 (by decide) ?_
  refine W.eq (g2 := F0 m 275 ls [.int (4 : Int32), .int (40 : Int32), .int (0 : Int32), .ref (b + 0)]) (congrArg (fun v => F0 m 275 ls (.int v :: [.int (40 : Int32), .int (0 : Int32), .ref (b + 0)])) (show (31 : Int32) - (31 : Int32) / (9 : Int32) * (9 : Int32) = (4 : Int32) by decide)) ?_
  refine lv_iadd hx hb dL_partly_275 ?_
  refine W.eq (g2 := F0 m 276 ls [.int (44 : Int32), .int (0 : Int32), .ref (b + 0)]) (congrArg (fun v => F0 m 276 ls (.int v :: [.int (0 : Int32), .ref (b + 0)])) (show (40 : Int32) + (4 : Int32) = (44 : Int32) by decide)) ?_
  refine lv_iconst (v := (1 : Int32)) hx hb dL_partly_276 (by decide) ?_
  refine lv_iadd hx hb dL_partly_277 ?_
  refine W.eq (g2 := F0 m 278 ls [.int (45 : Int32), .int (0 : Int32), .ref (b + 0)]) (congrArg (fun v => F0 m 278 ls (.int v :: [.int (0 : Int32), .ref (b + 0)])) (show (44 : Int32) + (1 : Int32) = (45 : Int32) by decide)) ?_
  refine lv_iconst (v := (0 : Int32)) hx hb dL_partly_278 (by decide) ?_
  obtain ⟨M1, hc1, h1⟩ := s_mk V104 (0 : Int32) (c := (0 : Int32)) (x := (45 : Int32)) (tks := (0 : Int32)) h (by decide +kernel)
  have hc1 : f_X4_makeCollection M (0 : Int32) (45 : Int32) (0 : Int32) = some (.inr (0 : Int32), M1) := hc1
  refine kL_7R C hml hl.1 (c_X4_makeCollection hlf hc1) ⟨Nat.le_of_ble_eq_true rfl, Nat.le_of_ble_eq_true rfl⟩ ⟨by show _ ≤ 4189; omega, by show _ ≤ 25467; omega⟩ (Nat.le_of_ble_eq_true rfl) hS hW dL_partly_279 (fun H locs hW hS => ?_)
  refine lv_if_eq (tgt := 287) hx hb dL_partly_282 (by decide) (fun _ => ?_) (fun c => absurd (by decide) c)
  exact t_partly_42 C hml hr hlk hlf h1 hS hW (lv_sub hl [0, 1] rfl) ⟨by omega, by omega⟩
set_option maxHeartbeats 4000000 in
set_option maxRecDepth 100000 in
theorem t_partly_40 {p : Program} {l : Launch} {e : Env} {s : State} {m : MethodId} {args : Array Value} {below : List Frame} {meth : Method} {c : Code} {Z : Zt} {b : Nat} (C : Cx p s m args c cL_partly RL Z b) (hml : c.maxLocals = 2) (hr : meth.sig.returnType = some .boolean) (hlk : meth.locks = false) (hlf : l.stackTraces = false) {M : Mem} (h : RS M V102) {H : Heap} {locs : List Loc} {ls : Array Slot} {cells slots : Nat} (hS : va_S (A0 b) s.heap H locs) (hW : Wd Z b M H) (hl : lv_has ls 2 [(1, .int (39 : Int32)), (0, .ref (b + 0))]) (hcs : cells + 2096 ≤ 4189 ∧ slots + 12576 ≤ 25467) : W p l e rm_L_partly s m args below meth c H locs cells slots (MQ below (QT b) args s 4189 25467 (A0 b)) (F0 m 287 ls []) := by
  have hx := C.1
  have hb := C.2.1
  refine lv_iinc (v := (40 : Int32)) (lv' := [(1, .int (40 : Int32)), (0, .ref (b + 0))]) hx hb dL_partly_287 hl (k := 0) rfl (by decide) (by decide) rfl (fun ls hl => ?_)
  refine lv_goto (tgt := 238) hx hb dL_partly_290 (by decide) ?_
  refine lv_iload_n hx hb dL_partly_238 rfl (lv_at hl 0 rfl) ?_
  refine lv_bipush (v := (61 : Int32)) hx hb dL_partly_239 (by decide) ?_
  refine lv_icmp_ge (tgt := 293) hx hb dL_partly_241 (by decide) (fun c => absurd c (by decide)) (fun _ => ?_)
  refine lv_aload_n hx hb dL_partly_244 rfl (lv_at hl 1 rfl) ?_
  refine lv_iconst (v := (0 : Int32)) hx hb dL_partly_245 (by decide) ?_
  refine lv_iload_n hx hb dL_partly_246 rfl (lv_at hl 0 rfl) ?_
  refine lv_bipush (v := (10 : Int32)) hx hb dL_partly_247 (by decide) ?_
  refine lv_icmp_ge (tgt := 256) hx hb dL_partly_249 (by decide) (fun _ => ?_) (fun c => absurd (by decide) c)
  refine lv_bipush (v := (10 : Int32)) hx hb dL_partly_256 (by decide) ?_
  refine lv_iload_n hx hb dL_partly_258 rfl (lv_at hl 0 rfl) ?_
  refine lv_bipush (v := (10 : Int32)) hx hb dL_partly_259 (by decide) ?_
  refine lv_isub hx hb dL_partly_261 ?_
  refine W.eq (g2 := F0 m 262 ls [.int (30 : Int32), .int (10 : Int32), .int (0 : Int32), .ref (b + 0)]) (congrArg (fun v => F0 m 262 ls (.int v :: [.int (10 : Int32), .int (0 : Int32), .ref (b + 0)])) (show (40 : Int32) - (10 : Int32) = (30 : Int32) by decide)) ?_
  refine lv_bipush (v := (9 : Int32)) hx hb dL_partly_262 (by decide) ?_
  refine lv_idiv hx hb dL_partly_264 (by decide) ?_
  refine W.eq (g2 := F0 m 265 ls [.int (3 : Int32), .int (10 : Int32), .int (0 : Int32), .ref (b + 0)]) (congrArg (fun v => F0 m 265 ls (.int v :: [.int (10 : Int32), .int (0 : Int32), .ref (b + 0)])) (show (30 : Int32) / (9 : Int32) = (3 : Int32) by decide)) ?_
  refine lv_iconst (v := (1 : Int32)) hx hb dL_partly_265 (by decide) ?_
  refine lv_iadd hx hb dL_partly_266 ?_
  refine W.eq (g2 := F0 m 267 ls [.int (4 : Int32), .int (10 : Int32), .int (0 : Int32), .ref (b + 0)]) (congrArg (fun v => F0 m 267 ls (.int v :: [.int (10 : Int32), .int (0 : Int32), .ref (b + 0)])) (show (3 : Int32) + (1 : Int32) = (4 : Int32) by decide)) ?_
  refine lv_imul hx hb dL_partly_267 ?_
  refine W.eq (g2 := F0 m 268 ls [.int (40 : Int32), .int (0 : Int32), .ref (b + 0)]) (congrArg (fun v => F0 m 268 ls (.int v :: [.int (0 : Int32), .ref (b + 0)])) (show (10 : Int32) * (4 : Int32) = (40 : Int32) by decide)) ?_
  refine lv_iload_n hx hb dL_partly_268 rfl (lv_at hl 0 rfl) ?_
  refine lv_bipush (v := (10 : Int32)) hx hb dL_partly_269 (by decide) ?_
  refine lv_isub hx hb dL_partly_271 ?_
  refine W.eq (g2 := F0 m 272 ls [.int (30 : Int32), .int (40 : Int32), .int (0 : Int32), .ref (b + 0)]) (congrArg (fun v => F0 m 272 ls (.int v :: [.int (40 : Int32), .int (0 : Int32), .ref (b + 0)])) (show (40 : Int32) - (10 : Int32) = (30 : Int32) by decide)) ?_
  refine lv_bipush (v := (9 : Int32)) hx hb dL_partly_272 (by decide) ?_
  refine lv_irem hx hb dL_partly_274 (by decide) ?_
  refine W.eq (g2 := F0 m 275 ls [.int (3 : Int32), .int (40 : Int32), .int (0 : Int32), .ref (b + 0)]) (congrArg (fun v => F0 m 275 ls (.int v :: [.int (40 : Int32), .int (0 : Int32), .ref (b + 0)])) (show (30 : Int32) - (30 : Int32) / (9 : Int32) * (9 : Int32) = (3 : Int32) by decide)) ?_
  refine lv_iadd hx hb dL_partly_275 ?_
  refine W.eq (g2 := F0 m 276 ls [.int (43 : Int32), .int (0 : Int32), .ref (b + 0)]) (congrArg (fun v => F0 m 276 ls (.int v :: [.int (0 : Int32), .ref (b + 0)])) (show (40 : Int32) + (3 : Int32) = (43 : Int32) by decide)) ?_
  refine lv_iconst (v := (1 : Int32)) hx hb dL_partly_276 (by decide) ?_
  refine lv_iadd hx hb dL_partly_277 ?_
  refine W.eq (g2 := F0 m 278 ls [.int (44 : Int32), .int (0 : Int32), .ref (b + 0)]) (congrArg (fun v => F0 m 278 ls (.int v :: [.int (0 : Int32), .ref (b + 0)])) (show (43 : Int32) + (1 : Int32) = (44 : Int32) by decide)) ?_
  refine lv_iconst (v := (0 : Int32)) hx hb dL_partly_278 (by decide) ?_
  obtain ⟨M1, hc1, h1⟩ := s_mk V103 (0 : Int32) (c := (0 : Int32)) (x := (44 : Int32)) (tks := (0 : Int32)) h (by decide +kernel)
  have hc1 : f_X4_makeCollection M (0 : Int32) (44 : Int32) (0 : Int32) = some (.inr (0 : Int32), M1) := hc1
  refine kL_7R C hml hl.1 (c_X4_makeCollection hlf hc1) ⟨Nat.le_of_ble_eq_true rfl, Nat.le_of_ble_eq_true rfl⟩ ⟨by show _ ≤ 4189; omega, by show _ ≤ 25467; omega⟩ (Nat.le_of_ble_eq_true rfl) hS hW dL_partly_279 (fun H locs hW hS => ?_)
  refine lv_if_eq (tgt := 287) hx hb dL_partly_282 (by decide) (fun _ => ?_) (fun c => absurd (by decide) c)
  exact t_partly_41 C hml hr hlk hlf h1 hS hW (lv_sub hl [0, 1] rfl) ⟨by omega, by omega⟩
set_option maxHeartbeats 4000000 in
set_option maxRecDepth 100000 in
theorem t_partly_39 {p : Program} {l : Launch} {e : Env} {s : State} {m : MethodId} {args : Array Value} {below : List Frame} {meth : Method} {c : Code} {Z : Zt} {b : Nat} (C : Cx p s m args c cL_partly RL Z b) (hml : c.maxLocals = 2) (hr : meth.sig.returnType = some .boolean) (hlk : meth.locks = false) (hlf : l.stackTraces = false) {M : Mem} (h : RS M V101) {H : Heap} {locs : List Loc} {ls : Array Slot} {cells slots : Nat} (hS : va_S (A0 b) s.heap H locs) (hW : Wd Z b M H) (hl : lv_has ls 2 [(1, .int (38 : Int32)), (0, .ref (b + 0))]) (hcs : cells + 2100 ≤ 4189 ∧ slots + 12600 ≤ 25467) : W p l e rm_L_partly s m args below meth c H locs cells slots (MQ below (QT b) args s 4189 25467 (A0 b)) (F0 m 287 ls []) := by
  have hx := C.1
  have hb := C.2.1
  refine lv_iinc (v := (39 : Int32)) (lv' := [(1, .int (39 : Int32)), (0, .ref (b + 0))]) hx hb dL_partly_287 hl (k := 0) rfl (by decide) (by decide) rfl (fun ls hl => ?_)
  refine lv_goto (tgt := 238) hx hb dL_partly_290 (by decide) ?_
  refine lv_iload_n hx hb dL_partly_238 rfl (lv_at hl 0 rfl) ?_
  refine lv_bipush (v := (61 : Int32)) hx hb dL_partly_239 (by decide) ?_
  refine lv_icmp_ge (tgt := 293) hx hb dL_partly_241 (by decide) (fun c => absurd c (by decide)) (fun _ => ?_)
  refine lv_aload_n hx hb dL_partly_244 rfl (lv_at hl 1 rfl) ?_
  refine lv_iconst (v := (0 : Int32)) hx hb dL_partly_245 (by decide) ?_
  refine lv_iload_n hx hb dL_partly_246 rfl (lv_at hl 0 rfl) ?_
  refine lv_bipush (v := (10 : Int32)) hx hb dL_partly_247 (by decide) ?_
  refine lv_icmp_ge (tgt := 256) hx hb dL_partly_249 (by decide) (fun _ => ?_) (fun c => absurd (by decide) c)
  refine lv_bipush (v := (10 : Int32)) hx hb dL_partly_256 (by decide) ?_
  refine lv_iload_n hx hb dL_partly_258 rfl (lv_at hl 0 rfl) ?_
  refine lv_bipush (v := (10 : Int32)) hx hb dL_partly_259 (by decide) ?_
  refine lv_isub hx hb dL_partly_261 ?_
  refine W.eq (g2 := F0 m 262 ls [.int (29 : Int32), .int (10 : Int32), .int (0 : Int32), .ref (b + 0)]) (congrArg (fun v => F0 m 262 ls (.int v :: [.int (10 : Int32), .int (0 : Int32), .ref (b + 0)])) (show (39 : Int32) - (10 : Int32) = (29 : Int32) by decide)) ?_
  refine lv_bipush (v := (9 : Int32)) hx hb dL_partly_262 (by decide) ?_
  refine lv_idiv hx hb dL_partly_264 (by decide) ?_
  refine W.eq (g2 := F0 m 265 ls [.int (3 : Int32), .int (10 : Int32), .int (0 : Int32), .ref (b + 0)]) (congrArg (fun v => F0 m 265 ls (.int v :: [.int (10 : Int32), .int (0 : Int32), .ref (b + 0)])) (show (29 : Int32) / (9 : Int32) = (3 : Int32) by decide)) ?_
  refine lv_iconst (v := (1 : Int32)) hx hb dL_partly_265 (by decide) ?_
  refine lv_iadd hx hb dL_partly_266 ?_
  refine W.eq (g2 := F0 m 267 ls [.int (4 : Int32), .int (10 : Int32), .int (0 : Int32), .ref (b + 0)]) (congrArg (fun v => F0 m 267 ls (.int v :: [.int (10 : Int32), .int (0 : Int32), .ref (b + 0)])) (show (3 : Int32) + (1 : Int32) = (4 : Int32) by decide)) ?_
  refine lv_imul hx hb dL_partly_267 ?_
  refine W.eq (g2 := F0 m 268 ls [.int (40 : Int32), .int (0 : Int32), .ref (b + 0)]) (congrArg (fun v => F0 m 268 ls (.int v :: [.int (0 : Int32), .ref (b + 0)])) (show (10 : Int32) * (4 : Int32) = (40 : Int32) by decide)) ?_
  refine lv_iload_n hx hb dL_partly_268 rfl (lv_at hl 0 rfl) ?_
  refine lv_bipush (v := (10 : Int32)) hx hb dL_partly_269 (by decide) ?_
  refine lv_isub hx hb dL_partly_271 ?_
  refine W.eq (g2 := F0 m 272 ls [.int (29 : Int32), .int (40 : Int32), .int (0 : Int32), .ref (b + 0)]) (congrArg (fun v => F0 m 272 ls (.int v :: [.int (40 : Int32), .int (0 : Int32), .ref (b + 0)])) (show (39 : Int32) - (10 : Int32) = (29 : Int32) by decide)) ?_
  refine lv_bipush (v := (9 : Int32)) hx hb dL_partly_272 (by decide) ?_
  refine lv_irem hx hb dL_partly_274 (by decide) ?_
  refine W.eq (g2 := F0 m 275 ls [.int (2 : Int32), .int (40 : Int32), .int (0 : Int32), .ref (b + 0)]) (congrArg (fun v => F0 m 275 ls (.int v :: [.int (40 : Int32), .int (0 : Int32), .ref (b + 0)])) (show (29 : Int32) - (29 : Int32) / (9 : Int32) * (9 : Int32) = (2 : Int32) by decide)) ?_
  refine lv_iadd hx hb dL_partly_275 ?_
  refine W.eq (g2 := F0 m 276 ls [.int (42 : Int32), .int (0 : Int32), .ref (b + 0)]) (congrArg (fun v => F0 m 276 ls (.int v :: [.int (0 : Int32), .ref (b + 0)])) (show (40 : Int32) + (2 : Int32) = (42 : Int32) by decide)) ?_
  refine lv_iconst (v := (1 : Int32)) hx hb dL_partly_276 (by decide) ?_
  refine lv_iadd hx hb dL_partly_277 ?_
  refine W.eq (g2 := F0 m 278 ls [.int (43 : Int32), .int (0 : Int32), .ref (b + 0)]) (congrArg (fun v => F0 m 278 ls (.int v :: [.int (0 : Int32), .ref (b + 0)])) (show (42 : Int32) + (1 : Int32) = (43 : Int32) by decide)) ?_
  refine lv_iconst (v := (0 : Int32)) hx hb dL_partly_278 (by decide) ?_
  obtain ⟨M1, hc1, h1⟩ := s_mk V102 (0 : Int32) (c := (0 : Int32)) (x := (43 : Int32)) (tks := (0 : Int32)) h (by decide +kernel)
  have hc1 : f_X4_makeCollection M (0 : Int32) (43 : Int32) (0 : Int32) = some (.inr (0 : Int32), M1) := hc1
  refine kL_7R C hml hl.1 (c_X4_makeCollection hlf hc1) ⟨Nat.le_of_ble_eq_true rfl, Nat.le_of_ble_eq_true rfl⟩ ⟨by show _ ≤ 4189; omega, by show _ ≤ 25467; omega⟩ (Nat.le_of_ble_eq_true rfl) hS hW dL_partly_279 (fun H locs hW hS => ?_)
  refine lv_if_eq (tgt := 287) hx hb dL_partly_282 (by decide) (fun _ => ?_) (fun c => absurd (by decide) c)
  exact t_partly_40 C hml hr hlk hlf h1 hS hW (lv_sub hl [0, 1] rfl) ⟨by omega, by omega⟩

set_option maxHeartbeats 4000000 in
set_option maxRecDepth 100000 in
theorem t_partly_86 {p : Program} {l : Launch} {e : Env} {s : State} {m : MethodId} {args : Array Value} {below : List Frame} {meth : Method} {c : Code} {Z : Zt} {b : Nat} (C : Cx p s m args c cL_partly RL Z b) (hml : c.maxLocals = 2) (hr : meth.sig.returnType = some .boolean) (hlk : meth.locks = false) (hlf : l.stackTraces = false) {M : Mem} (h : RS M V167) {H : Heap} {locs : List Loc} {ls : Array Slot} {cells slots : Nat} (hS : va_S (A0 b) s.heap H locs) (hW : Wd Z b M H) (hl : lv_has ls 2 [(1, .int (31 : Int32)), (0, .ref (b + 0))]) (hcs : cells + 1712 ≤ 4189 ∧ slots + 10272 ≤ 25467) : W p l e rm_L_partly s m args below meth c H locs cells slots (MQ below (QT b) args s 4189 25467 (A0 b)) (F0 m 652 ls []) := by
  have hx := C.1
  have hb := C.2.1
  refine lv_aload_n hx hb dL_partly_652 rfl (lv_at hl 1 rfl) ?_
  refine kL_92 C hml hl.1 (c_L_refuses hlf h) ⟨Nat.le_of_ble_eq_true rfl, Nat.le_of_ble_eq_true rfl⟩ ⟨by show _ ≤ 4189; omega, by show _ ≤ 25467; omega⟩ (Nat.le_of_ble_eq_true rfl) hS hW dL_partly_653 (fun H locs hW hS => ?_)
  refine lv_if_eq (tgt := 663) hx hb dL_partly_656 (by decide) (fun c => absurd c (by decide)) (fun _ => ?_)
  refine lv_iconst (v := (1 : Int32)) hx hb dL_partly_659 (by decide) ?_
  refine lv_goto (tgt := 664) hx hb dL_partly_660 (by decide) ?_
  exact ret_T C hr hlk hS dL_partly_664 (by omega) (by omega)
set_option maxHeartbeats 4000000 in
set_option maxRecDepth 100000 in
theorem t_partly_85 {p : Program} {l : Launch} {e : Env} {s : State} {m : MethodId} {args : Array Value} {below : List Frame} {meth : Method} {c : Code} {Z : Zt} {b : Nat} (C : Cx p s m args c cL_partly RL Z b) (hml : c.maxLocals = 2) (hr : meth.sig.returnType = some .boolean) (hlk : meth.locks = false) (hlf : l.stackTraces = false) {M : Mem} (h : RS M V166) {H : Heap} {locs : List Loc} {ls : Array Slot} {cells slots : Nat} (hS : va_S (A0 b) s.heap H locs) (hW : Wd Z b M H) (hl : lv_has ls 2 [(1, .int (31 : Int32)), (0, .ref (b + 0))]) (hcs : cells + 1729 ≤ 4189 ∧ slots + 10374 ≤ 25467) : W p l e rm_L_partly s m args below meth c H locs cells slots (MQ below (QT b) args s 4189 25467 (A0 b)) (F0 m 600 ls []) := by
  have hx := C.1
  have hb := C.2.1
  refine lv_aload_n hx hb dL_partly_600 rfl (lv_at hl 1 rfl) ?_
  refine lv_bipush (v := (16 : Int32)) hx hb dL_partly_601 (by decide) ?_
  refine lv_bipush (v := (9 : Int32)) hx hb dL_partly_603 (by decide) ?_
  refine lv_iconst (v := (0 : Int32)) hx hb dL_partly_605 (by decide) ?_
  refine lv_iconst (v := (0 : Int32)) hx hb dL_partly_606 (by decide) ?_
  refine lv_iconst (v := (0 : Int32)) hx hb dL_partly_607 (by decide) ?_
  have hc : f_L_act M (16 : Int32) (9 : Int32) (0 : Int32) (0 : Int32) (0 : Int32) = some ((-9003 : Int32), M) := by rw [act_16]; exact hnd_S (s_keepS h (by decide +kernel))
  refine kL_85 C hml hl.1 (c_L_act hlf hc) ⟨Nat.le_of_ble_eq_true rfl, Nat.le_of_ble_eq_true rfl⟩ ⟨by show _ ≤ 4189; omega, by show _ ≤ 25467; omega⟩ (Nat.le_of_ble_eq_true rfl) hS hW dL_partly_608 (fun H locs hW hS => ?_)
  refine lv_sipush (v := (-9003 : Int32)) hx hb dL_partly_611 (by decide) ?_
  refine lv_icmp_ne (tgt := 663) hx hb dL_partly_614 (by decide) (fun c => absurd (by decide) c) (fun _ => ?_)
  refine lv_aload_n hx hb dL_partly_617 rfl (lv_at hl 1 rfl) ?_
  refine lv_bipush (v := (10 : Int32)) hx hb dL_partly_618 (by decide) ?_
  obtain ⟨M1, hc1, h1⟩ := s_pass V167 (27 : Int32) (x := (10 : Int32)) h (by decide +kernel)
  have hc1 : f_X4_pass M (10 : Int32) = some (.inr (27 : Int32), M1) := hc1
  refine kL_55R C hml hl.1 (c_X4_pass hlf hc1) ⟨Nat.le_of_ble_eq_true rfl, Nat.le_of_ble_eq_true rfl⟩ ⟨by show _ ≤ 4189; omega, by show _ ≤ 25467; omega⟩ (Nat.le_of_ble_eq_true rfl) hS hW dL_partly_620 (fun H locs hW hS => ?_)
  refine lv_bipush (v := (27 : Int32)) hx hb dL_partly_623 (by decide) ?_
  refine lv_icmp_ne (tgt := 663) hx hb dL_partly_625 (by decide) (fun c => absurd (by decide) c) (fun _ => ?_)
  refine lv_aload_n hx hb dL_partly_628 rfl (lv_at hl 1 rfl) ?_
  refine lv_iconst (v := (3 : Int32)) hx hb dL_partly_629 (by decide) ?_
  have hc : f_X4_covering M1 (3 : Int32) = some (.inr (0 : Int32), M1) := s_covering h1 (by decide +kernel)
  refine kL_58R C hml hl.1 (c_X4_covering hlf hc) ⟨Nat.le_of_ble_eq_true rfl, Nat.le_of_ble_eq_true rfl⟩ ⟨by show _ ≤ 4189; omega, by show _ ≤ 25467; omega⟩ (Nat.le_of_ble_eq_true rfl) hS hW dL_partly_630 (fun H locs hW hS => ?_)
  refine lv_if_ne (tgt := 663) hx hb dL_partly_633 (by decide) (fun c => absurd (by decide) c) (fun _ => ?_)
  refine lv_aload_n hx hb dL_partly_636 rfl (lv_at hl 1 rfl) ?_
  refine lv_bipush (v := (11 : Int32)) hx hb dL_partly_637 (by decide) ?_
  refine lv_iconst (v := (0 : Int32)) hx hb dL_partly_639 (by decide) ?_
  refine lv_iconst (v := (3 : Int32)) hx hb dL_partly_640 (by decide) ?_
  refine lv_iconst (v := (5 : Int32)) hx hb dL_partly_641 (by decide) ?_
  refine lv_iconst (v := (0 : Int32)) hx hb dL_partly_642 (by decide) ?_
  have hc : f_L_act M1 (11 : Int32) (0 : Int32) (3 : Int32) (5 : Int32) (0 : Int32) = some ((-9003 : Int32), M1) := by rw [act_11]; exact hnd_S (s_lockS false false h1 (by decide +kernel))
  refine kL_85 C hml hl.1 (c_L_act hlf hc) ⟨Nat.le_of_ble_eq_true rfl, Nat.le_of_ble_eq_true rfl⟩ ⟨by show _ ≤ 4189; omega, by show _ ≤ 25467; omega⟩ (Nat.le_of_ble_eq_true rfl) hS hW dL_partly_643 (fun H locs hW hS => ?_)
  refine lv_sipush (v := (-9003 : Int32)) hx hb dL_partly_646 (by decide) ?_
  refine lv_icmp_ne (tgt := 663) hx hb dL_partly_649 (by decide) (fun c => absurd (by decide) c) (fun _ => ?_)
  exact t_partly_86 C hml hr hlk hlf h1 hS hW (lv_sub hl [0, 1] rfl) ⟨by omega, by omega⟩
set_option maxHeartbeats 4000000 in
set_option maxRecDepth 100000 in
theorem t_partly_84 {p : Program} {l : Launch} {e : Env} {s : State} {m : MethodId} {args : Array Value} {below : List Frame} {meth : Method} {c : Code} {Z : Zt} {b : Nat} (C : Cx p s m args c cL_partly RL Z b) (hml : c.maxLocals = 2) (hr : meth.sig.returnType = some .boolean) (hlk : meth.locks = false) (hlf : l.stackTraces = false) {M : Mem} (h : RS M V157) {H : Heap} {locs : List Loc} {ls : Array Slot} {cells slots : Nat} (hS : va_S (A0 b) s.heap H locs) (hW : Wd Z b M H) (hl : lv_has ls 2 [(1, .int (31 : Int32)), (0, .ref (b + 0))]) (hcs : cells + 1747 ≤ 4189 ∧ slots + 10482 ≤ 25467) : W p l e rm_L_partly s m args below meth c H locs cells slots (MQ below (QT b) args s 4189 25467 (A0 b)) (F0 m 529 ls []) := by
  have hx := C.1
  have hb := C.2.1
  refine lv_aload_n hx hb dL_partly_529 rfl (lv_at hl 1 rfl) ?_
  refine lv_bipush (v := (9 : Int32)) hx hb dL_partly_530 (by decide) ?_
  obtain ⟨M1, hc1, h1⟩ := s_keep V158 (1 : Int32) (x := (9 : Int32)) h (by decide +kernel)
  have hc1 : f_X4_keep M (9 : Int32) = some (.inr (1 : Int32), M1) := hc1
  refine kL_65R C hml hl.1 (c_X4_keep hlf hc1) ⟨Nat.le_of_ble_eq_true rfl, Nat.le_of_ble_eq_true rfl⟩ ⟨by show _ ≤ 4189; omega, by show _ ≤ 25467; omega⟩ (Nat.le_of_ble_eq_true rfl) hS hW dL_partly_532 (fun H locs hW hS => ?_)
  refine lv_aload_n hx hb dL_partly_535 rfl (lv_at hl 1 rfl) ?_
  refine lv_bipush (v := (9 : Int32)) hx hb dL_partly_536 (by decide) ?_
  obtain ⟨M2, hc2, h2⟩ := s_keep V159 (2 : Int32) (x := (9 : Int32)) h1 (by decide +kernel)
  have hc2 : f_X4_keep M1 (9 : Int32) = some (.inr (2 : Int32), M2) := hc2
  refine kL_65R C hml hl.1 (c_X4_keep hlf hc2) ⟨Nat.le_of_ble_eq_true rfl, Nat.le_of_ble_eq_true rfl⟩ ⟨by show _ ≤ 4189; omega, by show _ ≤ 25467; omega⟩ (Nat.le_of_ble_eq_true rfl) hS hW dL_partly_538 (fun H locs hW hS => ?_)
  refine lv_iadd hx hb dL_partly_541 ?_
  refine W.eq (g2 := F0 m 542 ls [.int (3 : Int32)]) (congrArg (fun v => F0 m 542 ls (.int v :: [])) (show (1 : Int32) + (2 : Int32) = (3 : Int32) by decide)) ?_
  refine lv_aload_n hx hb dL_partly_542 rfl (lv_at hl 1 rfl) ?_
  refine lv_bipush (v := (9 : Int32)) hx hb dL_partly_543 (by decide) ?_
  obtain ⟨M3, hc3, h3⟩ := s_keep V160 (3 : Int32) (x := (9 : Int32)) h2 (by decide +kernel)
  have hc3 : f_X4_keep M2 (9 : Int32) = some (.inr (3 : Int32), M3) := hc3
  refine kL_65R C hml hl.1 (c_X4_keep hlf hc3) ⟨Nat.le_of_ble_eq_true rfl, Nat.le_of_ble_eq_true rfl⟩ ⟨by show _ ≤ 4189; omega, by show _ ≤ 25467; omega⟩ (Nat.le_of_ble_eq_true rfl) hS hW dL_partly_545 (fun H locs hW hS => ?_)
  refine lv_iadd hx hb dL_partly_548 ?_
  refine W.eq (g2 := F0 m 549 ls [.int (6 : Int32)]) (congrArg (fun v => F0 m 549 ls (.int v :: [])) (show (3 : Int32) + (3 : Int32) = (6 : Int32) by decide)) ?_
  refine lv_aload_n hx hb dL_partly_549 rfl (lv_at hl 1 rfl) ?_
  refine lv_bipush (v := (9 : Int32)) hx hb dL_partly_550 (by decide) ?_
  obtain ⟨M4, hc4, h4⟩ := s_keep V161 (4 : Int32) (x := (9 : Int32)) h3 (by decide +kernel)
  have hc4 : f_X4_keep M3 (9 : Int32) = some (.inr (4 : Int32), M4) := hc4
  refine kL_65R C hml hl.1 (c_X4_keep hlf hc4) ⟨Nat.le_of_ble_eq_true rfl, Nat.le_of_ble_eq_true rfl⟩ ⟨by show _ ≤ 4189; omega, by show _ ≤ 25467; omega⟩ (Nat.le_of_ble_eq_true rfl) hS hW dL_partly_552 (fun H locs hW hS => ?_)
  refine lv_iadd hx hb dL_partly_555 ?_
  refine W.eq (g2 := F0 m 556 ls [.int (10 : Int32)]) (congrArg (fun v => F0 m 556 ls (.int v :: [])) (show (6 : Int32) + (4 : Int32) = (10 : Int32) by decide)) ?_
  refine lv_bipush (v := (10 : Int32)) hx hb dL_partly_556 (by decide) ?_
  refine lv_icmp_ne (tgt := 663) hx hb dL_partly_558 (by decide) (fun c => absurd (by decide) c) (fun _ => ?_)
  refine lv_aload_n hx hb dL_partly_561 rfl (lv_at hl 1 rfl) ?_
  refine lv_bipush (v := (9 : Int32)) hx hb dL_partly_562 (by decide) ?_
  obtain ⟨M5, hc5, h5⟩ := s_keep V162 (5 : Int32) (x := (9 : Int32)) h4 (by decide +kernel)
  have hc5 : f_X4_keep M4 (9 : Int32) = some (.inr (5 : Int32), M5) := hc5
  refine kL_65R C hml hl.1 (c_X4_keep hlf hc5) ⟨Nat.le_of_ble_eq_true rfl, Nat.le_of_ble_eq_true rfl⟩ ⟨by show _ ≤ 4189; omega, by show _ ≤ 25467; omega⟩ (Nat.le_of_ble_eq_true rfl) hS hW dL_partly_564 (fun H locs hW hS => ?_)
  refine lv_aload_n hx hb dL_partly_567 rfl (lv_at hl 1 rfl) ?_
  refine lv_bipush (v := (9 : Int32)) hx hb dL_partly_568 (by decide) ?_
  obtain ⟨M6, hc6, h6⟩ := s_keep V163 (6 : Int32) (x := (9 : Int32)) h5 (by decide +kernel)
  have hc6 : f_X4_keep M5 (9 : Int32) = some (.inr (6 : Int32), M6) := hc6
  refine kL_65R C hml hl.1 (c_X4_keep hlf hc6) ⟨Nat.le_of_ble_eq_true rfl, Nat.le_of_ble_eq_true rfl⟩ ⟨by show _ ≤ 4189; omega, by show _ ≤ 25467; omega⟩ (Nat.le_of_ble_eq_true rfl) hS hW dL_partly_570 (fun H locs hW hS => ?_)
  refine lv_iadd hx hb dL_partly_573 ?_
  refine W.eq (g2 := F0 m 574 ls [.int (11 : Int32)]) (congrArg (fun v => F0 m 574 ls (.int v :: [])) (show (5 : Int32) + (6 : Int32) = (11 : Int32) by decide)) ?_
  refine lv_aload_n hx hb dL_partly_574 rfl (lv_at hl 1 rfl) ?_
  refine lv_bipush (v := (9 : Int32)) hx hb dL_partly_575 (by decide) ?_
  obtain ⟨M7, hc7, h7⟩ := s_keep V164 (7 : Int32) (x := (9 : Int32)) h6 (by decide +kernel)
  have hc7 : f_X4_keep M6 (9 : Int32) = some (.inr (7 : Int32), M7) := hc7
  refine kL_65R C hml hl.1 (c_X4_keep hlf hc7) ⟨Nat.le_of_ble_eq_true rfl, Nat.le_of_ble_eq_true rfl⟩ ⟨by show _ ≤ 4189; omega, by show _ ≤ 25467; omega⟩ (Nat.le_of_ble_eq_true rfl) hS hW dL_partly_577 (fun H locs hW hS => ?_)
  refine lv_iadd hx hb dL_partly_580 ?_
  refine W.eq (g2 := F0 m 581 ls [.int (18 : Int32)]) (congrArg (fun v => F0 m 581 ls (.int v :: [])) (show (11 : Int32) + (7 : Int32) = (18 : Int32) by decide)) ?_
  refine lv_aload_n hx hb dL_partly_581 rfl (lv_at hl 1 rfl) ?_
  refine lv_bipush (v := (9 : Int32)) hx hb dL_partly_582 (by decide) ?_
  obtain ⟨M8, hc8, h8⟩ := s_keep V165 (8 : Int32) (x := (9 : Int32)) h7 (by decide +kernel)
  have hc8 : f_X4_keep M7 (9 : Int32) = some (.inr (8 : Int32), M8) := hc8
  refine kL_65R C hml hl.1 (c_X4_keep hlf hc8) ⟨Nat.le_of_ble_eq_true rfl, Nat.le_of_ble_eq_true rfl⟩ ⟨by show _ ≤ 4189; omega, by show _ ≤ 25467; omega⟩ (Nat.le_of_ble_eq_true rfl) hS hW dL_partly_584 (fun H locs hW hS => ?_)
  refine lv_iadd hx hb dL_partly_587 ?_
  refine W.eq (g2 := F0 m 588 ls [.int (26 : Int32)]) (congrArg (fun v => F0 m 588 ls (.int v :: [])) (show (18 : Int32) + (8 : Int32) = (26 : Int32) by decide)) ?_
  refine lv_aload_n hx hb dL_partly_588 rfl (lv_at hl 1 rfl) ?_
  refine lv_bipush (v := (9 : Int32)) hx hb dL_partly_589 (by decide) ?_
  obtain ⟨M9, hc9, h9⟩ := s_keep V166 (9 : Int32) (x := (9 : Int32)) h8 (by decide +kernel)
  have hc9 : f_X4_keep M8 (9 : Int32) = some (.inr (9 : Int32), M9) := hc9
  refine kL_65R C hml hl.1 (c_X4_keep hlf hc9) ⟨Nat.le_of_ble_eq_true rfl, Nat.le_of_ble_eq_true rfl⟩ ⟨by show _ ≤ 4189; omega, by show _ ≤ 25467; omega⟩ (Nat.le_of_ble_eq_true rfl) hS hW dL_partly_591 (fun H locs hW hS => ?_)
  refine lv_iadd hx hb dL_partly_594 ?_
  refine W.eq (g2 := F0 m 595 ls [.int (35 : Int32)]) (congrArg (fun v => F0 m 595 ls (.int v :: [])) (show (26 : Int32) + (9 : Int32) = (35 : Int32) by decide)) ?_
  refine lv_bipush (v := (35 : Int32)) hx hb dL_partly_595 (by decide) ?_
  refine lv_icmp_ne (tgt := 663) hx hb dL_partly_597 (by decide) (fun c => absurd (by decide) c) (fun _ => ?_)
  exact t_partly_85 C hml hr hlk hlf h9 hS hW (lv_sub hl [0, 1] rfl) ⟨by omega, by omega⟩
set_option maxHeartbeats 4000000 in
set_option maxRecDepth 100000 in
theorem t_partly_83 {p : Program} {l : Launch} {e : Env} {s : State} {m : MethodId} {args : Array Value} {below : List Frame} {meth : Method} {c : Code} {Z : Zt} {b : Nat} (C : Cx p s m args c cL_partly RL Z b) (hml : c.maxLocals = 2) (hr : meth.sig.returnType = some .boolean) (hlk : meth.locks = false) (hlf : l.stackTraces = false) {M : Mem} (h : RS M V154) {H : Heap} {locs : List Loc} {ls : Array Slot} {cells slots : Nat} (hS : va_S (A0 b) s.heap H locs) (hW : Wd Z b M H) (hl : lv_has ls 2 [(1, .int (30 : Int32)), (0, .ref (b + 0))]) (hcs : cells + 1759 ≤ 4189 ∧ slots + 10554 ≤ 25467) : W p l e rm_L_partly s m args below meth c H locs cells slots (MQ below (QT b) args s 4189 25467 (A0 b)) (F0 m 482 ls [.int (-9003 : Int32)]) := by
  have hx := C.1
  have hb := C.2.1
  refine lv_sipush (v := (-9003 : Int32)) hx hb dL_partly_482 (by decide) ?_
  refine lv_icmp_eq (tgt := 490) hx hb dL_partly_485 (by decide) (fun _ => ?_) (fun c => absurd (by decide) c)
  refine lv_iinc (v := (31 : Int32)) (lv' := [(1, .int (31 : Int32)), (0, .ref (b + 0))]) hx hb dL_partly_490 hl (k := 0) rfl (by decide) (by decide) rfl (fun ls hl => ?_)
  refine lv_goto (tgt := 456) hx hb dL_partly_493 (by decide) ?_
  refine lv_iload_n hx hb dL_partly_456 rfl (lv_at hl 0 rfl) ?_
  refine lv_bipush (v := (31 : Int32)) hx hb dL_partly_457 (by decide) ?_
  refine lv_icmp_ge (tgt := 496) hx hb dL_partly_459 (by decide) (fun _ => ?_) (fun c => absurd (by decide) c)
  refine lv_aload_n hx hb dL_partly_496 rfl (lv_at hl 1 rfl) ?_
  refine lv_iconst (v := (0 : Int32)) hx hb dL_partly_497 (by decide) ?_
  refine lv_bipush (v := (9 : Int32)) hx hb dL_partly_498 (by decide) ?_
  refine lv_iconst (v := (0 : Int32)) hx hb dL_partly_500 (by decide) ?_
  obtain ⟨M1, hc1, h1⟩ := s_delete V155 (0 : Int32) true (c := (0 : Int32)) (x := (9 : Int32)) (tks := (0 : Int32)) h (by decide +kernel)
  have hc1 : f_X4_delete M (0 : Int32) (9 : Int32) (0 : Int32) = some (.inr (0 : Int32), M1) := hc1
  refine kL_17R C hml hl.1 (c_X4_delete hlf hc1) ⟨Nat.le_of_ble_eq_true rfl, Nat.le_of_ble_eq_true rfl⟩ ⟨by show _ ≤ 4189; omega, by show _ ≤ 25467; omega⟩ (Nat.le_of_ble_eq_true rfl) hS hW dL_partly_501 (fun H locs hW hS => ?_)
  refine lv_if_ne (tgt := 663) hx hb dL_partly_504 (by decide) (fun c => absurd (by decide) c) (fun _ => ?_)
  refine lv_aload_n hx hb dL_partly_507 rfl (lv_at hl 1 rfl) ?_
  refine lv_iconst (v := (1 : Int32)) hx hb dL_partly_508 (by decide) ?_
  refine lv_bipush (v := (9 : Int32)) hx hb dL_partly_509 (by decide) ?_
  refine lv_iconst (v := (4 : Int32)) hx hb dL_partly_511 (by decide) ?_
  refine lv_iconst (v := (-1 : Int32)) hx hb dL_partly_512 (by decide) ?_
  refine lv_iconst (v := (0 : Int32)) hx hb dL_partly_513 (by decide) ?_
  obtain ⟨M2, hc2, h2⟩ := s_put V156 (0 : Int32) (c := (1 : Int32)) (x := (9 : Int32)) (ct := (4 : Int32)) (ex := (-1 : Int32)) (tks := (0 : Int32)) h1 (by decide +kernel)
  have hc2 : f_X4_put M1 (1 : Int32) (9 : Int32) (4 : Int32) (-1 : Int32) (0 : Int32) = some (.inr (0 : Int32), M2) := hc2
  refine kL_13R C hml hl.1 (c_X4_put hlf hc2) ⟨Nat.le_of_ble_eq_true rfl, Nat.le_of_ble_eq_true rfl⟩ ⟨by show _ ≤ 4189; omega, by show _ ≤ 25467; omega⟩ (Nat.le_of_ble_eq_true rfl) hS hW dL_partly_514 (fun H locs hW hS => ?_)
  refine lv_if_ne (tgt := 663) hx hb dL_partly_517 (by decide) (fun c => absurd (by decide) c) (fun _ => ?_)
  refine lv_aload_n hx hb dL_partly_520 rfl (lv_at hl 1 rfl) ?_
  refine lv_bipush (v := (9 : Int32)) hx hb dL_partly_521 (by decide) ?_
  obtain ⟨M3, hc3, h3⟩ := s_keep V157 (0 : Int32) (x := (9 : Int32)) h2 (by decide +kernel)
  have hc3 : f_X4_keep M2 (9 : Int32) = some (.inr (0 : Int32), M3) := hc3
  refine kL_65R C hml hl.1 (c_X4_keep hlf hc3) ⟨Nat.le_of_ble_eq_true rfl, Nat.le_of_ble_eq_true rfl⟩ ⟨by show _ ≤ 4189; omega, by show _ ≤ 25467; omega⟩ (Nat.le_of_ble_eq_true rfl) hS hW dL_partly_523 (fun H locs hW hS => ?_)
  refine lv_if_ne (tgt := 663) hx hb dL_partly_526 (by decide) (fun c => absurd (by decide) c) (fun _ => ?_)
  exact t_partly_84 C hml hr hlk hlf h3 hS hW (lv_sub hl [0, 1] rfl) ⟨by omega, by omega⟩
set_option maxHeartbeats 4000000 in
set_option maxRecDepth 100000 in
theorem t_partly_82 {p : Program} {l : Launch} {e : Env} {s : State} {m : MethodId} {args : Array Value} {below : List Frame} {meth : Method} {c : Code} {Z : Zt} {b : Nat} (C : Cx p s m args c cL_partly RL Z b) (hml : c.maxLocals = 2) (hr : meth.sig.returnType = some .boolean) (hlk : meth.locks = false) (hlf : l.stackTraces = false) {M : Mem} (h : RS M V153) {H : Heap} {locs : List Loc} {ls : Array Slot} {cells slots : Nat} (hS : va_S (A0 b) s.heap H locs) (hW : Wd Z b M H) (hl : lv_has ls 2 [(1, .int (29 : Int32)), (0, .ref (b + 0))]) (hcs : cells + 1773 ≤ 4189 ∧ slots + 10638 ≤ 25467) : W p l e rm_L_partly s m args below meth c H locs cells slots (MQ below (QT b) args s 4189 25467 (A0 b)) (F0 m 462 ls []) := by
  have hx := C.1
  have hb := C.2.1
  refine lv_aload_n hx hb dL_partly_462 rfl (lv_at hl 1 rfl) ?_
  refine lv_bipush (v := (19 : Int32)) hx hb dL_partly_463 (by decide) ?_
  refine lv_iconst (v := (0 : Int32)) hx hb dL_partly_465 (by decide) ?_
  refine lv_iconst (v := (3 : Int32)) hx hb dL_partly_466 (by decide) ?_
  refine lv_iconst (v := (1 : Int32)) hx hb dL_partly_467 (by decide) ?_
  refine lv_iconst (v := (0 : Int32)) hx hb dL_partly_468 (by decide) ?_
  obtain ⟨M1, hd1, h1⟩ := s_lock V154 (29 : Int32) true true (c := (0 : Int32)) (x := (3 : Int32)) (y := (10 : Int32)) (tks := (0 : Int32)) h (by decide +kernel)
  have hc : f_L_act M (19 : Int32) (0 : Int32) (3 : Int32) (1 : Int32) (0 : Int32) = some ((29 : Int32), M1) := by rw [act_19, if_pos rfl]; exact hnd_r hd1
  refine kL_85 C hml hl.1 (c_L_act hlf hc) ⟨Nat.le_of_ble_eq_true rfl, Nat.le_of_ble_eq_true rfl⟩ ⟨by show _ ≤ 4189; omega, by show _ ≤ 25467; omega⟩ (Nat.le_of_ble_eq_true rfl) hS hW dL_partly_469 (fun H locs hW hS => ?_)
  refine lv_iload_n hx hb dL_partly_472 rfl (lv_at hl 0 rfl) ?_
  refine lv_bipush (v := (30 : Int32)) hx hb dL_partly_473 (by decide) ?_
  refine lv_icmp_ge (tgt := 482) hx hb dL_partly_475 (by decide) (fun c => absurd c (by decide)) (fun _ => ?_)
  refine lv_iload_n hx hb dL_partly_478 rfl (lv_at hl 0 rfl) ?_
  refine lv_goto (tgt := 485) hx hb dL_partly_479 (by decide) ?_
  refine lv_icmp_eq (tgt := 490) hx hb dL_partly_485 (by decide) (fun _ => ?_) (fun c => absurd (by decide) c)
  refine lv_iinc (v := (30 : Int32)) (lv' := [(1, .int (30 : Int32)), (0, .ref (b + 0))]) hx hb dL_partly_490 hl (k := 0) rfl (by decide) (by decide) rfl (fun ls hl => ?_)
  refine lv_goto (tgt := 456) hx hb dL_partly_493 (by decide) ?_
  refine lv_iload_n hx hb dL_partly_456 rfl (lv_at hl 0 rfl) ?_
  refine lv_bipush (v := (31 : Int32)) hx hb dL_partly_457 (by decide) ?_
  refine lv_icmp_ge (tgt := 496) hx hb dL_partly_459 (by decide) (fun c => absurd c (by decide)) (fun _ => ?_)
  refine lv_aload_n hx hb dL_partly_462 rfl (lv_at hl 1 rfl) ?_
  refine lv_bipush (v := (19 : Int32)) hx hb dL_partly_463 (by decide) ?_
  refine lv_iconst (v := (0 : Int32)) hx hb dL_partly_465 (by decide) ?_
  refine lv_iconst (v := (3 : Int32)) hx hb dL_partly_466 (by decide) ?_
  refine lv_iconst (v := (1 : Int32)) hx hb dL_partly_467 (by decide) ?_
  refine lv_iconst (v := (0 : Int32)) hx hb dL_partly_468 (by decide) ?_
  have hc : f_L_act M1 (19 : Int32) (0 : Int32) (3 : Int32) (1 : Int32) (0 : Int32) = some ((-9003 : Int32), M1) := by rw [act_19, if_pos rfl]; exact hnd_S (s_lockS true true h1 (by decide +kernel))
  refine kL_85 C hml hl.1 (c_L_act hlf hc) ⟨Nat.le_of_ble_eq_true rfl, Nat.le_of_ble_eq_true rfl⟩ ⟨by show _ ≤ 4189; omega, by show _ ≤ 25467; omega⟩ (Nat.le_of_ble_eq_true rfl) hS hW dL_partly_469 (fun H locs hW hS => ?_)
  refine lv_iload_n hx hb dL_partly_472 rfl (lv_at hl 0 rfl) ?_
  refine lv_bipush (v := (30 : Int32)) hx hb dL_partly_473 (by decide) ?_
  refine lv_icmp_ge (tgt := 482) hx hb dL_partly_475 (by decide) (fun _ => ?_) (fun c => absurd (by decide) c)
  exact t_partly_83 C hml hr hlk hlf h1 hS hW (lv_sub hl [0, 1] rfl) ⟨by omega, by omega⟩
set_option maxHeartbeats 4000000 in
set_option maxRecDepth 100000 in
theorem t_partly_81 {p : Program} {l : Launch} {e : Env} {s : State} {m : MethodId} {args : Array Value} {below : List Frame} {meth : Method} {c : Code} {Z : Zt} {b : Nat} (C : Cx p s m args c cL_partly RL Z b) (hml : c.maxLocals = 2) (hr : meth.sig.returnType = some .boolean) (hlk : meth.locks = false) (hlf : l.stackTraces = false) {M : Mem} (h : RS M V152) {H : Heap} {locs : List Loc} {ls : Array Slot} {cells slots : Nat} (hS : va_S (A0 b) s.heap H locs) (hW : Wd Z b M H) (hl : lv_has ls 2 [(1, .int (27 : Int32)), (0, .ref (b + 0))]) (hcs : cells + 1780 ≤ 4189 ∧ slots + 10680 ≤ 25467) : W p l e rm_L_partly s m args below meth c H locs cells slots (MQ below (QT b) args s 4189 25467 (A0 b)) (F0 m 478 ls [.int (27 : Int32)]) := by
  have hx := C.1
  have hb := C.2.1
  refine lv_iload_n hx hb dL_partly_478 rfl (lv_at hl 0 rfl) ?_
  refine lv_goto (tgt := 485) hx hb dL_partly_479 (by decide) ?_
  refine lv_icmp_eq (tgt := 490) hx hb dL_partly_485 (by decide) (fun _ => ?_) (fun c => absurd (by decide) c)
  refine lv_iinc (v := (28 : Int32)) (lv' := [(1, .int (28 : Int32)), (0, .ref (b + 0))]) hx hb dL_partly_490 hl (k := 0) rfl (by decide) (by decide) rfl (fun ls hl => ?_)
  refine lv_goto (tgt := 456) hx hb dL_partly_493 (by decide) ?_
  refine lv_iload_n hx hb dL_partly_456 rfl (lv_at hl 0 rfl) ?_
  refine lv_bipush (v := (31 : Int32)) hx hb dL_partly_457 (by decide) ?_
  refine lv_icmp_ge (tgt := 496) hx hb dL_partly_459 (by decide) (fun c => absurd c (by decide)) (fun _ => ?_)
  refine lv_aload_n hx hb dL_partly_462 rfl (lv_at hl 1 rfl) ?_
  refine lv_bipush (v := (19 : Int32)) hx hb dL_partly_463 (by decide) ?_
  refine lv_iconst (v := (0 : Int32)) hx hb dL_partly_465 (by decide) ?_
  refine lv_iconst (v := (3 : Int32)) hx hb dL_partly_466 (by decide) ?_
  refine lv_iconst (v := (1 : Int32)) hx hb dL_partly_467 (by decide) ?_
  refine lv_iconst (v := (0 : Int32)) hx hb dL_partly_468 (by decide) ?_
  obtain ⟨M1, hd1, h1⟩ := s_lock V153 (28 : Int32) true true (c := (0 : Int32)) (x := (3 : Int32)) (y := (10 : Int32)) (tks := (0 : Int32)) h (by decide +kernel)
  have hc : f_L_act M (19 : Int32) (0 : Int32) (3 : Int32) (1 : Int32) (0 : Int32) = some ((28 : Int32), M1) := by rw [act_19, if_pos rfl]; exact hnd_r hd1
  refine kL_85 C hml hl.1 (c_L_act hlf hc) ⟨Nat.le_of_ble_eq_true rfl, Nat.le_of_ble_eq_true rfl⟩ ⟨by show _ ≤ 4189; omega, by show _ ≤ 25467; omega⟩ (Nat.le_of_ble_eq_true rfl) hS hW dL_partly_469 (fun H locs hW hS => ?_)
  refine lv_iload_n hx hb dL_partly_472 rfl (lv_at hl 0 rfl) ?_
  refine lv_bipush (v := (30 : Int32)) hx hb dL_partly_473 (by decide) ?_
  refine lv_icmp_ge (tgt := 482) hx hb dL_partly_475 (by decide) (fun c => absurd c (by decide)) (fun _ => ?_)
  refine lv_iload_n hx hb dL_partly_478 rfl (lv_at hl 0 rfl) ?_
  refine lv_goto (tgt := 485) hx hb dL_partly_479 (by decide) ?_
  refine lv_icmp_eq (tgt := 490) hx hb dL_partly_485 (by decide) (fun _ => ?_) (fun c => absurd (by decide) c)
  refine lv_iinc (v := (29 : Int32)) (lv' := [(1, .int (29 : Int32)), (0, .ref (b + 0))]) hx hb dL_partly_490 hl (k := 0) rfl (by decide) (by decide) rfl (fun ls hl => ?_)
  refine lv_goto (tgt := 456) hx hb dL_partly_493 (by decide) ?_
  refine lv_iload_n hx hb dL_partly_456 rfl (lv_at hl 0 rfl) ?_
  refine lv_bipush (v := (31 : Int32)) hx hb dL_partly_457 (by decide) ?_
  refine lv_icmp_ge (tgt := 496) hx hb dL_partly_459 (by decide) (fun c => absurd c (by decide)) (fun _ => ?_)
  exact t_partly_82 C hml hr hlk hlf h1 hS hW (lv_sub hl [0, 1] rfl) ⟨by omega, by omega⟩
set_option maxHeartbeats 4000000 in
set_option maxRecDepth 100000 in
theorem t_partly_80 {p : Program} {l : Launch} {e : Env} {s : State} {m : MethodId} {args : Array Value} {below : List Frame} {meth : Method} {c : Code} {Z : Zt} {b : Nat} (C : Cx p s m args c cL_partly RL Z b) (hml : c.maxLocals = 2) (hr : meth.sig.returnType = some .boolean) (hlk : meth.locks = false) (hlf : l.stackTraces = false) {M : Mem} (h : RS M V150) {H : Heap} {locs : List Loc} {ls : Array Slot} {cells slots : Nat} (hS : va_S (A0 b) s.heap H locs) (hW : Wd Z b M H) (hl : lv_has ls 2 [(1, .int (26 : Int32)), (0, .ref (b + 0))]) (hcs : cells + 1794 ≤ 4189 ∧ slots + 10764 ≤ 25467) : W p l e rm_L_partly s m args below meth c H locs cells slots (MQ below (QT b) args s 4189 25467 (A0 b)) (F0 m 462 ls []) := by
  have hx := C.1
  have hb := C.2.1
  refine lv_aload_n hx hb dL_partly_462 rfl (lv_at hl 1 rfl) ?_
  refine lv_bipush (v := (19 : Int32)) hx hb dL_partly_463 (by decide) ?_
  refine lv_iconst (v := (0 : Int32)) hx hb dL_partly_465 (by decide) ?_
  refine lv_iconst (v := (3 : Int32)) hx hb dL_partly_466 (by decide) ?_
  refine lv_iconst (v := (1 : Int32)) hx hb dL_partly_467 (by decide) ?_
  refine lv_iconst (v := (0 : Int32)) hx hb dL_partly_468 (by decide) ?_
  obtain ⟨M1, hd1, h1⟩ := s_lock V151 (26 : Int32) true true (c := (0 : Int32)) (x := (3 : Int32)) (y := (10 : Int32)) (tks := (0 : Int32)) h (by decide +kernel)
  have hc : f_L_act M (19 : Int32) (0 : Int32) (3 : Int32) (1 : Int32) (0 : Int32) = some ((26 : Int32), M1) := by rw [act_19, if_pos rfl]; exact hnd_r hd1
  refine kL_85 C hml hl.1 (c_L_act hlf hc) ⟨Nat.le_of_ble_eq_true rfl, Nat.le_of_ble_eq_true rfl⟩ ⟨by show _ ≤ 4189; omega, by show _ ≤ 25467; omega⟩ (Nat.le_of_ble_eq_true rfl) hS hW dL_partly_469 (fun H locs hW hS => ?_)
  refine lv_iload_n hx hb dL_partly_472 rfl (lv_at hl 0 rfl) ?_
  refine lv_bipush (v := (30 : Int32)) hx hb dL_partly_473 (by decide) ?_
  refine lv_icmp_ge (tgt := 482) hx hb dL_partly_475 (by decide) (fun c => absurd c (by decide)) (fun _ => ?_)
  refine lv_iload_n hx hb dL_partly_478 rfl (lv_at hl 0 rfl) ?_
  refine lv_goto (tgt := 485) hx hb dL_partly_479 (by decide) ?_
  refine lv_icmp_eq (tgt := 490) hx hb dL_partly_485 (by decide) (fun _ => ?_) (fun c => absurd (by decide) c)
  refine lv_iinc (v := (27 : Int32)) (lv' := [(1, .int (27 : Int32)), (0, .ref (b + 0))]) hx hb dL_partly_490 hl (k := 0) rfl (by decide) (by decide) rfl (fun ls hl => ?_)
  refine lv_goto (tgt := 456) hx hb dL_partly_493 (by decide) ?_
  refine lv_iload_n hx hb dL_partly_456 rfl (lv_at hl 0 rfl) ?_
  refine lv_bipush (v := (31 : Int32)) hx hb dL_partly_457 (by decide) ?_
  refine lv_icmp_ge (tgt := 496) hx hb dL_partly_459 (by decide) (fun c => absurd c (by decide)) (fun _ => ?_)
  refine lv_aload_n hx hb dL_partly_462 rfl (lv_at hl 1 rfl) ?_
  refine lv_bipush (v := (19 : Int32)) hx hb dL_partly_463 (by decide) ?_
  refine lv_iconst (v := (0 : Int32)) hx hb dL_partly_465 (by decide) ?_
  refine lv_iconst (v := (3 : Int32)) hx hb dL_partly_466 (by decide) ?_
  refine lv_iconst (v := (1 : Int32)) hx hb dL_partly_467 (by decide) ?_
  refine lv_iconst (v := (0 : Int32)) hx hb dL_partly_468 (by decide) ?_
  obtain ⟨M2, hd2, h2⟩ := s_lock V152 (27 : Int32) true true (c := (0 : Int32)) (x := (3 : Int32)) (y := (10 : Int32)) (tks := (0 : Int32)) h1 (by decide +kernel)
  have hc : f_L_act M1 (19 : Int32) (0 : Int32) (3 : Int32) (1 : Int32) (0 : Int32) = some ((27 : Int32), M2) := by rw [act_19, if_pos rfl]; exact hnd_r hd2
  refine kL_85 C hml hl.1 (c_L_act hlf hc) ⟨Nat.le_of_ble_eq_true rfl, Nat.le_of_ble_eq_true rfl⟩ ⟨by show _ ≤ 4189; omega, by show _ ≤ 25467; omega⟩ (Nat.le_of_ble_eq_true rfl) hS hW dL_partly_469 (fun H locs hW hS => ?_)
  refine lv_iload_n hx hb dL_partly_472 rfl (lv_at hl 0 rfl) ?_
  refine lv_bipush (v := (30 : Int32)) hx hb dL_partly_473 (by decide) ?_
  refine lv_icmp_ge (tgt := 482) hx hb dL_partly_475 (by decide) (fun c => absurd c (by decide)) (fun _ => ?_)
  exact t_partly_81 C hml hr hlk hlf h2 hS hW (lv_sub hl [0, 1] rfl) ⟨by omega, by omega⟩
set_option maxHeartbeats 4000000 in
set_option maxRecDepth 100000 in
theorem t_partly_79 {p : Program} {l : Launch} {e : Env} {s : State} {m : MethodId} {args : Array Value} {below : List Frame} {meth : Method} {c : Code} {Z : Zt} {b : Nat} (C : Cx p s m args c cL_partly RL Z b) (hml : c.maxLocals = 2) (hr : meth.sig.returnType = some .boolean) (hlk : meth.locks = false) (hlf : l.stackTraces = false) {M : Mem} (h : RS M V149) {H : Heap} {locs : List Loc} {ls : Array Slot} {cells slots : Nat} (hS : va_S (A0 b) s.heap H locs) (hW : Wd Z b M H) (hl : lv_has ls 2 [(1, .int (24 : Int32)), (0, .ref (b + 0))]) (hcs : cells + 1801 ≤ 4189 ∧ slots + 10806 ≤ 25467) : W p l e rm_L_partly s m args below meth c H locs cells slots (MQ below (QT b) args s 4189 25467 (A0 b)) (F0 m 478 ls [.int (24 : Int32)]) := by
  have hx := C.1
  have hb := C.2.1
  refine lv_iload_n hx hb dL_partly_478 rfl (lv_at hl 0 rfl) ?_
  refine lv_goto (tgt := 485) hx hb dL_partly_479 (by decide) ?_
  refine lv_icmp_eq (tgt := 490) hx hb dL_partly_485 (by decide) (fun _ => ?_) (fun c => absurd (by decide) c)
  refine lv_iinc (v := (25 : Int32)) (lv' := [(1, .int (25 : Int32)), (0, .ref (b + 0))]) hx hb dL_partly_490 hl (k := 0) rfl (by decide) (by decide) rfl (fun ls hl => ?_)
  refine lv_goto (tgt := 456) hx hb dL_partly_493 (by decide) ?_
  refine lv_iload_n hx hb dL_partly_456 rfl (lv_at hl 0 rfl) ?_
  refine lv_bipush (v := (31 : Int32)) hx hb dL_partly_457 (by decide) ?_
  refine lv_icmp_ge (tgt := 496) hx hb dL_partly_459 (by decide) (fun c => absurd c (by decide)) (fun _ => ?_)
  refine lv_aload_n hx hb dL_partly_462 rfl (lv_at hl 1 rfl) ?_
  refine lv_bipush (v := (19 : Int32)) hx hb dL_partly_463 (by decide) ?_
  refine lv_iconst (v := (0 : Int32)) hx hb dL_partly_465 (by decide) ?_
  refine lv_iconst (v := (3 : Int32)) hx hb dL_partly_466 (by decide) ?_
  refine lv_iconst (v := (1 : Int32)) hx hb dL_partly_467 (by decide) ?_
  refine lv_iconst (v := (0 : Int32)) hx hb dL_partly_468 (by decide) ?_
  obtain ⟨M1, hd1, h1⟩ := s_lock V150 (25 : Int32) true true (c := (0 : Int32)) (x := (3 : Int32)) (y := (10 : Int32)) (tks := (0 : Int32)) h (by decide +kernel)
  have hc : f_L_act M (19 : Int32) (0 : Int32) (3 : Int32) (1 : Int32) (0 : Int32) = some ((25 : Int32), M1) := by rw [act_19, if_pos rfl]; exact hnd_r hd1
  refine kL_85 C hml hl.1 (c_L_act hlf hc) ⟨Nat.le_of_ble_eq_true rfl, Nat.le_of_ble_eq_true rfl⟩ ⟨by show _ ≤ 4189; omega, by show _ ≤ 25467; omega⟩ (Nat.le_of_ble_eq_true rfl) hS hW dL_partly_469 (fun H locs hW hS => ?_)
  refine lv_iload_n hx hb dL_partly_472 rfl (lv_at hl 0 rfl) ?_
  refine lv_bipush (v := (30 : Int32)) hx hb dL_partly_473 (by decide) ?_
  refine lv_icmp_ge (tgt := 482) hx hb dL_partly_475 (by decide) (fun c => absurd c (by decide)) (fun _ => ?_)
  refine lv_iload_n hx hb dL_partly_478 rfl (lv_at hl 0 rfl) ?_
  refine lv_goto (tgt := 485) hx hb dL_partly_479 (by decide) ?_
  refine lv_icmp_eq (tgt := 490) hx hb dL_partly_485 (by decide) (fun _ => ?_) (fun c => absurd (by decide) c)
  refine lv_iinc (v := (26 : Int32)) (lv' := [(1, .int (26 : Int32)), (0, .ref (b + 0))]) hx hb dL_partly_490 hl (k := 0) rfl (by decide) (by decide) rfl (fun ls hl => ?_)
  refine lv_goto (tgt := 456) hx hb dL_partly_493 (by decide) ?_
  refine lv_iload_n hx hb dL_partly_456 rfl (lv_at hl 0 rfl) ?_
  refine lv_bipush (v := (31 : Int32)) hx hb dL_partly_457 (by decide) ?_
  refine lv_icmp_ge (tgt := 496) hx hb dL_partly_459 (by decide) (fun c => absurd c (by decide)) (fun _ => ?_)
  exact t_partly_80 C hml hr hlk hlf h1 hS hW (lv_sub hl [0, 1] rfl) ⟨by omega, by omega⟩
set_option maxHeartbeats 4000000 in
set_option maxRecDepth 100000 in
theorem t_partly_78 {p : Program} {l : Launch} {e : Env} {s : State} {m : MethodId} {args : Array Value} {below : List Frame} {meth : Method} {c : Code} {Z : Zt} {b : Nat} (C : Cx p s m args c cL_partly RL Z b) (hml : c.maxLocals = 2) (hr : meth.sig.returnType = some .boolean) (hlk : meth.locks = false) (hlf : l.stackTraces = false) {M : Mem} (h : RS M V147) {H : Heap} {locs : List Loc} {ls : Array Slot} {cells slots : Nat} (hS : va_S (A0 b) s.heap H locs) (hW : Wd Z b M H) (hl : lv_has ls 2 [(1, .int (23 : Int32)), (0, .ref (b + 0))]) (hcs : cells + 1815 ≤ 4189 ∧ slots + 10890 ≤ 25467) : W p l e rm_L_partly s m args below meth c H locs cells slots (MQ below (QT b) args s 4189 25467 (A0 b)) (F0 m 462 ls []) := by
  have hx := C.1
  have hb := C.2.1
  refine lv_aload_n hx hb dL_partly_462 rfl (lv_at hl 1 rfl) ?_
  refine lv_bipush (v := (19 : Int32)) hx hb dL_partly_463 (by decide) ?_
  refine lv_iconst (v := (0 : Int32)) hx hb dL_partly_465 (by decide) ?_
  refine lv_iconst (v := (3 : Int32)) hx hb dL_partly_466 (by decide) ?_
  refine lv_iconst (v := (1 : Int32)) hx hb dL_partly_467 (by decide) ?_
  refine lv_iconst (v := (0 : Int32)) hx hb dL_partly_468 (by decide) ?_
  obtain ⟨M1, hd1, h1⟩ := s_lock V148 (23 : Int32) true true (c := (0 : Int32)) (x := (3 : Int32)) (y := (10 : Int32)) (tks := (0 : Int32)) h (by decide +kernel)
  have hc : f_L_act M (19 : Int32) (0 : Int32) (3 : Int32) (1 : Int32) (0 : Int32) = some ((23 : Int32), M1) := by rw [act_19, if_pos rfl]; exact hnd_r hd1
  refine kL_85 C hml hl.1 (c_L_act hlf hc) ⟨Nat.le_of_ble_eq_true rfl, Nat.le_of_ble_eq_true rfl⟩ ⟨by show _ ≤ 4189; omega, by show _ ≤ 25467; omega⟩ (Nat.le_of_ble_eq_true rfl) hS hW dL_partly_469 (fun H locs hW hS => ?_)
  refine lv_iload_n hx hb dL_partly_472 rfl (lv_at hl 0 rfl) ?_
  refine lv_bipush (v := (30 : Int32)) hx hb dL_partly_473 (by decide) ?_
  refine lv_icmp_ge (tgt := 482) hx hb dL_partly_475 (by decide) (fun c => absurd c (by decide)) (fun _ => ?_)
  refine lv_iload_n hx hb dL_partly_478 rfl (lv_at hl 0 rfl) ?_
  refine lv_goto (tgt := 485) hx hb dL_partly_479 (by decide) ?_
  refine lv_icmp_eq (tgt := 490) hx hb dL_partly_485 (by decide) (fun _ => ?_) (fun c => absurd (by decide) c)
  refine lv_iinc (v := (24 : Int32)) (lv' := [(1, .int (24 : Int32)), (0, .ref (b + 0))]) hx hb dL_partly_490 hl (k := 0) rfl (by decide) (by decide) rfl (fun ls hl => ?_)
  refine lv_goto (tgt := 456) hx hb dL_partly_493 (by decide) ?_
  refine lv_iload_n hx hb dL_partly_456 rfl (lv_at hl 0 rfl) ?_
  refine lv_bipush (v := (31 : Int32)) hx hb dL_partly_457 (by decide) ?_
  refine lv_icmp_ge (tgt := 496) hx hb dL_partly_459 (by decide) (fun c => absurd c (by decide)) (fun _ => ?_)
  refine lv_aload_n hx hb dL_partly_462 rfl (lv_at hl 1 rfl) ?_
  refine lv_bipush (v := (19 : Int32)) hx hb dL_partly_463 (by decide) ?_
  refine lv_iconst (v := (0 : Int32)) hx hb dL_partly_465 (by decide) ?_
  refine lv_iconst (v := (3 : Int32)) hx hb dL_partly_466 (by decide) ?_
  refine lv_iconst (v := (1 : Int32)) hx hb dL_partly_467 (by decide) ?_
  refine lv_iconst (v := (0 : Int32)) hx hb dL_partly_468 (by decide) ?_
  obtain ⟨M2, hd2, h2⟩ := s_lock V149 (24 : Int32) true true (c := (0 : Int32)) (x := (3 : Int32)) (y := (10 : Int32)) (tks := (0 : Int32)) h1 (by decide +kernel)
  have hc : f_L_act M1 (19 : Int32) (0 : Int32) (3 : Int32) (1 : Int32) (0 : Int32) = some ((24 : Int32), M2) := by rw [act_19, if_pos rfl]; exact hnd_r hd2
  refine kL_85 C hml hl.1 (c_L_act hlf hc) ⟨Nat.le_of_ble_eq_true rfl, Nat.le_of_ble_eq_true rfl⟩ ⟨by show _ ≤ 4189; omega, by show _ ≤ 25467; omega⟩ (Nat.le_of_ble_eq_true rfl) hS hW dL_partly_469 (fun H locs hW hS => ?_)
  refine lv_iload_n hx hb dL_partly_472 rfl (lv_at hl 0 rfl) ?_
  refine lv_bipush (v := (30 : Int32)) hx hb dL_partly_473 (by decide) ?_
  refine lv_icmp_ge (tgt := 482) hx hb dL_partly_475 (by decide) (fun c => absurd c (by decide)) (fun _ => ?_)
  exact t_partly_79 C hml hr hlk hlf h2 hS hW (lv_sub hl [0, 1] rfl) ⟨by omega, by omega⟩
set_option maxHeartbeats 4000000 in
set_option maxRecDepth 100000 in
theorem t_partly_77 {p : Program} {l : Launch} {e : Env} {s : State} {m : MethodId} {args : Array Value} {below : List Frame} {meth : Method} {c : Code} {Z : Zt} {b : Nat} (C : Cx p s m args c cL_partly RL Z b) (hml : c.maxLocals = 2) (hr : meth.sig.returnType = some .boolean) (hlk : meth.locks = false) (hlf : l.stackTraces = false) {M : Mem} (h : RS M V146) {H : Heap} {locs : List Loc} {ls : Array Slot} {cells slots : Nat} (hS : va_S (A0 b) s.heap H locs) (hW : Wd Z b M H) (hl : lv_has ls 2 [(1, .int (21 : Int32)), (0, .ref (b + 0))]) (hcs : cells + 1822 ≤ 4189 ∧ slots + 10932 ≤ 25467) : W p l e rm_L_partly s m args below meth c H locs cells slots (MQ below (QT b) args s 4189 25467 (A0 b)) (F0 m 478 ls [.int (21 : Int32)]) := by
  have hx := C.1
  have hb := C.2.1
  refine lv_iload_n hx hb dL_partly_478 rfl (lv_at hl 0 rfl) ?_
  refine lv_goto (tgt := 485) hx hb dL_partly_479 (by decide) ?_
  refine lv_icmp_eq (tgt := 490) hx hb dL_partly_485 (by decide) (fun _ => ?_) (fun c => absurd (by decide) c)
  refine lv_iinc (v := (22 : Int32)) (lv' := [(1, .int (22 : Int32)), (0, .ref (b + 0))]) hx hb dL_partly_490 hl (k := 0) rfl (by decide) (by decide) rfl (fun ls hl => ?_)
  refine lv_goto (tgt := 456) hx hb dL_partly_493 (by decide) ?_
  refine lv_iload_n hx hb dL_partly_456 rfl (lv_at hl 0 rfl) ?_
  refine lv_bipush (v := (31 : Int32)) hx hb dL_partly_457 (by decide) ?_
  refine lv_icmp_ge (tgt := 496) hx hb dL_partly_459 (by decide) (fun c => absurd c (by decide)) (fun _ => ?_)
  refine lv_aload_n hx hb dL_partly_462 rfl (lv_at hl 1 rfl) ?_
  refine lv_bipush (v := (19 : Int32)) hx hb dL_partly_463 (by decide) ?_
  refine lv_iconst (v := (0 : Int32)) hx hb dL_partly_465 (by decide) ?_
  refine lv_iconst (v := (3 : Int32)) hx hb dL_partly_466 (by decide) ?_
  refine lv_iconst (v := (1 : Int32)) hx hb dL_partly_467 (by decide) ?_
  refine lv_iconst (v := (0 : Int32)) hx hb dL_partly_468 (by decide) ?_
  obtain ⟨M1, hd1, h1⟩ := s_lock V147 (22 : Int32) true true (c := (0 : Int32)) (x := (3 : Int32)) (y := (10 : Int32)) (tks := (0 : Int32)) h (by decide +kernel)
  have hc : f_L_act M (19 : Int32) (0 : Int32) (3 : Int32) (1 : Int32) (0 : Int32) = some ((22 : Int32), M1) := by rw [act_19, if_pos rfl]; exact hnd_r hd1
  refine kL_85 C hml hl.1 (c_L_act hlf hc) ⟨Nat.le_of_ble_eq_true rfl, Nat.le_of_ble_eq_true rfl⟩ ⟨by show _ ≤ 4189; omega, by show _ ≤ 25467; omega⟩ (Nat.le_of_ble_eq_true rfl) hS hW dL_partly_469 (fun H locs hW hS => ?_)
  refine lv_iload_n hx hb dL_partly_472 rfl (lv_at hl 0 rfl) ?_
  refine lv_bipush (v := (30 : Int32)) hx hb dL_partly_473 (by decide) ?_
  refine lv_icmp_ge (tgt := 482) hx hb dL_partly_475 (by decide) (fun c => absurd c (by decide)) (fun _ => ?_)
  refine lv_iload_n hx hb dL_partly_478 rfl (lv_at hl 0 rfl) ?_
  refine lv_goto (tgt := 485) hx hb dL_partly_479 (by decide) ?_
  refine lv_icmp_eq (tgt := 490) hx hb dL_partly_485 (by decide) (fun _ => ?_) (fun c => absurd (by decide) c)
  refine lv_iinc (v := (23 : Int32)) (lv' := [(1, .int (23 : Int32)), (0, .ref (b + 0))]) hx hb dL_partly_490 hl (k := 0) rfl (by decide) (by decide) rfl (fun ls hl => ?_)
  refine lv_goto (tgt := 456) hx hb dL_partly_493 (by decide) ?_
  refine lv_iload_n hx hb dL_partly_456 rfl (lv_at hl 0 rfl) ?_
  refine lv_bipush (v := (31 : Int32)) hx hb dL_partly_457 (by decide) ?_
  refine lv_icmp_ge (tgt := 496) hx hb dL_partly_459 (by decide) (fun c => absurd c (by decide)) (fun _ => ?_)
  exact t_partly_78 C hml hr hlk hlf h1 hS hW (lv_sub hl [0, 1] rfl) ⟨by omega, by omega⟩
set_option maxHeartbeats 4000000 in
set_option maxRecDepth 100000 in
theorem t_partly_76 {p : Program} {l : Launch} {e : Env} {s : State} {m : MethodId} {args : Array Value} {below : List Frame} {meth : Method} {c : Code} {Z : Zt} {b : Nat} (C : Cx p s m args c cL_partly RL Z b) (hml : c.maxLocals = 2) (hr : meth.sig.returnType = some .boolean) (hlk : meth.locks = false) (hlf : l.stackTraces = false) {M : Mem} (h : RS M V144) {H : Heap} {locs : List Loc} {ls : Array Slot} {cells slots : Nat} (hS : va_S (A0 b) s.heap H locs) (hW : Wd Z b M H) (hl : lv_has ls 2 [(1, .int (20 : Int32)), (0, .ref (b + 0))]) (hcs : cells + 1836 ≤ 4189 ∧ slots + 11016 ≤ 25467) : W p l e rm_L_partly s m args below meth c H locs cells slots (MQ below (QT b) args s 4189 25467 (A0 b)) (F0 m 462 ls []) := by
  have hx := C.1
  have hb := C.2.1
  refine lv_aload_n hx hb dL_partly_462 rfl (lv_at hl 1 rfl) ?_
  refine lv_bipush (v := (19 : Int32)) hx hb dL_partly_463 (by decide) ?_
  refine lv_iconst (v := (0 : Int32)) hx hb dL_partly_465 (by decide) ?_
  refine lv_iconst (v := (3 : Int32)) hx hb dL_partly_466 (by decide) ?_
  refine lv_iconst (v := (1 : Int32)) hx hb dL_partly_467 (by decide) ?_
  refine lv_iconst (v := (0 : Int32)) hx hb dL_partly_468 (by decide) ?_
  obtain ⟨M1, hd1, h1⟩ := s_lock V145 (20 : Int32) true true (c := (0 : Int32)) (x := (3 : Int32)) (y := (10 : Int32)) (tks := (0 : Int32)) h (by decide +kernel)
  have hc : f_L_act M (19 : Int32) (0 : Int32) (3 : Int32) (1 : Int32) (0 : Int32) = some ((20 : Int32), M1) := by rw [act_19, if_pos rfl]; exact hnd_r hd1
  refine kL_85 C hml hl.1 (c_L_act hlf hc) ⟨Nat.le_of_ble_eq_true rfl, Nat.le_of_ble_eq_true rfl⟩ ⟨by show _ ≤ 4189; omega, by show _ ≤ 25467; omega⟩ (Nat.le_of_ble_eq_true rfl) hS hW dL_partly_469 (fun H locs hW hS => ?_)
  refine lv_iload_n hx hb dL_partly_472 rfl (lv_at hl 0 rfl) ?_
  refine lv_bipush (v := (30 : Int32)) hx hb dL_partly_473 (by decide) ?_
  refine lv_icmp_ge (tgt := 482) hx hb dL_partly_475 (by decide) (fun c => absurd c (by decide)) (fun _ => ?_)
  refine lv_iload_n hx hb dL_partly_478 rfl (lv_at hl 0 rfl) ?_
  refine lv_goto (tgt := 485) hx hb dL_partly_479 (by decide) ?_
  refine lv_icmp_eq (tgt := 490) hx hb dL_partly_485 (by decide) (fun _ => ?_) (fun c => absurd (by decide) c)
  refine lv_iinc (v := (21 : Int32)) (lv' := [(1, .int (21 : Int32)), (0, .ref (b + 0))]) hx hb dL_partly_490 hl (k := 0) rfl (by decide) (by decide) rfl (fun ls hl => ?_)
  refine lv_goto (tgt := 456) hx hb dL_partly_493 (by decide) ?_
  refine lv_iload_n hx hb dL_partly_456 rfl (lv_at hl 0 rfl) ?_
  refine lv_bipush (v := (31 : Int32)) hx hb dL_partly_457 (by decide) ?_
  refine lv_icmp_ge (tgt := 496) hx hb dL_partly_459 (by decide) (fun c => absurd c (by decide)) (fun _ => ?_)
  refine lv_aload_n hx hb dL_partly_462 rfl (lv_at hl 1 rfl) ?_
  refine lv_bipush (v := (19 : Int32)) hx hb dL_partly_463 (by decide) ?_
  refine lv_iconst (v := (0 : Int32)) hx hb dL_partly_465 (by decide) ?_
  refine lv_iconst (v := (3 : Int32)) hx hb dL_partly_466 (by decide) ?_
  refine lv_iconst (v := (1 : Int32)) hx hb dL_partly_467 (by decide) ?_
  refine lv_iconst (v := (0 : Int32)) hx hb dL_partly_468 (by decide) ?_
  obtain ⟨M2, hd2, h2⟩ := s_lock V146 (21 : Int32) true true (c := (0 : Int32)) (x := (3 : Int32)) (y := (10 : Int32)) (tks := (0 : Int32)) h1 (by decide +kernel)
  have hc : f_L_act M1 (19 : Int32) (0 : Int32) (3 : Int32) (1 : Int32) (0 : Int32) = some ((21 : Int32), M2) := by rw [act_19, if_pos rfl]; exact hnd_r hd2
  refine kL_85 C hml hl.1 (c_L_act hlf hc) ⟨Nat.le_of_ble_eq_true rfl, Nat.le_of_ble_eq_true rfl⟩ ⟨by show _ ≤ 4189; omega, by show _ ≤ 25467; omega⟩ (Nat.le_of_ble_eq_true rfl) hS hW dL_partly_469 (fun H locs hW hS => ?_)
  refine lv_iload_n hx hb dL_partly_472 rfl (lv_at hl 0 rfl) ?_
  refine lv_bipush (v := (30 : Int32)) hx hb dL_partly_473 (by decide) ?_
  refine lv_icmp_ge (tgt := 482) hx hb dL_partly_475 (by decide) (fun c => absurd c (by decide)) (fun _ => ?_)
  exact t_partly_77 C hml hr hlk hlf h2 hS hW (lv_sub hl [0, 1] rfl) ⟨by omega, by omega⟩
set_option maxHeartbeats 4000000 in
set_option maxRecDepth 100000 in
theorem t_partly_75 {p : Program} {l : Launch} {e : Env} {s : State} {m : MethodId} {args : Array Value} {below : List Frame} {meth : Method} {c : Code} {Z : Zt} {b : Nat} (C : Cx p s m args c cL_partly RL Z b) (hml : c.maxLocals = 2) (hr : meth.sig.returnType = some .boolean) (hlk : meth.locks = false) (hlf : l.stackTraces = false) {M : Mem} (h : RS M V143) {H : Heap} {locs : List Loc} {ls : Array Slot} {cells slots : Nat} (hS : va_S (A0 b) s.heap H locs) (hW : Wd Z b M H) (hl : lv_has ls 2 [(1, .int (18 : Int32)), (0, .ref (b + 0))]) (hcs : cells + 1843 ≤ 4189 ∧ slots + 11058 ≤ 25467) : W p l e rm_L_partly s m args below meth c H locs cells slots (MQ below (QT b) args s 4189 25467 (A0 b)) (F0 m 478 ls [.int (18 : Int32)]) := by
  have hx := C.1
  have hb := C.2.1
  refine lv_iload_n hx hb dL_partly_478 rfl (lv_at hl 0 rfl) ?_
  refine lv_goto (tgt := 485) hx hb dL_partly_479 (by decide) ?_
  refine lv_icmp_eq (tgt := 490) hx hb dL_partly_485 (by decide) (fun _ => ?_) (fun c => absurd (by decide) c)
  refine lv_iinc (v := (19 : Int32)) (lv' := [(1, .int (19 : Int32)), (0, .ref (b + 0))]) hx hb dL_partly_490 hl (k := 0) rfl (by decide) (by decide) rfl (fun ls hl => ?_)
  refine lv_goto (tgt := 456) hx hb dL_partly_493 (by decide) ?_
  refine lv_iload_n hx hb dL_partly_456 rfl (lv_at hl 0 rfl) ?_
  refine lv_bipush (v := (31 : Int32)) hx hb dL_partly_457 (by decide) ?_
  refine lv_icmp_ge (tgt := 496) hx hb dL_partly_459 (by decide) (fun c => absurd c (by decide)) (fun _ => ?_)
  refine lv_aload_n hx hb dL_partly_462 rfl (lv_at hl 1 rfl) ?_
  refine lv_bipush (v := (19 : Int32)) hx hb dL_partly_463 (by decide) ?_
  refine lv_iconst (v := (0 : Int32)) hx hb dL_partly_465 (by decide) ?_
  refine lv_iconst (v := (3 : Int32)) hx hb dL_partly_466 (by decide) ?_
  refine lv_iconst (v := (1 : Int32)) hx hb dL_partly_467 (by decide) ?_
  refine lv_iconst (v := (0 : Int32)) hx hb dL_partly_468 (by decide) ?_
  obtain ⟨M1, hd1, h1⟩ := s_lock V144 (19 : Int32) true true (c := (0 : Int32)) (x := (3 : Int32)) (y := (10 : Int32)) (tks := (0 : Int32)) h (by decide +kernel)
  have hc : f_L_act M (19 : Int32) (0 : Int32) (3 : Int32) (1 : Int32) (0 : Int32) = some ((19 : Int32), M1) := by rw [act_19, if_pos rfl]; exact hnd_r hd1
  refine kL_85 C hml hl.1 (c_L_act hlf hc) ⟨Nat.le_of_ble_eq_true rfl, Nat.le_of_ble_eq_true rfl⟩ ⟨by show _ ≤ 4189; omega, by show _ ≤ 25467; omega⟩ (Nat.le_of_ble_eq_true rfl) hS hW dL_partly_469 (fun H locs hW hS => ?_)
  refine lv_iload_n hx hb dL_partly_472 rfl (lv_at hl 0 rfl) ?_
  refine lv_bipush (v := (30 : Int32)) hx hb dL_partly_473 (by decide) ?_
  refine lv_icmp_ge (tgt := 482) hx hb dL_partly_475 (by decide) (fun c => absurd c (by decide)) (fun _ => ?_)
  refine lv_iload_n hx hb dL_partly_478 rfl (lv_at hl 0 rfl) ?_
  refine lv_goto (tgt := 485) hx hb dL_partly_479 (by decide) ?_
  refine lv_icmp_eq (tgt := 490) hx hb dL_partly_485 (by decide) (fun _ => ?_) (fun c => absurd (by decide) c)
  refine lv_iinc (v := (20 : Int32)) (lv' := [(1, .int (20 : Int32)), (0, .ref (b + 0))]) hx hb dL_partly_490 hl (k := 0) rfl (by decide) (by decide) rfl (fun ls hl => ?_)
  refine lv_goto (tgt := 456) hx hb dL_partly_493 (by decide) ?_
  refine lv_iload_n hx hb dL_partly_456 rfl (lv_at hl 0 rfl) ?_
  refine lv_bipush (v := (31 : Int32)) hx hb dL_partly_457 (by decide) ?_
  refine lv_icmp_ge (tgt := 496) hx hb dL_partly_459 (by decide) (fun c => absurd c (by decide)) (fun _ => ?_)
  exact t_partly_76 C hml hr hlk hlf h1 hS hW (lv_sub hl [0, 1] rfl) ⟨by omega, by omega⟩
set_option maxHeartbeats 4000000 in
set_option maxRecDepth 100000 in
theorem t_partly_74 {p : Program} {l : Launch} {e : Env} {s : State} {m : MethodId} {args : Array Value} {below : List Frame} {meth : Method} {c : Code} {Z : Zt} {b : Nat} (C : Cx p s m args c cL_partly RL Z b) (hml : c.maxLocals = 2) (hr : meth.sig.returnType = some .boolean) (hlk : meth.locks = false) (hlf : l.stackTraces = false) {M : Mem} (h : RS M V141) {H : Heap} {locs : List Loc} {ls : Array Slot} {cells slots : Nat} (hS : va_S (A0 b) s.heap H locs) (hW : Wd Z b M H) (hl : lv_has ls 2 [(1, .int (17 : Int32)), (0, .ref (b + 0))]) (hcs : cells + 1857 ≤ 4189 ∧ slots + 11142 ≤ 25467) : W p l e rm_L_partly s m args below meth c H locs cells slots (MQ below (QT b) args s 4189 25467 (A0 b)) (F0 m 462 ls []) := by
  have hx := C.1
  have hb := C.2.1
  refine lv_aload_n hx hb dL_partly_462 rfl (lv_at hl 1 rfl) ?_
  refine lv_bipush (v := (19 : Int32)) hx hb dL_partly_463 (by decide) ?_
  refine lv_iconst (v := (0 : Int32)) hx hb dL_partly_465 (by decide) ?_
  refine lv_iconst (v := (3 : Int32)) hx hb dL_partly_466 (by decide) ?_
  refine lv_iconst (v := (1 : Int32)) hx hb dL_partly_467 (by decide) ?_
  refine lv_iconst (v := (0 : Int32)) hx hb dL_partly_468 (by decide) ?_
  obtain ⟨M1, hd1, h1⟩ := s_lock V142 (17 : Int32) true true (c := (0 : Int32)) (x := (3 : Int32)) (y := (10 : Int32)) (tks := (0 : Int32)) h (by decide +kernel)
  have hc : f_L_act M (19 : Int32) (0 : Int32) (3 : Int32) (1 : Int32) (0 : Int32) = some ((17 : Int32), M1) := by rw [act_19, if_pos rfl]; exact hnd_r hd1
  refine kL_85 C hml hl.1 (c_L_act hlf hc) ⟨Nat.le_of_ble_eq_true rfl, Nat.le_of_ble_eq_true rfl⟩ ⟨by show _ ≤ 4189; omega, by show _ ≤ 25467; omega⟩ (Nat.le_of_ble_eq_true rfl) hS hW dL_partly_469 (fun H locs hW hS => ?_)
  refine lv_iload_n hx hb dL_partly_472 rfl (lv_at hl 0 rfl) ?_
  refine lv_bipush (v := (30 : Int32)) hx hb dL_partly_473 (by decide) ?_
  refine lv_icmp_ge (tgt := 482) hx hb dL_partly_475 (by decide) (fun c => absurd c (by decide)) (fun _ => ?_)
  refine lv_iload_n hx hb dL_partly_478 rfl (lv_at hl 0 rfl) ?_
  refine lv_goto (tgt := 485) hx hb dL_partly_479 (by decide) ?_
  refine lv_icmp_eq (tgt := 490) hx hb dL_partly_485 (by decide) (fun _ => ?_) (fun c => absurd (by decide) c)
  refine lv_iinc (v := (18 : Int32)) (lv' := [(1, .int (18 : Int32)), (0, .ref (b + 0))]) hx hb dL_partly_490 hl (k := 0) rfl (by decide) (by decide) rfl (fun ls hl => ?_)
  refine lv_goto (tgt := 456) hx hb dL_partly_493 (by decide) ?_
  refine lv_iload_n hx hb dL_partly_456 rfl (lv_at hl 0 rfl) ?_
  refine lv_bipush (v := (31 : Int32)) hx hb dL_partly_457 (by decide) ?_
  refine lv_icmp_ge (tgt := 496) hx hb dL_partly_459 (by decide) (fun c => absurd c (by decide)) (fun _ => ?_)
  refine lv_aload_n hx hb dL_partly_462 rfl (lv_at hl 1 rfl) ?_
  refine lv_bipush (v := (19 : Int32)) hx hb dL_partly_463 (by decide) ?_
  refine lv_iconst (v := (0 : Int32)) hx hb dL_partly_465 (by decide) ?_
  refine lv_iconst (v := (3 : Int32)) hx hb dL_partly_466 (by decide) ?_
  refine lv_iconst (v := (1 : Int32)) hx hb dL_partly_467 (by decide) ?_
  refine lv_iconst (v := (0 : Int32)) hx hb dL_partly_468 (by decide) ?_
  obtain ⟨M2, hd2, h2⟩ := s_lock V143 (18 : Int32) true true (c := (0 : Int32)) (x := (3 : Int32)) (y := (10 : Int32)) (tks := (0 : Int32)) h1 (by decide +kernel)
  have hc : f_L_act M1 (19 : Int32) (0 : Int32) (3 : Int32) (1 : Int32) (0 : Int32) = some ((18 : Int32), M2) := by rw [act_19, if_pos rfl]; exact hnd_r hd2
  refine kL_85 C hml hl.1 (c_L_act hlf hc) ⟨Nat.le_of_ble_eq_true rfl, Nat.le_of_ble_eq_true rfl⟩ ⟨by show _ ≤ 4189; omega, by show _ ≤ 25467; omega⟩ (Nat.le_of_ble_eq_true rfl) hS hW dL_partly_469 (fun H locs hW hS => ?_)
  refine lv_iload_n hx hb dL_partly_472 rfl (lv_at hl 0 rfl) ?_
  refine lv_bipush (v := (30 : Int32)) hx hb dL_partly_473 (by decide) ?_
  refine lv_icmp_ge (tgt := 482) hx hb dL_partly_475 (by decide) (fun c => absurd c (by decide)) (fun _ => ?_)
  exact t_partly_75 C hml hr hlk hlf h2 hS hW (lv_sub hl [0, 1] rfl) ⟨by omega, by omega⟩
set_option maxHeartbeats 4000000 in
set_option maxRecDepth 100000 in
theorem t_partly_73 {p : Program} {l : Launch} {e : Env} {s : State} {m : MethodId} {args : Array Value} {below : List Frame} {meth : Method} {c : Code} {Z : Zt} {b : Nat} (C : Cx p s m args c cL_partly RL Z b) (hml : c.maxLocals = 2) (hr : meth.sig.returnType = some .boolean) (hlk : meth.locks = false) (hlf : l.stackTraces = false) {M : Mem} (h : RS M V140) {H : Heap} {locs : List Loc} {ls : Array Slot} {cells slots : Nat} (hS : va_S (A0 b) s.heap H locs) (hW : Wd Z b M H) (hl : lv_has ls 2 [(1, .int (15 : Int32)), (0, .ref (b + 0))]) (hcs : cells + 1864 ≤ 4189 ∧ slots + 11184 ≤ 25467) : W p l e rm_L_partly s m args below meth c H locs cells slots (MQ below (QT b) args s 4189 25467 (A0 b)) (F0 m 478 ls [.int (15 : Int32)]) := by
  have hx := C.1
  have hb := C.2.1
  refine lv_iload_n hx hb dL_partly_478 rfl (lv_at hl 0 rfl) ?_
  refine lv_goto (tgt := 485) hx hb dL_partly_479 (by decide) ?_
  refine lv_icmp_eq (tgt := 490) hx hb dL_partly_485 (by decide) (fun _ => ?_) (fun c => absurd (by decide) c)
  refine lv_iinc (v := (16 : Int32)) (lv' := [(1, .int (16 : Int32)), (0, .ref (b + 0))]) hx hb dL_partly_490 hl (k := 0) rfl (by decide) (by decide) rfl (fun ls hl => ?_)
  refine lv_goto (tgt := 456) hx hb dL_partly_493 (by decide) ?_
  refine lv_iload_n hx hb dL_partly_456 rfl (lv_at hl 0 rfl) ?_
  refine lv_bipush (v := (31 : Int32)) hx hb dL_partly_457 (by decide) ?_
  refine lv_icmp_ge (tgt := 496) hx hb dL_partly_459 (by decide) (fun c => absurd c (by decide)) (fun _ => ?_)
  refine lv_aload_n hx hb dL_partly_462 rfl (lv_at hl 1 rfl) ?_
  refine lv_bipush (v := (19 : Int32)) hx hb dL_partly_463 (by decide) ?_
  refine lv_iconst (v := (0 : Int32)) hx hb dL_partly_465 (by decide) ?_
  refine lv_iconst (v := (3 : Int32)) hx hb dL_partly_466 (by decide) ?_
  refine lv_iconst (v := (1 : Int32)) hx hb dL_partly_467 (by decide) ?_
  refine lv_iconst (v := (0 : Int32)) hx hb dL_partly_468 (by decide) ?_
  obtain ⟨M1, hd1, h1⟩ := s_lock V141 (16 : Int32) true true (c := (0 : Int32)) (x := (3 : Int32)) (y := (10 : Int32)) (tks := (0 : Int32)) h (by decide +kernel)
  have hc : f_L_act M (19 : Int32) (0 : Int32) (3 : Int32) (1 : Int32) (0 : Int32) = some ((16 : Int32), M1) := by rw [act_19, if_pos rfl]; exact hnd_r hd1
  refine kL_85 C hml hl.1 (c_L_act hlf hc) ⟨Nat.le_of_ble_eq_true rfl, Nat.le_of_ble_eq_true rfl⟩ ⟨by show _ ≤ 4189; omega, by show _ ≤ 25467; omega⟩ (Nat.le_of_ble_eq_true rfl) hS hW dL_partly_469 (fun H locs hW hS => ?_)
  refine lv_iload_n hx hb dL_partly_472 rfl (lv_at hl 0 rfl) ?_
  refine lv_bipush (v := (30 : Int32)) hx hb dL_partly_473 (by decide) ?_
  refine lv_icmp_ge (tgt := 482) hx hb dL_partly_475 (by decide) (fun c => absurd c (by decide)) (fun _ => ?_)
  refine lv_iload_n hx hb dL_partly_478 rfl (lv_at hl 0 rfl) ?_
  refine lv_goto (tgt := 485) hx hb dL_partly_479 (by decide) ?_
  refine lv_icmp_eq (tgt := 490) hx hb dL_partly_485 (by decide) (fun _ => ?_) (fun c => absurd (by decide) c)
  refine lv_iinc (v := (17 : Int32)) (lv' := [(1, .int (17 : Int32)), (0, .ref (b + 0))]) hx hb dL_partly_490 hl (k := 0) rfl (by decide) (by decide) rfl (fun ls hl => ?_)
  refine lv_goto (tgt := 456) hx hb dL_partly_493 (by decide) ?_
  refine lv_iload_n hx hb dL_partly_456 rfl (lv_at hl 0 rfl) ?_
  refine lv_bipush (v := (31 : Int32)) hx hb dL_partly_457 (by decide) ?_
  refine lv_icmp_ge (tgt := 496) hx hb dL_partly_459 (by decide) (fun c => absurd c (by decide)) (fun _ => ?_)
  exact t_partly_74 C hml hr hlk hlf h1 hS hW (lv_sub hl [0, 1] rfl) ⟨by omega, by omega⟩
set_option maxHeartbeats 4000000 in
set_option maxRecDepth 100000 in
theorem t_partly_72 {p : Program} {l : Launch} {e : Env} {s : State} {m : MethodId} {args : Array Value} {below : List Frame} {meth : Method} {c : Code} {Z : Zt} {b : Nat} (C : Cx p s m args c cL_partly RL Z b) (hml : c.maxLocals = 2) (hr : meth.sig.returnType = some .boolean) (hlk : meth.locks = false) (hlf : l.stackTraces = false) {M : Mem} (h : RS M V138) {H : Heap} {locs : List Loc} {ls : Array Slot} {cells slots : Nat} (hS : va_S (A0 b) s.heap H locs) (hW : Wd Z b M H) (hl : lv_has ls 2 [(1, .int (14 : Int32)), (0, .ref (b + 0))]) (hcs : cells + 1878 ≤ 4189 ∧ slots + 11268 ≤ 25467) : W p l e rm_L_partly s m args below meth c H locs cells slots (MQ below (QT b) args s 4189 25467 (A0 b)) (F0 m 462 ls []) := by
  have hx := C.1
  have hb := C.2.1
  refine lv_aload_n hx hb dL_partly_462 rfl (lv_at hl 1 rfl) ?_
  refine lv_bipush (v := (19 : Int32)) hx hb dL_partly_463 (by decide) ?_
  refine lv_iconst (v := (0 : Int32)) hx hb dL_partly_465 (by decide) ?_
  refine lv_iconst (v := (3 : Int32)) hx hb dL_partly_466 (by decide) ?_
  refine lv_iconst (v := (1 : Int32)) hx hb dL_partly_467 (by decide) ?_
  refine lv_iconst (v := (0 : Int32)) hx hb dL_partly_468 (by decide) ?_
  obtain ⟨M1, hd1, h1⟩ := s_lock V139 (14 : Int32) true true (c := (0 : Int32)) (x := (3 : Int32)) (y := (10 : Int32)) (tks := (0 : Int32)) h (by decide +kernel)
  have hc : f_L_act M (19 : Int32) (0 : Int32) (3 : Int32) (1 : Int32) (0 : Int32) = some ((14 : Int32), M1) := by rw [act_19, if_pos rfl]; exact hnd_r hd1
  refine kL_85 C hml hl.1 (c_L_act hlf hc) ⟨Nat.le_of_ble_eq_true rfl, Nat.le_of_ble_eq_true rfl⟩ ⟨by show _ ≤ 4189; omega, by show _ ≤ 25467; omega⟩ (Nat.le_of_ble_eq_true rfl) hS hW dL_partly_469 (fun H locs hW hS => ?_)
  refine lv_iload_n hx hb dL_partly_472 rfl (lv_at hl 0 rfl) ?_
  refine lv_bipush (v := (30 : Int32)) hx hb dL_partly_473 (by decide) ?_
  refine lv_icmp_ge (tgt := 482) hx hb dL_partly_475 (by decide) (fun c => absurd c (by decide)) (fun _ => ?_)
  refine lv_iload_n hx hb dL_partly_478 rfl (lv_at hl 0 rfl) ?_
  refine lv_goto (tgt := 485) hx hb dL_partly_479 (by decide) ?_
  refine lv_icmp_eq (tgt := 490) hx hb dL_partly_485 (by decide) (fun _ => ?_) (fun c => absurd (by decide) c)
  refine lv_iinc (v := (15 : Int32)) (lv' := [(1, .int (15 : Int32)), (0, .ref (b + 0))]) hx hb dL_partly_490 hl (k := 0) rfl (by decide) (by decide) rfl (fun ls hl => ?_)
  refine lv_goto (tgt := 456) hx hb dL_partly_493 (by decide) ?_
  refine lv_iload_n hx hb dL_partly_456 rfl (lv_at hl 0 rfl) ?_
  refine lv_bipush (v := (31 : Int32)) hx hb dL_partly_457 (by decide) ?_
  refine lv_icmp_ge (tgt := 496) hx hb dL_partly_459 (by decide) (fun c => absurd c (by decide)) (fun _ => ?_)
  refine lv_aload_n hx hb dL_partly_462 rfl (lv_at hl 1 rfl) ?_
  refine lv_bipush (v := (19 : Int32)) hx hb dL_partly_463 (by decide) ?_
  refine lv_iconst (v := (0 : Int32)) hx hb dL_partly_465 (by decide) ?_
  refine lv_iconst (v := (3 : Int32)) hx hb dL_partly_466 (by decide) ?_
  refine lv_iconst (v := (1 : Int32)) hx hb dL_partly_467 (by decide) ?_
  refine lv_iconst (v := (0 : Int32)) hx hb dL_partly_468 (by decide) ?_
  obtain ⟨M2, hd2, h2⟩ := s_lock V140 (15 : Int32) true true (c := (0 : Int32)) (x := (3 : Int32)) (y := (10 : Int32)) (tks := (0 : Int32)) h1 (by decide +kernel)
  have hc : f_L_act M1 (19 : Int32) (0 : Int32) (3 : Int32) (1 : Int32) (0 : Int32) = some ((15 : Int32), M2) := by rw [act_19, if_pos rfl]; exact hnd_r hd2
  refine kL_85 C hml hl.1 (c_L_act hlf hc) ⟨Nat.le_of_ble_eq_true rfl, Nat.le_of_ble_eq_true rfl⟩ ⟨by show _ ≤ 4189; omega, by show _ ≤ 25467; omega⟩ (Nat.le_of_ble_eq_true rfl) hS hW dL_partly_469 (fun H locs hW hS => ?_)
  refine lv_iload_n hx hb dL_partly_472 rfl (lv_at hl 0 rfl) ?_
  refine lv_bipush (v := (30 : Int32)) hx hb dL_partly_473 (by decide) ?_
  refine lv_icmp_ge (tgt := 482) hx hb dL_partly_475 (by decide) (fun c => absurd c (by decide)) (fun _ => ?_)
  exact t_partly_73 C hml hr hlk hlf h2 hS hW (lv_sub hl [0, 1] rfl) ⟨by omega, by omega⟩
set_option maxHeartbeats 4000000 in
set_option maxRecDepth 100000 in
theorem t_partly_71 {p : Program} {l : Launch} {e : Env} {s : State} {m : MethodId} {args : Array Value} {below : List Frame} {meth : Method} {c : Code} {Z : Zt} {b : Nat} (C : Cx p s m args c cL_partly RL Z b) (hml : c.maxLocals = 2) (hr : meth.sig.returnType = some .boolean) (hlk : meth.locks = false) (hlf : l.stackTraces = false) {M : Mem} (h : RS M V137) {H : Heap} {locs : List Loc} {ls : Array Slot} {cells slots : Nat} (hS : va_S (A0 b) s.heap H locs) (hW : Wd Z b M H) (hl : lv_has ls 2 [(1, .int (12 : Int32)), (0, .ref (b + 0))]) (hcs : cells + 1885 ≤ 4189 ∧ slots + 11310 ≤ 25467) : W p l e rm_L_partly s m args below meth c H locs cells slots (MQ below (QT b) args s 4189 25467 (A0 b)) (F0 m 478 ls [.int (12 : Int32)]) := by
  have hx := C.1
  have hb := C.2.1
  refine lv_iload_n hx hb dL_partly_478 rfl (lv_at hl 0 rfl) ?_
  refine lv_goto (tgt := 485) hx hb dL_partly_479 (by decide) ?_
  refine lv_icmp_eq (tgt := 490) hx hb dL_partly_485 (by decide) (fun _ => ?_) (fun c => absurd (by decide) c)
  refine lv_iinc (v := (13 : Int32)) (lv' := [(1, .int (13 : Int32)), (0, .ref (b + 0))]) hx hb dL_partly_490 hl (k := 0) rfl (by decide) (by decide) rfl (fun ls hl => ?_)
  refine lv_goto (tgt := 456) hx hb dL_partly_493 (by decide) ?_
  refine lv_iload_n hx hb dL_partly_456 rfl (lv_at hl 0 rfl) ?_
  refine lv_bipush (v := (31 : Int32)) hx hb dL_partly_457 (by decide) ?_
  refine lv_icmp_ge (tgt := 496) hx hb dL_partly_459 (by decide) (fun c => absurd c (by decide)) (fun _ => ?_)
  refine lv_aload_n hx hb dL_partly_462 rfl (lv_at hl 1 rfl) ?_
  refine lv_bipush (v := (19 : Int32)) hx hb dL_partly_463 (by decide) ?_
  refine lv_iconst (v := (0 : Int32)) hx hb dL_partly_465 (by decide) ?_
  refine lv_iconst (v := (3 : Int32)) hx hb dL_partly_466 (by decide) ?_
  refine lv_iconst (v := (1 : Int32)) hx hb dL_partly_467 (by decide) ?_
  refine lv_iconst (v := (0 : Int32)) hx hb dL_partly_468 (by decide) ?_
  obtain ⟨M1, hd1, h1⟩ := s_lock V138 (13 : Int32) true true (c := (0 : Int32)) (x := (3 : Int32)) (y := (10 : Int32)) (tks := (0 : Int32)) h (by decide +kernel)
  have hc : f_L_act M (19 : Int32) (0 : Int32) (3 : Int32) (1 : Int32) (0 : Int32) = some ((13 : Int32), M1) := by rw [act_19, if_pos rfl]; exact hnd_r hd1
  refine kL_85 C hml hl.1 (c_L_act hlf hc) ⟨Nat.le_of_ble_eq_true rfl, Nat.le_of_ble_eq_true rfl⟩ ⟨by show _ ≤ 4189; omega, by show _ ≤ 25467; omega⟩ (Nat.le_of_ble_eq_true rfl) hS hW dL_partly_469 (fun H locs hW hS => ?_)
  refine lv_iload_n hx hb dL_partly_472 rfl (lv_at hl 0 rfl) ?_
  refine lv_bipush (v := (30 : Int32)) hx hb dL_partly_473 (by decide) ?_
  refine lv_icmp_ge (tgt := 482) hx hb dL_partly_475 (by decide) (fun c => absurd c (by decide)) (fun _ => ?_)
  refine lv_iload_n hx hb dL_partly_478 rfl (lv_at hl 0 rfl) ?_
  refine lv_goto (tgt := 485) hx hb dL_partly_479 (by decide) ?_
  refine lv_icmp_eq (tgt := 490) hx hb dL_partly_485 (by decide) (fun _ => ?_) (fun c => absurd (by decide) c)
  refine lv_iinc (v := (14 : Int32)) (lv' := [(1, .int (14 : Int32)), (0, .ref (b + 0))]) hx hb dL_partly_490 hl (k := 0) rfl (by decide) (by decide) rfl (fun ls hl => ?_)
  refine lv_goto (tgt := 456) hx hb dL_partly_493 (by decide) ?_
  refine lv_iload_n hx hb dL_partly_456 rfl (lv_at hl 0 rfl) ?_
  refine lv_bipush (v := (31 : Int32)) hx hb dL_partly_457 (by decide) ?_
  refine lv_icmp_ge (tgt := 496) hx hb dL_partly_459 (by decide) (fun c => absurd c (by decide)) (fun _ => ?_)
  exact t_partly_72 C hml hr hlk hlf h1 hS hW (lv_sub hl [0, 1] rfl) ⟨by omega, by omega⟩
set_option maxHeartbeats 4000000 in
set_option maxRecDepth 100000 in
theorem t_partly_70 {p : Program} {l : Launch} {e : Env} {s : State} {m : MethodId} {args : Array Value} {below : List Frame} {meth : Method} {c : Code} {Z : Zt} {b : Nat} (C : Cx p s m args c cL_partly RL Z b) (hml : c.maxLocals = 2) (hr : meth.sig.returnType = some .boolean) (hlk : meth.locks = false) (hlf : l.stackTraces = false) {M : Mem} (h : RS M V135) {H : Heap} {locs : List Loc} {ls : Array Slot} {cells slots : Nat} (hS : va_S (A0 b) s.heap H locs) (hW : Wd Z b M H) (hl : lv_has ls 2 [(1, .int (11 : Int32)), (0, .ref (b + 0))]) (hcs : cells + 1899 ≤ 4189 ∧ slots + 11394 ≤ 25467) : W p l e rm_L_partly s m args below meth c H locs cells slots (MQ below (QT b) args s 4189 25467 (A0 b)) (F0 m 462 ls []) := by
  have hx := C.1
  have hb := C.2.1
  refine lv_aload_n hx hb dL_partly_462 rfl (lv_at hl 1 rfl) ?_
  refine lv_bipush (v := (19 : Int32)) hx hb dL_partly_463 (by decide) ?_
  refine lv_iconst (v := (0 : Int32)) hx hb dL_partly_465 (by decide) ?_
  refine lv_iconst (v := (3 : Int32)) hx hb dL_partly_466 (by decide) ?_
  refine lv_iconst (v := (1 : Int32)) hx hb dL_partly_467 (by decide) ?_
  refine lv_iconst (v := (0 : Int32)) hx hb dL_partly_468 (by decide) ?_
  obtain ⟨M1, hd1, h1⟩ := s_lock V136 (11 : Int32) true true (c := (0 : Int32)) (x := (3 : Int32)) (y := (10 : Int32)) (tks := (0 : Int32)) h (by decide +kernel)
  have hc : f_L_act M (19 : Int32) (0 : Int32) (3 : Int32) (1 : Int32) (0 : Int32) = some ((11 : Int32), M1) := by rw [act_19, if_pos rfl]; exact hnd_r hd1
  refine kL_85 C hml hl.1 (c_L_act hlf hc) ⟨Nat.le_of_ble_eq_true rfl, Nat.le_of_ble_eq_true rfl⟩ ⟨by show _ ≤ 4189; omega, by show _ ≤ 25467; omega⟩ (Nat.le_of_ble_eq_true rfl) hS hW dL_partly_469 (fun H locs hW hS => ?_)
  refine lv_iload_n hx hb dL_partly_472 rfl (lv_at hl 0 rfl) ?_
  refine lv_bipush (v := (30 : Int32)) hx hb dL_partly_473 (by decide) ?_
  refine lv_icmp_ge (tgt := 482) hx hb dL_partly_475 (by decide) (fun c => absurd c (by decide)) (fun _ => ?_)
  refine lv_iload_n hx hb dL_partly_478 rfl (lv_at hl 0 rfl) ?_
  refine lv_goto (tgt := 485) hx hb dL_partly_479 (by decide) ?_
  refine lv_icmp_eq (tgt := 490) hx hb dL_partly_485 (by decide) (fun _ => ?_) (fun c => absurd (by decide) c)
  refine lv_iinc (v := (12 : Int32)) (lv' := [(1, .int (12 : Int32)), (0, .ref (b + 0))]) hx hb dL_partly_490 hl (k := 0) rfl (by decide) (by decide) rfl (fun ls hl => ?_)
  refine lv_goto (tgt := 456) hx hb dL_partly_493 (by decide) ?_
  refine lv_iload_n hx hb dL_partly_456 rfl (lv_at hl 0 rfl) ?_
  refine lv_bipush (v := (31 : Int32)) hx hb dL_partly_457 (by decide) ?_
  refine lv_icmp_ge (tgt := 496) hx hb dL_partly_459 (by decide) (fun c => absurd c (by decide)) (fun _ => ?_)
  refine lv_aload_n hx hb dL_partly_462 rfl (lv_at hl 1 rfl) ?_
  refine lv_bipush (v := (19 : Int32)) hx hb dL_partly_463 (by decide) ?_
  refine lv_iconst (v := (0 : Int32)) hx hb dL_partly_465 (by decide) ?_
  refine lv_iconst (v := (3 : Int32)) hx hb dL_partly_466 (by decide) ?_
  refine lv_iconst (v := (1 : Int32)) hx hb dL_partly_467 (by decide) ?_
  refine lv_iconst (v := (0 : Int32)) hx hb dL_partly_468 (by decide) ?_
  obtain ⟨M2, hd2, h2⟩ := s_lock V137 (12 : Int32) true true (c := (0 : Int32)) (x := (3 : Int32)) (y := (10 : Int32)) (tks := (0 : Int32)) h1 (by decide +kernel)
  have hc : f_L_act M1 (19 : Int32) (0 : Int32) (3 : Int32) (1 : Int32) (0 : Int32) = some ((12 : Int32), M2) := by rw [act_19, if_pos rfl]; exact hnd_r hd2
  refine kL_85 C hml hl.1 (c_L_act hlf hc) ⟨Nat.le_of_ble_eq_true rfl, Nat.le_of_ble_eq_true rfl⟩ ⟨by show _ ≤ 4189; omega, by show _ ≤ 25467; omega⟩ (Nat.le_of_ble_eq_true rfl) hS hW dL_partly_469 (fun H locs hW hS => ?_)
  refine lv_iload_n hx hb dL_partly_472 rfl (lv_at hl 0 rfl) ?_
  refine lv_bipush (v := (30 : Int32)) hx hb dL_partly_473 (by decide) ?_
  refine lv_icmp_ge (tgt := 482) hx hb dL_partly_475 (by decide) (fun c => absurd c (by decide)) (fun _ => ?_)
  exact t_partly_71 C hml hr hlk hlf h2 hS hW (lv_sub hl [0, 1] rfl) ⟨by omega, by omega⟩
set_option maxHeartbeats 4000000 in
set_option maxRecDepth 100000 in
theorem t_partly_69 {p : Program} {l : Launch} {e : Env} {s : State} {m : MethodId} {args : Array Value} {below : List Frame} {meth : Method} {c : Code} {Z : Zt} {b : Nat} (C : Cx p s m args c cL_partly RL Z b) (hml : c.maxLocals = 2) (hr : meth.sig.returnType = some .boolean) (hlk : meth.locks = false) (hlf : l.stackTraces = false) {M : Mem} (h : RS M V134) {H : Heap} {locs : List Loc} {ls : Array Slot} {cells slots : Nat} (hS : va_S (A0 b) s.heap H locs) (hW : Wd Z b M H) (hl : lv_has ls 2 [(1, .int (9 : Int32)), (0, .ref (b + 0))]) (hcs : cells + 1906 ≤ 4189 ∧ slots + 11436 ≤ 25467) : W p l e rm_L_partly s m args below meth c H locs cells slots (MQ below (QT b) args s 4189 25467 (A0 b)) (F0 m 478 ls [.int (9 : Int32)]) := by
  have hx := C.1
  have hb := C.2.1
  refine lv_iload_n hx hb dL_partly_478 rfl (lv_at hl 0 rfl) ?_
  refine lv_goto (tgt := 485) hx hb dL_partly_479 (by decide) ?_
  refine lv_icmp_eq (tgt := 490) hx hb dL_partly_485 (by decide) (fun _ => ?_) (fun c => absurd (by decide) c)
  refine lv_iinc (v := (10 : Int32)) (lv' := [(1, .int (10 : Int32)), (0, .ref (b + 0))]) hx hb dL_partly_490 hl (k := 0) rfl (by decide) (by decide) rfl (fun ls hl => ?_)
  refine lv_goto (tgt := 456) hx hb dL_partly_493 (by decide) ?_
  refine lv_iload_n hx hb dL_partly_456 rfl (lv_at hl 0 rfl) ?_
  refine lv_bipush (v := (31 : Int32)) hx hb dL_partly_457 (by decide) ?_
  refine lv_icmp_ge (tgt := 496) hx hb dL_partly_459 (by decide) (fun c => absurd c (by decide)) (fun _ => ?_)
  refine lv_aload_n hx hb dL_partly_462 rfl (lv_at hl 1 rfl) ?_
  refine lv_bipush (v := (19 : Int32)) hx hb dL_partly_463 (by decide) ?_
  refine lv_iconst (v := (0 : Int32)) hx hb dL_partly_465 (by decide) ?_
  refine lv_iconst (v := (3 : Int32)) hx hb dL_partly_466 (by decide) ?_
  refine lv_iconst (v := (1 : Int32)) hx hb dL_partly_467 (by decide) ?_
  refine lv_iconst (v := (0 : Int32)) hx hb dL_partly_468 (by decide) ?_
  obtain ⟨M1, hd1, h1⟩ := s_lock V135 (10 : Int32) true true (c := (0 : Int32)) (x := (3 : Int32)) (y := (10 : Int32)) (tks := (0 : Int32)) h (by decide +kernel)
  have hc : f_L_act M (19 : Int32) (0 : Int32) (3 : Int32) (1 : Int32) (0 : Int32) = some ((10 : Int32), M1) := by rw [act_19, if_pos rfl]; exact hnd_r hd1
  refine kL_85 C hml hl.1 (c_L_act hlf hc) ⟨Nat.le_of_ble_eq_true rfl, Nat.le_of_ble_eq_true rfl⟩ ⟨by show _ ≤ 4189; omega, by show _ ≤ 25467; omega⟩ (Nat.le_of_ble_eq_true rfl) hS hW dL_partly_469 (fun H locs hW hS => ?_)
  refine lv_iload_n hx hb dL_partly_472 rfl (lv_at hl 0 rfl) ?_
  refine lv_bipush (v := (30 : Int32)) hx hb dL_partly_473 (by decide) ?_
  refine lv_icmp_ge (tgt := 482) hx hb dL_partly_475 (by decide) (fun c => absurd c (by decide)) (fun _ => ?_)
  refine lv_iload_n hx hb dL_partly_478 rfl (lv_at hl 0 rfl) ?_
  refine lv_goto (tgt := 485) hx hb dL_partly_479 (by decide) ?_
  refine lv_icmp_eq (tgt := 490) hx hb dL_partly_485 (by decide) (fun _ => ?_) (fun c => absurd (by decide) c)
  refine lv_iinc (v := (11 : Int32)) (lv' := [(1, .int (11 : Int32)), (0, .ref (b + 0))]) hx hb dL_partly_490 hl (k := 0) rfl (by decide) (by decide) rfl (fun ls hl => ?_)
  refine lv_goto (tgt := 456) hx hb dL_partly_493 (by decide) ?_
  refine lv_iload_n hx hb dL_partly_456 rfl (lv_at hl 0 rfl) ?_
  refine lv_bipush (v := (31 : Int32)) hx hb dL_partly_457 (by decide) ?_
  refine lv_icmp_ge (tgt := 496) hx hb dL_partly_459 (by decide) (fun c => absurd c (by decide)) (fun _ => ?_)
  exact t_partly_70 C hml hr hlk hlf h1 hS hW (lv_sub hl [0, 1] rfl) ⟨by omega, by omega⟩
set_option maxHeartbeats 4000000 in
set_option maxRecDepth 100000 in
theorem t_partly_68 {p : Program} {l : Launch} {e : Env} {s : State} {m : MethodId} {args : Array Value} {below : List Frame} {meth : Method} {c : Code} {Z : Zt} {b : Nat} (C : Cx p s m args c cL_partly RL Z b) (hml : c.maxLocals = 2) (hr : meth.sig.returnType = some .boolean) (hlk : meth.locks = false) (hlf : l.stackTraces = false) {M : Mem} (h : RS M V132) {H : Heap} {locs : List Loc} {ls : Array Slot} {cells slots : Nat} (hS : va_S (A0 b) s.heap H locs) (hW : Wd Z b M H) (hl : lv_has ls 2 [(1, .int (8 : Int32)), (0, .ref (b + 0))]) (hcs : cells + 1920 ≤ 4189 ∧ slots + 11520 ≤ 25467) : W p l e rm_L_partly s m args below meth c H locs cells slots (MQ below (QT b) args s 4189 25467 (A0 b)) (F0 m 462 ls []) := by
  have hx := C.1
  have hb := C.2.1
  refine lv_aload_n hx hb dL_partly_462 rfl (lv_at hl 1 rfl) ?_
  refine lv_bipush (v := (19 : Int32)) hx hb dL_partly_463 (by decide) ?_
  refine lv_iconst (v := (0 : Int32)) hx hb dL_partly_465 (by decide) ?_
  refine lv_iconst (v := (3 : Int32)) hx hb dL_partly_466 (by decide) ?_
  refine lv_iconst (v := (1 : Int32)) hx hb dL_partly_467 (by decide) ?_
  refine lv_iconst (v := (0 : Int32)) hx hb dL_partly_468 (by decide) ?_
  obtain ⟨M1, hd1, h1⟩ := s_lock V133 (8 : Int32) true true (c := (0 : Int32)) (x := (3 : Int32)) (y := (10 : Int32)) (tks := (0 : Int32)) h (by decide +kernel)
  have hc : f_L_act M (19 : Int32) (0 : Int32) (3 : Int32) (1 : Int32) (0 : Int32) = some ((8 : Int32), M1) := by rw [act_19, if_pos rfl]; exact hnd_r hd1
  refine kL_85 C hml hl.1 (c_L_act hlf hc) ⟨Nat.le_of_ble_eq_true rfl, Nat.le_of_ble_eq_true rfl⟩ ⟨by show _ ≤ 4189; omega, by show _ ≤ 25467; omega⟩ (Nat.le_of_ble_eq_true rfl) hS hW dL_partly_469 (fun H locs hW hS => ?_)
  refine lv_iload_n hx hb dL_partly_472 rfl (lv_at hl 0 rfl) ?_
  refine lv_bipush (v := (30 : Int32)) hx hb dL_partly_473 (by decide) ?_
  refine lv_icmp_ge (tgt := 482) hx hb dL_partly_475 (by decide) (fun c => absurd c (by decide)) (fun _ => ?_)
  refine lv_iload_n hx hb dL_partly_478 rfl (lv_at hl 0 rfl) ?_
  refine lv_goto (tgt := 485) hx hb dL_partly_479 (by decide) ?_
  refine lv_icmp_eq (tgt := 490) hx hb dL_partly_485 (by decide) (fun _ => ?_) (fun c => absurd (by decide) c)
  refine lv_iinc (v := (9 : Int32)) (lv' := [(1, .int (9 : Int32)), (0, .ref (b + 0))]) hx hb dL_partly_490 hl (k := 0) rfl (by decide) (by decide) rfl (fun ls hl => ?_)
  refine lv_goto (tgt := 456) hx hb dL_partly_493 (by decide) ?_
  refine lv_iload_n hx hb dL_partly_456 rfl (lv_at hl 0 rfl) ?_
  refine lv_bipush (v := (31 : Int32)) hx hb dL_partly_457 (by decide) ?_
  refine lv_icmp_ge (tgt := 496) hx hb dL_partly_459 (by decide) (fun c => absurd c (by decide)) (fun _ => ?_)
  refine lv_aload_n hx hb dL_partly_462 rfl (lv_at hl 1 rfl) ?_
  refine lv_bipush (v := (19 : Int32)) hx hb dL_partly_463 (by decide) ?_
  refine lv_iconst (v := (0 : Int32)) hx hb dL_partly_465 (by decide) ?_
  refine lv_iconst (v := (3 : Int32)) hx hb dL_partly_466 (by decide) ?_
  refine lv_iconst (v := (1 : Int32)) hx hb dL_partly_467 (by decide) ?_
  refine lv_iconst (v := (0 : Int32)) hx hb dL_partly_468 (by decide) ?_
  obtain ⟨M2, hd2, h2⟩ := s_lock V134 (9 : Int32) true true (c := (0 : Int32)) (x := (3 : Int32)) (y := (10 : Int32)) (tks := (0 : Int32)) h1 (by decide +kernel)
  have hc : f_L_act M1 (19 : Int32) (0 : Int32) (3 : Int32) (1 : Int32) (0 : Int32) = some ((9 : Int32), M2) := by rw [act_19, if_pos rfl]; exact hnd_r hd2
  refine kL_85 C hml hl.1 (c_L_act hlf hc) ⟨Nat.le_of_ble_eq_true rfl, Nat.le_of_ble_eq_true rfl⟩ ⟨by show _ ≤ 4189; omega, by show _ ≤ 25467; omega⟩ (Nat.le_of_ble_eq_true rfl) hS hW dL_partly_469 (fun H locs hW hS => ?_)
  refine lv_iload_n hx hb dL_partly_472 rfl (lv_at hl 0 rfl) ?_
  refine lv_bipush (v := (30 : Int32)) hx hb dL_partly_473 (by decide) ?_
  refine lv_icmp_ge (tgt := 482) hx hb dL_partly_475 (by decide) (fun c => absurd c (by decide)) (fun _ => ?_)
  exact t_partly_69 C hml hr hlk hlf h2 hS hW (lv_sub hl [0, 1] rfl) ⟨by omega, by omega⟩
set_option maxHeartbeats 4000000 in
set_option maxRecDepth 100000 in
theorem t_partly_67 {p : Program} {l : Launch} {e : Env} {s : State} {m : MethodId} {args : Array Value} {below : List Frame} {meth : Method} {c : Code} {Z : Zt} {b : Nat} (C : Cx p s m args c cL_partly RL Z b) (hml : c.maxLocals = 2) (hr : meth.sig.returnType = some .boolean) (hlk : meth.locks = false) (hlf : l.stackTraces = false) {M : Mem} (h : RS M V131) {H : Heap} {locs : List Loc} {ls : Array Slot} {cells slots : Nat} (hS : va_S (A0 b) s.heap H locs) (hW : Wd Z b M H) (hl : lv_has ls 2 [(1, .int (6 : Int32)), (0, .ref (b + 0))]) (hcs : cells + 1927 ≤ 4189 ∧ slots + 11562 ≤ 25467) : W p l e rm_L_partly s m args below meth c H locs cells slots (MQ below (QT b) args s 4189 25467 (A0 b)) (F0 m 478 ls [.int (6 : Int32)]) := by
  have hx := C.1
  have hb := C.2.1
  refine lv_iload_n hx hb dL_partly_478 rfl (lv_at hl 0 rfl) ?_
  refine lv_goto (tgt := 485) hx hb dL_partly_479 (by decide) ?_
  refine lv_icmp_eq (tgt := 490) hx hb dL_partly_485 (by decide) (fun _ => ?_) (fun c => absurd (by decide) c)
  refine lv_iinc (v := (7 : Int32)) (lv' := [(1, .int (7 : Int32)), (0, .ref (b + 0))]) hx hb dL_partly_490 hl (k := 0) rfl (by decide) (by decide) rfl (fun ls hl => ?_)
  refine lv_goto (tgt := 456) hx hb dL_partly_493 (by decide) ?_
  refine lv_iload_n hx hb dL_partly_456 rfl (lv_at hl 0 rfl) ?_
  refine lv_bipush (v := (31 : Int32)) hx hb dL_partly_457 (by decide) ?_
  refine lv_icmp_ge (tgt := 496) hx hb dL_partly_459 (by decide) (fun c => absurd c (by decide)) (fun _ => ?_)
  refine lv_aload_n hx hb dL_partly_462 rfl (lv_at hl 1 rfl) ?_
  refine lv_bipush (v := (19 : Int32)) hx hb dL_partly_463 (by decide) ?_
  refine lv_iconst (v := (0 : Int32)) hx hb dL_partly_465 (by decide) ?_
  refine lv_iconst (v := (3 : Int32)) hx hb dL_partly_466 (by decide) ?_
  refine lv_iconst (v := (1 : Int32)) hx hb dL_partly_467 (by decide) ?_
  refine lv_iconst (v := (0 : Int32)) hx hb dL_partly_468 (by decide) ?_
  obtain ⟨M1, hd1, h1⟩ := s_lock V132 (7 : Int32) true true (c := (0 : Int32)) (x := (3 : Int32)) (y := (10 : Int32)) (tks := (0 : Int32)) h (by decide +kernel)
  have hc : f_L_act M (19 : Int32) (0 : Int32) (3 : Int32) (1 : Int32) (0 : Int32) = some ((7 : Int32), M1) := by rw [act_19, if_pos rfl]; exact hnd_r hd1
  refine kL_85 C hml hl.1 (c_L_act hlf hc) ⟨Nat.le_of_ble_eq_true rfl, Nat.le_of_ble_eq_true rfl⟩ ⟨by show _ ≤ 4189; omega, by show _ ≤ 25467; omega⟩ (Nat.le_of_ble_eq_true rfl) hS hW dL_partly_469 (fun H locs hW hS => ?_)
  refine lv_iload_n hx hb dL_partly_472 rfl (lv_at hl 0 rfl) ?_
  refine lv_bipush (v := (30 : Int32)) hx hb dL_partly_473 (by decide) ?_
  refine lv_icmp_ge (tgt := 482) hx hb dL_partly_475 (by decide) (fun c => absurd c (by decide)) (fun _ => ?_)
  refine lv_iload_n hx hb dL_partly_478 rfl (lv_at hl 0 rfl) ?_
  refine lv_goto (tgt := 485) hx hb dL_partly_479 (by decide) ?_
  refine lv_icmp_eq (tgt := 490) hx hb dL_partly_485 (by decide) (fun _ => ?_) (fun c => absurd (by decide) c)
  refine lv_iinc (v := (8 : Int32)) (lv' := [(1, .int (8 : Int32)), (0, .ref (b + 0))]) hx hb dL_partly_490 hl (k := 0) rfl (by decide) (by decide) rfl (fun ls hl => ?_)
  refine lv_goto (tgt := 456) hx hb dL_partly_493 (by decide) ?_
  refine lv_iload_n hx hb dL_partly_456 rfl (lv_at hl 0 rfl) ?_
  refine lv_bipush (v := (31 : Int32)) hx hb dL_partly_457 (by decide) ?_
  refine lv_icmp_ge (tgt := 496) hx hb dL_partly_459 (by decide) (fun c => absurd c (by decide)) (fun _ => ?_)
  exact t_partly_68 C hml hr hlk hlf h1 hS hW (lv_sub hl [0, 1] rfl) ⟨by omega, by omega⟩
set_option maxHeartbeats 4000000 in
set_option maxRecDepth 100000 in
theorem t_partly_66 {p : Program} {l : Launch} {e : Env} {s : State} {m : MethodId} {args : Array Value} {below : List Frame} {meth : Method} {c : Code} {Z : Zt} {b : Nat} (C : Cx p s m args c cL_partly RL Z b) (hml : c.maxLocals = 2) (hr : meth.sig.returnType = some .boolean) (hlk : meth.locks = false) (hlf : l.stackTraces = false) {M : Mem} (h : RS M V129) {H : Heap} {locs : List Loc} {ls : Array Slot} {cells slots : Nat} (hS : va_S (A0 b) s.heap H locs) (hW : Wd Z b M H) (hl : lv_has ls 2 [(1, .int (5 : Int32)), (0, .ref (b + 0))]) (hcs : cells + 1941 ≤ 4189 ∧ slots + 11646 ≤ 25467) : W p l e rm_L_partly s m args below meth c H locs cells slots (MQ below (QT b) args s 4189 25467 (A0 b)) (F0 m 462 ls []) := by
  have hx := C.1
  have hb := C.2.1
  refine lv_aload_n hx hb dL_partly_462 rfl (lv_at hl 1 rfl) ?_
  refine lv_bipush (v := (19 : Int32)) hx hb dL_partly_463 (by decide) ?_
  refine lv_iconst (v := (0 : Int32)) hx hb dL_partly_465 (by decide) ?_
  refine lv_iconst (v := (3 : Int32)) hx hb dL_partly_466 (by decide) ?_
  refine lv_iconst (v := (1 : Int32)) hx hb dL_partly_467 (by decide) ?_
  refine lv_iconst (v := (0 : Int32)) hx hb dL_partly_468 (by decide) ?_
  obtain ⟨M1, hd1, h1⟩ := s_lock V130 (5 : Int32) true true (c := (0 : Int32)) (x := (3 : Int32)) (y := (10 : Int32)) (tks := (0 : Int32)) h (by decide +kernel)
  have hc : f_L_act M (19 : Int32) (0 : Int32) (3 : Int32) (1 : Int32) (0 : Int32) = some ((5 : Int32), M1) := by rw [act_19, if_pos rfl]; exact hnd_r hd1
  refine kL_85 C hml hl.1 (c_L_act hlf hc) ⟨Nat.le_of_ble_eq_true rfl, Nat.le_of_ble_eq_true rfl⟩ ⟨by show _ ≤ 4189; omega, by show _ ≤ 25467; omega⟩ (Nat.le_of_ble_eq_true rfl) hS hW dL_partly_469 (fun H locs hW hS => ?_)
  refine lv_iload_n hx hb dL_partly_472 rfl (lv_at hl 0 rfl) ?_
  refine lv_bipush (v := (30 : Int32)) hx hb dL_partly_473 (by decide) ?_
  refine lv_icmp_ge (tgt := 482) hx hb dL_partly_475 (by decide) (fun c => absurd c (by decide)) (fun _ => ?_)
  refine lv_iload_n hx hb dL_partly_478 rfl (lv_at hl 0 rfl) ?_
  refine lv_goto (tgt := 485) hx hb dL_partly_479 (by decide) ?_
  refine lv_icmp_eq (tgt := 490) hx hb dL_partly_485 (by decide) (fun _ => ?_) (fun c => absurd (by decide) c)
  refine lv_iinc (v := (6 : Int32)) (lv' := [(1, .int (6 : Int32)), (0, .ref (b + 0))]) hx hb dL_partly_490 hl (k := 0) rfl (by decide) (by decide) rfl (fun ls hl => ?_)
  refine lv_goto (tgt := 456) hx hb dL_partly_493 (by decide) ?_
  refine lv_iload_n hx hb dL_partly_456 rfl (lv_at hl 0 rfl) ?_
  refine lv_bipush (v := (31 : Int32)) hx hb dL_partly_457 (by decide) ?_
  refine lv_icmp_ge (tgt := 496) hx hb dL_partly_459 (by decide) (fun c => absurd c (by decide)) (fun _ => ?_)
  refine lv_aload_n hx hb dL_partly_462 rfl (lv_at hl 1 rfl) ?_
  refine lv_bipush (v := (19 : Int32)) hx hb dL_partly_463 (by decide) ?_
  refine lv_iconst (v := (0 : Int32)) hx hb dL_partly_465 (by decide) ?_
  refine lv_iconst (v := (3 : Int32)) hx hb dL_partly_466 (by decide) ?_
  refine lv_iconst (v := (1 : Int32)) hx hb dL_partly_467 (by decide) ?_
  refine lv_iconst (v := (0 : Int32)) hx hb dL_partly_468 (by decide) ?_
  obtain ⟨M2, hd2, h2⟩ := s_lock V131 (6 : Int32) true true (c := (0 : Int32)) (x := (3 : Int32)) (y := (10 : Int32)) (tks := (0 : Int32)) h1 (by decide +kernel)
  have hc : f_L_act M1 (19 : Int32) (0 : Int32) (3 : Int32) (1 : Int32) (0 : Int32) = some ((6 : Int32), M2) := by rw [act_19, if_pos rfl]; exact hnd_r hd2
  refine kL_85 C hml hl.1 (c_L_act hlf hc) ⟨Nat.le_of_ble_eq_true rfl, Nat.le_of_ble_eq_true rfl⟩ ⟨by show _ ≤ 4189; omega, by show _ ≤ 25467; omega⟩ (Nat.le_of_ble_eq_true rfl) hS hW dL_partly_469 (fun H locs hW hS => ?_)
  refine lv_iload_n hx hb dL_partly_472 rfl (lv_at hl 0 rfl) ?_
  refine lv_bipush (v := (30 : Int32)) hx hb dL_partly_473 (by decide) ?_
  refine lv_icmp_ge (tgt := 482) hx hb dL_partly_475 (by decide) (fun c => absurd c (by decide)) (fun _ => ?_)
  exact t_partly_67 C hml hr hlk hlf h2 hS hW (lv_sub hl [0, 1] rfl) ⟨by omega, by omega⟩
set_option maxHeartbeats 4000000 in
set_option maxRecDepth 100000 in
theorem t_partly_65 {p : Program} {l : Launch} {e : Env} {s : State} {m : MethodId} {args : Array Value} {below : List Frame} {meth : Method} {c : Code} {Z : Zt} {b : Nat} (C : Cx p s m args c cL_partly RL Z b) (hml : c.maxLocals = 2) (hr : meth.sig.returnType = some .boolean) (hlk : meth.locks = false) (hlf : l.stackTraces = false) {M : Mem} (h : RS M V128) {H : Heap} {locs : List Loc} {ls : Array Slot} {cells slots : Nat} (hS : va_S (A0 b) s.heap H locs) (hW : Wd Z b M H) (hl : lv_has ls 2 [(1, .int (3 : Int32)), (0, .ref (b + 0))]) (hcs : cells + 1948 ≤ 4189 ∧ slots + 11688 ≤ 25467) : W p l e rm_L_partly s m args below meth c H locs cells slots (MQ below (QT b) args s 4189 25467 (A0 b)) (F0 m 478 ls [.int (3 : Int32)]) := by
  have hx := C.1
  have hb := C.2.1
  refine lv_iload_n hx hb dL_partly_478 rfl (lv_at hl 0 rfl) ?_
  refine lv_goto (tgt := 485) hx hb dL_partly_479 (by decide) ?_
  refine lv_icmp_eq (tgt := 490) hx hb dL_partly_485 (by decide) (fun _ => ?_) (fun c => absurd (by decide) c)
  refine lv_iinc (v := (4 : Int32)) (lv' := [(1, .int (4 : Int32)), (0, .ref (b + 0))]) hx hb dL_partly_490 hl (k := 0) rfl (by decide) (by decide) rfl (fun ls hl => ?_)
  refine lv_goto (tgt := 456) hx hb dL_partly_493 (by decide) ?_
  refine lv_iload_n hx hb dL_partly_456 rfl (lv_at hl 0 rfl) ?_
  refine lv_bipush (v := (31 : Int32)) hx hb dL_partly_457 (by decide) ?_
  refine lv_icmp_ge (tgt := 496) hx hb dL_partly_459 (by decide) (fun c => absurd c (by decide)) (fun _ => ?_)
  refine lv_aload_n hx hb dL_partly_462 rfl (lv_at hl 1 rfl) ?_
  refine lv_bipush (v := (19 : Int32)) hx hb dL_partly_463 (by decide) ?_
  refine lv_iconst (v := (0 : Int32)) hx hb dL_partly_465 (by decide) ?_
  refine lv_iconst (v := (3 : Int32)) hx hb dL_partly_466 (by decide) ?_
  refine lv_iconst (v := (1 : Int32)) hx hb dL_partly_467 (by decide) ?_
  refine lv_iconst (v := (0 : Int32)) hx hb dL_partly_468 (by decide) ?_
  obtain ⟨M1, hd1, h1⟩ := s_lock V129 (4 : Int32) true true (c := (0 : Int32)) (x := (3 : Int32)) (y := (10 : Int32)) (tks := (0 : Int32)) h (by decide +kernel)
  have hc : f_L_act M (19 : Int32) (0 : Int32) (3 : Int32) (1 : Int32) (0 : Int32) = some ((4 : Int32), M1) := by rw [act_19, if_pos rfl]; exact hnd_r hd1
  refine kL_85 C hml hl.1 (c_L_act hlf hc) ⟨Nat.le_of_ble_eq_true rfl, Nat.le_of_ble_eq_true rfl⟩ ⟨by show _ ≤ 4189; omega, by show _ ≤ 25467; omega⟩ (Nat.le_of_ble_eq_true rfl) hS hW dL_partly_469 (fun H locs hW hS => ?_)
  refine lv_iload_n hx hb dL_partly_472 rfl (lv_at hl 0 rfl) ?_
  refine lv_bipush (v := (30 : Int32)) hx hb dL_partly_473 (by decide) ?_
  refine lv_icmp_ge (tgt := 482) hx hb dL_partly_475 (by decide) (fun c => absurd c (by decide)) (fun _ => ?_)
  refine lv_iload_n hx hb dL_partly_478 rfl (lv_at hl 0 rfl) ?_
  refine lv_goto (tgt := 485) hx hb dL_partly_479 (by decide) ?_
  refine lv_icmp_eq (tgt := 490) hx hb dL_partly_485 (by decide) (fun _ => ?_) (fun c => absurd (by decide) c)
  refine lv_iinc (v := (5 : Int32)) (lv' := [(1, .int (5 : Int32)), (0, .ref (b + 0))]) hx hb dL_partly_490 hl (k := 0) rfl (by decide) (by decide) rfl (fun ls hl => ?_)
  refine lv_goto (tgt := 456) hx hb dL_partly_493 (by decide) ?_
  refine lv_iload_n hx hb dL_partly_456 rfl (lv_at hl 0 rfl) ?_
  refine lv_bipush (v := (31 : Int32)) hx hb dL_partly_457 (by decide) ?_
  refine lv_icmp_ge (tgt := 496) hx hb dL_partly_459 (by decide) (fun c => absurd c (by decide)) (fun _ => ?_)
  exact t_partly_66 C hml hr hlk hlf h1 hS hW (lv_sub hl [0, 1] rfl) ⟨by omega, by omega⟩
set_option maxHeartbeats 4000000 in
set_option maxRecDepth 100000 in
theorem t_partly_64 {p : Program} {l : Launch} {e : Env} {s : State} {m : MethodId} {args : Array Value} {below : List Frame} {meth : Method} {c : Code} {Z : Zt} {b : Nat} (C : Cx p s m args c cL_partly RL Z b) (hml : c.maxLocals = 2) (hr : meth.sig.returnType = some .boolean) (hlk : meth.locks = false) (hlf : l.stackTraces = false) {M : Mem} (h : RS M V126) {H : Heap} {locs : List Loc} {ls : Array Slot} {cells slots : Nat} (hS : va_S (A0 b) s.heap H locs) (hW : Wd Z b M H) (hl : lv_has ls 2 [(1, .int (61 : Int32)), (0, .ref (b + 0))]) (hcs : cells + 1963 ≤ 4189 ∧ slots + 11778 ≤ 25467) : W p l e rm_L_partly s m args below meth c H locs cells slots (MQ below (QT b) args s 4189 25467 (A0 b)) (F0 m 421 ls []) := by
  have hx := C.1
  have hb := C.2.1
  refine lv_aload_n hx hb dL_partly_421 rfl (lv_at hl 1 rfl) ?_
  refine lv_iconst (v := (0 : Int32)) hx hb dL_partly_422 (by decide) ?_
  refine lv_iconst (v := (1 : Int32)) hx hb dL_partly_423 (by decide) ?_
  refine lv_iconst (v := (2 : Int32)) hx hb dL_partly_424 (by decide) ?_
  refine lv_iconst (v := (0 : Int32)) hx hb dL_partly_425 (by decide) ?_
  refine lv_iconst (v := (0 : Int32)) hx hb dL_partly_426 (by decide) ?_
  obtain ⟨M1, hc1, h1⟩ := s_copy V127 (0 : Int32) false (c := (0 : Int32)) (x := (1 : Int32)) (y := (2 : Int32)) (tks := (0 : Int32)) h (by decide +kernel)
  have hc1 : f_X4_copy M (0 : Int32) (1 : Int32) (2 : Int32) (0 : Int32) (0 : Int32) = some (.inr (0 : Int32), M1) := hc1
  refine kL_24R C hml hl.1 (c_X4_copy hlf hc1) ⟨Nat.le_of_ble_eq_true rfl, Nat.le_of_ble_eq_true rfl⟩ ⟨by show _ ≤ 4189; omega, by show _ ≤ 25467; omega⟩ (Nat.le_of_ble_eq_true rfl) hS hW dL_partly_427 (fun H locs hW hS => ?_)
  refine lv_if_ne (tgt := 452) hx hb dL_partly_430 (by decide) (fun c => absurd (by decide) c) (fun _ => ?_)
  refine lv_aload_n hx hb dL_partly_433 rfl (lv_at hl 1 rfl) ?_
  refine lv_iconst (v := (2 : Int32)) hx hb dL_partly_434 (by decide) ?_
  have hc : f_X4_members M1 (2 : Int32) = some (.inr (9 : Int32), M1) := s_members h1 (by decide +kernel)
  refine kL_37R C hml hl.1 (c_X4_members hlf hc) ⟨Nat.le_of_ble_eq_true rfl, Nat.le_of_ble_eq_true rfl⟩ ⟨by show _ ≤ 4189; omega, by show _ ≤ 25467; omega⟩ (Nat.le_of_ble_eq_true rfl) hS hW dL_partly_435 (fun H locs hW hS => ?_)
  refine lv_bipush (v := (9 : Int32)) hx hb dL_partly_438 (by decide) ?_
  refine lv_icmp_ne (tgt := 452) hx hb dL_partly_440 (by decide) (fun c => absurd (by decide) c) (fun _ => ?_)
  refine lv_aload_n hx hb dL_partly_443 rfl (lv_at hl 1 rfl) ?_
  have hc : f_X4_resources M1 = some ((60 : Int32), M1) := s_resources h1 (by decide +kernel)
  refine kL_77 C hml hl.1 (c_X4_resources hc) ⟨Nat.le_of_ble_eq_true rfl, Nat.le_of_ble_eq_true rfl⟩ ⟨by show _ ≤ 4189; omega, by show _ ≤ 25467; omega⟩ (Nat.le_of_ble_eq_true rfl) hS hW dL_partly_444 (fun H locs hW hS => ?_)
  refine lv_bipush (v := (60 : Int32)) hx hb dL_partly_447 (by decide) ?_
  refine lv_icmp_eq (tgt := 454) hx hb dL_partly_449 (by decide) (fun _ => ?_) (fun c => absurd (by decide) c)
  refine lv_iconst (v := (3 : Int32)) hx hb dL_partly_454 (by decide) ?_
  refine lv_istore_n (lv' := [(1, .int (3 : Int32)), (0, .ref (b + 0))]) hx hb dL_partly_455 rfl hl (by decide) rfl (fun ls hl => ?_)
  refine lv_iload_n hx hb dL_partly_456 rfl (lv_at hl 0 rfl) ?_
  refine lv_bipush (v := (31 : Int32)) hx hb dL_partly_457 (by decide) ?_
  refine lv_icmp_ge (tgt := 496) hx hb dL_partly_459 (by decide) (fun c => absurd c (by decide)) (fun _ => ?_)
  refine lv_aload_n hx hb dL_partly_462 rfl (lv_at hl 1 rfl) ?_
  refine lv_bipush (v := (19 : Int32)) hx hb dL_partly_463 (by decide) ?_
  refine lv_iconst (v := (0 : Int32)) hx hb dL_partly_465 (by decide) ?_
  refine lv_iconst (v := (3 : Int32)) hx hb dL_partly_466 (by decide) ?_
  refine lv_iconst (v := (1 : Int32)) hx hb dL_partly_467 (by decide) ?_
  refine lv_iconst (v := (0 : Int32)) hx hb dL_partly_468 (by decide) ?_
  obtain ⟨M2, hd2, h2⟩ := s_lock V128 (3 : Int32) true true (c := (0 : Int32)) (x := (3 : Int32)) (y := (10 : Int32)) (tks := (0 : Int32)) h1 (by decide +kernel)
  have hc : f_L_act M1 (19 : Int32) (0 : Int32) (3 : Int32) (1 : Int32) (0 : Int32) = some ((3 : Int32), M2) := by rw [act_19, if_pos rfl]; exact hnd_r hd2
  refine kL_85 C hml hl.1 (c_L_act hlf hc) ⟨Nat.le_of_ble_eq_true rfl, Nat.le_of_ble_eq_true rfl⟩ ⟨by show _ ≤ 4189; omega, by show _ ≤ 25467; omega⟩ (Nat.le_of_ble_eq_true rfl) hS hW dL_partly_469 (fun H locs hW hS => ?_)
  refine lv_iload_n hx hb dL_partly_472 rfl (lv_at hl 0 rfl) ?_
  refine lv_bipush (v := (30 : Int32)) hx hb dL_partly_473 (by decide) ?_
  refine lv_icmp_ge (tgt := 482) hx hb dL_partly_475 (by decide) (fun c => absurd c (by decide)) (fun _ => ?_)
  exact t_partly_65 C hml hr hlk hlf h2 hS hW (lv_sub hl [0, 1] rfl) ⟨by omega, by omega⟩
set_option maxHeartbeats 4000000 in
set_option maxRecDepth 100000 in
theorem t_partly_63 {p : Program} {l : Launch} {e : Env} {s : State} {m : MethodId} {args : Array Value} {below : List Frame} {meth : Method} {c : Code} {Z : Zt} {b : Nat} (C : Cx p s m args c cL_partly RL Z b) (hml : c.maxLocals = 2) (hr : meth.sig.returnType = some .boolean) (hlk : meth.locks = false) (hlf : l.stackTraces = false) {M : Mem} (h : RS M V124) {H : Heap} {locs : List Loc} {ls : Array Slot} {cells slots : Nat} (hS : va_S (A0 b) s.heap H locs) (hW : Wd Z b M H) (hl : lv_has ls 2 [(1, .int (61 : Int32)), (0, .ref (b + 0))]) (hcs : cells + 1981 ≤ 4189 ∧ slots + 11886 ≤ 25467) : W p l e rm_L_partly s m args below meth c H locs cells slots (MQ below (QT b) args s 4189 25467 (A0 b)) (F0 m 374 ls []) := by
  have hx := C.1
  have hb := C.2.1
  refine lv_aload_n hx hb dL_partly_374 rfl (lv_at hl 1 rfl) ?_
  refine lv_iconst (v := (0 : Int32)) hx hb dL_partly_375 (by decide) ?_
  refine lv_iconst (v := (1 : Int32)) hx hb dL_partly_376 (by decide) ?_
  refine lv_bipush (v := (9 : Int32)) hx hb dL_partly_377 (by decide) ?_
  refine lv_iconst (v := (1 : Int32)) hx hb dL_partly_379 (by decide) ?_
  refine lv_iconst (v := (0 : Int32)) hx hb dL_partly_380 (by decide) ?_
  obtain ⟨M1, hc1, h1⟩ := s_copy V124 (5 : Int32) true (c := (0 : Int32)) (x := (1 : Int32)) (y := (9 : Int32)) (tks := (0 : Int32)) h (by decide +kernel)
  have hc1 : f_X4_copy M (0 : Int32) (1 : Int32) (9 : Int32) (1 : Int32) (0 : Int32) = some (.inr (5 : Int32), M1) := hc1
  refine kL_24R C hml hl.1 (c_X4_copy hlf hc1) ⟨Nat.le_of_ble_eq_true rfl, Nat.le_of_ble_eq_true rfl⟩ ⟨by show _ ≤ 4189; omega, by show _ ≤ 25467; omega⟩ (Nat.le_of_ble_eq_true rfl) hS hW dL_partly_381 (fun H locs hW hS => ?_)
  refine lv_iconst (v := (5 : Int32)) hx hb dL_partly_384 (by decide) ?_
  refine lv_icmp_ne (tgt := 452) hx hb dL_partly_385 (by decide) (fun c => absurd (by decide) c) (fun _ => ?_)
  refine lv_aload_n hx hb dL_partly_388 rfl (lv_at hl 1 rfl) ?_
  refine lv_iconst (v := (0 : Int32)) hx hb dL_partly_389 (by decide) ?_
  refine lv_bipush (v := (61 : Int32)) hx hb dL_partly_390 (by decide) ?_
  refine lv_bipush (v := (67 : Int32)) hx hb dL_partly_392 (by decide) ?_
  refine lv_iconst (v := (0 : Int32)) hx hb dL_partly_394 (by decide) ?_
  refine lv_iconst (v := (0 : Int32)) hx hb dL_partly_395 (by decide) ?_
  obtain ⟨M2, hc2, h2⟩ := s_move V125 (0 : Int32) false (c := (0 : Int32)) (x := (61 : Int32)) (y := (67 : Int32)) (tks := (0 : Int32)) h1 (by decide +kernel)
  have hc2 : f_X4_move M1 (0 : Int32) (61 : Int32) (67 : Int32) (0 : Int32) (0 : Int32) = some (.inr (0 : Int32), M2) := hc2
  refine kL_28R C hml hl.1 (c_X4_move hlf hc2) ⟨Nat.le_of_ble_eq_true rfl, Nat.le_of_ble_eq_true rfl⟩ ⟨by show _ ≤ 4189; omega, by show _ ≤ 25467; omega⟩ (Nat.le_of_ble_eq_true rfl) hS hW dL_partly_396 (fun H locs hW hS => ?_)
  refine lv_if_ne (tgt := 452) hx hb dL_partly_399 (by decide) (fun c => absurd (by decide) c) (fun _ => ?_)
  refine lv_aload_n hx hb dL_partly_402 rfl (lv_at hl 1 rfl) ?_
  refine lv_iconst (v := (0 : Int32)) hx hb dL_partly_403 (by decide) ?_
  refine lv_iconst (v := (2 : Int32)) hx hb dL_partly_404 (by decide) ?_
  refine lv_iconst (v := (0 : Int32)) hx hb dL_partly_405 (by decide) ?_
  obtain ⟨M3, hc3, h3⟩ := s_delete V126 (0 : Int32) true (c := (0 : Int32)) (x := (2 : Int32)) (tks := (0 : Int32)) h2 (by decide +kernel)
  have hc3 : f_X4_delete M2 (0 : Int32) (2 : Int32) (0 : Int32) = some (.inr (0 : Int32), M3) := hc3
  refine kL_17R C hml hl.1 (c_X4_delete hlf hc3) ⟨Nat.le_of_ble_eq_true rfl, Nat.le_of_ble_eq_true rfl⟩ ⟨by show _ ≤ 4189; omega, by show _ ≤ 25467; omega⟩ (Nat.le_of_ble_eq_true rfl) hS hW dL_partly_406 (fun H locs hW hS => ?_)
  refine lv_if_ne (tgt := 452) hx hb dL_partly_409 (by decide) (fun c => absurd (by decide) c) (fun _ => ?_)
  refine lv_aload_n hx hb dL_partly_412 rfl (lv_at hl 1 rfl) ?_
  have hc : f_X4_resources M3 = some ((50 : Int32), M3) := s_resources h3 (by decide +kernel)
  refine kL_77 C hml hl.1 (c_X4_resources hc) ⟨Nat.le_of_ble_eq_true rfl, Nat.le_of_ble_eq_true rfl⟩ ⟨by show _ ≤ 4189; omega, by show _ ≤ 25467; omega⟩ (Nat.le_of_ble_eq_true rfl) hS hW dL_partly_413 (fun H locs hW hS => ?_)
  refine lv_bipush (v := (50 : Int32)) hx hb dL_partly_416 (by decide) ?_
  refine lv_icmp_ne (tgt := 452) hx hb dL_partly_418 (by decide) (fun c => absurd (by decide) c) (fun _ => ?_)
  exact t_partly_64 C hml hr hlk hlf h3 hS hW (lv_sub hl [0, 1] rfl) ⟨by omega, by omega⟩

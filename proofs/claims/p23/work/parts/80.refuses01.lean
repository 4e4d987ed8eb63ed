set_option maxHeartbeats 4000000 in
set_option maxRecDepth 100000 in
theorem t_refuses_39 {p : Program} {l : Launch} {e : Env} {s : State} {m : MethodId} {args : Array Value} {below : List Frame} {meth : Method} {c : Code} {Z : Zt} {b : Nat} (C : Cx p s m args c cL_refuses RL Z b) (hml : c.maxLocals = 17) (hr : meth.sig.returnType = some .boolean) (hlk : meth.locks = false) (hlf : l.stackTraces = false) {M : Mem} {τ : Tr} {k : Lk} {F : List Nat} (h : Rl M τ k F) {H : Heap} {locs : List Loc} {ls : Array Slot} {cells slots : Nat} (hS : va_S (A0 b) s.heap H locs) (hW : Wd Z b M H) (hl : lv_has ls 17 [(16, .int (5 : Int32)), (15, .int (1 : Int32)), (14, .int (2147483647 : Int32)), (13, .int (-2147483647 : Int32)), (12, .int (1011 : Int32)), (11, .int (2147483647 : Int32)), (10, .int (2147483647 : Int32)), (9, .int (2147483647 : Int32)), (8, .int (2 : Int32)), (7, .int (2147483647 : Int32)), (6, .int (-9002 : Int32)), (5, .int (-9001 : Int32)), (4, .int (ovl k (0 : Int32).toNatClampNeg)), (3, .int (nI F.length)), (2, .int (nI ((ta τ).filter (par (0 : Int32).toNatClampNeg)).length)), (1, .int (nI (ta τ).length)), (0, .ref (b + 0))]) (hcs : cells + 660 ≤ 1712 ∧ slots + 3960 ≤ 10272) : W p l e rm_L_refuses s m args below meth c H locs cells slots (MQ below (Qn Z b (some (.int 1)) M) args s 1712 10272 (A0 b)) (F0 m 536 ls []) := by
  have hx := C.1
  have hb := C.2.1
  refine lv_aload_n hx hb dL_refuses_536 rfl (lv_at hl 16 rfl) ?_
  refine lv_iload hx hb dL_refuses_537 (lv_at hl 0 rfl) ?_
  refine lv_iconst (v := (0 : Int32)) hx hb dL_refuses_539 (by decide) ?_
  refine lv_iload hx hb dL_refuses_540 (lv_at hl 5 rfl) ?_
  refine lv_iconst (v := (1 : Int32)) hx hb dL_refuses_542 (by decide) ?_
  refine lv_iconst (v := (0 : Int32)) hx hb dL_refuses_543 (by decide) ?_
  have hc : f_L_act M (5 : Int32) (0 : Int32) (2147483647 : Int32) (1 : Int32) (0 : Int32) = some ((-9002 : Int32), M) := n5 M (by decide)
  refine kL_85 C hml hl.1 (c_L_act hlf hc) ⟨Nat.le_of_ble_eq_true rfl, Nat.le_of_ble_eq_true rfl⟩ ⟨by show _ ≤ 1712; omega, by show _ ≤ 10272; omega⟩ (Nat.le_of_ble_eq_true rfl) hS hW dL_refuses_544 (fun H locs hW hS => ?_)
  refine lv_iload hx hb dL_refuses_547 (lv_at hl 10 rfl) ?_
  refine lv_icmp_ne (tgt := 603) hx hb dL_refuses_549 (by decide) (fun c => absurd (by decide) c) (fun _ => ?_)
  refine lv_aload_n hx hb dL_refuses_552 rfl (lv_at hl 16 rfl) ?_
  refine lv_iload hx hb dL_refuses_553 (lv_at hl 0 rfl) ?_
  refine lv_iconst (v := (0 : Int32)) hx hb dL_refuses_555 (by decide) ?_
  refine lv_iconst (v := (1 : Int32)) hx hb dL_refuses_556 (by decide) ?_
  refine lv_iconst (v := (1 : Int32)) hx hb dL_refuses_557 (by decide) ?_
  refine lv_iconst (v := (1 : Int32)) hx hb dL_refuses_558 (by decide) ?_
  have hc : f_L_act M (5 : Int32) (0 : Int32) (1 : Int32) (1 : Int32) (1 : Int32) = some ((-9002 : Int32), M) := n5 M (by decide)
  refine kL_85 C hml hl.1 (c_L_act hlf hc) ⟨Nat.le_of_ble_eq_true rfl, Nat.le_of_ble_eq_true rfl⟩ ⟨by show _ ≤ 1712; omega, by show _ ≤ 10272; omega⟩ (Nat.le_of_ble_eq_true rfl) hS hW dL_refuses_559 (fun H locs hW hS => ?_)
  refine lv_iload hx hb dL_refuses_562 (lv_at hl 10 rfl) ?_
  refine lv_icmp_ne (tgt := 603) hx hb dL_refuses_564 (by decide) (fun c => absurd (by decide) c) (fun _ => ?_)
  refine lv_aload_n hx hb dL_refuses_567 rfl (lv_at hl 16 rfl) ?_
  refine lv_iload hx hb dL_refuses_568 (lv_at hl 0 rfl) ?_
  refine lv_iconst (v := (0 : Int32)) hx hb dL_refuses_570 (by decide) ?_
  refine lv_iconst (v := (1 : Int32)) hx hb dL_refuses_571 (by decide) ?_
  refine lv_bipush (v := (12 : Int32)) hx hb dL_refuses_572 (by decide) ?_
  refine lv_iconst (v := (1 : Int32)) hx hb dL_refuses_574 (by decide) ?_
  have hc : f_L_act M (5 : Int32) (0 : Int32) (1 : Int32) (12 : Int32) (1 : Int32) = some ((-9002 : Int32), M) := n5 M (by decide)
  refine kL_85 C hml hl.1 (c_L_act hlf hc) ⟨Nat.le_of_ble_eq_true rfl, Nat.le_of_ble_eq_true rfl⟩ ⟨by show _ ≤ 1712; omega, by show _ ≤ 10272; omega⟩ (Nat.le_of_ble_eq_true rfl) hS hW dL_refuses_575 (fun H locs hW hS => ?_)
  refine lv_iload hx hb dL_refuses_578 (lv_at hl 10 rfl) ?_
  refine lv_icmp_ne (tgt := 603) hx hb dL_refuses_580 (by decide) (fun c => absurd (by decide) c) (fun _ => ?_)
  refine lv_aload_n hx hb dL_refuses_583 rfl (lv_at hl 16 rfl) ?_
  refine lv_iload hx hb dL_refuses_584 (lv_at hl 0 rfl) ?_
  refine lv_iconst (v := (0 : Int32)) hx hb dL_refuses_586 (by decide) ?_
  refine lv_bipush (v := (123 : Int32)) hx hb dL_refuses_587 (by decide) ?_
  refine lv_iconst (v := (1 : Int32)) hx hb dL_refuses_589 (by decide) ?_
  refine lv_iconst (v := (1 : Int32)) hx hb dL_refuses_590 (by decide) ?_
  have hc : f_L_act M (5 : Int32) (0 : Int32) (123 : Int32) (1 : Int32) (1 : Int32) = some ((-9002 : Int32), M) := n5 M (by decide)
  refine kL_85 C hml hl.1 (c_L_act hlf hc) ⟨Nat.le_of_ble_eq_true rfl, Nat.le_of_ble_eq_true rfl⟩ ⟨by show _ ≤ 1712; omega, by show _ ≤ 10272; omega⟩ (Nat.le_of_ble_eq_true rfl) hS hW dL_refuses_591 (fun H locs hW hS => ?_)
  refine lv_iload hx hb dL_refuses_594 (lv_at hl 10 rfl) ?_
  refine lv_icmp_ne (tgt := 603) hx hb dL_refuses_596 (by decide) (fun c => absurd (by decide) c) (fun _ => ?_)
  refine lv_iconst (v := (1 : Int32)) hx hb dL_refuses_599 (by decide) ?_
  refine lv_goto (tgt := 604) hx hb dL_refuses_600 (by decide) ?_
  refine lv_istore (lv' := [(15, .int (1 : Int32)), (16, .int (5 : Int32)), (14, .int (2147483647 : Int32)), (13, .int (-2147483647 : Int32)), (12, .int (1011 : Int32)), (11, .int (2147483647 : Int32)), (10, .int (2147483647 : Int32)), (9, .int (2147483647 : Int32)), (8, .int (2 : Int32)), (7, .int (2147483647 : Int32)), (6, .int (-9002 : Int32)), (5, .int (-9001 : Int32)), (4, .int (ovl k (0 : Int32).toNatClampNeg)), (3, .int (nI F.length)), (2, .int (nI ((ta τ).filter (par (0 : Int32).toNatClampNeg)).length)), (1, .int (nI (ta τ).length)), (0, .ref (b + 0))]) hx hb dL_refuses_604 hl (by decide) rfl (fun ls hl => ?_)
  refine lv_iinc (v := (6 : Int32)) (lv' := [(16, .int (6 : Int32)), (15, .int (1 : Int32)), (14, .int (2147483647 : Int32)), (13, .int (-2147483647 : Int32)), (12, .int (1011 : Int32)), (11, .int (2147483647 : Int32)), (10, .int (2147483647 : Int32)), (9, .int (2147483647 : Int32)), (8, .int (2 : Int32)), (7, .int (2147483647 : Int32)), (6, .int (-9002 : Int32)), (5, .int (-9001 : Int32)), (4, .int (ovl k (0 : Int32).toNatClampNeg)), (3, .int (nI F.length)), (2, .int (nI ((ta τ).filter (par (0 : Int32).toNatClampNeg)).length)), (1, .int (nI (ta τ).length)), (0, .ref (b + 0))]) hx hb dL_refuses_606 hl (k := 1) rfl (by decide) (by decide) rfl (fun ls hl => ?_)
  exact t_refuses_40 C hml hr hlk hlf h hS hW (lv_sub hl [0, 1, 2, 3, 4, 5, 6, 7, 8, 9, 10, 11, 12, 13, 14, 15, 16] rfl) ⟨by omega, by omega⟩
set_option maxHeartbeats 4000000 in
set_option maxRecDepth 100000 in
theorem t_refuses_38 {p : Program} {l : Launch} {e : Env} {s : State} {m : MethodId} {args : Array Value} {below : List Frame} {meth : Method} {c : Code} {Z : Zt} {b : Nat} (C : Cx p s m args c cL_refuses RL Z b) (hml : c.maxLocals = 17) (hr : meth.sig.returnType = some .boolean) (hlk : meth.locks = false) (hlf : l.stackTraces = false) {M : Mem} {τ : Tr} {k : Lk} {F : List Nat} (h : Rl M τ k F) {H : Heap} {locs : List Loc} {ls : Array Slot} {cells slots : Nat} (hS : va_S (A0 b) s.heap H locs) (hW : Wd Z b M H) (hl : lv_has ls 17 [(16, .int (5 : Int32)), (15, .int (1 : Int32)), (14, .int (2147483647 : Int32)), (13, .int (-2147483647 : Int32)), (12, .int (1011 : Int32)), (11, .int (2147483647 : Int32)), (10, .int (2147483647 : Int32)), (9, .int (2147483647 : Int32)), (8, .int (2 : Int32)), (7, .int (2147483647 : Int32)), (6, .int (-9002 : Int32)), (5, .int (-9001 : Int32)), (4, .int (ovl k (0 : Int32).toNatClampNeg)), (3, .int (nI F.length)), (2, .int (nI ((ta τ).filter (par (0 : Int32).toNatClampNeg)).length)), (1, .int (nI (ta τ).length)), (0, .ref (b + 0))]) (hcs : cells + 688 ≤ 1712 ∧ slots + 4128 ≤ 10272) : W p l e rm_L_refuses s m args below meth c H locs cells slots (MQ below (Qn Z b (some (.int 1)) M) args s 1712 10272 (A0 b)) (F0 m 609 ls []) := by
  have hx := C.1
  have hb := C.2.1
  refine lv_goto (tgt := 462) hx hb dL_refuses_609 (by decide) ?_
  refine lv_iload hx hb dL_refuses_462 (lv_at hl 0 rfl) ?_
  refine lv_bipush (v := (6 : Int32)) hx hb dL_refuses_464 (by decide) ?_
  refine lv_icmp_ge (tgt := 612) hx hb dL_refuses_466 (by decide) (fun c => absurd c (by decide)) (fun _ => ?_)
  refine lv_iload hx hb dL_refuses_469 (lv_at hl 1 rfl) ?_
  refine lv_if_eq (tgt := 603) hx hb dL_refuses_471 (by decide) (fun c => absurd c (by decide)) (fun _ => ?_)
  refine lv_aload_n hx hb dL_refuses_474 rfl (lv_at hl 16 rfl) ?_
  refine lv_iload hx hb dL_refuses_475 (lv_at hl 0 rfl) ?_
  refine lv_iload hx hb dL_refuses_477 (lv_at hl 6 rfl) ?_
  refine lv_iconst (v := (1 : Int32)) hx hb dL_refuses_479 (by decide) ?_
  refine lv_iconst (v := (2 : Int32)) hx hb dL_refuses_480 (by decide) ?_
  refine lv_iconst (v := (0 : Int32)) hx hb dL_refuses_481 (by decide) ?_
  have hc : f_L_act M (5 : Int32) (2147483647 : Int32) (1 : Int32) (2 : Int32) (0 : Int32) = some ((-9002 : Int32), M) := n5 M (by decide)
  refine kL_85 C hml hl.1 (c_L_act hlf hc) ⟨Nat.le_of_ble_eq_true rfl, Nat.le_of_ble_eq_true rfl⟩ ⟨by show _ ≤ 1712; omega, by show _ ≤ 10272; omega⟩ (Nat.le_of_ble_eq_true rfl) hS hW dL_refuses_482 (fun H locs hW hS => ?_)
  refine lv_iload hx hb dL_refuses_485 (lv_at hl 10 rfl) ?_
  refine lv_icmp_ne (tgt := 603) hx hb dL_refuses_487 (by decide) (fun c => absurd (by decide) c) (fun _ => ?_)
  refine lv_aload_n hx hb dL_refuses_490 rfl (lv_at hl 16 rfl) ?_
  refine lv_iload hx hb dL_refuses_491 (lv_at hl 0 rfl) ?_
  refine lv_iconst (v := (0 : Int32)) hx hb dL_refuses_493 (by decide) ?_
  refine lv_iconst (v := (0 : Int32)) hx hb dL_refuses_494 (by decide) ?_
  refine lv_iconst (v := (2 : Int32)) hx hb dL_refuses_495 (by decide) ?_
  refine lv_iconst (v := (0 : Int32)) hx hb dL_refuses_496 (by decide) ?_
  have hc : f_L_act M (5 : Int32) (0 : Int32) (0 : Int32) (2 : Int32) (0 : Int32) = some ((-9002 : Int32), M) := n5 M (by decide)
  refine kL_85 C hml hl.1 (c_L_act hlf hc) ⟨Nat.le_of_ble_eq_true rfl, Nat.le_of_ble_eq_true rfl⟩ ⟨by show _ ≤ 1712; omega, by show _ ≤ 10272; omega⟩ (Nat.le_of_ble_eq_true rfl) hS hW dL_refuses_497 (fun H locs hW hS => ?_)
  refine lv_iload hx hb dL_refuses_500 (lv_at hl 10 rfl) ?_
  refine lv_icmp_ne (tgt := 603) hx hb dL_refuses_502 (by decide) (fun c => absurd (by decide) c) (fun _ => ?_)
  refine lv_aload_n hx hb dL_refuses_505 rfl (lv_at hl 16 rfl) ?_
  refine lv_iload hx hb dL_refuses_506 (lv_at hl 0 rfl) ?_
  refine lv_iconst (v := (0 : Int32)) hx hb dL_refuses_508 (by decide) ?_
  refine lv_iconst (v := (1 : Int32)) hx hb dL_refuses_509 (by decide) ?_
  refine lv_iconst (v := (0 : Int32)) hx hb dL_refuses_510 (by decide) ?_
  refine lv_iconst (v := (0 : Int32)) hx hb dL_refuses_511 (by decide) ?_
  have hc : f_L_act M (5 : Int32) (0 : Int32) (1 : Int32) (0 : Int32) (0 : Int32) = some ((-9002 : Int32), M) := n5 M (by decide)
  refine kL_85 C hml hl.1 (c_L_act hlf hc) ⟨Nat.le_of_ble_eq_true rfl, Nat.le_of_ble_eq_true rfl⟩ ⟨by show _ ≤ 1712; omega, by show _ ≤ 10272; omega⟩ (Nat.le_of_ble_eq_true rfl) hS hW dL_refuses_512 (fun H locs hW hS => ?_)
  refine lv_iload hx hb dL_refuses_515 (lv_at hl 10 rfl) ?_
  refine lv_icmp_ne (tgt := 603) hx hb dL_refuses_517 (by decide) (fun c => absurd (by decide) c) (fun _ => ?_)
  refine lv_aload_n hx hb dL_refuses_520 rfl (lv_at hl 16 rfl) ?_
  refine lv_iload hx hb dL_refuses_521 (lv_at hl 0 rfl) ?_
  refine lv_iconst (v := (0 : Int32)) hx hb dL_refuses_523 (by decide) ?_
  refine lv_iconst (v := (1 : Int32)) hx hb dL_refuses_524 (by decide) ?_
  refine lv_iload hx hb dL_refuses_525 (lv_at hl 5 rfl) ?_
  refine lv_iconst (v := (0 : Int32)) hx hb dL_refuses_527 (by decide) ?_
  have hc : f_L_act M (5 : Int32) (0 : Int32) (1 : Int32) (2147483647 : Int32) (0 : Int32) = some ((-9002 : Int32), M) := n5 M (by decide)
  refine kL_85 C hml hl.1 (c_L_act hlf hc) ⟨Nat.le_of_ble_eq_true rfl, Nat.le_of_ble_eq_true rfl⟩ ⟨by show _ ≤ 1712; omega, by show _ ≤ 10272; omega⟩ (Nat.le_of_ble_eq_true rfl) hS hW dL_refuses_528 (fun H locs hW hS => ?_)
  refine lv_iload hx hb dL_refuses_531 (lv_at hl 10 rfl) ?_
  refine lv_icmp_ne (tgt := 603) hx hb dL_refuses_533 (by decide) (fun c => absurd (by decide) c) (fun _ => ?_)
  exact t_refuses_39 C hml hr hlk hlf h hS hW (lv_sub hl [0, 1, 2, 3, 4, 5, 6, 7, 8, 9, 10, 11, 12, 13, 14, 15, 16] rfl) ⟨by omega, by omega⟩
set_option maxHeartbeats 4000000 in
set_option maxRecDepth 100000 in
theorem t_refuses_37 {p : Program} {l : Launch} {e : Env} {s : State} {m : MethodId} {args : Array Value} {below : List Frame} {meth : Method} {c : Code} {Z : Zt} {b : Nat} (C : Cx p s m args c cL_refuses RL Z b) (hml : c.maxLocals = 17) (hr : meth.sig.returnType = some .boolean) (hlk : meth.locks = false) (hlf : l.stackTraces = false) {M : Mem} {τ : Tr} {k : Lk} {F : List Nat} (h : Rl M τ k F) {H : Heap} {locs : List Loc} {ls : Array Slot} {cells slots : Nat} (hS : va_S (A0 b) s.heap H locs) (hW : Wd Z b M H) (hl : lv_has ls 17 [(16, .int (4 : Int32)), (15, .int (1 : Int32)), (14, .int (2147483647 : Int32)), (13, .int (-2147483647 : Int32)), (12, .int (1011 : Int32)), (11, .int (2147483647 : Int32)), (10, .int (2147483647 : Int32)), (9, .int (2147483647 : Int32)), (8, .int (2 : Int32)), (7, .int (2147483647 : Int32)), (6, .int (-9002 : Int32)), (5, .int (-9001 : Int32)), (4, .int (ovl k (0 : Int32).toNatClampNeg)), (3, .int (nI F.length)), (2, .int (nI ((ta τ).filter (par (0 : Int32).toNatClampNeg)).length)), (1, .int (nI (ta τ).length)), (0, .ref (b + 0))]) (hcs : cells + 716 ≤ 1712 ∧ slots + 4296 ≤ 10272) : W p l e rm_L_refuses s m args below meth c H locs cells slots (MQ below (Qn Z b (some (.int 1)) M) args s 1712 10272 (A0 b)) (F0 m 536 ls []) := by
  have hx := C.1
  have hb := C.2.1
  refine lv_aload_n hx hb dL_refuses_536 rfl (lv_at hl 16 rfl) ?_
  refine lv_iload hx hb dL_refuses_537 (lv_at hl 0 rfl) ?_
  refine lv_iconst (v := (0 : Int32)) hx hb dL_refuses_539 (by decide) ?_
  refine lv_iload hx hb dL_refuses_540 (lv_at hl 5 rfl) ?_
  refine lv_iconst (v := (1 : Int32)) hx hb dL_refuses_542 (by decide) ?_
  refine lv_iconst (v := (0 : Int32)) hx hb dL_refuses_543 (by decide) ?_
  have hc : f_L_act M (4 : Int32) (0 : Int32) (2147483647 : Int32) (1 : Int32) (0 : Int32) = some ((-9002 : Int32), M) := n4 M (by decide)
  refine kL_85 C hml hl.1 (c_L_act hlf hc) ⟨Nat.le_of_ble_eq_true rfl, Nat.le_of_ble_eq_true rfl⟩ ⟨by show _ ≤ 1712; omega, by show _ ≤ 10272; omega⟩ (Nat.le_of_ble_eq_true rfl) hS hW dL_refuses_544 (fun H locs hW hS => ?_)
  refine lv_iload hx hb dL_refuses_547 (lv_at hl 10 rfl) ?_
  refine lv_icmp_ne (tgt := 603) hx hb dL_refuses_549 (by decide) (fun c => absurd (by decide) c) (fun _ => ?_)
  refine lv_aload_n hx hb dL_refuses_552 rfl (lv_at hl 16 rfl) ?_
  refine lv_iload hx hb dL_refuses_553 (lv_at hl 0 rfl) ?_
  refine lv_iconst (v := (0 : Int32)) hx hb dL_refuses_555 (by decide) ?_
  refine lv_iconst (v := (1 : Int32)) hx hb dL_refuses_556 (by decide) ?_
  refine lv_iconst (v := (1 : Int32)) hx hb dL_refuses_557 (by decide) ?_
  refine lv_iconst (v := (1 : Int32)) hx hb dL_refuses_558 (by decide) ?_
  have hc : f_L_act M (4 : Int32) (0 : Int32) (1 : Int32) (1 : Int32) (1 : Int32) = some ((-9002 : Int32), M) := n4 M (by decide)
  refine kL_85 C hml hl.1 (c_L_act hlf hc) ⟨Nat.le_of_ble_eq_true rfl, Nat.le_of_ble_eq_true rfl⟩ ⟨by show _ ≤ 1712; omega, by show _ ≤ 10272; omega⟩ (Nat.le_of_ble_eq_true rfl) hS hW dL_refuses_559 (fun H locs hW hS => ?_)
  refine lv_iload hx hb dL_refuses_562 (lv_at hl 10 rfl) ?_
  refine lv_icmp_ne (tgt := 603) hx hb dL_refuses_564 (by decide) (fun c => absurd (by decide) c) (fun _ => ?_)
  refine lv_aload_n hx hb dL_refuses_567 rfl (lv_at hl 16 rfl) ?_
  refine lv_iload hx hb dL_refuses_568 (lv_at hl 0 rfl) ?_
  refine lv_iconst (v := (0 : Int32)) hx hb dL_refuses_570 (by decide) ?_
  refine lv_iconst (v := (1 : Int32)) hx hb dL_refuses_571 (by decide) ?_
  refine lv_bipush (v := (12 : Int32)) hx hb dL_refuses_572 (by decide) ?_
  refine lv_iconst (v := (1 : Int32)) hx hb dL_refuses_574 (by decide) ?_
  have hc : f_L_act M (4 : Int32) (0 : Int32) (1 : Int32) (12 : Int32) (1 : Int32) = some ((-9002 : Int32), M) := n4 M (by decide)
  refine kL_85 C hml hl.1 (c_L_act hlf hc) ⟨Nat.le_of_ble_eq_true rfl, Nat.le_of_ble_eq_true rfl⟩ ⟨by show _ ≤ 1712; omega, by show _ ≤ 10272; omega⟩ (Nat.le_of_ble_eq_true rfl) hS hW dL_refuses_575 (fun H locs hW hS => ?_)
  refine lv_iload hx hb dL_refuses_578 (lv_at hl 10 rfl) ?_
  refine lv_icmp_ne (tgt := 603) hx hb dL_refuses_580 (by decide) (fun c => absurd (by decide) c) (fun _ => ?_)
  refine lv_aload_n hx hb dL_refuses_583 rfl (lv_at hl 16 rfl) ?_
  refine lv_iload hx hb dL_refuses_584 (lv_at hl 0 rfl) ?_
  refine lv_iconst (v := (0 : Int32)) hx hb dL_refuses_586 (by decide) ?_
  refine lv_bipush (v := (123 : Int32)) hx hb dL_refuses_587 (by decide) ?_
  refine lv_iconst (v := (1 : Int32)) hx hb dL_refuses_589 (by decide) ?_
  refine lv_iconst (v := (1 : Int32)) hx hb dL_refuses_590 (by decide) ?_
  have hc : f_L_act M (4 : Int32) (0 : Int32) (123 : Int32) (1 : Int32) (1 : Int32) = some ((-9002 : Int32), M) := n4 M (by decide)
  refine kL_85 C hml hl.1 (c_L_act hlf hc) ⟨Nat.le_of_ble_eq_true rfl, Nat.le_of_ble_eq_true rfl⟩ ⟨by show _ ≤ 1712; omega, by show _ ≤ 10272; omega⟩ (Nat.le_of_ble_eq_true rfl) hS hW dL_refuses_591 (fun H locs hW hS => ?_)
  refine lv_iload hx hb dL_refuses_594 (lv_at hl 10 rfl) ?_
  refine lv_icmp_ne (tgt := 603) hx hb dL_refuses_596 (by decide) (fun c => absurd (by decide) c) (fun _ => ?_)
  refine lv_iconst (v := (1 : Int32)) hx hb dL_refuses_599 (by decide) ?_
  refine lv_goto (tgt := 604) hx hb dL_refuses_600 (by decide) ?_
  refine lv_istore (lv' := [(15, .int (1 : Int32)), (16, .int (4 : Int32)), (14, .int (2147483647 : Int32)), (13, .int (-2147483647 : Int32)), (12, .int (1011 : Int32)), (11, .int (2147483647 : Int32)), (10, .int (2147483647 : Int32)), (9, .int (2147483647 : Int32)), (8, .int (2 : Int32)), (7, .int (2147483647 : Int32)), (6, .int (-9002 : Int32)), (5, .int (-9001 : Int32)), (4, .int (ovl k (0 : Int32).toNatClampNeg)), (3, .int (nI F.length)), (2, .int (nI ((ta τ).filter (par (0 : Int32).toNatClampNeg)).length)), (1, .int (nI (ta τ).length)), (0, .ref (b + 0))]) hx hb dL_refuses_604 hl (by decide) rfl (fun ls hl => ?_)
  refine lv_iinc (v := (5 : Int32)) (lv' := [(16, .int (5 : Int32)), (15, .int (1 : Int32)), (14, .int (2147483647 : Int32)), (13, .int (-2147483647 : Int32)), (12, .int (1011 : Int32)), (11, .int (2147483647 : Int32)), (10, .int (2147483647 : Int32)), (9, .int (2147483647 : Int32)), (8, .int (2 : Int32)), (7, .int (2147483647 : Int32)), (6, .int (-9002 : Int32)), (5, .int (-9001 : Int32)), (4, .int (ovl k (0 : Int32).toNatClampNeg)), (3, .int (nI F.length)), (2, .int (nI ((ta τ).filter (par (0 : Int32).toNatClampNeg)).length)), (1, .int (nI (ta τ).length)), (0, .ref (b + 0))]) hx hb dL_refuses_606 hl (k := 1) rfl (by decide) (by decide) rfl (fun ls hl => ?_)
  exact t_refuses_38 C hml hr hlk hlf h hS hW (lv_sub hl [0, 1, 2, 3, 4, 5, 6, 7, 8, 9, 10, 11, 12, 13, 14, 15, 16] rfl) ⟨by omega, by omega⟩
set_option maxHeartbeats 4000000 in
set_option maxRecDepth 100000 in
theorem t_refuses_36 {p : Program} {l : Launch} {e : Env} {s : State} {m : MethodId} {args : Array Value} {below : List Frame} {meth : Method} {c : Code} {Z : Zt} {b : Nat} (C : Cx p s m args c cL_refuses RL Z b) (hml : c.maxLocals = 17) (hr : meth.sig.returnType = some .boolean) (hlk : meth.locks = false) (hlf : l.stackTraces = false) {M : Mem} {τ : Tr} {k : Lk} {F : List Nat} (h : Rl M τ k F) {H : Heap} {locs : List Loc} {ls : Array Slot} {cells slots : Nat} (hS : va_S (A0 b) s.heap H locs) (hW : Wd Z b M H) (hl : lv_has ls 17 [(14, .int (2147483647 : Int32)), (13, .int (-2147483647 : Int32)), (12, .int (1011 : Int32)), (11, .int (2147483647 : Int32)), (10, .int (2147483647 : Int32)), (9, .int (2147483647 : Int32)), (8, .int (2 : Int32)), (15, .int (1 : Int32)), (16, .int (9 : Int32)), (7, .int (2147483647 : Int32)), (6, .int (-9002 : Int32)), (5, .int (-9001 : Int32)), (4, .int (ovl k (0 : Int32).toNatClampNeg)), (3, .int (nI F.length)), (2, .int (nI ((ta τ).filter (par (0 : Int32).toNatClampNeg)).length)), (1, .int (nI (ta τ).length)), (0, .ref (b + 0))]) (hcs : cells + 744 ≤ 1712 ∧ slots + 4464 ≤ 10272) : W p l e rm_L_refuses s m args below meth c H locs cells slots (MQ below (Qn Z b (some (.int 1)) M) args s 1712 10272 (A0 b)) (F0 m 452 ls []) := by
  have hx := C.1
  have hb := C.2.1
  refine lv_iconst (v := (1 : Int32)) hx hb dL_refuses_452 (by decide) ?_
  refine lv_goto (tgt := 457) hx hb dL_refuses_453 (by decide) ?_
  refine lv_istore (lv' := [(15, .int (1 : Int32)), (14, .int (2147483647 : Int32)), (13, .int (-2147483647 : Int32)), (12, .int (1011 : Int32)), (11, .int (2147483647 : Int32)), (10, .int (2147483647 : Int32)), (9, .int (2147483647 : Int32)), (8, .int (2 : Int32)), (16, .int (9 : Int32)), (7, .int (2147483647 : Int32)), (6, .int (-9002 : Int32)), (5, .int (-9001 : Int32)), (4, .int (ovl k (0 : Int32).toNatClampNeg)), (3, .int (nI F.length)), (2, .int (nI ((ta τ).filter (par (0 : Int32).toNatClampNeg)).length)), (1, .int (nI (ta τ).length)), (0, .ref (b + 0))]) hx hb dL_refuses_457 hl (by decide) rfl (fun ls hl => ?_)
  refine lv_iconst (v := (4 : Int32)) hx hb dL_refuses_459 (by decide) ?_
  refine lv_istore (lv' := [(16, .int (4 : Int32)), (15, .int (1 : Int32)), (14, .int (2147483647 : Int32)), (13, .int (-2147483647 : Int32)), (12, .int (1011 : Int32)), (11, .int (2147483647 : Int32)), (10, .int (2147483647 : Int32)), (9, .int (2147483647 : Int32)), (8, .int (2 : Int32)), (7, .int (2147483647 : Int32)), (6, .int (-9002 : Int32)), (5, .int (-9001 : Int32)), (4, .int (ovl k (0 : Int32).toNatClampNeg)), (3, .int (nI F.length)), (2, .int (nI ((ta τ).filter (par (0 : Int32).toNatClampNeg)).length)), (1, .int (nI (ta τ).length)), (0, .ref (b + 0))]) hx hb dL_refuses_460 hl (by decide) rfl (fun ls hl => ?_)
  refine lv_iload hx hb dL_refuses_462 (lv_at hl 0 rfl) ?_
  refine lv_bipush (v := (6 : Int32)) hx hb dL_refuses_464 (by decide) ?_
  refine lv_icmp_ge (tgt := 612) hx hb dL_refuses_466 (by decide) (fun c => absurd c (by decide)) (fun _ => ?_)
  refine lv_iload hx hb dL_refuses_469 (lv_at hl 1 rfl) ?_
  refine lv_if_eq (tgt := 603) hx hb dL_refuses_471 (by decide) (fun c => absurd c (by decide)) (fun _ => ?_)
  refine lv_aload_n hx hb dL_refuses_474 rfl (lv_at hl 16 rfl) ?_
  refine lv_iload hx hb dL_refuses_475 (lv_at hl 0 rfl) ?_
  refine lv_iload hx hb dL_refuses_477 (lv_at hl 6 rfl) ?_
  refine lv_iconst (v := (1 : Int32)) hx hb dL_refuses_479 (by decide) ?_
  refine lv_iconst (v := (2 : Int32)) hx hb dL_refuses_480 (by decide) ?_
  refine lv_iconst (v := (0 : Int32)) hx hb dL_refuses_481 (by decide) ?_
  have hc : f_L_act M (4 : Int32) (2147483647 : Int32) (1 : Int32) (2 : Int32) (0 : Int32) = some ((-9002 : Int32), M) := n4 M (by decide)
  refine kL_85 C hml hl.1 (c_L_act hlf hc) ⟨Nat.le_of_ble_eq_true rfl, Nat.le_of_ble_eq_true rfl⟩ ⟨by show _ ≤ 1712; omega, by show _ ≤ 10272; omega⟩ (Nat.le_of_ble_eq_true rfl) hS hW dL_refuses_482 (fun H locs hW hS => ?_)
  refine lv_iload hx hb dL_refuses_485 (lv_at hl 10 rfl) ?_
  refine lv_icmp_ne (tgt := 603) hx hb dL_refuses_487 (by decide) (fun c => absurd (by decide) c) (fun _ => ?_)
  refine lv_aload_n hx hb dL_refuses_490 rfl (lv_at hl 16 rfl) ?_
  refine lv_iload hx hb dL_refuses_491 (lv_at hl 0 rfl) ?_
  refine lv_iconst (v := (0 : Int32)) hx hb dL_refuses_493 (by decide) ?_
  refine lv_iconst (v := (0 : Int32)) hx hb dL_refuses_494 (by decide) ?_
  refine lv_iconst (v := (2 : Int32)) hx hb dL_refuses_495 (by decide) ?_
  refine lv_iconst (v := (0 : Int32)) hx hb dL_refuses_496 (by decide) ?_
  have hc : f_L_act M (4 : Int32) (0 : Int32) (0 : Int32) (2 : Int32) (0 : Int32) = some ((-9002 : Int32), M) := n4 M (by decide)
  refine kL_85 C hml hl.1 (c_L_act hlf hc) ⟨Nat.le_of_ble_eq_true rfl, Nat.le_of_ble_eq_true rfl⟩ ⟨by show _ ≤ 1712; omega, by show _ ≤ 10272; omega⟩ (Nat.le_of_ble_eq_true rfl) hS hW dL_refuses_497 (fun H locs hW hS => ?_)
  refine lv_iload hx hb dL_refuses_500 (lv_at hl 10 rfl) ?_
  refine lv_icmp_ne (tgt := 603) hx hb dL_refuses_502 (by decide) (fun c => absurd (by decide) c) (fun _ => ?_)
  refine lv_aload_n hx hb dL_refuses_505 rfl (lv_at hl 16 rfl) ?_
  refine lv_iload hx hb dL_refuses_506 (lv_at hl 0 rfl) ?_
  refine lv_iconst (v := (0 : Int32)) hx hb dL_refuses_508 (by decide) ?_
  refine lv_iconst (v := (1 : Int32)) hx hb dL_refuses_509 (by decide) ?_
  refine lv_iconst (v := (0 : Int32)) hx hb dL_refuses_510 (by decide) ?_
  refine lv_iconst (v := (0 : Int32)) hx hb dL_refuses_511 (by decide) ?_
  have hc : f_L_act M (4 : Int32) (0 : Int32) (1 : Int32) (0 : Int32) (0 : Int32) = some ((-9002 : Int32), M) := n4 M (by decide)
  refine kL_85 C hml hl.1 (c_L_act hlf hc) ⟨Nat.le_of_ble_eq_true rfl, Nat.le_of_ble_eq_true rfl⟩ ⟨by show _ ≤ 1712; omega, by show _ ≤ 10272; omega⟩ (Nat.le_of_ble_eq_true rfl) hS hW dL_refuses_512 (fun H locs hW hS => ?_)
  refine lv_iload hx hb dL_refuses_515 (lv_at hl 10 rfl) ?_
  refine lv_icmp_ne (tgt := 603) hx hb dL_refuses_517 (by decide) (fun c => absurd (by decide) c) (fun _ => ?_)
  refine lv_aload_n hx hb dL_refuses_520 rfl (lv_at hl 16 rfl) ?_
  refine lv_iload hx hb dL_refuses_521 (lv_at hl 0 rfl) ?_
  refine lv_iconst (v := (0 : Int32)) hx hb dL_refuses_523 (by decide) ?_
  refine lv_iconst (v := (1 : Int32)) hx hb dL_refuses_524 (by decide) ?_
  refine lv_iload hx hb dL_refuses_525 (lv_at hl 5 rfl) ?_
  refine lv_iconst (v := (0 : Int32)) hx hb dL_refuses_527 (by decide) ?_
  have hc : f_L_act M (4 : Int32) (0 : Int32) (1 : Int32) (2147483647 : Int32) (0 : Int32) = some ((-9002 : Int32), M) := n4 M (by decide)
  refine kL_85 C hml hl.1 (c_L_act hlf hc) ⟨Nat.le_of_ble_eq_true rfl, Nat.le_of_ble_eq_true rfl⟩ ⟨by show _ ≤ 1712; omega, by show _ ≤ 10272; omega⟩ (Nat.le_of_ble_eq_true rfl) hS hW dL_refuses_528 (fun H locs hW hS => ?_)
  refine lv_iload hx hb dL_refuses_531 (lv_at hl 10 rfl) ?_
  refine lv_icmp_ne (tgt := 603) hx hb dL_refuses_533 (by decide) (fun c => absurd (by decide) c) (fun _ => ?_)
  exact t_refuses_37 C hml hr hlk hlf h hS hW (lv_sub hl [0, 1, 2, 3, 4, 5, 6, 7, 8, 9, 10, 11, 12, 13, 14, 15, 16] rfl) ⟨by omega, by omega⟩
set_option maxHeartbeats 4000000 in
set_option maxRecDepth 100000 in
theorem t_refuses_35 {p : Program} {l : Launch} {e : Env} {s : State} {m : MethodId} {args : Array Value} {below : List Frame} {meth : Method} {c : Code} {Z : Zt} {b : Nat} (C : Cx p s m args c cL_refuses RL Z b) (hml : c.maxLocals = 17) (hr : meth.sig.returnType = some .boolean) (hlk : meth.locks = false) (hlf : l.stackTraces = false) {M : Mem} {τ : Tr} {k : Lk} {F : List Nat} (h : Rl M τ k F) {H : Heap} {locs : List Loc} {ls : Array Slot} {cells slots : Nat} (hS : va_S (A0 b) s.heap H locs) (hW : Wd Z b M H) (hl : lv_has ls 17 [(14, .int (2147483647 : Int32)), (13, .int (-2147483647 : Int32)), (12, .int (1011 : Int32)), (11, .int (2147483647 : Int32)), (10, .int (2147483647 : Int32)), (9, .int (2147483647 : Int32)), (8, .int (2 : Int32)), (15, .int (1 : Int32)), (16, .int (9 : Int32)), (7, .int (2147483647 : Int32)), (6, .int (-9002 : Int32)), (5, .int (-9001 : Int32)), (4, .int (ovl k (0 : Int32).toNatClampNeg)), (3, .int (nI F.length)), (2, .int (nI ((ta τ).filter (par (0 : Int32).toNatClampNeg)).length)), (1, .int (nI (ta τ).length)), (0, .ref (b + 0))]) (hcs : cells + 779 ≤ 1712 ∧ slots + 4674 ≤ 10272) : W p l e rm_L_refuses s m args below meth c H locs cells slots (MQ below (Qn Z b (some (.int 1)) M) args s 1712 10272 (A0 b)) (F0 m 364 ls []) := by
  have hx := C.1
  have hb := C.2.1
  refine lv_aload_n hx hb dL_refuses_364 rfl (lv_at hl 16 rfl) ?_
  refine lv_iconst (v := (3 : Int32)) hx hb dL_refuses_365 (by decide) ?_
  refine lv_iload hx hb dL_refuses_366 (lv_at hl 6 rfl) ?_
  refine lv_iconst (v := (1 : Int32)) hx hb dL_refuses_368 (by decide) ?_
  refine lv_icmp_ne (tgt := 376) hx hb dL_refuses_369 (by decide) (fun _ => ?_) (fun c => absurd c (by decide))
  refine lv_iload hx hb dL_refuses_376 (lv_at hl 5 rfl) ?_
  refine lv_iconst (v := (0 : Int32)) hx hb dL_refuses_378 (by decide) ?_
  refine lv_iconst (v := (0 : Int32)) hx hb dL_refuses_379 (by decide) ?_
  refine lv_iconst (v := (0 : Int32)) hx hb dL_refuses_380 (by decide) ?_
  have hc : f_L_act M (3 : Int32) (2147483647 : Int32) (0 : Int32) (0 : Int32) (0 : Int32) = some ((-9001 : Int32), M) := n3 h (by decide)
  refine kL_85 C hml hl.1 (c_L_act hlf hc) ⟨Nat.le_of_ble_eq_true rfl, Nat.le_of_ble_eq_true rfl⟩ ⟨by show _ ≤ 1712; omega, by show _ ≤ 10272; omega⟩ (Nat.le_of_ble_eq_true rfl) hS hW dL_refuses_381 (fun H locs hW hS => ?_)
  refine lv_iload hx hb dL_refuses_384 (lv_at hl 11 rfl) ?_
  refine lv_icmp_ne (tgt := 456) hx hb dL_refuses_386 (by decide) (fun c => absurd (by decide) c) (fun _ => ?_)
  refine lv_aload_n hx hb dL_refuses_389 rfl (lv_at hl 16 rfl) ?_
  refine lv_bipush (v := (10 : Int32)) hx hb dL_refuses_390 (by decide) ?_
  refine lv_iload hx hb dL_refuses_392 (lv_at hl 4 rfl) ?_
  refine lv_iconst (v := (1 : Int32)) hx hb dL_refuses_394 (by decide) ?_
  refine lv_iconst (v := (0 : Int32)) hx hb dL_refuses_395 (by decide) ?_
  refine lv_iconst (v := (0 : Int32)) hx hb dL_refuses_396 (by decide) ?_
  have hc : f_L_act M (10 : Int32) (2147483647 : Int32) (1 : Int32) (0 : Int32) (0 : Int32) = some ((-9002 : Int32), M) := n10 M (by decide)
  refine kL_85 C hml hl.1 (c_L_act hlf hc) ⟨Nat.le_of_ble_eq_true rfl, Nat.le_of_ble_eq_true rfl⟩ ⟨by show _ ≤ 1712; omega, by show _ ≤ 10272; omega⟩ (Nat.le_of_ble_eq_true rfl) hS hW dL_refuses_397 (fun H locs hW hS => ?_)
  refine lv_iload hx hb dL_refuses_400 (lv_at hl 10 rfl) ?_
  refine lv_icmp_ne (tgt := 456) hx hb dL_refuses_402 (by decide) (fun c => absurd (by decide) c) (fun _ => ?_)
  refine lv_aload_n hx hb dL_refuses_405 rfl (lv_at hl 16 rfl) ?_
  refine lv_bipush (v := (10 : Int32)) hx hb dL_refuses_406 (by decide) ?_
  refine lv_iconst (v := (0 : Int32)) hx hb dL_refuses_408 (by decide) ?_
  refine lv_iconst (v := (0 : Int32)) hx hb dL_refuses_409 (by decide) ?_
  refine lv_iconst (v := (0 : Int32)) hx hb dL_refuses_410 (by decide) ?_
  refine lv_iconst (v := (0 : Int32)) hx hb dL_refuses_411 (by decide) ?_
  have hc : f_L_act M (10 : Int32) (0 : Int32) (0 : Int32) (0 : Int32) (0 : Int32) = some ((-9002 : Int32), M) := n10 M (by decide)
  refine kL_85 C hml hl.1 (c_L_act hlf hc) ⟨Nat.le_of_ble_eq_true rfl, Nat.le_of_ble_eq_true rfl⟩ ⟨by show _ ≤ 1712; omega, by show _ ≤ 10272; omega⟩ (Nat.le_of_ble_eq_true rfl) hS hW dL_refuses_412 (fun H locs hW hS => ?_)
  refine lv_iload hx hb dL_refuses_415 (lv_at hl 10 rfl) ?_
  refine lv_icmp_ne (tgt := 456) hx hb dL_refuses_417 (by decide) (fun c => absurd (by decide) c) (fun _ => ?_)
  refine lv_aload_n hx hb dL_refuses_420 rfl (lv_at hl 16 rfl) ?_
  refine lv_bipush (v := (10 : Int32)) hx hb dL_refuses_421 (by decide) ?_
  refine lv_iconst (v := (0 : Int32)) hx hb dL_refuses_423 (by decide) ?_
  refine lv_iconst (v := (1 : Int32)) hx hb dL_refuses_424 (by decide) ?_
  refine lv_iload hx hb dL_refuses_425 (lv_at hl 1 rfl) ?_
  refine lv_iconst (v := (0 : Int32)) hx hb dL_refuses_427 (by decide) ?_
  have hc : f_L_act M (10 : Int32) (0 : Int32) (1 : Int32) (-2147483647 : Int32) (0 : Int32) = some ((-9002 : Int32), M) := n10 M (by decide)
  refine kL_85 C hml hl.1 (c_L_act hlf hc) ⟨Nat.le_of_ble_eq_true rfl, Nat.le_of_ble_eq_true rfl⟩ ⟨by show _ ≤ 1712; omega, by show _ ≤ 10272; omega⟩ (Nat.le_of_ble_eq_true rfl) hS hW dL_refuses_428 (fun H locs hW hS => ?_)
  refine lv_iload hx hb dL_refuses_431 (lv_at hl 10 rfl) ?_
  refine lv_icmp_ne (tgt := 456) hx hb dL_refuses_433 (by decide) (fun c => absurd (by decide) c) (fun _ => ?_)
  refine lv_aload_n hx hb dL_refuses_436 rfl (lv_at hl 16 rfl) ?_
  refine lv_bipush (v := (10 : Int32)) hx hb dL_refuses_437 (by decide) ?_
  refine lv_iconst (v := (0 : Int32)) hx hb dL_refuses_439 (by decide) ?_
  refine lv_iconst (v := (1 : Int32)) hx hb dL_refuses_440 (by decide) ?_
  refine lv_iconst (v := (0 : Int32)) hx hb dL_refuses_441 (by decide) ?_
  refine lv_iload hx hb dL_refuses_442 (lv_at hl 1 rfl) ?_
  have hc : f_L_act M (10 : Int32) (0 : Int32) (1 : Int32) (0 : Int32) (-2147483647 : Int32) = some ((-9002 : Int32), M) := n10 M (by decide)
  refine kL_85 C hml hl.1 (c_L_act hlf hc) ⟨Nat.le_of_ble_eq_true rfl, Nat.le_of_ble_eq_true rfl⟩ ⟨by show _ ≤ 1712; omega, by show _ ≤ 10272; omega⟩ (Nat.le_of_ble_eq_true rfl) hS hW dL_refuses_444 (fun H locs hW hS => ?_)
  refine lv_iload hx hb dL_refuses_447 (lv_at hl 10 rfl) ?_
  refine lv_icmp_ne (tgt := 456) hx hb dL_refuses_449 (by decide) (fun c => absurd (by decide) c) (fun _ => ?_)
  exact t_refuses_36 C hml hr hlk hlf h hS hW (lv_sub hl [0, 1, 2, 3, 4, 5, 6, 7, 8, 9, 10, 11, 12, 13, 14, 15, 16] rfl) ⟨by omega, by omega⟩
set_option maxHeartbeats 4000000 in
set_option maxRecDepth 100000 in
theorem t_refuses_34 {p : Program} {l : Launch} {e : Env} {s : State} {m : MethodId} {args : Array Value} {below : List Frame} {meth : Method} {c : Code} {Z : Zt} {b : Nat} (C : Cx p s m args c cL_refuses RL Z b) (hml : c.maxLocals = 17) (hr : meth.sig.returnType = some .boolean) (hlk : meth.locks = false) (hlf : l.stackTraces = false) {M : Mem} {τ : Tr} {k : Lk} {F : List Nat} (h : Rl M τ k F) {H : Heap} {locs : List Loc} {ls : Array Slot} {cells slots : Nat} (hS : va_S (A0 b) s.heap H locs) (hW : Wd Z b M H) (hl : lv_has ls 17 [(14, .int (2147483647 : Int32)), (13, .int (-2147483647 : Int32)), (12, .int (1011 : Int32)), (11, .int (2147483647 : Int32)), (10, .int (2147483647 : Int32)), (9, .int (2147483647 : Int32)), (8, .int (2 : Int32)), (15, .int (1 : Int32)), (16, .int (9 : Int32)), (7, .int (2147483647 : Int32)), (6, .int (-9002 : Int32)), (5, .int (-9001 : Int32)), (4, .int (ovl k (0 : Int32).toNatClampNeg)), (3, .int (nI F.length)), (2, .int (nI ((ta τ).filter (par (0 : Int32).toNatClampNeg)).length)), (1, .int (nI (ta τ).length)), (0, .ref (b + 0))]) (hcs : cells + 814 ≤ 1712 ∧ slots + 4884 ≤ 10272) : W p l e rm_L_refuses s m args below meth c H locs cells slots (MQ below (Qn Z b (some (.int 1)) M) args s 1712 10272 (A0 b)) (F0 m 279 ls []) := by
  have hx := C.1
  have hb := C.2.1
  refine lv_aload_n hx hb dL_refuses_279 rfl (lv_at hl 16 rfl) ?_
  refine lv_iconst (v := (1 : Int32)) hx hb dL_refuses_280 (by decide) ?_
  refine lv_iconst (v := (0 : Int32)) hx hb dL_refuses_281 (by decide) ?_
  refine lv_iconst (v := (1 : Int32)) hx hb dL_refuses_282 (by decide) ?_
  refine lv_iconst (v := (0 : Int32)) hx hb dL_refuses_283 (by decide) ?_
  refine lv_iload hx hb dL_refuses_284 (lv_at hl 1 rfl) ?_
  have hc : f_L_act M (1 : Int32) (0 : Int32) (1 : Int32) (0 : Int32) (-2147483647 : Int32) = some ((-9002 : Int32), M) := n1 M (by decide)
  refine kL_85 C hml hl.1 (c_L_act hlf hc) ⟨Nat.le_of_ble_eq_true rfl, Nat.le_of_ble_eq_true rfl⟩ ⟨by show _ ≤ 1712; omega, by show _ ≤ 10272; omega⟩ (Nat.le_of_ble_eq_true rfl) hS hW dL_refuses_286 (fun H locs hW hS => ?_)
  refine lv_iload hx hb dL_refuses_289 (lv_at hl 10 rfl) ?_
  refine lv_icmp_ne (tgt := 456) hx hb dL_refuses_291 (by decide) (fun c => absurd (by decide) c) (fun _ => ?_)
  refine lv_aload_n hx hb dL_refuses_294 rfl (lv_at hl 16 rfl) ?_
  refine lv_bipush (v := (18 : Int32)) hx hb dL_refuses_295 (by decide) ?_
  refine lv_iconst (v := (0 : Int32)) hx hb dL_refuses_297 (by decide) ?_
  refine lv_iconst (v := (1 : Int32)) hx hb dL_refuses_298 (by decide) ?_
  refine lv_iload hx hb dL_refuses_299 (lv_at hl 6 rfl) ?_
  refine lv_if_ne (tgt := 309) hx hb dL_refuses_301 (by decide) (fun _ => ?_) (fun c => absurd c (by decide))
  refine lv_iload hx hb dL_refuses_309 (lv_at hl 0 rfl) ?_
  refine lv_iconst (v := (0 : Int32)) hx hb dL_refuses_311 (by decide) ?_
  have hc : f_L_act M (18 : Int32) (0 : Int32) (1 : Int32) (2147483647 : Int32) (0 : Int32) = some ((-9002 : Int32), M) := n18 M (by decide)
  refine kL_85 C hml hl.1 (c_L_act hlf hc) ⟨Nat.le_of_ble_eq_true rfl, Nat.le_of_ble_eq_true rfl⟩ ⟨by show _ ≤ 1712; omega, by show _ ≤ 10272; omega⟩ (Nat.le_of_ble_eq_true rfl) hS hW dL_refuses_312 (fun H locs hW hS => ?_)
  refine lv_iload hx hb dL_refuses_315 (lv_at hl 10 rfl) ?_
  refine lv_icmp_ne (tgt := 456) hx hb dL_refuses_317 (by decide) (fun c => absurd (by decide) c) (fun _ => ?_)
  refine lv_aload_n hx hb dL_refuses_320 rfl (lv_at hl 16 rfl) ?_
  refine lv_iconst (v := (2 : Int32)) hx hb dL_refuses_321 (by decide) ?_
  refine lv_iload hx hb dL_refuses_322 (lv_at hl 4 rfl) ?_
  refine lv_iconst (v := (1 : Int32)) hx hb dL_refuses_324 (by decide) ?_
  refine lv_iconst (v := (0 : Int32)) hx hb dL_refuses_325 (by decide) ?_
  refine lv_iconst (v := (0 : Int32)) hx hb dL_refuses_326 (by decide) ?_
  have hc : f_L_act M (2 : Int32) (2147483647 : Int32) (1 : Int32) (0 : Int32) (0 : Int32) = some ((-9002 : Int32), M) := n2 M (by decide)
  refine kL_85 C hml hl.1 (c_L_act hlf hc) ⟨Nat.le_of_ble_eq_true rfl, Nat.le_of_ble_eq_true rfl⟩ ⟨by show _ ≤ 1712; omega, by show _ ≤ 10272; omega⟩ (Nat.le_of_ble_eq_true rfl) hS hW dL_refuses_327 (fun H locs hW hS => ?_)
  refine lv_iload hx hb dL_refuses_330 (lv_at hl 10 rfl) ?_
  refine lv_icmp_ne (tgt := 456) hx hb dL_refuses_332 (by decide) (fun c => absurd (by decide) c) (fun _ => ?_)
  refine lv_aload_n hx hb dL_refuses_335 rfl (lv_at hl 16 rfl) ?_
  refine lv_iconst (v := (2 : Int32)) hx hb dL_refuses_336 (by decide) ?_
  refine lv_iconst (v := (0 : Int32)) hx hb dL_refuses_337 (by decide) ?_
  refine lv_iconst (v := (0 : Int32)) hx hb dL_refuses_338 (by decide) ?_
  refine lv_iconst (v := (0 : Int32)) hx hb dL_refuses_339 (by decide) ?_
  refine lv_iconst (v := (0 : Int32)) hx hb dL_refuses_340 (by decide) ?_
  have hc : f_L_act M (2 : Int32) (0 : Int32) (0 : Int32) (0 : Int32) (0 : Int32) = some ((-9002 : Int32), M) := n2 M (by decide)
  refine kL_85 C hml hl.1 (c_L_act hlf hc) ⟨Nat.le_of_ble_eq_true rfl, Nat.le_of_ble_eq_true rfl⟩ ⟨by show _ ≤ 1712; omega, by show _ ≤ 10272; omega⟩ (Nat.le_of_ble_eq_true rfl) hS hW dL_refuses_341 (fun H locs hW hS => ?_)
  refine lv_iload hx hb dL_refuses_344 (lv_at hl 10 rfl) ?_
  refine lv_icmp_ne (tgt := 456) hx hb dL_refuses_346 (by decide) (fun c => absurd (by decide) c) (fun _ => ?_)
  refine lv_aload_n hx hb dL_refuses_349 rfl (lv_at hl 16 rfl) ?_
  refine lv_iconst (v := (2 : Int32)) hx hb dL_refuses_350 (by decide) ?_
  refine lv_iconst (v := (0 : Int32)) hx hb dL_refuses_351 (by decide) ?_
  refine lv_iconst (v := (1 : Int32)) hx hb dL_refuses_352 (by decide) ?_
  refine lv_iload hx hb dL_refuses_353 (lv_at hl 1 rfl) ?_
  refine lv_iconst (v := (0 : Int32)) hx hb dL_refuses_355 (by decide) ?_
  have hc : f_L_act M (2 : Int32) (0 : Int32) (1 : Int32) (-2147483647 : Int32) (0 : Int32) = some ((-9002 : Int32), M) := n2 M (by decide)
  refine kL_85 C hml hl.1 (c_L_act hlf hc) ⟨Nat.le_of_ble_eq_true rfl, Nat.le_of_ble_eq_true rfl⟩ ⟨by show _ ≤ 1712; omega, by show _ ≤ 10272; omega⟩ (Nat.le_of_ble_eq_true rfl) hS hW dL_refuses_356 (fun H locs hW hS => ?_)
  refine lv_iload hx hb dL_refuses_359 (lv_at hl 10 rfl) ?_
  refine lv_icmp_ne (tgt := 456) hx hb dL_refuses_361 (by decide) (fun c => absurd (by decide) c) (fun _ => ?_)
  exact t_refuses_35 C hml hr hlk hlf h hS hW (lv_sub hl [0, 1, 2, 3, 4, 5, 6, 7, 8, 9, 10, 11, 12, 13, 14, 15, 16] rfl) ⟨by omega, by omega⟩
set_option maxHeartbeats 4000000 in
set_option maxRecDepth 100000 in
theorem t_refuses_33 {p : Program} {l : Launch} {e : Env} {s : State} {m : MethodId} {args : Array Value} {below : List Frame} {meth : Method} {c : Code} {Z : Zt} {b : Nat} (C : Cx p s m args c cL_refuses RL Z b) (hml : c.maxLocals = 17) (hr : meth.sig.returnType = some .boolean) (hlk : meth.locks = false) (hlf : l.stackTraces = false) {M : Mem} {τ : Tr} {k : Lk} {F : List Nat} (h : Rl M τ k F) {H : Heap} {locs : List Loc} {ls : Array Slot} {cells slots : Nat} (hS : va_S (A0 b) s.heap H locs) (hW : Wd Z b M H) (hl : lv_has ls 17 [(14, .int (2147483647 : Int32)), (13, .int (-2147483647 : Int32)), (12, .int (1011 : Int32)), (11, .int (2147483647 : Int32)), (10, .int (2147483647 : Int32)), (9, .int (2147483647 : Int32)), (8, .int (2 : Int32)), (15, .int (1 : Int32)), (16, .int (9 : Int32)), (7, .int (2147483647 : Int32)), (6, .int (-9002 : Int32)), (5, .int (-9001 : Int32)), (4, .int (ovl k (0 : Int32).toNatClampNeg)), (3, .int (nI F.length)), (2, .int (nI ((ta τ).filter (par (0 : Int32).toNatClampNeg)).length)), (1, .int (nI (ta τ).length)), (0, .ref (b + 0))]) (hcs : cells + 849 ≤ 1712 ∧ slots + 5094 ≤ 10272) : W p l e rm_L_refuses s m args below meth c H locs cells slots (MQ below (Qn Z b (some (.int 1)) M) args s 1712 10272 (A0 b)) (F0 m 206 ls []) := by
  have hx := C.1
  have hb := C.2.1
  refine lv_aload_n hx hb dL_refuses_206 rfl (lv_at hl 16 rfl) ?_
  refine lv_iconst (v := (0 : Int32)) hx hb dL_refuses_207 (by decide) ?_
  refine lv_iconst (v := (0 : Int32)) hx hb dL_refuses_208 (by decide) ?_
  refine lv_iconst (v := (0 : Int32)) hx hb dL_refuses_209 (by decide) ?_
  refine lv_iconst (v := (0 : Int32)) hx hb dL_refuses_210 (by decide) ?_
  refine lv_iconst (v := (0 : Int32)) hx hb dL_refuses_211 (by decide) ?_
  have hc : f_L_act M (0 : Int32) (0 : Int32) (0 : Int32) (0 : Int32) (0 : Int32) = some ((-9002 : Int32), M) := n0 M (by decide)
  refine kL_85 C hml hl.1 (c_L_act hlf hc) ⟨Nat.le_of_ble_eq_true rfl, Nat.le_of_ble_eq_true rfl⟩ ⟨by show _ ≤ 1712; omega, by show _ ≤ 10272; omega⟩ (Nat.le_of_ble_eq_true rfl) hS hW dL_refuses_212 (fun H locs hW hS => ?_)
  refine lv_iload hx hb dL_refuses_215 (lv_at hl 10 rfl) ?_
  refine lv_icmp_ne (tgt := 456) hx hb dL_refuses_217 (by decide) (fun c => absurd (by decide) c) (fun _ => ?_)
  refine lv_aload_n hx hb dL_refuses_220 rfl (lv_at hl 16 rfl) ?_
  refine lv_iconst (v := (0 : Int32)) hx hb dL_refuses_221 (by decide) ?_
  refine lv_iconst (v := (0 : Int32)) hx hb dL_refuses_222 (by decide) ?_
  refine lv_iconst (v := (1 : Int32)) hx hb dL_refuses_223 (by decide) ?_
  refine lv_iload hx hb dL_refuses_224 (lv_at hl 1 rfl) ?_
  refine lv_iconst (v := (0 : Int32)) hx hb dL_refuses_226 (by decide) ?_
  have hc : f_L_act M (0 : Int32) (0 : Int32) (1 : Int32) (-2147483647 : Int32) (0 : Int32) = some ((-9002 : Int32), M) := n0 M (by decide)
  refine kL_85 C hml hl.1 (c_L_act hlf hc) ⟨Nat.le_of_ble_eq_true rfl, Nat.le_of_ble_eq_true rfl⟩ ⟨by show _ ≤ 1712; omega, by show _ ≤ 10272; omega⟩ (Nat.le_of_ble_eq_true rfl) hS hW dL_refuses_227 (fun H locs hW hS => ?_)
  refine lv_iload hx hb dL_refuses_230 (lv_at hl 10 rfl) ?_
  refine lv_icmp_ne (tgt := 456) hx hb dL_refuses_232 (by decide) (fun c => absurd (by decide) c) (fun _ => ?_)
  refine lv_aload_n hx hb dL_refuses_235 rfl (lv_at hl 16 rfl) ?_
  refine lv_iconst (v := (1 : Int32)) hx hb dL_refuses_236 (by decide) ?_
  refine lv_iload hx hb dL_refuses_237 (lv_at hl 4 rfl) ?_
  refine lv_iconst (v := (1 : Int32)) hx hb dL_refuses_239 (by decide) ?_
  refine lv_iconst (v := (0 : Int32)) hx hb dL_refuses_240 (by decide) ?_
  refine lv_iconst (v := (0 : Int32)) hx hb dL_refuses_241 (by decide) ?_
  have hc : f_L_act M (1 : Int32) (2147483647 : Int32) (1 : Int32) (0 : Int32) (0 : Int32) = some ((-9002 : Int32), M) := n1 M (by decide)
  refine kL_85 C hml hl.1 (c_L_act hlf hc) ⟨Nat.le_of_ble_eq_true rfl, Nat.le_of_ble_eq_true rfl⟩ ⟨by show _ ≤ 1712; omega, by show _ ≤ 10272; omega⟩ (Nat.le_of_ble_eq_true rfl) hS hW dL_refuses_242 (fun H locs hW hS => ?_)
  refine lv_iload hx hb dL_refuses_245 (lv_at hl 10 rfl) ?_
  refine lv_icmp_ne (tgt := 456) hx hb dL_refuses_247 (by decide) (fun c => absurd (by decide) c) (fun _ => ?_)
  refine lv_aload_n hx hb dL_refuses_250 rfl (lv_at hl 16 rfl) ?_
  refine lv_iconst (v := (1 : Int32)) hx hb dL_refuses_251 (by decide) ?_
  refine lv_iconst (v := (0 : Int32)) hx hb dL_refuses_252 (by decide) ?_
  refine lv_iconst (v := (0 : Int32)) hx hb dL_refuses_253 (by decide) ?_
  refine lv_iconst (v := (0 : Int32)) hx hb dL_refuses_254 (by decide) ?_
  refine lv_iconst (v := (0 : Int32)) hx hb dL_refuses_255 (by decide) ?_
  have hc : f_L_act M (1 : Int32) (0 : Int32) (0 : Int32) (0 : Int32) (0 : Int32) = some ((-9002 : Int32), M) := n1 M (by decide)
  refine kL_85 C hml hl.1 (c_L_act hlf hc) ⟨Nat.le_of_ble_eq_true rfl, Nat.le_of_ble_eq_true rfl⟩ ⟨by show _ ≤ 1712; omega, by show _ ≤ 10272; omega⟩ (Nat.le_of_ble_eq_true rfl) hS hW dL_refuses_256 (fun H locs hW hS => ?_)
  refine lv_iload hx hb dL_refuses_259 (lv_at hl 10 rfl) ?_
  refine lv_icmp_ne (tgt := 456) hx hb dL_refuses_261 (by decide) (fun c => absurd (by decide) c) (fun _ => ?_)
  refine lv_aload_n hx hb dL_refuses_264 rfl (lv_at hl 16 rfl) ?_
  refine lv_iconst (v := (1 : Int32)) hx hb dL_refuses_265 (by decide) ?_
  refine lv_iconst (v := (0 : Int32)) hx hb dL_refuses_266 (by decide) ?_
  refine lv_iconst (v := (1 : Int32)) hx hb dL_refuses_267 (by decide) ?_
  refine lv_iload hx hb dL_refuses_268 (lv_at hl 0 rfl) ?_
  refine lv_iconst (v := (0 : Int32)) hx hb dL_refuses_270 (by decide) ?_
  have hc : f_L_act M (1 : Int32) (0 : Int32) (1 : Int32) (2147483647 : Int32) (0 : Int32) = some ((-9002 : Int32), M) := n1 M (by decide)
  refine kL_85 C hml hl.1 (c_L_act hlf hc) ⟨Nat.le_of_ble_eq_true rfl, Nat.le_of_ble_eq_true rfl⟩ ⟨by show _ ≤ 1712; omega, by show _ ≤ 10272; omega⟩ (Nat.le_of_ble_eq_true rfl) hS hW dL_refuses_271 (fun H locs hW hS => ?_)
  refine lv_iload hx hb dL_refuses_274 (lv_at hl 10 rfl) ?_
  refine lv_icmp_ne (tgt := 456) hx hb dL_refuses_276 (by decide) (fun c => absurd (by decide) c) (fun _ => ?_)
  exact t_refuses_34 C hml hr hlk hlf h hS hW (lv_sub hl [0, 1, 2, 3, 4, 5, 6, 7, 8, 9, 10, 11, 12, 13, 14, 15, 16] rfl) ⟨by omega, by omega⟩
set_option maxHeartbeats 4000000 in
set_option maxRecDepth 100000 in
theorem t_refuses_32 {p : Program} {l : Launch} {e : Env} {s : State} {m : MethodId} {args : Array Value} {below : List Frame} {meth : Method} {c : Code} {Z : Zt} {b : Nat} (C : Cx p s m args c cL_refuses RL Z b) (hml : c.maxLocals = 17) (hr : meth.sig.returnType = some .boolean) (hlk : meth.locks = false) (hlf : l.stackTraces = false) {M : Mem} {τ : Tr} {k : Lk} {F : List Nat} (h : Rl M τ k F) {H : Heap} {locs : List Loc} {ls : Array Slot} {cells slots : Nat} (hS : va_S (A0 b) s.heap H locs) (hW : Wd Z b M H) (hl : lv_has ls 17 [(10, .int (2147483647 : Int32)), (9, .int (2147483647 : Int32)), (8, .int (2 : Int32)), (15, .int (1 : Int32)), (16, .int (9 : Int32)), (14, .int (1000 : Int32)), (13, .int (-1 : Int32)), (12, .int (101 : Int32)), (11, .int (10111 : Int32)), (7, .int (2147483647 : Int32)), (6, .int (-9002 : Int32)), (5, .int (-9001 : Int32)), (4, .int (ovl k (0 : Int32).toNatClampNeg)), (3, .int (nI F.length)), (2, .int (nI ((ta τ).filter (par (0 : Int32).toNatClampNeg)).length)), (1, .int (nI (ta τ).length)), (0, .ref (b + 0))]) (hcs : cells + 856 ≤ 1712 ∧ slots + 5136 ≤ 10272) : W p l e rm_L_refuses s m args below meth c H locs cells slots (MQ below (Qn Z b (some (.int 1)) M) args s 1712 10272 (A0 b)) (F0 m 87 ls []) := by
  have hx := C.1
  have hb := C.2.1
  refine lv_iload hx hb dL_refuses_87 (lv_at hl 2 rfl) ?_
  refine lv_if_ne (tgt := 97) hx hb dL_refuses_89 (by decide) (fun _ => ?_) (fun c => absurd c (by decide))
  refine lv_iload hx hb dL_refuses_97 (lv_at hl 2 rfl) ?_
  refine lv_iconst (v := (1 : Int32)) hx hb dL_refuses_99 (by decide) ?_
  refine lv_icmp_ne (tgt := 109) hx hb dL_refuses_100 (by decide) (fun _ => ?_) (fun c => absurd c (by decide))
  refine lv_iload hx hb dL_refuses_109 (lv_at hl 1 rfl) ?_
  refine lv_istore (lv' := [(11, .int (2147483647 : Int32)), (10, .int (2147483647 : Int32)), (9, .int (2147483647 : Int32)), (8, .int (2 : Int32)), (15, .int (1 : Int32)), (16, .int (9 : Int32)), (14, .int (1000 : Int32)), (13, .int (-1 : Int32)), (12, .int (101 : Int32)), (7, .int (2147483647 : Int32)), (6, .int (-9002 : Int32)), (5, .int (-9001 : Int32)), (4, .int (ovl k (0 : Int32).toNatClampNeg)), (3, .int (nI F.length)), (2, .int (nI ((ta τ).filter (par (0 : Int32).toNatClampNeg)).length)), (1, .int (nI (ta τ).length)), (0, .ref (b + 0))]) hx hb dL_refuses_111 hl (by decide) rfl (fun ls hl => ?_)
  refine lv_iload hx hb dL_refuses_113 (lv_at hl 3 rfl) ?_
  refine lv_if_ne (tgt := 122) hx hb dL_refuses_115 (by decide) (fun _ => ?_) (fun c => absurd c (by decide))
  refine lv_iload hx hb dL_refuses_122 (lv_at hl 3 rfl) ?_
  refine lv_iconst (v := (1 : Int32)) hx hb dL_refuses_124 (by decide) ?_
  refine lv_icmp_ne (tgt := 133) hx hb dL_refuses_125 (by decide) (fun _ => ?_) (fun c => absurd c (by decide))
  refine lv_iload hx hb dL_refuses_133 (lv_at hl 3 rfl) ?_
  refine lv_iconst (v := (2 : Int32)) hx hb dL_refuses_135 (by decide) ?_
  refine lv_icmp_ne (tgt := 145) hx hb dL_refuses_136 (by decide) (fun c => absurd (by decide) c) (fun _ => ?_)
  refine lv_sipush (v := (1011 : Int32)) hx hb dL_refuses_139 (by decide) ?_
  refine lv_goto (tgt := 147) hx hb dL_refuses_142 (by decide) ?_
  refine lv_istore (lv' := [(12, .int (1011 : Int32)), (11, .int (2147483647 : Int32)), (10, .int (2147483647 : Int32)), (9, .int (2147483647 : Int32)), (8, .int (2 : Int32)), (15, .int (1 : Int32)), (16, .int (9 : Int32)), (14, .int (1000 : Int32)), (13, .int (-1 : Int32)), (7, .int (2147483647 : Int32)), (6, .int (-9002 : Int32)), (5, .int (-9001 : Int32)), (4, .int (ovl k (0 : Int32).toNatClampNeg)), (3, .int (nI F.length)), (2, .int (nI ((ta τ).filter (par (0 : Int32).toNatClampNeg)).length)), (1, .int (nI (ta τ).length)), (0, .ref (b + 0))]) hx hb dL_refuses_147 hl (by decide) rfl (fun ls hl => ?_)
  refine lv_iload hx hb dL_refuses_149 (lv_at hl 4 rfl) ?_
  refine lv_iconst (v := (2 : Int32)) hx hb dL_refuses_151 (by decide) ?_
  refine lv_icmp_ge (tgt := 159) hx hb dL_refuses_152 (by decide) (fun _ => ?_) (fun c => absurd (by decide) c)
  refine lv_iload hx hb dL_refuses_159 (lv_at hl 4 rfl) ?_
  refine lv_iconst (v := (2 : Int32)) hx hb dL_refuses_161 (by decide) ?_
  refine lv_icmp_ne (tgt := 171) hx hb dL_refuses_162 (by decide) (fun c => absurd (by decide) c) (fun _ => ?_)
  refine lv_iload hx hb dL_refuses_165 (lv_at hl 9 rfl) ?_
  refine lv_ineg hx hb dL_refuses_167 ?_
  refine W.eq (g2 := F0 m 168 ls [.int (-2147483647 : Int32)]) (congrArg (fun v => F0 m 168 ls (.int v :: [])) (show -(2147483647 : Int32) = (-2147483647 : Int32) by decide)) ?_
  refine lv_goto (tgt := 173) hx hb dL_refuses_168 (by decide) ?_
  refine lv_istore (lv' := [(13, .int (-2147483647 : Int32)), (12, .int (1011 : Int32)), (11, .int (2147483647 : Int32)), (10, .int (2147483647 : Int32)), (9, .int (2147483647 : Int32)), (8, .int (2 : Int32)), (15, .int (1 : Int32)), (16, .int (9 : Int32)), (14, .int (1000 : Int32)), (7, .int (2147483647 : Int32)), (6, .int (-9002 : Int32)), (5, .int (-9001 : Int32)), (4, .int (ovl k (0 : Int32).toNatClampNeg)), (3, .int (nI F.length)), (2, .int (nI ((ta τ).filter (par (0 : Int32).toNatClampNeg)).length)), (1, .int (nI (ta τ).length)), (0, .ref (b + 0))]) hx hb dL_refuses_173 hl (by decide) rfl (fun ls hl => ?_)
  refine lv_iload hx hb dL_refuses_175 (lv_at hl 5 rfl) ?_
  refine lv_iconst (v := (1 : Int32)) hx hb dL_refuses_177 (by decide) ?_
  refine lv_icmp_ne (tgt := 187) hx hb dL_refuses_178 (by decide) (fun _ => ?_) (fun c => absurd c (by decide))
  refine lv_iload hx hb dL_refuses_187 (lv_at hl 4 rfl) ?_
  refine lv_istore (lv' := [(14, .int (2147483647 : Int32)), (13, .int (-2147483647 : Int32)), (12, .int (1011 : Int32)), (11, .int (2147483647 : Int32)), (10, .int (2147483647 : Int32)), (9, .int (2147483647 : Int32)), (8, .int (2 : Int32)), (15, .int (1 : Int32)), (16, .int (9 : Int32)), (7, .int (2147483647 : Int32)), (6, .int (-9002 : Int32)), (5, .int (-9001 : Int32)), (4, .int (ovl k (0 : Int32).toNatClampNeg)), (3, .int (nI F.length)), (2, .int (nI ((ta τ).filter (par (0 : Int32).toNatClampNeg)).length)), (1, .int (nI (ta τ).length)), (0, .ref (b + 0))]) hx hb dL_refuses_189 hl (by decide) rfl (fun ls hl => ?_)
  refine lv_aload_n hx hb dL_refuses_191 rfl (lv_at hl 16 rfl) ?_
  refine lv_iconst (v := (0 : Int32)) hx hb dL_refuses_192 (by decide) ?_
  refine lv_iload hx hb dL_refuses_193 (lv_at hl 4 rfl) ?_
  refine lv_iconst (v := (1 : Int32)) hx hb dL_refuses_195 (by decide) ?_
  refine lv_iconst (v := (0 : Int32)) hx hb dL_refuses_196 (by decide) ?_
  refine lv_iconst (v := (0 : Int32)) hx hb dL_refuses_197 (by decide) ?_
  have hc : f_L_act M (0 : Int32) (2147483647 : Int32) (1 : Int32) (0 : Int32) (0 : Int32) = some ((-9002 : Int32), M) := n0 M (by decide)
  refine kL_85 C hml hl.1 (c_L_act hlf hc) ⟨Nat.le_of_ble_eq_true rfl, Nat.le_of_ble_eq_true rfl⟩ ⟨by show _ ≤ 1712; omega, by show _ ≤ 10272; omega⟩ (Nat.le_of_ble_eq_true rfl) hS hW dL_refuses_198 (fun H locs hW hS => ?_)
  refine lv_iload hx hb dL_refuses_201 (lv_at hl 10 rfl) ?_
  refine lv_icmp_ne (tgt := 456) hx hb dL_refuses_203 (by decide) (fun c => absurd (by decide) c) (fun _ => ?_)
  exact t_refuses_33 C hml hr hlk hlf h hS hW (lv_sub hl [0, 1, 2, 3, 4, 5, 6, 7, 8, 9, 10, 11, 12, 13, 14, 15, 16] rfl) ⟨by omega, by omega⟩
set_option maxHeartbeats 4000000 in
set_option maxRecDepth 100000 in
theorem t_refuses_31 {p : Program} {l : Launch} {e : Env} {s : State} {m : MethodId} {args : Array Value} {below : List Frame} {meth : Method} {c : Code} {Z : Zt} {b : Nat} (C : Cx p s m args c cL_refuses RL Z b) (hml : c.maxLocals = 17) (hr : meth.sig.returnType = some .boolean) (hlk : meth.locks = false) (hlf : l.stackTraces = false) {M : Mem} {τ : Tr} {k : Lk} {F : List Nat} (h : Rl M τ k F) {H : Heap} {locs : List Loc} {ls : Array Slot} {cells slots : Nat} (hS : va_S (A0 b) s.heap H locs) (hW : Wd Z b M H) (hl : lv_has ls 17 [(16, .int (9 : Int32)), (15, .int (1 : Int32)), (14, .int (1000 : Int32)), (13, .int (-1 : Int32)), (12, .int (101 : Int32)), (11, .int (10111 : Int32)), (10, .int (4 : Int32)), (9, .int (-2147483648 : Int32)), (8, .int (1 : Int32)), (7, .int (2147483647 : Int32)), (6, .int (-9002 : Int32)), (5, .int (-9001 : Int32)), (4, .int (ovl k (0 : Int32).toNatClampNeg)), (3, .int (nI F.length)), (2, .int (nI ((ta τ).filter (par (0 : Int32).toNatClampNeg)).length)), (1, .int (nI (ta τ).length)), (0, .ref (b + 0))]) (hcs : cells + 870 ≤ 1712 ∧ slots + 5220 ≤ 10272) : W p l e rm_L_refuses s m args below meth c H locs cells slots (MQ below (Qn Z b (some (.int 1)) M) args s 1712 10272 (A0 b)) (F0 m 1074 ls []) := by
  have hx := C.1
  have hb := C.2.1
  refine lv_aload_n hx hb dL_refuses_1074 rfl (lv_at hl 16 rfl) ?_
  refine lv_bipush (v := (17 : Int32)) hx hb dL_refuses_1075 (by decide) ?_
  refine lv_iconst (v := (0 : Int32)) hx hb dL_refuses_1077 (by decide) ?_
  refine lv_iconst (v := (0 : Int32)) hx hb dL_refuses_1078 (by decide) ?_
  refine lv_iconst (v := (0 : Int32)) hx hb dL_refuses_1079 (by decide) ?_
  refine lv_iload hx hb dL_refuses_1080 (lv_at hl 3 rfl) ?_
  have hc : f_L_act M (17 : Int32) (0 : Int32) (0 : Int32) (0 : Int32) (-1 : Int32) = some ((-9002 : Int32), M) := n17 M (by decide)
  refine kL_85 C hml hl.1 (c_L_act hlf hc) ⟨Nat.le_of_ble_eq_true rfl, Nat.le_of_ble_eq_true rfl⟩ ⟨by show _ ≤ 1712; omega, by show _ ≤ 10272; omega⟩ (Nat.le_of_ble_eq_true rfl) hS hW dL_refuses_1082 (fun H locs hW hS => ?_)
  refine lv_iload hx hb dL_refuses_1085 (lv_at hl 10 rfl) ?_
  refine lv_icmp_ne (tgt := 1108) hx hb dL_refuses_1087 (by decide) (fun c => absurd (by decide) c) (fun _ => ?_)
  refine lv_aload_n hx hb dL_refuses_1090 rfl (lv_at hl 16 rfl) ?_
  refine lv_bipush (v := (17 : Int32)) hx hb dL_refuses_1091 (by decide) ?_
  refine lv_iconst (v := (0 : Int32)) hx hb dL_refuses_1093 (by decide) ?_
  refine lv_iconst (v := (0 : Int32)) hx hb dL_refuses_1094 (by decide) ?_
  refine lv_iconst (v := (0 : Int32)) hx hb dL_refuses_1095 (by decide) ?_
  refine lv_iconst (v := (0 : Int32)) hx hb dL_refuses_1096 (by decide) ?_
  have hc : f_L_act M (17 : Int32) (0 : Int32) (0 : Int32) (0 : Int32) (0 : Int32) = some ((1 : Int32), M) := n17t h
  refine kL_85 C hml hl.1 (c_L_act hlf hc) ⟨Nat.le_of_ble_eq_true rfl, Nat.le_of_ble_eq_true rfl⟩ ⟨by show _ ≤ 1712; omega, by show _ ≤ 10272; omega⟩ (Nat.le_of_ble_eq_true rfl) hS hW dL_refuses_1097 (fun H locs hW hS => ?_)
  refine lv_iconst (v := (1 : Int32)) hx hb dL_refuses_1100 (by decide) ?_
  refine lv_icmp_ne (tgt := 1108) hx hb dL_refuses_1101 (by decide) (fun c => absurd (by decide) c) (fun _ => ?_)
  refine lv_iconst (v := (1 : Int32)) hx hb dL_refuses_1104 (by decide) ?_
  refine lv_goto (tgt := 1109) hx hb dL_refuses_1105 (by decide) ?_
  refine lv_istore (lv' := [(15, .int (1 : Int32)), (16, .int (9 : Int32)), (14, .int (1000 : Int32)), (13, .int (-1 : Int32)), (12, .int (101 : Int32)), (11, .int (10111 : Int32)), (10, .int (4 : Int32)), (9, .int (-2147483648 : Int32)), (8, .int (1 : Int32)), (7, .int (2147483647 : Int32)), (6, .int (-9002 : Int32)), (5, .int (-9001 : Int32)), (4, .int (ovl k (0 : Int32).toNatClampNeg)), (3, .int (nI F.length)), (2, .int (nI ((ta τ).filter (par (0 : Int32).toNatClampNeg)).length)), (1, .int (nI (ta τ).length)), (0, .ref (b + 0))]) hx hb dL_refuses_1109 hl (by decide) rfl (fun ls hl => ?_)
  refine lv_iload hx hb dL_refuses_1111 (lv_at hl 0 rfl) ?_
  refine lv_if_ne (tgt := 1118) hx hb dL_refuses_1113 (by decide) (fun _ => ?_) (fun c => absurd c (by decide))
  refine lv_iinc (v := (2 : Int32)) (lv' := [(8, .int (2 : Int32)), (15, .int (1 : Int32)), (16, .int (9 : Int32)), (14, .int (1000 : Int32)), (13, .int (-1 : Int32)), (12, .int (101 : Int32)), (11, .int (10111 : Int32)), (10, .int (4 : Int32)), (9, .int (-2147483648 : Int32)), (7, .int (2147483647 : Int32)), (6, .int (-9002 : Int32)), (5, .int (-9001 : Int32)), (4, .int (ovl k (0 : Int32).toNatClampNeg)), (3, .int (nI F.length)), (2, .int (nI ((ta τ).filter (par (0 : Int32).toNatClampNeg)).length)), (1, .int (nI (ta τ).length)), (0, .ref (b + 0))]) hx hb dL_refuses_1118 hl (k := 8) rfl (by decide) (by decide) rfl (fun ls hl => ?_)
  refine lv_goto (tgt := 40) hx hb dL_refuses_1121 (by decide) ?_
  refine lv_iload hx hb dL_refuses_40 (lv_at hl 0 rfl) ?_
  refine lv_iconst (v := (4 : Int32)) hx hb dL_refuses_42 (by decide) ?_
  refine lv_icmp_ge (tgt := 1124) hx hb dL_refuses_43 (by decide) (fun c => absurd c (by decide)) (fun _ => ?_)
  refine lv_iload hx hb dL_refuses_46 (lv_at hl 0 rfl) ?_
  refine lv_if_ne (tgt := 55) hx hb dL_refuses_48 (by decide) (fun _ => ?_) (fun c => absurd c (by decide))
  refine lv_iload hx hb dL_refuses_55 (lv_at hl 0 rfl) ?_
  refine lv_iconst (v := (2 : Int32)) hx hb dL_refuses_57 (by decide) ?_
  refine lv_icmp_ne (tgt := 66) hx hb dL_refuses_58 (by decide) (fun c => absurd (by decide) c) (fun _ => ?_)
  refine lv_iload hx hb dL_refuses_61 (lv_at hl 9 rfl) ?_
  refine lv_goto (tgt := 71) hx hb dL_refuses_63 (by decide) ?_
  refine lv_istore (lv' := [(9, .int (2147483647 : Int32)), (8, .int (2 : Int32)), (15, .int (1 : Int32)), (16, .int (9 : Int32)), (14, .int (1000 : Int32)), (13, .int (-1 : Int32)), (12, .int (101 : Int32)), (11, .int (10111 : Int32)), (10, .int (4 : Int32)), (7, .int (2147483647 : Int32)), (6, .int (-9002 : Int32)), (5, .int (-9001 : Int32)), (4, .int (ovl k (0 : Int32).toNatClampNeg)), (3, .int (nI F.length)), (2, .int (nI ((ta τ).filter (par (0 : Int32).toNatClampNeg)).length)), (1, .int (nI (ta τ).length)), (0, .ref (b + 0))]) hx hb dL_refuses_71 hl (by decide) rfl (fun ls hl => ?_)
  refine lv_iload hx hb dL_refuses_73 (lv_at hl 1 rfl) ?_
  refine lv_iconst (v := (1 : Int32)) hx hb dL_refuses_75 (by decide) ?_
  refine lv_icmp_ne (tgt := 83) hx hb dL_refuses_76 (by decide) (fun _ => ?_) (fun c => absurd c (by decide))
  refine lv_iload hx hb dL_refuses_83 (lv_at hl 0 rfl) ?_
  refine lv_istore (lv' := [(10, .int (2147483647 : Int32)), (9, .int (2147483647 : Int32)), (8, .int (2 : Int32)), (15, .int (1 : Int32)), (16, .int (9 : Int32)), (14, .int (1000 : Int32)), (13, .int (-1 : Int32)), (12, .int (101 : Int32)), (11, .int (10111 : Int32)), (7, .int (2147483647 : Int32)), (6, .int (-9002 : Int32)), (5, .int (-9001 : Int32)), (4, .int (ovl k (0 : Int32).toNatClampNeg)), (3, .int (nI F.length)), (2, .int (nI ((ta τ).filter (par (0 : Int32).toNatClampNeg)).length)), (1, .int (nI (ta τ).length)), (0, .ref (b + 0))]) hx hb dL_refuses_85 hl (by decide) rfl (fun ls hl => ?_)
  exact t_refuses_32 C hml hr hlk hlf h hS hW (lv_sub hl [0, 1, 2, 3, 4, 5, 6, 7, 8, 9, 10, 11, 12, 13, 14, 15, 16] rfl) ⟨by omega, by omega⟩
set_option maxHeartbeats 4000000 in
set_option maxRecDepth 100000 in
theorem t_refuses_30 {p : Program} {l : Launch} {e : Env} {s : State} {m : MethodId} {args : Array Value} {below : List Frame} {meth : Method} {c : Code} {Z : Zt} {b : Nat} (C : Cx p s m args c cL_refuses RL Z b) (hml : c.maxLocals = 17) (hr : meth.sig.returnType = some .boolean) (hlk : meth.locks = false) (hlf : l.stackTraces = false) {M : Mem} {τ : Tr} {k : Lk} {F : List Nat} (h : Rl M τ k F) {H : Heap} {locs : List Loc} {ls : Array Slot} {cells slots : Nat} (hS : va_S (A0 b) s.heap H locs) (hW : Wd Z b M H) (hl : lv_has ls 17 [(16, .int (9 : Int32)), (15, .int (1 : Int32)), (14, .int (1000 : Int32)), (13, .int (-1 : Int32)), (12, .int (101 : Int32)), (11, .int (10111 : Int32)), (10, .int (4 : Int32)), (9, .int (-2147483648 : Int32)), (8, .int (1 : Int32)), (7, .int (2147483647 : Int32)), (6, .int (-9002 : Int32)), (5, .int (-9001 : Int32)), (4, .int (ovl k (0 : Int32).toNatClampNeg)), (3, .int (nI F.length)), (2, .int (nI ((ta τ).filter (par (0 : Int32).toNatClampNeg)).length)), (1, .int (nI (ta τ).length)), (0, .ref (b + 0))]) (hcs : cells + 905 ≤ 1712 ∧ slots + 5430 ≤ 10272) : W p l e rm_L_refuses s m args below meth c H locs cells slots (MQ below (Qn Z b (some (.int 1)) M) args s 1712 10272 (A0 b)) (F0 m 994 ls []) := by
  have hx := C.1
  have hb := C.2.1
  refine lv_aload_n hx hb dL_refuses_994 rfl (lv_at hl 16 rfl) ?_
  refine lv_bipush (v := (16 : Int32)) hx hb dL_refuses_995 (by decide) ?_
  refine lv_iload hx hb dL_refuses_997 (lv_at hl 5 rfl) ?_
  refine lv_iconst (v := (0 : Int32)) hx hb dL_refuses_999 (by decide) ?_
  refine lv_iconst (v := (0 : Int32)) hx hb dL_refuses_1000 (by decide) ?_
  refine lv_iconst (v := (0 : Int32)) hx hb dL_refuses_1001 (by decide) ?_
  have hc : f_L_act M (16 : Int32) (10111 : Int32) (0 : Int32) (0 : Int32) (0 : Int32) = some ((-9002 : Int32), M) := n16 M (by decide)
  refine kL_85 C hml hl.1 (c_L_act hlf hc) ⟨Nat.le_of_ble_eq_true rfl, Nat.le_of_ble_eq_true rfl⟩ ⟨by show _ ≤ 1712; omega, by show _ ≤ 10272; omega⟩ (Nat.le_of_ble_eq_true rfl) hS hW dL_refuses_1002 (fun H locs hW hS => ?_)
  refine lv_iload hx hb dL_refuses_1005 (lv_at hl 10 rfl) ?_
  refine lv_icmp_ne (tgt := 1108) hx hb dL_refuses_1007 (by decide) (fun c => absurd (by decide) c) (fun _ => ?_)
  refine lv_aload_n hx hb dL_refuses_1010 rfl (lv_at hl 16 rfl) ?_
  refine lv_bipush (v := (16 : Int32)) hx hb dL_refuses_1011 (by decide) ?_
  refine lv_iconst (v := (0 : Int32)) hx hb dL_refuses_1013 (by decide) ?_
  refine lv_iconst (v := (0 : Int32)) hx hb dL_refuses_1014 (by decide) ?_
  refine lv_iconst (v := (0 : Int32)) hx hb dL_refuses_1015 (by decide) ?_
  refine lv_iconst (v := (0 : Int32)) hx hb dL_refuses_1016 (by decide) ?_
  have hc : f_L_act M (16 : Int32) (0 : Int32) (0 : Int32) (0 : Int32) (0 : Int32) = some ((-9003 : Int32), M) := n16t h
  refine kL_85 C hml hl.1 (c_L_act hlf hc) ⟨Nat.le_of_ble_eq_true rfl, Nat.le_of_ble_eq_true rfl⟩ ⟨by show _ ≤ 1712; omega, by show _ ≤ 10272; omega⟩ (Nat.le_of_ble_eq_true rfl) hS hW dL_refuses_1017 (fun H locs hW hS => ?_)
  refine lv_sipush (v := (-9003 : Int32)) hx hb dL_refuses_1020 (by decide) ?_
  refine lv_icmp_ne (tgt := 1108) hx hb dL_refuses_1023 (by decide) (fun c => absurd (by decide) c) (fun _ => ?_)
  refine lv_aload_n hx hb dL_refuses_1026 rfl (lv_at hl 16 rfl) ?_
  refine lv_bipush (v := (17 : Int32)) hx hb dL_refuses_1027 (by decide) ?_
  refine lv_iload hx hb dL_refuses_1029 (lv_at hl 6 rfl) ?_
  refine lv_iconst (v := (0 : Int32)) hx hb dL_refuses_1031 (by decide) ?_
  refine lv_iconst (v := (0 : Int32)) hx hb dL_refuses_1032 (by decide) ?_
  refine lv_iconst (v := (0 : Int32)) hx hb dL_refuses_1033 (by decide) ?_
  have hc : f_L_act M (17 : Int32) (4 : Int32) (0 : Int32) (0 : Int32) (0 : Int32) = some ((-9002 : Int32), M) := n17 M (by decide)
  refine kL_85 C hml hl.1 (c_L_act hlf hc) ⟨Nat.le_of_ble_eq_true rfl, Nat.le_of_ble_eq_true rfl⟩ ⟨by show _ ≤ 1712; omega, by show _ ≤ 10272; omega⟩ (Nat.le_of_ble_eq_true rfl) hS hW dL_refuses_1034 (fun H locs hW hS => ?_)
  refine lv_iload hx hb dL_refuses_1037 (lv_at hl 10 rfl) ?_
  refine lv_icmp_ne (tgt := 1108) hx hb dL_refuses_1039 (by decide) (fun c => absurd (by decide) c) (fun _ => ?_)
  refine lv_aload_n hx hb dL_refuses_1042 rfl (lv_at hl 16 rfl) ?_
  refine lv_bipush (v := (17 : Int32)) hx hb dL_refuses_1043 (by decide) ?_
  refine lv_iconst (v := (0 : Int32)) hx hb dL_refuses_1045 (by decide) ?_
  refine lv_iload hx hb dL_refuses_1046 (lv_at hl 5 rfl) ?_
  refine lv_iconst (v := (0 : Int32)) hx hb dL_refuses_1048 (by decide) ?_
  refine lv_iconst (v := (0 : Int32)) hx hb dL_refuses_1049 (by decide) ?_
  have hc : f_L_act M (17 : Int32) (0 : Int32) (10111 : Int32) (0 : Int32) (0 : Int32) = some ((-9002 : Int32), M) := n17 M (by decide)
  refine kL_85 C hml hl.1 (c_L_act hlf hc) ⟨Nat.le_of_ble_eq_true rfl, Nat.le_of_ble_eq_true rfl⟩ ⟨by show _ ≤ 1712; omega, by show _ ≤ 10272; omega⟩ (Nat.le_of_ble_eq_true rfl) hS hW dL_refuses_1050 (fun H locs hW hS => ?_)
  refine lv_iload hx hb dL_refuses_1053 (lv_at hl 10 rfl) ?_
  refine lv_icmp_ne (tgt := 1108) hx hb dL_refuses_1055 (by decide) (fun c => absurd (by decide) c) (fun _ => ?_)
  refine lv_aload_n hx hb dL_refuses_1058 rfl (lv_at hl 16 rfl) ?_
  refine lv_bipush (v := (17 : Int32)) hx hb dL_refuses_1059 (by decide) ?_
  refine lv_iconst (v := (0 : Int32)) hx hb dL_refuses_1061 (by decide) ?_
  refine lv_iconst (v := (0 : Int32)) hx hb dL_refuses_1062 (by decide) ?_
  refine lv_iload hx hb dL_refuses_1063 (lv_at hl 3 rfl) ?_
  refine lv_iconst (v := (0 : Int32)) hx hb dL_refuses_1065 (by decide) ?_
  have hc : f_L_act M (17 : Int32) (0 : Int32) (0 : Int32) (-1 : Int32) (0 : Int32) = some ((-9002 : Int32), M) := n17 M (by decide)
  refine kL_85 C hml hl.1 (c_L_act hlf hc) ⟨Nat.le_of_ble_eq_true rfl, Nat.le_of_ble_eq_true rfl⟩ ⟨by show _ ≤ 1712; omega, by show _ ≤ 10272; omega⟩ (Nat.le_of_ble_eq_true rfl) hS hW dL_refuses_1066 (fun H locs hW hS => ?_)
  refine lv_iload hx hb dL_refuses_1069 (lv_at hl 10 rfl) ?_
  refine lv_icmp_ne (tgt := 1108) hx hb dL_refuses_1071 (by decide) (fun c => absurd (by decide) c) (fun _ => ?_)
  exact t_refuses_31 C hml hr hlk hlf h hS hW (lv_sub hl [0, 1, 2, 3, 4, 5, 6, 7, 8, 9, 10, 11, 12, 13, 14, 15, 16] rfl) ⟨by omega, by omega⟩
set_option maxHeartbeats 4000000 in
set_option maxRecDepth 100000 in
theorem t_refuses_29 {p : Program} {l : Launch} {e : Env} {s : State} {m : MethodId} {args : Array Value} {below : List Frame} {meth : Method} {c : Code} {Z : Zt} {b : Nat} (C : Cx p s m args c cL_refuses RL Z b) (hml : c.maxLocals = 17) (hr : meth.sig.returnType = some .boolean) (hlk : meth.locks = false) (hlf : l.stackTraces = false) {M : Mem} {τ : Tr} {k : Lk} {F : List Nat} (h : Rl M τ k F) {H : Heap} {locs : List Loc} {ls : Array Slot} {cells slots : Nat} (hS : va_S (A0 b) s.heap H locs) (hW : Wd Z b M H) (hl : lv_has ls 17 [(16, .int (9 : Int32)), (15, .int (1 : Int32)), (14, .int (1000 : Int32)), (13, .int (-1 : Int32)), (12, .int (101 : Int32)), (11, .int (10111 : Int32)), (10, .int (4 : Int32)), (9, .int (-2147483648 : Int32)), (8, .int (1 : Int32)), (7, .int (2147483647 : Int32)), (6, .int (-9002 : Int32)), (5, .int (-9001 : Int32)), (4, .int (ovl k (0 : Int32).toNatClampNeg)), (3, .int (nI F.length)), (2, .int (nI ((ta τ).filter (par (0 : Int32).toNatClampNeg)).length)), (1, .int (nI (ta τ).length)), (0, .ref (b + 0))]) (hcs : cells + 940 ≤ 1712 ∧ slots + 5640 ≤ 10272) : W p l e rm_L_refuses s m args below meth c H locs cells slots (MQ below (Qn Z b (some (.int 1)) M) args s 1712 10272 (A0 b)) (F0 m 905 ls [.int (13 : Int32), .ref (b + 0)]) := by
  have hx := C.1
  have hb := C.2.1
  refine lv_iload hx hb dL_refuses_905 (lv_at hl 8 rfl) ?_
  refine lv_iconst (v := (1 : Int32)) hx hb dL_refuses_907 (by decide) ?_
  refine lv_icmp_ne (tgt := 917) hx hb dL_refuses_908 (by decide) (fun c => absurd (by decide) c) (fun _ => ?_)
  refine lv_sipush (v := (1001 : Int32)) hx hb dL_refuses_911 (by decide) ?_
  refine lv_goto (tgt := 919) hx hb dL_refuses_914 (by decide) ?_
  refine lv_iconst (v := (0 : Int32)) hx hb dL_refuses_919 (by decide) ?_
  refine lv_iconst (v := (0 : Int32)) hx hb dL_refuses_920 (by decide) ?_
  refine lv_iconst (v := (0 : Int32)) hx hb dL_refuses_921 (by decide) ?_
  have hc : f_L_act M (13 : Int32) (1001 : Int32) (0 : Int32) (0 : Int32) (0 : Int32) = some ((-9002 : Int32), M) := n13 M (by decide)
  refine kL_85 C hml hl.1 (c_L_act hlf hc) ⟨Nat.le_of_ble_eq_true rfl, Nat.le_of_ble_eq_true rfl⟩ ⟨by show _ ≤ 1712; omega, by show _ ≤ 10272; omega⟩ (Nat.le_of_ble_eq_true rfl) hS hW dL_refuses_922 (fun H locs hW hS => ?_)
  refine lv_iload hx hb dL_refuses_925 (lv_at hl 10 rfl) ?_
  refine lv_icmp_ne (tgt := 1108) hx hb dL_refuses_927 (by decide) (fun c => absurd (by decide) c) (fun _ => ?_)
  refine lv_aload_n hx hb dL_refuses_930 rfl (lv_at hl 16 rfl) ?_
  refine lv_bipush (v := (14 : Int32)) hx hb dL_refuses_931 (by decide) ?_
  refine lv_iload hx hb dL_refuses_933 (lv_at hl 5 rfl) ?_
  refine lv_iconst (v := (0 : Int32)) hx hb dL_refuses_935 (by decide) ?_
  refine lv_iconst (v := (0 : Int32)) hx hb dL_refuses_936 (by decide) ?_
  refine lv_iconst (v := (0 : Int32)) hx hb dL_refuses_937 (by decide) ?_
  have hc : f_L_act M (14 : Int32) (10111 : Int32) (0 : Int32) (0 : Int32) (0 : Int32) = some ((-9002 : Int32), M) := n14 M (by decide)
  refine kL_85 C hml hl.1 (c_L_act hlf hc) ⟨Nat.le_of_ble_eq_true rfl, Nat.le_of_ble_eq_true rfl⟩ ⟨by show _ ≤ 1712; omega, by show _ ≤ 10272; omega⟩ (Nat.le_of_ble_eq_true rfl) hS hW dL_refuses_938 (fun H locs hW hS => ?_)
  refine lv_iload hx hb dL_refuses_941 (lv_at hl 10 rfl) ?_
  refine lv_icmp_ne (tgt := 1108) hx hb dL_refuses_943 (by decide) (fun c => absurd (by decide) c) (fun _ => ?_)
  refine lv_aload_n hx hb dL_refuses_946 rfl (lv_at hl 16 rfl) ?_
  refine lv_bipush (v := (15 : Int32)) hx hb dL_refuses_947 (by decide) ?_
  refine lv_iload hx hb dL_refuses_949 (lv_at hl 6 rfl) ?_
  refine lv_iconst (v := (0 : Int32)) hx hb dL_refuses_951 (by decide) ?_
  refine lv_iconst (v := (0 : Int32)) hx hb dL_refuses_952 (by decide) ?_
  refine lv_iconst (v := (0 : Int32)) hx hb dL_refuses_953 (by decide) ?_
  have hc : f_L_act M (15 : Int32) (4 : Int32) (0 : Int32) (0 : Int32) (0 : Int32) = some ((-9002 : Int32), M) := n15 M (by decide)
  refine kL_85 C hml hl.1 (c_L_act hlf hc) ⟨Nat.le_of_ble_eq_true rfl, Nat.le_of_ble_eq_true rfl⟩ ⟨by show _ ≤ 1712; omega, by show _ ≤ 10272; omega⟩ (Nat.le_of_ble_eq_true rfl) hS hW dL_refuses_954 (fun H locs hW hS => ?_)
  refine lv_iload hx hb dL_refuses_957 (lv_at hl 10 rfl) ?_
  refine lv_icmp_ne (tgt := 1108) hx hb dL_refuses_959 (by decide) (fun c => absurd (by decide) c) (fun _ => ?_)
  refine lv_aload_n hx hb dL_refuses_962 rfl (lv_at hl 16 rfl) ?_
  refine lv_bipush (v := (15 : Int32)) hx hb dL_refuses_963 (by decide) ?_
  refine lv_iconst (v := (0 : Int32)) hx hb dL_refuses_965 (by decide) ?_
  refine lv_iload hx hb dL_refuses_966 (lv_at hl 4 rfl) ?_
  refine lv_iconst (v := (0 : Int32)) hx hb dL_refuses_968 (by decide) ?_
  refine lv_iconst (v := (0 : Int32)) hx hb dL_refuses_969 (by decide) ?_
  have hc : f_L_act M (15 : Int32) (0 : Int32) (101 : Int32) (0 : Int32) (0 : Int32) = some ((-9002 : Int32), M) := n15 M (by decide)
  refine kL_85 C hml hl.1 (c_L_act hlf hc) ⟨Nat.le_of_ble_eq_true rfl, Nat.le_of_ble_eq_true rfl⟩ ⟨by show _ ≤ 1712; omega, by show _ ≤ 10272; omega⟩ (Nat.le_of_ble_eq_true rfl) hS hW dL_refuses_970 (fun H locs hW hS => ?_)
  refine lv_iload hx hb dL_refuses_973 (lv_at hl 10 rfl) ?_
  refine lv_icmp_ne (tgt := 1108) hx hb dL_refuses_975 (by decide) (fun c => absurd (by decide) c) (fun _ => ?_)
  refine lv_aload_n hx hb dL_refuses_978 rfl (lv_at hl 16 rfl) ?_
  refine lv_bipush (v := (15 : Int32)) hx hb dL_refuses_979 (by decide) ?_
  refine lv_iconst (v := (0 : Int32)) hx hb dL_refuses_981 (by decide) ?_
  refine lv_iconst (v := (0 : Int32)) hx hb dL_refuses_982 (by decide) ?_
  refine lv_iload hx hb dL_refuses_983 (lv_at hl 3 rfl) ?_
  refine lv_iconst (v := (0 : Int32)) hx hb dL_refuses_985 (by decide) ?_
  have hc : f_L_act M (15 : Int32) (0 : Int32) (0 : Int32) (-1 : Int32) (0 : Int32) = some ((-9002 : Int32), M) := n15 M (by decide)
  refine kL_85 C hml hl.1 (c_L_act hlf hc) ⟨Nat.le_of_ble_eq_true rfl, Nat.le_of_ble_eq_true rfl⟩ ⟨by show _ ≤ 1712; omega, by show _ ≤ 10272; omega⟩ (Nat.le_of_ble_eq_true rfl) hS hW dL_refuses_986 (fun H locs hW hS => ?_)
  refine lv_iload hx hb dL_refuses_989 (lv_at hl 10 rfl) ?_
  refine lv_icmp_ne (tgt := 1108) hx hb dL_refuses_991 (by decide) (fun c => absurd (by decide) c) (fun _ => ?_)
  exact t_refuses_30 C hml hr hlk hlf h hS hW (lv_sub hl [0, 1, 2, 3, 4, 5, 6, 7, 8, 9, 10, 11, 12, 13, 14, 15, 16] rfl) ⟨by omega, by omega⟩
set_option maxHeartbeats 4000000 in
set_option maxRecDepth 100000 in
theorem t_refuses_28 {p : Program} {l : Launch} {e : Env} {s : State} {m : MethodId} {args : Array Value} {below : List Frame} {meth : Method} {c : Code} {Z : Zt} {b : Nat} (C : Cx p s m args c cL_refuses RL Z b) (hml : c.maxLocals = 17) (hr : meth.sig.returnType = some .boolean) (hlk : meth.locks = false) (hlf : l.stackTraces = false) {M : Mem} {τ : Tr} {k : Lk} {F : List Nat} (h : Rl M τ k F) {H : Heap} {locs : List Loc} {ls : Array Slot} {cells slots : Nat} (hS : va_S (A0 b) s.heap H locs) (hW : Wd Z b M H) (hl : lv_has ls 17 [(16, .int (9 : Int32)), (15, .int (1 : Int32)), (14, .int (1000 : Int32)), (13, .int (-1 : Int32)), (12, .int (101 : Int32)), (11, .int (10111 : Int32)), (10, .int (4 : Int32)), (9, .int (-2147483648 : Int32)), (8, .int (1 : Int32)), (7, .int (2147483647 : Int32)), (6, .int (-9002 : Int32)), (5, .int (-9001 : Int32)), (4, .int (ovl k (0 : Int32).toNatClampNeg)), (3, .int (nI F.length)), (2, .int (nI ((ta τ).filter (par (0 : Int32).toNatClampNeg)).length)), (1, .int (nI (ta τ).length)), (0, .ref (b + 0))]) (hcs : cells + 961 ≤ 1712 ∧ slots + 5766 ≤ 10272) : W p l e rm_L_refuses s m args below meth c H locs cells slots (MQ below (Qn Z b (some (.int 1)) M) args s 1712 10272 (A0 b)) (F0 m 813 ls []) := by
  have hx := C.1
  have hb := C.2.1
  refine lv_aload_n hx hb dL_refuses_813 rfl (lv_at hl 16 rfl) ?_
  refine lv_bipush (v := (11 : Int32)) hx hb dL_refuses_814 (by decide) ?_
  refine lv_iconst (v := (0 : Int32)) hx hb dL_refuses_816 (by decide) ?_
  refine lv_iconst (v := (0 : Int32)) hx hb dL_refuses_817 (by decide) ?_
  refine lv_iload hx hb dL_refuses_818 (lv_at hl 8 rfl) ?_
  refine lv_if_ne (tgt := 827) hx hb dL_refuses_820 (by decide) (fun _ => ?_) (fun c => absurd c (by decide))
  refine lv_iload hx hb dL_refuses_827 (lv_at hl 8 rfl) ?_
  refine lv_iconst (v := (1 : Int32)) hx hb dL_refuses_829 (by decide) ?_
  refine lv_icmp_ne (tgt := 839) hx hb dL_refuses_830 (by decide) (fun c => absurd (by decide) c) (fun _ => ?_)
  refine lv_sipush (v := (1001 : Int32)) hx hb dL_refuses_833 (by decide) ?_
  refine lv_goto (tgt := 841) hx hb dL_refuses_836 (by decide) ?_
  refine lv_iconst (v := (0 : Int32)) hx hb dL_refuses_841 (by decide) ?_
  have hc : f_L_act M (11 : Int32) (0 : Int32) (0 : Int32) (1001 : Int32) (0 : Int32) = some ((-9002 : Int32), M) := n11 M (by decide)
  refine kL_85 C hml hl.1 (c_L_act hlf hc) ⟨Nat.le_of_ble_eq_true rfl, Nat.le_of_ble_eq_true rfl⟩ ⟨by show _ ≤ 1712; omega, by show _ ≤ 10272; omega⟩ (Nat.le_of_ble_eq_true rfl) hS hW dL_refuses_842 (fun H locs hW hS => ?_)
  refine lv_iload hx hb dL_refuses_845 (lv_at hl 10 rfl) ?_
  refine lv_icmp_ne (tgt := 1108) hx hb dL_refuses_847 (by decide) (fun c => absurd (by decide) c) (fun _ => ?_)
  refine lv_aload_n hx hb dL_refuses_850 rfl (lv_at hl 16 rfl) ?_
  refine lv_bipush (v := (11 : Int32)) hx hb dL_refuses_851 (by decide) ?_
  refine lv_iconst (v := (0 : Int32)) hx hb dL_refuses_853 (by decide) ?_
  refine lv_iconst (v := (0 : Int32)) hx hb dL_refuses_854 (by decide) ?_
  refine lv_iconst (v := (5 : Int32)) hx hb dL_refuses_855 (by decide) ?_
  refine lv_iload hx hb dL_refuses_856 (lv_at hl 3 rfl) ?_
  have hc : f_L_act M (11 : Int32) (0 : Int32) (0 : Int32) (5 : Int32) (-1 : Int32) = some ((-9002 : Int32), M) := n11 M (by decide)
  refine kL_85 C hml hl.1 (c_L_act hlf hc) ⟨Nat.le_of_ble_eq_true rfl, Nat.le_of_ble_eq_true rfl⟩ ⟨by show _ ≤ 1712; omega, by show _ ≤ 10272; omega⟩ (Nat.le_of_ble_eq_true rfl) hS hW dL_refuses_858 (fun H locs hW hS => ?_)
  refine lv_iload hx hb dL_refuses_861 (lv_at hl 10 rfl) ?_
  refine lv_icmp_ne (tgt := 1108) hx hb dL_refuses_863 (by decide) (fun c => absurd (by decide) c) (fun _ => ?_)
  refine lv_aload_n hx hb dL_refuses_866 rfl (lv_at hl 16 rfl) ?_
  refine lv_bipush (v := (12 : Int32)) hx hb dL_refuses_867 (by decide) ?_
  refine lv_iconst (v := (0 : Int32)) hx hb dL_refuses_869 (by decide) ?_
  refine lv_iload hx hb dL_refuses_870 (lv_at hl 8 rfl) ?_
  refine lv_iconst (v := (1 : Int32)) hx hb dL_refuses_872 (by decide) ?_
  refine lv_icmp_ne (tgt := 881) hx hb dL_refuses_873 (by decide) (fun c => absurd (by decide) c) (fun _ => ?_)
  refine lv_bipush (v := (30 : Int32)) hx hb dL_refuses_876 (by decide) ?_
  refine lv_goto (tgt := 883) hx hb dL_refuses_878 (by decide) ?_
  refine lv_iconst (v := (-1 : Int32)) hx hb dL_refuses_883 (by decide) ?_
  refine lv_iconst (v := (0 : Int32)) hx hb dL_refuses_884 (by decide) ?_
  have hc : f_L_act M (12 : Int32) (0 : Int32) (30 : Int32) (-1 : Int32) (0 : Int32) = some ((-9001 : Int32), M) := n12 h (by decide)
  refine kL_85 C hml hl.1 (c_L_act hlf hc) ⟨Nat.le_of_ble_eq_true rfl, Nat.le_of_ble_eq_true rfl⟩ ⟨by show _ ≤ 1712; omega, by show _ ≤ 10272; omega⟩ (Nat.le_of_ble_eq_true rfl) hS hW dL_refuses_885 (fun H locs hW hS => ?_)
  refine lv_iload hx hb dL_refuses_888 (lv_at hl 11 rfl) ?_
  refine lv_icmp_ne (tgt := 1108) hx hb dL_refuses_890 (by decide) (fun c => absurd (by decide) c) (fun _ => ?_)
  refine lv_aload_n hx hb dL_refuses_893 rfl (lv_at hl 16 rfl) ?_
  refine lv_bipush (v := (13 : Int32)) hx hb dL_refuses_894 (by decide) ?_
  refine lv_iload hx hb dL_refuses_896 (lv_at hl 8 rfl) ?_
  refine lv_if_ne (tgt := 905) hx hb dL_refuses_898 (by decide) (fun _ => ?_) (fun c => absurd c (by decide))
  exact t_refuses_29 C hml hr hlk hlf h hS hW (lv_sub hl [0, 1, 2, 3, 4, 5, 6, 7, 8, 9, 10, 11, 12, 13, 14, 15, 16] rfl) ⟨by omega, by omega⟩
set_option maxHeartbeats 4000000 in
set_option maxRecDepth 100000 in
theorem t_refuses_27 {p : Program} {l : Launch} {e : Env} {s : State} {m : MethodId} {args : Array Value} {below : List Frame} {meth : Method} {c : Code} {Z : Zt} {b : Nat} (C : Cx p s m args c cL_refuses RL Z b) (hml : c.maxLocals = 17) (hr : meth.sig.returnType = some .boolean) (hlk : meth.locks = false) (hlf : l.stackTraces = false) {M : Mem} {τ : Tr} {k : Lk} {F : List Nat} (h : Rl M τ k F) {H : Heap} {locs : List Loc} {ls : Array Slot} {cells slots : Nat} (hS : va_S (A0 b) s.heap H locs) (hW : Wd Z b M H) (hl : lv_has ls 17 [(16, .int (9 : Int32)), (15, .int (1 : Int32)), (14, .int (1000 : Int32)), (13, .int (-1 : Int32)), (12, .int (101 : Int32)), (11, .int (10111 : Int32)), (10, .int (4 : Int32)), (9, .int (-2147483648 : Int32)), (8, .int (1 : Int32)), (7, .int (2147483647 : Int32)), (6, .int (-9002 : Int32)), (5, .int (-9001 : Int32)), (4, .int (ovl k (0 : Int32).toNatClampNeg)), (3, .int (nI F.length)), (2, .int (nI ((ta τ).filter (par (0 : Int32).toNatClampNeg)).length)), (1, .int (nI (ta τ).length)), (0, .ref (b + 0))]) (hcs : cells + 989 ≤ 1712 ∧ slots + 5934 ≤ 10272) : W p l e rm_L_refuses s m args below meth c H locs cells slots (MQ below (Qn Z b (some (.int 1)) M) args s 1712 10272 (A0 b)) (F0 m 739 ls []) := by
  have hx := C.1
  have hb := C.2.1
  refine lv_aload_n hx hb dL_refuses_739 rfl (lv_at hl 16 rfl) ?_
  refine lv_bipush (v := (9 : Int32)) hx hb dL_refuses_740 (by decide) ?_
  refine lv_iload hx hb dL_refuses_742 (lv_at hl 5 rfl) ?_
  refine lv_iconst (v := (-1 : Int32)) hx hb dL_refuses_744 (by decide) ?_
  refine lv_iconst (v := (0 : Int32)) hx hb dL_refuses_745 (by decide) ?_
  refine lv_iconst (v := (0 : Int32)) hx hb dL_refuses_746 (by decide) ?_
  have hc : f_L_act M (9 : Int32) (10111 : Int32) (-1 : Int32) (0 : Int32) (0 : Int32) = some ((-9002 : Int32), M) := n9 M (by decide)
  refine kL_85 C hml hl.1 (c_L_act hlf hc) ⟨Nat.le_of_ble_eq_true rfl, Nat.le_of_ble_eq_true rfl⟩ ⟨by show _ ≤ 1712; omega, by show _ ≤ 10272; omega⟩ (Nat.le_of_ble_eq_true rfl) hS hW dL_refuses_747 (fun H locs hW hS => ?_)
  refine lv_iload hx hb dL_refuses_750 (lv_at hl 10 rfl) ?_
  refine lv_icmp_ne (tgt := 1108) hx hb dL_refuses_752 (by decide) (fun c => absurd (by decide) c) (fun _ => ?_)
  refine lv_aload_n hx hb dL_refuses_755 rfl (lv_at hl 16 rfl) ?_
  refine lv_bipush (v := (9 : Int32)) hx hb dL_refuses_756 (by decide) ?_
  refine lv_iconst (v := (0 : Int32)) hx hb dL_refuses_758 (by decide) ?_
  refine lv_iload hx hb dL_refuses_759 (lv_at hl 8 rfl) ?_
  refine lv_iconst (v := (1 : Int32)) hx hb dL_refuses_761 (by decide) ?_
  refine lv_icmp_ne (tgt := 769) hx hb dL_refuses_762 (by decide) (fun c => absurd (by decide) c) (fun _ => ?_)
  refine lv_iload_n hx hb dL_refuses_765 rfl (lv_at hl 14 rfl) ?_
  refine lv_goto (tgt := 771) hx hb dL_refuses_766 (by decide) ?_
  refine lv_iconst (v := (0 : Int32)) hx hb dL_refuses_771 (by decide) ?_
  refine lv_iconst (v := (0 : Int32)) hx hb dL_refuses_772 (by decide) ?_
  have hc : f_L_act M (9 : Int32) (0 : Int32) (nI ((ta τ).filter (par (0 : Int32).toNatClampNeg)).length) (0 : Int32) (0 : Int32) = some ((-9001 : Int32), M) := n9c h
  refine kL_85 C hml hl.1 (c_L_act hlf hc) ⟨Nat.le_of_ble_eq_true rfl, Nat.le_of_ble_eq_true rfl⟩ ⟨by show _ ≤ 1712; omega, by show _ ≤ 10272; omega⟩ (Nat.le_of_ble_eq_true rfl) hS hW dL_refuses_773 (fun H locs hW hS => ?_)
  refine lv_iload hx hb dL_refuses_776 (lv_at hl 11 rfl) ?_
  refine lv_icmp_ne (tgt := 1108) hx hb dL_refuses_778 (by decide) (fun c => absurd (by decide) c) (fun _ => ?_)
  refine lv_aload_n hx hb dL_refuses_781 rfl (lv_at hl 16 rfl) ?_
  refine lv_bipush (v := (11 : Int32)) hx hb dL_refuses_782 (by decide) ?_
  refine lv_iload hx hb dL_refuses_784 (lv_at hl 6 rfl) ?_
  refine lv_iconst (v := (0 : Int32)) hx hb dL_refuses_786 (by decide) ?_
  refine lv_iconst (v := (5 : Int32)) hx hb dL_refuses_787 (by decide) ?_
  refine lv_iconst (v := (0 : Int32)) hx hb dL_refuses_788 (by decide) ?_
  have hc : f_L_act M (11 : Int32) (4 : Int32) (0 : Int32) (5 : Int32) (0 : Int32) = some ((-9002 : Int32), M) := n11 M (by decide)
  refine kL_85 C hml hl.1 (c_L_act hlf hc) ⟨Nat.le_of_ble_eq_true rfl, Nat.le_of_ble_eq_true rfl⟩ ⟨by show _ ≤ 1712; omega, by show _ ≤ 10272; omega⟩ (Nat.le_of_ble_eq_true rfl) hS hW dL_refuses_789 (fun H locs hW hS => ?_)
  refine lv_iload hx hb dL_refuses_792 (lv_at hl 10 rfl) ?_
  refine lv_icmp_ne (tgt := 1108) hx hb dL_refuses_794 (by decide) (fun c => absurd (by decide) c) (fun _ => ?_)
  refine lv_aload_n hx hb dL_refuses_797 rfl (lv_at hl 16 rfl) ?_
  refine lv_bipush (v := (11 : Int32)) hx hb dL_refuses_798 (by decide) ?_
  refine lv_iconst (v := (0 : Int32)) hx hb dL_refuses_800 (by decide) ?_
  refine lv_iload hx hb dL_refuses_801 (lv_at hl 5 rfl) ?_
  refine lv_iconst (v := (5 : Int32)) hx hb dL_refuses_803 (by decide) ?_
  refine lv_iconst (v := (0 : Int32)) hx hb dL_refuses_804 (by decide) ?_
  have hc : f_L_act M (11 : Int32) (0 : Int32) (10111 : Int32) (5 : Int32) (0 : Int32) = some ((-9002 : Int32), M) := n11 M (by decide)
  refine kL_85 C hml hl.1 (c_L_act hlf hc) ⟨Nat.le_of_ble_eq_true rfl, Nat.le_of_ble_eq_true rfl⟩ ⟨by show _ ≤ 1712; omega, by show _ ≤ 10272; omega⟩ (Nat.le_of_ble_eq_true rfl) hS hW dL_refuses_805 (fun H locs hW hS => ?_)
  refine lv_iload hx hb dL_refuses_808 (lv_at hl 10 rfl) ?_
  refine lv_icmp_ne (tgt := 1108) hx hb dL_refuses_810 (by decide) (fun c => absurd (by decide) c) (fun _ => ?_)
  exact t_refuses_28 C hml hr hlk hlf h hS hW (lv_sub hl [0, 1, 2, 3, 4, 5, 6, 7, 8, 9, 10, 11, 12, 13, 14, 15, 16] rfl) ⟨by omega, by omega⟩
set_option maxHeartbeats 4000000 in
set_option maxRecDepth 100000 in
theorem t_refuses_26 {p : Program} {l : Launch} {e : Env} {s : State} {m : MethodId} {args : Array Value} {below : List Frame} {meth : Method} {c : Code} {Z : Zt} {b : Nat} (C : Cx p s m args c cL_refuses RL Z b) (hml : c.maxLocals = 17) (hr : meth.sig.returnType = some .boolean) (hlk : meth.locks = false) (hlf : l.stackTraces = false) {M : Mem} {τ : Tr} {k : Lk} {F : List Nat} (h : Rl M τ k F) {H : Heap} {locs : List Loc} {ls : Array Slot} {cells slots : Nat} (hS : va_S (A0 b) s.heap H locs) (hW : Wd Z b M H) (hl : lv_has ls 17 [(15, .int (1 : Int32)), (16, .int (8 : Int32)), (14, .int (1000 : Int32)), (13, .int (-1 : Int32)), (12, .int (101 : Int32)), (11, .int (10111 : Int32)), (10, .int (4 : Int32)), (9, .int (-2147483648 : Int32)), (8, .int (1 : Int32)), (7, .int (2147483647 : Int32)), (6, .int (-9002 : Int32)), (5, .int (-9001 : Int32)), (4, .int (ovl k (0 : Int32).toNatClampNeg)), (3, .int (nI F.length)), (2, .int (nI ((ta τ).filter (par (0 : Int32).toNatClampNeg)).length)), (1, .int (nI (ta τ).length)), (0, .ref (b + 0))]) (hcs : cells + 1017 ≤ 1712 ∧ slots + 6102 ≤ 10272) : W p l e rm_L_refuses s m args below meth c H locs cells slots (MQ below (Qn Z b (some (.int 1)) M) args s 1712 10272 (A0 b)) (F0 m 667 ls []) := by
  have hx := C.1
  have hb := C.2.1
  refine lv_iinc (v := (9 : Int32)) (lv' := [(16, .int (9 : Int32)), (15, .int (1 : Int32)), (14, .int (1000 : Int32)), (13, .int (-1 : Int32)), (12, .int (101 : Int32)), (11, .int (10111 : Int32)), (10, .int (4 : Int32)), (9, .int (-2147483648 : Int32)), (8, .int (1 : Int32)), (7, .int (2147483647 : Int32)), (6, .int (-9002 : Int32)), (5, .int (-9001 : Int32)), (4, .int (ovl k (0 : Int32).toNatClampNeg)), (3, .int (nI F.length)), (2, .int (nI ((ta τ).filter (par (0 : Int32).toNatClampNeg)).length)), (1, .int (nI (ta τ).length)), (0, .ref (b + 0))]) hx hb dL_refuses_667 hl (k := 1) rfl (by decide) (by decide) rfl (fun ls hl => ?_)
  refine lv_goto (tgt := 616) hx hb dL_refuses_670 (by decide) ?_
  refine lv_iload hx hb dL_refuses_616 (lv_at hl 0 rfl) ?_
  refine lv_bipush (v := (9 : Int32)) hx hb dL_refuses_618 (by decide) ?_
  refine lv_icmp_ge (tgt := 673) hx hb dL_refuses_620 (by decide) (fun _ => ?_) (fun c => absurd (by decide) c)
  refine lv_iload hx hb dL_refuses_673 (lv_at hl 1 rfl) ?_
  refine lv_if_eq (tgt := 1108) hx hb dL_refuses_675 (by decide) (fun c => absurd c (by decide)) (fun _ => ?_)
  refine lv_aload_n hx hb dL_refuses_678 rfl (lv_at hl 16 rfl) ?_
  refine lv_iconst (v := (0 : Int32)) hx hb dL_refuses_679 (by decide) ?_
  refine lv_iconst (v := (0 : Int32)) hx hb dL_refuses_680 (by decide) ?_
  refine lv_iload hx hb dL_refuses_681 (lv_at hl 5 rfl) ?_
  refine lv_iconst (v := (0 : Int32)) hx hb dL_refuses_683 (by decide) ?_
  refine lv_iconst (v := (0 : Int32)) hx hb dL_refuses_684 (by decide) ?_
  have hc : f_L_act M (0 : Int32) (0 : Int32) (10111 : Int32) (0 : Int32) (0 : Int32) = some ((-9002 : Int32), M) := n0 M (by decide)
  refine kL_85 C hml hl.1 (c_L_act hlf hc) ⟨Nat.le_of_ble_eq_true rfl, Nat.le_of_ble_eq_true rfl⟩ ⟨by show _ ≤ 1712; omega, by show _ ≤ 10272; omega⟩ (Nat.le_of_ble_eq_true rfl) hS hW dL_refuses_685 (fun H locs hW hS => ?_)
  refine lv_iload hx hb dL_refuses_688 (lv_at hl 10 rfl) ?_
  refine lv_icmp_ne (tgt := 1108) hx hb dL_refuses_690 (by decide) (fun c => absurd (by decide) c) (fun _ => ?_)
  refine lv_aload_n hx hb dL_refuses_693 rfl (lv_at hl 16 rfl) ?_
  refine lv_iconst (v := (1 : Int32)) hx hb dL_refuses_694 (by decide) ?_
  refine lv_iconst (v := (0 : Int32)) hx hb dL_refuses_695 (by decide) ?_
  refine lv_iload hx hb dL_refuses_696 (lv_at hl 4 rfl) ?_
  refine lv_iconst (v := (0 : Int32)) hx hb dL_refuses_698 (by decide) ?_
  refine lv_iconst (v := (0 : Int32)) hx hb dL_refuses_699 (by decide) ?_
  have hc : f_L_act M (1 : Int32) (0 : Int32) (101 : Int32) (0 : Int32) (0 : Int32) = some ((-9002 : Int32), M) := n1 M (by decide)
  refine kL_85 C hml hl.1 (c_L_act hlf hc) ⟨Nat.le_of_ble_eq_true rfl, Nat.le_of_ble_eq_true rfl⟩ ⟨by show _ ≤ 1712; omega, by show _ ≤ 10272; omega⟩ (Nat.le_of_ble_eq_true rfl) hS hW dL_refuses_700 (fun H locs hW hS => ?_)
  refine lv_iload hx hb dL_refuses_703 (lv_at hl 10 rfl) ?_
  refine lv_icmp_ne (tgt := 1108) hx hb dL_refuses_705 (by decide) (fun c => absurd (by decide) c) (fun _ => ?_)
  refine lv_aload_n hx hb dL_refuses_708 rfl (lv_at hl 16 rfl) ?_
  refine lv_iconst (v := (2 : Int32)) hx hb dL_refuses_709 (by decide) ?_
  refine lv_iconst (v := (0 : Int32)) hx hb dL_refuses_710 (by decide) ?_
  refine lv_iload hx hb dL_refuses_711 (lv_at hl 5 rfl) ?_
  refine lv_iconst (v := (0 : Int32)) hx hb dL_refuses_713 (by decide) ?_
  refine lv_iconst (v := (0 : Int32)) hx hb dL_refuses_714 (by decide) ?_
  have hc : f_L_act M (2 : Int32) (0 : Int32) (10111 : Int32) (0 : Int32) (0 : Int32) = some ((-9002 : Int32), M) := n2 M (by decide)
  refine kL_85 C hml hl.1 (c_L_act hlf hc) ⟨Nat.le_of_ble_eq_true rfl, Nat.le_of_ble_eq_true rfl⟩ ⟨by show _ ≤ 1712; omega, by show _ ≤ 10272; omega⟩ (Nat.le_of_ble_eq_true rfl) hS hW dL_refuses_715 (fun H locs hW hS => ?_)
  refine lv_iload hx hb dL_refuses_718 (lv_at hl 10 rfl) ?_
  refine lv_icmp_ne (tgt := 1108) hx hb dL_refuses_720 (by decide) (fun c => absurd (by decide) c) (fun _ => ?_)
  refine lv_aload_n hx hb dL_refuses_723 rfl (lv_at hl 16 rfl) ?_
  refine lv_bipush (v := (10 : Int32)) hx hb dL_refuses_724 (by decide) ?_
  refine lv_iconst (v := (0 : Int32)) hx hb dL_refuses_726 (by decide) ?_
  refine lv_iload hx hb dL_refuses_727 (lv_at hl 4 rfl) ?_
  refine lv_iconst (v := (0 : Int32)) hx hb dL_refuses_729 (by decide) ?_
  refine lv_iconst (v := (0 : Int32)) hx hb dL_refuses_730 (by decide) ?_
  have hc : f_L_act M (10 : Int32) (0 : Int32) (101 : Int32) (0 : Int32) (0 : Int32) = some ((-9002 : Int32), M) := n10 M (by decide)
  refine kL_85 C hml hl.1 (c_L_act hlf hc) ⟨Nat.le_of_ble_eq_true rfl, Nat.le_of_ble_eq_true rfl⟩ ⟨by show _ ≤ 1712; omega, by show _ ≤ 10272; omega⟩ (Nat.le_of_ble_eq_true rfl) hS hW dL_refuses_731 (fun H locs hW hS => ?_)
  refine lv_iload hx hb dL_refuses_734 (lv_at hl 10 rfl) ?_
  refine lv_icmp_ne (tgt := 1108) hx hb dL_refuses_736 (by decide) (fun c => absurd (by decide) c) (fun _ => ?_)
  exact t_refuses_27 C hml hr hlk hlf h hS hW (lv_sub hl [0, 1, 2, 3, 4, 5, 6, 7, 8, 9, 10, 11, 12, 13, 14, 15, 16] rfl) ⟨by omega, by omega⟩
set_option maxHeartbeats 4000000 in
set_option maxRecDepth 100000 in
theorem t_refuses_25 {p : Program} {l : Launch} {e : Env} {s : State} {m : MethodId} {args : Array Value} {below : List Frame} {meth : Method} {c : Code} {Z : Zt} {b : Nat} (C : Cx p s m args c cL_refuses RL Z b) (hml : c.maxLocals = 17) (hr : meth.sig.returnType = some .boolean) (hlk : meth.locks = false) (hlf : l.stackTraces = false) {M : Mem} {τ : Tr} {k : Lk} {F : List Nat} (h : Rl M τ k F) {H : Heap} {locs : List Loc} {ls : Array Slot} {cells slots : Nat} (hS : va_S (A0 b) s.heap H locs) (hW : Wd Z b M H) (hl : lv_has ls 17 [(16, .int (7 : Int32)), (15, .int (1 : Int32)), (14, .int (1000 : Int32)), (13, .int (-1 : Int32)), (12, .int (101 : Int32)), (11, .int (10111 : Int32)), (10, .int (4 : Int32)), (9, .int (-2147483648 : Int32)), (8, .int (1 : Int32)), (7, .int (2147483647 : Int32)), (6, .int (-9002 : Int32)), (5, .int (-9001 : Int32)), (4, .int (ovl k (0 : Int32).toNatClampNeg)), (3, .int (nI F.length)), (2, .int (nI ((ta τ).filter (par (0 : Int32).toNatClampNeg)).length)), (1, .int (nI (ta τ).length)), (0, .ref (b + 0))]) (hcs : cells + 1038 ≤ 1712 ∧ slots + 6228 ≤ 10272) : W p l e rm_L_refuses s m args below meth c H locs cells slots (MQ below (Qn Z b (some (.int 1)) M) args s 1712 10272 (A0 b)) (F0 m 644 ls []) := by
  have hx := C.1
  have hb := C.2.1
  refine lv_aload_n hx hb dL_refuses_644 rfl (lv_at hl 16 rfl) ?_
  refine lv_iload hx hb dL_refuses_645 (lv_at hl 0 rfl) ?_
  refine lv_iload hx hb dL_refuses_647 (lv_at hl 4 rfl) ?_
  refine lv_iconst (v := (0 : Int32)) hx hb dL_refuses_649 (by decide) ?_
  refine lv_iconst (v := (0 : Int32)) hx hb dL_refuses_650 (by decide) ?_
  refine lv_iconst (v := (0 : Int32)) hx hb dL_refuses_651 (by decide) ?_
  have hc : f_L_act M (7 : Int32) (101 : Int32) (0 : Int32) (0 : Int32) (0 : Int32) = some ((-9002 : Int32), M) := n7 M (by decide)
  refine kL_85 C hml hl.1 (c_L_act hlf hc) ⟨Nat.le_of_ble_eq_true rfl, Nat.le_of_ble_eq_true rfl⟩ ⟨by show _ ≤ 1712; omega, by show _ ≤ 10272; omega⟩ (Nat.le_of_ble_eq_true rfl) hS hW dL_refuses_652 (fun H locs hW hS => ?_)
  refine lv_iload hx hb dL_refuses_655 (lv_at hl 10 rfl) ?_
  refine lv_icmp_ne (tgt := 664) hx hb dL_refuses_657 (by decide) (fun c => absurd (by decide) c) (fun _ => ?_)
  refine lv_iconst (v := (1 : Int32)) hx hb dL_refuses_660 (by decide) ?_
  refine lv_goto (tgt := 665) hx hb dL_refuses_661 (by decide) ?_
  refine lv_istore (lv' := [(15, .int (1 : Int32)), (16, .int (7 : Int32)), (14, .int (1000 : Int32)), (13, .int (-1 : Int32)), (12, .int (101 : Int32)), (11, .int (10111 : Int32)), (10, .int (4 : Int32)), (9, .int (-2147483648 : Int32)), (8, .int (1 : Int32)), (7, .int (2147483647 : Int32)), (6, .int (-9002 : Int32)), (5, .int (-9001 : Int32)), (4, .int (ovl k (0 : Int32).toNatClampNeg)), (3, .int (nI F.length)), (2, .int (nI ((ta τ).filter (par (0 : Int32).toNatClampNeg)).length)), (1, .int (nI (ta τ).length)), (0, .ref (b + 0))]) hx hb dL_refuses_665 hl (by decide) rfl (fun ls hl => ?_)
  refine lv_iinc (v := (8 : Int32)) (lv' := [(16, .int (8 : Int32)), (15, .int (1 : Int32)), (14, .int (1000 : Int32)), (13, .int (-1 : Int32)), (12, .int (101 : Int32)), (11, .int (10111 : Int32)), (10, .int (4 : Int32)), (9, .int (-2147483648 : Int32)), (8, .int (1 : Int32)), (7, .int (2147483647 : Int32)), (6, .int (-9002 : Int32)), (5, .int (-9001 : Int32)), (4, .int (ovl k (0 : Int32).toNatClampNeg)), (3, .int (nI F.length)), (2, .int (nI ((ta τ).filter (par (0 : Int32).toNatClampNeg)).length)), (1, .int (nI (ta τ).length)), (0, .ref (b + 0))]) hx hb dL_refuses_667 hl (k := 1) rfl (by decide) (by decide) rfl (fun ls hl => ?_)
  refine lv_goto (tgt := 616) hx hb dL_refuses_670 (by decide) ?_
  refine lv_iload hx hb dL_refuses_616 (lv_at hl 0 rfl) ?_
  refine lv_bipush (v := (9 : Int32)) hx hb dL_refuses_618 (by decide) ?_
  refine lv_icmp_ge (tgt := 673) hx hb dL_refuses_620 (by decide) (fun c => absurd c (by decide)) (fun _ => ?_)
  refine lv_iload hx hb dL_refuses_623 (lv_at hl 1 rfl) ?_
  refine lv_if_eq (tgt := 664) hx hb dL_refuses_625 (by decide) (fun c => absurd c (by decide)) (fun _ => ?_)
  refine lv_aload_n hx hb dL_refuses_628 rfl (lv_at hl 16 rfl) ?_
  refine lv_iload hx hb dL_refuses_629 (lv_at hl 0 rfl) ?_
  refine lv_iload hx hb dL_refuses_631 (lv_at hl 5 rfl) ?_
  refine lv_iconst (v := (0 : Int32)) hx hb dL_refuses_633 (by decide) ?_
  refine lv_iconst (v := (0 : Int32)) hx hb dL_refuses_634 (by decide) ?_
  refine lv_iconst (v := (0 : Int32)) hx hb dL_refuses_635 (by decide) ?_
  have hc : f_L_act M (8 : Int32) (10111 : Int32) (0 : Int32) (0 : Int32) (0 : Int32) = some ((-9002 : Int32), M) := n8 M (by decide)
  refine kL_85 C hml hl.1 (c_L_act hlf hc) ⟨Nat.le_of_ble_eq_true rfl, Nat.le_of_ble_eq_true rfl⟩ ⟨by show _ ≤ 1712; omega, by show _ ≤ 10272; omega⟩ (Nat.le_of_ble_eq_true rfl) hS hW dL_refuses_636 (fun H locs hW hS => ?_)
  refine lv_iload hx hb dL_refuses_639 (lv_at hl 10 rfl) ?_
  refine lv_icmp_ne (tgt := 664) hx hb dL_refuses_641 (by decide) (fun c => absurd (by decide) c) (fun _ => ?_)
  refine lv_aload_n hx hb dL_refuses_644 rfl (lv_at hl 16 rfl) ?_
  refine lv_iload hx hb dL_refuses_645 (lv_at hl 0 rfl) ?_
  refine lv_iload hx hb dL_refuses_647 (lv_at hl 4 rfl) ?_
  refine lv_iconst (v := (0 : Int32)) hx hb dL_refuses_649 (by decide) ?_
  refine lv_iconst (v := (0 : Int32)) hx hb dL_refuses_650 (by decide) ?_
  refine lv_iconst (v := (0 : Int32)) hx hb dL_refuses_651 (by decide) ?_
  have hc : f_L_act M (8 : Int32) (101 : Int32) (0 : Int32) (0 : Int32) (0 : Int32) = some ((-9002 : Int32), M) := n8 M (by decide)
  refine kL_85 C hml hl.1 (c_L_act hlf hc) ⟨Nat.le_of_ble_eq_true rfl, Nat.le_of_ble_eq_true rfl⟩ ⟨by show _ ≤ 1712; omega, by show _ ≤ 10272; omega⟩ (Nat.le_of_ble_eq_true rfl) hS hW dL_refuses_652 (fun H locs hW hS => ?_)
  refine lv_iload hx hb dL_refuses_655 (lv_at hl 10 rfl) ?_
  refine lv_icmp_ne (tgt := 664) hx hb dL_refuses_657 (by decide) (fun c => absurd (by decide) c) (fun _ => ?_)
  refine lv_iconst (v := (1 : Int32)) hx hb dL_refuses_660 (by decide) ?_
  refine lv_goto (tgt := 665) hx hb dL_refuses_661 (by decide) ?_
  refine lv_istore (lv' := [(15, .int (1 : Int32)), (16, .int (8 : Int32)), (14, .int (1000 : Int32)), (13, .int (-1 : Int32)), (12, .int (101 : Int32)), (11, .int (10111 : Int32)), (10, .int (4 : Int32)), (9, .int (-2147483648 : Int32)), (8, .int (1 : Int32)), (7, .int (2147483647 : Int32)), (6, .int (-9002 : Int32)), (5, .int (-9001 : Int32)), (4, .int (ovl k (0 : Int32).toNatClampNeg)), (3, .int (nI F.length)), (2, .int (nI ((ta τ).filter (par (0 : Int32).toNatClampNeg)).length)), (1, .int (nI (ta τ).length)), (0, .ref (b + 0))]) hx hb dL_refuses_665 hl (by decide) rfl (fun ls hl => ?_)
  exact t_refuses_26 C hml hr hlk hlf h hS hW (lv_sub hl [0, 1, 2, 3, 4, 5, 6, 7, 8, 9, 10, 11, 12, 13, 14, 15, 16] rfl) ⟨by omega, by omega⟩
set_option maxHeartbeats 4000000 in
set_option maxRecDepth 100000 in
theorem t_refuses_24 {p : Program} {l : Launch} {e : Env} {s : State} {m : MethodId} {args : Array Value} {below : List Frame} {meth : Method} {c : Code} {Z : Zt} {b : Nat} (C : Cx p s m args c cL_refuses RL Z b) (hml : c.maxLocals = 17) (hr : meth.sig.returnType = some .boolean) (hlk : meth.locks = false) (hlf : l.stackTraces = false) {M : Mem} {τ : Tr} {k : Lk} {F : List Nat} (h : Rl M τ k F) {H : Heap} {locs : List Loc} {ls : Array Slot} {cells slots : Nat} (hS : va_S (A0 b) s.heap H locs) (hW : Wd Z b M H) (hl : lv_has ls 17 [(16, .int (6 : Int32)), (15, .int (1 : Int32)), (14, .int (1000 : Int32)), (13, .int (-1 : Int32)), (12, .int (101 : Int32)), (11, .int (10111 : Int32)), (10, .int (4 : Int32)), (9, .int (-2147483648 : Int32)), (8, .int (1 : Int32)), (7, .int (2147483647 : Int32)), (6, .int (-9002 : Int32)), (5, .int (-9001 : Int32)), (4, .int (ovl k (0 : Int32).toNatClampNeg)), (3, .int (nI F.length)), (2, .int (nI ((ta τ).filter (par (0 : Int32).toNatClampNeg)).length)), (1, .int (nI (ta τ).length)), (0, .ref (b + 0))]) (hcs : cells + 1059 ≤ 1712 ∧ slots + 6354 ≤ 10272) : W p l e rm_L_refuses s m args below meth c H locs cells slots (MQ below (Qn Z b (some (.int 1)) M) args s 1712 10272 (A0 b)) (F0 m 609 ls []) := by
  have hx := C.1
  have hb := C.2.1
  refine lv_goto (tgt := 462) hx hb dL_refuses_609 (by decide) ?_
  refine lv_iload hx hb dL_refuses_462 (lv_at hl 0 rfl) ?_
  refine lv_bipush (v := (6 : Int32)) hx hb dL_refuses_464 (by decide) ?_
  refine lv_icmp_ge (tgt := 612) hx hb dL_refuses_466 (by decide) (fun _ => ?_) (fun c => absurd (by decide) c)
  refine lv_bipush (v := (6 : Int32)) hx hb dL_refuses_612 (by decide) ?_
  refine lv_istore (lv' := [(16, .int (6 : Int32)), (15, .int (1 : Int32)), (14, .int (1000 : Int32)), (13, .int (-1 : Int32)), (12, .int (101 : Int32)), (11, .int (10111 : Int32)), (10, .int (4 : Int32)), (9, .int (-2147483648 : Int32)), (8, .int (1 : Int32)), (7, .int (2147483647 : Int32)), (6, .int (-9002 : Int32)), (5, .int (-9001 : Int32)), (4, .int (ovl k (0 : Int32).toNatClampNeg)), (3, .int (nI F.length)), (2, .int (nI ((ta τ).filter (par (0 : Int32).toNatClampNeg)).length)), (1, .int (nI (ta τ).length)), (0, .ref (b + 0))]) hx hb dL_refuses_614 hl (by decide) rfl (fun ls hl => ?_)
  refine lv_iload hx hb dL_refuses_616 (lv_at hl 0 rfl) ?_
  refine lv_bipush (v := (9 : Int32)) hx hb dL_refuses_618 (by decide) ?_
  refine lv_icmp_ge (tgt := 673) hx hb dL_refuses_620 (by decide) (fun c => absurd c (by decide)) (fun _ => ?_)
  refine lv_iload hx hb dL_refuses_623 (lv_at hl 1 rfl) ?_
  refine lv_if_eq (tgt := 664) hx hb dL_refuses_625 (by decide) (fun c => absurd c (by decide)) (fun _ => ?_)
  refine lv_aload_n hx hb dL_refuses_628 rfl (lv_at hl 16 rfl) ?_
  refine lv_iload hx hb dL_refuses_629 (lv_at hl 0 rfl) ?_
  refine lv_iload hx hb dL_refuses_631 (lv_at hl 5 rfl) ?_
  refine lv_iconst (v := (0 : Int32)) hx hb dL_refuses_633 (by decide) ?_
  refine lv_iconst (v := (0 : Int32)) hx hb dL_refuses_634 (by decide) ?_
  refine lv_iconst (v := (0 : Int32)) hx hb dL_refuses_635 (by decide) ?_
  have hc : f_L_act M (6 : Int32) (10111 : Int32) (0 : Int32) (0 : Int32) (0 : Int32) = some ((-9002 : Int32), M) := n6 M (by decide)
  refine kL_85 C hml hl.1 (c_L_act hlf hc) ⟨Nat.le_of_ble_eq_true rfl, Nat.le_of_ble_eq_true rfl⟩ ⟨by show _ ≤ 1712; omega, by show _ ≤ 10272; omega⟩ (Nat.le_of_ble_eq_true rfl) hS hW dL_refuses_636 (fun H locs hW hS => ?_)
  refine lv_iload hx hb dL_refuses_639 (lv_at hl 10 rfl) ?_
  refine lv_icmp_ne (tgt := 664) hx hb dL_refuses_641 (by decide) (fun c => absurd (by decide) c) (fun _ => ?_)
  refine lv_aload_n hx hb dL_refuses_644 rfl (lv_at hl 16 rfl) ?_
  refine lv_iload hx hb dL_refuses_645 (lv_at hl 0 rfl) ?_
  refine lv_iload hx hb dL_refuses_647 (lv_at hl 4 rfl) ?_
  refine lv_iconst (v := (0 : Int32)) hx hb dL_refuses_649 (by decide) ?_
  refine lv_iconst (v := (0 : Int32)) hx hb dL_refuses_650 (by decide) ?_
  refine lv_iconst (v := (0 : Int32)) hx hb dL_refuses_651 (by decide) ?_
  have hc : f_L_act M (6 : Int32) (101 : Int32) (0 : Int32) (0 : Int32) (0 : Int32) = some ((-9002 : Int32), M) := n6 M (by decide)
  refine kL_85 C hml hl.1 (c_L_act hlf hc) ⟨Nat.le_of_ble_eq_true rfl, Nat.le_of_ble_eq_true rfl⟩ ⟨by show _ ≤ 1712; omega, by show _ ≤ 10272; omega⟩ (Nat.le_of_ble_eq_true rfl) hS hW dL_refuses_652 (fun H locs hW hS => ?_)
  refine lv_iload hx hb dL_refuses_655 (lv_at hl 10 rfl) ?_
  refine lv_icmp_ne (tgt := 664) hx hb dL_refuses_657 (by decide) (fun c => absurd (by decide) c) (fun _ => ?_)
  refine lv_iconst (v := (1 : Int32)) hx hb dL_refuses_660 (by decide) ?_
  refine lv_goto (tgt := 665) hx hb dL_refuses_661 (by decide) ?_
  refine lv_istore (lv' := [(15, .int (1 : Int32)), (16, .int (6 : Int32)), (14, .int (1000 : Int32)), (13, .int (-1 : Int32)), (12, .int (101 : Int32)), (11, .int (10111 : Int32)), (10, .int (4 : Int32)), (9, .int (-2147483648 : Int32)), (8, .int (1 : Int32)), (7, .int (2147483647 : Int32)), (6, .int (-9002 : Int32)), (5, .int (-9001 : Int32)), (4, .int (ovl k (0 : Int32).toNatClampNeg)), (3, .int (nI F.length)), (2, .int (nI ((ta τ).filter (par (0 : Int32).toNatClampNeg)).length)), (1, .int (nI (ta τ).length)), (0, .ref (b + 0))]) hx hb dL_refuses_665 hl (by decide) rfl (fun ls hl => ?_)
  refine lv_iinc (v := (7 : Int32)) (lv' := [(16, .int (7 : Int32)), (15, .int (1 : Int32)), (14, .int (1000 : Int32)), (13, .int (-1 : Int32)), (12, .int (101 : Int32)), (11, .int (10111 : Int32)), (10, .int (4 : Int32)), (9, .int (-2147483648 : Int32)), (8, .int (1 : Int32)), (7, .int (2147483647 : Int32)), (6, .int (-9002 : Int32)), (5, .int (-9001 : Int32)), (4, .int (ovl k (0 : Int32).toNatClampNeg)), (3, .int (nI F.length)), (2, .int (nI ((ta τ).filter (par (0 : Int32).toNatClampNeg)).length)), (1, .int (nI (ta τ).length)), (0, .ref (b + 0))]) hx hb dL_refuses_667 hl (k := 1) rfl (by decide) (by decide) rfl (fun ls hl => ?_)
  refine lv_goto (tgt := 616) hx hb dL_refuses_670 (by decide) ?_
  refine lv_iload hx hb dL_refuses_616 (lv_at hl 0 rfl) ?_
  refine lv_bipush (v := (9 : Int32)) hx hb dL_refuses_618 (by decide) ?_
  refine lv_icmp_ge (tgt := 673) hx hb dL_refuses_620 (by decide) (fun c => absurd c (by decide)) (fun _ => ?_)
  refine lv_iload hx hb dL_refuses_623 (lv_at hl 1 rfl) ?_
  refine lv_if_eq (tgt := 664) hx hb dL_refuses_625 (by decide) (fun c => absurd c (by decide)) (fun _ => ?_)
  refine lv_aload_n hx hb dL_refuses_628 rfl (lv_at hl 16 rfl) ?_
  refine lv_iload hx hb dL_refuses_629 (lv_at hl 0 rfl) ?_
  refine lv_iload hx hb dL_refuses_631 (lv_at hl 5 rfl) ?_
  refine lv_iconst (v := (0 : Int32)) hx hb dL_refuses_633 (by decide) ?_
  refine lv_iconst (v := (0 : Int32)) hx hb dL_refuses_634 (by decide) ?_
  refine lv_iconst (v := (0 : Int32)) hx hb dL_refuses_635 (by decide) ?_
  have hc : f_L_act M (7 : Int32) (10111 : Int32) (0 : Int32) (0 : Int32) (0 : Int32) = some ((-9002 : Int32), M) := n7 M (by decide)
  refine kL_85 C hml hl.1 (c_L_act hlf hc) ⟨Nat.le_of_ble_eq_true rfl, Nat.le_of_ble_eq_true rfl⟩ ⟨by show _ ≤ 1712; omega, by show _ ≤ 10272; omega⟩ (Nat.le_of_ble_eq_true rfl) hS hW dL_refuses_636 (fun H locs hW hS => ?_)
  refine lv_iload hx hb dL_refuses_639 (lv_at hl 10 rfl) ?_
  refine lv_icmp_ne (tgt := 664) hx hb dL_refuses_641 (by decide) (fun c => absurd (by decide) c) (fun _ => ?_)
  exact t_refuses_25 C hml hr hlk hlf h hS hW (lv_sub hl [0, 1, 2, 3, 4, 5, 6, 7, 8, 9, 10, 11, 12, 13, 14, 15, 16] rfl) ⟨by omega, by omega⟩
set_option maxHeartbeats 4000000 in
set_option maxRecDepth 100000 in
theorem t_refuses_23 {p : Program} {l : Launch} {e : Env} {s : State} {m : MethodId} {args : Array Value} {below : List Frame} {meth : Method} {c : Code} {Z : Zt} {b : Nat} (C : Cx p s m args c cL_refuses RL Z b) (hml : c.maxLocals = 17) (hr : meth.sig.returnType = some .boolean) (hlk : meth.locks = false) (hlf : l.stackTraces = false) {M : Mem} {τ : Tr} {k : Lk} {F : List Nat} (h : Rl M τ k F) {H : Heap} {locs : List Loc} {ls : Array Slot} {cells slots : Nat} (hS : va_S (A0 b) s.heap H locs) (hW : Wd Z b M H) (hl : lv_has ls 17 [(16, .int (5 : Int32)), (15, .int (1 : Int32)), (14, .int (1000 : Int32)), (13, .int (-1 : Int32)), (12, .int (101 : Int32)), (11, .int (10111 : Int32)), (10, .int (4 : Int32)), (9, .int (-2147483648 : Int32)), (8, .int (1 : Int32)), (7, .int (2147483647 : Int32)), (6, .int (-9002 : Int32)), (5, .int (-9001 : Int32)), (4, .int (ovl k (0 : Int32).toNatClampNeg)), (3, .int (nI F.length)), (2, .int (nI ((ta τ).filter (par (0 : Int32).toNatClampNeg)).length)), (1, .int (nI (ta τ).length)), (0, .ref (b + 0))]) (hcs : cells + 1087 ≤ 1712 ∧ slots + 6522 ≤ 10272) : W p l e rm_L_refuses s m args below meth c H locs cells slots (MQ below (Qn Z b (some (.int 1)) M) args s 1712 10272 (A0 b)) (F0 m 536 ls []) := by
  have hx := C.1
  have hb := C.2.1
  refine lv_aload_n hx hb dL_refuses_536 rfl (lv_at hl 16 rfl) ?_
  refine lv_iload hx hb dL_refuses_537 (lv_at hl 0 rfl) ?_
  refine lv_iconst (v := (0 : Int32)) hx hb dL_refuses_539 (by decide) ?_
  refine lv_iload hx hb dL_refuses_540 (lv_at hl 5 rfl) ?_
  refine lv_iconst (v := (1 : Int32)) hx hb dL_refuses_542 (by decide) ?_
  refine lv_iconst (v := (0 : Int32)) hx hb dL_refuses_543 (by decide) ?_
  have hc : f_L_act M (5 : Int32) (0 : Int32) (10111 : Int32) (1 : Int32) (0 : Int32) = some ((-9002 : Int32), M) := n5 M (by decide)
  refine kL_85 C hml hl.1 (c_L_act hlf hc) ⟨Nat.le_of_ble_eq_true rfl, Nat.le_of_ble_eq_true rfl⟩ ⟨by show _ ≤ 1712; omega, by show _ ≤ 10272; omega⟩ (Nat.le_of_ble_eq_true rfl) hS hW dL_refuses_544 (fun H locs hW hS => ?_)
  refine lv_iload hx hb dL_refuses_547 (lv_at hl 10 rfl) ?_
  refine lv_icmp_ne (tgt := 603) hx hb dL_refuses_549 (by decide) (fun c => absurd (by decide) c) (fun _ => ?_)
  refine lv_aload_n hx hb dL_refuses_552 rfl (lv_at hl 16 rfl) ?_
  refine lv_iload hx hb dL_refuses_553 (lv_at hl 0 rfl) ?_
  refine lv_iconst (v := (0 : Int32)) hx hb dL_refuses_555 (by decide) ?_
  refine lv_iconst (v := (1 : Int32)) hx hb dL_refuses_556 (by decide) ?_
  refine lv_iconst (v := (1 : Int32)) hx hb dL_refuses_557 (by decide) ?_
  refine lv_iconst (v := (1 : Int32)) hx hb dL_refuses_558 (by decide) ?_
  have hc : f_L_act M (5 : Int32) (0 : Int32) (1 : Int32) (1 : Int32) (1 : Int32) = some ((-9002 : Int32), M) := n5 M (by decide)
  refine kL_85 C hml hl.1 (c_L_act hlf hc) ⟨Nat.le_of_ble_eq_true rfl, Nat.le_of_ble_eq_true rfl⟩ ⟨by show _ ≤ 1712; omega, by show _ ≤ 10272; omega⟩ (Nat.le_of_ble_eq_true rfl) hS hW dL_refuses_559 (fun H locs hW hS => ?_)
  refine lv_iload hx hb dL_refuses_562 (lv_at hl 10 rfl) ?_
  refine lv_icmp_ne (tgt := 603) hx hb dL_refuses_564 (by decide) (fun c => absurd (by decide) c) (fun _ => ?_)
  refine lv_aload_n hx hb dL_refuses_567 rfl (lv_at hl 16 rfl) ?_
  refine lv_iload hx hb dL_refuses_568 (lv_at hl 0 rfl) ?_
  refine lv_iconst (v := (0 : Int32)) hx hb dL_refuses_570 (by decide) ?_
  refine lv_iconst (v := (1 : Int32)) hx hb dL_refuses_571 (by decide) ?_
  refine lv_bipush (v := (12 : Int32)) hx hb dL_refuses_572 (by decide) ?_
  refine lv_iconst (v := (1 : Int32)) hx hb dL_refuses_574 (by decide) ?_
  have hc : f_L_act M (5 : Int32) (0 : Int32) (1 : Int32) (12 : Int32) (1 : Int32) = some ((-9002 : Int32), M) := n5 M (by decide)
  refine kL_85 C hml hl.1 (c_L_act hlf hc) ⟨Nat.le_of_ble_eq_true rfl, Nat.le_of_ble_eq_true rfl⟩ ⟨by show _ ≤ 1712; omega, by show _ ≤ 10272; omega⟩ (Nat.le_of_ble_eq_true rfl) hS hW dL_refuses_575 (fun H locs hW hS => ?_)
  refine lv_iload hx hb dL_refuses_578 (lv_at hl 10 rfl) ?_
  refine lv_icmp_ne (tgt := 603) hx hb dL_refuses_580 (by decide) (fun c => absurd (by decide) c) (fun _ => ?_)
  refine lv_aload_n hx hb dL_refuses_583 rfl (lv_at hl 16 rfl) ?_
  refine lv_iload hx hb dL_refuses_584 (lv_at hl 0 rfl) ?_
  refine lv_iconst (v := (0 : Int32)) hx hb dL_refuses_586 (by decide) ?_
  refine lv_bipush (v := (123 : Int32)) hx hb dL_refuses_587 (by decide) ?_
  refine lv_iconst (v := (1 : Int32)) hx hb dL_refuses_589 (by decide) ?_
  refine lv_iconst (v := (1 : Int32)) hx hb dL_refuses_590 (by decide) ?_
  have hc : f_L_act M (5 : Int32) (0 : Int32) (123 : Int32) (1 : Int32) (1 : Int32) = some ((-9002 : Int32), M) := n5 M (by decide)
  refine kL_85 C hml hl.1 (c_L_act hlf hc) ⟨Nat.le_of_ble_eq_true rfl, Nat.le_of_ble_eq_true rfl⟩ ⟨by show _ ≤ 1712; omega, by show _ ≤ 10272; omega⟩ (Nat.le_of_ble_eq_true rfl) hS hW dL_refuses_591 (fun H locs hW hS => ?_)
  refine lv_iload hx hb dL_refuses_594 (lv_at hl 10 rfl) ?_
  refine lv_icmp_ne (tgt := 603) hx hb dL_refuses_596 (by decide) (fun c => absurd (by decide) c) (fun _ => ?_)
  refine lv_iconst (v := (1 : Int32)) hx hb dL_refuses_599 (by decide) ?_
  refine lv_goto (tgt := 604) hx hb dL_refuses_600 (by decide) ?_
  refine lv_istore (lv' := [(15, .int (1 : Int32)), (16, .int (5 : Int32)), (14, .int (1000 : Int32)), (13, .int (-1 : Int32)), (12, .int (101 : Int32)), (11, .int (10111 : Int32)), (10, .int (4 : Int32)), (9, .int (-2147483648 : Int32)), (8, .int (1 : Int32)), (7, .int (2147483647 : Int32)), (6, .int (-9002 : Int32)), (5, .int (-9001 : Int32)), (4, .int (ovl k (0 : Int32).toNatClampNeg)), (3, .int (nI F.length)), (2, .int (nI ((ta τ).filter (par (0 : Int32).toNatClampNeg)).length)), (1, .int (nI (ta τ).length)), (0, .ref (b + 0))]) hx hb dL_refuses_604 hl (by decide) rfl (fun ls hl => ?_)
  refine lv_iinc (v := (6 : Int32)) (lv' := [(16, .int (6 : Int32)), (15, .int (1 : Int32)), (14, .int (1000 : Int32)), (13, .int (-1 : Int32)), (12, .int (101 : Int32)), (11, .int (10111 : Int32)), (10, .int (4 : Int32)), (9, .int (-2147483648 : Int32)), (8, .int (1 : Int32)), (7, .int (2147483647 : Int32)), (6, .int (-9002 : Int32)), (5, .int (-9001 : Int32)), (4, .int (ovl k (0 : Int32).toNatClampNeg)), (3, .int (nI F.length)), (2, .int (nI ((ta τ).filter (par (0 : Int32).toNatClampNeg)).length)), (1, .int (nI (ta τ).length)), (0, .ref (b + 0))]) hx hb dL_refuses_606 hl (k := 1) rfl (by decide) (by decide) rfl (fun ls hl => ?_)
  exact t_refuses_24 C hml hr hlk hlf h hS hW (lv_sub hl [0, 1, 2, 3, 4, 5, 6, 7, 8, 9, 10, 11, 12, 13, 14, 15, 16] rfl) ⟨by omega, by omega⟩
set_option maxHeartbeats 4000000 in
set_option maxRecDepth 100000 in
theorem t_refuses_22 {p : Program} {l : Launch} {e : Env} {s : State} {m : MethodId} {args : Array Value} {below : List Frame} {meth : Method} {c : Code} {Z : Zt} {b : Nat} (C : Cx p s m args c cL_refuses RL Z b) (hml : c.maxLocals = 17) (hr : meth.sig.returnType = some .boolean) (hlk : meth.locks = false) (hlf : l.stackTraces = false) {M : Mem} {τ : Tr} {k : Lk} {F : List Nat} (h : Rl M τ k F) {H : Heap} {locs : List Loc} {ls : Array Slot} {cells slots : Nat} (hS : va_S (A0 b) s.heap H locs) (hW : Wd Z b M H) (hl : lv_has ls 17 [(16, .int (4 : Int32)), (15, .int (1 : Int32)), (14, .int (1000 : Int32)), (13, .int (-1 : Int32)), (12, .int (101 : Int32)), (11, .int (10111 : Int32)), (10, .int (4 : Int32)), (9, .int (-2147483648 : Int32)), (8, .int (1 : Int32)), (7, .int (2147483647 : Int32)), (6, .int (-9002 : Int32)), (5, .int (-9001 : Int32)), (4, .int (ovl k (0 : Int32).toNatClampNeg)), (3, .int (nI F.length)), (2, .int (nI ((ta τ).filter (par (0 : Int32).toNatClampNeg)).length)), (1, .int (nI (ta τ).length)), (0, .ref (b + 0))]) (hcs : cells + 1115 ≤ 1712 ∧ slots + 6690 ≤ 10272) : W p l e rm_L_refuses s m args below meth c H locs cells slots (MQ below (Qn Z b (some (.int 1)) M) args s 1712 10272 (A0 b)) (F0 m 599 ls []) := by
  have hx := C.1
  have hb := C.2.1
  refine lv_iconst (v := (1 : Int32)) hx hb dL_refuses_599 (by decide) ?_
  refine lv_goto (tgt := 604) hx hb dL_refuses_600 (by decide) ?_
  refine lv_istore (lv' := [(15, .int (1 : Int32)), (16, .int (4 : Int32)), (14, .int (1000 : Int32)), (13, .int (-1 : Int32)), (12, .int (101 : Int32)), (11, .int (10111 : Int32)), (10, .int (4 : Int32)), (9, .int (-2147483648 : Int32)), (8, .int (1 : Int32)), (7, .int (2147483647 : Int32)), (6, .int (-9002 : Int32)), (5, .int (-9001 : Int32)), (4, .int (ovl k (0 : Int32).toNatClampNeg)), (3, .int (nI F.length)), (2, .int (nI ((ta τ).filter (par (0 : Int32).toNatClampNeg)).length)), (1, .int (nI (ta τ).length)), (0, .ref (b + 0))]) hx hb dL_refuses_604 hl (by decide) rfl (fun ls hl => ?_)
  refine lv_iinc (v := (5 : Int32)) (lv' := [(16, .int (5 : Int32)), (15, .int (1 : Int32)), (14, .int (1000 : Int32)), (13, .int (-1 : Int32)), (12, .int (101 : Int32)), (11, .int (10111 : Int32)), (10, .int (4 : Int32)), (9, .int (-2147483648 : Int32)), (8, .int (1 : Int32)), (7, .int (2147483647 : Int32)), (6, .int (-9002 : Int32)), (5, .int (-9001 : Int32)), (4, .int (ovl k (0 : Int32).toNatClampNeg)), (3, .int (nI F.length)), (2, .int (nI ((ta τ).filter (par (0 : Int32).toNatClampNeg)).length)), (1, .int (nI (ta τ).length)), (0, .ref (b + 0))]) hx hb dL_refuses_606 hl (k := 1) rfl (by decide) (by decide) rfl (fun ls hl => ?_)
  refine lv_goto (tgt := 462) hx hb dL_refuses_609 (by decide) ?_
  refine lv_iload hx hb dL_refuses_462 (lv_at hl 0 rfl) ?_
  refine lv_bipush (v := (6 : Int32)) hx hb dL_refuses_464 (by decide) ?_
  refine lv_icmp_ge (tgt := 612) hx hb dL_refuses_466 (by decide) (fun c => absurd c (by decide)) (fun _ => ?_)
  refine lv_iload hx hb dL_refuses_469 (lv_at hl 1 rfl) ?_
  refine lv_if_eq (tgt := 603) hx hb dL_refuses_471 (by decide) (fun c => absurd c (by decide)) (fun _ => ?_)
  refine lv_aload_n hx hb dL_refuses_474 rfl (lv_at hl 16 rfl) ?_
  refine lv_iload hx hb dL_refuses_475 (lv_at hl 0 rfl) ?_
  refine lv_iload hx hb dL_refuses_477 (lv_at hl 6 rfl) ?_
  refine lv_iconst (v := (1 : Int32)) hx hb dL_refuses_479 (by decide) ?_
  refine lv_iconst (v := (2 : Int32)) hx hb dL_refuses_480 (by decide) ?_
  refine lv_iconst (v := (0 : Int32)) hx hb dL_refuses_481 (by decide) ?_
  have hc : f_L_act M (5 : Int32) (4 : Int32) (1 : Int32) (2 : Int32) (0 : Int32) = some ((-9002 : Int32), M) := n5 M (by decide)
  refine kL_85 C hml hl.1 (c_L_act hlf hc) ⟨Nat.le_of_ble_eq_true rfl, Nat.le_of_ble_eq_true rfl⟩ ⟨by show _ ≤ 1712; omega, by show _ ≤ 10272; omega⟩ (Nat.le_of_ble_eq_true rfl) hS hW dL_refuses_482 (fun H locs hW hS => ?_)
  refine lv_iload hx hb dL_refuses_485 (lv_at hl 10 rfl) ?_
  refine lv_icmp_ne (tgt := 603) hx hb dL_refuses_487 (by decide) (fun c => absurd (by decide) c) (fun _ => ?_)
  refine lv_aload_n hx hb dL_refuses_490 rfl (lv_at hl 16 rfl) ?_
  refine lv_iload hx hb dL_refuses_491 (lv_at hl 0 rfl) ?_
  refine lv_iconst (v := (0 : Int32)) hx hb dL_refuses_493 (by decide) ?_
  refine lv_iconst (v := (0 : Int32)) hx hb dL_refuses_494 (by decide) ?_
  refine lv_iconst (v := (2 : Int32)) hx hb dL_refuses_495 (by decide) ?_
  refine lv_iconst (v := (0 : Int32)) hx hb dL_refuses_496 (by decide) ?_
  have hc : f_L_act M (5 : Int32) (0 : Int32) (0 : Int32) (2 : Int32) (0 : Int32) = some ((-9002 : Int32), M) := n5 M (by decide)
  refine kL_85 C hml hl.1 (c_L_act hlf hc) ⟨Nat.le_of_ble_eq_true rfl, Nat.le_of_ble_eq_true rfl⟩ ⟨by show _ ≤ 1712; omega, by show _ ≤ 10272; omega⟩ (Nat.le_of_ble_eq_true rfl) hS hW dL_refuses_497 (fun H locs hW hS => ?_)
  refine lv_iload hx hb dL_refuses_500 (lv_at hl 10 rfl) ?_
  refine lv_icmp_ne (tgt := 603) hx hb dL_refuses_502 (by decide) (fun c => absurd (by decide) c) (fun _ => ?_)
  refine lv_aload_n hx hb dL_refuses_505 rfl (lv_at hl 16 rfl) ?_
  refine lv_iload hx hb dL_refuses_506 (lv_at hl 0 rfl) ?_
  refine lv_iconst (v := (0 : Int32)) hx hb dL_refuses_508 (by decide) ?_
  refine lv_iconst (v := (1 : Int32)) hx hb dL_refuses_509 (by decide) ?_
  refine lv_iconst (v := (0 : Int32)) hx hb dL_refuses_510 (by decide) ?_
  refine lv_iconst (v := (0 : Int32)) hx hb dL_refuses_511 (by decide) ?_
  have hc : f_L_act M (5 : Int32) (0 : Int32) (1 : Int32) (0 : Int32) (0 : Int32) = some ((-9002 : Int32), M) := n5 M (by decide)
  refine kL_85 C hml hl.1 (c_L_act hlf hc) ⟨Nat.le_of_ble_eq_true rfl, Nat.le_of_ble_eq_true rfl⟩ ⟨by show _ ≤ 1712; omega, by show _ ≤ 10272; omega⟩ (Nat.le_of_ble_eq_true rfl) hS hW dL_refuses_512 (fun H locs hW hS => ?_)
  refine lv_iload hx hb dL_refuses_515 (lv_at hl 10 rfl) ?_
  refine lv_icmp_ne (tgt := 603) hx hb dL_refuses_517 (by decide) (fun c => absurd (by decide) c) (fun _ => ?_)
  refine lv_aload_n hx hb dL_refuses_520 rfl (lv_at hl 16 rfl) ?_
  refine lv_iload hx hb dL_refuses_521 (lv_at hl 0 rfl) ?_
  refine lv_iconst (v := (0 : Int32)) hx hb dL_refuses_523 (by decide) ?_
  refine lv_iconst (v := (1 : Int32)) hx hb dL_refuses_524 (by decide) ?_
  refine lv_iload hx hb dL_refuses_525 (lv_at hl 5 rfl) ?_
  refine lv_iconst (v := (0 : Int32)) hx hb dL_refuses_527 (by decide) ?_
  have hc : f_L_act M (5 : Int32) (0 : Int32) (1 : Int32) (10111 : Int32) (0 : Int32) = some ((-9002 : Int32), M) := n5 M (by decide)
  refine kL_85 C hml hl.1 (c_L_act hlf hc) ⟨Nat.le_of_ble_eq_true rfl, Nat.le_of_ble_eq_true rfl⟩ ⟨by show _ ≤ 1712; omega, by show _ ≤ 10272; omega⟩ (Nat.le_of_ble_eq_true rfl) hS hW dL_refuses_528 (fun H locs hW hS => ?_)
  refine lv_iload hx hb dL_refuses_531 (lv_at hl 10 rfl) ?_
  refine lv_icmp_ne (tgt := 603) hx hb dL_refuses_533 (by decide) (fun c => absurd (by decide) c) (fun _ => ?_)
  exact t_refuses_23 C hml hr hlk hlf h hS hW (lv_sub hl [0, 1, 2, 3, 4, 5, 6, 7, 8, 9, 10, 11, 12, 13, 14, 15, 16] rfl) ⟨by omega, by omega⟩
set_option maxHeartbeats 4000000 in
set_option maxRecDepth 100000 in
theorem t_refuses_21 {p : Program} {l : Launch} {e : Env} {s : State} {m : MethodId} {args : Array Value} {below : List Frame} {meth : Method} {c : Code} {Z : Zt} {b : Nat} (C : Cx p s m args c cL_refuses RL Z b) (hml : c.maxLocals = 17) (hr : meth.sig.returnType = some .boolean) (hlk : meth.locks = false) (hlf : l.stackTraces = false) {M : Mem} {τ : Tr} {k : Lk} {F : List Nat} (h : Rl M τ k F) {H : Heap} {locs : List Loc} {ls : Array Slot} {cells slots : Nat} (hS : va_S (A0 b) s.heap H locs) (hW : Wd Z b M H) (hl : lv_has ls 17 [(16, .int (4 : Int32)), (15, .int (1 : Int32)), (14, .int (1000 : Int32)), (13, .int (-1 : Int32)), (12, .int (101 : Int32)), (11, .int (10111 : Int32)), (10, .int (4 : Int32)), (9, .int (-2147483648 : Int32)), (8, .int (1 : Int32)), (7, .int (2147483647 : Int32)), (6, .int (-9002 : Int32)), (5, .int (-9001 : Int32)), (4, .int (ovl k (0 : Int32).toNatClampNeg)), (3, .int (nI F.length)), (2, .int (nI ((ta τ).filter (par (0 : Int32).toNatClampNeg)).length)), (1, .int (nI (ta τ).length)), (0, .ref (b + 0))]) (hcs : cells + 1150 ≤ 1712 ∧ slots + 6900 ≤ 10272) : W p l e rm_L_refuses s m args below meth c H locs cells slots (MQ below (Qn Z b (some (.int 1)) M) args s 1712 10272 (A0 b)) (F0 m 520 ls []) := by
  have hx := C.1
  have hb := C.2.1
  refine lv_aload_n hx hb dL_refuses_520 rfl (lv_at hl 16 rfl) ?_
  refine lv_iload hx hb dL_refuses_521 (lv_at hl 0 rfl) ?_
  refine lv_iconst (v := (0 : Int32)) hx hb dL_refuses_523 (by decide) ?_
  refine lv_iconst (v := (1 : Int32)) hx hb dL_refuses_524 (by decide) ?_
  refine lv_iload hx hb dL_refuses_525 (lv_at hl 5 rfl) ?_
  refine lv_iconst (v := (0 : Int32)) hx hb dL_refuses_527 (by decide) ?_
  have hc : f_L_act M (4 : Int32) (0 : Int32) (1 : Int32) (10111 : Int32) (0 : Int32) = some ((-9002 : Int32), M) := n4 M (by decide)
  refine kL_85 C hml hl.1 (c_L_act hlf hc) ⟨Nat.le_of_ble_eq_true rfl, Nat.le_of_ble_eq_true rfl⟩ ⟨by show _ ≤ 1712; omega, by show _ ≤ 10272; omega⟩ (Nat.le_of_ble_eq_true rfl) hS hW dL_refuses_528 (fun H locs hW hS => ?_)
  refine lv_iload hx hb dL_refuses_531 (lv_at hl 10 rfl) ?_
  refine lv_icmp_ne (tgt := 603) hx hb dL_refuses_533 (by decide) (fun c => absurd (by decide) c) (fun _ => ?_)
  refine lv_aload_n hx hb dL_refuses_536 rfl (lv_at hl 16 rfl) ?_
  refine lv_iload hx hb dL_refuses_537 (lv_at hl 0 rfl) ?_
  refine lv_iconst (v := (0 : Int32)) hx hb dL_refuses_539 (by decide) ?_
  refine lv_iload hx hb dL_refuses_540 (lv_at hl 5 rfl) ?_
  refine lv_iconst (v := (1 : Int32)) hx hb dL_refuses_542 (by decide) ?_
  refine lv_iconst (v := (0 : Int32)) hx hb dL_refuses_543 (by decide) ?_
  have hc : f_L_act M (4 : Int32) (0 : Int32) (10111 : Int32) (1 : Int32) (0 : Int32) = some ((-9002 : Int32), M) := n4 M (by decide)
  refine kL_85 C hml hl.1 (c_L_act hlf hc) ⟨Nat.le_of_ble_eq_true rfl, Nat.le_of_ble_eq_true rfl⟩ ⟨by show _ ≤ 1712; omega, by show _ ≤ 10272; omega⟩ (Nat.le_of_ble_eq_true rfl) hS hW dL_refuses_544 (fun H locs hW hS => ?_)
  refine lv_iload hx hb dL_refuses_547 (lv_at hl 10 rfl) ?_
  refine lv_icmp_ne (tgt := 603) hx hb dL_refuses_549 (by decide) (fun c => absurd (by decide) c) (fun _ => ?_)
  refine lv_aload_n hx hb dL_refuses_552 rfl (lv_at hl 16 rfl) ?_
  refine lv_iload hx hb dL_refuses_553 (lv_at hl 0 rfl) ?_
  refine lv_iconst (v := (0 : Int32)) hx hb dL_refuses_555 (by decide) ?_
  refine lv_iconst (v := (1 : Int32)) hx hb dL_refuses_556 (by decide) ?_
  refine lv_iconst (v := (1 : Int32)) hx hb dL_refuses_557 (by decide) ?_
  refine lv_iconst (v := (1 : Int32)) hx hb dL_refuses_558 (by decide) ?_
  have hc : f_L_act M (4 : Int32) (0 : Int32) (1 : Int32) (1 : Int32) (1 : Int32) = some ((-9002 : Int32), M) := n4 M (by decide)
  refine kL_85 C hml hl.1 (c_L_act hlf hc) ⟨Nat.le_of_ble_eq_true rfl, Nat.le_of_ble_eq_true rfl⟩ ⟨by show _ ≤ 1712; omega, by show _ ≤ 10272; omega⟩ (Nat.le_of_ble_eq_true rfl) hS hW dL_refuses_559 (fun H locs hW hS => ?_)
  refine lv_iload hx hb dL_refuses_562 (lv_at hl 10 rfl) ?_
  refine lv_icmp_ne (tgt := 603) hx hb dL_refuses_564 (by decide) (fun c => absurd (by decide) c) (fun _ => ?_)
  refine lv_aload_n hx hb dL_refuses_567 rfl (lv_at hl 16 rfl) ?_
  refine lv_iload hx hb dL_refuses_568 (lv_at hl 0 rfl) ?_
  refine lv_iconst (v := (0 : Int32)) hx hb dL_refuses_570 (by decide) ?_
  refine lv_iconst (v := (1 : Int32)) hx hb dL_refuses_571 (by decide) ?_
  refine lv_bipush (v := (12 : Int32)) hx hb dL_refuses_572 (by decide) ?_
  refine lv_iconst (v := (1 : Int32)) hx hb dL_refuses_574 (by decide) ?_
  have hc : f_L_act M (4 : Int32) (0 : Int32) (1 : Int32) (12 : Int32) (1 : Int32) = some ((-9002 : Int32), M) := n4 M (by decide)
  refine kL_85 C hml hl.1 (c_L_act hlf hc) ⟨Nat.le_of_ble_eq_true rfl, Nat.le_of_ble_eq_true rfl⟩ ⟨by show _ ≤ 1712; omega, by show _ ≤ 10272; omega⟩ (Nat.le_of_ble_eq_true rfl) hS hW dL_refuses_575 (fun H locs hW hS => ?_)
  refine lv_iload hx hb dL_refuses_578 (lv_at hl 10 rfl) ?_
  refine lv_icmp_ne (tgt := 603) hx hb dL_refuses_580 (by decide) (fun c => absurd (by decide) c) (fun _ => ?_)
  refine lv_aload_n hx hb dL_refuses_583 rfl (lv_at hl 16 rfl) ?_
  refine lv_iload hx hb dL_refuses_584 (lv_at hl 0 rfl) ?_
  refine lv_iconst (v := (0 : Int32)) hx hb dL_refuses_586 (by decide) ?_
  refine lv_bipush (v := (123 : Int32)) hx hb dL_refuses_587 (by decide) ?_
  refine lv_iconst (v := (1 : Int32)) hx hb dL_refuses_589 (by decide) ?_
  refine lv_iconst (v := (1 : Int32)) hx hb dL_refuses_590 (by decide) ?_
  have hc : f_L_act M (4 : Int32) (0 : Int32) (123 : Int32) (1 : Int32) (1 : Int32) = some ((-9002 : Int32), M) := n4 M (by decide)
  refine kL_85 C hml hl.1 (c_L_act hlf hc) ⟨Nat.le_of_ble_eq_true rfl, Nat.le_of_ble_eq_true rfl⟩ ⟨by show _ ≤ 1712; omega, by show _ ≤ 10272; omega⟩ (Nat.le_of_ble_eq_true rfl) hS hW dL_refuses_591 (fun H locs hW hS => ?_)
  refine lv_iload hx hb dL_refuses_594 (lv_at hl 10 rfl) ?_
  refine lv_icmp_ne (tgt := 603) hx hb dL_refuses_596 (by decide) (fun c => absurd (by decide) c) (fun _ => ?_)
  exact t_refuses_22 C hml hr hlk hlf h hS hW (lv_sub hl [0, 1, 2, 3, 4, 5, 6, 7, 8, 9, 10, 11, 12, 13, 14, 15, 16] rfl) ⟨by omega, by omega⟩
set_option maxHeartbeats 4000000 in
set_option maxRecDepth 100000 in
theorem t_refuses_20 {p : Program} {l : Launch} {e : Env} {s : State} {m : MethodId} {args : Array Value} {below : List Frame} {meth : Method} {c : Code} {Z : Zt} {b : Nat} (C : Cx p s m args c cL_refuses RL Z b) (hml : c.maxLocals = 17) (hr : meth.sig.returnType = some .boolean) (hlk : meth.locks = false) (hlf : l.stackTraces = false) {M : Mem} {τ : Tr} {k : Lk} {F : List Nat} (h : Rl M τ k F) {H : Heap} {locs : List Loc} {ls : Array Slot} {cells slots : Nat} (hS : va_S (A0 b) s.heap H locs) (hW : Wd Z b M H) (hl : lv_has ls 17 [(14, .int (1000 : Int32)), (13, .int (-1 : Int32)), (12, .int (101 : Int32)), (11, .int (10111 : Int32)), (10, .int (4 : Int32)), (9, .int (-2147483648 : Int32)), (8, .int (1 : Int32)), (15, .int (1 : Int32)), (16, .int (9 : Int32)), (7, .int (2147483647 : Int32)), (6, .int (-9002 : Int32)), (5, .int (-9001 : Int32)), (4, .int (ovl k (0 : Int32).toNatClampNeg)), (3, .int (nI F.length)), (2, .int (nI ((ta τ).filter (par (0 : Int32).toNatClampNeg)).length)), (1, .int (nI (ta τ).length)), (0, .ref (b + 0))]) (hcs : cells + 1178 ≤ 1712 ∧ slots + 7068 ≤ 10272) : W p l e rm_L_refuses s m args below meth c H locs cells slots (MQ below (Qn Z b (some (.int 1)) M) args s 1712 10272 (A0 b)) (F0 m 436 ls []) := by
  have hx := C.1
  have hb := C.2.1
  refine lv_aload_n hx hb dL_refuses_436 rfl (lv_at hl 16 rfl) ?_
  refine lv_bipush (v := (10 : Int32)) hx hb dL_refuses_437 (by decide) ?_
  refine lv_iconst (v := (0 : Int32)) hx hb dL_refuses_439 (by decide) ?_
  refine lv_iconst (v := (1 : Int32)) hx hb dL_refuses_440 (by decide) ?_
  refine lv_iconst (v := (0 : Int32)) hx hb dL_refuses_441 (by decide) ?_
  refine lv_iload hx hb dL_refuses_442 (lv_at hl 1 rfl) ?_
  have hc : f_L_act M (10 : Int32) (0 : Int32) (1 : Int32) (0 : Int32) (-1 : Int32) = some ((-9002 : Int32), M) := n10 M (by decide)
  refine kL_85 C hml hl.1 (c_L_act hlf hc) ⟨Nat.le_of_ble_eq_true rfl, Nat.le_of_ble_eq_true rfl⟩ ⟨by show _ ≤ 1712; omega, by show _ ≤ 10272; omega⟩ (Nat.le_of_ble_eq_true rfl) hS hW dL_refuses_444 (fun H locs hW hS => ?_)
  refine lv_iload hx hb dL_refuses_447 (lv_at hl 10 rfl) ?_
  refine lv_icmp_ne (tgt := 456) hx hb dL_refuses_449 (by decide) (fun c => absurd (by decide) c) (fun _ => ?_)
  refine lv_iconst (v := (1 : Int32)) hx hb dL_refuses_452 (by decide) ?_
  refine lv_goto (tgt := 457) hx hb dL_refuses_453 (by decide) ?_
  refine lv_istore (lv' := [(15, .int (1 : Int32)), (14, .int (1000 : Int32)), (13, .int (-1 : Int32)), (12, .int (101 : Int32)), (11, .int (10111 : Int32)), (10, .int (4 : Int32)), (9, .int (-2147483648 : Int32)), (8, .int (1 : Int32)), (16, .int (9 : Int32)), (7, .int (2147483647 : Int32)), (6, .int (-9002 : Int32)), (5, .int (-9001 : Int32)), (4, .int (ovl k (0 : Int32).toNatClampNeg)), (3, .int (nI F.length)), (2, .int (nI ((ta τ).filter (par (0 : Int32).toNatClampNeg)).length)), (1, .int (nI (ta τ).length)), (0, .ref (b + 0))]) hx hb dL_refuses_457 hl (by decide) rfl (fun ls hl => ?_)
  refine lv_iconst (v := (4 : Int32)) hx hb dL_refuses_459 (by decide) ?_
  refine lv_istore (lv' := [(16, .int (4 : Int32)), (15, .int (1 : Int32)), (14, .int (1000 : Int32)), (13, .int (-1 : Int32)), (12, .int (101 : Int32)), (11, .int (10111 : Int32)), (10, .int (4 : Int32)), (9, .int (-2147483648 : Int32)), (8, .int (1 : Int32)), (7, .int (2147483647 : Int32)), (6, .int (-9002 : Int32)), (5, .int (-9001 : Int32)), (4, .int (ovl k (0 : Int32).toNatClampNeg)), (3, .int (nI F.length)), (2, .int (nI ((ta τ).filter (par (0 : Int32).toNatClampNeg)).length)), (1, .int (nI (ta τ).length)), (0, .ref (b + 0))]) hx hb dL_refuses_460 hl (by decide) rfl (fun ls hl => ?_)
  refine lv_iload hx hb dL_refuses_462 (lv_at hl 0 rfl) ?_
  refine lv_bipush (v := (6 : Int32)) hx hb dL_refuses_464 (by decide) ?_
  refine lv_icmp_ge (tgt := 612) hx hb dL_refuses_466 (by decide) (fun c => absurd c (by decide)) (fun _ => ?_)
  refine lv_iload hx hb dL_refuses_469 (lv_at hl 1 rfl) ?_
  refine lv_if_eq (tgt := 603) hx hb dL_refuses_471 (by decide) (fun c => absurd c (by decide)) (fun _ => ?_)
  refine lv_aload_n hx hb dL_refuses_474 rfl (lv_at hl 16 rfl) ?_
  refine lv_iload hx hb dL_refuses_475 (lv_at hl 0 rfl) ?_
  refine lv_iload hx hb dL_refuses_477 (lv_at hl 6 rfl) ?_
  refine lv_iconst (v := (1 : Int32)) hx hb dL_refuses_479 (by decide) ?_
  refine lv_iconst (v := (2 : Int32)) hx hb dL_refuses_480 (by decide) ?_
  refine lv_iconst (v := (0 : Int32)) hx hb dL_refuses_481 (by decide) ?_
  have hc : f_L_act M (4 : Int32) (4 : Int32) (1 : Int32) (2 : Int32) (0 : Int32) = some ((-9002 : Int32), M) := n4 M (by decide)
  refine kL_85 C hml hl.1 (c_L_act hlf hc) ⟨Nat.le_of_ble_eq_true rfl, Nat.le_of_ble_eq_true rfl⟩ ⟨by show _ ≤ 1712; omega, by show _ ≤ 10272; omega⟩ (Nat.le_of_ble_eq_true rfl) hS hW dL_refuses_482 (fun H locs hW hS => ?_)
  refine lv_iload hx hb dL_refuses_485 (lv_at hl 10 rfl) ?_
  refine lv_icmp_ne (tgt := 603) hx hb dL_refuses_487 (by decide) (fun c => absurd (by decide) c) (fun _ => ?_)
  refine lv_aload_n hx hb dL_refuses_490 rfl (lv_at hl 16 rfl) ?_
  refine lv_iload hx hb dL_refuses_491 (lv_at hl 0 rfl) ?_
  refine lv_iconst (v := (0 : Int32)) hx hb dL_refuses_493 (by decide) ?_
  refine lv_iconst (v := (0 : Int32)) hx hb dL_refuses_494 (by decide) ?_
  refine lv_iconst (v := (2 : Int32)) hx hb dL_refuses_495 (by decide) ?_
  refine lv_iconst (v := (0 : Int32)) hx hb dL_refuses_496 (by decide) ?_
  have hc : f_L_act M (4 : Int32) (0 : Int32) (0 : Int32) (2 : Int32) (0 : Int32) = some ((-9002 : Int32), M) := n4 M (by decide)
  refine kL_85 C hml hl.1 (c_L_act hlf hc) ⟨Nat.le_of_ble_eq_true rfl, Nat.le_of_ble_eq_true rfl⟩ ⟨by show _ ≤ 1712; omega, by show _ ≤ 10272; omega⟩ (Nat.le_of_ble_eq_true rfl) hS hW dL_refuses_497 (fun H locs hW hS => ?_)
  refine lv_iload hx hb dL_refuses_500 (lv_at hl 10 rfl) ?_
  refine lv_icmp_ne (tgt := 603) hx hb dL_refuses_502 (by decide) (fun c => absurd (by decide) c) (fun _ => ?_)
  refine lv_aload_n hx hb dL_refuses_505 rfl (lv_at hl 16 rfl) ?_
  refine lv_iload hx hb dL_refuses_506 (lv_at hl 0 rfl) ?_
  refine lv_iconst (v := (0 : Int32)) hx hb dL_refuses_508 (by decide) ?_
  refine lv_iconst (v := (1 : Int32)) hx hb dL_refuses_509 (by decide) ?_
  refine lv_iconst (v := (0 : Int32)) hx hb dL_refuses_510 (by decide) ?_
  refine lv_iconst (v := (0 : Int32)) hx hb dL_refuses_511 (by decide) ?_
  have hc : f_L_act M (4 : Int32) (0 : Int32) (1 : Int32) (0 : Int32) (0 : Int32) = some ((-9002 : Int32), M) := n4 M (by decide)
  refine kL_85 C hml hl.1 (c_L_act hlf hc) ⟨Nat.le_of_ble_eq_true rfl, Nat.le_of_ble_eq_true rfl⟩ ⟨by show _ ≤ 1712; omega, by show _ ≤ 10272; omega⟩ (Nat.le_of_ble_eq_true rfl) hS hW dL_refuses_512 (fun H locs hW hS => ?_)
  refine lv_iload hx hb dL_refuses_515 (lv_at hl 10 rfl) ?_
  refine lv_icmp_ne (tgt := 603) hx hb dL_refuses_517 (by decide) (fun c => absurd (by decide) c) (fun _ => ?_)
  exact t_refuses_21 C hml hr hlk hlf h hS hW (lv_sub hl [0, 1, 2, 3, 4, 5, 6, 7, 8, 9, 10, 11, 12, 13, 14, 15, 16] rfl) ⟨by omega, by omega⟩
set_option maxHeartbeats 4000000 in
set_option maxRecDepth 100000 in
theorem t_refuses_19 {p : Program} {l : Launch} {e : Env} {s : State} {m : MethodId} {args : Array Value} {below : List Frame} {meth : Method} {c : Code} {Z : Zt} {b : Nat} (C : Cx p s m args c cL_refuses RL Z b) (hml : c.maxLocals = 17) (hr : meth.sig.returnType = some .boolean) (hlk : meth.locks = false) (hlf : l.stackTraces = false) {M : Mem} {τ : Tr} {k : Lk} {F : List Nat} (h : Rl M τ k F) {H : Heap} {locs : List Loc} {ls : Array Slot} {cells slots : Nat} (hS : va_S (A0 b) s.heap H locs) (hW : Wd Z b M H) (hl : lv_has ls 17 [(14, .int (1000 : Int32)), (13, .int (-1 : Int32)), (12, .int (101 : Int32)), (11, .int (10111 : Int32)), (10, .int (4 : Int32)), (9, .int (-2147483648 : Int32)), (8, .int (1 : Int32)), (15, .int (1 : Int32)), (16, .int (9 : Int32)), (7, .int (2147483647 : Int32)), (6, .int (-9002 : Int32)), (5, .int (-9001 : Int32)), (4, .int (ovl k (0 : Int32).toNatClampNeg)), (3, .int (nI F.length)), (2, .int (nI ((ta τ).filter (par (0 : Int32).toNatClampNeg)).length)), (1, .int (nI (ta τ).length)), (0, .ref (b + 0))]) (hcs : cells + 1206 ≤ 1712 ∧ slots + 7236 ≤ 10272) : W p l e rm_L_refuses s m args below meth c H locs cells slots (MQ below (Qn Z b (some (.int 1)) M) args s 1712 10272 (A0 b)) (F0 m 364 ls []) := by
  have hx := C.1
  have hb := C.2.1
  refine lv_aload_n hx hb dL_refuses_364 rfl (lv_at hl 16 rfl) ?_
  refine lv_iconst (v := (3 : Int32)) hx hb dL_refuses_365 (by decide) ?_
  refine lv_iload hx hb dL_refuses_366 (lv_at hl 6 rfl) ?_
  refine lv_iconst (v := (1 : Int32)) hx hb dL_refuses_368 (by decide) ?_
  refine lv_icmp_ne (tgt := 376) hx hb dL_refuses_369 (by decide) (fun c => absurd (by decide) c) (fun _ => ?_)
  refine lv_iload_n hx hb dL_refuses_372 rfl (lv_at hl 13 rfl) ?_
  refine lv_goto (tgt := 378) hx hb dL_refuses_373 (by decide) ?_
  refine lv_iconst (v := (0 : Int32)) hx hb dL_refuses_378 (by decide) ?_
  refine lv_iconst (v := (0 : Int32)) hx hb dL_refuses_379 (by decide) ?_
  refine lv_iconst (v := (0 : Int32)) hx hb dL_refuses_380 (by decide) ?_
  have hc : f_L_act M (3 : Int32) (nI F.length) (0 : Int32) (0 : Int32) (0 : Int32) = some ((-9001 : Int32), M) := n3c h
  refine kL_85 C hml hl.1 (c_L_act hlf hc) ⟨Nat.le_of_ble_eq_true rfl, Nat.le_of_ble_eq_true rfl⟩ ⟨by show _ ≤ 1712; omega, by show _ ≤ 10272; omega⟩ (Nat.le_of_ble_eq_true rfl) hS hW dL_refuses_381 (fun H locs hW hS => ?_)
  refine lv_iload hx hb dL_refuses_384 (lv_at hl 11 rfl) ?_
  refine lv_icmp_ne (tgt := 456) hx hb dL_refuses_386 (by decide) (fun c => absurd (by decide) c) (fun _ => ?_)
  refine lv_aload_n hx hb dL_refuses_389 rfl (lv_at hl 16 rfl) ?_
  refine lv_bipush (v := (10 : Int32)) hx hb dL_refuses_390 (by decide) ?_
  refine lv_iload hx hb dL_refuses_392 (lv_at hl 4 rfl) ?_
  refine lv_iconst (v := (1 : Int32)) hx hb dL_refuses_394 (by decide) ?_
  refine lv_iconst (v := (0 : Int32)) hx hb dL_refuses_395 (by decide) ?_
  refine lv_iconst (v := (0 : Int32)) hx hb dL_refuses_396 (by decide) ?_
  have hc : f_L_act M (10 : Int32) (4 : Int32) (1 : Int32) (0 : Int32) (0 : Int32) = some ((-9002 : Int32), M) := n10 M (by decide)
  refine kL_85 C hml hl.1 (c_L_act hlf hc) ⟨Nat.le_of_ble_eq_true rfl, Nat.le_of_ble_eq_true rfl⟩ ⟨by show _ ≤ 1712; omega, by show _ ≤ 10272; omega⟩ (Nat.le_of_ble_eq_true rfl) hS hW dL_refuses_397 (fun H locs hW hS => ?_)
  refine lv_iload hx hb dL_refuses_400 (lv_at hl 10 rfl) ?_
  refine lv_icmp_ne (tgt := 456) hx hb dL_refuses_402 (by decide) (fun c => absurd (by decide) c) (fun _ => ?_)
  refine lv_aload_n hx hb dL_refuses_405 rfl (lv_at hl 16 rfl) ?_
  refine lv_bipush (v := (10 : Int32)) hx hb dL_refuses_406 (by decide) ?_
  refine lv_iconst (v := (0 : Int32)) hx hb dL_refuses_408 (by decide) ?_
  refine lv_iconst (v := (0 : Int32)) hx hb dL_refuses_409 (by decide) ?_
  refine lv_iconst (v := (0 : Int32)) hx hb dL_refuses_410 (by decide) ?_
  refine lv_iconst (v := (0 : Int32)) hx hb dL_refuses_411 (by decide) ?_
  have hc : f_L_act M (10 : Int32) (0 : Int32) (0 : Int32) (0 : Int32) (0 : Int32) = some ((-9002 : Int32), M) := n10 M (by decide)
  refine kL_85 C hml hl.1 (c_L_act hlf hc) ⟨Nat.le_of_ble_eq_true rfl, Nat.le_of_ble_eq_true rfl⟩ ⟨by show _ ≤ 1712; omega, by show _ ≤ 10272; omega⟩ (Nat.le_of_ble_eq_true rfl) hS hW dL_refuses_412 (fun H locs hW hS => ?_)
  refine lv_iload hx hb dL_refuses_415 (lv_at hl 10 rfl) ?_
  refine lv_icmp_ne (tgt := 456) hx hb dL_refuses_417 (by decide) (fun c => absurd (by decide) c) (fun _ => ?_)
  refine lv_aload_n hx hb dL_refuses_420 rfl (lv_at hl 16 rfl) ?_
  refine lv_bipush (v := (10 : Int32)) hx hb dL_refuses_421 (by decide) ?_
  refine lv_iconst (v := (0 : Int32)) hx hb dL_refuses_423 (by decide) ?_
  refine lv_iconst (v := (1 : Int32)) hx hb dL_refuses_424 (by decide) ?_
  refine lv_iload hx hb dL_refuses_425 (lv_at hl 1 rfl) ?_
  refine lv_iconst (v := (0 : Int32)) hx hb dL_refuses_427 (by decide) ?_
  have hc : f_L_act M (10 : Int32) (0 : Int32) (1 : Int32) (-1 : Int32) (0 : Int32) = some ((-9002 : Int32), M) := n10 M (by decide)
  refine kL_85 C hml hl.1 (c_L_act hlf hc) ⟨Nat.le_of_ble_eq_true rfl, Nat.le_of_ble_eq_true rfl⟩ ⟨by show _ ≤ 1712; omega, by show _ ≤ 10272; omega⟩ (Nat.le_of_ble_eq_true rfl) hS hW dL_refuses_428 (fun H locs hW hS => ?_)
  refine lv_iload hx hb dL_refuses_431 (lv_at hl 10 rfl) ?_
  refine lv_icmp_ne (tgt := 456) hx hb dL_refuses_433 (by decide) (fun c => absurd (by decide) c) (fun _ => ?_)
  exact t_refuses_20 C hml hr hlk hlf h hS hW (lv_sub hl [0, 1, 2, 3, 4, 5, 6, 7, 8, 9, 10, 11, 12, 13, 14, 15, 16] rfl) ⟨by omega, by omega⟩
set_option maxHeartbeats 4000000 in
set_option maxRecDepth 100000 in
theorem t_refuses_18 {p : Program} {l : Launch} {e : Env} {s : State} {m : MethodId} {args : Array Value} {below : List Frame} {meth : Method} {c : Code} {Z : Zt} {b : Nat} (C : Cx p s m args c cL_refuses RL Z b) (hml : c.maxLocals = 17) (hr : meth.sig.returnType = some .boolean) (hlk : meth.locks = false) (hlf : l.stackTraces = false) {M : Mem} {τ : Tr} {k : Lk} {F : List Nat} (h : Rl M τ k F) {H : Heap} {locs : List Loc} {ls : Array Slot} {cells slots : Nat} (hS : va_S (A0 b) s.heap H locs) (hW : Wd Z b M H) (hl : lv_has ls 17 [(14, .int (1000 : Int32)), (13, .int (-1 : Int32)), (12, .int (101 : Int32)), (11, .int (10111 : Int32)), (10, .int (4 : Int32)), (9, .int (-2147483648 : Int32)), (8, .int (1 : Int32)), (15, .int (1 : Int32)), (16, .int (9 : Int32)), (7, .int (2147483647 : Int32)), (6, .int (-9002 : Int32)), (5, .int (-9001 : Int32)), (4, .int (ovl k (0 : Int32).toNatClampNeg)), (3, .int (nI F.length)), (2, .int (nI ((ta τ).filter (par (0 : Int32).toNatClampNeg)).length)), (1, .int (nI (ta τ).length)), (0, .ref (b + 0))]) (hcs : cells + 1241 ≤ 1712 ∧ slots + 7446 ≤ 10272) : W p l e rm_L_refuses s m args below meth c H locs cells slots (MQ below (Qn Z b (some (.int 1)) M) args s 1712 10272 (A0 b)) (F0 m 279 ls []) := by
  have hx := C.1
  have hb := C.2.1
  refine lv_aload_n hx hb dL_refuses_279 rfl (lv_at hl 16 rfl) ?_
  refine lv_iconst (v := (1 : Int32)) hx hb dL_refuses_280 (by decide) ?_
  refine lv_iconst (v := (0 : Int32)) hx hb dL_refuses_281 (by decide) ?_
  refine lv_iconst (v := (1 : Int32)) hx hb dL_refuses_282 (by decide) ?_
  refine lv_iconst (v := (0 : Int32)) hx hb dL_refuses_283 (by decide) ?_
  refine lv_iload hx hb dL_refuses_284 (lv_at hl 1 rfl) ?_
  have hc : f_L_act M (1 : Int32) (0 : Int32) (1 : Int32) (0 : Int32) (-1 : Int32) = some ((-9002 : Int32), M) := n1 M (by decide)
  refine kL_85 C hml hl.1 (c_L_act hlf hc) ⟨Nat.le_of_ble_eq_true rfl, Nat.le_of_ble_eq_true rfl⟩ ⟨by show _ ≤ 1712; omega, by show _ ≤ 10272; omega⟩ (Nat.le_of_ble_eq_true rfl) hS hW dL_refuses_286 (fun H locs hW hS => ?_)
  refine lv_iload hx hb dL_refuses_289 (lv_at hl 10 rfl) ?_
  refine lv_icmp_ne (tgt := 456) hx hb dL_refuses_291 (by decide) (fun c => absurd (by decide) c) (fun _ => ?_)
  refine lv_aload_n hx hb dL_refuses_294 rfl (lv_at hl 16 rfl) ?_
  refine lv_bipush (v := (18 : Int32)) hx hb dL_refuses_295 (by decide) ?_
  refine lv_iconst (v := (0 : Int32)) hx hb dL_refuses_297 (by decide) ?_
  refine lv_iconst (v := (1 : Int32)) hx hb dL_refuses_298 (by decide) ?_
  refine lv_iload hx hb dL_refuses_299 (lv_at hl 6 rfl) ?_
  refine lv_if_ne (tgt := 309) hx hb dL_refuses_301 (by decide) (fun _ => ?_) (fun c => absurd c (by decide))
  refine lv_iload hx hb dL_refuses_309 (lv_at hl 0 rfl) ?_
  refine lv_iconst (v := (0 : Int32)) hx hb dL_refuses_311 (by decide) ?_
  have hc : f_L_act M (18 : Int32) (0 : Int32) (1 : Int32) (1000 : Int32) (0 : Int32) = some ((-9002 : Int32), M) := n18 M (by decide)
  refine kL_85 C hml hl.1 (c_L_act hlf hc) ⟨Nat.le_of_ble_eq_true rfl, Nat.le_of_ble_eq_true rfl⟩ ⟨by show _ ≤ 1712; omega, by show _ ≤ 10272; omega⟩ (Nat.le_of_ble_eq_true rfl) hS hW dL_refuses_312 (fun H locs hW hS => ?_)
  refine lv_iload hx hb dL_refuses_315 (lv_at hl 10 rfl) ?_
  refine lv_icmp_ne (tgt := 456) hx hb dL_refuses_317 (by decide) (fun c => absurd (by decide) c) (fun _ => ?_)
  refine lv_aload_n hx hb dL_refuses_320 rfl (lv_at hl 16 rfl) ?_
  refine lv_iconst (v := (2 : Int32)) hx hb dL_refuses_321 (by decide) ?_
  refine lv_iload hx hb dL_refuses_322 (lv_at hl 4 rfl) ?_
  refine lv_iconst (v := (1 : Int32)) hx hb dL_refuses_324 (by decide) ?_
  refine lv_iconst (v := (0 : Int32)) hx hb dL_refuses_325 (by decide) ?_
  refine lv_iconst (v := (0 : Int32)) hx hb dL_refuses_326 (by decide) ?_
  have hc : f_L_act M (2 : Int32) (4 : Int32) (1 : Int32) (0 : Int32) (0 : Int32) = some ((-9002 : Int32), M) := n2 M (by decide)
  refine kL_85 C hml hl.1 (c_L_act hlf hc) ⟨Nat.le_of_ble_eq_true rfl, Nat.le_of_ble_eq_true rfl⟩ ⟨by show _ ≤ 1712; omega, by show _ ≤ 10272; omega⟩ (Nat.le_of_ble_eq_true rfl) hS hW dL_refuses_327 (fun H locs hW hS => ?_)
  refine lv_iload hx hb dL_refuses_330 (lv_at hl 10 rfl) ?_
  refine lv_icmp_ne (tgt := 456) hx hb dL_refuses_332 (by decide) (fun c => absurd (by decide) c) (fun _ => ?_)
  refine lv_aload_n hx hb dL_refuses_335 rfl (lv_at hl 16 rfl) ?_
  refine lv_iconst (v := (2 : Int32)) hx hb dL_refuses_336 (by decide) ?_
  refine lv_iconst (v := (0 : Int32)) hx hb dL_refuses_337 (by decide) ?_
  refine lv_iconst (v := (0 : Int32)) hx hb dL_refuses_338 (by decide) ?_
  refine lv_iconst (v := (0 : Int32)) hx hb dL_refuses_339 (by decide) ?_
  refine lv_iconst (v := (0 : Int32)) hx hb dL_refuses_340 (by decide) ?_
  have hc : f_L_act M (2 : Int32) (0 : Int32) (0 : Int32) (0 : Int32) (0 : Int32) = some ((-9002 : Int32), M) := n2 M (by decide)
  refine kL_85 C hml hl.1 (c_L_act hlf hc) ⟨Nat.le_of_ble_eq_true rfl, Nat.le_of_ble_eq_true rfl⟩ ⟨by show _ ≤ 1712; omega, by show _ ≤ 10272; omega⟩ (Nat.le_of_ble_eq_true rfl) hS hW dL_refuses_341 (fun H locs hW hS => ?_)
  refine lv_iload hx hb dL_refuses_344 (lv_at hl 10 rfl) ?_
  refine lv_icmp_ne (tgt := 456) hx hb dL_refuses_346 (by decide) (fun c => absurd (by decide) c) (fun _ => ?_)
  refine lv_aload_n hx hb dL_refuses_349 rfl (lv_at hl 16 rfl) ?_
  refine lv_iconst (v := (2 : Int32)) hx hb dL_refuses_350 (by decide) ?_
  refine lv_iconst (v := (0 : Int32)) hx hb dL_refuses_351 (by decide) ?_
  refine lv_iconst (v := (1 : Int32)) hx hb dL_refuses_352 (by decide) ?_
  refine lv_iload hx hb dL_refuses_353 (lv_at hl 1 rfl) ?_
  refine lv_iconst (v := (0 : Int32)) hx hb dL_refuses_355 (by decide) ?_
  have hc : f_L_act M (2 : Int32) (0 : Int32) (1 : Int32) (-1 : Int32) (0 : Int32) = some ((-9002 : Int32), M) := n2 M (by decide)
  refine kL_85 C hml hl.1 (c_L_act hlf hc) ⟨Nat.le_of_ble_eq_true rfl, Nat.le_of_ble_eq_true rfl⟩ ⟨by show _ ≤ 1712; omega, by show _ ≤ 10272; omega⟩ (Nat.le_of_ble_eq_true rfl) hS hW dL_refuses_356 (fun H locs hW hS => ?_)
  refine lv_iload hx hb dL_refuses_359 (lv_at hl 10 rfl) ?_
  refine lv_icmp_ne (tgt := 456) hx hb dL_refuses_361 (by decide) (fun c => absurd (by decide) c) (fun _ => ?_)
  exact t_refuses_19 C hml hr hlk hlf h hS hW (lv_sub hl [0, 1, 2, 3, 4, 5, 6, 7, 8, 9, 10, 11, 12, 13, 14, 15, 16] rfl) ⟨by omega, by omega⟩
set_option maxHeartbeats 4000000 in
set_option maxRecDepth 100000 in
theorem t_refuses_17 {p : Program} {l : Launch} {e : Env} {s : State} {m : MethodId} {args : Array Value} {below : List Frame} {meth : Method} {c : Code} {Z : Zt} {b : Nat} (C : Cx p s m args c cL_refuses RL Z b) (hml : c.maxLocals = 17) (hr : meth.sig.returnType = some .boolean) (hlk : meth.locks = false) (hlf : l.stackTraces = false) {M : Mem} {τ : Tr} {k : Lk} {F : List Nat} (h : Rl M τ k F) {H : Heap} {locs : List Loc} {ls : Array Slot} {cells slots : Nat} (hS : va_S (A0 b) s.heap H locs) (hW : Wd Z b M H) (hl : lv_has ls 17 [(14, .int (1000 : Int32)), (13, .int (-1 : Int32)), (12, .int (101 : Int32)), (11, .int (10111 : Int32)), (10, .int (4 : Int32)), (9, .int (-2147483648 : Int32)), (8, .int (1 : Int32)), (15, .int (1 : Int32)), (16, .int (9 : Int32)), (7, .int (2147483647 : Int32)), (6, .int (-9002 : Int32)), (5, .int (-9001 : Int32)), (4, .int (ovl k (0 : Int32).toNatClampNeg)), (3, .int (nI F.length)), (2, .int (nI ((ta τ).filter (par (0 : Int32).toNatClampNeg)).length)), (1, .int (nI (ta τ).length)), (0, .ref (b + 0))]) (hcs : cells + 1276 ≤ 1712 ∧ slots + 7656 ≤ 10272) : W p l e rm_L_refuses s m args below meth c H locs cells slots (MQ below (Qn Z b (some (.int 1)) M) args s 1712 10272 (A0 b)) (F0 m 206 ls []) := by
  have hx := C.1
  have hb := C.2.1
  refine lv_aload_n hx hb dL_refuses_206 rfl (lv_at hl 16 rfl) ?_
  refine lv_iconst (v := (0 : Int32)) hx hb dL_refuses_207 (by decide) ?_
  refine lv_iconst (v := (0 : Int32)) hx hb dL_refuses_208 (by decide) ?_
  refine lv_iconst (v := (0 : Int32)) hx hb dL_refuses_209 (by decide) ?_
  refine lv_iconst (v := (0 : Int32)) hx hb dL_refuses_210 (by decide) ?_
  refine lv_iconst (v := (0 : Int32)) hx hb dL_refuses_211 (by decide) ?_
  have hc : f_L_act M (0 : Int32) (0 : Int32) (0 : Int32) (0 : Int32) (0 : Int32) = some ((-9002 : Int32), M) := n0 M (by decide)
  refine kL_85 C hml hl.1 (c_L_act hlf hc) ⟨Nat.le_of_ble_eq_true rfl, Nat.le_of_ble_eq_true rfl⟩ ⟨by show _ ≤ 1712; omega, by show _ ≤ 10272; omega⟩ (Nat.le_of_ble_eq_true rfl) hS hW dL_refuses_212 (fun H locs hW hS => ?_)
  refine lv_iload hx hb dL_refuses_215 (lv_at hl 10 rfl) ?_
  refine lv_icmp_ne (tgt := 456) hx hb dL_refuses_217 (by decide) (fun c => absurd (by decide) c) (fun _ => ?_)
  refine lv_aload_n hx hb dL_refuses_220 rfl (lv_at hl 16 rfl) ?_
  refine lv_iconst (v := (0 : Int32)) hx hb dL_refuses_221 (by decide) ?_
  refine lv_iconst (v := (0 : Int32)) hx hb dL_refuses_222 (by decide) ?_
  refine lv_iconst (v := (1 : Int32)) hx hb dL_refuses_223 (by decide) ?_
  refine lv_iload hx hb dL_refuses_224 (lv_at hl 1 rfl) ?_
  refine lv_iconst (v := (0 : Int32)) hx hb dL_refuses_226 (by decide) ?_
  have hc : f_L_act M (0 : Int32) (0 : Int32) (1 : Int32) (-1 : Int32) (0 : Int32) = some ((-9002 : Int32), M) := n0 M (by decide)
  refine kL_85 C hml hl.1 (c_L_act hlf hc) ⟨Nat.le_of_ble_eq_true rfl, Nat.le_of_ble_eq_true rfl⟩ ⟨by show _ ≤ 1712; omega, by show _ ≤ 10272; omega⟩ (Nat.le_of_ble_eq_true rfl) hS hW dL_refuses_227 (fun H locs hW hS => ?_)
  refine lv_iload hx hb dL_refuses_230 (lv_at hl 10 rfl) ?_
  refine lv_icmp_ne (tgt := 456) hx hb dL_refuses_232 (by decide) (fun c => absurd (by decide) c) (fun _ => ?_)
  refine lv_aload_n hx hb dL_refuses_235 rfl (lv_at hl 16 rfl) ?_
  refine lv_iconst (v := (1 : Int32)) hx hb dL_refuses_236 (by decide) ?_
  refine lv_iload hx hb dL_refuses_237 (lv_at hl 4 rfl) ?_
  refine lv_iconst (v := (1 : Int32)) hx hb dL_refuses_239 (by decide) ?_
  refine lv_iconst (v := (0 : Int32)) hx hb dL_refuses_240 (by decide) ?_
  refine lv_iconst (v := (0 : Int32)) hx hb dL_refuses_241 (by decide) ?_
  have hc : f_L_act M (1 : Int32) (4 : Int32) (1 : Int32) (0 : Int32) (0 : Int32) = some ((-9002 : Int32), M) := n1 M (by decide)
  refine kL_85 C hml hl.1 (c_L_act hlf hc) ⟨Nat.le_of_ble_eq_true rfl, Nat.le_of_ble_eq_true rfl⟩ ⟨by show _ ≤ 1712; omega, by show _ ≤ 10272; omega⟩ (Nat.le_of_ble_eq_true rfl) hS hW dL_refuses_242 (fun H locs hW hS => ?_)
  refine lv_iload hx hb dL_refuses_245 (lv_at hl 10 rfl) ?_
  refine lv_icmp_ne (tgt := 456) hx hb dL_refuses_247 (by decide) (fun c => absurd (by decide) c) (fun _ => ?_)
  refine lv_aload_n hx hb dL_refuses_250 rfl (lv_at hl 16 rfl) ?_
  refine lv_iconst (v := (1 : Int32)) hx hb dL_refuses_251 (by decide) ?_
  refine lv_iconst (v := (0 : Int32)) hx hb dL_refuses_252 (by decide) ?_
  refine lv_iconst (v := (0 : Int32)) hx hb dL_refuses_253 (by decide) ?_
  refine lv_iconst (v := (0 : Int32)) hx hb dL_refuses_254 (by decide) ?_
  refine lv_iconst (v := (0 : Int32)) hx hb dL_refuses_255 (by decide) ?_
  have hc : f_L_act M (1 : Int32) (0 : Int32) (0 : Int32) (0 : Int32) (0 : Int32) = some ((-9002 : Int32), M) := n1 M (by decide)
  refine kL_85 C hml hl.1 (c_L_act hlf hc) ⟨Nat.le_of_ble_eq_true rfl, Nat.le_of_ble_eq_true rfl⟩ ⟨by show _ ≤ 1712; omega, by show _ ≤ 10272; omega⟩ (Nat.le_of_ble_eq_true rfl) hS hW dL_refuses_256 (fun H locs hW hS => ?_)
  refine lv_iload hx hb dL_refuses_259 (lv_at hl 10 rfl) ?_
  refine lv_icmp_ne (tgt := 456) hx hb dL_refuses_261 (by decide) (fun c => absurd (by decide) c) (fun _ => ?_)
  refine lv_aload_n hx hb dL_refuses_264 rfl (lv_at hl 16 rfl) ?_
  refine lv_iconst (v := (1 : Int32)) hx hb dL_refuses_265 (by decide) ?_
  refine lv_iconst (v := (0 : Int32)) hx hb dL_refuses_266 (by decide) ?_
  refine lv_iconst (v := (1 : Int32)) hx hb dL_refuses_267 (by decide) ?_
  refine lv_iload hx hb dL_refuses_268 (lv_at hl 0 rfl) ?_
  refine lv_iconst (v := (0 : Int32)) hx hb dL_refuses_270 (by decide) ?_
  have hc : f_L_act M (1 : Int32) (0 : Int32) (1 : Int32) (1000 : Int32) (0 : Int32) = some ((-9002 : Int32), M) := n1 M (by decide)
  refine kL_85 C hml hl.1 (c_L_act hlf hc) ⟨Nat.le_of_ble_eq_true rfl, Nat.le_of_ble_eq_true rfl⟩ ⟨by show _ ≤ 1712; omega, by show _ ≤ 10272; omega⟩ (Nat.le_of_ble_eq_true rfl) hS hW dL_refuses_271 (fun H locs hW hS => ?_)
  refine lv_iload hx hb dL_refuses_274 (lv_at hl 10 rfl) ?_
  refine lv_icmp_ne (tgt := 456) hx hb dL_refuses_276 (by decide) (fun c => absurd (by decide) c) (fun _ => ?_)
  exact t_refuses_18 C hml hr hlk hlf h hS hW (lv_sub hl [0, 1, 2, 3, 4, 5, 6, 7, 8, 9, 10, 11, 12, 13, 14, 15, 16] rfl) ⟨by omega, by omega⟩
set_option maxHeartbeats 4000000 in
set_option maxRecDepth 100000 in
theorem t_refuses_16 {p : Program} {l : Launch} {e : Env} {s : State} {m : MethodId} {args : Array Value} {below : List Frame} {meth : Method} {c : Code} {Z : Zt} {b : Nat} (C : Cx p s m args c cL_refuses RL Z b) (hml : c.maxLocals = 17) (hr : meth.sig.returnType = some .boolean) (hlk : meth.locks = false) (hlf : l.stackTraces = false) {M : Mem} {τ : Tr} {k : Lk} {F : List Nat} (h : Rl M τ k F) {H : Heap} {locs : List Loc} {ls : Array Slot} {cells slots : Nat} (hS : va_S (A0 b) s.heap H locs) (hW : Wd Z b M H) (hl : lv_has ls 17 [(16, .int (9 : Int32)), (15, .int (1 : Int32)), (14, .int (-1 : Int32)), (13, .int (-1 : Int32)), (12, .int (-1 : Int32)), (11, .int (10 : Int32)), (10, .int (-1 : Int32)), (9, .int (-1 : Int32)), (8, .int (0 : Int32)), (7, .int (2147483647 : Int32)), (6, .int (-9002 : Int32)), (5, .int (-9001 : Int32)), (4, .int (ovl k (0 : Int32).toNatClampNeg)), (3, .int (nI F.length)), (2, .int (nI ((ta τ).filter (par (0 : Int32).toNatClampNeg)).length)), (1, .int (nI (ta τ).length)), (0, .ref (b + 0))]) (hcs : cells + 1283 ≤ 1712 ∧ slots + 7698 ≤ 10272) : W p l e rm_L_refuses s m args below meth c H locs cells slots (MQ below (Qn Z b (some (.int 1)) M) args s 1712 10272 (A0 b)) (F0 m 1104 ls []) := by
  have hx := C.1
  have hb := C.2.1
  refine lv_iconst (v := (1 : Int32)) hx hb dL_refuses_1104 (by decide) ?_
  refine lv_goto (tgt := 1109) hx hb dL_refuses_1105 (by decide) ?_
  refine lv_istore (lv' := [(15, .int (1 : Int32)), (16, .int (9 : Int32)), (14, .int (-1 : Int32)), (13, .int (-1 : Int32)), (12, .int (-1 : Int32)), (11, .int (10 : Int32)), (10, .int (-1 : Int32)), (9, .int (-1 : Int32)), (8, .int (0 : Int32)), (7, .int (2147483647 : Int32)), (6, .int (-9002 : Int32)), (5, .int (-9001 : Int32)), (4, .int (ovl k (0 : Int32).toNatClampNeg)), (3, .int (nI F.length)), (2, .int (nI ((ta τ).filter (par (0 : Int32).toNatClampNeg)).length)), (1, .int (nI (ta τ).length)), (0, .ref (b + 0))]) hx hb dL_refuses_1109 hl (by decide) rfl (fun ls hl => ?_)
  refine lv_iload hx hb dL_refuses_1111 (lv_at hl 0 rfl) ?_
  refine lv_if_ne (tgt := 1118) hx hb dL_refuses_1113 (by decide) (fun _ => ?_) (fun c => absurd c (by decide))
  refine lv_iinc (v := (1 : Int32)) (lv' := [(8, .int (1 : Int32)), (15, .int (1 : Int32)), (16, .int (9 : Int32)), (14, .int (-1 : Int32)), (13, .int (-1 : Int32)), (12, .int (-1 : Int32)), (11, .int (10 : Int32)), (10, .int (-1 : Int32)), (9, .int (-1 : Int32)), (7, .int (2147483647 : Int32)), (6, .int (-9002 : Int32)), (5, .int (-9001 : Int32)), (4, .int (ovl k (0 : Int32).toNatClampNeg)), (3, .int (nI F.length)), (2, .int (nI ((ta τ).filter (par (0 : Int32).toNatClampNeg)).length)), (1, .int (nI (ta τ).length)), (0, .ref (b + 0))]) hx hb dL_refuses_1118 hl (k := 8) rfl (by decide) (by decide) rfl (fun ls hl => ?_)
  refine lv_goto (tgt := 40) hx hb dL_refuses_1121 (by decide) ?_
  refine lv_iload hx hb dL_refuses_40 (lv_at hl 0 rfl) ?_
  refine lv_iconst (v := (4 : Int32)) hx hb dL_refuses_42 (by decide) ?_
  refine lv_icmp_ge (tgt := 1124) hx hb dL_refuses_43 (by decide) (fun c => absurd c (by decide)) (fun _ => ?_)
  refine lv_iload hx hb dL_refuses_46 (lv_at hl 0 rfl) ?_
  refine lv_if_ne (tgt := 55) hx hb dL_refuses_48 (by decide) (fun _ => ?_) (fun c => absurd c (by decide))
  refine lv_iload hx hb dL_refuses_55 (lv_at hl 0 rfl) ?_
  refine lv_iconst (v := (2 : Int32)) hx hb dL_refuses_57 (by decide) ?_
  refine lv_icmp_ne (tgt := 66) hx hb dL_refuses_58 (by decide) (fun _ => ?_) (fun c => absurd c (by decide))
  refine lv_iload hx hb dL_refuses_66 (lv_at hl 9 rfl) ?_
  refine lv_ineg hx hb dL_refuses_68 ?_
  refine W.eq (g2 := F0 m 69 ls [.int (-2147483647 : Int32)]) (congrArg (fun v => F0 m 69 ls (.int v :: [])) (show -(2147483647 : Int32) = (-2147483647 : Int32) by decide)) ?_
  refine lv_iconst (v := (1 : Int32)) hx hb dL_refuses_69 (by decide) ?_
  refine lv_isub hx hb dL_refuses_70 ?_
  refine W.eq (g2 := F0 m 71 ls [.int (-2147483648 : Int32)]) (congrArg (fun v => F0 m 71 ls (.int v :: [])) (show (-2147483647 : Int32) - (1 : Int32) = (-2147483648 : Int32) by decide)) ?_
  refine lv_istore (lv' := [(9, .int (-2147483648 : Int32)), (8, .int (1 : Int32)), (15, .int (1 : Int32)), (16, .int (9 : Int32)), (14, .int (-1 : Int32)), (13, .int (-1 : Int32)), (12, .int (-1 : Int32)), (11, .int (10 : Int32)), (10, .int (-1 : Int32)), (7, .int (2147483647 : Int32)), (6, .int (-9002 : Int32)), (5, .int (-9001 : Int32)), (4, .int (ovl k (0 : Int32).toNatClampNeg)), (3, .int (nI F.length)), (2, .int (nI ((ta τ).filter (par (0 : Int32).toNatClampNeg)).length)), (1, .int (nI (ta τ).length)), (0, .ref (b + 0))]) hx hb dL_refuses_71 hl (by decide) rfl (fun ls hl => ?_)
  refine lv_iload hx hb dL_refuses_73 (lv_at hl 1 rfl) ?_
  refine lv_iconst (v := (1 : Int32)) hx hb dL_refuses_75 (by decide) ?_
  refine lv_icmp_ne (tgt := 83) hx hb dL_refuses_76 (by decide) (fun c => absurd (by decide) c) (fun _ => ?_)
  refine lv_iconst (v := (4 : Int32)) hx hb dL_refuses_79 (by decide) ?_
  refine lv_goto (tgt := 85) hx hb dL_refuses_80 (by decide) ?_
  refine lv_istore (lv' := [(10, .int (4 : Int32)), (9, .int (-2147483648 : Int32)), (8, .int (1 : Int32)), (15, .int (1 : Int32)), (16, .int (9 : Int32)), (14, .int (-1 : Int32)), (13, .int (-1 : Int32)), (12, .int (-1 : Int32)), (11, .int (10 : Int32)), (7, .int (2147483647 : Int32)), (6, .int (-9002 : Int32)), (5, .int (-9001 : Int32)), (4, .int (ovl k (0 : Int32).toNatClampNeg)), (3, .int (nI F.length)), (2, .int (nI ((ta τ).filter (par (0 : Int32).toNatClampNeg)).length)), (1, .int (nI (ta τ).length)), (0, .ref (b + 0))]) hx hb dL_refuses_85 hl (by decide) rfl (fun ls hl => ?_)
  refine lv_iload hx hb dL_refuses_87 (lv_at hl 2 rfl) ?_
  refine lv_if_ne (tgt := 97) hx hb dL_refuses_89 (by decide) (fun _ => ?_) (fun c => absurd c (by decide))
  refine lv_iload hx hb dL_refuses_97 (lv_at hl 2 rfl) ?_
  refine lv_iconst (v := (1 : Int32)) hx hb dL_refuses_99 (by decide) ?_
  refine lv_icmp_ne (tgt := 109) hx hb dL_refuses_100 (by decide) (fun c => absurd (by decide) c) (fun _ => ?_)
  refine lv_sipush (v := (10111 : Int32)) hx hb dL_refuses_103 (by decide) ?_
  refine lv_goto (tgt := 111) hx hb dL_refuses_106 (by decide) ?_
  refine lv_istore (lv' := [(11, .int (10111 : Int32)), (10, .int (4 : Int32)), (9, .int (-2147483648 : Int32)), (8, .int (1 : Int32)), (15, .int (1 : Int32)), (16, .int (9 : Int32)), (14, .int (-1 : Int32)), (13, .int (-1 : Int32)), (12, .int (-1 : Int32)), (7, .int (2147483647 : Int32)), (6, .int (-9002 : Int32)), (5, .int (-9001 : Int32)), (4, .int (ovl k (0 : Int32).toNatClampNeg)), (3, .int (nI F.length)), (2, .int (nI ((ta τ).filter (par (0 : Int32).toNatClampNeg)).length)), (1, .int (nI (ta τ).length)), (0, .ref (b + 0))]) hx hb dL_refuses_111 hl (by decide) rfl (fun ls hl => ?_)
  refine lv_iload hx hb dL_refuses_113 (lv_at hl 3 rfl) ?_
  refine lv_if_ne (tgt := 122) hx hb dL_refuses_115 (by decide) (fun _ => ?_) (fun c => absurd c (by decide))
  refine lv_iload hx hb dL_refuses_122 (lv_at hl 3 rfl) ?_
  refine lv_iconst (v := (1 : Int32)) hx hb dL_refuses_124 (by decide) ?_
  refine lv_icmp_ne (tgt := 133) hx hb dL_refuses_125 (by decide) (fun c => absurd (by decide) c) (fun _ => ?_)
  refine lv_bipush (v := (101 : Int32)) hx hb dL_refuses_128 (by decide) ?_
  refine lv_goto (tgt := 147) hx hb dL_refuses_130 (by decide) ?_
  refine lv_istore (lv' := [(12, .int (101 : Int32)), (11, .int (10111 : Int32)), (10, .int (4 : Int32)), (9, .int (-2147483648 : Int32)), (8, .int (1 : Int32)), (15, .int (1 : Int32)), (16, .int (9 : Int32)), (14, .int (-1 : Int32)), (13, .int (-1 : Int32)), (7, .int (2147483647 : Int32)), (6, .int (-9002 : Int32)), (5, .int (-9001 : Int32)), (4, .int (ovl k (0 : Int32).toNatClampNeg)), (3, .int (nI F.length)), (2, .int (nI ((ta τ).filter (par (0 : Int32).toNatClampNeg)).length)), (1, .int (nI (ta τ).length)), (0, .ref (b + 0))]) hx hb dL_refuses_147 hl (by decide) rfl (fun ls hl => ?_)
  refine lv_iload hx hb dL_refuses_149 (lv_at hl 4 rfl) ?_
  refine lv_iconst (v := (2 : Int32)) hx hb dL_refuses_151 (by decide) ?_
  refine lv_icmp_ge (tgt := 159) hx hb dL_refuses_152 (by decide) (fun c => absurd c (by decide)) (fun _ => ?_)
  refine lv_iconst (v := (-1 : Int32)) hx hb dL_refuses_155 (by decide) ?_
  refine lv_goto (tgt := 173) hx hb dL_refuses_156 (by decide) ?_
  refine lv_istore (lv' := [(13, .int (-1 : Int32)), (12, .int (101 : Int32)), (11, .int (10111 : Int32)), (10, .int (4 : Int32)), (9, .int (-2147483648 : Int32)), (8, .int (1 : Int32)), (15, .int (1 : Int32)), (16, .int (9 : Int32)), (14, .int (-1 : Int32)), (7, .int (2147483647 : Int32)), (6, .int (-9002 : Int32)), (5, .int (-9001 : Int32)), (4, .int (ovl k (0 : Int32).toNatClampNeg)), (3, .int (nI F.length)), (2, .int (nI ((ta τ).filter (par (0 : Int32).toNatClampNeg)).length)), (1, .int (nI (ta τ).length)), (0, .ref (b + 0))]) hx hb dL_refuses_173 hl (by decide) rfl (fun ls hl => ?_)
  refine lv_iload hx hb dL_refuses_175 (lv_at hl 5 rfl) ?_
  refine lv_iconst (v := (1 : Int32)) hx hb dL_refuses_177 (by decide) ?_
  refine lv_icmp_ne (tgt := 187) hx hb dL_refuses_178 (by decide) (fun c => absurd (by decide) c) (fun _ => ?_)
  refine lv_sipush (v := (1000 : Int32)) hx hb dL_refuses_181 (by decide) ?_
  refine lv_goto (tgt := 189) hx hb dL_refuses_184 (by decide) ?_
  refine lv_istore (lv' := [(14, .int (1000 : Int32)), (13, .int (-1 : Int32)), (12, .int (101 : Int32)), (11, .int (10111 : Int32)), (10, .int (4 : Int32)), (9, .int (-2147483648 : Int32)), (8, .int (1 : Int32)), (15, .int (1 : Int32)), (16, .int (9 : Int32)), (7, .int (2147483647 : Int32)), (6, .int (-9002 : Int32)), (5, .int (-9001 : Int32)), (4, .int (ovl k (0 : Int32).toNatClampNeg)), (3, .int (nI F.length)), (2, .int (nI ((ta τ).filter (par (0 : Int32).toNatClampNeg)).length)), (1, .int (nI (ta τ).length)), (0, .ref (b + 0))]) hx hb dL_refuses_189 hl (by decide) rfl (fun ls hl => ?_)
  refine lv_aload_n hx hb dL_refuses_191 rfl (lv_at hl 16 rfl) ?_
  refine lv_iconst (v := (0 : Int32)) hx hb dL_refuses_192 (by decide) ?_
  refine lv_iload hx hb dL_refuses_193 (lv_at hl 4 rfl) ?_
  refine lv_iconst (v := (1 : Int32)) hx hb dL_refuses_195 (by decide) ?_
  refine lv_iconst (v := (0 : Int32)) hx hb dL_refuses_196 (by decide) ?_
  refine lv_iconst (v := (0 : Int32)) hx hb dL_refuses_197 (by decide) ?_
  have hc : f_L_act M (0 : Int32) (4 : Int32) (1 : Int32) (0 : Int32) (0 : Int32) = some ((-9002 : Int32), M) := n0 M (by decide)
  refine kL_85 C hml hl.1 (c_L_act hlf hc) ⟨Nat.le_of_ble_eq_true rfl, Nat.le_of_ble_eq_true rfl⟩ ⟨by show _ ≤ 1712; omega, by show _ ≤ 10272; omega⟩ (Nat.le_of_ble_eq_true rfl) hS hW dL_refuses_198 (fun H locs hW hS => ?_)
  refine lv_iload hx hb dL_refuses_201 (lv_at hl 10 rfl) ?_
  refine lv_icmp_ne (tgt := 456) hx hb dL_refuses_203 (by decide) (fun c => absurd (by decide) c) (fun _ => ?_)
  exact t_refuses_17 C hml hr hlk hlf h hS hW (lv_sub hl [0, 1, 2, 3, 4, 5, 6, 7, 8, 9, 10, 11, 12, 13, 14, 15, 16] rfl) ⟨by omega, by omega⟩

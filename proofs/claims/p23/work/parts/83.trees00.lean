set_option maxHeartbeats 4000000 in
set_option maxRecDepth 100000 in
theorem t_trees_19 {p : Program} {l : Launch} {e : Env} {s : State} {m : MethodId} {args : Array Value} {below : List Frame} {meth : Method} {c : Code} {Z : Zt} {b : Nat} (C : Cx p s m args c cL_trees RL Z b) (hml : c.maxLocals = 1) (hr : meth.sig.returnType = some .boolean) (hlk : meth.locks = false) (hlf : l.stackTraces = false) {M : Mem} (h : RS M ([], [], 0, [])) {H : Heap} {locs : List Loc} {ls : Array Slot} {cells slots : Nat} (hS : va_S (A0 b) s.heap H locs) (hW : Wd Z b M H) (hl : lv_has ls 1 [(0, .ref (b + 0))]) (hcs : cells + 1712 ≤ 5618 ∧ slots + 10272 ≤ 34041) : W p l e rm_L_trees s m args below meth c H locs cells slots (MQ below (QT b) args s 5618 34041 (A0 b)) (F0 m 992 ls []) := by
  have hx := C.1
  have hb := C.2.1
  refine lv_aload_n hx hb dL_trees_992 rfl (lv_at hl 0 rfl) ?_
  have hc : f_X4_resources M = some ((0 : Int32), M) := s_resources h (by decide +kernel)
  refine kL_77 C hml hl.1 (c_X4_resources hc) ⟨Nat.le_of_ble_eq_true rfl, Nat.le_of_ble_eq_true rfl⟩ ⟨by show _ ≤ 5618; omega, by show _ ≤ 34041; omega⟩ (Nat.le_of_ble_eq_true rfl) hS hW dL_trees_993 (fun H locs hW hS => ?_)
  refine lv_if_ne (tgt := 1017) hx hb dL_trees_996 (by decide) (fun c => absurd (by decide) c) (fun _ => ?_)
  refine lv_aload_n hx hb dL_trees_999 rfl (lv_at hl 0 rfl) ?_
  have hc : f_X4_failures M = some ((0 : Int32), M) := s_failures h (by decide +kernel)
  refine kL_81 C hml hl.1 (c_X4_failures hc) ⟨Nat.le_of_ble_eq_true rfl, Nat.le_of_ble_eq_true rfl⟩ ⟨by show _ ≤ 5618; omega, by show _ ≤ 34041; omega⟩ (Nat.le_of_ble_eq_true rfl) hS hW dL_trees_1000 (fun H locs hW hS => ?_)
  refine lv_if_ne (tgt := 1017) hx hb dL_trees_1003 (by decide) (fun c => absurd (by decide) c) (fun _ => ?_)
  refine lv_aload_n hx hb dL_trees_1006 rfl (lv_at hl 0 rfl) ?_
  refine kL_92 C hml hl.1 (c_L_refuses hlf h) ⟨Nat.le_of_ble_eq_true rfl, Nat.le_of_ble_eq_true rfl⟩ ⟨by show _ ≤ 5618; omega, by show _ ≤ 34041; omega⟩ (Nat.le_of_ble_eq_true rfl) hS hW dL_trees_1007 (fun H locs hW hS => ?_)
  refine lv_if_eq (tgt := 1017) hx hb dL_trees_1010 (by decide) (fun c => absurd c (by decide)) (fun _ => ?_)
  refine lv_iconst (v := (1 : Int32)) hx hb dL_trees_1013 (by decide) ?_
  refine lv_goto (tgt := 1018) hx hb dL_trees_1014 (by decide) ?_
  exact ret_T C hr hlk hS dL_trees_1018 (by omega) (by omega)
set_option maxHeartbeats 4000000 in
set_option maxRecDepth 100000 in
theorem t_trees_18 {p : Program} {l : Launch} {e : Env} {s : State} {m : MethodId} {args : Array Value} {below : List Frame} {meth : Method} {c : Code} {Z : Zt} {b : Nat} (C : Cx p s m args c cL_trees RL Z b) (hml : c.maxLocals = 1) (hr : meth.sig.returnType = some .boolean) (hlk : meth.locks = false) (hlf : l.stackTraces = false) {M : Mem} (h : RS M V24) {H : Heap} {locs : List Loc} {ls : Array Slot} {cells slots : Nat} (hS : va_S (A0 b) s.heap H locs) (hW : Wd Z b M H) (hl : lv_has ls 1 [(0, .ref (b + 0))]) (hcs : cells + 1725 ≤ 5618 ∧ slots + 10350 ≤ 34041) : W p l e rm_L_trees s m args below meth c H locs cells slots (MQ below (QT b) args s 5618 34041 (A0 b)) (F0 m 935 ls []) := by
  have hx := C.1
  have hb := C.2.1
  refine lv_aload_n hx hb dL_trees_935 rfl (lv_at hl 0 rfl) ?_
  refine lv_bipush (v := (12 : Int32)) hx hb dL_trees_936 (by decide) ?_
  refine lv_bipush (v := (124 : Int32)) hx hb dL_trees_938 (by decide) ?_
  refine lv_bipush (v := (122 : Int32)) hx hb dL_trees_940 (by decide) ?_
  refine lv_bipush (v := (121 : Int32)) hx hb dL_trees_942 (by decide) ?_
  have hc : f_L_order M (12 : Int32) (124 : Int32) (122 : Int32) (121 : Int32) = some (1, M) := s_ord h (by decide +kernel)
  refine kL_96 C hml hl.1 (c_L_order hlf hc) ⟨Nat.le_of_ble_eq_true rfl, Nat.le_of_ble_eq_true rfl⟩ ⟨by show _ ≤ 5618; omega, by show _ ≤ 34041; omega⟩ (Nat.le_of_ble_eq_true rfl) hS hW dL_trees_944 (fun H locs hW hS => ?_)
  refine lv_if_eq (tgt := 1017) hx hb dL_trees_947 (by decide) (fun c => absurd c (by decide)) (fun _ => ?_)
  refine lv_aload_n hx hb dL_trees_950 rfl (lv_at hl 0 rfl) ?_
  refine lv_sipush (v := (1242 : Int32)) hx hb dL_trees_951 (by decide) ?_
  have hc : f_X4_content M (1242 : Int32) = some (.inr (8 : Int32), M) := s_content h (by decide +kernel)
  refine kL_34R C hml hl.1 (c_X4_content hlf hc) ⟨Nat.le_of_ble_eq_true rfl, Nat.le_of_ble_eq_true rfl⟩ ⟨by show _ ≤ 5618; omega, by show _ ≤ 34041; omega⟩ (Nat.le_of_ble_eq_true rfl) hS hW dL_trees_954 (fun H locs hW hS => ?_)
  refine lv_bipush (v := (8 : Int32)) hx hb dL_trees_957 (by decide) ?_
  refine lv_icmp_ne (tgt := 1017) hx hb dL_trees_959 (by decide) (fun c => absurd (by decide) c) (fun _ => ?_)
  refine lv_aload_n hx hb dL_trees_962 rfl (lv_at hl 0 rfl) ?_
  refine lv_bipush (v := (11 : Int32)) hx hb dL_trees_963 (by decide) ?_
  have hc : f_X4_content M (11 : Int32) = some (.inr (6 : Int32), M) := s_content h (by decide +kernel)
  refine kL_34R C hml hl.1 (c_X4_content hlf hc) ⟨Nat.le_of_ble_eq_true rfl, Nat.le_of_ble_eq_true rfl⟩ ⟨by show _ ≤ 5618; omega, by show _ ≤ 34041; omega⟩ (Nat.le_of_ble_eq_true rfl) hS hW dL_trees_965 (fun H locs hW hS => ?_)
  refine lv_bipush (v := (6 : Int32)) hx hb dL_trees_968 (by decide) ?_
  refine lv_icmp_ne (tgt := 1017) hx hb dL_trees_970 (by decide) (fun c => absurd (by decide) c) (fun _ => ?_)
  refine lv_aload_n hx hb dL_trees_973 rfl (lv_at hl 0 rfl) ?_
  have hc : f_X4_resources M = some ((8 : Int32), M) := s_resources h (by decide +kernel)
  refine kL_77 C hml hl.1 (c_X4_resources hc) ⟨Nat.le_of_ble_eq_true rfl, Nat.le_of_ble_eq_true rfl⟩ ⟨by show _ ≤ 5618; omega, by show _ ≤ 34041; omega⟩ (Nat.le_of_ble_eq_true rfl) hS hW dL_trees_974 (fun H locs hW hS => ?_)
  refine lv_bipush (v := (8 : Int32)) hx hb dL_trees_977 (by decide) ?_
  refine lv_icmp_ne (tgt := 1017) hx hb dL_trees_979 (by decide) (fun c => absurd (by decide) c) (fun _ => ?_)
  refine lv_aload_n hx hb dL_trees_982 rfl (lv_at hl 0 rfl) ?_
  refine lv_iconst (v := (2 : Int32)) hx hb dL_trees_983 (by decide) ?_
  refine lv_iconst (v := (1 : Int32)) hx hb dL_trees_984 (by decide) ?_
  refine lv_iconst (v := (0 : Int32)) hx hb dL_trees_985 (by decide) ?_
  obtain ⟨M1, hc1, h1⟩ := s_delete ([], [], 0, []) (0 : Int32) true (c := (2 : Int32)) (x := (1 : Int32)) (tks := (0 : Int32)) h (by decide +kernel)
  have hc1 : f_X4_delete M (2 : Int32) (1 : Int32) (0 : Int32) = some (.inr (0 : Int32), M1) := hc1
  refine kL_17R C hml hl.1 (c_X4_delete hlf hc1) ⟨Nat.le_of_ble_eq_true rfl, Nat.le_of_ble_eq_true rfl⟩ ⟨by show _ ≤ 5618; omega, by show _ ≤ 34041; omega⟩ (Nat.le_of_ble_eq_true rfl) hS hW dL_trees_986 (fun H locs hW hS => ?_)
  refine lv_if_ne (tgt := 1017) hx hb dL_trees_989 (by decide) (fun c => absurd (by decide) c) (fun _ => ?_)
  exact t_trees_19 C hml hr hlk hlf h1 hS hW (lv_sub hl [0] rfl) ⟨by omega, by omega⟩
set_option maxHeartbeats 4000000 in
set_option maxRecDepth 100000 in
theorem t_trees_17 {p : Program} {l : Launch} {e : Env} {s : State} {m : MethodId} {args : Array Value} {below : List Frame} {meth : Method} {c : Code} {Z : Zt} {b : Nat} (C : Cx p s m args c cL_trees RL Z b) (hml : c.maxLocals = 1) (hr : meth.sig.returnType = some .boolean) (hlk : meth.locks = false) (hlf : l.stackTraces = false) {M : Mem} (h : RS M V23) {H : Heap} {locs : List Loc} {ls : Array Slot} {cells slots : Nat} (hS : va_S (A0 b) s.heap H locs) (hW : Wd Z b M H) (hl : lv_has ls 1 [(0, .ref (b + 0))]) (hcs : cells + 1747 ≤ 5618 ∧ slots + 10482 ≤ 34041) : W p l e rm_L_trees s m args below meth c H locs cells slots (MQ below (QT b) args s 5618 34041 (A0 b)) (F0 m 890 ls []) := by
  have hx := C.1
  have hb := C.2.1
  refine lv_aload_n hx hb dL_trees_890 rfl (lv_at hl 0 rfl) ?_
  refine lv_iconst (v := (0 : Int32)) hx hb dL_trees_891 (by decide) ?_
  refine lv_iconst (v := (2 : Int32)) hx hb dL_trees_892 (by decide) ?_
  refine lv_iconst (v := (1 : Int32)) hx hb dL_trees_893 (by decide) ?_
  refine lv_iconst (v := (1 : Int32)) hx hb dL_trees_894 (by decide) ?_
  refine lv_iconst (v := (0 : Int32)) hx hb dL_trees_895 (by decide) ?_
  obtain ⟨M1, hc1, h1⟩ := s_move V24 (0 : Int32) true (c := (0 : Int32)) (x := (2 : Int32)) (y := (1 : Int32)) (tks := (0 : Int32)) h (by decide +kernel)
  have hc1 : f_X4_move M (0 : Int32) (2 : Int32) (1 : Int32) (1 : Int32) (0 : Int32) = some (.inr (0 : Int32), M1) := hc1
  refine kL_28R C hml hl.1 (c_X4_move hlf hc1) ⟨Nat.le_of_ble_eq_true rfl, Nat.le_of_ble_eq_true rfl⟩ ⟨by show _ ≤ 5618; omega, by show _ ≤ 34041; omega⟩ (Nat.le_of_ble_eq_true rfl) hS hW dL_trees_896 (fun H locs hW hS => ?_)
  refine lv_if_ne (tgt := 1017) hx hb dL_trees_899 (by decide) (fun c => absurd (by decide) c) (fun _ => ?_)
  refine lv_aload_n hx hb dL_trees_902 rfl (lv_at hl 0 rfl) ?_
  refine lv_iconst (v := (2 : Int32)) hx hb dL_trees_903 (by decide) ?_
  have hc : f_X4_kindOf M1 (2 : Int32) = some (.inr (-1 : Int32), M1) := s_kindOf h1 (by decide +kernel)
  refine kL_31R C hml hl.1 (c_X4_kindOf hlf hc) ⟨Nat.le_of_ble_eq_true rfl, Nat.le_of_ble_eq_true rfl⟩ ⟨by show _ ≤ 5618; omega, by show _ ≤ 34041; omega⟩ (Nat.le_of_ble_eq_true rfl) hS hW dL_trees_904 (fun H locs hW hS => ?_)
  refine lv_iconst (v := (-1 : Int32)) hx hb dL_trees_907 (by decide) ?_
  refine lv_icmp_ne (tgt := 1017) hx hb dL_trees_908 (by decide) (fun c => absurd (by decide) c) (fun _ => ?_)
  refine lv_aload_n hx hb dL_trees_911 rfl (lv_at hl 0 rfl) ?_
  refine lv_iconst (v := (0 : Int32)) hx hb dL_trees_912 (by decide) ?_
  refine lv_iconst (v := (1 : Int32)) hx hb dL_trees_913 (by decide) ?_
  refine lv_iconst (v := (0 : Int32)) hx hb dL_trees_914 (by decide) ?_
  refine lv_iconst (v := (0 : Int32)) hx hb dL_trees_915 (by decide) ?_
  have hc : f_L_order M1 (0 : Int32) (1 : Int32) (0 : Int32) (0 : Int32) = some (1, M1) := s_ord h1 (by decide +kernel)
  refine kL_96 C hml hl.1 (c_L_order hlf hc) ⟨Nat.le_of_ble_eq_true rfl, Nat.le_of_ble_eq_true rfl⟩ ⟨by show _ ≤ 5618; omega, by show _ ≤ 34041; omega⟩ (Nat.le_of_ble_eq_true rfl) hS hW dL_trees_916 (fun H locs hW hS => ?_)
  refine lv_if_eq (tgt := 1017) hx hb dL_trees_919 (by decide) (fun c => absurd c (by decide)) (fun _ => ?_)
  refine lv_aload_n hx hb dL_trees_922 rfl (lv_at hl 0 rfl) ?_
  refine lv_iconst (v := (1 : Int32)) hx hb dL_trees_923 (by decide) ?_
  refine lv_bipush (v := (12 : Int32)) hx hb dL_trees_924 (by decide) ?_
  refine lv_bipush (v := (11 : Int32)) hx hb dL_trees_926 (by decide) ?_
  refine lv_iconst (v := (0 : Int32)) hx hb dL_trees_928 (by decide) ?_
  have hc : f_L_order M1 (1 : Int32) (12 : Int32) (11 : Int32) (0 : Int32) = some (1, M1) := s_ord h1 (by decide +kernel)
  refine kL_96 C hml hl.1 (c_L_order hlf hc) ⟨Nat.le_of_ble_eq_true rfl, Nat.le_of_ble_eq_true rfl⟩ ⟨by show _ ≤ 5618; omega, by show _ ≤ 34041; omega⟩ (Nat.le_of_ble_eq_true rfl) hS hW dL_trees_929 (fun H locs hW hS => ?_)
  refine lv_if_eq (tgt := 1017) hx hb dL_trees_932 (by decide) (fun c => absurd c (by decide)) (fun _ => ?_)
  exact t_trees_18 C hml hr hlk hlf h1 hS hW (lv_sub hl [0] rfl) ⟨by omega, by omega⟩
set_option maxHeartbeats 4000000 in
set_option maxRecDepth 100000 in
theorem t_trees_16 {p : Program} {l : Launch} {e : Env} {s : State} {m : MethodId} {args : Array Value} {below : List Frame} {meth : Method} {c : Code} {Z : Zt} {b : Nat} (C : Cx p s m args c cL_trees RL Z b) (hml : c.maxLocals = 1) (hr : meth.sig.returnType = some .boolean) (hlk : meth.locks = false) (hlf : l.stackTraces = false) {M : Mem} (h : RS M V22) {H : Heap} {locs : List Loc} {ls : Array Slot} {cells slots : Nat} (hS : va_S (A0 b) s.heap H locs) (hW : Wd Z b M H) (hl : lv_has ls 1 [(0, .ref (b + 0))]) (hcs : cells + 1760 ≤ 5618 ∧ slots + 10560 ≤ 34041) : W p l e rm_L_trees s m args below meth c H locs cells slots (MQ below (QT b) args s 5618 34041 (A0 b)) (F0 m 844 ls []) := by
  have hx := C.1
  have hb := C.2.1
  refine lv_aload_n hx hb dL_trees_844 rfl (lv_at hl 0 rfl) ?_
  refine lv_iconst (v := (2 : Int32)) hx hb dL_trees_845 (by decide) ?_
  refine lv_bipush (v := (22 : Int32)) hx hb dL_trees_846 (by decide) ?_
  refine lv_bipush (v := (21 : Int32)) hx hb dL_trees_848 (by decide) ?_
  refine lv_iconst (v := (0 : Int32)) hx hb dL_trees_850 (by decide) ?_
  have hc : f_L_order M (2 : Int32) (22 : Int32) (21 : Int32) (0 : Int32) = some (1, M) := s_ord h (by decide +kernel)
  refine kL_96 C hml hl.1 (c_L_order hlf hc) ⟨Nat.le_of_ble_eq_true rfl, Nat.le_of_ble_eq_true rfl⟩ ⟨by show _ ≤ 5618; omega, by show _ ≤ 34041; omega⟩ (Nat.le_of_ble_eq_true rfl) hS hW dL_trees_851 (fun H locs hW hS => ?_)
  refine lv_if_eq (tgt := 1017) hx hb dL_trees_854 (by decide) (fun c => absurd c (by decide)) (fun _ => ?_)
  refine lv_aload_n hx hb dL_trees_857 rfl (lv_at hl 0 rfl) ?_
  refine lv_bipush (v := (21 : Int32)) hx hb dL_trees_858 (by decide) ?_
  have hc : f_X4_content M (21 : Int32) = some (.inr (1 : Int32), M) := s_content h (by decide +kernel)
  refine kL_34R C hml hl.1 (c_X4_content hlf hc) ⟨Nat.le_of_ble_eq_true rfl, Nat.le_of_ble_eq_true rfl⟩ ⟨by show _ ≤ 5618; omega, by show _ ≤ 34041; omega⟩ (Nat.le_of_ble_eq_true rfl) hS hW dL_trees_860 (fun H locs hW hS => ?_)
  refine lv_iconst (v := (1 : Int32)) hx hb dL_trees_863 (by decide) ?_
  refine lv_icmp_ne (tgt := 1017) hx hb dL_trees_864 (by decide) (fun c => absurd (by decide) c) (fun _ => ?_)
  refine lv_aload_n hx hb dL_trees_867 rfl (lv_at hl 0 rfl) ?_
  refine lv_iconst (v := (0 : Int32)) hx hb dL_trees_868 (by decide) ?_
  refine lv_bipush (v := (21 : Int32)) hx hb dL_trees_869 (by decide) ?_
  refine lv_iconst (v := (0 : Int32)) hx hb dL_trees_871 (by decide) ?_
  refine lv_iconst (v := (0 : Int32)) hx hb dL_trees_872 (by decide) ?_
  obtain ⟨M1, hc1, h1⟩ := s_restore V23 (0 : Int32) (c := (0 : Int32)) (x := (21 : Int32)) (y := (0 : Int32)) (tks := (0 : Int32)) h (by decide +kernel)
  have hc1 : f_X4_restore M (0 : Int32) (21 : Int32) (0 : Int32) (0 : Int32) = some (.inr (0 : Int32), M1) := hc1
  refine kL_68R C hml hl.1 (c_X4_restore hlf hc1) ⟨Nat.le_of_ble_eq_true rfl, Nat.le_of_ble_eq_true rfl⟩ ⟨by show _ ≤ 5618; omega, by show _ ≤ 34041; omega⟩ (Nat.le_of_ble_eq_true rfl) hS hW dL_trees_873 (fun H locs hW hS => ?_)
  refine lv_if_ne (tgt := 1017) hx hb dL_trees_876 (by decide) (fun c => absurd (by decide) c) (fun _ => ?_)
  refine lv_aload_n hx hb dL_trees_879 rfl (lv_at hl 0 rfl) ?_
  refine lv_bipush (v := (21 : Int32)) hx hb dL_trees_880 (by decide) ?_
  have hc : f_X4_content M1 (21 : Int32) = some (.inr (6 : Int32), M1) := s_content h1 (by decide +kernel)
  refine kL_34R C hml hl.1 (c_X4_content hlf hc) ⟨Nat.le_of_ble_eq_true rfl, Nat.le_of_ble_eq_true rfl⟩ ⟨by show _ ≤ 5618; omega, by show _ ≤ 34041; omega⟩ (Nat.le_of_ble_eq_true rfl) hS hW dL_trees_882 (fun H locs hW hS => ?_)
  refine lv_bipush (v := (6 : Int32)) hx hb dL_trees_885 (by decide) ?_
  refine lv_icmp_ne (tgt := 1017) hx hb dL_trees_887 (by decide) (fun c => absurd (by decide) c) (fun _ => ?_)
  exact t_trees_17 C hml hr hlk hlf h1 hS hW (lv_sub hl [0] rfl) ⟨by omega, by omega⟩
set_option maxHeartbeats 4000000 in
set_option maxRecDepth 100000 in
theorem t_trees_15 {p : Program} {l : Launch} {e : Env} {s : State} {m : MethodId} {args : Array Value} {below : List Frame} {meth : Method} {c : Code} {Z : Zt} {b : Nat} (C : Cx p s m args c cL_trees RL Z b) (hml : c.maxLocals = 1) (hr : meth.sig.returnType = some .boolean) (hlk : meth.locks = false) (hlf : l.stackTraces = false) {M : Mem} (h : RS M V21) {H : Heap} {locs : List Loc} {ls : Array Slot} {cells slots : Nat} (hS : va_S (A0 b) s.heap H locs) (hW : Wd Z b M H) (hl : lv_has ls 1 [(0, .ref (b + 0))]) (hcs : cells + 1782 ≤ 5618 ∧ slots + 10692 ≤ 34041) : W p l e rm_L_trees s m args below meth c H locs cells slots (MQ below (QT b) args s 5618 34041 (A0 b)) (F0 m 791 ls []) := by
  have hx := C.1
  have hb := C.2.1
  refine lv_aload_n hx hb dL_trees_791 rfl (lv_at hl 0 rfl) ?_
  refine lv_bipush (v := (23 : Int32)) hx hb dL_trees_792 (by decide) ?_
  have hc : f_X4_content M (23 : Int32) = some (.inr (1 : Int32), M) := s_content h (by decide +kernel)
  refine kL_34R C hml hl.1 (c_X4_content hlf hc) ⟨Nat.le_of_ble_eq_true rfl, Nat.le_of_ble_eq_true rfl⟩ ⟨by show _ ≤ 5618; omega, by show _ ≤ 34041; omega⟩ (Nat.le_of_ble_eq_true rfl) hS hW dL_trees_794 (fun H locs hW hS => ?_)
  refine lv_iconst (v := (1 : Int32)) hx hb dL_trees_797 (by decide) ?_
  refine lv_icmp_ne (tgt := 1017) hx hb dL_trees_798 (by decide) (fun c => absurd (by decide) c) (fun _ => ?_)
  refine lv_aload_n hx hb dL_trees_801 rfl (lv_at hl 0 rfl) ?_
  refine lv_iconst (v := (2 : Int32)) hx hb dL_trees_802 (by decide) ?_
  refine lv_bipush (v := (21 : Int32)) hx hb dL_trees_803 (by decide) ?_
  refine lv_bipush (v := (22 : Int32)) hx hb dL_trees_805 (by decide) ?_
  refine lv_bipush (v := (23 : Int32)) hx hb dL_trees_807 (by decide) ?_
  have hc : f_L_order M (2 : Int32) (21 : Int32) (22 : Int32) (23 : Int32) = some (1, M) := s_ord h (by decide +kernel)
  refine kL_96 C hml hl.1 (c_L_order hlf hc) ⟨Nat.le_of_ble_eq_true rfl, Nat.le_of_ble_eq_true rfl⟩ ⟨by show _ ≤ 5618; omega, by show _ ≤ 34041; omega⟩ (Nat.le_of_ble_eq_true rfl) hS hW dL_trees_809 (fun H locs hW hS => ?_)
  refine lv_if_eq (tgt := 1017) hx hb dL_trees_812 (by decide) (fun c => absurd c (by decide)) (fun _ => ?_)
  refine lv_aload_n hx hb dL_trees_815 rfl (lv_at hl 0 rfl) ?_
  refine lv_iconst (v := (0 : Int32)) hx hb dL_trees_816 (by decide) ?_
  refine lv_bipush (v := (23 : Int32)) hx hb dL_trees_817 (by decide) ?_
  refine lv_bipush (v := (21 : Int32)) hx hb dL_trees_819 (by decide) ?_
  refine lv_iconst (v := (0 : Int32)) hx hb dL_trees_821 (by decide) ?_
  refine lv_iconst (v := (0 : Int32)) hx hb dL_trees_822 (by decide) ?_
  obtain ⟨M1, hc1, h1⟩ := s_move V21 (2 : Int32) false (c := (0 : Int32)) (x := (23 : Int32)) (y := (21 : Int32)) (tks := (0 : Int32)) h (by decide +kernel)
  have hc1 : f_X4_move M (0 : Int32) (23 : Int32) (21 : Int32) (0 : Int32) (0 : Int32) = some (.inr (2 : Int32), M1) := hc1
  refine kL_28R C hml hl.1 (c_X4_move hlf hc1) ⟨Nat.le_of_ble_eq_true rfl, Nat.le_of_ble_eq_true rfl⟩ ⟨by show _ ≤ 5618; omega, by show _ ≤ 34041; omega⟩ (Nat.le_of_ble_eq_true rfl) hS hW dL_trees_823 (fun H locs hW hS => ?_)
  refine lv_iconst (v := (2 : Int32)) hx hb dL_trees_826 (by decide) ?_
  refine lv_icmp_ne (tgt := 1017) hx hb dL_trees_827 (by decide) (fun c => absurd (by decide) c) (fun _ => ?_)
  refine lv_aload_n hx hb dL_trees_830 rfl (lv_at hl 0 rfl) ?_
  refine lv_iconst (v := (0 : Int32)) hx hb dL_trees_831 (by decide) ?_
  refine lv_bipush (v := (23 : Int32)) hx hb dL_trees_832 (by decide) ?_
  refine lv_bipush (v := (21 : Int32)) hx hb dL_trees_834 (by decide) ?_
  refine lv_iconst (v := (1 : Int32)) hx hb dL_trees_836 (by decide) ?_
  refine lv_iconst (v := (0 : Int32)) hx hb dL_trees_837 (by decide) ?_
  obtain ⟨M2, hc2, h2⟩ := s_move V22 (0 : Int32) true (c := (0 : Int32)) (x := (23 : Int32)) (y := (21 : Int32)) (tks := (0 : Int32)) h1 (by decide +kernel)
  have hc2 : f_X4_move M1 (0 : Int32) (23 : Int32) (21 : Int32) (1 : Int32) (0 : Int32) = some (.inr (0 : Int32), M2) := hc2
  refine kL_28R C hml hl.1 (c_X4_move hlf hc2) ⟨Nat.le_of_ble_eq_true rfl, Nat.le_of_ble_eq_true rfl⟩ ⟨by show _ ≤ 5618; omega, by show _ ≤ 34041; omega⟩ (Nat.le_of_ble_eq_true rfl) hS hW dL_trees_838 (fun H locs hW hS => ?_)
  refine lv_if_ne (tgt := 1017) hx hb dL_trees_841 (by decide) (fun c => absurd (by decide) c) (fun _ => ?_)
  exact t_trees_16 C hml hr hlk hlf h2 hS hW (lv_sub hl [0] rfl) ⟨by omega, by omega⟩
set_option maxHeartbeats 4000000 in
set_option maxRecDepth 100000 in
theorem t_trees_14 {p : Program} {l : Launch} {e : Env} {s : State} {m : MethodId} {args : Array Value} {below : List Frame} {meth : Method} {c : Code} {Z : Zt} {b : Nat} (C : Cx p s m args c cL_trees RL Z b) (hml : c.maxLocals = 1) (hr : meth.sig.returnType = some .boolean) (hlk : meth.locks = false) (hlf : l.stackTraces = false) {M : Mem} (h : RS M V19) {H : Heap} {locs : List Loc} {ls : Array Slot} {cells slots : Nat} (hS : va_S (A0 b) s.heap H locs) (hW : Wd Z b M H) (hl : lv_has ls 1 [(0, .ref (b + 0))]) (hcs : cells + 1795 ≤ 5618 ∧ slots + 10770 ≤ 34041) : W p l e rm_L_trees s m args below meth c H locs cells slots (MQ below (QT b) args s 5618 34041 (A0 b)) (F0 m 744 ls []) := by
  have hx := C.1
  have hb := C.2.1
  refine lv_aload_n hx hb dL_trees_744 rfl (lv_at hl 0 rfl) ?_
  refine lv_iconst (v := (0 : Int32)) hx hb dL_trees_745 (by decide) ?_
  refine lv_bipush (v := (11 : Int32)) hx hb dL_trees_746 (by decide) ?_
  refine lv_bipush (v := (23 : Int32)) hx hb dL_trees_748 (by decide) ?_
  refine lv_iconst (v := (0 : Int32)) hx hb dL_trees_750 (by decide) ?_
  refine lv_iconst (v := (0 : Int32)) hx hb dL_trees_751 (by decide) ?_
  obtain ⟨M1, hc1, h1⟩ := s_move V20 (0 : Int32) false (c := (0 : Int32)) (x := (11 : Int32)) (y := (23 : Int32)) (tks := (0 : Int32)) h (by decide +kernel)
  have hc1 : f_X4_move M (0 : Int32) (11 : Int32) (23 : Int32) (0 : Int32) (0 : Int32) = some (.inr (0 : Int32), M1) := hc1
  refine kL_28R C hml hl.1 (c_X4_move hlf hc1) ⟨Nat.le_of_ble_eq_true rfl, Nat.le_of_ble_eq_true rfl⟩ ⟨by show _ ≤ 5618; omega, by show _ ≤ 34041; omega⟩ (Nat.le_of_ble_eq_true rfl) hS hW dL_trees_752 (fun H locs hW hS => ?_)
  refine lv_if_ne (tgt := 1017) hx hb dL_trees_755 (by decide) (fun c => absurd (by decide) c) (fun _ => ?_)
  refine lv_aload_n hx hb dL_trees_758 rfl (lv_at hl 0 rfl) ?_
  refine lv_bipush (v := (11 : Int32)) hx hb dL_trees_759 (by decide) ?_
  have hc : f_X4_kindOf M1 (11 : Int32) = some (.inr (-1 : Int32), M1) := s_kindOf h1 (by decide +kernel)
  refine kL_31R C hml hl.1 (c_X4_kindOf hlf hc) ⟨Nat.le_of_ble_eq_true rfl, Nat.le_of_ble_eq_true rfl⟩ ⟨by show _ ≤ 5618; omega, by show _ ≤ 34041; omega⟩ (Nat.le_of_ble_eq_true rfl) hS hW dL_trees_761 (fun H locs hW hS => ?_)
  refine lv_iconst (v := (-1 : Int32)) hx hb dL_trees_764 (by decide) ?_
  refine lv_icmp_ne (tgt := 1017) hx hb dL_trees_765 (by decide) (fun c => absurd (by decide) c) (fun _ => ?_)
  refine lv_aload_n hx hb dL_trees_768 rfl (lv_at hl 0 rfl) ?_
  refine lv_bipush (v := (23 : Int32)) hx hb dL_trees_769 (by decide) ?_
  have hc : f_X4_content M1 (23 : Int32) = some (.inr (6 : Int32), M1) := s_content h1 (by decide +kernel)
  refine kL_34R C hml hl.1 (c_X4_content hlf hc) ⟨Nat.le_of_ble_eq_true rfl, Nat.le_of_ble_eq_true rfl⟩ ⟨by show _ ≤ 5618; omega, by show _ ≤ 34041; omega⟩ (Nat.le_of_ble_eq_true rfl) hS hW dL_trees_771 (fun H locs hW hS => ?_)
  refine lv_bipush (v := (6 : Int32)) hx hb dL_trees_774 (by decide) ?_
  refine lv_icmp_ne (tgt := 1017) hx hb dL_trees_776 (by decide) (fun c => absurd (by decide) c) (fun _ => ?_)
  refine lv_aload_n hx hb dL_trees_779 rfl (lv_at hl 0 rfl) ?_
  refine lv_iconst (v := (0 : Int32)) hx hb dL_trees_780 (by decide) ?_
  refine lv_bipush (v := (23 : Int32)) hx hb dL_trees_781 (by decide) ?_
  refine lv_iconst (v := (1 : Int32)) hx hb dL_trees_783 (by decide) ?_
  refine lv_iconst (v := (0 : Int32)) hx hb dL_trees_784 (by decide) ?_
  obtain ⟨M2, hc2, h2⟩ := s_restore V21 (0 : Int32) (c := (0 : Int32)) (x := (23 : Int32)) (y := (1 : Int32)) (tks := (0 : Int32)) h1 (by decide +kernel)
  have hc2 : f_X4_restore M1 (0 : Int32) (23 : Int32) (1 : Int32) (0 : Int32) = some (.inr (0 : Int32), M2) := hc2
  refine kL_68R C hml hl.1 (c_X4_restore hlf hc2) ⟨Nat.le_of_ble_eq_true rfl, Nat.le_of_ble_eq_true rfl⟩ ⟨by show _ ≤ 5618; omega, by show _ ≤ 34041; omega⟩ (Nat.le_of_ble_eq_true rfl) hS hW dL_trees_785 (fun H locs hW hS => ?_)
  refine lv_if_ne (tgt := 1017) hx hb dL_trees_788 (by decide) (fun c => absurd (by decide) c) (fun _ => ?_)
  exact t_trees_15 C hml hr hlk hlf h2 hS hW (lv_sub hl [0] rfl) ⟨by omega, by omega⟩
set_option maxHeartbeats 4000000 in
set_option maxRecDepth 100000 in
theorem t_trees_13 {p : Program} {l : Launch} {e : Env} {s : State} {m : MethodId} {args : Array Value} {below : List Frame} {meth : Method} {c : Code} {Z : Zt} {b : Nat} (C : Cx p s m args c cL_trees RL Z b) (hml : c.maxLocals = 1) (hr : meth.sig.returnType = some .boolean) (hlk : meth.locks = false) (hlf : l.stackTraces = false) {M : Mem} (h : RS M V18) {H : Heap} {locs : List Loc} {ls : Array Slot} {cells slots : Nat} (hS : va_S (A0 b) s.heap H locs) (hW : Wd Z b M H) (hl : lv_has ls 1 [(0, .ref (b + 0))]) (hcs : cells + 1819 ≤ 5618 ∧ slots + 10914 ≤ 34041) : W p l e rm_L_trees s m args below meth c H locs cells slots (MQ below (QT b) args s 5618 34041 (A0 b)) (F0 m 678 ls []) := by
  have hx := C.1
  have hb := C.2.1
  refine lv_aload_n hx hb dL_trees_678 rfl (lv_at hl 0 rfl) ?_
  refine lv_bipush (v := (22 : Int32)) hx hb dL_trees_679 (by decide) ?_
  refine lv_sipush (v := (221 : Int32)) hx hb dL_trees_681 (by decide) ?_
  refine lv_sipush (v := (224 : Int32)) hx hb dL_trees_684 (by decide) ?_
  refine lv_sipush (v := (222 : Int32)) hx hb dL_trees_687 (by decide) ?_
  have hc : f_L_order M (22 : Int32) (221 : Int32) (224 : Int32) (222 : Int32) = some (1, M) := s_ord h (by decide +kernel)
  refine kL_96 C hml hl.1 (c_L_order hlf hc) ⟨Nat.le_of_ble_eq_true rfl, Nat.le_of_ble_eq_true rfl⟩ ⟨by show _ ≤ 5618; omega, by show _ ≤ 34041; omega⟩ (Nat.le_of_ble_eq_true rfl) hS hW dL_trees_690 (fun H locs hW hS => ?_)
  refine lv_if_eq (tgt := 742) hx hb dL_trees_693 (by decide) (fun c => absurd c (by decide)) (fun _ => ?_)
  refine lv_aload_n hx hb dL_trees_696 rfl (lv_at hl 0 rfl) ?_
  refine lv_iconst (v := (0 : Int32)) hx hb dL_trees_697 (by decide) ?_
  refine lv_sipush (v := (221 : Int32)) hx hb dL_trees_698 (by decide) ?_
  refine lv_bipush (v := (99 : Int32)) hx hb dL_trees_701 (by decide) ?_
  refine lv_iconst (v := (0 : Int32)) hx hb dL_trees_703 (by decide) ?_
  obtain ⟨M1, hc1, h1⟩ := s_order V19 (0 : Int32) (c := (0 : Int32)) (x := (221 : Int32)) (y := (99 : Int32)) (tks := (0 : Int32)) h (by decide +kernel)
  have hc1 : f_X4_order M (0 : Int32) (221 : Int32) (99 : Int32) (0 : Int32) = some (.inr (0 : Int32), M1) := hc1
  refine kL_44R C hml hl.1 (c_X4_order hlf hc1) ⟨Nat.le_of_ble_eq_true rfl, Nat.le_of_ble_eq_true rfl⟩ ⟨by show _ ≤ 5618; omega, by show _ ≤ 34041; omega⟩ (Nat.le_of_ble_eq_true rfl) hS hW dL_trees_704 (fun H locs hW hS => ?_)
  refine lv_if_ne (tgt := 742) hx hb dL_trees_707 (by decide) (fun c => absurd (by decide) c) (fun _ => ?_)
  refine lv_aload_n hx hb dL_trees_710 rfl (lv_at hl 0 rfl) ?_
  refine lv_bipush (v := (22 : Int32)) hx hb dL_trees_711 (by decide) ?_
  refine lv_sipush (v := (224 : Int32)) hx hb dL_trees_713 (by decide) ?_
  refine lv_sipush (v := (222 : Int32)) hx hb dL_trees_716 (by decide) ?_
  refine lv_sipush (v := (221 : Int32)) hx hb dL_trees_719 (by decide) ?_
  have hc : f_L_order M1 (22 : Int32) (224 : Int32) (222 : Int32) (221 : Int32) = some (1, M1) := s_ord h1 (by decide +kernel)
  refine kL_96 C hml hl.1 (c_L_order hlf hc) ⟨Nat.le_of_ble_eq_true rfl, Nat.le_of_ble_eq_true rfl⟩ ⟨by show _ ≤ 5618; omega, by show _ ≤ 34041; omega⟩ (Nat.le_of_ble_eq_true rfl) hS hW dL_trees_722 (fun H locs hW hS => ?_)
  refine lv_if_eq (tgt := 742) hx hb dL_trees_725 (by decide) (fun c => absurd c (by decide)) (fun _ => ?_)
  refine lv_aload_n hx hb dL_trees_728 rfl (lv_at hl 0 rfl) ?_
  refine lv_iconst (v := (0 : Int32)) hx hb dL_trees_729 (by decide) ?_
  refine lv_sipush (v := (229 : Int32)) hx hb dL_trees_730 (by decide) ?_
  refine lv_iconst (v := (0 : Int32)) hx hb dL_trees_733 (by decide) ?_
  refine lv_iconst (v := (0 : Int32)) hx hb dL_trees_734 (by decide) ?_
  obtain ⟨M2, hc2, h2⟩ := s_order V19 (1 : Int32) (c := (0 : Int32)) (x := (229 : Int32)) (y := (0 : Int32)) (tks := (0 : Int32)) h1 (by decide +kernel)
  have hc2 : f_X4_order M1 (0 : Int32) (229 : Int32) (0 : Int32) (0 : Int32) = some (.inr (1 : Int32), M2) := hc2
  refine kL_44R C hml hl.1 (c_X4_order hlf hc2) ⟨Nat.le_of_ble_eq_true rfl, Nat.le_of_ble_eq_true rfl⟩ ⟨by show _ ≤ 5618; omega, by show _ ≤ 34041; omega⟩ (Nat.le_of_ble_eq_true rfl) hS hW dL_trees_735 (fun H locs hW hS => ?_)
  refine lv_iconst (v := (1 : Int32)) hx hb dL_trees_738 (by decide) ?_
  refine lv_icmp_eq (tgt := 744) hx hb dL_trees_739 (by decide) (fun _ => ?_) (fun c => absurd (by decide) c)
  exact t_trees_14 C hml hr hlk hlf h2 hS hW (lv_sub hl [0] rfl) ⟨by omega, by omega⟩
set_option maxHeartbeats 4000000 in
set_option maxRecDepth 100000 in
theorem t_trees_12 {p : Program} {l : Launch} {e : Env} {s : State} {m : MethodId} {args : Array Value} {below : List Frame} {meth : Method} {c : Code} {Z : Zt} {b : Nat} (C : Cx p s m args c cL_trees RL Z b) (hml : c.maxLocals = 1) (hr : meth.sig.returnType = some .boolean) (hlk : meth.locks = false) (hlf : l.stackTraces = false) {M : Mem} (h : RS M V17) {H : Heap} {locs : List Loc} {ls : Array Slot} {cells slots : Nat} (hS : va_S (A0 b) s.heap H locs) (hW : Wd Z b M H) (hl : lv_has ls 1 [(0, .ref (b + 0))]) (hcs : cells + 1839 ≤ 5618 ∧ slots + 11034 ≤ 34041) : W p l e rm_L_trees s m args below meth c H locs cells slots (MQ below (QT b) args s 5618 34041 (A0 b)) (F0 m 620 ls []) := by
  have hx := C.1
  have hb := C.2.1
  refine lv_aload_n hx hb dL_trees_620 rfl (lv_at hl 0 rfl) ?_
  refine lv_sipush (v := (2242 : Int32)) hx hb dL_trees_621 (by decide) ?_
  have hc : f_X4_content M (2242 : Int32) = some (.inr (8 : Int32), M) := s_content h (by decide +kernel)
  refine kL_34R C hml hl.1 (c_X4_content hlf hc) ⟨Nat.le_of_ble_eq_true rfl, Nat.le_of_ble_eq_true rfl⟩ ⟨by show _ ≤ 5618; omega, by show _ ≤ 34041; omega⟩ (Nat.le_of_ble_eq_true rfl) hS hW dL_trees_624 (fun H locs hW hS => ?_)
  refine lv_bipush (v := (8 : Int32)) hx hb dL_trees_627 (by decide) ?_
  refine lv_icmp_ne (tgt := 742) hx hb dL_trees_629 (by decide) (fun c => absurd (by decide) c) (fun _ => ?_)
  refine lv_aload_n hx hb dL_trees_632 rfl (lv_at hl 0 rfl) ?_
  refine lv_bipush (v := (22 : Int32)) hx hb dL_trees_633 (by decide) ?_
  refine lv_sipush (v := (221 : Int32)) hx hb dL_trees_635 (by decide) ?_
  refine lv_sipush (v := (222 : Int32)) hx hb dL_trees_638 (by decide) ?_
  refine lv_sipush (v := (224 : Int32)) hx hb dL_trees_641 (by decide) ?_
  have hc : f_L_order M (22 : Int32) (221 : Int32) (222 : Int32) (224 : Int32) = some (1, M) := s_ord h (by decide +kernel)
  refine kL_96 C hml hl.1 (c_L_order hlf hc) ⟨Nat.le_of_ble_eq_true rfl, Nat.le_of_ble_eq_true rfl⟩ ⟨by show _ ≤ 5618; omega, by show _ ≤ 34041; omega⟩ (Nat.le_of_ble_eq_true rfl) hS hW dL_trees_644 (fun H locs hW hS => ?_)
  refine lv_if_eq (tgt := 742) hx hb dL_trees_647 (by decide) (fun c => absurd c (by decide)) (fun _ => ?_)
  refine lv_aload_n hx hb dL_trees_650 rfl (lv_at hl 0 rfl) ?_
  refine lv_iconst (v := (0 : Int32)) hx hb dL_trees_651 (by decide) ?_
  refine lv_iconst (v := (1 : Int32)) hx hb dL_trees_652 (by decide) ?_
  refine lv_sipush (v := (225 : Int32)) hx hb dL_trees_653 (by decide) ?_
  refine lv_iconst (v := (0 : Int32)) hx hb dL_trees_656 (by decide) ?_
  refine lv_iconst (v := (0 : Int32)) hx hb dL_trees_657 (by decide) ?_
  obtain ⟨M1, hc1, h1⟩ := s_copy V17 (1 : Int32) false (c := (0 : Int32)) (x := (1 : Int32)) (y := (225 : Int32)) (tks := (0 : Int32)) h (by decide +kernel)
  have hc1 : f_X4_copy M (0 : Int32) (1 : Int32) (225 : Int32) (0 : Int32) (0 : Int32) = some (.inr (1 : Int32), M1) := hc1
  refine kL_24R C hml hl.1 (c_X4_copy hlf hc1) ⟨Nat.le_of_ble_eq_true rfl, Nat.le_of_ble_eq_true rfl⟩ ⟨by show _ ≤ 5618; omega, by show _ ≤ 34041; omega⟩ (Nat.le_of_ble_eq_true rfl) hS hW dL_trees_658 (fun H locs hW hS => ?_)
  refine lv_iconst (v := (1 : Int32)) hx hb dL_trees_661 (by decide) ?_
  refine lv_icmp_ne (tgt := 742) hx hb dL_trees_662 (by decide) (fun c => absurd (by decide) c) (fun _ => ?_)
  refine lv_aload_n hx hb dL_trees_665 rfl (lv_at hl 0 rfl) ?_
  refine lv_iconst (v := (0 : Int32)) hx hb dL_trees_666 (by decide) ?_
  refine lv_sipush (v := (224 : Int32)) hx hb dL_trees_667 (by decide) ?_
  refine lv_iconst (v := (1 : Int32)) hx hb dL_trees_670 (by decide) ?_
  refine lv_iconst (v := (0 : Int32)) hx hb dL_trees_671 (by decide) ?_
  obtain ⟨M2, hc2, h2⟩ := s_order V18 (0 : Int32) (c := (0 : Int32)) (x := (224 : Int32)) (y := (1 : Int32)) (tks := (0 : Int32)) h1 (by decide +kernel)
  have hc2 : f_X4_order M1 (0 : Int32) (224 : Int32) (1 : Int32) (0 : Int32) = some (.inr (0 : Int32), M2) := hc2
  refine kL_44R C hml hl.1 (c_X4_order hlf hc2) ⟨Nat.le_of_ble_eq_true rfl, Nat.le_of_ble_eq_true rfl⟩ ⟨by show _ ≤ 5618; omega, by show _ ≤ 34041; omega⟩ (Nat.le_of_ble_eq_true rfl) hS hW dL_trees_672 (fun H locs hW hS => ?_)
  refine lv_if_ne (tgt := 742) hx hb dL_trees_675 (by decide) (fun c => absurd (by decide) c) (fun _ => ?_)
  exact t_trees_13 C hml hr hlk hlf h2 hS hW (lv_sub hl [0] rfl) ⟨by omega, by omega⟩
set_option maxHeartbeats 4000000 in
set_option maxRecDepth 100000 in
theorem t_trees_11 {p : Program} {l : Launch} {e : Env} {s : State} {m : MethodId} {args : Array Value} {below : List Frame} {meth : Method} {c : Code} {Z : Zt} {b : Nat} (C : Cx p s m args c cL_trees RL Z b) (hml : c.maxLocals = 1) (hr : meth.sig.returnType = some .boolean) (hlk : meth.locks = false) (hlf : l.stackTraces = false) {M : Mem} (h : RS M V16) {H : Heap} {locs : List Loc} {ls : Array Slot} {cells slots : Nat} (hS : va_S (A0 b) s.heap H locs) (hW : Wd Z b M H) (hl : lv_has ls 1 [(0, .ref (b + 0))]) (hcs : cells + 1860 ≤ 5618 ∧ slots + 11160 ≤ 34041) : W p l e rm_L_trees s m args below meth c H locs cells slots (MQ below (QT b) args s 5618 34041 (A0 b)) (F0 m 578 ls []) := by
  have hx := C.1
  have hb := C.2.1
  refine lv_aload_n hx hb dL_trees_578 rfl (lv_at hl 0 rfl) ?_
  refine lv_iconst (v := (0 : Int32)) hx hb dL_trees_579 (by decide) ?_
  refine lv_iconst (v := (3 : Int32)) hx hb dL_trees_580 (by decide) ?_
  refine lv_iconst (v := (4 : Int32)) hx hb dL_trees_581 (by decide) ?_
  refine lv_iconst (v := (0 : Int32)) hx hb dL_trees_582 (by decide) ?_
  refine lv_iconst (v := (0 : Int32)) hx hb dL_trees_583 (by decide) ?_
  obtain ⟨M1, hc1, h1⟩ := s_copy V16 (1 : Int32) false (c := (0 : Int32)) (x := (3 : Int32)) (y := (4 : Int32)) (tks := (0 : Int32)) h (by decide +kernel)
  have hc1 : f_X4_copy M (0 : Int32) (3 : Int32) (4 : Int32) (0 : Int32) (0 : Int32) = some (.inr (1 : Int32), M1) := hc1
  refine kL_24R C hml hl.1 (c_X4_copy hlf hc1) ⟨Nat.le_of_ble_eq_true rfl, Nat.le_of_ble_eq_true rfl⟩ ⟨by show _ ≤ 5618; omega, by show _ ≤ 34041; omega⟩ (Nat.le_of_ble_eq_true rfl) hS hW dL_trees_584 (fun H locs hW hS => ?_)
  refine lv_iconst (v := (1 : Int32)) hx hb dL_trees_587 (by decide) ?_
  refine lv_icmp_ne (tgt := 742) hx hb dL_trees_588 (by decide) (fun c => absurd (by decide) c) (fun _ => ?_)
  refine lv_aload_n hx hb dL_trees_591 rfl (lv_at hl 0 rfl) ?_
  refine lv_iconst (v := (0 : Int32)) hx hb dL_trees_592 (by decide) ?_
  refine lv_iconst (v := (1 : Int32)) hx hb dL_trees_593 (by decide) ?_
  refine lv_bipush (v := (31 : Int32)) hx hb dL_trees_594 (by decide) ?_
  refine lv_iconst (v := (0 : Int32)) hx hb dL_trees_596 (by decide) ?_
  refine lv_iconst (v := (0 : Int32)) hx hb dL_trees_597 (by decide) ?_
  obtain ⟨M2, hc2, h2⟩ := s_copy V16 (1 : Int32) false (c := (0 : Int32)) (x := (1 : Int32)) (y := (31 : Int32)) (tks := (0 : Int32)) h1 (by decide +kernel)
  have hc2 : f_X4_copy M1 (0 : Int32) (1 : Int32) (31 : Int32) (0 : Int32) (0 : Int32) = some (.inr (1 : Int32), M2) := hc2
  refine kL_24R C hml hl.1 (c_X4_copy hlf hc2) ⟨Nat.le_of_ble_eq_true rfl, Nat.le_of_ble_eq_true rfl⟩ ⟨by show _ ≤ 5618; omega, by show _ ≤ 34041; omega⟩ (Nat.le_of_ble_eq_true rfl) hS hW dL_trees_598 (fun H locs hW hS => ?_)
  refine lv_iconst (v := (1 : Int32)) hx hb dL_trees_601 (by decide) ?_
  refine lv_icmp_ne (tgt := 742) hx hb dL_trees_602 (by decide) (fun c => absurd (by decide) c) (fun _ => ?_)
  refine lv_aload_n hx hb dL_trees_605 rfl (lv_at hl 0 rfl) ?_
  refine lv_iconst (v := (0 : Int32)) hx hb dL_trees_606 (by decide) ?_
  refine lv_bipush (v := (12 : Int32)) hx hb dL_trees_607 (by decide) ?_
  refine lv_sipush (v := (224 : Int32)) hx hb dL_trees_609 (by decide) ?_
  refine lv_iconst (v := (0 : Int32)) hx hb dL_trees_612 (by decide) ?_
  refine lv_iconst (v := (0 : Int32)) hx hb dL_trees_613 (by decide) ?_
  obtain ⟨M3, hc3, h3⟩ := s_copy V17 (0 : Int32) false (c := (0 : Int32)) (x := (12 : Int32)) (y := (224 : Int32)) (tks := (0 : Int32)) h2 (by decide +kernel)
  have hc3 : f_X4_copy M2 (0 : Int32) (12 : Int32) (224 : Int32) (0 : Int32) (0 : Int32) = some (.inr (0 : Int32), M3) := hc3
  refine kL_24R C hml hl.1 (c_X4_copy hlf hc3) ⟨Nat.le_of_ble_eq_true rfl, Nat.le_of_ble_eq_true rfl⟩ ⟨by show _ ≤ 5618; omega, by show _ ≤ 34041; omega⟩ (Nat.le_of_ble_eq_true rfl) hS hW dL_trees_614 (fun H locs hW hS => ?_)
  refine lv_if_ne (tgt := 742) hx hb dL_trees_617 (by decide) (fun c => absurd (by decide) c) (fun _ => ?_)
  exact t_trees_12 C hml hr hlk hlf h3 hS hW (lv_sub hl [0] rfl) ⟨by omega, by omega⟩
set_option maxHeartbeats 4000000 in
set_option maxRecDepth 100000 in
theorem t_trees_10 {p : Program} {l : Launch} {e : Env} {s : State} {m : MethodId} {args : Array Value} {below : List Frame} {meth : Method} {c : Code} {Z : Zt} {b : Nat} (C : Cx p s m args c cL_trees RL Z b) (hml : c.maxLocals = 1) (hr : meth.sig.returnType = some .boolean) (hlk : meth.locks = false) (hlf : l.stackTraces = false) {M : Mem} (h : RS M V16) {H : Heap} {locs : List Loc} {ls : Array Slot} {cells slots : Nat} (hS : va_S (A0 b) s.heap H locs) (hW : Wd Z b M H) (hl : lv_has ls 1 [(0, .ref (b + 0))]) (hcs : cells + 1873 ≤ 5618 ∧ slots + 11238 ≤ 34041) : W p l e rm_L_trees s m args below meth c H locs cells slots (MQ below (QT b) args s 5618 34041 (A0 b)) (F0 m 529 ls []) := by
  have hx := C.1
  have hb := C.2.1
  refine lv_aload_n hx hb dL_trees_529 rfl (lv_at hl 0 rfl) ?_
  refine lv_sipush (v := (221 : Int32)) hx hb dL_trees_530 (by decide) ?_
  have hc : f_X4_content M (221 : Int32) = some (.inr (7 : Int32), M) := s_content h (by decide +kernel)
  refine kL_34R C hml hl.1 (c_X4_content hlf hc) ⟨Nat.le_of_ble_eq_true rfl, Nat.le_of_ble_eq_true rfl⟩ ⟨by show _ ≤ 5618; omega, by show _ ≤ 34041; omega⟩ (Nat.le_of_ble_eq_true rfl) hS hW dL_trees_533 (fun H locs hW hS => ?_)
  refine lv_bipush (v := (7 : Int32)) hx hb dL_trees_536 (by decide) ?_
  refine lv_icmp_ne (tgt := 742) hx hb dL_trees_538 (by decide) (fun c => absurd (by decide) c) (fun _ => ?_)
  refine lv_aload_n hx hb dL_trees_541 rfl (lv_at hl 0 rfl) ?_
  refine lv_bipush (v := (21 : Int32)) hx hb dL_trees_542 (by decide) ?_
  have hc : f_X4_content M (21 : Int32) = some (.inr (6 : Int32), M) := s_content h (by decide +kernel)
  refine kL_34R C hml hl.1 (c_X4_content hlf hc) ⟨Nat.le_of_ble_eq_true rfl, Nat.le_of_ble_eq_true rfl⟩ ⟨by show _ ≤ 5618; omega, by show _ ≤ 34041; omega⟩ (Nat.le_of_ble_eq_true rfl) hS hW dL_trees_544 (fun H locs hW hS => ?_)
  refine lv_bipush (v := (6 : Int32)) hx hb dL_trees_547 (by decide) ?_
  refine lv_icmp_ne (tgt := 742) hx hb dL_trees_549 (by decide) (fun c => absurd (by decide) c) (fun _ => ?_)
  refine lv_aload_n hx hb dL_trees_552 rfl (lv_at hl 0 rfl) ?_
  refine lv_iconst (v := (0 : Int32)) hx hb dL_trees_553 (by decide) ?_
  refine lv_bipush (v := (21 : Int32)) hx hb dL_trees_554 (by decide) ?_
  refine lv_iconst (v := (0 : Int32)) hx hb dL_trees_556 (by decide) ?_
  refine lv_iconst (v := (0 : Int32)) hx hb dL_trees_557 (by decide) ?_
  obtain ⟨M1, hc1, h1⟩ := s_restore V16 (1 : Int32) (c := (0 : Int32)) (x := (21 : Int32)) (y := (0 : Int32)) (tks := (0 : Int32)) h (by decide +kernel)
  have hc1 : f_X4_restore M (0 : Int32) (21 : Int32) (0 : Int32) (0 : Int32) = some (.inr (1 : Int32), M1) := hc1
  refine kL_68R C hml hl.1 (c_X4_restore hlf hc1) ⟨Nat.le_of_ble_eq_true rfl, Nat.le_of_ble_eq_true rfl⟩ ⟨by show _ ≤ 5618; omega, by show _ ≤ 34041; omega⟩ (Nat.le_of_ble_eq_true rfl) hS hW dL_trees_558 (fun H locs hW hS => ?_)
  refine lv_iconst (v := (1 : Int32)) hx hb dL_trees_561 (by decide) ?_
  refine lv_icmp_ne (tgt := 742) hx hb dL_trees_562 (by decide) (fun c => absurd (by decide) c) (fun _ => ?_)
  refine lv_aload_n hx hb dL_trees_565 rfl (lv_at hl 0 rfl) ?_
  refine lv_iconst (v := (0 : Int32)) hx hb dL_trees_566 (by decide) ?_
  refine lv_iconst (v := (1 : Int32)) hx hb dL_trees_567 (by decide) ?_
  refine lv_iconst (v := (2 : Int32)) hx hb dL_trees_568 (by decide) ?_
  refine lv_iconst (v := (0 : Int32)) hx hb dL_trees_569 (by decide) ?_
  refine lv_iconst (v := (0 : Int32)) hx hb dL_trees_570 (by decide) ?_
  obtain ⟨M2, hc2, h2⟩ := s_copy V16 (2 : Int32) false (c := (0 : Int32)) (x := (1 : Int32)) (y := (2 : Int32)) (tks := (0 : Int32)) h1 (by decide +kernel)
  have hc2 : f_X4_copy M1 (0 : Int32) (1 : Int32) (2 : Int32) (0 : Int32) (0 : Int32) = some (.inr (2 : Int32), M2) := hc2
  refine kL_24R C hml hl.1 (c_X4_copy hlf hc2) ⟨Nat.le_of_ble_eq_true rfl, Nat.le_of_ble_eq_true rfl⟩ ⟨by show _ ≤ 5618; omega, by show _ ≤ 34041; omega⟩ (Nat.le_of_ble_eq_true rfl) hS hW dL_trees_571 (fun H locs hW hS => ?_)
  refine lv_iconst (v := (2 : Int32)) hx hb dL_trees_574 (by decide) ?_
  refine lv_icmp_ne (tgt := 742) hx hb dL_trees_575 (by decide) (fun c => absurd (by decide) c) (fun _ => ?_)
  exact t_trees_11 C hml hr hlk hlf h2 hS hW (lv_sub hl [0] rfl) ⟨by omega, by omega⟩
set_option maxHeartbeats 4000000 in
set_option maxRecDepth 100000 in
theorem t_trees_9 {p : Program} {l : Launch} {e : Env} {s : State} {m : MethodId} {args : Array Value} {below : List Frame} {meth : Method} {c : Code} {Z : Zt} {b : Nat} (C : Cx p s m args c cL_trees RL Z b) (hml : c.maxLocals = 1) (hr : meth.sig.returnType = some .boolean) (hlk : meth.locks = false) (hlf : l.stackTraces = false) {M : Mem} (h : RS M V15) {H : Heap} {locs : List Loc} {ls : Array Slot} {cells slots : Nat} (hS : va_S (A0 b) s.heap H locs) (hW : Wd Z b M H) (hl : lv_has ls 1 [(0, .ref (b + 0))]) (hcs : cells + 1894 ≤ 5618 ∧ slots + 11364 ≤ 34041) : W p l e rm_L_trees s m args below meth c H locs cells slots (MQ below (QT b) args s 5618 34041 (A0 b)) (F0 m 479 ls []) := by
  have hx := C.1
  have hb := C.2.1
  refine lv_aload_n hx hb dL_trees_479 rfl (lv_at hl 0 rfl) ?_
  refine lv_iconst (v := (0 : Int32)) hx hb dL_trees_480 (by decide) ?_
  refine lv_iconst (v := (1 : Int32)) hx hb dL_trees_481 (by decide) ?_
  refine lv_iconst (v := (2 : Int32)) hx hb dL_trees_482 (by decide) ?_
  refine lv_iconst (v := (0 : Int32)) hx hb dL_trees_483 (by decide) ?_
  refine lv_iconst (v := (0 : Int32)) hx hb dL_trees_484 (by decide) ?_
  obtain ⟨M1, hc1, h1⟩ := s_copy V16 (0 : Int32) false (c := (0 : Int32)) (x := (1 : Int32)) (y := (2 : Int32)) (tks := (0 : Int32)) h (by decide +kernel)
  have hc1 : f_X4_copy M (0 : Int32) (1 : Int32) (2 : Int32) (0 : Int32) (0 : Int32) = some (.inr (0 : Int32), M1) := hc1
  refine kL_24R C hml hl.1 (c_X4_copy hlf hc1) ⟨Nat.le_of_ble_eq_true rfl, Nat.le_of_ble_eq_true rfl⟩ ⟨by show _ ≤ 5618; omega, by show _ ≤ 34041; omega⟩ (Nat.le_of_ble_eq_true rfl) hS hW dL_trees_485 (fun H locs hW hS => ?_)
  refine lv_if_ne (tgt := 742) hx hb dL_trees_488 (by decide) (fun c => absurd (by decide) c) (fun _ => ?_)
  refine lv_aload_n hx hb dL_trees_491 rfl (lv_at hl 0 rfl) ?_
  have hc : f_X4_resources M1 = some ((10 : Int32), M1) := s_resources h1 (by decide +kernel)
  refine kL_77 C hml hl.1 (c_X4_resources hc) ⟨Nat.le_of_ble_eq_true rfl, Nat.le_of_ble_eq_true rfl⟩ ⟨by show _ ≤ 5618; omega, by show _ ≤ 34041; omega⟩ (Nat.le_of_ble_eq_true rfl) hS hW dL_trees_492 (fun H locs hW hS => ?_)
  refine lv_bipush (v := (10 : Int32)) hx hb dL_trees_495 (by decide) ?_
  refine lv_icmp_ne (tgt := 742) hx hb dL_trees_497 (by decide) (fun c => absurd (by decide) c) (fun _ => ?_)
  refine lv_aload_n hx hb dL_trees_500 rfl (lv_at hl 0 rfl) ?_
  refine lv_iconst (v := (2 : Int32)) hx hb dL_trees_501 (by decide) ?_
  refine lv_bipush (v := (21 : Int32)) hx hb dL_trees_502 (by decide) ?_
  refine lv_bipush (v := (22 : Int32)) hx hb dL_trees_504 (by decide) ?_
  refine lv_iconst (v := (0 : Int32)) hx hb dL_trees_506 (by decide) ?_
  have hc : f_L_order M1 (2 : Int32) (21 : Int32) (22 : Int32) (0 : Int32) = some (1, M1) := s_ord h1 (by decide +kernel)
  refine kL_96 C hml hl.1 (c_L_order hlf hc) ⟨Nat.le_of_ble_eq_true rfl, Nat.le_of_ble_eq_true rfl⟩ ⟨by show _ ≤ 5618; omega, by show _ ≤ 34041; omega⟩ (Nat.le_of_ble_eq_true rfl) hS hW dL_trees_507 (fun H locs hW hS => ?_)
  refine lv_if_eq (tgt := 742) hx hb dL_trees_510 (by decide) (fun c => absurd c (by decide)) (fun _ => ?_)
  refine lv_aload_n hx hb dL_trees_513 rfl (lv_at hl 0 rfl) ?_
  refine lv_bipush (v := (22 : Int32)) hx hb dL_trees_514 (by decide) ?_
  refine lv_sipush (v := (221 : Int32)) hx hb dL_trees_516 (by decide) ?_
  refine lv_sipush (v := (222 : Int32)) hx hb dL_trees_519 (by decide) ?_
  refine lv_iconst (v := (0 : Int32)) hx hb dL_trees_522 (by decide) ?_
  have hc : f_L_order M1 (22 : Int32) (221 : Int32) (222 : Int32) (0 : Int32) = some (1, M1) := s_ord h1 (by decide +kernel)
  refine kL_96 C hml hl.1 (c_L_order hlf hc) ⟨Nat.le_of_ble_eq_true rfl, Nat.le_of_ble_eq_true rfl⟩ ⟨by show _ ≤ 5618; omega, by show _ ≤ 34041; omega⟩ (Nat.le_of_ble_eq_true rfl) hS hW dL_trees_523 (fun H locs hW hS => ?_)
  refine lv_if_eq (tgt := 742) hx hb dL_trees_526 (by decide) (fun c => absurd c (by decide)) (fun _ => ?_)
  exact t_trees_10 C hml hr hlk hlf h1 hS hW (lv_sub hl [0] rfl) ⟨by omega, by omega⟩
set_option maxHeartbeats 4000000 in
set_option maxRecDepth 100000 in
theorem t_trees_8 {p : Program} {l : Launch} {e : Env} {s : State} {m : MethodId} {args : Array Value} {below : List Frame} {meth : Method} {c : Code} {Z : Zt} {b : Nat} (C : Cx p s m args c cL_trees RL Z b) (hml : c.maxLocals = 1) (hr : meth.sig.returnType = some .boolean) (hlk : meth.locks = false) (hlf : l.stackTraces = false) {M : Mem} (h : RS M V15) {H : Heap} {locs : List Loc} {ls : Array Slot} {cells slots : Nat} (hS : va_S (A0 b) s.heap H locs) (hW : Wd Z b M H) (hl : lv_has ls 1 [(0, .ref (b + 0))]) (hcs : cells + 1910 ≤ 5618 ∧ slots + 11460 ≤ 34041) : W p l e rm_L_trees s m args below meth c H locs cells slots (MQ below (QT b) args s 5618 34041 (A0 b)) (F0 m 425 ls []) := by
  have hx := C.1
  have hb := C.2.1
  refine lv_aload_n hx hb dL_trees_425 rfl (lv_at hl 0 rfl) ?_
  refine lv_bipush (v := (11 : Int32)) hx hb dL_trees_426 (by decide) ?_
  have hc : f_X4_content M (11 : Int32) = some (.inr (6 : Int32), M) := s_content h (by decide +kernel)
  refine kL_34R C hml hl.1 (c_X4_content hlf hc) ⟨Nat.le_of_ble_eq_true rfl, Nat.le_of_ble_eq_true rfl⟩ ⟨by show _ ≤ 5618; omega, by show _ ≤ 34041; omega⟩ (Nat.le_of_ble_eq_true rfl) hS hW dL_trees_428 (fun H locs hW hS => ?_)
  refine lv_bipush (v := (6 : Int32)) hx hb dL_trees_431 (by decide) ?_
  refine lv_icmp_ne (tgt := 742) hx hb dL_trees_433 (by decide) (fun c => absurd (by decide) c) (fun _ => ?_)
  refine lv_aload_n hx hb dL_trees_436 rfl (lv_at hl 0 rfl) ?_
  refine lv_iconst (v := (0 : Int32)) hx hb dL_trees_437 (by decide) ?_
  refine lv_bipush (v := (11 : Int32)) hx hb dL_trees_438 (by decide) ?_
  refine lv_iconst (v := (2 : Int32)) hx hb dL_trees_440 (by decide) ?_
  refine lv_iconst (v := (0 : Int32)) hx hb dL_trees_441 (by decide) ?_
  obtain ⟨M1, hc1, h1⟩ := s_restore V15 (1 : Int32) (c := (0 : Int32)) (x := (11 : Int32)) (y := (2 : Int32)) (tks := (0 : Int32)) h (by decide +kernel)
  have hc1 : f_X4_restore M (0 : Int32) (11 : Int32) (2 : Int32) (0 : Int32) = some (.inr (1 : Int32), M1) := hc1
  refine kL_68R C hml hl.1 (c_X4_restore hlf hc1) ⟨Nat.le_of_ble_eq_true rfl, Nat.le_of_ble_eq_true rfl⟩ ⟨by show _ ≤ 5618; omega, by show _ ≤ 34041; omega⟩ (Nat.le_of_ble_eq_true rfl) hS hW dL_trees_442 (fun H locs hW hS => ?_)
  refine lv_iconst (v := (1 : Int32)) hx hb dL_trees_445 (by decide) ?_
  refine lv_icmp_ne (tgt := 742) hx hb dL_trees_446 (by decide) (fun c => absurd (by decide) c) (fun _ => ?_)
  refine lv_aload_n hx hb dL_trees_449 rfl (lv_at hl 0 rfl) ?_
  refine lv_iconst (v := (0 : Int32)) hx hb dL_trees_450 (by decide) ?_
  refine lv_bipush (v := (12 : Int32)) hx hb dL_trees_451 (by decide) ?_
  refine lv_iconst (v := (0 : Int32)) hx hb dL_trees_453 (by decide) ?_
  refine lv_iconst (v := (0 : Int32)) hx hb dL_trees_454 (by decide) ?_
  obtain ⟨M2, hc2, h2⟩ := s_restore V15 (1 : Int32) (c := (0 : Int32)) (x := (12 : Int32)) (y := (0 : Int32)) (tks := (0 : Int32)) h1 (by decide +kernel)
  have hc2 : f_X4_restore M1 (0 : Int32) (12 : Int32) (0 : Int32) (0 : Int32) = some (.inr (1 : Int32), M2) := hc2
  refine kL_68R C hml hl.1 (c_X4_restore hlf hc2) ⟨Nat.le_of_ble_eq_true rfl, Nat.le_of_ble_eq_true rfl⟩ ⟨by show _ ≤ 5618; omega, by show _ ≤ 34041; omega⟩ (Nat.le_of_ble_eq_true rfl) hS hW dL_trees_455 (fun H locs hW hS => ?_)
  refine lv_iconst (v := (1 : Int32)) hx hb dL_trees_458 (by decide) ?_
  refine lv_icmp_ne (tgt := 742) hx hb dL_trees_459 (by decide) (fun c => absurd (by decide) c) (fun _ => ?_)
  refine lv_aload_n hx hb dL_trees_462 rfl (lv_at hl 0 rfl) ?_
  refine lv_bipush (v := (16 : Int32)) hx hb dL_trees_463 (by decide) ?_
  refine lv_bipush (v := (12 : Int32)) hx hb dL_trees_465 (by decide) ?_
  refine lv_iconst (v := (0 : Int32)) hx hb dL_trees_467 (by decide) ?_
  refine lv_iconst (v := (0 : Int32)) hx hb dL_trees_468 (by decide) ?_
  refine lv_iconst (v := (0 : Int32)) hx hb dL_trees_469 (by decide) ?_
  have hc : f_L_act M2 (16 : Int32) (12 : Int32) (0 : Int32) (0 : Int32) (0 : Int32) = some ((-9003 : Int32), M2) := by rw [act_16]; exact hnd_S (s_keepS h2 (by decide +kernel))
  refine kL_85 C hml hl.1 (c_L_act hlf hc) ⟨Nat.le_of_ble_eq_true rfl, Nat.le_of_ble_eq_true rfl⟩ ⟨by show _ ≤ 5618; omega, by show _ ≤ 34041; omega⟩ (Nat.le_of_ble_eq_true rfl) hS hW dL_trees_470 (fun H locs hW hS => ?_)
  refine lv_sipush (v := (-9003 : Int32)) hx hb dL_trees_473 (by decide) ?_
  refine lv_icmp_ne (tgt := 742) hx hb dL_trees_476 (by decide) (fun c => absurd (by decide) c) (fun _ => ?_)
  exact t_trees_9 C hml hr hlk hlf h2 hS hW (lv_sub hl [0] rfl) ⟨by omega, by omega⟩
set_option maxHeartbeats 4000000 in
set_option maxRecDepth 100000 in
theorem t_trees_7 {p : Program} {l : Launch} {e : Env} {s : State} {m : MethodId} {args : Array Value} {below : List Frame} {meth : Method} {c : Code} {Z : Zt} {b : Nat} (C : Cx p s m args c cL_trees RL Z b) (hml : c.maxLocals = 1) (hr : meth.sig.returnType = some .boolean) (hlk : meth.locks = false) (hlf : l.stackTraces = false) {M : Mem} (h : RS M V11) {H : Heap} {locs : List Loc} {ls : Array Slot} {cells slots : Nat} (hS : va_S (A0 b) s.heap H locs) (hW : Wd Z b M H) (hl : lv_has ls 1 [(0, .ref (b + 0))]) (hcs : cells + 3636 ≤ 5618 ∧ slots + 21816 ≤ 34041) : W p l e rm_L_trees s m args below meth c H locs cells slots (MQ below (QT b) args s 5618 34041 (A0 b)) (F0 m 371 ls []) := by
  have hx := C.1
  have hb := C.2.1
  refine lv_aload_n hx hb dL_trees_371 rfl (lv_at hl 0 rfl) ?_
  refine kL_92 C hml hl.1 (c_L_refuses hlf h) ⟨Nat.le_of_ble_eq_true rfl, Nat.le_of_ble_eq_true rfl⟩ ⟨by show _ ≤ 5618; omega, by show _ ≤ 34041; omega⟩ (Nat.le_of_ble_eq_true rfl) hS hW dL_trees_372 (fun H locs hW hS => ?_)
  refine lv_if_ne (tgt := 380) hx hb dL_trees_375 (by decide) (fun _ => ?_) (fun c => absurd c (by decide))
  refine lv_aload_n hx hb dL_trees_380 rfl (lv_at hl 0 rfl) ?_
  refine lv_bipush (v := (11 : Int32)) hx hb dL_trees_381 (by decide) ?_
  obtain ⟨M1, hc1, h1⟩ := s_keep V12 (0 : Int32) (x := (11 : Int32)) h (by decide +kernel)
  have hc1 : f_X4_keep M (11 : Int32) = some (.inr (0 : Int32), M1) := hc1
  refine kL_65R C hml hl.1 (c_X4_keep hlf hc1) ⟨Nat.le_of_ble_eq_true rfl, Nat.le_of_ble_eq_true rfl⟩ ⟨by show _ ≤ 5618; omega, by show _ ≤ 34041; omega⟩ (Nat.le_of_ble_eq_true rfl) hS hW dL_trees_383 (fun H locs hW hS => ?_)
  refine lv_if_ne (tgt := 742) hx hb dL_trees_386 (by decide) (fun c => absurd (by decide) c) (fun _ => ?_)
  refine lv_aload_n hx hb dL_trees_389 rfl (lv_at hl 0 rfl) ?_
  refine lv_iconst (v := (0 : Int32)) hx hb dL_trees_390 (by decide) ?_
  refine lv_bipush (v := (11 : Int32)) hx hb dL_trees_391 (by decide) ?_
  refine lv_iconst (v := (1 : Int32)) hx hb dL_trees_393 (by decide) ?_
  refine lv_bipush (v := (6 : Int32)) hx hb dL_trees_394 (by decide) ?_
  refine lv_iconst (v := (0 : Int32)) hx hb dL_trees_396 (by decide) ?_
  obtain ⟨M2, hc2, h2⟩ := s_put V13 (0 : Int32) (c := (0 : Int32)) (x := (11 : Int32)) (ct := (1 : Int32)) (ex := (6 : Int32)) (tks := (0 : Int32)) h1 (by decide +kernel)
  have hc2 : f_X4_put M1 (0 : Int32) (11 : Int32) (1 : Int32) (6 : Int32) (0 : Int32) = some (.inr (0 : Int32), M2) := hc2
  refine kL_13R C hml hl.1 (c_X4_put hlf hc2) ⟨Nat.le_of_ble_eq_true rfl, Nat.le_of_ble_eq_true rfl⟩ ⟨by show _ ≤ 5618; omega, by show _ ≤ 34041; omega⟩ (Nat.le_of_ble_eq_true rfl) hS hW dL_trees_397 (fun H locs hW hS => ?_)
  refine lv_if_ne (tgt := 742) hx hb dL_trees_400 (by decide) (fun c => absurd (by decide) c) (fun _ => ?_)
  refine lv_aload_n hx hb dL_trees_403 rfl (lv_at hl 0 rfl) ?_
  refine lv_bipush (v := (11 : Int32)) hx hb dL_trees_404 (by decide) ?_
  obtain ⟨M3, hc3, h3⟩ := s_keep V14 (1 : Int32) (x := (11 : Int32)) h2 (by decide +kernel)
  have hc3 : f_X4_keep M2 (11 : Int32) = some (.inr (1 : Int32), M3) := hc3
  refine kL_65R C hml hl.1 (c_X4_keep hlf hc3) ⟨Nat.le_of_ble_eq_true rfl, Nat.le_of_ble_eq_true rfl⟩ ⟨by show _ ≤ 5618; omega, by show _ ≤ 34041; omega⟩ (Nat.le_of_ble_eq_true rfl) hS hW dL_trees_406 (fun H locs hW hS => ?_)
  refine lv_iconst (v := (1 : Int32)) hx hb dL_trees_409 (by decide) ?_
  refine lv_icmp_ne (tgt := 742) hx hb dL_trees_410 (by decide) (fun c => absurd (by decide) c) (fun _ => ?_)
  refine lv_aload_n hx hb dL_trees_413 rfl (lv_at hl 0 rfl) ?_
  refine lv_iconst (v := (0 : Int32)) hx hb dL_trees_414 (by decide) ?_
  refine lv_bipush (v := (11 : Int32)) hx hb dL_trees_415 (by decide) ?_
  refine lv_iconst (v := (0 : Int32)) hx hb dL_trees_417 (by decide) ?_
  refine lv_iconst (v := (0 : Int32)) hx hb dL_trees_418 (by decide) ?_
  obtain ⟨M4, hc4, h4⟩ := s_restore V15 (0 : Int32) (c := (0 : Int32)) (x := (11 : Int32)) (y := (0 : Int32)) (tks := (0 : Int32)) h3 (by decide +kernel)
  have hc4 : f_X4_restore M3 (0 : Int32) (11 : Int32) (0 : Int32) (0 : Int32) = some (.inr (0 : Int32), M4) := hc4
  refine kL_68R C hml hl.1 (c_X4_restore hlf hc4) ⟨Nat.le_of_ble_eq_true rfl, Nat.le_of_ble_eq_true rfl⟩ ⟨by show _ ≤ 5618; omega, by show _ ≤ 34041; omega⟩ (Nat.le_of_ble_eq_true rfl) hS hW dL_trees_419 (fun H locs hW hS => ?_)
  refine lv_if_ne (tgt := 742) hx hb dL_trees_422 (by decide) (fun c => absurd (by decide) c) (fun _ => ?_)
  exact t_trees_8 C hml hr hlk hlf h4 hS hW (lv_sub hl [0] rfl) ⟨by omega, by omega⟩
set_option maxHeartbeats 4000000 in
set_option maxRecDepth 100000 in
theorem t_trees_6 {p : Program} {l : Launch} {e : Env} {s : State} {m : MethodId} {args : Array Value} {below : List Frame} {meth : Method} {c : Code} {Z : Zt} {b : Nat} (C : Cx p s m args c cL_trees RL Z b) (hml : c.maxLocals = 1) (hr : meth.sig.returnType = some .boolean) (hlk : meth.locks = false) (hlf : l.stackTraces = false) {M : Mem} (h : RS M V11) {H : Heap} {locs : List Loc} {ls : Array Slot} {cells slots : Nat} (hS : va_S (A0 b) s.heap H locs) (hW : Wd Z b M H) (hl : lv_has ls 1 [(0, .ref (b + 0))]) (hcs : cells + 3652 ≤ 5618 ∧ slots + 21912 ≤ 34041) : W p l e rm_L_trees s m args below meth c H locs cells slots (MQ below (QT b) args s 5618 34041 (A0 b)) (F0 m 323 ls []) := by
  have hx := C.1
  have hb := C.2.1
  refine lv_aload_n hx hb dL_trees_323 rfl (lv_at hl 0 rfl) ?_
  refine lv_iconst (v := (0 : Int32)) hx hb dL_trees_324 (by decide) ?_
  refine lv_bipush (v := (11 : Int32)) hx hb dL_trees_325 (by decide) ?_
  refine lv_iconst (v := (0 : Int32)) hx hb dL_trees_327 (by decide) ?_
  obtain ⟨M1, hc1, h1⟩ := s_mk V11 (2 : Int32) (c := (0 : Int32)) (x := (11 : Int32)) (tks := (0 : Int32)) h (by decide +kernel)
  have hc1 : f_X4_makeCollection M (0 : Int32) (11 : Int32) (0 : Int32) = some (.inr (2 : Int32), M1) := hc1
  refine kL_7R C hml hl.1 (c_X4_makeCollection hlf hc1) ⟨Nat.le_of_ble_eq_true rfl, Nat.le_of_ble_eq_true rfl⟩ ⟨by show _ ≤ 5618; omega, by show _ ≤ 34041; omega⟩ (Nat.le_of_ble_eq_true rfl) hS hW dL_trees_328 (fun H locs hW hS => ?_)
  refine lv_iconst (v := (2 : Int32)) hx hb dL_trees_331 (by decide) ?_
  refine lv_icmp_ne (tgt := 378) hx hb dL_trees_332 (by decide) (fun c => absurd (by decide) c) (fun _ => ?_)
  refine lv_aload_n hx hb dL_trees_335 rfl (lv_at hl 0 rfl) ?_
  refine lv_iconst (v := (0 : Int32)) hx hb dL_trees_336 (by decide) ?_
  refine lv_bipush (v := (21 : Int32)) hx hb dL_trees_337 (by decide) ?_
  refine lv_iconst (v := (0 : Int32)) hx hb dL_trees_339 (by decide) ?_
  obtain ⟨M2, hc2, h2⟩ := s_mk V11 (1 : Int32) (c := (0 : Int32)) (x := (21 : Int32)) (tks := (0 : Int32)) h1 (by decide +kernel)
  have hc2 : f_X4_makeCollection M1 (0 : Int32) (21 : Int32) (0 : Int32) = some (.inr (1 : Int32), M2) := hc2
  refine kL_7R C hml hl.1 (c_X4_makeCollection hlf hc2) ⟨Nat.le_of_ble_eq_true rfl, Nat.le_of_ble_eq_true rfl⟩ ⟨by show _ ≤ 5618; omega, by show _ ≤ 34041; omega⟩ (Nat.le_of_ble_eq_true rfl) hS hW dL_trees_340 (fun H locs hW hS => ?_)
  refine lv_iconst (v := (1 : Int32)) hx hb dL_trees_343 (by decide) ?_
  refine lv_icmp_ne (tgt := 378) hx hb dL_trees_344 (by decide) (fun c => absurd (by decide) c) (fun _ => ?_)
  refine lv_aload_n hx hb dL_trees_347 rfl (lv_at hl 0 rfl) ?_
  refine lv_iconst (v := (0 : Int32)) hx hb dL_trees_348 (by decide) ?_
  refine lv_bipush (v := (111 : Int32)) hx hb dL_trees_349 (by decide) ?_
  refine lv_iconst (v := (0 : Int32)) hx hb dL_trees_351 (by decide) ?_
  obtain ⟨M3, hc3, h3⟩ := s_mk V11 (1 : Int32) (c := (0 : Int32)) (x := (111 : Int32)) (tks := (0 : Int32)) h2 (by decide +kernel)
  have hc3 : f_X4_makeCollection M2 (0 : Int32) (111 : Int32) (0 : Int32) = some (.inr (1 : Int32), M3) := hc3
  refine kL_7R C hml hl.1 (c_X4_makeCollection hlf hc3) ⟨Nat.le_of_ble_eq_true rfl, Nat.le_of_ble_eq_true rfl⟩ ⟨by show _ ≤ 5618; omega, by show _ ≤ 34041; omega⟩ (Nat.le_of_ble_eq_true rfl) hS hW dL_trees_352 (fun H locs hW hS => ?_)
  refine lv_iconst (v := (1 : Int32)) hx hb dL_trees_355 (by decide) ?_
  refine lv_icmp_ne (tgt := 378) hx hb dL_trees_356 (by decide) (fun c => absurd (by decide) c) (fun _ => ?_)
  refine lv_aload_n hx hb dL_trees_359 rfl (lv_at hl 0 rfl) ?_
  refine lv_iconst (v := (0 : Int32)) hx hb dL_trees_360 (by decide) ?_
  refine lv_bipush (v := (13 : Int32)) hx hb dL_trees_361 (by decide) ?_
  refine lv_iconst (v := (0 : Int32)) hx hb dL_trees_363 (by decide) ?_
  obtain ⟨M4, hc4, h4⟩ := s_delete V11 (1 : Int32) false (c := (0 : Int32)) (x := (13 : Int32)) (tks := (0 : Int32)) h3 (by decide +kernel)
  have hc4 : f_X4_delete M3 (0 : Int32) (13 : Int32) (0 : Int32) = some (.inr (1 : Int32), M4) := hc4
  refine kL_17R C hml hl.1 (c_X4_delete hlf hc4) ⟨Nat.le_of_ble_eq_true rfl, Nat.le_of_ble_eq_true rfl⟩ ⟨by show _ ≤ 5618; omega, by show _ ≤ 34041; omega⟩ (Nat.le_of_ble_eq_true rfl) hS hW dL_trees_364 (fun H locs hW hS => ?_)
  refine lv_iconst (v := (1 : Int32)) hx hb dL_trees_367 (by decide) ?_
  refine lv_icmp_ne (tgt := 378) hx hb dL_trees_368 (by decide) (fun c => absurd (by decide) c) (fun _ => ?_)
  exact t_trees_7 C hml hr hlk hlf h4 hS hW (lv_sub hl [0] rfl) ⟨by omega, by omega⟩
set_option maxHeartbeats 4000000 in
set_option maxRecDepth 100000 in
theorem t_trees_5 {p : Program} {l : Launch} {e : Env} {s : State} {m : MethodId} {args : Array Value} {below : List Frame} {meth : Method} {c : Code} {Z : Zt} {b : Nat} (C : Cx p s m args c cL_trees RL Z b) (hml : c.maxLocals = 1) (hr : meth.sig.returnType = some .boolean) (hlk : meth.locks = false) (hlf : l.stackTraces = false) {M : Mem} (h : RS M V11) {H : Heap} {locs : List Loc} {ls : Array Slot} {cells slots : Nat} (hS : va_S (A0 b) s.heap H locs) (hW : Wd Z b M H) (hl : lv_has ls 1 [(0, .ref (b + 0))]) (hcs : cells + 3671 ≤ 5618 ∧ slots + 22026 ≤ 34041) : W p l e rm_L_trees s m args below meth c H locs cells slots (MQ below (QT b) args s 5618 34041 (A0 b)) (F0 m 270 ls []) := by
  have hx := C.1
  have hb := C.2.1
  refine lv_aload_n hx hb dL_trees_270 rfl (lv_at hl 0 rfl) ?_
  refine lv_bipush (v := (11 : Int32)) hx hb dL_trees_271 (by decide) ?_
  have hc : f_X4_content M (11 : Int32) = some (.inr (6 : Int32), M) := s_content h (by decide +kernel)
  refine kL_34R C hml hl.1 (c_X4_content hlf hc) ⟨Nat.le_of_ble_eq_true rfl, Nat.le_of_ble_eq_true rfl⟩ ⟨by show _ ≤ 5618; omega, by show _ ≤ 34041; omega⟩ (Nat.le_of_ble_eq_true rfl) hS hW dL_trees_273 (fun H locs hW hS => ?_)
  refine lv_bipush (v := (6 : Int32)) hx hb dL_trees_276 (by decide) ?_
  refine lv_icmp_ne (tgt := 378) hx hb dL_trees_278 (by decide) (fun c => absurd (by decide) c) (fun _ => ?_)
  refine lv_aload_n hx hb dL_trees_281 rfl (lv_at hl 0 rfl) ?_
  refine lv_iconst (v := (0 : Int32)) hx hb dL_trees_282 (by decide) ?_
  refine lv_bipush (v := (12 : Int32)) hx hb dL_trees_283 (by decide) ?_
  refine lv_iconst (v := (1 : Int32)) hx hb dL_trees_285 (by decide) ?_
  refine lv_iconst (v := (-1 : Int32)) hx hb dL_trees_286 (by decide) ?_
  refine lv_iconst (v := (0 : Int32)) hx hb dL_trees_287 (by decide) ?_
  obtain ⟨M1, hc1, h1⟩ := s_put V11 (2 : Int32) (c := (0 : Int32)) (x := (12 : Int32)) (ct := (1 : Int32)) (ex := (-1 : Int32)) (tks := (0 : Int32)) h (by decide +kernel)
  have hc1 : f_X4_put M (0 : Int32) (12 : Int32) (1 : Int32) (-1 : Int32) (0 : Int32) = some (.inr (2 : Int32), M1) := hc1
  refine kL_13R C hml hl.1 (c_X4_put hlf hc1) ⟨Nat.le_of_ble_eq_true rfl, Nat.le_of_ble_eq_true rfl⟩ ⟨by show _ ≤ 5618; omega, by show _ ≤ 34041; omega⟩ (Nat.le_of_ble_eq_true rfl) hS hW dL_trees_288 (fun H locs hW hS => ?_)
  refine lv_iconst (v := (2 : Int32)) hx hb dL_trees_291 (by decide) ?_
  refine lv_icmp_ne (tgt := 378) hx hb dL_trees_292 (by decide) (fun c => absurd (by decide) c) (fun _ => ?_)
  refine lv_aload_n hx hb dL_trees_295 rfl (lv_at hl 0 rfl) ?_
  refine lv_iconst (v := (0 : Int32)) hx hb dL_trees_296 (by decide) ?_
  refine lv_bipush (v := (111 : Int32)) hx hb dL_trees_297 (by decide) ?_
  refine lv_iconst (v := (1 : Int32)) hx hb dL_trees_299 (by decide) ?_
  refine lv_iconst (v := (-1 : Int32)) hx hb dL_trees_300 (by decide) ?_
  refine lv_iconst (v := (0 : Int32)) hx hb dL_trees_301 (by decide) ?_
  obtain ⟨M2, hc2, h2⟩ := s_put V11 (1 : Int32) (c := (0 : Int32)) (x := (111 : Int32)) (ct := (1 : Int32)) (ex := (-1 : Int32)) (tks := (0 : Int32)) h1 (by decide +kernel)
  have hc2 : f_X4_put M1 (0 : Int32) (111 : Int32) (1 : Int32) (-1 : Int32) (0 : Int32) = some (.inr (1 : Int32), M2) := hc2
  refine kL_13R C hml hl.1 (c_X4_put hlf hc2) ⟨Nat.le_of_ble_eq_true rfl, Nat.le_of_ble_eq_true rfl⟩ ⟨by show _ ≤ 5618; omega, by show _ ≤ 34041; omega⟩ (Nat.le_of_ble_eq_true rfl) hS hW dL_trees_302 (fun H locs hW hS => ?_)
  refine lv_iconst (v := (1 : Int32)) hx hb dL_trees_305 (by decide) ?_
  refine lv_icmp_ne (tgt := 378) hx hb dL_trees_306 (by decide) (fun c => absurd (by decide) c) (fun _ => ?_)
  refine lv_aload_n hx hb dL_trees_309 rfl (lv_at hl 0 rfl) ?_
  refine lv_iconst (v := (0 : Int32)) hx hb dL_trees_310 (by decide) ?_
  refine lv_bipush (v := (13 : Int32)) hx hb dL_trees_311 (by decide) ?_
  refine lv_iconst (v := (1 : Int32)) hx hb dL_trees_313 (by decide) ?_
  refine lv_iconst (v := (3 : Int32)) hx hb dL_trees_314 (by decide) ?_
  refine lv_iconst (v := (0 : Int32)) hx hb dL_trees_315 (by decide) ?_
  obtain ⟨M3, hc3, h3⟩ := s_put V11 (3 : Int32) (c := (0 : Int32)) (x := (13 : Int32)) (ct := (1 : Int32)) (ex := (3 : Int32)) (tks := (0 : Int32)) h2 (by decide +kernel)
  have hc3 : f_X4_put M2 (0 : Int32) (13 : Int32) (1 : Int32) (3 : Int32) (0 : Int32) = some (.inr (3 : Int32), M3) := hc3
  refine kL_13R C hml hl.1 (c_X4_put hlf hc3) ⟨Nat.le_of_ble_eq_true rfl, Nat.le_of_ble_eq_true rfl⟩ ⟨by show _ ≤ 5618; omega, by show _ ≤ 34041; omega⟩ (Nat.le_of_ble_eq_true rfl) hS hW dL_trees_316 (fun H locs hW hS => ?_)
  refine lv_iconst (v := (3 : Int32)) hx hb dL_trees_319 (by decide) ?_
  refine lv_icmp_ne (tgt := 378) hx hb dL_trees_320 (by decide) (fun c => absurd (by decide) c) (fun _ => ?_)
  exact t_trees_6 C hml hr hlk hlf h3 hS hW (lv_sub hl [0] rfl) ⟨by omega, by omega⟩
set_option maxHeartbeats 4000000 in
set_option maxRecDepth 100000 in
theorem t_trees_4 {p : Program} {l : Launch} {e : Env} {s : State} {m : MethodId} {args : Array Value} {below : List Frame} {meth : Method} {c : Code} {Z : Zt} {b : Nat} (C : Cx p s m args c cL_trees RL Z b) (hml : c.maxLocals = 1) (hr : meth.sig.returnType = some .boolean) (hlk : meth.locks = false) (hlf : l.stackTraces = false) {M : Mem} (h : RS M V10) {H : Heap} {locs : List Loc} {ls : Array Slot} {cells slots : Nat} (hS : va_S (A0 b) s.heap H locs) (hW : Wd Z b M H) (hl : lv_has ls 1 [(0, .ref (b + 0))]) (hcs : cells + 3686 ≤ 5618 ∧ slots + 22116 ≤ 34041) : W p l e rm_L_trees s m args below meth c H locs cells slots (MQ below (QT b) args s 5618 34041 (A0 b)) (F0 m 210 ls []) := by
  have hx := C.1
  have hb := C.2.1
  refine lv_aload_n hx hb dL_trees_210 rfl (lv_at hl 0 rfl) ?_
  refine lv_bipush (v := (121 : Int32)) hx hb dL_trees_211 (by decide) ?_
  have hc : f_X4_content M (121 : Int32) = some (.inr (7 : Int32), M) := s_content h (by decide +kernel)
  refine kL_34R C hml hl.1 (c_X4_content hlf hc) ⟨Nat.le_of_ble_eq_true rfl, Nat.le_of_ble_eq_true rfl⟩ ⟨by show _ ≤ 5618; omega, by show _ ≤ 34041; omega⟩ (Nat.le_of_ble_eq_true rfl) hS hW dL_trees_213 (fun H locs hW hS => ?_)
  refine lv_bipush (v := (7 : Int32)) hx hb dL_trees_216 (by decide) ?_
  refine lv_icmp_ne (tgt := 378) hx hb dL_trees_218 (by decide) (fun c => absurd (by decide) c) (fun _ => ?_)
  refine lv_aload_n hx hb dL_trees_221 rfl (lv_at hl 0 rfl) ?_
  refine lv_bipush (v := (12 : Int32)) hx hb dL_trees_222 (by decide) ?_
  have hc : f_X4_content M (12 : Int32) = some (.inr (-1 : Int32), M) := s_content h (by decide +kernel)
  refine kL_34R C hml hl.1 (c_X4_content hlf hc) ⟨Nat.le_of_ble_eq_true rfl, Nat.le_of_ble_eq_true rfl⟩ ⟨by show _ ≤ 5618; omega, by show _ ≤ 34041; omega⟩ (Nat.le_of_ble_eq_true rfl) hS hW dL_trees_224 (fun H locs hW hS => ?_)
  refine lv_iconst (v := (-1 : Int32)) hx hb dL_trees_227 (by decide) ?_
  refine lv_icmp_ne (tgt := 378) hx hb dL_trees_228 (by decide) (fun c => absurd (by decide) c) (fun _ => ?_)
  refine lv_aload_n hx hb dL_trees_231 rfl (lv_at hl 0 rfl) ?_
  refine lv_bipush (v := (13 : Int32)) hx hb dL_trees_232 (by decide) ?_
  have hc : f_X4_content M (13 : Int32) = some (.inr (-1 : Int32), M) := s_content h (by decide +kernel)
  refine kL_34R C hml hl.1 (c_X4_content hlf hc) ⟨Nat.le_of_ble_eq_true rfl, Nat.le_of_ble_eq_true rfl⟩ ⟨by show _ ≤ 5618; omega, by show _ ≤ 34041; omega⟩ (Nat.le_of_ble_eq_true rfl) hS hW dL_trees_234 (fun H locs hW hS => ?_)
  refine lv_iconst (v := (-1 : Int32)) hx hb dL_trees_237 (by decide) ?_
  refine lv_icmp_ne (tgt := 378) hx hb dL_trees_238 (by decide) (fun c => absurd (by decide) c) (fun _ => ?_)
  refine lv_aload_n hx hb dL_trees_241 rfl (lv_at hl 0 rfl) ?_
  refine lv_iconst (v := (0 : Int32)) hx hb dL_trees_242 (by decide) ?_
  refine lv_bipush (v := (11 : Int32)) hx hb dL_trees_243 (by decide) ?_
  refine lv_bipush (v := (6 : Int32)) hx hb dL_trees_245 (by decide) ?_
  refine lv_iconst (v := (5 : Int32)) hx hb dL_trees_247 (by decide) ?_
  refine lv_iconst (v := (0 : Int32)) hx hb dL_trees_248 (by decide) ?_
  obtain ⟨M1, hc1, h1⟩ := s_put V11 (0 : Int32) (c := (0 : Int32)) (x := (11 : Int32)) (ct := (6 : Int32)) (ex := (5 : Int32)) (tks := (0 : Int32)) h (by decide +kernel)
  have hc1 : f_X4_put M (0 : Int32) (11 : Int32) (6 : Int32) (5 : Int32) (0 : Int32) = some (.inr (0 : Int32), M1) := hc1
  refine kL_13R C hml hl.1 (c_X4_put hlf hc1) ⟨Nat.le_of_ble_eq_true rfl, Nat.le_of_ble_eq_true rfl⟩ ⟨by show _ ≤ 5618; omega, by show _ ≤ 34041; omega⟩ (Nat.le_of_ble_eq_true rfl) hS hW dL_trees_249 (fun H locs hW hS => ?_)
  refine lv_if_ne (tgt := 378) hx hb dL_trees_252 (by decide) (fun c => absurd (by decide) c) (fun _ => ?_)
  refine lv_aload_n hx hb dL_trees_255 rfl (lv_at hl 0 rfl) ?_
  refine lv_iconst (v := (0 : Int32)) hx hb dL_trees_256 (by decide) ?_
  refine lv_bipush (v := (11 : Int32)) hx hb dL_trees_257 (by decide) ?_
  refine lv_bipush (v := (9 : Int32)) hx hb dL_trees_259 (by decide) ?_
  refine lv_iconst (v := (5 : Int32)) hx hb dL_trees_261 (by decide) ?_
  refine lv_iconst (v := (0 : Int32)) hx hb dL_trees_262 (by decide) ?_
  obtain ⟨M2, hc2, h2⟩ := s_put V11 (3 : Int32) (c := (0 : Int32)) (x := (11 : Int32)) (ct := (9 : Int32)) (ex := (5 : Int32)) (tks := (0 : Int32)) h1 (by decide +kernel)
  have hc2 : f_X4_put M1 (0 : Int32) (11 : Int32) (9 : Int32) (5 : Int32) (0 : Int32) = some (.inr (3 : Int32), M2) := hc2
  refine kL_13R C hml hl.1 (c_X4_put hlf hc2) ⟨Nat.le_of_ble_eq_true rfl, Nat.le_of_ble_eq_true rfl⟩ ⟨by show _ ≤ 5618; omega, by show _ ≤ 34041; omega⟩ (Nat.le_of_ble_eq_true rfl) hS hW dL_trees_263 (fun H locs hW hS => ?_)
  refine lv_iconst (v := (3 : Int32)) hx hb dL_trees_266 (by decide) ?_
  refine lv_icmp_ne (tgt := 378) hx hb dL_trees_267 (by decide) (fun c => absurd (by decide) c) (fun _ => ?_)
  exact t_trees_5 C hml hr hlk hlf h2 hS hW (lv_sub hl [0] rfl) ⟨by omega, by omega⟩
set_option maxHeartbeats 4000000 in
set_option maxRecDepth 100000 in
theorem t_trees_3 {p : Program} {l : Launch} {e : Env} {s : State} {m : MethodId} {args : Array Value} {below : List Frame} {meth : Method} {c : Code} {Z : Zt} {b : Nat} (C : Cx p s m args c cL_trees RL Z b) (hml : c.maxLocals = 1) (hr : meth.sig.returnType = some .boolean) (hlk : meth.locks = false) (hlf : l.stackTraces = false) {M : Mem} (h : RS M V9) {H : Heap} {locs : List Loc} {ls : Array Slot} {cells slots : Nat} (hS : va_S (A0 b) s.heap H locs) (hW : Wd Z b M H) (hl : lv_has ls 1 [(0, .ref (b + 0))]) (hcs : cells + 3700 ≤ 5618 ∧ slots + 22200 ≤ 34041) : W p l e rm_L_trees s m args below meth c H locs cells slots (MQ below (QT b) args s 5618 34041 (A0 b)) (F0 m 165 ls []) := by
  have hx := C.1
  have hb := C.2.1
  refine lv_aload_n hx hb dL_trees_165 rfl (lv_at hl 0 rfl) ?_
  refine lv_iconst (v := (0 : Int32)) hx hb dL_trees_166 (by decide) ?_
  refine lv_bipush (v := (11 : Int32)) hx hb dL_trees_167 (by decide) ?_
  refine lv_iconst (v := (0 : Int32)) hx hb dL_trees_169 (by decide) ?_
  refine lv_iconst (v := (0 : Int32)) hx hb dL_trees_170 (by decide) ?_
  obtain ⟨M1, hc1, h1⟩ := s_order V10 (0 : Int32) (c := (0 : Int32)) (x := (11 : Int32)) (y := (0 : Int32)) (tks := (0 : Int32)) h (by decide +kernel)
  have hc1 : f_X4_order M (0 : Int32) (11 : Int32) (0 : Int32) (0 : Int32) = some (.inr (0 : Int32), M1) := hc1
  refine kL_44R C hml hl.1 (c_X4_order hlf hc1) ⟨Nat.le_of_ble_eq_true rfl, Nat.le_of_ble_eq_true rfl⟩ ⟨by show _ ≤ 5618; omega, by show _ ≤ 34041; omega⟩ (Nat.le_of_ble_eq_true rfl) hS hW dL_trees_171 (fun H locs hW hS => ?_)
  refine lv_if_ne (tgt := 378) hx hb dL_trees_174 (by decide) (fun c => absurd (by decide) c) (fun _ => ?_)
  refine lv_aload_n hx hb dL_trees_177 rfl (lv_at hl 0 rfl) ?_
  refine lv_iconst (v := (1 : Int32)) hx hb dL_trees_178 (by decide) ?_
  refine lv_bipush (v := (11 : Int32)) hx hb dL_trees_179 (by decide) ?_
  refine lv_bipush (v := (12 : Int32)) hx hb dL_trees_181 (by decide) ?_
  refine lv_iconst (v := (0 : Int32)) hx hb dL_trees_183 (by decide) ?_
  have hc : f_L_order M1 (1 : Int32) (11 : Int32) (12 : Int32) (0 : Int32) = some (1, M1) := s_ord h1 (by decide +kernel)
  refine kL_96 C hml hl.1 (c_L_order hlf hc) ⟨Nat.le_of_ble_eq_true rfl, Nat.le_of_ble_eq_true rfl⟩ ⟨by show _ ≤ 5618; omega, by show _ ≤ 34041; omega⟩ (Nat.le_of_ble_eq_true rfl) hS hW dL_trees_184 (fun H locs hW hS => ?_)
  refine lv_if_eq (tgt := 378) hx hb dL_trees_187 (by decide) (fun c => absurd c (by decide)) (fun _ => ?_)
  refine lv_aload_n hx hb dL_trees_190 rfl (lv_at hl 0 rfl) ?_
  refine lv_bipush (v := (12 : Int32)) hx hb dL_trees_191 (by decide) ?_
  have hc : f_X4_kindOf M1 (12 : Int32) = some (.inr (2 : Int32), M1) := s_kindOf h1 (by decide +kernel)
  refine kL_31R C hml hl.1 (c_X4_kindOf hlf hc) ⟨Nat.le_of_ble_eq_true rfl, Nat.le_of_ble_eq_true rfl⟩ ⟨by show _ ≤ 5618; omega, by show _ ≤ 34041; omega⟩ (Nat.le_of_ble_eq_true rfl) hS hW dL_trees_193 (fun H locs hW hS => ?_)
  refine lv_iconst (v := (2 : Int32)) hx hb dL_trees_196 (by decide) ?_
  refine lv_icmp_ne (tgt := 378) hx hb dL_trees_197 (by decide) (fun c => absurd (by decide) c) (fun _ => ?_)
  refine lv_aload_n hx hb dL_trees_200 rfl (lv_at hl 0 rfl) ?_
  refine lv_bipush (v := (11 : Int32)) hx hb dL_trees_201 (by decide) ?_
  have hc : f_X4_kindOf M1 (11 : Int32) = some (.inr (1 : Int32), M1) := s_kindOf h1 (by decide +kernel)
  refine kL_31R C hml hl.1 (c_X4_kindOf hlf hc) ⟨Nat.le_of_ble_eq_true rfl, Nat.le_of_ble_eq_true rfl⟩ ⟨by show _ ≤ 5618; omega, by show _ ≤ 34041; omega⟩ (Nat.le_of_ble_eq_true rfl) hS hW dL_trees_203 (fun H locs hW hS => ?_)
  refine lv_iconst (v := (1 : Int32)) hx hb dL_trees_206 (by decide) ?_
  refine lv_icmp_ne (tgt := 378) hx hb dL_trees_207 (by decide) (fun c => absurd (by decide) c) (fun _ => ?_)
  exact t_trees_4 C hml hr hlk hlf h1 hS hW (lv_sub hl [0] rfl) ⟨by omega, by omega⟩
set_option maxHeartbeats 4000000 in
set_option maxRecDepth 100000 in
theorem t_trees_2 {p : Program} {l : Launch} {e : Env} {s : State} {m : MethodId} {args : Array Value} {below : List Frame} {meth : Method} {c : Code} {Z : Zt} {b : Nat} (C : Cx p s m args c cL_trees RL Z b) (hml : c.maxLocals = 1) (hr : meth.sig.returnType = some .boolean) (hlk : meth.locks = false) (hlf : l.stackTraces = false) {M : Mem} (h : RS M V9) {H : Heap} {locs : List Loc} {ls : Array Slot} {cells slots : Nat} (hS : va_S (A0 b) s.heap H locs) (hW : Wd Z b M H) (hl : lv_has ls 1 [(0, .ref (b + 0))]) (hcs : cells + 3721 ≤ 5618 ∧ slots + 22326 ≤ 34041) : W p l e rm_L_trees s m args below meth c H locs cells slots (MQ below (QT b) args s 5618 34041 (A0 b)) (F0 m 119 ls []) := by
  have hx := C.1
  have hb := C.2.1
  refine lv_aload_n hx hb dL_trees_119 rfl (lv_at hl 0 rfl) ?_
  have hc : f_X4_resources M = some ((5 : Int32), M) := s_resources h (by decide +kernel)
  refine kL_77 C hml hl.1 (c_X4_resources hc) ⟨Nat.le_of_ble_eq_true rfl, Nat.le_of_ble_eq_true rfl⟩ ⟨by show _ ≤ 5618; omega, by show _ ≤ 34041; omega⟩ (Nat.le_of_ble_eq_true rfl) hS hW dL_trees_120 (fun H locs hW hS => ?_)
  refine lv_iconst (v := (5 : Int32)) hx hb dL_trees_123 (by decide) ?_
  refine lv_icmp_ne (tgt := 378) hx hb dL_trees_124 (by decide) (fun c => absurd (by decide) c) (fun _ => ?_)
  refine lv_aload_n hx hb dL_trees_127 rfl (lv_at hl 0 rfl) ?_
  refine lv_iconst (v := (1 : Int32)) hx hb dL_trees_128 (by decide) ?_
  refine lv_bipush (v := (12 : Int32)) hx hb dL_trees_129 (by decide) ?_
  refine lv_bipush (v := (11 : Int32)) hx hb dL_trees_131 (by decide) ?_
  refine lv_iconst (v := (0 : Int32)) hx hb dL_trees_133 (by decide) ?_
  have hc : f_L_order M (1 : Int32) (12 : Int32) (11 : Int32) (0 : Int32) = some (1, M) := s_ord h (by decide +kernel)
  refine kL_96 C hml hl.1 (c_L_order hlf hc) ⟨Nat.le_of_ble_eq_true rfl, Nat.le_of_ble_eq_true rfl⟩ ⟨by show _ ≤ 5618; omega, by show _ ≤ 34041; omega⟩ (Nat.le_of_ble_eq_true rfl) hS hW dL_trees_134 (fun H locs hW hS => ?_)
  refine lv_if_eq (tgt := 378) hx hb dL_trees_137 (by decide) (fun c => absurd c (by decide)) (fun _ => ?_)
  refine lv_aload_n hx hb dL_trees_140 rfl (lv_at hl 0 rfl) ?_
  refine lv_bipush (v := (12 : Int32)) hx hb dL_trees_141 (by decide) ?_
  refine lv_bipush (v := (121 : Int32)) hx hb dL_trees_143 (by decide) ?_
  refine lv_bipush (v := (122 : Int32)) hx hb dL_trees_145 (by decide) ?_
  refine lv_iconst (v := (0 : Int32)) hx hb dL_trees_147 (by decide) ?_
  have hc : f_L_order M (12 : Int32) (121 : Int32) (122 : Int32) (0 : Int32) = some (1, M) := s_ord h (by decide +kernel)
  refine kL_96 C hml hl.1 (c_L_order hlf hc) ⟨Nat.le_of_ble_eq_true rfl, Nat.le_of_ble_eq_true rfl⟩ ⟨by show _ ≤ 5618; omega, by show _ ≤ 34041; omega⟩ (Nat.le_of_ble_eq_true rfl) hS hW dL_trees_148 (fun H locs hW hS => ?_)
  refine lv_if_eq (tgt := 378) hx hb dL_trees_151 (by decide) (fun c => absurd c (by decide)) (fun _ => ?_)
  refine lv_aload_n hx hb dL_trees_154 rfl (lv_at hl 0 rfl) ?_
  refine lv_iconst (v := (0 : Int32)) hx hb dL_trees_155 (by decide) ?_
  refine lv_iconst (v := (1 : Int32)) hx hb dL_trees_156 (by decide) ?_
  refine lv_iconst (v := (0 : Int32)) hx hb dL_trees_157 (by decide) ?_
  refine lv_iconst (v := (0 : Int32)) hx hb dL_trees_158 (by decide) ?_
  have hc : f_L_order M (0 : Int32) (1 : Int32) (0 : Int32) (0 : Int32) = some (1, M) := s_ord h (by decide +kernel)
  refine kL_96 C hml hl.1 (c_L_order hlf hc) ⟨Nat.le_of_ble_eq_true rfl, Nat.le_of_ble_eq_true rfl⟩ ⟨by show _ ≤ 5618; omega, by show _ ≤ 34041; omega⟩ (Nat.le_of_ble_eq_true rfl) hS hW dL_trees_159 (fun H locs hW hS => ?_)
  refine lv_if_eq (tgt := 378) hx hb dL_trees_162 (by decide) (fun c => absurd c (by decide)) (fun _ => ?_)
  exact t_trees_3 C hml hr hlk hlf h hS hW (lv_sub hl [0] rfl) ⟨by omega, by omega⟩
set_option maxHeartbeats 4000000 in
set_option maxRecDepth 100000 in
theorem t_trees_1 {p : Program} {l : Launch} {e : Env} {s : State} {m : MethodId} {args : Array Value} {below : List Frame} {meth : Method} {c : Code} {Z : Zt} {b : Nat} (C : Cx p s m args c cL_trees RL Z b) (hml : c.maxLocals = 1) (hr : meth.sig.returnType = some .boolean) (hlk : meth.locks = false) (hlf : l.stackTraces = false) {M : Mem} (h : RS M V1) {H : Heap} {locs : List Loc} {ls : Array Slot} {cells slots : Nat} (hS : va_S (A0 b) s.heap H locs) (hW : Wd Z b M H) (hl : lv_has ls 1 [(0, .ref (b + 0))]) (hcs : cells + 3743 ≤ 5618 ∧ slots + 22458 ≤ 34041) : W p l e rm_L_trees s m args below meth c H locs cells slots (MQ below (QT b) args s 5618 34041 (A0 b)) (F0 m 67 ls []) := by
  have hx := C.1
  have hb := C.2.1
  refine lv_aload_n hx hb dL_trees_67 rfl (lv_at hl 0 rfl) ?_
  refine lv_iconst (v := (3 : Int32)) hx hb dL_trees_68 (by decide) ?_
  refine lv_bipush (v := (12 : Int32)) hx hb dL_trees_69 (by decide) ?_
  refine lv_iconst (v := (0 : Int32)) hx hb dL_trees_71 (by decide) ?_
  obtain ⟨M1, hc1, h1⟩ := s_mk V6 (0 : Int32) (c := (3 : Int32)) (x := (12 : Int32)) (tks := (0 : Int32)) h (by decide +kernel)
  have hc1 : f_X4_makeCollection M (3 : Int32) (12 : Int32) (0 : Int32) = some (.inr (0 : Int32), M1) := hc1
  refine kL_7R C hml hl.1 (c_X4_makeCollection hlf hc1) ⟨Nat.le_of_ble_eq_true rfl, Nat.le_of_ble_eq_true rfl⟩ ⟨by show _ ≤ 5618; omega, by show _ ≤ 34041; omega⟩ (Nat.le_of_ble_eq_true rfl) hS hW dL_trees_72 (fun H locs hW hS => ?_)
  refine lv_if_ne (tgt := 378) hx hb dL_trees_75 (by decide) (fun c => absurd (by decide) c) (fun _ => ?_)
  refine lv_aload_n hx hb dL_trees_78 rfl (lv_at hl 0 rfl) ?_
  refine lv_iconst (v := (0 : Int32)) hx hb dL_trees_79 (by decide) ?_
  refine lv_bipush (v := (121 : Int32)) hx hb dL_trees_80 (by decide) ?_
  refine lv_bipush (v := (7 : Int32)) hx hb dL_trees_82 (by decide) ?_
  refine lv_iconst (v := (-1 : Int32)) hx hb dL_trees_84 (by decide) ?_
  refine lv_iconst (v := (0 : Int32)) hx hb dL_trees_85 (by decide) ?_
  obtain ⟨M2, hc2, h2⟩ := s_put V7 (0 : Int32) (c := (0 : Int32)) (x := (121 : Int32)) (ct := (7 : Int32)) (ex := (-1 : Int32)) (tks := (0 : Int32)) h1 (by decide +kernel)
  have hc2 : f_X4_put M1 (0 : Int32) (121 : Int32) (7 : Int32) (-1 : Int32) (0 : Int32) = some (.inr (0 : Int32), M2) := hc2
  refine kL_13R C hml hl.1 (c_X4_put hlf hc2) ⟨Nat.le_of_ble_eq_true rfl, Nat.le_of_ble_eq_true rfl⟩ ⟨by show _ ≤ 5618; omega, by show _ ≤ 34041; omega⟩ (Nat.le_of_ble_eq_true rfl) hS hW dL_trees_86 (fun H locs hW hS => ?_)
  refine lv_if_ne (tgt := 378) hx hb dL_trees_89 (by decide) (fun c => absurd (by decide) c) (fun _ => ?_)
  refine lv_aload_n hx hb dL_trees_92 rfl (lv_at hl 0 rfl) ?_
  refine lv_iconst (v := (0 : Int32)) hx hb dL_trees_93 (by decide) ?_
  refine lv_bipush (v := (122 : Int32)) hx hb dL_trees_94 (by decide) ?_
  refine lv_bipush (v := (8 : Int32)) hx hb dL_trees_96 (by decide) ?_
  refine lv_iconst (v := (-1 : Int32)) hx hb dL_trees_98 (by decide) ?_
  refine lv_iconst (v := (0 : Int32)) hx hb dL_trees_99 (by decide) ?_
  obtain ⟨M3, hc3, h3⟩ := s_put V8 (0 : Int32) (c := (0 : Int32)) (x := (122 : Int32)) (ct := (8 : Int32)) (ex := (-1 : Int32)) (tks := (0 : Int32)) h2 (by decide +kernel)
  have hc3 : f_X4_put M2 (0 : Int32) (122 : Int32) (8 : Int32) (-1 : Int32) (0 : Int32) = some (.inr (0 : Int32), M3) := hc3
  refine kL_13R C hml hl.1 (c_X4_put hlf hc3) ⟨Nat.le_of_ble_eq_true rfl, Nat.le_of_ble_eq_true rfl⟩ ⟨by show _ ≤ 5618; omega, by show _ ≤ 34041; omega⟩ (Nat.le_of_ble_eq_true rfl) hS hW dL_trees_100 (fun H locs hW hS => ?_)
  refine lv_if_ne (tgt := 378) hx hb dL_trees_103 (by decide) (fun c => absurd (by decide) c) (fun _ => ?_)
  refine lv_aload_n hx hb dL_trees_106 rfl (lv_at hl 0 rfl) ?_
  refine lv_iconst (v := (0 : Int32)) hx hb dL_trees_107 (by decide) ?_
  refine lv_bipush (v := (11 : Int32)) hx hb dL_trees_108 (by decide) ?_
  refine lv_iconst (v := (5 : Int32)) hx hb dL_trees_110 (by decide) ?_
  refine lv_iconst (v := (-1 : Int32)) hx hb dL_trees_111 (by decide) ?_
  refine lv_iconst (v := (0 : Int32)) hx hb dL_trees_112 (by decide) ?_
  obtain ⟨M4, hc4, h4⟩ := s_put V9 (0 : Int32) (c := (0 : Int32)) (x := (11 : Int32)) (ct := (5 : Int32)) (ex := (-1 : Int32)) (tks := (0 : Int32)) h3 (by decide +kernel)
  have hc4 : f_X4_put M3 (0 : Int32) (11 : Int32) (5 : Int32) (-1 : Int32) (0 : Int32) = some (.inr (0 : Int32), M4) := hc4
  refine kL_13R C hml hl.1 (c_X4_put hlf hc4) ⟨Nat.le_of_ble_eq_true rfl, Nat.le_of_ble_eq_true rfl⟩ ⟨by show _ ≤ 5618; omega, by show _ ≤ 34041; omega⟩ (Nat.le_of_ble_eq_true rfl) hS hW dL_trees_113 (fun H locs hW hS => ?_)
  refine lv_if_ne (tgt := 378) hx hb dL_trees_116 (by decide) (fun c => absurd (by decide) c) (fun _ => ?_)
  exact t_trees_2 C hml hr hlk hlf h4 hS hW (lv_sub hl [0] rfl) ⟨by omega, by omega⟩
set_option maxHeartbeats 4000000 in
set_option maxRecDepth 100000 in
theorem t_trees_0 {p : Program} {l : Launch} {e : Env} {s : State} {m : MethodId} {args : Array Value} {below : List Frame} {meth : Method} {c : Code} {Z : Zt} {b : Nat} (C : Cx p s m args c cL_trees RL Z b) (hml : c.maxLocals = 1) (hr : meth.sig.returnType = some .boolean) (hlk : meth.locks = false) (hlf : l.stackTraces = false) {M : Mem} (h : RS M ([], [], 0, [])) {H : Heap} {locs : List Loc} {ls : Array Slot} {cells slots : Nat} (hS : va_S (A0 b) s.heap H locs) (hW : Wd Z b M H) (hl : lv_has ls 1 [(0, .ref (b + 0))]) (hcs : cells + 5462 ≤ 5618 ∧ slots + 32772 ≤ 34041) : W p l e rm_L_trees s m args below meth c H locs cells slots (MQ below (QT b) args s 5618 34041 (A0 b)) (F0 m 8 ls []) := by
  have hx := C.1
  have hb := C.2.1
  refine lv_aload_n hx hb dL_trees_8 rfl (lv_at hl 0 rfl) ?_
  have hc : f_X4_resources M = some ((0 : Int32), M) := s_resources h (by decide +kernel)
  refine kL_77 C hml hl.1 (c_X4_resources hc) ⟨Nat.le_of_ble_eq_true rfl, Nat.le_of_ble_eq_true rfl⟩ ⟨by show _ ≤ 5618; omega, by show _ ≤ 34041; omega⟩ (Nat.le_of_ble_eq_true rfl) hS hW dL_trees_9 (fun H locs hW hS => ?_)
  refine lv_if_ne (tgt := 378) hx hb dL_trees_12 (by decide) (fun c => absurd (by decide) c) (fun _ => ?_)
  refine lv_aload_n hx hb dL_trees_15 rfl (lv_at hl 0 rfl) ?_
  refine lv_iconst (v := (0 : Int32)) hx hb dL_trees_16 (by decide) ?_
  have hc : f_X4_kindOf M (0 : Int32) = some (.inr (2 : Int32), M) := s_kindOf h (by decide +kernel)
  refine kL_31R C hml hl.1 (c_X4_kindOf hlf hc) ⟨Nat.le_of_ble_eq_true rfl, Nat.le_of_ble_eq_true rfl⟩ ⟨by show _ ≤ 5618; omega, by show _ ≤ 34041; omega⟩ (Nat.le_of_ble_eq_true rfl) hS hW dL_trees_17 (fun H locs hW hS => ?_)
  refine lv_iconst (v := (2 : Int32)) hx hb dL_trees_20 (by decide) ?_
  refine lv_icmp_ne (tgt := 378) hx hb dL_trees_21 (by decide) (fun c => absurd (by decide) c) (fun _ => ?_)
  refine lv_aload_n hx hb dL_trees_24 rfl (lv_at hl 0 rfl) ?_
  refine lv_sipush (v := (9999 : Int32)) hx hb dL_trees_25 (by decide) ?_
  have hc : f_X4_kindOf M (9999 : Int32) = some (.inr (-1 : Int32), M) := s_kindOf h (by decide +kernel)
  refine kL_31R C hml hl.1 (c_X4_kindOf hlf hc) ⟨Nat.le_of_ble_eq_true rfl, Nat.le_of_ble_eq_true rfl⟩ ⟨by show _ ≤ 5618; omega, by show _ ≤ 34041; omega⟩ (Nat.le_of_ble_eq_true rfl) hS hW dL_trees_28 (fun H locs hW hS => ?_)
  refine lv_iconst (v := (-1 : Int32)) hx hb dL_trees_31 (by decide) ?_
  refine lv_icmp_ne (tgt := 378) hx hb dL_trees_32 (by decide) (fun c => absurd (by decide) c) (fun _ => ?_)
  refine lv_aload_n hx hb dL_trees_35 rfl (lv_at hl 0 rfl) ?_
  refine lv_iconst (v := (0 : Int32)) hx hb dL_trees_36 (by decide) ?_
  have hc : f_X4_members M (0 : Int32) = some (.inr (0 : Int32), M) := s_members h (by decide +kernel)
  refine kL_37R C hml hl.1 (c_X4_members hlf hc) ⟨Nat.le_of_ble_eq_true rfl, Nat.le_of_ble_eq_true rfl⟩ ⟨by show _ ≤ 5618; omega, by show _ ≤ 34041; omega⟩ (Nat.le_of_ble_eq_true rfl) hS hW dL_trees_37 (fun H locs hW hS => ?_)
  refine lv_if_ne (tgt := 378) hx hb dL_trees_40 (by decide) (fun c => absurd (by decide) c) (fun _ => ?_)
  refine lv_aload_n hx hb dL_trees_43 rfl (lv_at hl 0 rfl) ?_
  have hc : f_X4_failures M = some ((0 : Int32), M) := s_failures h (by decide +kernel)
  refine kL_81 C hml hl.1 (c_X4_failures hc) ⟨Nat.le_of_ble_eq_true rfl, Nat.le_of_ble_eq_true rfl⟩ ⟨by show _ ≤ 5618; omega, by show _ ≤ 34041; omega⟩ (Nat.le_of_ble_eq_true rfl) hS hW dL_trees_44 (fun H locs hW hS => ?_)
  refine lv_if_ne (tgt := 378) hx hb dL_trees_47 (by decide) (fun c => absurd (by decide) c) (fun _ => ?_)
  refine lv_aload_n hx hb dL_trees_50 rfl (lv_at hl 0 rfl) ?_
  refine kL_92 C hml hl.1 (c_L_refuses hlf h) ⟨Nat.le_of_ble_eq_true rfl, Nat.le_of_ble_eq_true rfl⟩ ⟨by show _ ≤ 5618; omega, by show _ ≤ 34041; omega⟩ (Nat.le_of_ble_eq_true rfl) hS hW dL_trees_51 (fun H locs hW hS => ?_)
  refine lv_if_eq (tgt := 378) hx hb dL_trees_54 (by decide) (fun c => absurd c (by decide)) (fun _ => ?_)
  refine lv_aload_n hx hb dL_trees_57 rfl (lv_at hl 0 rfl) ?_
  refine lv_iconst (v := (0 : Int32)) hx hb dL_trees_58 (by decide) ?_
  refine lv_iconst (v := (1 : Int32)) hx hb dL_trees_59 (by decide) ?_
  refine lv_iconst (v := (0 : Int32)) hx hb dL_trees_60 (by decide) ?_
  obtain ⟨M1, hc1, h1⟩ := s_mk V1 (0 : Int32) (c := (0 : Int32)) (x := (1 : Int32)) (tks := (0 : Int32)) h (by decide +kernel)
  have hc1 : f_X4_makeCollection M (0 : Int32) (1 : Int32) (0 : Int32) = some (.inr (0 : Int32), M1) := hc1
  refine kL_7R C hml hl.1 (c_X4_makeCollection hlf hc1) ⟨Nat.le_of_ble_eq_true rfl, Nat.le_of_ble_eq_true rfl⟩ ⟨by show _ ≤ 5618; omega, by show _ ≤ 34041; omega⟩ (Nat.le_of_ble_eq_true rfl) hS hW dL_trees_61 (fun H locs hW hS => ?_)
  refine lv_if_ne (tgt := 378) hx hb dL_trees_64 (by decide) (fun c => absurd (by decide) c) (fun _ => ?_)
  exact t_trees_1 C hml hr hlk hlf h1 hS hW (lv_sub hl [0] rfl) ⟨by omega, by omega⟩
set_option maxHeartbeats 4000000 in
set_option maxRecDepth 100000 in
theorem c_L_trees {l : Launch} (hlf : l.stackTraces = false) {Z : Zt} {b : Nat} : CtT l yL_trees cL_trees 1 rm_L_trees 5618 34041 Z b := by
  refine Met.ofW (cc := cL_trees) (maxL := 1) (ret := (some .boolean)) (by decide) rfl ?_
  intro p e s m args below meth c s₁ B hml hv
  obtain ⟨rfl, hE, hbs⟩ := hv
  have C : Cx p s m ([] : List Value).toArray c cL_trees RL Z b := ⟨B.exec, B.bytes, findClass_of_methodNamed B.named, fun w hw => atoms_spec (ws := Cond.code yL_trees cL_trees 1 (some .boolean) :: wsA) B.pre w (List.mem_cons_of_mem _ hw), hE.1⟩
  have hx := C.1
  have hb := C.2.1
  have hP : Pw Z b 0 (fun _ => srv .null .null .null) s.heap := ⟨by omega, fun k q hq => by obtain ⟨hk, -⟩ := pwl_at hq; omega⟩
  have hl := lv_entry ([] : List Value) (n := 1) (Nat.le_of_ble_eq_true rfl)
  rw [lg_entry_eq]
  generalize (lg_sl ([] : List Value) ++ List.replicate (1 - (lg_sl ([] : List Value)).length) Slot.unset).toArray = ls at hl ⊢
  have hl : lv_has ls 1 [] := hl
  refine nw_obj (ci := 4) (fs := [.null, .null, .null, .int 0]) (C := RX4) (T := TX4) (N := 4) hx hb C.2.2.2.1 inaX4 tyX4 tyX4_ok C.2.2.1 (C.2.2.2.1 _ q54) (C.2.2.2.1 _ q55) (C.2.2.2.1 _ q43) C.2.2.2.2.1 hP va_S.rf rfl (fun j hj => by rcases (show j = 0 ∨ j = 1 ∨ j = 2 ∨ j = 3 by omega) with rfl | rfl | rfl | rfl <;> rfl) (Nat.le_of_ble_eq_true rfl) (Nat.le_of_ble_eq_true rfl) dL_trees_0 (fun H1 hP hS => ?_)
  refine lv_dup hx hb dL_trees_3 rfl ?_
  refine cl_goI (va_runI (As := []) (b := b + 0) ⟨hx, hb, hml, C.2.2.1, C.2.2.2.1⟩ (c_X4_init (vup_s _ _ _)) (cwI 0 C.2.2.2.1 (gN q58) rfl rfl rfl (C.2.2.2.1 _ q43) (C.2.2.2.1 _ q56) (C.2.2.2.1 _ q57) rfl (by decide +kernel) ⟨Nat.le_of_ble_eq_true rfl, Nat.le_of_ble_eq_true rfl⟩) ⟨Prei.blind _ _ _ _ _, fun U hU hWU => ⟨rfl, hE.call hS hU hWU, by rw [hU]; exact hP⟩⟩ rfl rfl hl.1 rfl (lv_room (Nat.le_of_ble_eq_true rfl)) dL_trees_4 ⟨Nat.le_of_ble_eq_true rfl, Nat.le_of_ble_eq_true rfl⟩) hS (fun H1 locs hP hS => ?_)
  refine lv_astore_n (lv' := [(0, .ref (b + 0))]) hx hb dL_trees_7 rfl hl (by decide) rfl (fun ls hl => ?_)
  have hW : Wd Z b M0 H1 := eZ_Wd hP
  exact t_trees_0 C hml B.returns B.notSynchronized hlf RS_0 hS hW hl ⟨by omega, by omega⟩

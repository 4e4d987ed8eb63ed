set_option maxHeartbeats 4000000 in
set_option maxRecDepth 100000 in
theorem t_locks_23 {p : Program} {l : Launch} {e : Env} {s : State} {m : MethodId} {args : Array Value} {below : List Frame} {meth : Method} {c : Code} {Z : Zt} {b : Nat} (C : Cx p s m args c cL_locks RL Z b) (hml : c.maxLocals = 1) (hr : meth.sig.returnType = some .boolean) (hlk : meth.locks = false) (hlf : l.stackTraces = false) {M : Mem} (h : RS M V55) {H : Heap} {locs : List Loc} {ls : Array Slot} {cells slots : Nat} (hS : va_S (A0 b) s.heap H locs) (hW : Wd Z b M H) (hl : lv_has ls 1 [(0, .ref (b + 0))]) (hcs : cells + 1712 ≤ 5662 ∧ slots + 10272 ≤ 34305) : W p l e rm_L_locks s m args below meth c H locs cells slots (MQ below (QT b) args s 5662 34305 (A0 b)) (F0 m 1175 ls []) := by
  have hx := C.1
  have hb := C.2.1
  refine lv_aload_n hx hb dL_locks_1175 rfl (lv_at hl 0 rfl) ?_
  have hc : f_X4_resources M = some ((2 : Int32), M) := s_resources h (by decide +kernel)
  refine kL_77 C hml hl.1 (c_X4_resources hc) ⟨Nat.le_of_ble_eq_true rfl, Nat.le_of_ble_eq_true rfl⟩ ⟨by show _ ≤ 5662; omega, by show _ ≤ 34305; omega⟩ (Nat.le_of_ble_eq_true rfl) hS hW dL_locks_1176 (fun H locs hW hS => ?_)
  refine lv_iconst (v := (2 : Int32)) hx hb dL_locks_1179 (by decide) ?_
  refine lv_icmp_ne (tgt := 1194) hx hb dL_locks_1180 (by decide) (fun c => absurd (by decide) c) (fun _ => ?_)
  refine lv_aload_n hx hb dL_locks_1183 rfl (lv_at hl 0 rfl) ?_
  refine kL_92 C hml hl.1 (c_L_refuses hlf h) ⟨Nat.le_of_ble_eq_true rfl, Nat.le_of_ble_eq_true rfl⟩ ⟨by show _ ≤ 5662; omega, by show _ ≤ 34305; omega⟩ (Nat.le_of_ble_eq_true rfl) hS hW dL_locks_1184 (fun H locs hW hS => ?_)
  refine lv_if_eq (tgt := 1194) hx hb dL_locks_1187 (by decide) (fun c => absurd c (by decide)) (fun _ => ?_)
  refine lv_iconst (v := (1 : Int32)) hx hb dL_locks_1190 (by decide) ?_
  refine lv_goto (tgt := 1195) hx hb dL_locks_1191 (by decide) ?_
  exact ret_T C hr hlk hS dL_locks_1195 (by omega) (by omega)
set_option maxHeartbeats 4000000 in
set_option maxRecDepth 100000 in
theorem t_locks_22 {p : Program} {l : Launch} {e : Env} {s : State} {m : MethodId} {args : Array Value} {below : List Frame} {meth : Method} {c : Code} {Z : Zt} {b : Nat} (C : Cx p s m args c cL_locks RL Z b) (hml : c.maxLocals = 1) (hr : meth.sig.returnType = some .boolean) (hlk : meth.locks = false) (hlf : l.stackTraces = false) {M : Mem} (h : RS M V51) {H : Heap} {locs : List Loc} {ls : Array Slot} {cells slots : Nat} (hS : va_S (A0 b) s.heap H locs) (hW : Wd Z b M H) (hl : lv_has ls 1 [(0, .ref (b + 0))]) (hcs : cells + 1728 ≤ 5662 ∧ slots + 10368 ≤ 34305) : W p l e rm_L_locks s m args below meth c H locs cells slots (MQ below (QT b) args s 5662 34305 (A0 b)) (F0 m 1121 ls []) := by
  have hx := C.1
  have hb := C.2.1
  refine lv_aload_n hx hb dL_locks_1121 rfl (lv_at hl 0 rfl) ?_
  refine lv_iconst (v := (3 : Int32)) hx hb dL_locks_1122 (by decide) ?_
  obtain ⟨M1, hc1, h1⟩ := s_pass V52 (1 : Int32) (x := (3 : Int32)) h (by decide +kernel)
  have hc1 : f_X4_pass M (3 : Int32) = some (.inr (1 : Int32), M1) := hc1
  refine kL_55R C hml hl.1 (c_X4_pass hlf hc1) ⟨Nat.le_of_ble_eq_true rfl, Nat.le_of_ble_eq_true rfl⟩ ⟨by show _ ≤ 5662; omega, by show _ ≤ 34305; omega⟩ (Nat.le_of_ble_eq_true rfl) hS hW dL_locks_1123 (fun H locs hW hS => ?_)
  refine lv_iconst (v := (1 : Int32)) hx hb dL_locks_1126 (by decide) ?_
  refine lv_icmp_eq (tgt := 1132) hx hb dL_locks_1127 (by decide) (fun _ => ?_) (fun c => absurd (by decide) c)
  refine lv_aload_n hx hb dL_locks_1132 rfl (lv_at hl 0 rfl) ?_
  refine lv_sipush (v := (1000 : Int32)) hx hb dL_locks_1133 (by decide) ?_
  obtain ⟨M2, hc2, h2⟩ := s_pass V53 (1 : Int32) (x := (1000 : Int32)) h1 (by decide +kernel)
  have hc2 : f_X4_pass M1 (1000 : Int32) = some (.inr (1 : Int32), M2) := hc2
  refine kL_55R C hml hl.1 (c_X4_pass hlf hc2) ⟨Nat.le_of_ble_eq_true rfl, Nat.le_of_ble_eq_true rfl⟩ ⟨by show _ ≤ 5662; omega, by show _ ≤ 34305; omega⟩ (Nat.le_of_ble_eq_true rfl) hS hW dL_locks_1136 (fun H locs hW hS => ?_)
  refine lv_iconst (v := (1 : Int32)) hx hb dL_locks_1139 (by decide) ?_
  refine lv_icmp_ne (tgt := 1194) hx hb dL_locks_1140 (by decide) (fun c => absurd (by decide) c) (fun _ => ?_)
  refine lv_aload_n hx hb dL_locks_1143 rfl (lv_at hl 0 rfl) ?_
  refine lv_iconst (v := (1 : Int32)) hx hb dL_locks_1144 (by decide) ?_
  have hc : f_X4_covering M2 (1 : Int32) = some (.inr (0 : Int32), M2) := s_covering h2 (by decide +kernel)
  refine kL_58R C hml hl.1 (c_X4_covering hlf hc) ⟨Nat.le_of_ble_eq_true rfl, Nat.le_of_ble_eq_true rfl⟩ ⟨by show _ ≤ 5662; omega, by show _ ≤ 34305; omega⟩ (Nat.le_of_ble_eq_true rfl) hS hW dL_locks_1145 (fun H locs hW hS => ?_)
  refine lv_if_ne (tgt := 1194) hx hb dL_locks_1148 (by decide) (fun c => absurd (by decide) c) (fun _ => ?_)
  refine lv_aload_n hx hb dL_locks_1151 rfl (lv_at hl 0 rfl) ?_
  refine lv_iconst (v := (0 : Int32)) hx hb dL_locks_1152 (by decide) ?_
  refine lv_bipush (v := (19 : Int32)) hx hb dL_locks_1153 (by decide) ?_
  refine lv_bipush (v := (51 : Int32)) hx hb dL_locks_1155 (by decide) ?_
  refine lv_iconst (v := (0 : Int32)) hx hb dL_locks_1157 (by decide) ?_
  refine lv_iconst (v := (0 : Int32)) hx hb dL_locks_1158 (by decide) ?_
  obtain ⟨M3, hc3, h3⟩ := s_move V54 (0 : Int32) false (c := (0 : Int32)) (x := (19 : Int32)) (y := (51 : Int32)) (tks := (0 : Int32)) h2 (by decide +kernel)
  have hc3 : f_X4_move M2 (0 : Int32) (19 : Int32) (51 : Int32) (0 : Int32) (0 : Int32) = some (.inr (0 : Int32), M3) := hc3
  refine kL_28R C hml hl.1 (c_X4_move hlf hc3) ⟨Nat.le_of_ble_eq_true rfl, Nat.le_of_ble_eq_true rfl⟩ ⟨by show _ ≤ 5662; omega, by show _ ≤ 34305; omega⟩ (Nat.le_of_ble_eq_true rfl) hS hW dL_locks_1159 (fun H locs hW hS => ?_)
  refine lv_if_ne (tgt := 1194) hx hb dL_locks_1162 (by decide) (fun c => absurd (by decide) c) (fun _ => ?_)
  refine lv_aload_n hx hb dL_locks_1165 rfl (lv_at hl 0 rfl) ?_
  refine lv_iconst (v := (0 : Int32)) hx hb dL_locks_1166 (by decide) ?_
  refine lv_iconst (v := (1 : Int32)) hx hb dL_locks_1167 (by decide) ?_
  refine lv_iconst (v := (0 : Int32)) hx hb dL_locks_1168 (by decide) ?_
  obtain ⟨M4, hc4, h4⟩ := s_delete V55 (0 : Int32) true (c := (0 : Int32)) (x := (1 : Int32)) (tks := (0 : Int32)) h3 (by decide +kernel)
  have hc4 : f_X4_delete M3 (0 : Int32) (1 : Int32) (0 : Int32) = some (.inr (0 : Int32), M4) := hc4
  refine kL_17R C hml hl.1 (c_X4_delete hlf hc4) ⟨Nat.le_of_ble_eq_true rfl, Nat.le_of_ble_eq_true rfl⟩ ⟨by show _ ≤ 5662; omega, by show _ ≤ 34305; omega⟩ (Nat.le_of_ble_eq_true rfl) hS hW dL_locks_1169 (fun H locs hW hS => ?_)
  refine lv_if_ne (tgt := 1194) hx hb dL_locks_1172 (by decide) (fun c => absurd (by decide) c) (fun _ => ?_)
  exact t_locks_23 C hml hr hlk hlf h4 hS hW (lv_sub hl [0] rfl) ⟨by omega, by omega⟩
set_option maxHeartbeats 4000000 in
set_option maxRecDepth 100000 in
theorem t_locks_21 {p : Program} {l : Launch} {e : Env} {s : State} {m : MethodId} {args : Array Value} {below : List Frame} {meth : Method} {c : Code} {Z : Zt} {b : Nat} (C : Cx p s m args c cL_locks RL Z b) (hml : c.maxLocals = 1) (hr : meth.sig.returnType = some .boolean) (hlk : meth.locks = false) (hlf : l.stackTraces = false) {M : Mem} (h : RS M V49) {H : Heap} {locs : List Loc} {ls : Array Slot} {cells slots : Nat} (hS : va_S (A0 b) s.heap H locs) (hW : Wd Z b M H) (hl : lv_has ls 1 [(0, .ref (b + 0))]) (hcs : cells + 1740 ≤ 5662 ∧ slots + 10440 ≤ 34305) : W p l e rm_L_locks s m args below meth c H locs cells slots (MQ below (QT b) args s 5662 34305 (A0 b)) (F0 m 1066 ls []) := by
  have hx := C.1
  have hb := C.2.1
  refine lv_aload_n hx hb dL_locks_1066 rfl (lv_at hl 0 rfl) ?_
  refine lv_iconst (v := (0 : Int32)) hx hb dL_locks_1067 (by decide) ?_
  have hc : f_X4_covering M (0 : Int32) = some (.inr (384 : Int32), M) := s_covering h (by decide +kernel)
  refine kL_58R C hml hl.1 (c_X4_covering hlf hc) ⟨Nat.le_of_ble_eq_true rfl, Nat.le_of_ble_eq_true rfl⟩ ⟨by show _ ≤ 5662; omega, by show _ ≤ 34305; omega⟩ (Nat.le_of_ble_eq_true rfl) hS hW dL_locks_1068 (fun H locs hW hS => ?_)
  refine lv_sipush (v := (384 : Int32)) hx hb dL_locks_1071 (by decide) ?_
  refine lv_icmp_ne (tgt := 1130) hx hb dL_locks_1074 (by decide) (fun c => absurd (by decide) c) (fun _ => ?_)
  refine lv_aload_n hx hb dL_locks_1077 rfl (lv_at hl 0 rfl) ?_
  refine lv_iconst (v := (5 : Int32)) hx hb dL_locks_1078 (by decide) ?_
  have hc : f_X4_covering M (5 : Int32) = some (.inr (256 : Int32), M) := s_covering h (by decide +kernel)
  refine kL_58R C hml hl.1 (c_X4_covering hlf hc) ⟨Nat.le_of_ble_eq_true rfl, Nat.le_of_ble_eq_true rfl⟩ ⟨by show _ ≤ 5662; omega, by show _ ≤ 34305; omega⟩ (Nat.le_of_ble_eq_true rfl) hS hW dL_locks_1079 (fun H locs hW hS => ?_)
  refine lv_sipush (v := (256 : Int32)) hx hb dL_locks_1082 (by decide) ?_
  refine lv_icmp_ne (tgt := 1130) hx hb dL_locks_1085 (by decide) (fun c => absurd (by decide) c) (fun _ => ?_)
  refine lv_aload_n hx hb dL_locks_1088 rfl (lv_at hl 0 rfl) ?_
  refine lv_iconst (v := (0 : Int32)) hx hb dL_locks_1089 (by decide) ?_
  refine lv_iconst (v := (5 : Int32)) hx hb dL_locks_1090 (by decide) ?_
  refine lv_iconst (v := (0 : Int32)) hx hb dL_locks_1091 (by decide) ?_
  obtain ⟨M1, hc1, h1⟩ := s_mk V49 (4 : Int32) (c := (0 : Int32)) (x := (5 : Int32)) (tks := (0 : Int32)) h (by decide +kernel)
  have hc1 : f_X4_makeCollection M (0 : Int32) (5 : Int32) (0 : Int32) = some (.inr (4 : Int32), M1) := hc1
  refine kL_7R C hml hl.1 (c_X4_makeCollection hlf hc1) ⟨Nat.le_of_ble_eq_true rfl, Nat.le_of_ble_eq_true rfl⟩ ⟨by show _ ≤ 5662; omega, by show _ ≤ 34305; omega⟩ (Nat.le_of_ble_eq_true rfl) hS hW dL_locks_1092 (fun H locs hW hS => ?_)
  refine lv_iconst (v := (4 : Int32)) hx hb dL_locks_1095 (by decide) ?_
  refine lv_icmp_ne (tgt := 1130) hx hb dL_locks_1096 (by decide) (fun c => absurd (by decide) c) (fun _ => ?_)
  refine lv_aload_n hx hb dL_locks_1099 rfl (lv_at hl 0 rfl) ?_
  refine lv_iconst (v := (3 : Int32)) hx hb dL_locks_1100 (by decide) ?_
  refine lv_iconst (v := (5 : Int32)) hx hb dL_locks_1101 (by decide) ?_
  refine lv_sipush (v := (256 : Int32)) hx hb dL_locks_1102 (by decide) ?_
  obtain ⟨M2, hc2, h2⟩ := s_mk V50 (0 : Int32) (c := (3 : Int32)) (x := (5 : Int32)) (tks := (256 : Int32)) h1 (by decide +kernel)
  have hc2 : f_X4_makeCollection M1 (3 : Int32) (5 : Int32) (256 : Int32) = some (.inr (0 : Int32), M2) := hc2
  refine kL_7R C hml hl.1 (c_X4_makeCollection hlf hc2) ⟨Nat.le_of_ble_eq_true rfl, Nat.le_of_ble_eq_true rfl⟩ ⟨by show _ ≤ 5662; omega, by show _ ≤ 34305; omega⟩ (Nat.le_of_ble_eq_true rfl) hS hW dL_locks_1105 (fun H locs hW hS => ?_)
  refine lv_if_ne (tgt := 1130) hx hb dL_locks_1108 (by decide) (fun c => absurd (by decide) c) (fun _ => ?_)
  refine lv_aload_n hx hb dL_locks_1111 rfl (lv_at hl 0 rfl) ?_
  refine lv_bipush (v := (7 : Int32)) hx hb dL_locks_1112 (by decide) ?_
  obtain ⟨M3, hc3, h3⟩ := s_pass V51 (1 : Int32) (x := (7 : Int32)) h2 (by decide +kernel)
  have hc3 : f_X4_pass M2 (7 : Int32) = some (.inr (1 : Int32), M3) := hc3
  refine kL_55R C hml hl.1 (c_X4_pass hlf hc3) ⟨Nat.le_of_ble_eq_true rfl, Nat.le_of_ble_eq_true rfl⟩ ⟨by show _ ≤ 5662; omega, by show _ ≤ 34305; omega⟩ (Nat.le_of_ble_eq_true rfl) hS hW dL_locks_1114 (fun H locs hW hS => ?_)
  refine lv_iconst (v := (1 : Int32)) hx hb dL_locks_1117 (by decide) ?_
  refine lv_icmp_ne (tgt := 1130) hx hb dL_locks_1118 (by decide) (fun c => absurd (by decide) c) (fun _ => ?_)
  exact t_locks_22 C hml hr hlk hlf h3 hS hW (lv_sub hl [0] rfl) ⟨by omega, by omega⟩
set_option maxHeartbeats 4000000 in
set_option maxRecDepth 100000 in
theorem t_locks_20 {p : Program} {l : Launch} {e : Env} {s : State} {m : MethodId} {args : Array Value} {below : List Frame} {meth : Method} {c : Code} {Z : Zt} {b : Nat} (C : Cx p s m args c cL_locks RL Z b) (hml : c.maxLocals = 1) (hr : meth.sig.returnType = some .boolean) (hlk : meth.locks = false) (hlf : l.stackTraces = false) {M : Mem} (h : RS M V47) {H : Heap} {locs : List Loc} {ls : Array Slot} {cells slots : Nat} (hS : va_S (A0 b) s.heap H locs) (hW : Wd Z b M H) (hl : lv_has ls 1 [(0, .ref (b + 0))]) (hcs : cells + 1759 ≤ 5662 ∧ slots + 10554 ≤ 34305) : W p l e rm_L_locks s m args below meth c H locs cells slots (MQ below (QT b) args s 5662 34305 (A0 b)) (F0 m 1010 ls []) := by
  have hx := C.1
  have hb := C.2.1
  refine lv_aload_n hx hb dL_locks_1010 rfl (lv_at hl 0 rfl) ?_
  refine lv_bipush (v := (12 : Int32)) hx hb dL_locks_1011 (by decide) ?_
  refine lv_iconst (v := (2 : Int32)) hx hb dL_locks_1013 (by decide) ?_
  refine lv_bipush (v := (6 : Int32)) hx hb dL_locks_1014 (by decide) ?_
  refine lv_iconst (v := (5 : Int32)) hx hb dL_locks_1016 (by decide) ?_
  refine lv_iconst (v := (0 : Int32)) hx hb dL_locks_1017 (by decide) ?_
  have hc : f_L_act M (12 : Int32) (2 : Int32) (6 : Int32) (5 : Int32) (0 : Int32) = some ((-9001 : Int32), M) := by rw [act_12]; exact hnd_B (s_refreshB h (by decide +kernel))
  refine kL_85 C hml hl.1 (c_L_act hlf hc) ⟨Nat.le_of_ble_eq_true rfl, Nat.le_of_ble_eq_true rfl⟩ ⟨by show _ ≤ 5662; omega, by show _ ≤ 34305; omega⟩ (Nat.le_of_ble_eq_true rfl) hS hW dL_locks_1018 (fun H locs hW hS => ?_)
  refine lv_sipush (v := (-9001 : Int32)) hx hb dL_locks_1021 (by decide) ?_
  refine lv_icmp_ne (tgt := 1130) hx hb dL_locks_1024 (by decide) (fun c => absurd (by decide) c) (fun _ => ?_)
  refine lv_aload_n hx hb dL_locks_1027 rfl (lv_at hl 0 rfl) ?_
  have hc : f_X4_resources M = some ((3 : Int32), M) := s_resources h (by decide +kernel)
  refine kL_77 C hml hl.1 (c_X4_resources hc) ⟨Nat.le_of_ble_eq_true rfl, Nat.le_of_ble_eq_true rfl⟩ ⟨by show _ ≤ 5662; omega, by show _ ≤ 34305; omega⟩ (Nat.le_of_ble_eq_true rfl) hS hW dL_locks_1028 (fun H locs hW hS => ?_)
  refine lv_iconst (v := (3 : Int32)) hx hb dL_locks_1031 (by decide) ?_
  refine lv_icmp_ne (tgt := 1130) hx hb dL_locks_1032 (by decide) (fun c => absurd (by decide) c) (fun _ => ?_)
  refine lv_aload_n hx hb dL_locks_1035 rfl (lv_at hl 0 rfl) ?_
  refine lv_iconst (v := (3 : Int32)) hx hb dL_locks_1036 (by decide) ?_
  refine lv_iconst (v := (0 : Int32)) hx hb dL_locks_1037 (by decide) ?_
  refine lv_iconst (v := (1 : Int32)) hx hb dL_locks_1038 (by decide) ?_
  refine lv_iconst (v := (0 : Int32)) hx hb dL_locks_1039 (by decide) ?_
  refine lv_bipush (v := (7 : Int32)) hx hb dL_locks_1040 (by decide) ?_
  refine lv_iconst (v := (0 : Int32)) hx hb dL_locks_1042 (by decide) ?_
  obtain ⟨M1, hc1, h1⟩ := s_lock V48 (7 : Int32) true false (c := (3 : Int32)) (x := (0 : Int32)) (y := (7 : Int32)) (tks := (0 : Int32)) h (by decide +kernel)
  have hc1 : f_X4_lock M (3 : Int32) (0 : Int32) (1 : Int32) (0 : Int32) (7 : Int32) (0 : Int32) = some (.inr (7 : Int32), M1) := hc1
  refine kL_48R C hml hl.1 (c_X4_lock hlf hc1) ⟨Nat.le_of_ble_eq_true rfl, Nat.le_of_ble_eq_true rfl⟩ ⟨by show _ ≤ 5662; omega, by show _ ≤ 34305; omega⟩ (Nat.le_of_ble_eq_true rfl) hS hW dL_locks_1043 (fun H locs hW hS => ?_)
  refine lv_bipush (v := (7 : Int32)) hx hb dL_locks_1046 (by decide) ?_
  refine lv_icmp_ne (tgt := 1130) hx hb dL_locks_1048 (by decide) (fun c => absurd (by decide) c) (fun _ => ?_)
  refine lv_aload_n hx hb dL_locks_1051 rfl (lv_at hl 0 rfl) ?_
  refine lv_bipush (v := (19 : Int32)) hx hb dL_locks_1052 (by decide) ?_
  refine lv_iconst (v := (3 : Int32)) hx hb dL_locks_1054 (by decide) ?_
  refine lv_iconst (v := (0 : Int32)) hx hb dL_locks_1055 (by decide) ?_
  refine lv_iconst (v := (1 : Int32)) hx hb dL_locks_1056 (by decide) ?_
  refine lv_iconst (v := (0 : Int32)) hx hb dL_locks_1057 (by decide) ?_
  obtain ⟨M2, hd2, h2⟩ := s_lock V49 (8 : Int32) true true (c := (3 : Int32)) (x := (0 : Int32)) (y := (10 : Int32)) (tks := (0 : Int32)) h1 (by decide +kernel)
  have hc : f_L_act M1 (19 : Int32) (3 : Int32) (0 : Int32) (1 : Int32) (0 : Int32) = some ((8 : Int32), M2) := by rw [act_19, if_pos rfl]; exact hnd_r hd2
  refine kL_85 C hml hl.1 (c_L_act hlf hc) ⟨Nat.le_of_ble_eq_true rfl, Nat.le_of_ble_eq_true rfl⟩ ⟨by show _ ≤ 5662; omega, by show _ ≤ 34305; omega⟩ (Nat.le_of_ble_eq_true rfl) hS hW dL_locks_1058 (fun H locs hW hS => ?_)
  refine lv_bipush (v := (8 : Int32)) hx hb dL_locks_1061 (by decide) ?_
  refine lv_icmp_ne (tgt := 1130) hx hb dL_locks_1063 (by decide) (fun c => absurd (by decide) c) (fun _ => ?_)
  exact t_locks_21 C hml hr hlk hlf h2 hS hW (lv_sub hl [0] rfl) ⟨by omega, by omega⟩
set_option maxHeartbeats 4000000 in
set_option maxRecDepth 100000 in
theorem t_locks_19 {p : Program} {l : Launch} {e : Env} {s : State} {m : MethodId} {args : Array Value} {below : List Frame} {meth : Method} {c : Code} {Z : Zt} {b : Nat} (C : Cx p s m args c cL_locks RL Z b) (hml : c.maxLocals = 1) (hr : meth.sig.returnType = some .boolean) (hlk : meth.locks = false) (hlf : l.stackTraces = false) {M : Mem} (h : RS M V45) {H : Heap} {locs : List Loc} {ls : Array Slot} {cells slots : Nat} (hS : va_S (A0 b) s.heap H locs) (hW : Wd Z b M H) (hl : lv_has ls 1 [(0, .ref (b + 0))]) (hcs : cells + 1775 ≤ 5662 ∧ slots + 10650 ≤ 34305) : W p l e rm_L_locks s m args below meth c H locs cells slots (MQ below (QT b) args s 5662 34305 (A0 b)) (F0 m 960 ls []) := by
  have hx := C.1
  have hb := C.2.1
  refine lv_aload_n hx hb dL_locks_960 rfl (lv_at hl 0 rfl) ?_
  refine lv_iconst (v := (1 : Int32)) hx hb dL_locks_961 (by decide) ?_
  refine lv_iconst (v := (2 : Int32)) hx hb dL_locks_962 (by decide) ?_
  refine lv_bipush (v := (19 : Int32)) hx hb dL_locks_963 (by decide) ?_
  refine lv_iconst (v := (0 : Int32)) hx hb dL_locks_965 (by decide) ?_
  refine lv_bipush (v := (32 : Int32)) hx hb dL_locks_966 (by decide) ?_
  obtain ⟨M1, hc1, h1⟩ := s_move V46 (0 : Int32) false (c := (1 : Int32)) (x := (2 : Int32)) (y := (19 : Int32)) (tks := (32 : Int32)) h (by decide +kernel)
  have hc1 : f_X4_move M (1 : Int32) (2 : Int32) (19 : Int32) (0 : Int32) (32 : Int32) = some (.inr (0 : Int32), M1) := hc1
  refine kL_28R C hml hl.1 (c_X4_move hlf hc1) ⟨Nat.le_of_ble_eq_true rfl, Nat.le_of_ble_eq_true rfl⟩ ⟨by show _ ≤ 5662; omega, by show _ ≤ 34305; omega⟩ (Nat.le_of_ble_eq_true rfl) hS hW dL_locks_968 (fun H locs hW hS => ?_)
  refine lv_if_ne (tgt := 1130) hx hb dL_locks_971 (by decide) (fun c => absurd (by decide) c) (fun _ => ?_)
  refine lv_aload_n hx hb dL_locks_974 rfl (lv_at hl 0 rfl) ?_
  refine lv_iconst (v := (2 : Int32)) hx hb dL_locks_975 (by decide) ?_
  refine lv_bipush (v := (12 : Int32)) hx hb dL_locks_976 (by decide) ?_
  refine lv_bipush (v := (64 : Int32)) hx hb dL_locks_978 (by decide) ?_
  obtain ⟨M2, hc2, h2⟩ := s_delete V46 (4 : Int32) false (c := (2 : Int32)) (x := (12 : Int32)) (tks := (64 : Int32)) h1 (by decide +kernel)
  have hc2 : f_X4_delete M1 (2 : Int32) (12 : Int32) (64 : Int32) = some (.inr (4 : Int32), M2) := hc2
  refine kL_17R C hml hl.1 (c_X4_delete hlf hc2) ⟨Nat.le_of_ble_eq_true rfl, Nat.le_of_ble_eq_true rfl⟩ ⟨by show _ ≤ 5662; omega, by show _ ≤ 34305; omega⟩ (Nat.le_of_ble_eq_true rfl) hS hW dL_locks_980 (fun H locs hW hS => ?_)
  refine lv_iconst (v := (4 : Int32)) hx hb dL_locks_983 (by decide) ?_
  refine lv_icmp_ne (tgt := 1130) hx hb dL_locks_984 (by decide) (fun c => absurd (by decide) c) (fun _ => ?_)
  refine lv_aload_n hx hb dL_locks_987 rfl (lv_at hl 0 rfl) ?_
  refine lv_iconst (v := (1 : Int32)) hx hb dL_locks_988 (by decide) ?_
  refine lv_bipush (v := (12 : Int32)) hx hb dL_locks_989 (by decide) ?_
  refine lv_bipush (v := (32 : Int32)) hx hb dL_locks_991 (by decide) ?_
  obtain ⟨M3, hc3, h3⟩ := s_delete V47 (0 : Int32) true (c := (1 : Int32)) (x := (12 : Int32)) (tks := (32 : Int32)) h2 (by decide +kernel)
  have hc3 : f_X4_delete M2 (1 : Int32) (12 : Int32) (32 : Int32) = some (.inr (0 : Int32), M3) := hc3
  refine kL_17R C hml hl.1 (c_X4_delete hlf hc3) ⟨Nat.le_of_ble_eq_true rfl, Nat.le_of_ble_eq_true rfl⟩ ⟨by show _ ≤ 5662; omega, by show _ ≤ 34305; omega⟩ (Nat.le_of_ble_eq_true rfl) hS hW dL_locks_993 (fun H locs hW hS => ?_)
  refine lv_if_ne (tgt := 1130) hx hb dL_locks_996 (by decide) (fun c => absurd (by decide) c) (fun _ => ?_)
  refine lv_aload_n hx hb dL_locks_999 rfl (lv_at hl 0 rfl) ?_
  refine lv_bipush (v := (12 : Int32)) hx hb dL_locks_1000 (by decide) ?_
  have hc : f_X4_covering M3 (12 : Int32) = some (.inr (32 : Int32), M3) := s_covering h3 (by decide +kernel)
  refine kL_58R C hml hl.1 (c_X4_covering hlf hc) ⟨Nat.le_of_ble_eq_true rfl, Nat.le_of_ble_eq_true rfl⟩ ⟨by show _ ≤ 5662; omega, by show _ ≤ 34305; omega⟩ (Nat.le_of_ble_eq_true rfl) hS hW dL_locks_1002 (fun H locs hW hS => ?_)
  refine lv_bipush (v := (32 : Int32)) hx hb dL_locks_1005 (by decide) ?_
  refine lv_icmp_ne (tgt := 1130) hx hb dL_locks_1007 (by decide) (fun c => absurd (by decide) c) (fun _ => ?_)
  exact t_locks_20 C hml hr hlk hlf h3 hS hW (lv_sub hl [0] rfl) ⟨by omega, by omega⟩
set_option maxHeartbeats 4000000 in
set_option maxRecDepth 100000 in
theorem t_locks_18 {p : Program} {l : Launch} {e : Env} {s : State} {m : MethodId} {args : Array Value} {below : List Frame} {meth : Method} {c : Code} {Z : Zt} {b : Nat} (C : Cx p s m args c cL_locks RL Z b) (hml : c.maxLocals = 1) (hr : meth.sig.returnType = some .boolean) (hlk : meth.locks = false) (hlf : l.stackTraces = false) {M : Mem} (h : RS M V44) {H : Heap} {locs : List Loc} {ls : Array Slot} {cells slots : Nat} (hS : va_S (A0 b) s.heap H locs) (hW : Wd Z b M H) (hl : lv_has ls 1 [(0, .ref (b + 0))]) (hcs : cells + 1795 ≤ 5662 ∧ slots + 10770 ≤ 34305) : W p l e rm_L_locks s m args below meth c H locs cells slots (MQ below (QT b) args s 5662 34305 (A0 b)) (F0 m 909 ls []) := by
  have hx := C.1
  have hb := C.2.1
  refine lv_aload_n hx hb dL_locks_909 rfl (lv_at hl 0 rfl) ?_
  refine lv_bipush (v := (19 : Int32)) hx hb dL_locks_910 (by decide) ?_
  have hc : f_X4_covering M (19 : Int32) = some (.inr (32 : Int32), M) := s_covering h (by decide +kernel)
  refine kL_58R C hml hl.1 (c_X4_covering hlf hc) ⟨Nat.le_of_ble_eq_true rfl, Nat.le_of_ble_eq_true rfl⟩ ⟨by show _ ≤ 5662; omega, by show _ ≤ 34305; omega⟩ (Nat.le_of_ble_eq_true rfl) hS hW dL_locks_912 (fun H locs hW hS => ?_)
  refine lv_bipush (v := (32 : Int32)) hx hb dL_locks_915 (by decide) ?_
  refine lv_icmp_ne (tgt := 1130) hx hb dL_locks_917 (by decide) (fun c => absurd (by decide) c) (fun _ => ?_)
  refine lv_aload_n hx hb dL_locks_920 rfl (lv_at hl 0 rfl) ?_
  refine lv_iconst (v := (0 : Int32)) hx hb dL_locks_921 (by decide) ?_
  refine lv_bipush (v := (19 : Int32)) hx hb dL_locks_922 (by decide) ?_
  refine lv_iconst (v := (1 : Int32)) hx hb dL_locks_924 (by decide) ?_
  refine lv_iconst (v := (-1 : Int32)) hx hb dL_locks_925 (by decide) ?_
  refine lv_iconst (v := (0 : Int32)) hx hb dL_locks_926 (by decide) ?_
  obtain ⟨M1, hc1, h1⟩ := s_put V44 (4 : Int32) (c := (0 : Int32)) (x := (19 : Int32)) (ct := (1 : Int32)) (ex := (-1 : Int32)) (tks := (0 : Int32)) h (by decide +kernel)
  have hc1 : f_X4_put M (0 : Int32) (19 : Int32) (1 : Int32) (-1 : Int32) (0 : Int32) = some (.inr (4 : Int32), M1) := hc1
  refine kL_13R C hml hl.1 (c_X4_put hlf hc1) ⟨Nat.le_of_ble_eq_true rfl, Nat.le_of_ble_eq_true rfl⟩ ⟨by show _ ≤ 5662; omega, by show _ ≤ 34305; omega⟩ (Nat.le_of_ble_eq_true rfl) hS hW dL_locks_927 (fun H locs hW hS => ?_)
  refine lv_iconst (v := (4 : Int32)) hx hb dL_locks_930 (by decide) ?_
  refine lv_icmp_ne (tgt := 1130) hx hb dL_locks_931 (by decide) (fun c => absurd (by decide) c) (fun _ => ?_)
  refine lv_aload_n hx hb dL_locks_934 rfl (lv_at hl 0 rfl) ?_
  refine lv_iconst (v := (0 : Int32)) hx hb dL_locks_935 (by decide) ?_
  refine lv_iconst (v := (2 : Int32)) hx hb dL_locks_936 (by decide) ?_
  refine lv_iconst (v := (1 : Int32)) hx hb dL_locks_937 (by decide) ?_
  refine lv_iconst (v := (-1 : Int32)) hx hb dL_locks_938 (by decide) ?_
  refine lv_iconst (v := (0 : Int32)) hx hb dL_locks_939 (by decide) ?_
  obtain ⟨M2, hc2, h2⟩ := s_put V45 (0 : Int32) (c := (0 : Int32)) (x := (2 : Int32)) (ct := (1 : Int32)) (ex := (-1 : Int32)) (tks := (0 : Int32)) h1 (by decide +kernel)
  have hc2 : f_X4_put M1 (0 : Int32) (2 : Int32) (1 : Int32) (-1 : Int32) (0 : Int32) = some (.inr (0 : Int32), M2) := hc2
  refine kL_13R C hml hl.1 (c_X4_put hlf hc2) ⟨Nat.le_of_ble_eq_true rfl, Nat.le_of_ble_eq_true rfl⟩ ⟨by show _ ≤ 5662; omega, by show _ ≤ 34305; omega⟩ (Nat.le_of_ble_eq_true rfl) hS hW dL_locks_940 (fun H locs hW hS => ?_)
  refine lv_if_ne (tgt := 1130) hx hb dL_locks_943 (by decide) (fun c => absurd (by decide) c) (fun _ => ?_)
  refine lv_aload_n hx hb dL_locks_946 rfl (lv_at hl 0 rfl) ?_
  refine lv_iconst (v := (0 : Int32)) hx hb dL_locks_947 (by decide) ?_
  refine lv_iconst (v := (2 : Int32)) hx hb dL_locks_948 (by decide) ?_
  refine lv_bipush (v := (19 : Int32)) hx hb dL_locks_949 (by decide) ?_
  refine lv_iconst (v := (0 : Int32)) hx hb dL_locks_951 (by decide) ?_
  refine lv_iconst (v := (0 : Int32)) hx hb dL_locks_952 (by decide) ?_
  obtain ⟨M3, hc3, h3⟩ := s_move V45 (4 : Int32) false (c := (0 : Int32)) (x := (2 : Int32)) (y := (19 : Int32)) (tks := (0 : Int32)) h2 (by decide +kernel)
  have hc3 : f_X4_move M2 (0 : Int32) (2 : Int32) (19 : Int32) (0 : Int32) (0 : Int32) = some (.inr (4 : Int32), M3) := hc3
  refine kL_28R C hml hl.1 (c_X4_move hlf hc3) ⟨Nat.le_of_ble_eq_true rfl, Nat.le_of_ble_eq_true rfl⟩ ⟨by show _ ≤ 5662; omega, by show _ ≤ 34305; omega⟩ (Nat.le_of_ble_eq_true rfl) hS hW dL_locks_953 (fun H locs hW hS => ?_)
  refine lv_iconst (v := (4 : Int32)) hx hb dL_locks_956 (by decide) ?_
  refine lv_icmp_ne (tgt := 1130) hx hb dL_locks_957 (by decide) (fun c => absurd (by decide) c) (fun _ => ?_)
  exact t_locks_19 C hml hr hlk hlf h3 hS hW (lv_sub hl [0] rfl) ⟨by omega, by omega⟩
set_option maxHeartbeats 4000000 in
set_option maxRecDepth 100000 in
theorem t_locks_17 {p : Program} {l : Launch} {e : Env} {s : State} {m : MethodId} {args : Array Value} {below : List Frame} {meth : Method} {c : Code} {Z : Zt} {b : Nat} (C : Cx p s m args c cL_locks RL Z b) (hml : c.maxLocals = 1) (hr : meth.sig.returnType = some .boolean) (hlk : meth.locks = false) (hlf : l.stackTraces = false) {M : Mem} (h : RS M V44) {H : Heap} {locs : List Loc} {ls : Array Slot} {cells slots : Nat} (hS : va_S (A0 b) s.heap H locs) (hW : Wd Z b M H) (hl : lv_has ls 1 [(0, .ref (b + 0))]) (hcs : cells + 1806 ≤ 5662 ∧ slots + 10836 ≤ 34305) : W p l e rm_L_locks s m args below meth c H locs cells slots (MQ below (QT b) args s 5662 34305 (A0 b)) (F0 m 852 ls []) := by
  have hx := C.1
  have hb := C.2.1
  refine lv_aload_n hx hb dL_locks_852 rfl (lv_at hl 0 rfl) ?_
  refine lv_bipush (v := (121 : Int32)) hx hb dL_locks_853 (by decide) ?_
  have hc : f_X4_covering M (121 : Int32) = some (.inr (96 : Int32), M) := s_covering h (by decide +kernel)
  refine kL_58R C hml hl.1 (c_X4_covering hlf hc) ⟨Nat.le_of_ble_eq_true rfl, Nat.le_of_ble_eq_true rfl⟩ ⟨by show _ ≤ 5662; omega, by show _ ≤ 34305; omega⟩ (Nat.le_of_ble_eq_true rfl) hS hW dL_locks_855 (fun H locs hW hS => ?_)
  refine lv_bipush (v := (96 : Int32)) hx hb dL_locks_858 (by decide) ?_
  refine lv_icmp_ne (tgt := 1130) hx hb dL_locks_860 (by decide) (fun c => absurd (by decide) c) (fun _ => ?_)
  refine lv_aload_n hx hb dL_locks_863 rfl (lv_at hl 0 rfl) ?_
  refine lv_iconst (v := (1 : Int32)) hx hb dL_locks_864 (by decide) ?_
  refine lv_bipush (v := (121 : Int32)) hx hb dL_locks_865 (by decide) ?_
  refine lv_bipush (v := (32 : Int32)) hx hb dL_locks_867 (by decide) ?_
  have hc : f_X4_mayChange M (1 : Int32) (121 : Int32) (32 : Int32) = some (.inr (1 : Int32), M) := s_mayChange h (by decide +kernel)
  refine kL_61R C hml hl.1 (c_X4_mayChange hlf hc) ⟨Nat.le_of_ble_eq_true rfl, Nat.le_of_ble_eq_true rfl⟩ ⟨by show _ ≤ 5662; omega, by show _ ≤ 34305; omega⟩ (Nat.le_of_ble_eq_true rfl) hS hW dL_locks_869 (fun H locs hW hS => ?_)
  refine lv_if_eq (tgt := 1130) hx hb dL_locks_872 (by decide) (fun c => absurd c (by decide)) (fun _ => ?_)
  refine lv_aload_n hx hb dL_locks_875 rfl (lv_at hl 0 rfl) ?_
  refine lv_iconst (v := (2 : Int32)) hx hb dL_locks_876 (by decide) ?_
  refine lv_bipush (v := (121 : Int32)) hx hb dL_locks_877 (by decide) ?_
  refine lv_bipush (v := (32 : Int32)) hx hb dL_locks_879 (by decide) ?_
  have hc : f_X4_mayChange M (2 : Int32) (121 : Int32) (32 : Int32) = some (.inr (0 : Int32), M) := s_mayChange h (by decide +kernel)
  refine kL_61R C hml hl.1 (c_X4_mayChange hlf hc) ⟨Nat.le_of_ble_eq_true rfl, Nat.le_of_ble_eq_true rfl⟩ ⟨by show _ ≤ 5662; omega, by show _ ≤ 34305; omega⟩ (Nat.le_of_ble_eq_true rfl) hS hW dL_locks_881 (fun H locs hW hS => ?_)
  refine lv_if_ne (tgt := 1130) hx hb dL_locks_884 (by decide) (fun c => absurd (by decide) c) (fun _ => ?_)
  refine lv_aload_n hx hb dL_locks_887 rfl (lv_at hl 0 rfl) ?_
  refine lv_iconst (v := (2 : Int32)) hx hb dL_locks_888 (by decide) ?_
  refine lv_bipush (v := (121 : Int32)) hx hb dL_locks_889 (by decide) ?_
  refine lv_bipush (v := (64 : Int32)) hx hb dL_locks_891 (by decide) ?_
  have hc : f_X4_mayChange M (2 : Int32) (121 : Int32) (64 : Int32) = some (.inr (1 : Int32), M) := s_mayChange h (by decide +kernel)
  refine kL_61R C hml hl.1 (c_X4_mayChange hlf hc) ⟨Nat.le_of_ble_eq_true rfl, Nat.le_of_ble_eq_true rfl⟩ ⟨by show _ ≤ 5662; omega, by show _ ≤ 34305; omega⟩ (Nat.le_of_ble_eq_true rfl) hS hW dL_locks_893 (fun H locs hW hS => ?_)
  refine lv_if_eq (tgt := 1130) hx hb dL_locks_896 (by decide) (fun c => absurd c (by decide)) (fun _ => ?_)
  refine lv_aload_n hx hb dL_locks_899 rfl (lv_at hl 0 rfl) ?_
  refine lv_iconst (v := (1 : Int32)) hx hb dL_locks_900 (by decide) ?_
  have hc : f_X4_covering M (1 : Int32) = some (.inr (32 : Int32), M) := s_covering h (by decide +kernel)
  refine kL_58R C hml hl.1 (c_X4_covering hlf hc) ⟨Nat.le_of_ble_eq_true rfl, Nat.le_of_ble_eq_true rfl⟩ ⟨by show _ ≤ 5662; omega, by show _ ≤ 34305; omega⟩ (Nat.le_of_ble_eq_true rfl) hS hW dL_locks_901 (fun H locs hW hS => ?_)
  refine lv_bipush (v := (32 : Int32)) hx hb dL_locks_904 (by decide) ?_
  refine lv_icmp_ne (tgt := 1130) hx hb dL_locks_906 (by decide) (fun c => absurd (by decide) c) (fun _ => ?_)
  exact t_locks_18 C hml hr hlk hlf h hS hW (lv_sub hl [0] rfl) ⟨by omega, by omega⟩
set_option maxHeartbeats 4000000 in
set_option maxRecDepth 100000 in
theorem t_locks_16 {p : Program} {l : Launch} {e : Env} {s : State} {m : MethodId} {args : Array Value} {below : List Frame} {meth : Method} {c : Code} {Z : Zt} {b : Nat} (C : Cx p s m args c cL_locks RL Z b) (hml : c.maxLocals = 1) (hr : meth.sig.returnType = some .boolean) (hlk : meth.locks = false) (hlf : l.stackTraces = false) {M : Mem} (h : RS M V41) {H : Heap} {locs : List Loc} {ls : Array Slot} {cells slots : Nat} (hS : va_S (A0 b) s.heap H locs) (hW : Wd Z b M H) (hl : lv_has ls 1 [(0, .ref (b + 0))]) (hcs : cells + 1820 ≤ 5662 ∧ slots + 10920 ≤ 34305) : W p l e rm_L_locks s m args below meth c H locs cells slots (MQ below (QT b) args s 5662 34305 (A0 b)) (F0 m 795 ls []) := by
  have hx := C.1
  have hb := C.2.1
  refine lv_aload_n hx hb dL_locks_795 rfl (lv_at hl 0 rfl) ?_
  refine lv_bipush (v := (12 : Int32)) hx hb dL_locks_796 (by decide) ?_
  have hc : f_X4_covering M (12 : Int32) = some (.inr (0 : Int32), M) := s_covering h (by decide +kernel)
  refine kL_58R C hml hl.1 (c_X4_covering hlf hc) ⟨Nat.le_of_ble_eq_true rfl, Nat.le_of_ble_eq_true rfl⟩ ⟨by show _ ≤ 5662; omega, by show _ ≤ 34305; omega⟩ (Nat.le_of_ble_eq_true rfl) hS hW dL_locks_798 (fun H locs hW hS => ?_)
  refine lv_if_ne (tgt := 816) hx hb dL_locks_801 (by decide) (fun c => absurd (by decide) c) (fun _ => ?_)
  refine lv_aload_n hx hb dL_locks_804 rfl (lv_at hl 0 rfl) ?_
  refine lv_iconst (v := (1 : Int32)) hx hb dL_locks_805 (by decide) ?_
  refine lv_iconst (v := (1 : Int32)) hx hb dL_locks_806 (by decide) ?_
  refine lv_iconst (v := (0 : Int32)) hx hb dL_locks_807 (by decide) ?_
  obtain ⟨M1, hc1, h1⟩ := s_refresh V42 (90 : Int32) (c := (1 : Int32)) (x := (1 : Int32)) (y := (0 : Int32)) h (by decide +kernel)
  have hc1 : f_X4_refresh M (1 : Int32) (1 : Int32) (0 : Int32) = some (.inr (90 : Int32), M1) := hc1
  refine kL_52R C hml hl.1 (c_X4_refresh hlf hc1) ⟨Nat.le_of_ble_eq_true rfl, Nat.le_of_ble_eq_true rfl⟩ ⟨by show _ ≤ 5662; omega, by show _ ≤ 34305; omega⟩ (Nat.le_of_ble_eq_true rfl) hS hW dL_locks_808 (fun H locs hW hS => ?_)
  refine lv_bipush (v := (90 : Int32)) hx hb dL_locks_811 (by decide) ?_
  refine lv_icmp_eq (tgt := 818) hx hb dL_locks_813 (by decide) (fun _ => ?_) (fun c => absurd (by decide) c)
  refine lv_aload_n hx hb dL_locks_818 rfl (lv_at hl 0 rfl) ?_
  refine lv_iconst (v := (1 : Int32)) hx hb dL_locks_819 (by decide) ?_
  refine lv_iconst (v := (1 : Int32)) hx hb dL_locks_820 (by decide) ?_
  refine lv_iconst (v := (1 : Int32)) hx hb dL_locks_821 (by decide) ?_
  refine lv_iconst (v := (1 : Int32)) hx hb dL_locks_822 (by decide) ?_
  refine lv_sipush (v := (1000 : Int32)) hx hb dL_locks_823 (by decide) ?_
  refine lv_iconst (v := (0 : Int32)) hx hb dL_locks_826 (by decide) ?_
  obtain ⟨M2, hc2, h2⟩ := s_lock V43 (5 : Int32) true true (c := (1 : Int32)) (x := (1 : Int32)) (y := (1000 : Int32)) (tks := (0 : Int32)) h1 (by decide +kernel)
  have hc2 : f_X4_lock M1 (1 : Int32) (1 : Int32) (1 : Int32) (1 : Int32) (1000 : Int32) (0 : Int32) = some (.inr (5 : Int32), M2) := hc2
  refine kL_48R C hml hl.1 (c_X4_lock hlf hc2) ⟨Nat.le_of_ble_eq_true rfl, Nat.le_of_ble_eq_true rfl⟩ ⟨by show _ ≤ 5662; omega, by show _ ≤ 34305; omega⟩ (Nat.le_of_ble_eq_true rfl) hS hW dL_locks_827 (fun H locs hW hS => ?_)
  refine lv_iconst (v := (5 : Int32)) hx hb dL_locks_830 (by decide) ?_
  refine lv_icmp_ne (tgt := 1130) hx hb dL_locks_831 (by decide) (fun c => absurd (by decide) c) (fun _ => ?_)
  refine lv_aload_n hx hb dL_locks_834 rfl (lv_at hl 0 rfl) ?_
  refine lv_iconst (v := (2 : Int32)) hx hb dL_locks_835 (by decide) ?_
  refine lv_bipush (v := (12 : Int32)) hx hb dL_locks_836 (by decide) ?_
  refine lv_iconst (v := (1 : Int32)) hx hb dL_locks_838 (by decide) ?_
  refine lv_iconst (v := (1 : Int32)) hx hb dL_locks_839 (by decide) ?_
  refine lv_sipush (v := (1000 : Int32)) hx hb dL_locks_840 (by decide) ?_
  refine lv_iconst (v := (0 : Int32)) hx hb dL_locks_843 (by decide) ?_
  obtain ⟨M3, hc3, h3⟩ := s_lock V44 (6 : Int32) true true (c := (2 : Int32)) (x := (12 : Int32)) (y := (1000 : Int32)) (tks := (0 : Int32)) h2 (by decide +kernel)
  have hc3 : f_X4_lock M2 (2 : Int32) (12 : Int32) (1 : Int32) (1 : Int32) (1000 : Int32) (0 : Int32) = some (.inr (6 : Int32), M3) := hc3
  refine kL_48R C hml hl.1 (c_X4_lock hlf hc3) ⟨Nat.le_of_ble_eq_true rfl, Nat.le_of_ble_eq_true rfl⟩ ⟨by show _ ≤ 5662; omega, by show _ ≤ 34305; omega⟩ (Nat.le_of_ble_eq_true rfl) hS hW dL_locks_844 (fun H locs hW hS => ?_)
  refine lv_bipush (v := (6 : Int32)) hx hb dL_locks_847 (by decide) ?_
  refine lv_icmp_ne (tgt := 1130) hx hb dL_locks_849 (by decide) (fun c => absurd (by decide) c) (fun _ => ?_)
  exact t_locks_17 C hml hr hlk hlf h3 hS hW (lv_sub hl [0] rfl) ⟨by omega, by omega⟩
set_option maxHeartbeats 4000000 in
set_option maxRecDepth 100000 in
theorem t_locks_15 {p : Program} {l : Launch} {e : Env} {s : State} {m : MethodId} {args : Array Value} {below : List Frame} {meth : Method} {c : Code} {Z : Zt} {b : Nat} (C : Cx p s m args c cL_locks RL Z b) (hml : c.maxLocals = 1) (hr : meth.sig.returnType = some .boolean) (hlk : meth.locks = false) (hlf : l.stackTraces = false) {M : Mem} (h : RS M V40) {H : Heap} {locs : List Loc} {ls : Array Slot} {cells slots : Nat} (hS : va_S (A0 b) s.heap H locs) (hW : Wd Z b M H) (hl : lv_has ls 1 [(0, .ref (b + 0))]) (hcs : cells + 1837 ≤ 5662 ∧ slots + 11022 ≤ 34305) : W p l e rm_L_locks s m args below meth c H locs cells slots (MQ below (QT b) args s 5662 34305 (A0 b)) (F0 m 749 ls []) := by
  have hx := C.1
  have hb := C.2.1
  refine lv_aload_n hx hb dL_locks_749 rfl (lv_at hl 0 rfl) ?_
  refine lv_bipush (v := (12 : Int32)) hx hb dL_locks_750 (by decide) ?_
  refine lv_iconst (v := (3 : Int32)) hx hb dL_locks_752 (by decide) ?_
  refine lv_iconst (v := (2 : Int32)) hx hb dL_locks_753 (by decide) ?_
  refine lv_iconst (v := (5 : Int32)) hx hb dL_locks_754 (by decide) ?_
  refine lv_iconst (v := (0 : Int32)) hx hb dL_locks_755 (by decide) ?_
  have hc : f_L_act M (12 : Int32) (3 : Int32) (2 : Int32) (5 : Int32) (0 : Int32) = some ((-9003 : Int32), M) := by rw [act_12]; exact hnd_S (s_refreshS h (by decide +kernel))
  refine kL_85 C hml hl.1 (c_L_act hlf hc) ⟨Nat.le_of_ble_eq_true rfl, Nat.le_of_ble_eq_true rfl⟩ ⟨by show _ ≤ 5662; omega, by show _ ≤ 34305; omega⟩ (Nat.le_of_ble_eq_true rfl) hS hW dL_locks_756 (fun H locs hW hS => ?_)
  refine lv_sipush (v := (-9003 : Int32)) hx hb dL_locks_759 (by decide) ?_
  refine lv_icmp_ne (tgt := 816) hx hb dL_locks_762 (by decide) (fun c => absurd (by decide) c) (fun _ => ?_)
  refine lv_aload_n hx hb dL_locks_765 rfl (lv_at hl 0 rfl) ?_
  refine lv_bipush (v := (12 : Int32)) hx hb dL_locks_766 (by decide) ?_
  refine lv_iconst (v := (2 : Int32)) hx hb dL_locks_768 (by decide) ?_
  refine lv_iconst (v := (2 : Int32)) hx hb dL_locks_769 (by decide) ?_
  refine lv_sipush (v := (1001 : Int32)) hx hb dL_locks_770 (by decide) ?_
  refine lv_iconst (v := (0 : Int32)) hx hb dL_locks_773 (by decide) ?_
  have hc : f_L_act M (12 : Int32) (2 : Int32) (2 : Int32) (1001 : Int32) (0 : Int32) = some ((-9002 : Int32), M) := by rw [act_12]; exact hnd_A (s_refreshA h (by decide +kernel))
  refine kL_85 C hml hl.1 (c_L_act hlf hc) ⟨Nat.le_of_ble_eq_true rfl, Nat.le_of_ble_eq_true rfl⟩ ⟨by show _ ≤ 5662; omega, by show _ ≤ 34305; omega⟩ (Nat.le_of_ble_eq_true rfl) hS hW dL_locks_774 (fun H locs hW hS => ?_)
  refine lv_sipush (v := (-9002 : Int32)) hx hb dL_locks_777 (by decide) ?_
  refine lv_icmp_ne (tgt := 816) hx hb dL_locks_780 (by decide) (fun c => absurd (by decide) c) (fun _ => ?_)
  refine lv_aload_n hx hb dL_locks_783 rfl (lv_at hl 0 rfl) ?_
  refine lv_iconst (v := (2 : Int32)) hx hb dL_locks_784 (by decide) ?_
  refine lv_iconst (v := (2 : Int32)) hx hb dL_locks_785 (by decide) ?_
  refine lv_iconst (v := (0 : Int32)) hx hb dL_locks_786 (by decide) ?_
  obtain ⟨M1, hc1, h1⟩ := s_refresh V41 (100 : Int32) (c := (2 : Int32)) (x := (2 : Int32)) (y := (0 : Int32)) h (by decide +kernel)
  have hc1 : f_X4_refresh M (2 : Int32) (2 : Int32) (0 : Int32) = some (.inr (100 : Int32), M1) := hc1
  refine kL_52R C hml hl.1 (c_X4_refresh hlf hc1) ⟨Nat.le_of_ble_eq_true rfl, Nat.le_of_ble_eq_true rfl⟩ ⟨by show _ ≤ 5662; omega, by show _ ≤ 34305; omega⟩ (Nat.le_of_ble_eq_true rfl) hS hW dL_locks_787 (fun H locs hW hS => ?_)
  refine lv_bipush (v := (100 : Int32)) hx hb dL_locks_790 (by decide) ?_
  refine lv_icmp_ne (tgt := 816) hx hb dL_locks_792 (by decide) (fun c => absurd (by decide) c) (fun _ => ?_)
  exact t_locks_16 C hml hr hlk hlf h1 hS hW (lv_sub hl [0] rfl) ⟨by omega, by omega⟩
set_option maxHeartbeats 4000000 in
set_option maxRecDepth 100000 in
theorem t_locks_14 {p : Program} {l : Launch} {e : Env} {s : State} {m : MethodId} {args : Array Value} {below : List Frame} {meth : Method} {c : Code} {Z : Zt} {b : Nat} (C : Cx p s m args c cL_locks RL Z b) (hml : c.maxLocals = 1) (hr : meth.sig.returnType = some .boolean) (hlk : meth.locks = false) (hlf : l.stackTraces = false) {M : Mem} (h : RS M V38) {H : Heap} {locs : List Loc} {ls : Array Slot} {cells slots : Nat} (hS : va_S (A0 b) s.heap H locs) (hW : Wd Z b M H) (hl : lv_has ls 1 [(0, .ref (b + 0))]) (hcs : cells + 1850 ≤ 5662 ∧ slots + 11100 ≤ 34305) : W p l e rm_L_locks s m args below meth c H locs cells slots (MQ below (QT b) args s 5662 34305 (A0 b)) (F0 m 702 ls []) := by
  have hx := C.1
  have hb := C.2.1
  refine lv_aload_n hx hb dL_locks_702 rfl (lv_at hl 0 rfl) ?_
  refine lv_bipush (v := (12 : Int32)) hx hb dL_locks_703 (by decide) ?_
  refine lv_iconst (v := (2 : Int32)) hx hb dL_locks_705 (by decide) ?_
  refine lv_iconst (v := (4 : Int32)) hx hb dL_locks_706 (by decide) ?_
  refine lv_iconst (v := (5 : Int32)) hx hb dL_locks_707 (by decide) ?_
  refine lv_iconst (v := (0 : Int32)) hx hb dL_locks_708 (by decide) ?_
  have hc : f_L_act M (12 : Int32) (2 : Int32) (4 : Int32) (5 : Int32) (0 : Int32) = some ((-9001 : Int32), M) := by rw [act_12]; exact hnd_B (s_refreshB h (by decide +kernel))
  refine kL_85 C hml hl.1 (c_L_act hlf hc) ⟨Nat.le_of_ble_eq_true rfl, Nat.le_of_ble_eq_true rfl⟩ ⟨by show _ ≤ 5662; omega, by show _ ≤ 34305; omega⟩ (Nat.le_of_ble_eq_true rfl) hS hW dL_locks_709 (fun H locs hW hS => ?_)
  refine lv_sipush (v := (-9001 : Int32)) hx hb dL_locks_712 (by decide) ?_
  refine lv_icmp_ne (tgt := 816) hx hb dL_locks_715 (by decide) (fun c => absurd (by decide) c) (fun _ => ?_)
  refine lv_aload_n hx hb dL_locks_718 rfl (lv_at hl 0 rfl) ?_
  refine lv_bipush (v := (124 : Int32)) hx hb dL_locks_719 (by decide) ?_
  have hc : f_X4_covering M (124 : Int32) = some (.inr (0 : Int32), M) := s_covering h (by decide +kernel)
  refine kL_58R C hml hl.1 (c_X4_covering hlf hc) ⟨Nat.le_of_ble_eq_true rfl, Nat.le_of_ble_eq_true rfl⟩ ⟨by show _ ≤ 5662; omega, by show _ ≤ 34305; omega⟩ (Nat.le_of_ble_eq_true rfl) hS hW dL_locks_721 (fun H locs hW hS => ?_)
  refine lv_if_ne (tgt := 816) hx hb dL_locks_724 (by decide) (fun c => absurd (by decide) c) (fun _ => ?_)
  refine lv_aload_n hx hb dL_locks_727 rfl (lv_at hl 0 rfl) ?_
  refine lv_iconst (v := (5 : Int32)) hx hb dL_locks_728 (by decide) ?_
  obtain ⟨M1, hc1, h1⟩ := s_pass V39 (1 : Int32) (x := (5 : Int32)) h (by decide +kernel)
  have hc1 : f_X4_pass M (5 : Int32) = some (.inr (1 : Int32), M1) := hc1
  refine kL_55R C hml hl.1 (c_X4_pass hlf hc1) ⟨Nat.le_of_ble_eq_true rfl, Nat.le_of_ble_eq_true rfl⟩ ⟨by show _ ≤ 5662; omega, by show _ ≤ 34305; omega⟩ (Nat.le_of_ble_eq_true rfl) hS hW dL_locks_729 (fun H locs hW hS => ?_)
  refine lv_iconst (v := (1 : Int32)) hx hb dL_locks_732 (by decide) ?_
  refine lv_icmp_ne (tgt := 816) hx hb dL_locks_733 (by decide) (fun c => absurd (by decide) c) (fun _ => ?_)
  refine lv_aload_n hx hb dL_locks_736 rfl (lv_at hl 0 rfl) ?_
  refine lv_iconst (v := (2 : Int32)) hx hb dL_locks_737 (by decide) ?_
  refine lv_iconst (v := (2 : Int32)) hx hb dL_locks_738 (by decide) ?_
  refine lv_bipush (v := (100 : Int32)) hx hb dL_locks_739 (by decide) ?_
  obtain ⟨M2, hc2, h2⟩ := s_refresh V40 (40 : Int32) (c := (2 : Int32)) (x := (2 : Int32)) (y := (100 : Int32)) h1 (by decide +kernel)
  have hc2 : f_X4_refresh M1 (2 : Int32) (2 : Int32) (100 : Int32) = some (.inr (40 : Int32), M2) := hc2
  refine kL_52R C hml hl.1 (c_X4_refresh hlf hc2) ⟨Nat.le_of_ble_eq_true rfl, Nat.le_of_ble_eq_true rfl⟩ ⟨by show _ ≤ 5662; omega, by show _ ≤ 34305; omega⟩ (Nat.le_of_ble_eq_true rfl) hS hW dL_locks_741 (fun H locs hW hS => ?_)
  refine lv_bipush (v := (40 : Int32)) hx hb dL_locks_744 (by decide) ?_
  refine lv_icmp_ne (tgt := 816) hx hb dL_locks_746 (by decide) (fun c => absurd (by decide) c) (fun _ => ?_)
  exact t_locks_15 C hml hr hlk hlf h2 hS hW (lv_sub hl [0] rfl) ⟨by omega, by omega⟩
set_option maxHeartbeats 4000000 in
set_option maxRecDepth 100000 in
theorem t_locks_13 {p : Program} {l : Launch} {e : Env} {s : State} {m : MethodId} {args : Array Value} {below : List Frame} {meth : Method} {c : Code} {Z : Zt} {b : Nat} (C : Cx p s m args c cL_locks RL Z b) (hml : c.maxLocals = 1) (hr : meth.sig.returnType = some .boolean) (hlk : meth.locks = false) (hlf : l.stackTraces = false) {M : Mem} (h : RS M V35) {H : Heap} {locs : List Loc} {ls : Array Slot} {cells slots : Nat} (hS : va_S (A0 b) s.heap H locs) (hW : Wd Z b M H) (hl : lv_has ls 1 [(0, .ref (b + 0))]) (hcs : cells + 3578 ≤ 5662 ∧ slots + 21468 ≤ 34305) : W p l e rm_L_locks s m args below meth c H locs cells slots (MQ below (QT b) args s 5662 34305 (A0 b)) (F0 m 650 ls []) := by
  have hx := C.1
  have hb := C.2.1
  refine lv_aload_n hx hb dL_locks_650 rfl (lv_at hl 0 rfl) ?_
  refine lv_iconst (v := (3 : Int32)) hx hb dL_locks_651 (by decide) ?_
  refine lv_bipush (v := (124 : Int32)) hx hb dL_locks_652 (by decide) ?_
  refine lv_iconst (v := (0 : Int32)) hx hb dL_locks_654 (by decide) ?_
  refine lv_bipush (v := (8 : Int32)) hx hb dL_locks_655 (by decide) ?_
  obtain ⟨M1, hc1, h1⟩ := s_order V36 (0 : Int32) (c := (3 : Int32)) (x := (124 : Int32)) (y := (0 : Int32)) (tks := (8 : Int32)) h (by decide +kernel)
  have hc1 : f_X4_order M (3 : Int32) (124 : Int32) (0 : Int32) (8 : Int32) = some (.inr (0 : Int32), M1) := hc1
  refine kL_44R C hml hl.1 (c_X4_order hlf hc1) ⟨Nat.le_of_ble_eq_true rfl, Nat.le_of_ble_eq_true rfl⟩ ⟨by show _ ≤ 5662; omega, by show _ ≤ 34305; omega⟩ (Nat.le_of_ble_eq_true rfl) hS hW dL_locks_657 (fun H locs hW hS => ?_)
  refine lv_if_ne (tgt := 816) hx hb dL_locks_660 (by decide) (fun c => absurd (by decide) c) (fun _ => ?_)
  refine lv_aload_n hx hb dL_locks_663 rfl (lv_at hl 0 rfl) ?_
  refine lv_bipush (v := (12 : Int32)) hx hb dL_locks_664 (by decide) ?_
  refine lv_bipush (v := (124 : Int32)) hx hb dL_locks_666 (by decide) ?_
  refine lv_bipush (v := (121 : Int32)) hx hb dL_locks_668 (by decide) ?_
  refine lv_bipush (v := (123 : Int32)) hx hb dL_locks_670 (by decide) ?_
  have hc : f_L_order M1 (12 : Int32) (124 : Int32) (121 : Int32) (123 : Int32) = some (1, M1) := s_ord h1 (by decide +kernel)
  refine kL_96 C hml hl.1 (c_L_order hlf hc) ⟨Nat.le_of_ble_eq_true rfl, Nat.le_of_ble_eq_true rfl⟩ ⟨by show _ ≤ 5662; omega, by show _ ≤ 34305; omega⟩ (Nat.le_of_ble_eq_true rfl) hS hW dL_locks_672 (fun H locs hW hS => ?_)
  refine lv_if_eq (tgt := 816) hx hb dL_locks_675 (by decide) (fun c => absurd c (by decide)) (fun _ => ?_)
  refine lv_aload_n hx hb dL_locks_678 rfl (lv_at hl 0 rfl) ?_
  refine kL_92 C hml hl.1 (c_L_refuses hlf h1) ⟨Nat.le_of_ble_eq_true rfl, Nat.le_of_ble_eq_true rfl⟩ ⟨by show _ ≤ 5662; omega, by show _ ≤ 34305; omega⟩ (Nat.le_of_ble_eq_true rfl) hS hW dL_locks_679 (fun H locs hW hS => ?_)
  refine lv_if_eq (tgt := 816) hx hb dL_locks_682 (by decide) (fun c => absurd c (by decide)) (fun _ => ?_)
  refine lv_aload_n hx hb dL_locks_685 rfl (lv_at hl 0 rfl) ?_
  refine lv_iconst (v := (4 : Int32)) hx hb dL_locks_686 (by decide) ?_
  obtain ⟨M2, hc2, h2⟩ := s_pass V37 (0 : Int32) (x := (4 : Int32)) h1 (by decide +kernel)
  have hc2 : f_X4_pass M1 (4 : Int32) = some (.inr (0 : Int32), M2) := hc2
  refine kL_55R C hml hl.1 (c_X4_pass hlf hc2) ⟨Nat.le_of_ble_eq_true rfl, Nat.le_of_ble_eq_true rfl⟩ ⟨by show _ ≤ 5662; omega, by show _ ≤ 34305; omega⟩ (Nat.le_of_ble_eq_true rfl) hS hW dL_locks_687 (fun H locs hW hS => ?_)
  refine lv_if_ne (tgt := 816) hx hb dL_locks_690 (by decide) (fun c => absurd (by decide) c) (fun _ => ?_)
  refine lv_aload_n hx hb dL_locks_693 rfl (lv_at hl 0 rfl) ?_
  refine lv_iconst (v := (1 : Int32)) hx hb dL_locks_694 (by decide) ?_
  obtain ⟨M3, hc3, h3⟩ := s_pass V38 (1 : Int32) (x := (1 : Int32)) h2 (by decide +kernel)
  have hc3 : f_X4_pass M2 (1 : Int32) = some (.inr (1 : Int32), M3) := hc3
  refine kL_55R C hml hl.1 (c_X4_pass hlf hc3) ⟨Nat.le_of_ble_eq_true rfl, Nat.le_of_ble_eq_true rfl⟩ ⟨by show _ ≤ 5662; omega, by show _ ≤ 34305; omega⟩ (Nat.le_of_ble_eq_true rfl) hS hW dL_locks_695 (fun H locs hW hS => ?_)
  refine lv_iconst (v := (1 : Int32)) hx hb dL_locks_698 (by decide) ?_
  refine lv_icmp_ne (tgt := 816) hx hb dL_locks_699 (by decide) (fun c => absurd (by decide) c) (fun _ => ?_)
  exact t_locks_14 C hml hr hlk hlf h3 hS hW (lv_sub hl [0] rfl) ⟨by omega, by omega⟩
set_option maxHeartbeats 4000000 in
set_option maxRecDepth 100000 in
theorem t_locks_12 {p : Program} {l : Launch} {e : Env} {s : State} {m : MethodId} {args : Array Value} {below : List Frame} {meth : Method} {c : Code} {Z : Zt} {b : Nat} (C : Cx p s m args c cL_locks RL Z b) (hml : c.maxLocals = 1) (hr : meth.sig.returnType = some .boolean) (hlk : meth.locks = false) (hlf : l.stackTraces = false) {M : Mem} (h : RS M V35) {H : Heap} {locs : List Loc} {ls : Array Slot} {cells slots : Nat} (hS : va_S (A0 b) s.heap H locs) (hW : Wd Z b M H) (hl : lv_has ls 1 [(0, .ref (b + 0))]) (hcs : cells + 3592 ≤ 5662 ∧ slots + 21552 ≤ 34305) : W p l e rm_L_locks s m args below meth c H locs cells slots (MQ below (QT b) args s 5662 34305 (A0 b)) (F0 m 603 ls []) := by
  have hx := C.1
  have hb := C.2.1
  refine lv_aload_n hx hb dL_locks_603 rfl (lv_at hl 0 rfl) ?_
  refine lv_bipush (v := (124 : Int32)) hx hb dL_locks_604 (by decide) ?_
  have hc : f_X4_content M (124 : Int32) = some (.inr (0 : Int32), M) := s_content h (by decide +kernel)
  refine kL_34R C hml hl.1 (c_X4_content hlf hc) ⟨Nat.le_of_ble_eq_true rfl, Nat.le_of_ble_eq_true rfl⟩ ⟨by show _ ≤ 5662; omega, by show _ ≤ 34305; omega⟩ (Nat.le_of_ble_eq_true rfl) hS hW dL_locks_606 (fun H locs hW hS => ?_)
  refine lv_if_ne (tgt := 816) hx hb dL_locks_609 (by decide) (fun c => absurd (by decide) c) (fun _ => ?_)
  refine lv_aload_n hx hb dL_locks_612 rfl (lv_at hl 0 rfl) ?_
  refine lv_bipush (v := (124 : Int32)) hx hb dL_locks_613 (by decide) ?_
  have hc : f_X4_kindOf M (124 : Int32) = some (.inr (1 : Int32), M) := s_kindOf h (by decide +kernel)
  refine kL_31R C hml hl.1 (c_X4_kindOf hlf hc) ⟨Nat.le_of_ble_eq_true rfl, Nat.le_of_ble_eq_true rfl⟩ ⟨by show _ ≤ 5662; omega, by show _ ≤ 34305; omega⟩ (Nat.le_of_ble_eq_true rfl) hS hW dL_locks_615 (fun H locs hW hS => ?_)
  refine lv_iconst (v := (1 : Int32)) hx hb dL_locks_618 (by decide) ?_
  refine lv_icmp_ne (tgt := 816) hx hb dL_locks_619 (by decide) (fun c => absurd (by decide) c) (fun _ => ?_)
  refine lv_aload_n hx hb dL_locks_622 rfl (lv_at hl 0 rfl) ?_
  refine lv_bipush (v := (12 : Int32)) hx hb dL_locks_623 (by decide) ?_
  refine lv_bipush (v := (121 : Int32)) hx hb dL_locks_625 (by decide) ?_
  refine lv_bipush (v := (123 : Int32)) hx hb dL_locks_627 (by decide) ?_
  refine lv_bipush (v := (124 : Int32)) hx hb dL_locks_629 (by decide) ?_
  have hc : f_L_order M (12 : Int32) (121 : Int32) (123 : Int32) (124 : Int32) = some (1, M) := s_ord h (by decide +kernel)
  refine kL_96 C hml hl.1 (c_L_order hlf hc) ⟨Nat.le_of_ble_eq_true rfl, Nat.le_of_ble_eq_true rfl⟩ ⟨by show _ ≤ 5662; omega, by show _ ≤ 34305; omega⟩ (Nat.le_of_ble_eq_true rfl) hS hW dL_locks_631 (fun H locs hW hS => ?_)
  refine lv_if_eq (tgt := 816) hx hb dL_locks_634 (by decide) (fun c => absurd c (by decide)) (fun _ => ?_)
  refine lv_aload_n hx hb dL_locks_637 rfl (lv_at hl 0 rfl) ?_
  refine lv_iconst (v := (0 : Int32)) hx hb dL_locks_638 (by decide) ?_
  refine lv_bipush (v := (124 : Int32)) hx hb dL_locks_639 (by decide) ?_
  refine lv_iconst (v := (0 : Int32)) hx hb dL_locks_641 (by decide) ?_
  refine lv_iconst (v := (0 : Int32)) hx hb dL_locks_642 (by decide) ?_
  obtain ⟨M1, hc1, h1⟩ := s_order V35 (4 : Int32) (c := (0 : Int32)) (x := (124 : Int32)) (y := (0 : Int32)) (tks := (0 : Int32)) h (by decide +kernel)
  have hc1 : f_X4_order M (0 : Int32) (124 : Int32) (0 : Int32) (0 : Int32) = some (.inr (4 : Int32), M1) := hc1
  refine kL_44R C hml hl.1 (c_X4_order hlf hc1) ⟨Nat.le_of_ble_eq_true rfl, Nat.le_of_ble_eq_true rfl⟩ ⟨by show _ ≤ 5662; omega, by show _ ≤ 34305; omega⟩ (Nat.le_of_ble_eq_true rfl) hS hW dL_locks_643 (fun H locs hW hS => ?_)
  refine lv_iconst (v := (4 : Int32)) hx hb dL_locks_646 (by decide) ?_
  refine lv_icmp_ne (tgt := 816) hx hb dL_locks_647 (by decide) (fun c => absurd (by decide) c) (fun _ => ?_)
  exact t_locks_13 C hml hr hlk hlf h1 hS hW (lv_sub hl [0] rfl) ⟨by omega, by omega⟩
set_option maxHeartbeats 4000000 in
set_option maxRecDepth 100000 in
theorem t_locks_11 {p : Program} {l : Launch} {e : Env} {s : State} {m : MethodId} {args : Array Value} {below : List Frame} {meth : Method} {c : Code} {Z : Zt} {b : Nat} (C : Cx p s m args c cL_locks RL Z b) (hml : c.maxLocals = 1) (hr : meth.sig.returnType = some .boolean) (hlk : meth.locks = false) (hlf : l.stackTraces = false) {M : Mem} (h : RS M V33) {H : Heap} {locs : List Loc} {ls : Array Slot} {cells slots : Nat} (hS : va_S (A0 b) s.heap H locs) (hW : Wd Z b M H) (hl : lv_has ls 1 [(0, .ref (b + 0))]) (hcs : cells + 3610 ≤ 5662 ∧ slots + 21660 ≤ 34305) : W p l e rm_L_locks s m args below meth c H locs cells slots (MQ below (QT b) args s 5662 34305 (A0 b)) (F0 m 558 ls []) := by
  have hx := C.1
  have hb := C.2.1
  refine lv_aload_n hx hb dL_locks_558 rfl (lv_at hl 0 rfl) ?_
  refine lv_iconst (v := (2 : Int32)) hx hb dL_locks_559 (by decide) ?_
  refine lv_bipush (v := (123 : Int32)) hx hb dL_locks_560 (by decide) ?_
  refine lv_iconst (v := (1 : Int32)) hx hb dL_locks_562 (by decide) ?_
  refine lv_iconst (v := (-1 : Int32)) hx hb dL_locks_563 (by decide) ?_
  refine lv_iconst (v := (4 : Int32)) hx hb dL_locks_564 (by decide) ?_
  obtain ⟨M1, hc1, h1⟩ := s_put V34 (0 : Int32) (c := (2 : Int32)) (x := (123 : Int32)) (ct := (1 : Int32)) (ex := (-1 : Int32)) (tks := (4 : Int32)) h (by decide +kernel)
  have hc1 : f_X4_put M (2 : Int32) (123 : Int32) (1 : Int32) (-1 : Int32) (4 : Int32) = some (.inr (0 : Int32), M1) := hc1
  refine kL_13R C hml hl.1 (c_X4_put hlf hc1) ⟨Nat.le_of_ble_eq_true rfl, Nat.le_of_ble_eq_true rfl⟩ ⟨by show _ ≤ 5662; omega, by show _ ≤ 34305; omega⟩ (Nat.le_of_ble_eq_true rfl) hS hW dL_locks_565 (fun H locs hW hS => ?_)
  refine lv_if_ne (tgt := 816) hx hb dL_locks_568 (by decide) (fun c => absurd (by decide) c) (fun _ => ?_)
  refine lv_aload_n hx hb dL_locks_571 rfl (lv_at hl 0 rfl) ?_
  refine lv_bipush (v := (11 : Int32)) hx hb dL_locks_572 (by decide) ?_
  refine lv_iconst (v := (0 : Int32)) hx hb dL_locks_574 (by decide) ?_
  refine lv_bipush (v := (124 : Int32)) hx hb dL_locks_575 (by decide) ?_
  refine lv_iconst (v := (5 : Int32)) hx hb dL_locks_577 (by decide) ?_
  refine lv_iconst (v := (0 : Int32)) hx hb dL_locks_578 (by decide) ?_
  have hc : f_L_act M1 (11 : Int32) (0 : Int32) (124 : Int32) (5 : Int32) (0 : Int32) = some ((-9003 : Int32), M1) := by rw [act_11]; exact hnd_S (s_lockS false false h1 (by decide +kernel))
  refine kL_85 C hml hl.1 (c_L_act hlf hc) ⟨Nat.le_of_ble_eq_true rfl, Nat.le_of_ble_eq_true rfl⟩ ⟨by show _ ≤ 5662; omega, by show _ ≤ 34305; omega⟩ (Nat.le_of_ble_eq_true rfl) hS hW dL_locks_579 (fun H locs hW hS => ?_)
  refine lv_sipush (v := (-9003 : Int32)) hx hb dL_locks_582 (by decide) ?_
  refine lv_icmp_ne (tgt := 816) hx hb dL_locks_585 (by decide) (fun c => absurd (by decide) c) (fun _ => ?_)
  refine lv_aload_n hx hb dL_locks_588 rfl (lv_at hl 0 rfl) ?_
  refine lv_iconst (v := (2 : Int32)) hx hb dL_locks_589 (by decide) ?_
  refine lv_bipush (v := (124 : Int32)) hx hb dL_locks_590 (by decide) ?_
  refine lv_iconst (v := (0 : Int32)) hx hb dL_locks_592 (by decide) ?_
  refine lv_iconst (v := (1 : Int32)) hx hb dL_locks_593 (by decide) ?_
  refine lv_iconst (v := (5 : Int32)) hx hb dL_locks_594 (by decide) ?_
  refine lv_iconst (v := (4 : Int32)) hx hb dL_locks_595 (by decide) ?_
  obtain ⟨M2, hc2, h2⟩ := s_lock V35 (4 : Int32) false true (c := (2 : Int32)) (x := (124 : Int32)) (y := (5 : Int32)) (tks := (4 : Int32)) h1 (by decide +kernel)
  have hc2 : f_X4_lock M1 (2 : Int32) (124 : Int32) (0 : Int32) (1 : Int32) (5 : Int32) (4 : Int32) = some (.inr (4 : Int32), M2) := hc2
  refine kL_48R C hml hl.1 (c_X4_lock hlf hc2) ⟨Nat.le_of_ble_eq_true rfl, Nat.le_of_ble_eq_true rfl⟩ ⟨by show _ ≤ 5662; omega, by show _ ≤ 34305; omega⟩ (Nat.le_of_ble_eq_true rfl) hS hW dL_locks_596 (fun H locs hW hS => ?_)
  refine lv_iconst (v := (4 : Int32)) hx hb dL_locks_599 (by decide) ?_
  refine lv_icmp_ne (tgt := 816) hx hb dL_locks_600 (by decide) (fun c => absurd (by decide) c) (fun _ => ?_)
  exact t_locks_12 C hml hr hlk hlf h2 hS hW (lv_sub hl [0] rfl) ⟨by omega, by omega⟩
set_option maxHeartbeats 4000000 in
set_option maxRecDepth 100000 in
theorem t_locks_10 {p : Program} {l : Launch} {e : Env} {s : State} {m : MethodId} {args : Array Value} {below : List Frame} {meth : Method} {c : Code} {Z : Zt} {b : Nat} (C : Cx p s m args c cL_locks RL Z b) (hml : c.maxLocals = 1) (hr : meth.sig.returnType = some .boolean) (hlk : meth.locks = false) (hlf : l.stackTraces = false) {M : Mem} (h : RS M V33) {H : Heap} {locs : List Loc} {ls : Array Slot} {cells slots : Nat} (hS : va_S (A0 b) s.heap H locs) (hW : Wd Z b M H) (hl : lv_has ls 1 [(0, .ref (b + 0))]) (hcs : cells + 3626 ≤ 5662 ∧ slots + 21756 ≤ 34305) : W p l e rm_L_locks s m args below meth c H locs cells slots (MQ below (QT b) args s 5662 34305 (A0 b)) (F0 m 509 ls []) := by
  have hx := C.1
  have hb := C.2.1
  refine lv_aload_n hx hb dL_locks_509 rfl (lv_at hl 0 rfl) ?_
  refine lv_iconst (v := (3 : Int32)) hx hb dL_locks_510 (by decide) ?_
  refine lv_bipush (v := (12 : Int32)) hx hb dL_locks_511 (by decide) ?_
  refine lv_bipush (v := (8 : Int32)) hx hb dL_locks_513 (by decide) ?_
  have hc : f_X4_mayChange M (3 : Int32) (12 : Int32) (8 : Int32) = some (.inr (1 : Int32), M) := s_mayChange h (by decide +kernel)
  refine kL_61R C hml hl.1 (c_X4_mayChange hlf hc) ⟨Nat.le_of_ble_eq_true rfl, Nat.le_of_ble_eq_true rfl⟩ ⟨by show _ ≤ 5662; omega, by show _ ≤ 34305; omega⟩ (Nat.le_of_ble_eq_true rfl) hS hW dL_locks_515 (fun H locs hW hS => ?_)
  refine lv_if_eq (tgt := 816) hx hb dL_locks_518 (by decide) (fun c => absurd c (by decide)) (fun _ => ?_)
  refine lv_aload_n hx hb dL_locks_521 rfl (lv_at hl 0 rfl) ?_
  refine lv_iconst (v := (3 : Int32)) hx hb dL_locks_522 (by decide) ?_
  refine lv_bipush (v := (12 : Int32)) hx hb dL_locks_523 (by decide) ?_
  refine lv_iconst (v := (4 : Int32)) hx hb dL_locks_525 (by decide) ?_
  have hc : f_X4_mayChange M (3 : Int32) (12 : Int32) (4 : Int32) = some (.inr (0 : Int32), M) := s_mayChange h (by decide +kernel)
  refine kL_61R C hml hl.1 (c_X4_mayChange hlf hc) ⟨Nat.le_of_ble_eq_true rfl, Nat.le_of_ble_eq_true rfl⟩ ⟨by show _ ≤ 5662; omega, by show _ ≤ 34305; omega⟩ (Nat.le_of_ble_eq_true rfl) hS hW dL_locks_526 (fun H locs hW hS => ?_)
  refine lv_if_ne (tgt := 816) hx hb dL_locks_529 (by decide) (fun c => absurd (by decide) c) (fun _ => ?_)
  refine lv_aload_n hx hb dL_locks_532 rfl (lv_at hl 0 rfl) ?_
  refine lv_iconst (v := (0 : Int32)) hx hb dL_locks_533 (by decide) ?_
  refine lv_bipush (v := (123 : Int32)) hx hb dL_locks_534 (by decide) ?_
  refine lv_iconst (v := (1 : Int32)) hx hb dL_locks_536 (by decide) ?_
  refine lv_iconst (v := (-1 : Int32)) hx hb dL_locks_537 (by decide) ?_
  refine lv_iconst (v := (0 : Int32)) hx hb dL_locks_538 (by decide) ?_
  obtain ⟨M1, hc1, h1⟩ := s_put V33 (4 : Int32) (c := (0 : Int32)) (x := (123 : Int32)) (ct := (1 : Int32)) (ex := (-1 : Int32)) (tks := (0 : Int32)) h (by decide +kernel)
  have hc1 : f_X4_put M (0 : Int32) (123 : Int32) (1 : Int32) (-1 : Int32) (0 : Int32) = some (.inr (4 : Int32), M1) := hc1
  refine kL_13R C hml hl.1 (c_X4_put hlf hc1) ⟨Nat.le_of_ble_eq_true rfl, Nat.le_of_ble_eq_true rfl⟩ ⟨by show _ ≤ 5662; omega, by show _ ≤ 34305; omega⟩ (Nat.le_of_ble_eq_true rfl) hS hW dL_locks_539 (fun H locs hW hS => ?_)
  refine lv_iconst (v := (4 : Int32)) hx hb dL_locks_542 (by decide) ?_
  refine lv_icmp_ne (tgt := 816) hx hb dL_locks_543 (by decide) (fun c => absurd (by decide) c) (fun _ => ?_)
  refine lv_aload_n hx hb dL_locks_546 rfl (lv_at hl 0 rfl) ?_
  refine lv_iconst (v := (1 : Int32)) hx hb dL_locks_547 (by decide) ?_
  refine lv_bipush (v := (123 : Int32)) hx hb dL_locks_548 (by decide) ?_
  refine lv_iconst (v := (2 : Int32)) hx hb dL_locks_550 (by decide) ?_
  obtain ⟨M2, hc2, h2⟩ := s_mk V33 (4 : Int32) (c := (1 : Int32)) (x := (123 : Int32)) (tks := (2 : Int32)) h1 (by decide +kernel)
  have hc2 : f_X4_makeCollection M1 (1 : Int32) (123 : Int32) (2 : Int32) = some (.inr (4 : Int32), M2) := hc2
  refine kL_7R C hml hl.1 (c_X4_makeCollection hlf hc2) ⟨Nat.le_of_ble_eq_true rfl, Nat.le_of_ble_eq_true rfl⟩ ⟨by show _ ≤ 5662; omega, by show _ ≤ 34305; omega⟩ (Nat.le_of_ble_eq_true rfl) hS hW dL_locks_551 (fun H locs hW hS => ?_)
  refine lv_iconst (v := (4 : Int32)) hx hb dL_locks_554 (by decide) ?_
  refine lv_icmp_ne (tgt := 816) hx hb dL_locks_555 (by decide) (fun c => absurd (by decide) c) (fun _ => ?_)
  exact t_locks_11 C hml hr hlk hlf h2 hS hW (lv_sub hl [0] rfl) ⟨by omega, by omega⟩
set_option maxHeartbeats 4000000 in
set_option maxRecDepth 100000 in
theorem t_locks_9 {p : Program} {l : Launch} {e : Env} {s : State} {m : MethodId} {args : Array Value} {below : List Frame} {meth : Method} {c : Code} {Z : Zt} {b : Nat} (C : Cx p s m args c cL_locks RL Z b) (hml : c.maxLocals = 1) (hr : meth.sig.returnType = some .boolean) (hlk : meth.locks = false) (hlf : l.stackTraces = false) {M : Mem} (h : RS M V33) {H : Heap} {locs : List Loc} {ls : Array Slot} {cells slots : Nat} (hS : va_S (A0 b) s.heap H locs) (hW : Wd Z b M H) (hl : lv_has ls 1 [(0, .ref (b + 0))]) (hcs : cells + 3644 ≤ 5662 ∧ slots + 21864 ≤ 34305) : W p l e rm_L_locks s m args below meth c H locs cells slots (MQ below (QT b) args s 5662 34305 (A0 b)) (F0 m 453 ls []) := by
  have hx := C.1
  have hb := C.2.1
  refine lv_aload_n hx hb dL_locks_453 rfl (lv_at hl 0 rfl) ?_
  refine lv_bipush (v := (11 : Int32)) hx hb dL_locks_454 (by decide) ?_
  refine lv_iconst (v := (3 : Int32)) hx hb dL_locks_456 (by decide) ?_
  refine lv_bipush (v := (12 : Int32)) hx hb dL_locks_457 (by decide) ?_
  refine lv_iconst (v := (5 : Int32)) hx hb dL_locks_459 (by decide) ?_
  refine lv_iconst (v := (0 : Int32)) hx hb dL_locks_460 (by decide) ?_
  have hc : f_L_act M (11 : Int32) (3 : Int32) (12 : Int32) (5 : Int32) (0 : Int32) = some ((-9003 : Int32), M) := by rw [act_11]; exact hnd_S (s_lockS false false h (by decide +kernel))
  refine kL_85 C hml hl.1 (c_L_act hlf hc) ⟨Nat.le_of_ble_eq_true rfl, Nat.le_of_ble_eq_true rfl⟩ ⟨by show _ ≤ 5662; omega, by show _ ≤ 34305; omega⟩ (Nat.le_of_ble_eq_true rfl) hS hW dL_locks_461 (fun H locs hW hS => ?_)
  refine lv_sipush (v := (-9003 : Int32)) hx hb dL_locks_464 (by decide) ?_
  refine lv_icmp_ne (tgt := 816) hx hb dL_locks_467 (by decide) (fun c => absurd (by decide) c) (fun _ => ?_)
  refine lv_aload_n hx hb dL_locks_470 rfl (lv_at hl 0 rfl) ?_
  refine lv_bipush (v := (11 : Int32)) hx hb dL_locks_471 (by decide) ?_
  refine lv_iconst (v := (2 : Int32)) hx hb dL_locks_473 (by decide) ?_
  refine lv_bipush (v := (12 : Int32)) hx hb dL_locks_474 (by decide) ?_
  refine lv_iconst (v := (5 : Int32)) hx hb dL_locks_476 (by decide) ?_
  refine lv_iconst (v := (4 : Int32)) hx hb dL_locks_477 (by decide) ?_
  have hc : f_L_act M (11 : Int32) (2 : Int32) (12 : Int32) (5 : Int32) (4 : Int32) = some ((-9003 : Int32), M) := by rw [act_11]; exact hnd_S (s_lockS false false h (by decide +kernel))
  refine kL_85 C hml hl.1 (c_L_act hlf hc) ⟨Nat.le_of_ble_eq_true rfl, Nat.le_of_ble_eq_true rfl⟩ ⟨by show _ ≤ 5662; omega, by show _ ≤ 34305; omega⟩ (Nat.le_of_ble_eq_true rfl) hS hW dL_locks_478 (fun H locs hW hS => ?_)
  refine lv_sipush (v := (-9003 : Int32)) hx hb dL_locks_481 (by decide) ?_
  refine lv_icmp_ne (tgt := 816) hx hb dL_locks_484 (by decide) (fun c => absurd (by decide) c) (fun _ => ?_)
  refine lv_aload_n hx hb dL_locks_487 rfl (lv_at hl 0 rfl) ?_
  refine lv_bipush (v := (12 : Int32)) hx hb dL_locks_488 (by decide) ?_
  have hc : f_X4_covering M (12 : Int32) = some (.inr (12 : Int32), M) := s_covering h (by decide +kernel)
  refine kL_58R C hml hl.1 (c_X4_covering hlf hc) ⟨Nat.le_of_ble_eq_true rfl, Nat.le_of_ble_eq_true rfl⟩ ⟨by show _ ≤ 5662; omega, by show _ ≤ 34305; omega⟩ (Nat.le_of_ble_eq_true rfl) hS hW dL_locks_490 (fun H locs hW hS => ?_)
  refine lv_bipush (v := (12 : Int32)) hx hb dL_locks_493 (by decide) ?_
  refine lv_icmp_ne (tgt := 816) hx hb dL_locks_495 (by decide) (fun c => absurd (by decide) c) (fun _ => ?_)
  refine lv_aload_n hx hb dL_locks_498 rfl (lv_at hl 0 rfl) ?_
  refine lv_iconst (v := (2 : Int32)) hx hb dL_locks_499 (by decide) ?_
  refine lv_bipush (v := (12 : Int32)) hx hb dL_locks_500 (by decide) ?_
  refine lv_iconst (v := (4 : Int32)) hx hb dL_locks_502 (by decide) ?_
  have hc : f_X4_mayChange M (2 : Int32) (12 : Int32) (4 : Int32) = some (.inr (1 : Int32), M) := s_mayChange h (by decide +kernel)
  refine kL_61R C hml hl.1 (c_X4_mayChange hlf hc) ⟨Nat.le_of_ble_eq_true rfl, Nat.le_of_ble_eq_true rfl⟩ ⟨by show _ ≤ 5662; omega, by show _ ≤ 34305; omega⟩ (Nat.le_of_ble_eq_true rfl) hS hW dL_locks_503 (fun H locs hW hS => ?_)
  refine lv_if_eq (tgt := 816) hx hb dL_locks_506 (by decide) (fun c => absurd c (by decide)) (fun _ => ?_)
  exact t_locks_10 C hml hr hlk hlf h hS hW (lv_sub hl [0] rfl) ⟨by omega, by omega⟩
set_option maxHeartbeats 4000000 in
set_option maxRecDepth 100000 in
theorem t_locks_8 {p : Program} {l : Launch} {e : Env} {s : State} {m : MethodId} {args : Array Value} {below : List Frame} {meth : Method} {c : Code} {Z : Zt} {b : Nat} (C : Cx p s m args c cL_locks RL Z b) (hml : c.maxLocals = 1) (hr : meth.sig.returnType = some .boolean) (hlk : meth.locks = false) (hlf : l.stackTraces = false) {M : Mem} (h : RS M V31) {H : Heap} {locs : List Loc} {ls : Array Slot} {cells slots : Nat} (hS : va_S (A0 b) s.heap H locs) (hW : Wd Z b M H) (hl : lv_has ls 1 [(0, .ref (b + 0))]) (hcs : cells + 3661 ≤ 5662 ∧ slots + 21966 ≤ 34305) : W p l e rm_L_locks s m args below meth c H locs cells slots (MQ below (QT b) args s 5662 34305 (A0 b)) (F0 m 404 ls []) := by
  have hx := C.1
  have hb := C.2.1
  refine lv_aload_n hx hb dL_locks_404 rfl (lv_at hl 0 rfl) ?_
  refine lv_iconst (v := (2 : Int32)) hx hb dL_locks_405 (by decide) ?_
  refine lv_bipush (v := (12 : Int32)) hx hb dL_locks_406 (by decide) ?_
  refine lv_iconst (v := (1 : Int32)) hx hb dL_locks_408 (by decide) ?_
  refine lv_iconst (v := (0 : Int32)) hx hb dL_locks_409 (by decide) ?_
  refine lv_bipush (v := (50 : Int32)) hx hb dL_locks_410 (by decide) ?_
  refine lv_iconst (v := (0 : Int32)) hx hb dL_locks_412 (by decide) ?_
  obtain ⟨M1, hc1, h1⟩ := s_lock V32 (2 : Int32) true false (c := (2 : Int32)) (x := (12 : Int32)) (y := (50 : Int32)) (tks := (0 : Int32)) h (by decide +kernel)
  have hc1 : f_X4_lock M (2 : Int32) (12 : Int32) (1 : Int32) (0 : Int32) (50 : Int32) (0 : Int32) = some (.inr (2 : Int32), M1) := hc1
  refine kL_48R C hml hl.1 (c_X4_lock hlf hc1) ⟨Nat.le_of_ble_eq_true rfl, Nat.le_of_ble_eq_true rfl⟩ ⟨by show _ ≤ 5662; omega, by show _ ≤ 34305; omega⟩ (Nat.le_of_ble_eq_true rfl) hS hW dL_locks_413 (fun H locs hW hS => ?_)
  refine lv_iconst (v := (2 : Int32)) hx hb dL_locks_416 (by decide) ?_
  refine lv_icmp_ne (tgt := 816) hx hb dL_locks_417 (by decide) (fun c => absurd (by decide) c) (fun _ => ?_)
  refine lv_aload_n hx hb dL_locks_420 rfl (lv_at hl 0 rfl) ?_
  refine lv_bipush (v := (19 : Int32)) hx hb dL_locks_421 (by decide) ?_
  refine lv_iconst (v := (3 : Int32)) hx hb dL_locks_423 (by decide) ?_
  refine lv_bipush (v := (12 : Int32)) hx hb dL_locks_424 (by decide) ?_
  refine lv_iconst (v := (1 : Int32)) hx hb dL_locks_426 (by decide) ?_
  refine lv_iconst (v := (0 : Int32)) hx hb dL_locks_427 (by decide) ?_
  have hc : f_L_act M1 (19 : Int32) (3 : Int32) (12 : Int32) (1 : Int32) (0 : Int32) = some ((-9003 : Int32), M1) := by rw [act_19, if_pos rfl]; exact hnd_S (s_lockS true true h1 (by decide +kernel))
  refine kL_85 C hml hl.1 (c_L_act hlf hc) ⟨Nat.le_of_ble_eq_true rfl, Nat.le_of_ble_eq_true rfl⟩ ⟨by show _ ≤ 5662; omega, by show _ ≤ 34305; omega⟩ (Nat.le_of_ble_eq_true rfl) hS hW dL_locks_428 (fun H locs hW hS => ?_)
  refine lv_sipush (v := (-9003 : Int32)) hx hb dL_locks_431 (by decide) ?_
  refine lv_icmp_ne (tgt := 816) hx hb dL_locks_434 (by decide) (fun c => absurd (by decide) c) (fun _ => ?_)
  refine lv_aload_n hx hb dL_locks_437 rfl (lv_at hl 0 rfl) ?_
  refine lv_iconst (v := (3 : Int32)) hx hb dL_locks_438 (by decide) ?_
  refine lv_bipush (v := (12 : Int32)) hx hb dL_locks_439 (by decide) ?_
  refine lv_iconst (v := (1 : Int32)) hx hb dL_locks_441 (by decide) ?_
  refine lv_iconst (v := (0 : Int32)) hx hb dL_locks_442 (by decide) ?_
  refine lv_bipush (v := (10 : Int32)) hx hb dL_locks_443 (by decide) ?_
  refine lv_iconst (v := (0 : Int32)) hx hb dL_locks_445 (by decide) ?_
  obtain ⟨M2, hc2, h2⟩ := s_lock V33 (3 : Int32) true false (c := (3 : Int32)) (x := (12 : Int32)) (y := (10 : Int32)) (tks := (0 : Int32)) h1 (by decide +kernel)
  have hc2 : f_X4_lock M1 (3 : Int32) (12 : Int32) (1 : Int32) (0 : Int32) (10 : Int32) (0 : Int32) = some (.inr (3 : Int32), M2) := hc2
  refine kL_48R C hml hl.1 (c_X4_lock hlf hc2) ⟨Nat.le_of_ble_eq_true rfl, Nat.le_of_ble_eq_true rfl⟩ ⟨by show _ ≤ 5662; omega, by show _ ≤ 34305; omega⟩ (Nat.le_of_ble_eq_true rfl) hS hW dL_locks_446 (fun H locs hW hS => ?_)
  refine lv_iconst (v := (3 : Int32)) hx hb dL_locks_449 (by decide) ?_
  refine lv_icmp_ne (tgt := 816) hx hb dL_locks_450 (by decide) (fun c => absurd (by decide) c) (fun _ => ?_)
  exact t_locks_9 C hml hr hlk hlf h2 hS hW (lv_sub hl [0] rfl) ⟨by omega, by omega⟩
set_option maxHeartbeats 4000000 in
set_option maxRecDepth 100000 in
theorem t_locks_7 {p : Program} {l : Launch} {e : Env} {s : State} {m : MethodId} {args : Array Value} {below : List Frame} {meth : Method} {c : Code} {Z : Zt} {b : Nat} (C : Cx p s m args c cL_locks RL Z b) (hml : c.maxLocals = 1) (hr : meth.sig.returnType = some .boolean) (hlk : meth.locks = false) (hlf : l.stackTraces = false) {M : Mem} (h : RS M V30) {H : Heap} {locs : List Loc} {ls : Array Slot} {cells slots : Nat} (hS : va_S (A0 b) s.heap H locs) (hW : Wd Z b M H) (hl : lv_has ls 1 [(0, .ref (b + 0))]) (hcs : cells + 3680 ≤ 5662 ∧ slots + 22080 ≤ 34305) : W p l e rm_L_locks s m args below meth c H locs cells slots (MQ below (QT b) args s 5662 34305 (A0 b)) (F0 m 353 ls []) := by
  have hx := C.1
  have hb := C.2.1
  refine lv_aload_n hx hb dL_locks_353 rfl (lv_at hl 0 rfl) ?_
  refine lv_bipush (v := (12 : Int32)) hx hb dL_locks_354 (by decide) ?_
  refine lv_iconst (v := (1 : Int32)) hx hb dL_locks_356 (by decide) ?_
  refine lv_iconst (v := (0 : Int32)) hx hb dL_locks_357 (by decide) ?_
  refine lv_iconst (v := (5 : Int32)) hx hb dL_locks_358 (by decide) ?_
  refine lv_iconst (v := (0 : Int32)) hx hb dL_locks_359 (by decide) ?_
  have hc : f_L_act M (12 : Int32) (1 : Int32) (0 : Int32) (5 : Int32) (0 : Int32) = some ((-9001 : Int32), M) := by rw [act_12]; exact hnd_B (s_refreshB h (by decide +kernel))
  refine kL_85 C hml hl.1 (c_L_act hlf hc) ⟨Nat.le_of_ble_eq_true rfl, Nat.le_of_ble_eq_true rfl⟩ ⟨by show _ ≤ 5662; omega, by show _ ≤ 34305; omega⟩ (Nat.le_of_ble_eq_true rfl) hS hW dL_locks_360 (fun H locs hW hS => ?_)
  refine lv_sipush (v := (-9001 : Int32)) hx hb dL_locks_363 (by decide) ?_
  refine lv_icmp_eq (tgt := 371) hx hb dL_locks_366 (by decide) (fun _ => ?_) (fun c => absurd (by decide) c)
  refine lv_aload_n hx hb dL_locks_371 rfl (lv_at hl 0 rfl) ?_
  refine lv_iconst (v := (1 : Int32)) hx hb dL_locks_372 (by decide) ?_
  refine lv_bipush (v := (121 : Int32)) hx hb dL_locks_373 (by decide) ?_
  refine lv_iconst (v := (0 : Int32)) hx hb dL_locks_375 (by decide) ?_
  refine lv_iconst (v := (0 : Int32)) hx hb dL_locks_376 (by decide) ?_
  refine lv_bipush (v := (100 : Int32)) hx hb dL_locks_377 (by decide) ?_
  refine lv_iconst (v := (0 : Int32)) hx hb dL_locks_379 (by decide) ?_
  obtain ⟨M1, hc1, h1⟩ := s_lock V31 (1 : Int32) false false (c := (1 : Int32)) (x := (121 : Int32)) (y := (100 : Int32)) (tks := (0 : Int32)) h (by decide +kernel)
  have hc1 : f_X4_lock M (1 : Int32) (121 : Int32) (0 : Int32) (0 : Int32) (100 : Int32) (0 : Int32) = some (.inr (1 : Int32), M1) := hc1
  refine kL_48R C hml hl.1 (c_X4_lock hlf hc1) ⟨Nat.le_of_ble_eq_true rfl, Nat.le_of_ble_eq_true rfl⟩ ⟨by show _ ≤ 5662; omega, by show _ ≤ 34305; omega⟩ (Nat.le_of_ble_eq_true rfl) hS hW dL_locks_380 (fun H locs hW hS => ?_)
  refine lv_iconst (v := (1 : Int32)) hx hb dL_locks_383 (by decide) ?_
  refine lv_icmp_ne (tgt := 816) hx hb dL_locks_384 (by decide) (fun c => absurd (by decide) c) (fun _ => ?_)
  refine lv_aload_n hx hb dL_locks_387 rfl (lv_at hl 0 rfl) ?_
  refine lv_bipush (v := (19 : Int32)) hx hb dL_locks_388 (by decide) ?_
  refine lv_iconst (v := (2 : Int32)) hx hb dL_locks_390 (by decide) ?_
  refine lv_bipush (v := (12 : Int32)) hx hb dL_locks_391 (by decide) ?_
  refine lv_iconst (v := (1 : Int32)) hx hb dL_locks_393 (by decide) ?_
  refine lv_iconst (v := (0 : Int32)) hx hb dL_locks_394 (by decide) ?_
  have hc : f_L_act M1 (19 : Int32) (2 : Int32) (12 : Int32) (1 : Int32) (0 : Int32) = some ((-9003 : Int32), M1) := by rw [act_19, if_pos rfl]; exact hnd_S (s_lockS true true h1 (by decide +kernel))
  refine kL_85 C hml hl.1 (c_L_act hlf hc) ⟨Nat.le_of_ble_eq_true rfl, Nat.le_of_ble_eq_true rfl⟩ ⟨by show _ ≤ 5662; omega, by show _ ≤ 34305; omega⟩ (Nat.le_of_ble_eq_true rfl) hS hW dL_locks_395 (fun H locs hW hS => ?_)
  refine lv_sipush (v := (-9003 : Int32)) hx hb dL_locks_398 (by decide) ?_
  refine lv_icmp_ne (tgt := 816) hx hb dL_locks_401 (by decide) (fun c => absurd (by decide) c) (fun _ => ?_)
  exact t_locks_8 C hml hr hlk hlf h1 hS hW (lv_sub hl [0] rfl) ⟨by omega, by omega⟩
set_option maxHeartbeats 4000000 in
set_option maxRecDepth 100000 in
theorem t_locks_6 {p : Program} {l : Launch} {e : Env} {s : State} {m : MethodId} {args : Array Value} {below : List Frame} {meth : Method} {c : Code} {Z : Zt} {b : Nat} (C : Cx p s m args c cL_locks RL Z b) (hml : c.maxLocals = 1) (hr : meth.sig.returnType = some .boolean) (hlk : meth.locks = false) (hlf : l.stackTraces = false) {M : Mem} (h : RS M V29) {H : Heap} {locs : List Loc} {ls : Array Slot} {cells slots : Nat} (hS : va_S (A0 b) s.heap H locs) (hW : Wd Z b M H) (hl : lv_has ls 1 [(0, .ref (b + 0))]) (hcs : cells + 3696 ≤ 5662 ∧ slots + 22176 ≤ 34305) : W p l e rm_L_locks s m args below meth c H locs cells slots (MQ below (QT b) args s 5662 34305 (A0 b)) (F0 m 304 ls []) := by
  have hx := C.1
  have hb := C.2.1
  refine lv_aload_n hx hb dL_locks_304 rfl (lv_at hl 0 rfl) ?_
  refine lv_iconst (v := (0 : Int32)) hx hb dL_locks_305 (by decide) ?_
  refine lv_bipush (v := (13 : Int32)) hx hb dL_locks_306 (by decide) ?_
  refine lv_bipush (v := (121 : Int32)) hx hb dL_locks_308 (by decide) ?_
  refine lv_iconst (v := (1 : Int32)) hx hb dL_locks_310 (by decide) ?_
  refine lv_iconst (v := (0 : Int32)) hx hb dL_locks_311 (by decide) ?_
  obtain ⟨M1, hc1, h1⟩ := s_copy V29 (4 : Int32) true (c := (0 : Int32)) (x := (13 : Int32)) (y := (121 : Int32)) (tks := (0 : Int32)) h (by decide +kernel)
  have hc1 : f_X4_copy M (0 : Int32) (13 : Int32) (121 : Int32) (1 : Int32) (0 : Int32) = some (.inr (4 : Int32), M1) := hc1
  refine kL_24R C hml hl.1 (c_X4_copy hlf hc1) ⟨Nat.le_of_ble_eq_true rfl, Nat.le_of_ble_eq_true rfl⟩ ⟨by show _ ≤ 5662; omega, by show _ ≤ 34305; omega⟩ (Nat.le_of_ble_eq_true rfl) hS hW dL_locks_312 (fun H locs hW hS => ?_)
  refine lv_iconst (v := (4 : Int32)) hx hb dL_locks_315 (by decide) ?_
  refine lv_icmp_ne (tgt := 369) hx hb dL_locks_316 (by decide) (fun c => absurd (by decide) c) (fun _ => ?_)
  refine lv_aload_n hx hb dL_locks_319 rfl (lv_at hl 0 rfl) ?_
  refine lv_iconst (v := (1 : Int32)) hx hb dL_locks_320 (by decide) ?_
  refine lv_bipush (v := (13 : Int32)) hx hb dL_locks_321 (by decide) ?_
  refine lv_bipush (v := (121 : Int32)) hx hb dL_locks_323 (by decide) ?_
  refine lv_iconst (v := (1 : Int32)) hx hb dL_locks_325 (by decide) ?_
  refine lv_iconst (v := (1 : Int32)) hx hb dL_locks_326 (by decide) ?_
  obtain ⟨M2, hc2, h2⟩ := s_copy V30 (0 : Int32) true (c := (1 : Int32)) (x := (13 : Int32)) (y := (121 : Int32)) (tks := (1 : Int32)) h1 (by decide +kernel)
  have hc2 : f_X4_copy M1 (1 : Int32) (13 : Int32) (121 : Int32) (1 : Int32) (1 : Int32) = some (.inr (0 : Int32), M2) := hc2
  refine kL_24R C hml hl.1 (c_X4_copy hlf hc2) ⟨Nat.le_of_ble_eq_true rfl, Nat.le_of_ble_eq_true rfl⟩ ⟨by show _ ≤ 5662; omega, by show _ ≤ 34305; omega⟩ (Nat.le_of_ble_eq_true rfl) hS hW dL_locks_327 (fun H locs hW hS => ?_)
  refine lv_if_ne (tgt := 369) hx hb dL_locks_330 (by decide) (fun c => absurd (by decide) c) (fun _ => ?_)
  refine lv_aload_n hx hb dL_locks_333 rfl (lv_at hl 0 rfl) ?_
  refine lv_bipush (v := (121 : Int32)) hx hb dL_locks_334 (by decide) ?_
  have hc : f_X4_covering M2 (121 : Int32) = some (.inr (0 : Int32), M2) := s_covering h2 (by decide +kernel)
  refine kL_58R C hml hl.1 (c_X4_covering hlf hc) ⟨Nat.le_of_ble_eq_true rfl, Nat.le_of_ble_eq_true rfl⟩ ⟨by show _ ≤ 5662; omega, by show _ ≤ 34305; omega⟩ (Nat.le_of_ble_eq_true rfl) hS hW dL_locks_336 (fun H locs hW hS => ?_)
  refine lv_if_ne (tgt := 369) hx hb dL_locks_339 (by decide) (fun c => absurd (by decide) c) (fun _ => ?_)
  refine lv_aload_n hx hb dL_locks_342 rfl (lv_at hl 0 rfl) ?_
  refine lv_bipush (v := (121 : Int32)) hx hb dL_locks_343 (by decide) ?_
  have hc : f_X4_content M2 (121 : Int32) = some (.inr (9 : Int32), M2) := s_content h2 (by decide +kernel)
  refine kL_34R C hml hl.1 (c_X4_content hlf hc) ⟨Nat.le_of_ble_eq_true rfl, Nat.le_of_ble_eq_true rfl⟩ ⟨by show _ ≤ 5662; omega, by show _ ≤ 34305; omega⟩ (Nat.le_of_ble_eq_true rfl) hS hW dL_locks_345 (fun H locs hW hS => ?_)
  refine lv_bipush (v := (9 : Int32)) hx hb dL_locks_348 (by decide) ?_
  refine lv_icmp_ne (tgt := 369) hx hb dL_locks_350 (by decide) (fun c => absurd (by decide) c) (fun _ => ?_)
  exact t_locks_7 C hml hr hlk hlf h2 hS hW (lv_sub hl [0] rfl) ⟨by omega, by omega⟩
set_option maxHeartbeats 4000000 in
set_option maxRecDepth 100000 in
theorem t_locks_5 {p : Program} {l : Launch} {e : Env} {s : State} {m : MethodId} {args : Array Value} {below : List Frame} {meth : Method} {c : Code} {Z : Zt} {b : Nat} (C : Cx p s m args c cL_locks RL Z b) (hml : c.maxLocals = 1) (hr : meth.sig.returnType = some .boolean) (hlk : meth.locks = false) (hlf : l.stackTraces = false) {M : Mem} (h : RS M V28) {H : Heap} {locs : List Loc} {ls : Array Slot} {cells slots : Nat} (hS : va_S (A0 b) s.heap H locs) (hW : Wd Z b M H) (hl : lv_has ls 1 [(0, .ref (b + 0))]) (hcs : cells + 3711 ≤ 5662 ∧ slots + 22266 ≤ 34305) : W p l e rm_L_locks s m args below meth c H locs cells slots (MQ below (QT b) args s 5662 34305 (A0 b)) (F0 m 259 ls []) := by
  have hx := C.1
  have hb := C.2.1
  refine lv_aload_n hx hb dL_locks_259 rfl (lv_at hl 0 rfl) ?_
  have hc : f_X4_failures M = some ((0 : Int32), M) := s_failures h (by decide +kernel)
  refine kL_81 C hml hl.1 (c_X4_failures hc) ⟨Nat.le_of_ble_eq_true rfl, Nat.le_of_ble_eq_true rfl⟩ ⟨by show _ ≤ 5662; omega, by show _ ≤ 34305; omega⟩ (Nat.le_of_ble_eq_true rfl) hS hW dL_locks_260 (fun H locs hW hS => ?_)
  refine lv_if_ne (tgt := 369) hx hb dL_locks_263 (by decide) (fun c => absurd (by decide) c) (fun _ => ?_)
  refine lv_aload_n hx hb dL_locks_266 rfl (lv_at hl 0 rfl) ?_
  refine lv_iconst (v := (0 : Int32)) hx hb dL_locks_267 (by decide) ?_
  refine lv_bipush (v := (121 : Int32)) hx hb dL_locks_268 (by decide) ?_
  refine lv_bipush (v := (13 : Int32)) hx hb dL_locks_270 (by decide) ?_
  refine lv_iconst (v := (0 : Int32)) hx hb dL_locks_272 (by decide) ?_
  refine lv_iconst (v := (0 : Int32)) hx hb dL_locks_273 (by decide) ?_
  obtain ⟨M1, hc1, h1⟩ := s_copy V29 (0 : Int32) false (c := (0 : Int32)) (x := (121 : Int32)) (y := (13 : Int32)) (tks := (0 : Int32)) h (by decide +kernel)
  have hc1 : f_X4_copy M (0 : Int32) (121 : Int32) (13 : Int32) (0 : Int32) (0 : Int32) = some (.inr (0 : Int32), M1) := hc1
  refine kL_24R C hml hl.1 (c_X4_copy hlf hc1) ⟨Nat.le_of_ble_eq_true rfl, Nat.le_of_ble_eq_true rfl⟩ ⟨by show _ ≤ 5662; omega, by show _ ≤ 34305; omega⟩ (Nat.le_of_ble_eq_true rfl) hS hW dL_locks_274 (fun H locs hW hS => ?_)
  refine lv_if_ne (tgt := 369) hx hb dL_locks_277 (by decide) (fun c => absurd (by decide) c) (fun _ => ?_)
  refine lv_aload_n hx hb dL_locks_280 rfl (lv_at hl 0 rfl) ?_
  refine lv_bipush (v := (13 : Int32)) hx hb dL_locks_281 (by decide) ?_
  have hc : f_X4_covering M1 (13 : Int32) = some (.inr (0 : Int32), M1) := s_covering h1 (by decide +kernel)
  refine kL_58R C hml hl.1 (c_X4_covering hlf hc) ⟨Nat.le_of_ble_eq_true rfl, Nat.le_of_ble_eq_true rfl⟩ ⟨by show _ ≤ 5662; omega, by show _ ≤ 34305; omega⟩ (Nat.le_of_ble_eq_true rfl) hS hW dL_locks_283 (fun H locs hW hS => ?_)
  refine lv_if_ne (tgt := 369) hx hb dL_locks_286 (by decide) (fun c => absurd (by decide) c) (fun _ => ?_)
  refine lv_aload_n hx hb dL_locks_289 rfl (lv_at hl 0 rfl) ?_
  refine lv_iconst (v := (0 : Int32)) hx hb dL_locks_290 (by decide) ?_
  refine lv_bipush (v := (121 : Int32)) hx hb dL_locks_291 (by decide) ?_
  refine lv_bipush (v := (14 : Int32)) hx hb dL_locks_293 (by decide) ?_
  refine lv_iconst (v := (0 : Int32)) hx hb dL_locks_295 (by decide) ?_
  refine lv_iconst (v := (0 : Int32)) hx hb dL_locks_296 (by decide) ?_
  obtain ⟨M2, hc2, h2⟩ := s_move V29 (4 : Int32) false (c := (0 : Int32)) (x := (121 : Int32)) (y := (14 : Int32)) (tks := (0 : Int32)) h1 (by decide +kernel)
  have hc2 : f_X4_move M1 (0 : Int32) (121 : Int32) (14 : Int32) (0 : Int32) (0 : Int32) = some (.inr (4 : Int32), M2) := hc2
  refine kL_28R C hml hl.1 (c_X4_move hlf hc2) ⟨Nat.le_of_ble_eq_true rfl, Nat.le_of_ble_eq_true rfl⟩ ⟨by show _ ≤ 5662; omega, by show _ ≤ 34305; omega⟩ (Nat.le_of_ble_eq_true rfl) hS hW dL_locks_297 (fun H locs hW hS => ?_)
  refine lv_iconst (v := (4 : Int32)) hx hb dL_locks_300 (by decide) ?_
  refine lv_icmp_ne (tgt := 369) hx hb dL_locks_301 (by decide) (fun c => absurd (by decide) c) (fun _ => ?_)
  exact t_locks_6 C hml hr hlk hlf h2 hS hW (lv_sub hl [0] rfl) ⟨by omega, by omega⟩
set_option maxHeartbeats 4000000 in
set_option maxRecDepth 100000 in
theorem t_locks_4 {p : Program} {l : Launch} {e : Env} {s : State} {m : MethodId} {args : Array Value} {below : List Frame} {meth : Method} {c : Code} {Z : Zt} {b : Nat} (C : Cx p s m args c cL_locks RL Z b) (hml : c.maxLocals = 1) (hr : meth.sig.returnType = some .boolean) (hlk : meth.locks = false) (hlf : l.stackTraces = false) {M : Mem} (h : RS M V27) {H : Heap} {locs : List Loc} {ls : Array Slot} {cells slots : Nat} (hS : va_S (A0 b) s.heap H locs) (hW : Wd Z b M H) (hl : lv_has ls 1 [(0, .ref (b + 0))]) (hcs : cells + 3721 ≤ 5662 ∧ slots + 22326 ≤ 34305) : W p l e rm_L_locks s m args below meth c H locs cells slots (MQ below (QT b) args s 5662 34305 (A0 b)) (F0 m 206 ls []) := by
  have hx := C.1
  have hb := C.2.1
  refine lv_aload_n hx hb dL_locks_206 rfl (lv_at hl 0 rfl) ?_
  refine lv_bipush (v := (122 : Int32)) hx hb dL_locks_207 (by decide) ?_
  have hc : f_X4_kindOf M (122 : Int32) = some (.inr (-1 : Int32), M) := s_kindOf h (by decide +kernel)
  refine kL_31R C hml hl.1 (c_X4_kindOf hlf hc) ⟨Nat.le_of_ble_eq_true rfl, Nat.le_of_ble_eq_true rfl⟩ ⟨by show _ ≤ 5662; omega, by show _ ≤ 34305; omega⟩ (Nat.le_of_ble_eq_true rfl) hS hW dL_locks_209 (fun H locs hW hS => ?_)
  refine lv_iconst (v := (-1 : Int32)) hx hb dL_locks_212 (by decide) ?_
  refine lv_icmp_ne (tgt := 369) hx hb dL_locks_213 (by decide) (fun c => absurd (by decide) c) (fun _ => ?_)
  refine lv_aload_n hx hb dL_locks_216 rfl (lv_at hl 0 rfl) ?_
  refine lv_bipush (v := (12 : Int32)) hx hb dL_locks_217 (by decide) ?_
  have hc : f_X4_kindOf M (12 : Int32) = some (.inr (2 : Int32), M) := s_kindOf h (by decide +kernel)
  refine kL_31R C hml hl.1 (c_X4_kindOf hlf hc) ⟨Nat.le_of_ble_eq_true rfl, Nat.le_of_ble_eq_true rfl⟩ ⟨by show _ ≤ 5662; omega, by show _ ≤ 34305; omega⟩ (Nat.le_of_ble_eq_true rfl) hS hW dL_locks_219 (fun H locs hW hS => ?_)
  refine lv_iconst (v := (2 : Int32)) hx hb dL_locks_222 (by decide) ?_
  refine lv_icmp_ne (tgt := 369) hx hb dL_locks_223 (by decide) (fun c => absurd (by decide) c) (fun _ => ?_)
  refine lv_aload_n hx hb dL_locks_226 rfl (lv_at hl 0 rfl) ?_
  refine lv_iconst (v := (0 : Int32)) hx hb dL_locks_227 (by decide) ?_
  refine lv_bipush (v := (12 : Int32)) hx hb dL_locks_228 (by decide) ?_
  refine lv_iconst (v := (0 : Int32)) hx hb dL_locks_230 (by decide) ?_
  obtain ⟨M1, hc1, h1⟩ := s_delete V27 (6 : Int32) true (c := (0 : Int32)) (x := (12 : Int32)) (tks := (0 : Int32)) h (by decide +kernel)
  have hc1 : f_X4_delete M (0 : Int32) (12 : Int32) (0 : Int32) = some (.inr (6 : Int32), M1) := hc1
  refine kL_17R C hml hl.1 (c_X4_delete hlf hc1) ⟨Nat.le_of_ble_eq_true rfl, Nat.le_of_ble_eq_true rfl⟩ ⟨by show _ ≤ 5662; omega, by show _ ≤ 34305; omega⟩ (Nat.le_of_ble_eq_true rfl) hS hW dL_locks_231 (fun H locs hW hS => ?_)
  refine lv_bipush (v := (6 : Int32)) hx hb dL_locks_234 (by decide) ?_
  refine lv_icmp_ne (tgt := 369) hx hb dL_locks_236 (by decide) (fun c => absurd (by decide) c) (fun _ => ?_)
  refine lv_aload_n hx hb dL_locks_239 rfl (lv_at hl 0 rfl) ?_
  have hc : f_X4_failures M1 = some ((1 : Int32), M1) := s_failures h1 (by decide +kernel)
  refine kL_81 C hml hl.1 (c_X4_failures hc) ⟨Nat.le_of_ble_eq_true rfl, Nat.le_of_ble_eq_true rfl⟩ ⟨by show _ ≤ 5662; omega, by show _ ≤ 34305; omega⟩ (Nat.le_of_ble_eq_true rfl) hS hW dL_locks_240 (fun H locs hW hS => ?_)
  refine lv_iconst (v := (1 : Int32)) hx hb dL_locks_243 (by decide) ?_
  refine lv_icmp_ne (tgt := 369) hx hb dL_locks_244 (by decide) (fun c => absurd (by decide) c) (fun _ => ?_)
  refine lv_aload_n hx hb dL_locks_247 rfl (lv_at hl 0 rfl) ?_
  refine lv_iconst (v := (0 : Int32)) hx hb dL_locks_248 (by decide) ?_
  refine lv_bipush (v := (121 : Int32)) hx hb dL_locks_249 (by decide) ?_
  refine lv_iconst (v := (0 : Int32)) hx hb dL_locks_251 (by decide) ?_
  obtain ⟨M2, hc2, h2⟩ := s_delete V28 (4 : Int32) false (c := (0 : Int32)) (x := (121 : Int32)) (tks := (0 : Int32)) h1 (by decide +kernel)
  have hc2 : f_X4_delete M1 (0 : Int32) (121 : Int32) (0 : Int32) = some (.inr (4 : Int32), M2) := hc2
  refine kL_17R C hml hl.1 (c_X4_delete hlf hc2) ⟨Nat.le_of_ble_eq_true rfl, Nat.le_of_ble_eq_true rfl⟩ ⟨by show _ ≤ 5662; omega, by show _ ≤ 34305; omega⟩ (Nat.le_of_ble_eq_true rfl) hS hW dL_locks_252 (fun H locs hW hS => ?_)
  refine lv_iconst (v := (4 : Int32)) hx hb dL_locks_255 (by decide) ?_
  refine lv_icmp_ne (tgt := 369) hx hb dL_locks_256 (by decide) (fun c => absurd (by decide) c) (fun _ => ?_)
  exact t_locks_5 C hml hr hlk hlf h2 hS hW (lv_sub hl [0] rfl) ⟨by omega, by omega⟩
set_option maxHeartbeats 4000000 in
set_option maxRecDepth 100000 in
theorem t_locks_3 {p : Program} {l : Launch} {e : Env} {s : State} {m : MethodId} {args : Array Value} {below : List Frame} {meth : Method} {c : Code} {Z : Zt} {b : Nat} (C : Cx p s m args c cL_locks RL Z b) (hml : c.maxLocals = 1) (hr : meth.sig.returnType = some .boolean) (hlk : meth.locks = false) (hlf : l.stackTraces = false) {M : Mem} (h : RS M V26) {H : Heap} {locs : List Loc} {ls : Array Slot} {cells slots : Nat} (hS : va_S (A0 b) s.heap H locs) (hW : Wd Z b M H) (hl : lv_has ls 1 [(0, .ref (b + 0))]) (hcs : cells + 5439 ≤ 5662 ∧ slots + 32634 ≤ 34305) : W p l e rm_L_locks s m args below meth c H locs cells slots (MQ below (QT b) args s 5662 34305 (A0 b)) (F0 m 151 ls []) := by
  have hx := C.1
  have hb := C.2.1
  refine lv_aload_n hx hb dL_locks_151 rfl (lv_at hl 0 rfl) ?_
  refine kL_92 C hml hl.1 (c_L_refuses hlf h) ⟨Nat.le_of_ble_eq_true rfl, Nat.le_of_ble_eq_true rfl⟩ ⟨by show _ ≤ 5662; omega, by show _ ≤ 34305; omega⟩ (Nat.le_of_ble_eq_true rfl) hS hW dL_locks_152 (fun H locs hW hS => ?_)
  refine lv_if_eq (tgt := 369) hx hb dL_locks_155 (by decide) (fun c => absurd c (by decide)) (fun _ => ?_)
  refine lv_aload_n hx hb dL_locks_158 rfl (lv_at hl 0 rfl) ?_
  refine lv_iconst (v := (0 : Int32)) hx hb dL_locks_159 (by decide) ?_
  refine lv_iconst (v := (1 : Int32)) hx hb dL_locks_160 (by decide) ?_
  refine lv_iconst (v := (0 : Int32)) hx hb dL_locks_161 (by decide) ?_
  obtain ⟨M1, hc1, h1⟩ := s_delete V27 (6 : Int32) true (c := (0 : Int32)) (x := (1 : Int32)) (tks := (0 : Int32)) h (by decide +kernel)
  have hc1 : f_X4_delete M (0 : Int32) (1 : Int32) (0 : Int32) = some (.inr (6 : Int32), M1) := hc1
  refine kL_17R C hml hl.1 (c_X4_delete hlf hc1) ⟨Nat.le_of_ble_eq_true rfl, Nat.le_of_ble_eq_true rfl⟩ ⟨by show _ ≤ 5662; omega, by show _ ≤ 34305; omega⟩ (Nat.le_of_ble_eq_true rfl) hS hW dL_locks_162 (fun H locs hW hS => ?_)
  refine lv_bipush (v := (6 : Int32)) hx hb dL_locks_165 (by decide) ?_
  refine lv_icmp_ne (tgt := 369) hx hb dL_locks_167 (by decide) (fun c => absurd (by decide) c) (fun _ => ?_)
  refine lv_aload_n hx hb dL_locks_170 rfl (lv_at hl 0 rfl) ?_
  have hc : f_X4_failures M1 = some ((1 : Int32), M1) := s_failures h1 (by decide +kernel)
  refine kL_81 C hml hl.1 (c_X4_failures hc) ⟨Nat.le_of_ble_eq_true rfl, Nat.le_of_ble_eq_true rfl⟩ ⟨by show _ ≤ 5662; omega, by show _ ≤ 34305; omega⟩ (Nat.le_of_ble_eq_true rfl) hS hW dL_locks_171 (fun H locs hW hS => ?_)
  refine lv_iconst (v := (1 : Int32)) hx hb dL_locks_174 (by decide) ?_
  refine lv_icmp_ne (tgt := 369) hx hb dL_locks_175 (by decide) (fun c => absurd (by decide) c) (fun _ => ?_)
  refine lv_aload_n hx hb dL_locks_178 rfl (lv_at hl 0 rfl) ?_
  refine lv_iconst (v := (0 : Int32)) hx hb dL_locks_179 (by decide) ?_
  have hc : f_X4_failureAt M1 (0 : Int32) = some (.inr (121 : Int32), M1) := s_failureAt 121 h1 (by decide +kernel)
  refine kL_20R C hml hl.1 (c_X4_failureAt hlf hc) ⟨Nat.le_of_ble_eq_true rfl, Nat.le_of_ble_eq_true rfl⟩ ⟨by show _ ≤ 5662; omega, by show _ ≤ 34305; omega⟩ (Nat.le_of_ble_eq_true rfl) hS hW dL_locks_180 (fun H locs hW hS => ?_)
  refine lv_bipush (v := (121 : Int32)) hx hb dL_locks_183 (by decide) ?_
  refine lv_icmp_ne (tgt := 369) hx hb dL_locks_185 (by decide) (fun c => absurd (by decide) c) (fun _ => ?_)
  refine lv_aload_n hx hb dL_locks_188 rfl (lv_at hl 0 rfl) ?_
  have hc : f_X4_resources M1 = some ((3 : Int32), M1) := s_resources h1 (by decide +kernel)
  refine kL_77 C hml hl.1 (c_X4_resources hc) ⟨Nat.le_of_ble_eq_true rfl, Nat.le_of_ble_eq_true rfl⟩ ⟨by show _ ≤ 5662; omega, by show _ ≤ 34305; omega⟩ (Nat.le_of_ble_eq_true rfl) hS hW dL_locks_189 (fun H locs hW hS => ?_)
  refine lv_iconst (v := (3 : Int32)) hx hb dL_locks_192 (by decide) ?_
  refine lv_icmp_ne (tgt := 369) hx hb dL_locks_193 (by decide) (fun c => absurd (by decide) c) (fun _ => ?_)
  refine lv_aload_n hx hb dL_locks_196 rfl (lv_at hl 0 rfl) ?_
  refine lv_bipush (v := (11 : Int32)) hx hb dL_locks_197 (by decide) ?_
  have hc : f_X4_kindOf M1 (11 : Int32) = some (.inr (-1 : Int32), M1) := s_kindOf h1 (by decide +kernel)
  refine kL_31R C hml hl.1 (c_X4_kindOf hlf hc) ⟨Nat.le_of_ble_eq_true rfl, Nat.le_of_ble_eq_true rfl⟩ ⟨by show _ ≤ 5662; omega, by show _ ≤ 34305; omega⟩ (Nat.le_of_ble_eq_true rfl) hS hW dL_locks_199 (fun H locs hW hS => ?_)
  refine lv_iconst (v := (-1 : Int32)) hx hb dL_locks_202 (by decide) ?_
  refine lv_icmp_ne (tgt := 369) hx hb dL_locks_203 (by decide) (fun c => absurd (by decide) c) (fun _ => ?_)
  exact t_locks_4 C hml hr hlk hlf h1 hS hW (lv_sub hl [0] rfl) ⟨by omega, by omega⟩
set_option maxHeartbeats 4000000 in
set_option maxRecDepth 100000 in
theorem t_locks_2 {p : Program} {l : Launch} {e : Env} {s : State} {m : MethodId} {args : Array Value} {below : List Frame} {meth : Method} {c : Code} {Z : Zt} {b : Nat} (C : Cx p s m args c cL_locks RL Z b) (hml : c.maxLocals = 1) (hr : meth.sig.returnType = some .boolean) (hlk : meth.locks = false) (hlf : l.stackTraces = false) {M : Mem} (h : RS M V25) {H : Heap} {locs : List Loc} {ls : Array Slot} {cells slots : Nat} (hS : va_S (A0 b) s.heap H locs) (hW : Wd Z b M H) (hl : lv_has ls 1 [(0, .ref (b + 0))]) (hcs : cells + 5455 ≤ 5662 ∧ slots + 32730 ≤ 34305) : W p l e rm_L_locks s m args below meth c H locs cells slots (MQ below (QT b) args s 5662 34305 (A0 b)) (F0 m 108 ls []) := by
  have hx := C.1
  have hb := C.2.1
  refine lv_aload_n hx hb dL_locks_108 rfl (lv_at hl 0 rfl) ?_
  refine lv_iconst (v := (1 : Int32)) hx hb dL_locks_109 (by decide) ?_
  refine lv_bipush (v := (121 : Int32)) hx hb dL_locks_110 (by decide) ?_
  refine lv_bipush (v := (9 : Int32)) hx hb dL_locks_112 (by decide) ?_
  refine lv_iconst (v := (-1 : Int32)) hx hb dL_locks_114 (by decide) ?_
  refine lv_iconst (v := (3 : Int32)) hx hb dL_locks_115 (by decide) ?_
  obtain ⟨M1, hc1, h1⟩ := s_put V26 (0 : Int32) (c := (1 : Int32)) (x := (121 : Int32)) (ct := (9 : Int32)) (ex := (-1 : Int32)) (tks := (3 : Int32)) h (by decide +kernel)
  have hc1 : f_X4_put M (1 : Int32) (121 : Int32) (9 : Int32) (-1 : Int32) (3 : Int32) = some (.inr (0 : Int32), M1) := hc1
  refine kL_13R C hml hl.1 (c_X4_put hlf hc1) ⟨Nat.le_of_ble_eq_true rfl, Nat.le_of_ble_eq_true rfl⟩ ⟨by show _ ≤ 5662; omega, by show _ ≤ 34305; omega⟩ (Nat.le_of_ble_eq_true rfl) hS hW dL_locks_116 (fun H locs hW hS => ?_)
  refine lv_if_ne (tgt := 369) hx hb dL_locks_119 (by decide) (fun c => absurd (by decide) c) (fun _ => ?_)
  refine lv_aload_n hx hb dL_locks_122 rfl (lv_at hl 0 rfl) ?_
  refine lv_iconst (v := (0 : Int32)) hx hb dL_locks_123 (by decide) ?_
  refine lv_bipush (v := (121 : Int32)) hx hb dL_locks_124 (by decide) ?_
  refine lv_bipush (v := (9 : Int32)) hx hb dL_locks_126 (by decide) ?_
  refine lv_bipush (v := (8 : Int32)) hx hb dL_locks_128 (by decide) ?_
  refine lv_iconst (v := (0 : Int32)) hx hb dL_locks_130 (by decide) ?_
  obtain ⟨M2, hc2, h2⟩ := s_put V26 (3 : Int32) (c := (0 : Int32)) (x := (121 : Int32)) (ct := (9 : Int32)) (ex := (8 : Int32)) (tks := (0 : Int32)) h1 (by decide +kernel)
  have hc2 : f_X4_put M1 (0 : Int32) (121 : Int32) (9 : Int32) (8 : Int32) (0 : Int32) = some (.inr (3 : Int32), M2) := hc2
  refine kL_13R C hml hl.1 (c_X4_put hlf hc2) ⟨Nat.le_of_ble_eq_true rfl, Nat.le_of_ble_eq_true rfl⟩ ⟨by show _ ≤ 5662; omega, by show _ ≤ 34305; omega⟩ (Nat.le_of_ble_eq_true rfl) hS hW dL_locks_131 (fun H locs hW hS => ?_)
  refine lv_iconst (v := (3 : Int32)) hx hb dL_locks_134 (by decide) ?_
  refine lv_icmp_ne (tgt := 369) hx hb dL_locks_135 (by decide) (fun c => absurd (by decide) c) (fun _ => ?_)
  refine lv_aload_n hx hb dL_locks_138 rfl (lv_at hl 0 rfl) ?_
  refine lv_iconst (v := (0 : Int32)) hx hb dL_locks_139 (by decide) ?_
  refine lv_bipush (v := (121 : Int32)) hx hb dL_locks_140 (by decide) ?_
  refine lv_iconst (v := (0 : Int32)) hx hb dL_locks_142 (by decide) ?_
  refine lv_iconst (v := (0 : Int32)) hx hb dL_locks_143 (by decide) ?_
  obtain ⟨M3, hc3, h3⟩ := s_restore V26 (1 : Int32) (c := (0 : Int32)) (x := (121 : Int32)) (y := (0 : Int32)) (tks := (0 : Int32)) h2 (by decide +kernel)
  have hc3 : f_X4_restore M2 (0 : Int32) (121 : Int32) (0 : Int32) (0 : Int32) = some (.inr (1 : Int32), M3) := hc3
  refine kL_68R C hml hl.1 (c_X4_restore hlf hc3) ⟨Nat.le_of_ble_eq_true rfl, Nat.le_of_ble_eq_true rfl⟩ ⟨by show _ ≤ 5662; omega, by show _ ≤ 34305; omega⟩ (Nat.le_of_ble_eq_true rfl) hS hW dL_locks_144 (fun H locs hW hS => ?_)
  refine lv_iconst (v := (1 : Int32)) hx hb dL_locks_147 (by decide) ?_
  refine lv_icmp_ne (tgt := 369) hx hb dL_locks_148 (by decide) (fun c => absurd (by decide) c) (fun _ => ?_)
  exact t_locks_3 C hml hr hlk hlf h3 hS hW (lv_sub hl [0] rfl) ⟨by omega, by omega⟩
set_option maxHeartbeats 4000000 in
set_option maxRecDepth 100000 in
theorem t_locks_1 {p : Program} {l : Launch} {e : Env} {s : State} {m : MethodId} {args : Array Value} {below : List Frame} {meth : Method} {c : Code} {Z : Zt} {b : Nat} (C : Cx p s m args c cL_locks RL Z b) (hml : c.maxLocals = 1) (hr : meth.sig.returnType = some .boolean) (hlk : meth.locks = false) (hlf : l.stackTraces = false) {M : Mem} (h : RS M V25) {H : Heap} {locs : List Loc} {ls : Array Slot} {cells slots : Nat} (hS : va_S (A0 b) s.heap H locs) (hW : Wd Z b M H) (hl : lv_has ls 1 [(0, .ref (b + 0))]) (hcs : cells + 5470 ≤ 5662 ∧ slots + 32820 ≤ 34305) : W p l e rm_L_locks s m args below meth c H locs cells slots (MQ below (QT b) args s 5662 34305 (A0 b)) (F0 m 60 ls []) := by
  have hx := C.1
  have hb := C.2.1
  refine lv_aload_n hx hb dL_locks_60 rfl (lv_at hl 0 rfl) ?_
  refine lv_iconst (v := (1 : Int32)) hx hb dL_locks_61 (by decide) ?_
  refine lv_bipush (v := (121 : Int32)) hx hb dL_locks_62 (by decide) ?_
  refine lv_iconst (v := (0 : Int32)) hx hb dL_locks_64 (by decide) ?_
  have hc : f_X4_mayChange M (1 : Int32) (121 : Int32) (0 : Int32) = some (.inr (0 : Int32), M) := s_mayChange h (by decide +kernel)
  refine kL_61R C hml hl.1 (c_X4_mayChange hlf hc) ⟨Nat.le_of_ble_eq_true rfl, Nat.le_of_ble_eq_true rfl⟩ ⟨by show _ ≤ 5662; omega, by show _ ≤ 34305; omega⟩ (Nat.le_of_ble_eq_true rfl) hS hW dL_locks_65 (fun H locs hW hS => ?_)
  refine lv_if_ne (tgt := 369) hx hb dL_locks_68 (by decide) (fun c => absurd (by decide) c) (fun _ => ?_)
  refine lv_aload_n hx hb dL_locks_71 rfl (lv_at hl 0 rfl) ?_
  refine lv_iconst (v := (0 : Int32)) hx hb dL_locks_72 (by decide) ?_
  refine lv_bipush (v := (121 : Int32)) hx hb dL_locks_73 (by decide) ?_
  refine lv_iconst (v := (1 : Int32)) hx hb dL_locks_75 (by decide) ?_
  have hc : f_X4_mayChange M (0 : Int32) (121 : Int32) (1 : Int32) = some (.inr (0 : Int32), M) := s_mayChange h (by decide +kernel)
  refine kL_61R C hml hl.1 (c_X4_mayChange hlf hc) ⟨Nat.le_of_ble_eq_true rfl, Nat.le_of_ble_eq_true rfl⟩ ⟨by show _ ≤ 5662; omega, by show _ ≤ 34305; omega⟩ (Nat.le_of_ble_eq_true rfl) hS hW dL_locks_76 (fun H locs hW hS => ?_)
  refine lv_if_ne (tgt := 369) hx hb dL_locks_79 (by decide) (fun c => absurd (by decide) c) (fun _ => ?_)
  refine lv_aload_n hx hb dL_locks_82 rfl (lv_at hl 0 rfl) ?_
  refine lv_iconst (v := (0 : Int32)) hx hb dL_locks_83 (by decide) ?_
  refine lv_bipush (v := (122 : Int32)) hx hb dL_locks_84 (by decide) ?_
  refine lv_iconst (v := (0 : Int32)) hx hb dL_locks_86 (by decide) ?_
  have hc : f_X4_mayChange M (0 : Int32) (122 : Int32) (0 : Int32) = some (.inr (1 : Int32), M) := s_mayChange h (by decide +kernel)
  refine kL_61R C hml hl.1 (c_X4_mayChange hlf hc) ⟨Nat.le_of_ble_eq_true rfl, Nat.le_of_ble_eq_true rfl⟩ ⟨by show _ ≤ 5662; omega, by show _ ≤ 34305; omega⟩ (Nat.le_of_ble_eq_true rfl) hS hW dL_locks_87 (fun H locs hW hS => ?_)
  refine lv_if_eq (tgt := 369) hx hb dL_locks_90 (by decide) (fun c => absurd c (by decide)) (fun _ => ?_)
  refine lv_aload_n hx hb dL_locks_93 rfl (lv_at hl 0 rfl) ?_
  refine lv_iconst (v := (0 : Int32)) hx hb dL_locks_94 (by decide) ?_
  refine lv_bipush (v := (121 : Int32)) hx hb dL_locks_95 (by decide) ?_
  refine lv_bipush (v := (9 : Int32)) hx hb dL_locks_97 (by decide) ?_
  refine lv_iconst (v := (-1 : Int32)) hx hb dL_locks_99 (by decide) ?_
  refine lv_iconst (v := (0 : Int32)) hx hb dL_locks_100 (by decide) ?_
  obtain ⟨M1, hc1, h1⟩ := s_put V25 (4 : Int32) (c := (0 : Int32)) (x := (121 : Int32)) (ct := (9 : Int32)) (ex := (-1 : Int32)) (tks := (0 : Int32)) h (by decide +kernel)
  have hc1 : f_X4_put M (0 : Int32) (121 : Int32) (9 : Int32) (-1 : Int32) (0 : Int32) = some (.inr (4 : Int32), M1) := hc1
  refine kL_13R C hml hl.1 (c_X4_put hlf hc1) ⟨Nat.le_of_ble_eq_true rfl, Nat.le_of_ble_eq_true rfl⟩ ⟨by show _ ≤ 5662; omega, by show _ ≤ 34305; omega⟩ (Nat.le_of_ble_eq_true rfl) hS hW dL_locks_101 (fun H locs hW hS => ?_)
  refine lv_iconst (v := (4 : Int32)) hx hb dL_locks_104 (by decide) ?_
  refine lv_icmp_ne (tgt := 369) hx hb dL_locks_105 (by decide) (fun c => absurd (by decide) c) (fun _ => ?_)
  exact t_locks_2 C hml hr hlk hlf h1 hS hW (lv_sub hl [0] rfl) ⟨by omega, by omega⟩
set_option maxHeartbeats 4000000 in
set_option maxRecDepth 100000 in
theorem t_locks_0 {p : Program} {l : Launch} {e : Env} {s : State} {m : MethodId} {args : Array Value} {below : List Frame} {meth : Method} {c : Code} {Z : Zt} {b : Nat} (C : Cx p s m args c cL_locks RL Z b) (hml : c.maxLocals = 1) (hr : meth.sig.returnType = some .boolean) (hlk : meth.locks = false) (hlf : l.stackTraces = false) {M : Mem} (h : RS M ([], [], 0, [])) {H : Heap} {locs : List Loc} {ls : Array Slot} {cells slots : Nat} (hS : va_S (A0 b) s.heap H locs) (hW : Wd Z b M H) (hl : lv_has ls 1 [(0, .ref (b + 0))]) (hcs : cells + 5506 ≤ 5662 ∧ slots + 33036 ≤ 34305) : W p l e rm_L_locks s m args below meth c H locs cells slots (MQ below (QT b) args s 5662 34305 (A0 b)) (F0 m 8 ls []) := by
  have hx := C.1
  have hb := C.2.1
  refine lv_aload_n hx hb dL_locks_8 rfl (lv_at hl 0 rfl) ?_
  obtain ⟨M1, h1, hc1⟩ := c_L_shelf (l := l) (Z := Z) (b := b) hlf h
  refine kL_99 C hml hl.1 hc1 ⟨Nat.le_of_ble_eq_true rfl, Nat.le_of_ble_eq_true rfl⟩ ⟨by show _ ≤ 5662; omega, by show _ ≤ 34305; omega⟩ (Nat.le_of_ble_eq_true rfl) hS hW dL_locks_9 (fun H locs hW hS => ?_)
  refine lv_if_eq (tgt := 369) hx hb dL_locks_12 (by decide) (fun c => absurd c (by decide)) (fun _ => ?_)
  refine lv_aload_n hx hb dL_locks_15 rfl (lv_at hl 0 rfl) ?_
  refine lv_iconst (v := (1 : Int32)) hx hb dL_locks_16 (by decide) ?_
  refine lv_bipush (v := (121 : Int32)) hx hb dL_locks_17 (by decide) ?_
  refine lv_iconst (v := (0 : Int32)) hx hb dL_locks_19 (by decide) ?_
  refine lv_iconst (v := (0 : Int32)) hx hb dL_locks_20 (by decide) ?_
  refine lv_bipush (v := (100 : Int32)) hx hb dL_locks_21 (by decide) ?_
  refine lv_iconst (v := (0 : Int32)) hx hb dL_locks_23 (by decide) ?_
  obtain ⟨M2, hc2, h2⟩ := s_lock V25 (0 : Int32) false false (c := (1 : Int32)) (x := (121 : Int32)) (y := (100 : Int32)) (tks := (0 : Int32)) h1 (by decide +kernel)
  have hc2 : f_X4_lock M1 (1 : Int32) (121 : Int32) (0 : Int32) (0 : Int32) (100 : Int32) (0 : Int32) = some (.inr (0 : Int32), M2) := hc2
  refine kL_48R C hml hl.1 (c_X4_lock hlf hc2) ⟨Nat.le_of_ble_eq_true rfl, Nat.le_of_ble_eq_true rfl⟩ ⟨by show _ ≤ 5662; omega, by show _ ≤ 34305; omega⟩ (Nat.le_of_ble_eq_true rfl) hS hW dL_locks_24 (fun H locs hW hS => ?_)
  refine lv_if_ne (tgt := 369) hx hb dL_locks_27 (by decide) (fun c => absurd (by decide) c) (fun _ => ?_)
  refine lv_aload_n hx hb dL_locks_30 rfl (lv_at hl 0 rfl) ?_
  refine lv_bipush (v := (121 : Int32)) hx hb dL_locks_31 (by decide) ?_
  have hc : f_X4_covering M2 (121 : Int32) = some (.inr (1 : Int32), M2) := s_covering h2 (by decide +kernel)
  refine kL_58R C hml hl.1 (c_X4_covering hlf hc) ⟨Nat.le_of_ble_eq_true rfl, Nat.le_of_ble_eq_true rfl⟩ ⟨by show _ ≤ 5662; omega, by show _ ≤ 34305; omega⟩ (Nat.le_of_ble_eq_true rfl) hS hW dL_locks_33 (fun H locs hW hS => ?_)
  refine lv_iconst (v := (1 : Int32)) hx hb dL_locks_36 (by decide) ?_
  refine lv_icmp_ne (tgt := 369) hx hb dL_locks_37 (by decide) (fun c => absurd (by decide) c) (fun _ => ?_)
  refine lv_aload_n hx hb dL_locks_40 rfl (lv_at hl 0 rfl) ?_
  refine lv_bipush (v := (12 : Int32)) hx hb dL_locks_41 (by decide) ?_
  have hc : f_X4_covering M2 (12 : Int32) = some (.inr (0 : Int32), M2) := s_covering h2 (by decide +kernel)
  refine kL_58R C hml hl.1 (c_X4_covering hlf hc) ⟨Nat.le_of_ble_eq_true rfl, Nat.le_of_ble_eq_true rfl⟩ ⟨by show _ ≤ 5662; omega, by show _ ≤ 34305; omega⟩ (Nat.le_of_ble_eq_true rfl) hS hW dL_locks_43 (fun H locs hW hS => ?_)
  refine lv_if_ne (tgt := 369) hx hb dL_locks_46 (by decide) (fun c => absurd (by decide) c) (fun _ => ?_)
  refine lv_aload_n hx hb dL_locks_49 rfl (lv_at hl 0 rfl) ?_
  refine lv_iconst (v := (1 : Int32)) hx hb dL_locks_50 (by decide) ?_
  refine lv_bipush (v := (121 : Int32)) hx hb dL_locks_51 (by decide) ?_
  refine lv_iconst (v := (1 : Int32)) hx hb dL_locks_53 (by decide) ?_
  have hc : f_X4_mayChange M2 (1 : Int32) (121 : Int32) (1 : Int32) = some (.inr (1 : Int32), M2) := s_mayChange h2 (by decide +kernel)
  refine kL_61R C hml hl.1 (c_X4_mayChange hlf hc) ⟨Nat.le_of_ble_eq_true rfl, Nat.le_of_ble_eq_true rfl⟩ ⟨by show _ ≤ 5662; omega, by show _ ≤ 34305; omega⟩ (Nat.le_of_ble_eq_true rfl) hS hW dL_locks_54 (fun H locs hW hS => ?_)
  refine lv_if_eq (tgt := 369) hx hb dL_locks_57 (by decide) (fun c => absurd c (by decide)) (fun _ => ?_)
  exact t_locks_1 C hml hr hlk hlf h2 hS hW (lv_sub hl [0] rfl) ⟨by omega, by omega⟩
set_option maxHeartbeats 4000000 in
set_option maxRecDepth 100000 in
theorem c_L_locks {l : Launch} (hlf : l.stackTraces = false) {Z : Zt} {b : Nat} : CtT l yL_locks cL_locks 1 rm_L_locks 5662 34305 Z b := by
  refine Met.ofW (cc := cL_locks) (maxL := 1) (ret := (some .boolean)) (by decide) rfl ?_
  intro p e s m args below meth c s₁ B hml hv
  obtain ⟨rfl, hE, hbs⟩ := hv
  have C : Cx p s m ([] : List Value).toArray c cL_locks RL Z b := ⟨B.exec, B.bytes, findClass_of_methodNamed B.named, fun w hw => atoms_spec (ws := Cond.code yL_locks cL_locks 1 (some .boolean) :: wsA) B.pre w (List.mem_cons_of_mem _ hw), hE.1⟩
  have hx := C.1
  have hb := C.2.1
  have hP : Pw Z b 0 (fun _ => srv .null .null .null) s.heap := ⟨by omega, fun k q hq => by obtain ⟨hk, -⟩ := pwl_at hq; omega⟩
  have hl := lv_entry ([] : List Value) (n := 1) (Nat.le_of_ble_eq_true rfl)
  rw [lg_entry_eq]
  generalize (lg_sl ([] : List Value) ++ List.replicate (1 - (lg_sl ([] : List Value)).length) Slot.unset).toArray = ls at hl ⊢
  have hl : lv_has ls 1 [] := hl
  refine nw_obj (ci := 4) (fs := [.null, .null, .null, .int 0]) (C := RX4) (T := TX4) (N := 4) hx hb C.2.2.2.1 inaX4 tyX4 tyX4_ok C.2.2.1 (C.2.2.2.1 _ q54) (C.2.2.2.1 _ q55) (C.2.2.2.1 _ q43) C.2.2.2.2.1 hP va_S.rf rfl (fun j hj => by rcases (show j = 0 ∨ j = 1 ∨ j = 2 ∨ j = 3 by omega) with rfl | rfl | rfl | rfl <;> rfl) (Nat.le_of_ble_eq_true rfl) (Nat.le_of_ble_eq_true rfl) dL_locks_0 (fun H1 hP hS => ?_)
  refine lv_dup hx hb dL_locks_3 rfl ?_
  refine cl_goI (va_runI (As := []) (b := b + 0) ⟨hx, hb, hml, C.2.2.1, C.2.2.2.1⟩ (c_X4_init (vup_s _ _ _)) (cwI 0 C.2.2.2.1 (gN q58) rfl rfl rfl (C.2.2.2.1 _ q43) (C.2.2.2.1 _ q56) (C.2.2.2.1 _ q57) rfl (by decide +kernel) ⟨Nat.le_of_ble_eq_true rfl, Nat.le_of_ble_eq_true rfl⟩) ⟨Prei.blind _ _ _ _ _, fun U hU hWU => ⟨rfl, hE.call hS hU hWU, by rw [hU]; exact hP⟩⟩ rfl rfl hl.1 rfl (lv_room (Nat.le_of_ble_eq_true rfl)) dL_locks_4 ⟨Nat.le_of_ble_eq_true rfl, Nat.le_of_ble_eq_true rfl⟩) hS (fun H1 locs hP hS => ?_)
  refine lv_astore_n (lv' := [(0, .ref (b + 0))]) hx hb dL_locks_7 rfl hl (by decide) rfl (fun ls hl => ?_)
  have hW : Wd Z b M0 H1 := eZ_Wd hP
  exact t_locks_0 C hml B.returns B.notSynchronized hlf RS_0 hS hW hl ⟨by omega, by omega⟩

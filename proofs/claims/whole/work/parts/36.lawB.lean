def f_L_law_955 (xs : Nat → Int32) (L : Nat) (K23 : Mem → Int32 → Option (Int32 × Mem)) (M : Mem) (x4 : Int32) : Option (Int32 × Mem) :=
  f_L_law_1627 xs L K23 M x4
set_option maxHeartbeats 4000000 in
set_option maxRecDepth 100000 in
theorem w_L_law_955 {p : Program} {l : Launch} {e : Env} {s : State} {m : MethodId} {below : List Frame} {meth : Method} {c : Code} {Z : Zt} {b sb L : Nat} {xs : Nat → Int32} (C : Cx p s m #[Value.ref sb] c cL_law RL Z b) (hml : c.maxLocals = 7) (hr : meth.sig.returnType = ret) (hlk : meth.locks = false) (hlf : l.stackTraces = false) (hX : va_X sb L xs s s.heap) (hbl : sb < s.heap.size) (hbb : b = s.heap.size) (n : Nat) {K23 : Mem → Int32 → Option (Int32 × Mem)} (hK23 : ∀ {M : Mem} {x4 : Int32} {M' : Mem} (h : K23 M x4 = some (1, M')) {H : Heap} {locs : List Loc} {ls : Array Slot} {cells slots : Nat} (hS : va_S (A0 b) s.heap H locs) (hW : Wd Z b M H) (hl : lv_has ls 7 [(0, .ref sb), (1, .ref (b + 0)), (2, .ref (b + 156)), (3, .ref (b + 172)), (4, .int x4)]) (hcs : cells + 8 * n ≤ 601024 ∧ slots + 48 * n ≤ 7293034), W p l e room_1 s m #[Value.ref sb] below meth c H locs cells slots (lw_Z below #[Value.ref sb] s) (F0 m 23 ls [])) {M : Mem} {x4 : Int32} {M' : Mem} (h : f_L_law_955 xs L K23 M x4 = some (1, M')) {H : Heap} {locs : List Loc} {ls : Array Slot} {cells slots : Nat} (hS : va_S (A0 b) s.heap H locs) (hW : Wd Z b M H) (hl : lv_has ls 7 [(0, .ref sb), (1, .ref (b + 0)), (2, .ref (b + 156)), (3, .ref (b + 172)), (4, .int x4)]) (hcs : cells + 6 + 8 * n ≤ 601024 ∧ slots + 36 + 48 * n ≤ 7293034) : W p l e room_1 s m #[Value.ref sb] below meth c H locs cells slots (lw_Z below #[Value.ref sb] s) (F0 m 955 ls []) := by
  unfold f_L_law_955 at h
  have hx := C.1
  have hb := C.2.1
  have hbA : ¬ A0 b sb := by unfold A0; omega
  refine lv_goto (tgt := 1627) hx hb dL_law_955 (by decide) ?_
  exact w_L_law_1627 C hml hr hlk hlf hX hbl hbb n hK23 h hS hW (lv_sub hl [0, 1, 2, 3, 4] rfl) ⟨by omega, by omega⟩
def f_L_law_890 (xs : Nat → Int32) (L : Nat) (K23 : Mem → Int32 → Option (Int32 × Mem)) (M : Mem) (x4 : Int32) : Option (Int32 × Mem) :=
  if (x4 + (1 : Int32)) < 0 ∨ L ≤ (x4 + (1 : Int32)).toNatClampNeg then none else if (x4 + (2 : Int32)) < 0 ∨ L ≤ (x4 + (2 : Int32)).toNatClampNeg then none else bd2 (f_L_memberAt M (xs (x4 + (1 : Int32)).toNatClampNeg) (xs (x4 + (2 : Int32)).toNatClampNeg)) (fun r904 M904 => if (x4 + (1 : Int32)) < 0 ∨ L ≤ (x4 + (1 : Int32)).toNatClampNeg then none else if (x4 + (2 : Int32)) < 0 ∨ L ≤ (x4 + (2 : Int32)).toNatClampNeg then none else bd2 (f_X5_memberAt M904 (xs (x4 + (1 : Int32)).toNatClampNeg) (xs (x4 + (2 : Int32)).toNatClampNeg)) (fun r922 M922 => bd2 (f_X5_thrown M922) (fun r928 M928 => if r928 = r904 then (if r904 = 0 then (if (0 : Int32) < 0 ∨ 1 ≤ (0 : Int32).toNatClampNeg then none else if (lg_cmp (M928 40 (0 : Int32).toNatClampNeg).toInt64 r922.toInt64) = 0 then f_L_law_955 xs L K23 M928 x4 else some ((0 : Int32), M928)) else f_L_law_955 xs L K23 M928 x4) else some ((0 : Int32), M928))))
set_option maxHeartbeats 4000000 in
set_option maxRecDepth 100000 in
theorem w_L_law_890 {p : Program} {l : Launch} {e : Env} {s : State} {m : MethodId} {below : List Frame} {meth : Method} {c : Code} {Z : Zt} {b sb L : Nat} {xs : Nat → Int32} (C : Cx p s m #[Value.ref sb] c cL_law RL Z b) (hml : c.maxLocals = 7) (hr : meth.sig.returnType = ret) (hlk : meth.locks = false) (hlf : l.stackTraces = false) (hX : va_X sb L xs s s.heap) (hbl : sb < s.heap.size) (hbb : b = s.heap.size) (n : Nat) {K23 : Mem → Int32 → Option (Int32 × Mem)} (hK23 : ∀ {M : Mem} {x4 : Int32} {M' : Mem} (h : K23 M x4 = some (1, M')) {H : Heap} {locs : List Loc} {ls : Array Slot} {cells slots : Nat} (hS : va_S (A0 b) s.heap H locs) (hW : Wd Z b M H) (hl : lv_has ls 7 [(0, .ref sb), (1, .ref (b + 0)), (2, .ref (b + 156)), (3, .ref (b + 172)), (4, .int x4)]) (hcs : cells + 8 * n ≤ 601024 ∧ slots + 48 * n ≤ 7293034), W p l e room_1 s m #[Value.ref sb] below meth c H locs cells slots (lw_Z below #[Value.ref sb] s) (F0 m 23 ls [])) {M : Mem} {x4 : Int32} {M' : Mem} (h : f_L_law_890 xs L K23 M x4 = some (1, M')) {H : Heap} {locs : List Loc} {ls : Array Slot} {cells slots : Nat} (hS : va_S (A0 b) s.heap H locs) (hW : Wd Z b M H) (hl : lv_has ls 7 [(0, .ref sb), (1, .ref (b + 0)), (2, .ref (b + 156)), (3, .ref (b + 172)), (4, .int x4)]) (hcs : cells + 8 + 8 * n ≤ 601024 ∧ slots + 48 + 48 * n ≤ 7293034) : W p l e room_1 s m #[Value.ref sb] below meth c H locs cells slots (lw_Z below #[Value.ref sb] s) (F0 m 890 ls []) := by
  unfold f_L_law_890 at h
  have hx := C.1
  have hb := C.2.1
  have hbA : ¬ A0 b sb := by unfold A0; omega
  refine lv_aload_n hx hb dL_law_890 rfl (lv_at hl 1 rfl) ?_
  refine lv_aload_n hx hb dL_law_891 rfl (lv_at hl 0 rfl) ?_
  refine lv_iload hx hb dL_law_892 (lv_at hl 4 rfl) ?_
  refine lv_iconst (v := (1 : Int32)) hx hb dL_law_894 (by decide) ?_
  refine lv_iadd hx hb dL_law_895 ?_
  obtain ⟨g896, h⟩ := gd h
  refine va_sld hx hb hX hbl hbA hS g896 dL_law_896 ?_
  refine lv_aload_n hx hb dL_law_897 rfl (lv_at hl 0 rfl) ?_
  refine lv_iload hx hb dL_law_898 (lv_at hl 4 rfl) ?_
  refine lv_iconst (v := (2 : Int32)) hx hb dL_law_900 (by decide) ?_
  refine lv_iadd hx hb dL_law_901 ?_
  obtain ⟨g902, h⟩ := gd h
  refine va_sld hx hb hX hbl hbA hS g902 dL_law_902 ?_
  refine lv_aload_n hx hb dL_law_903 rfl (lv_at hl 3 rfl) ?_
  obtain ⟨r904, M904, hc904, h⟩ := bd2_e h
  refine kL_126 C hml hl.1 (c_L_memberAt hlf hc904) ⟨Nat.le_of_ble_eq_true rfl, Nat.le_of_ble_eq_true rfl⟩ ⟨by show _ ≤ 601024; omega, by show _ ≤ 7293034; omega⟩ (Nat.le_of_ble_eq_true rfl) hS hW dL_law_904 (fun H locs hW hS => ?_)
  refine lv_istore (lv' := [(5, .int r904), (0, .ref sb), (1, .ref (b + 0)), (2, .ref (b + 156)), (3, .ref (b + 172)), (4, .int x4)]) hx hb dL_law_907 hl (by decide) rfl (fun ls hl => ?_)
  refine lv_aload_n hx hb dL_law_909 rfl (lv_at hl 3 rfl) ?_
  refine lv_aload_n hx hb dL_law_910 rfl (lv_at hl 1 rfl) ?_
  refine lv_iload hx hb dL_law_911 (lv_at hl 5 rfl) ?_
  refine lv_iconst (v := (1 : Int32)) hx hb dL_law_913 (by decide) ?_
  refine lv_iadd hx hb dL_law_914 ?_
  obtain ⟨g915, h⟩ := gd h
  refine va_sld hx hb hX hbl hbA hS g915 dL_law_915 ?_
  refine lv_aload_n hx hb dL_law_916 rfl (lv_at hl 1 rfl) ?_
  refine lv_iload hx hb dL_law_917 (lv_at hl 5 rfl) ?_
  refine lv_iconst (v := (2 : Int32)) hx hb dL_law_919 (by decide) ?_
  refine lv_iadd hx hb dL_law_920 ?_
  obtain ⟨g921, h⟩ := gd h
  refine va_sld hx hb hX hbl hbA hS g921 dL_law_921 ?_
  obtain ⟨r922, M922, hc922, h⟩ := bd2_e h
  refine kL_129 C hml hl.1 (c_X5_memberAt hc922) ⟨Nat.le_of_ble_eq_true rfl, Nat.le_of_ble_eq_true rfl⟩ ⟨by show _ ≤ 601024; omega, by show _ ≤ 7293034; omega⟩ (Nat.le_of_ble_eq_true rfl) hS hW dL_law_922 (fun H locs hW hS => ?_)
  refine lv_istore (lv' := [(6, .int r922), (5, .int r904), (0, .ref sb), (1, .ref (b + 0)), (2, .ref (b + 156)), (3, .ref (b + 172)), (4, .int x4)]) hx hb dL_law_925 hl (by decide) rfl (fun ls hl => ?_)
  refine lv_aload_n hx hb dL_law_927 rfl (lv_at hl 4 rfl) ?_
  obtain ⟨r928, M928, hc928, h⟩ := bd2_e h
  refine kL_87 C hml hl.1 (c_X5_thrown hc928) ⟨Nat.le_of_ble_eq_true rfl, Nat.le_of_ble_eq_true rfl⟩ ⟨by show _ ≤ 601024; omega, by show _ ≤ 7293034; omega⟩ (Nat.le_of_ble_eq_true rfl) hS hW dL_law_928 (fun H locs hW hS => ?_)
  refine lv_iload hx hb dL_law_931 (lv_at hl 1 rfl) ?_
  refine lv_icmp_eq (tgt := 938) hx hb dL_law_933 (by decide) (fun c933 => ?_) (fun c933 => ?_)
  · have h := (if_pos c933).symm.trans h
    refine lv_iload hx hb dL_law_938 (lv_at hl 1 rfl) ?_
    refine lv_if_ne (tgt := 955) hx hb dL_law_940 (by decide) (fun c940 => ?_) (fun c940 => ?_)
    · have h := (if_neg c940).symm.trans h
      exact w_L_law_955 C hml hr hlk hlf hX hbl hbb n hK23 h hS hW (lv_sub hl [2, 3, 4, 5, 6] rfl) ⟨by omega, by omega⟩
    · have h := (if_pos c940).symm.trans h
      refine lv_aload_n hx hb dL_law_943 rfl (lv_at hl 5 rfl) ?_
      refine lv_iconst (v := (0 : Int32)) hx hb dL_law_944 (by decide) ?_
      obtain ⟨g945, h⟩ := gd h
      refine ald_172 C hW g945 dL_law_945 ?_
      refine lv_iload hx hb dL_law_946 (lv_at hl 0 rfl) ?_
      refine lv_i2l (v := r922.toInt64) hx hb dL_law_948 rfl ?_
      refine W.lcmp hx hb dL_law_949 ?_
      refine lv_if_eq (tgt := 955) hx hb dL_law_950 (by decide) (fun c950 => ?_) (fun c950 => ?_)
      · have h := (if_pos c950).symm.trans h
        exact w_L_law_955 C hml hr hlk hlf hX hbl hbb n hK23 h hS hW (lv_sub hl [2, 3, 4, 5, 6] rfl) ⟨by omega, by omega⟩
      · have h := (if_neg c950).symm.trans h
        refine lv_iconst (v := (0 : Int32)) hx hb dL_law_953 (by decide) ?_
        exact absurd (show (0 : Int32) = 1 from congrArg Prod.fst (Option.some.inj h)) (by decide)
  · have h := (if_neg c933).symm.trans h
    refine lv_iconst (v := (0 : Int32)) hx hb dL_law_936 (by decide) ?_
    exact absurd (show (0 : Int32) = 1 from congrArg Prod.fst (Option.some.inj h)) (by decide)
def f_L_law_1047 (xs : Nat → Int32) (L : Nat) (K23 : Mem → Int32 → Option (Int32 × Mem)) (M : Mem) (x4 : Int32) : Option (Int32 × Mem) :=
  f_L_law_1627 xs L K23 M x4
set_option maxHeartbeats 4000000 in
set_option maxRecDepth 100000 in
theorem w_L_law_1047 {p : Program} {l : Launch} {e : Env} {s : State} {m : MethodId} {below : List Frame} {meth : Method} {c : Code} {Z : Zt} {b sb L : Nat} {xs : Nat → Int32} (C : Cx p s m #[Value.ref sb] c cL_law RL Z b) (hml : c.maxLocals = 7) (hr : meth.sig.returnType = ret) (hlk : meth.locks = false) (hlf : l.stackTraces = false) (hX : va_X sb L xs s s.heap) (hbl : sb < s.heap.size) (hbb : b = s.heap.size) (n : Nat) {K23 : Mem → Int32 → Option (Int32 × Mem)} (hK23 : ∀ {M : Mem} {x4 : Int32} {M' : Mem} (h : K23 M x4 = some (1, M')) {H : Heap} {locs : List Loc} {ls : Array Slot} {cells slots : Nat} (hS : va_S (A0 b) s.heap H locs) (hW : Wd Z b M H) (hl : lv_has ls 7 [(0, .ref sb), (1, .ref (b + 0)), (2, .ref (b + 156)), (3, .ref (b + 172)), (4, .int x4)]) (hcs : cells + 8 * n ≤ 601024 ∧ slots + 48 * n ≤ 7293034), W p l e room_1 s m #[Value.ref sb] below meth c H locs cells slots (lw_Z below #[Value.ref sb] s) (F0 m 23 ls [])) {M : Mem} {x4 : Int32} {M' : Mem} (h : f_L_law_1047 xs L K23 M x4 = some (1, M')) {H : Heap} {locs : List Loc} {ls : Array Slot} {cells slots : Nat} (hS : va_S (A0 b) s.heap H locs) (hW : Wd Z b M H) (hl : lv_has ls 7 [(0, .ref sb), (1, .ref (b + 0)), (2, .ref (b + 156)), (3, .ref (b + 172)), (4, .int x4)]) (hcs : cells + 3 + 8 * n ≤ 601024 ∧ slots + 18 + 48 * n ≤ 7293034) : W p l e room_1 s m #[Value.ref sb] below meth c H locs cells slots (lw_Z below #[Value.ref sb] s) (F0 m 1047 ls []) := by
  unfold f_L_law_1047 at h
  have hx := C.1
  have hb := C.2.1
  have hbA : ¬ A0 b sb := by unfold A0; omega
  refine lv_goto (tgt := 1627) hx hb dL_law_1047 (by decide) ?_
  exact w_L_law_1627 C hml hr hlk hlf hX hbl hbb n hK23 h hS hW (lv_sub hl [0, 1, 2, 3, 4] rfl) ⟨by omega, by omega⟩
def f_L_law_958 (xs : Nat → Int32) (L : Nat) (K23 : Mem → Int32 → Option (Int32 × Mem)) (M : Mem) (x4 : Int32) : Option (Int32 × Mem) :=
  if (x4 + (1 : Int32)) < 0 ∨ L ≤ (x4 + (1 : Int32)).toNatClampNeg then none else if (x4 + (2 : Int32)) < 0 ∨ L ≤ (x4 + (2 : Int32)).toNatClampNeg then none else if (x4 + (3 : Int32)) < 0 ∨ L ≤ (x4 + (3 : Int32)).toNatClampNeg then none else if (x4 + (4 : Int32)) < 0 ∨ L ≤ (x4 + (4 : Int32)).toNatClampNeg then none else bd2 (f_L_order M (xs (x4 + (1 : Int32)).toNatClampNeg) (xs (x4 + (2 : Int32)).toNatClampNeg) (xs (x4 + (3 : Int32)).toNatClampNeg) (xs (x4 + (4 : Int32)).toNatClampNeg)) (fun r984 M984 => if (x4 + (1 : Int32)) < 0 ∨ L ≤ (x4 + (1 : Int32)).toNatClampNeg then none else if (x4 + (2 : Int32)) < 0 ∨ L ≤ (x4 + (2 : Int32)).toNatClampNeg then none else if (x4 + (3 : Int32)) < 0 ∨ L ≤ (x4 + (3 : Int32)).toNatClampNeg then none else if (x4 + (4 : Int32)) < 0 ∨ L ≤ (x4 + (4 : Int32)).toNatClampNeg then none else bd2 (f_X5_order M984 (xs (x4 + (1 : Int32)).toNatClampNeg) (xs (x4 + (2 : Int32)).toNatClampNeg) (xs (x4 + (3 : Int32)).toNatClampNeg) (xs (x4 + (4 : Int32)).toNatClampNeg)) (fun r1014 M1014 => bd2 (f_X5_thrown M1014) (fun r1020 M1020 => if r1020 = r984 then (if r984 = 0 then (if (0 : Int32) < 0 ∨ 1 ≤ (0 : Int32).toNatClampNeg then none else if (lg_cmp (M1020 40 (0 : Int32).toNatClampNeg).toInt64 r1014.toInt64) = 0 then f_L_law_1047 xs L K23 M1020 x4 else some ((0 : Int32), M1020)) else f_L_law_1047 xs L K23 M1020 x4) else some ((0 : Int32), M1020))))
set_option maxHeartbeats 4000000 in
set_option maxRecDepth 100000 in
theorem w_L_law_958 {p : Program} {l : Launch} {e : Env} {s : State} {m : MethodId} {below : List Frame} {meth : Method} {c : Code} {Z : Zt} {b sb L : Nat} {xs : Nat → Int32} (C : Cx p s m #[Value.ref sb] c cL_law RL Z b) (hml : c.maxLocals = 7) (hr : meth.sig.returnType = ret) (hlk : meth.locks = false) (hlf : l.stackTraces = false) (hX : va_X sb L xs s s.heap) (hbl : sb < s.heap.size) (hbb : b = s.heap.size) (n : Nat) {K23 : Mem → Int32 → Option (Int32 × Mem)} (hK23 : ∀ {M : Mem} {x4 : Int32} {M' : Mem} (h : K23 M x4 = some (1, M')) {H : Heap} {locs : List Loc} {ls : Array Slot} {cells slots : Nat} (hS : va_S (A0 b) s.heap H locs) (hW : Wd Z b M H) (hl : lv_has ls 7 [(0, .ref sb), (1, .ref (b + 0)), (2, .ref (b + 156)), (3, .ref (b + 172)), (4, .int x4)]) (hcs : cells + 8 * n ≤ 601024 ∧ slots + 48 * n ≤ 7293034), W p l e room_1 s m #[Value.ref sb] below meth c H locs cells slots (lw_Z below #[Value.ref sb] s) (F0 m 23 ls [])) {M : Mem} {x4 : Int32} {M' : Mem} (h : f_L_law_958 xs L K23 M x4 = some (1, M')) {H : Heap} {locs : List Loc} {ls : Array Slot} {cells slots : Nat} (hS : va_S (A0 b) s.heap H locs) (hW : Wd Z b M H) (hl : lv_has ls 7 [(0, .ref sb), (1, .ref (b + 0)), (2, .ref (b + 156)), (3, .ref (b + 172)), (4, .int x4)]) (hcs : cells + 8 + 8 * n ≤ 601024 ∧ slots + 48 + 48 * n ≤ 7293034) : W p l e room_1 s m #[Value.ref sb] below meth c H locs cells slots (lw_Z below #[Value.ref sb] s) (F0 m 958 ls []) := by
  unfold f_L_law_958 at h
  have hx := C.1
  have hb := C.2.1
  have hbA : ¬ A0 b sb := by unfold A0; omega
  refine lv_aload_n hx hb dL_law_958 rfl (lv_at hl 1 rfl) ?_
  refine lv_aload_n hx hb dL_law_959 rfl (lv_at hl 0 rfl) ?_
  refine lv_iload hx hb dL_law_960 (lv_at hl 4 rfl) ?_
  refine lv_iconst (v := (1 : Int32)) hx hb dL_law_962 (by decide) ?_
  refine lv_iadd hx hb dL_law_963 ?_
  obtain ⟨g964, h⟩ := gd h
  refine va_sld hx hb hX hbl hbA hS g964 dL_law_964 ?_
  refine lv_aload_n hx hb dL_law_965 rfl (lv_at hl 0 rfl) ?_
  refine lv_iload hx hb dL_law_966 (lv_at hl 4 rfl) ?_
  refine lv_iconst (v := (2 : Int32)) hx hb dL_law_968 (by decide) ?_
  refine lv_iadd hx hb dL_law_969 ?_
  obtain ⟨g970, h⟩ := gd h
  refine va_sld hx hb hX hbl hbA hS g970 dL_law_970 ?_
  refine lv_aload_n hx hb dL_law_971 rfl (lv_at hl 0 rfl) ?_
  refine lv_iload hx hb dL_law_972 (lv_at hl 4 rfl) ?_
  refine lv_iconst (v := (3 : Int32)) hx hb dL_law_974 (by decide) ?_
  refine lv_iadd hx hb dL_law_975 ?_
  obtain ⟨g976, h⟩ := gd h
  refine va_sld hx hb hX hbl hbA hS g976 dL_law_976 ?_
  refine lv_aload_n hx hb dL_law_977 rfl (lv_at hl 0 rfl) ?_
  refine lv_iload hx hb dL_law_978 (lv_at hl 4 rfl) ?_
  refine lv_iconst (v := (4 : Int32)) hx hb dL_law_980 (by decide) ?_
  refine lv_iadd hx hb dL_law_981 ?_
  obtain ⟨g982, h⟩ := gd h
  refine va_sld hx hb hX hbl hbA hS g982 dL_law_982 ?_
  refine lv_aload_n hx hb dL_law_983 rfl (lv_at hl 3 rfl) ?_
  obtain ⟨r984, M984, hc984, h⟩ := bd2_e h
  refine kL_130 C hml hl.1 (c_L_order hlf hc984) ⟨Nat.le_of_ble_eq_true rfl, Nat.le_of_ble_eq_true rfl⟩ ⟨by show _ ≤ 601024; omega, by show _ ≤ 7293034; omega⟩ (Nat.le_of_ble_eq_true rfl) hS hW dL_law_984 (fun H locs hW hS => ?_)
  refine lv_istore (lv' := [(5, .int r984), (0, .ref sb), (1, .ref (b + 0)), (2, .ref (b + 156)), (3, .ref (b + 172)), (4, .int x4)]) hx hb dL_law_987 hl (by decide) rfl (fun ls hl => ?_)
  refine lv_aload_n hx hb dL_law_989 rfl (lv_at hl 3 rfl) ?_
  refine lv_aload_n hx hb dL_law_990 rfl (lv_at hl 1 rfl) ?_
  refine lv_iload hx hb dL_law_991 (lv_at hl 5 rfl) ?_
  refine lv_iconst (v := (1 : Int32)) hx hb dL_law_993 (by decide) ?_
  refine lv_iadd hx hb dL_law_994 ?_
  obtain ⟨g995, h⟩ := gd h
  refine va_sld hx hb hX hbl hbA hS g995 dL_law_995 ?_
  refine lv_aload_n hx hb dL_law_996 rfl (lv_at hl 1 rfl) ?_
  refine lv_iload hx hb dL_law_997 (lv_at hl 5 rfl) ?_
  refine lv_iconst (v := (2 : Int32)) hx hb dL_law_999 (by decide) ?_
  refine lv_iadd hx hb dL_law_1000 ?_
  obtain ⟨g1001, h⟩ := gd h
  refine va_sld hx hb hX hbl hbA hS g1001 dL_law_1001 ?_
  refine lv_aload_n hx hb dL_law_1002 rfl (lv_at hl 1 rfl) ?_
  refine lv_iload hx hb dL_law_1003 (lv_at hl 5 rfl) ?_
  refine lv_iconst (v := (3 : Int32)) hx hb dL_law_1005 (by decide) ?_
  refine lv_iadd hx hb dL_law_1006 ?_
  obtain ⟨g1007, h⟩ := gd h
  refine va_sld hx hb hX hbl hbA hS g1007 dL_law_1007 ?_
  refine lv_aload_n hx hb dL_law_1008 rfl (lv_at hl 1 rfl) ?_
  refine lv_iload hx hb dL_law_1009 (lv_at hl 5 rfl) ?_
  refine lv_iconst (v := (4 : Int32)) hx hb dL_law_1011 (by decide) ?_
  refine lv_iadd hx hb dL_law_1012 ?_
  obtain ⟨g1013, h⟩ := gd h
  refine va_sld hx hb hX hbl hbA hS g1013 dL_law_1013 ?_
  obtain ⟨r1014, M1014, hc1014, h⟩ := bd2_e h
  refine kL_133 C hml hl.1 (c_X5_order hc1014) ⟨Nat.le_of_ble_eq_true rfl, Nat.le_of_ble_eq_true rfl⟩ ⟨by show _ ≤ 601024; omega, by show _ ≤ 7293034; omega⟩ (Nat.le_of_ble_eq_true rfl) hS hW dL_law_1014 (fun H locs hW hS => ?_)
  refine lv_istore (lv' := [(6, .int r1014), (5, .int r984), (0, .ref sb), (1, .ref (b + 0)), (2, .ref (b + 156)), (3, .ref (b + 172)), (4, .int x4)]) hx hb dL_law_1017 hl (by decide) rfl (fun ls hl => ?_)
  refine lv_aload_n hx hb dL_law_1019 rfl (lv_at hl 4 rfl) ?_
  obtain ⟨r1020, M1020, hc1020, h⟩ := bd2_e h
  refine kL_87 C hml hl.1 (c_X5_thrown hc1020) ⟨Nat.le_of_ble_eq_true rfl, Nat.le_of_ble_eq_true rfl⟩ ⟨by show _ ≤ 601024; omega, by show _ ≤ 7293034; omega⟩ (Nat.le_of_ble_eq_true rfl) hS hW dL_law_1020 (fun H locs hW hS => ?_)
  refine lv_iload hx hb dL_law_1023 (lv_at hl 1 rfl) ?_
  refine lv_icmp_eq (tgt := 1030) hx hb dL_law_1025 (by decide) (fun c1025 => ?_) (fun c1025 => ?_)
  · have h := (if_pos c1025).symm.trans h
    refine lv_iload hx hb dL_law_1030 (lv_at hl 1 rfl) ?_
    refine lv_if_ne (tgt := 1047) hx hb dL_law_1032 (by decide) (fun c1032 => ?_) (fun c1032 => ?_)
    · have h := (if_neg c1032).symm.trans h
      exact w_L_law_1047 C hml hr hlk hlf hX hbl hbb n hK23 h hS hW (lv_sub hl [2, 3, 4, 5, 6] rfl) ⟨by omega, by omega⟩
    · have h := (if_pos c1032).symm.trans h
      refine lv_aload_n hx hb dL_law_1035 rfl (lv_at hl 5 rfl) ?_
      refine lv_iconst (v := (0 : Int32)) hx hb dL_law_1036 (by decide) ?_
      obtain ⟨g1037, h⟩ := gd h
      refine ald_172 C hW g1037 dL_law_1037 ?_
      refine lv_iload hx hb dL_law_1038 (lv_at hl 0 rfl) ?_
      refine lv_i2l (v := r1014.toInt64) hx hb dL_law_1040 rfl ?_
      refine W.lcmp hx hb dL_law_1041 ?_
      refine lv_if_eq (tgt := 1047) hx hb dL_law_1042 (by decide) (fun c1042 => ?_) (fun c1042 => ?_)
      · have h := (if_pos c1042).symm.trans h
        exact w_L_law_1047 C hml hr hlk hlf hX hbl hbb n hK23 h hS hW (lv_sub hl [2, 3, 4, 5, 6] rfl) ⟨by omega, by omega⟩
      · have h := (if_neg c1042).symm.trans h
        refine lv_iconst (v := (0 : Int32)) hx hb dL_law_1045 (by decide) ?_
        exact absurd (show (0 : Int32) = 1 from congrArg Prod.fst (Option.some.inj h)) (by decide)
  · have h := (if_neg c1025).symm.trans h
    refine lv_iconst (v := (0 : Int32)) hx hb dL_law_1028 (by decide) ?_
    exact absurd (show (0 : Int32) = 1 from congrArg Prod.fst (Option.some.inj h)) (by decide)
def f_L_law_1197 (xs : Nat → Int32) (L : Nat) (K23 : Mem → Int32 → Option (Int32 × Mem)) (M : Mem) (x4 : Int32) : Option (Int32 × Mem) :=
  f_L_law_1627 xs L K23 M x4
set_option maxHeartbeats 4000000 in
set_option maxRecDepth 100000 in
theorem w_L_law_1197 {p : Program} {l : Launch} {e : Env} {s : State} {m : MethodId} {below : List Frame} {meth : Method} {c : Code} {Z : Zt} {b sb L : Nat} {xs : Nat → Int32} (C : Cx p s m #[Value.ref sb] c cL_law RL Z b) (hml : c.maxLocals = 7) (hr : meth.sig.returnType = ret) (hlk : meth.locks = false) (hlf : l.stackTraces = false) (hX : va_X sb L xs s s.heap) (hbl : sb < s.heap.size) (hbb : b = s.heap.size) (n : Nat) {K23 : Mem → Int32 → Option (Int32 × Mem)} (hK23 : ∀ {M : Mem} {x4 : Int32} {M' : Mem} (h : K23 M x4 = some (1, M')) {H : Heap} {locs : List Loc} {ls : Array Slot} {cells slots : Nat} (hS : va_S (A0 b) s.heap H locs) (hW : Wd Z b M H) (hl : lv_has ls 7 [(0, .ref sb), (1, .ref (b + 0)), (2, .ref (b + 156)), (3, .ref (b + 172)), (4, .int x4)]) (hcs : cells + 8 * n ≤ 601024 ∧ slots + 48 * n ≤ 7293034), W p l e room_1 s m #[Value.ref sb] below meth c H locs cells slots (lw_Z below #[Value.ref sb] s) (F0 m 23 ls [])) {M : Mem} {x4 : Int32} {M' : Mem} (h : f_L_law_1197 xs L K23 M x4 = some (1, M')) {H : Heap} {locs : List Loc} {ls : Array Slot} {cells slots : Nat} (hS : va_S (A0 b) s.heap H locs) (hW : Wd Z b M H) (hl : lv_has ls 7 [(0, .ref sb), (1, .ref (b + 0)), (2, .ref (b + 156)), (3, .ref (b + 172)), (4, .int x4)]) (hcs : cells + 3 + 8 * n ≤ 601024 ∧ slots + 18 + 48 * n ≤ 7293034) : W p l e room_1 s m #[Value.ref sb] below meth c H locs cells slots (lw_Z below #[Value.ref sb] s) (F0 m 1197 ls []) := by
  unfold f_L_law_1197 at h
  have hx := C.1
  have hb := C.2.1
  have hbA : ¬ A0 b sb := by unfold A0; omega
  refine lv_goto (tgt := 1627) hx hb dL_law_1197 (by decide) ?_
  exact w_L_law_1627 C hml hr hlk hlf hX hbl hbb n hK23 h hS hW (lv_sub hl [0, 1, 2, 3, 4] rfl) ⟨by omega, by omega⟩
def f_L_law_1151 (xs : Nat → Int32) (L : Nat) (K23 : Mem → Int32 → Option (Int32 × Mem)) (M : Mem) (x4 : Int32) (x5 : Int32) (xs1 : Int32) (xs2 : Int32) (xs3 : Int32) (xs4 : Int32) : Option (Int32 × Mem) :=
  if (x4 + (5 : Int32)) < 0 ∨ L ≤ (x4 + (5 : Int32)).toNatClampNeg then none else if (x4 + (6 : Int32)) < 0 ∨ L ≤ (x4 + (6 : Int32)).toNatClampNeg then none else bd2 (f_X5_lock M xs1 xs2 xs3 xs4 (xs (x4 + (5 : Int32)).toNatClampNeg) (xs (x4 + (6 : Int32)).toNatClampNeg)) (fun r1164 M1164 => bd2 (f_X5_thrown M1164) (fun r1170 M1170 => if r1170 = x5 then (if x5 = 0 then (if (0 : Int32) < 0 ∨ 1 ≤ (0 : Int32).toNatClampNeg then none else if (lg_cmp (M1170 40 (0 : Int32).toNatClampNeg).toInt64 r1164.toInt64) = 0 then f_L_law_1197 xs L K23 M1170 x4 else some ((0 : Int32), M1170)) else f_L_law_1197 xs L K23 M1170 x4) else some ((0 : Int32), M1170)))
set_option maxHeartbeats 4000000 in
set_option maxRecDepth 100000 in
theorem w_L_law_1151 {p : Program} {l : Launch} {e : Env} {s : State} {m : MethodId} {below : List Frame} {meth : Method} {c : Code} {Z : Zt} {b sb L : Nat} {xs : Nat → Int32} (C : Cx p s m #[Value.ref sb] c cL_law RL Z b) (hml : c.maxLocals = 7) (hr : meth.sig.returnType = ret) (hlk : meth.locks = false) (hlf : l.stackTraces = false) (hX : va_X sb L xs s s.heap) (hbl : sb < s.heap.size) (hbb : b = s.heap.size) (n : Nat) {K23 : Mem → Int32 → Option (Int32 × Mem)} (hK23 : ∀ {M : Mem} {x4 : Int32} {M' : Mem} (h : K23 M x4 = some (1, M')) {H : Heap} {locs : List Loc} {ls : Array Slot} {cells slots : Nat} (hS : va_S (A0 b) s.heap H locs) (hW : Wd Z b M H) (hl : lv_has ls 7 [(0, .ref sb), (1, .ref (b + 0)), (2, .ref (b + 156)), (3, .ref (b + 172)), (4, .int x4)]) (hcs : cells + 8 * n ≤ 601024 ∧ slots + 48 * n ≤ 7293034), W p l e room_1 s m #[Value.ref sb] below meth c H locs cells slots (lw_Z below #[Value.ref sb] s) (F0 m 23 ls [])) {M : Mem} {x4 : Int32} {x5 : Int32} {xs1 : Int32} {xs2 : Int32} {xs3 : Int32} {xs4 : Int32} {M' : Mem} (h : f_L_law_1151 xs L K23 M x4 x5 xs1 xs2 xs3 xs4 = some (1, M')) {H : Heap} {locs : List Loc} {ls : Array Slot} {cells slots : Nat} (hS : va_S (A0 b) s.heap H locs) (hW : Wd Z b M H) (hl : lv_has ls 7 [(0, .ref sb), (1, .ref (b + 0)), (2, .ref (b + 156)), (3, .ref (b + 172)), (4, .int x4), (5, .int x5)]) (hcs : cells + 3 + 8 * n ≤ 601024 ∧ slots + 18 + 48 * n ≤ 7293034) : W p l e room_1 s m #[Value.ref sb] below meth c H locs cells slots (lw_Z below #[Value.ref sb] s) (F0 m 1151 ls [.int xs4, .int xs3, .int xs2, .int xs1, .ref (b + 156)]) := by
  unfold f_L_law_1151 at h
  have hx := C.1
  have hb := C.2.1
  have hbA : ¬ A0 b sb := by unfold A0; omega
  refine lv_aload_n hx hb dL_law_1151 rfl (lv_at hl 0 rfl) ?_
  refine lv_iload hx hb dL_law_1152 (lv_at hl 4 rfl) ?_
  refine lv_iconst (v := (5 : Int32)) hx hb dL_law_1154 (by decide) ?_
  refine lv_iadd hx hb dL_law_1155 ?_
  obtain ⟨g1156, h⟩ := gd h
  refine va_sld hx hb hX hbl hbA hS g1156 dL_law_1156 ?_
  refine lv_aload_n hx hb dL_law_1157 rfl (lv_at hl 0 rfl) ?_
  refine lv_iload hx hb dL_law_1158 (lv_at hl 4 rfl) ?_
  refine lv_bipush (v := (6 : Int32)) hx hb dL_law_1160 (by decide) ?_
  refine lv_iadd hx hb dL_law_1162 ?_
  obtain ⟨g1163, h⟩ := gd h
  refine va_sld hx hb hX hbl hbA hS g1163 dL_law_1163 ?_
  obtain ⟨r1164, M1164, hc1164, h⟩ := bd2_e h
  refine kL_137 C hml hl.1 (c_X5_lock hc1164) ⟨Nat.le_of_ble_eq_true rfl, Nat.le_of_ble_eq_true rfl⟩ ⟨by show _ ≤ 601024; omega, by show _ ≤ 7293034; omega⟩ (Nat.le_of_ble_eq_true rfl) hS hW dL_law_1164 (fun H locs hW hS => ?_)
  refine lv_istore (lv' := [(6, .int r1164), (0, .ref sb), (1, .ref (b + 0)), (2, .ref (b + 156)), (3, .ref (b + 172)), (4, .int x4), (5, .int x5)]) hx hb dL_law_1167 hl (by decide) rfl (fun ls hl => ?_)
  refine lv_aload_n hx hb dL_law_1169 rfl (lv_at hl 3 rfl) ?_
  obtain ⟨r1170, M1170, hc1170, h⟩ := bd2_e h
  refine kL_87 C hml hl.1 (c_X5_thrown hc1170) ⟨Nat.le_of_ble_eq_true rfl, Nat.le_of_ble_eq_true rfl⟩ ⟨by show _ ≤ 601024; omega, by show _ ≤ 7293034; omega⟩ (Nat.le_of_ble_eq_true rfl) hS hW dL_law_1170 (fun H locs hW hS => ?_)
  refine lv_iload hx hb dL_law_1173 (lv_at hl 6 rfl) ?_
  refine lv_icmp_eq (tgt := 1180) hx hb dL_law_1175 (by decide) (fun c1175 => ?_) (fun c1175 => ?_)
  · have h := (if_pos c1175).symm.trans h
    refine lv_iload hx hb dL_law_1180 (lv_at hl 6 rfl) ?_
    refine lv_if_ne (tgt := 1197) hx hb dL_law_1182 (by decide) (fun c1182 => ?_) (fun c1182 => ?_)
    · have h := (if_neg c1182).symm.trans h
      exact w_L_law_1197 C hml hr hlk hlf hX hbl hbb n hK23 h hS hW (lv_sub hl [1, 2, 3, 4, 5] rfl) ⟨by omega, by omega⟩
    · have h := (if_pos c1182).symm.trans h
      refine lv_aload_n hx hb dL_law_1185 rfl (lv_at hl 4 rfl) ?_
      refine lv_iconst (v := (0 : Int32)) hx hb dL_law_1186 (by decide) ?_
      obtain ⟨g1187, h⟩ := gd h
      refine ald_172 C hW g1187 dL_law_1187 ?_
      refine lv_iload hx hb dL_law_1188 (lv_at hl 0 rfl) ?_
      refine lv_i2l (v := r1164.toInt64) hx hb dL_law_1190 rfl ?_
      refine W.lcmp hx hb dL_law_1191 ?_
      refine lv_if_eq (tgt := 1197) hx hb dL_law_1192 (by decide) (fun c1192 => ?_) (fun c1192 => ?_)
      · have h := (if_pos c1192).symm.trans h
        exact w_L_law_1197 C hml hr hlk hlf hX hbl hbb n hK23 h hS hW (lv_sub hl [1, 2, 3, 4, 5] rfl) ⟨by omega, by omega⟩
      · have h := (if_neg c1192).symm.trans h
        refine lv_iconst (v := (0 : Int32)) hx hb dL_law_1195 (by decide) ?_
        exact absurd (show (0 : Int32) = 1 from congrArg Prod.fst (Option.some.inj h)) (by decide)
  · have h := (if_neg c1175).symm.trans h
    refine lv_iconst (v := (0 : Int32)) hx hb dL_law_1178 (by decide) ?_
    exact absurd (show (0 : Int32) = 1 from congrArg Prod.fst (Option.some.inj h)) (by decide)
def f_L_law_1137 (xs : Nat → Int32) (L : Nat) (K23 : Mem → Int32 → Option (Int32 × Mem)) (M : Mem) (x4 : Int32) (x5 : Int32) (xs1 : Int32) (xs2 : Int32) (xs3 : Int32) : Option (Int32 × Mem) :=
  if (x4 + (4 : Int32)) < 0 ∨ L ≤ (x4 + (4 : Int32)).toNatClampNeg then none else if (xs (x4 + (4 : Int32)).toNatClampNeg) = 0 then f_L_law_1151 xs L K23 M x4 x5 xs1 xs2 xs3 (0 : Int32) else f_L_law_1151 xs L K23 M x4 x5 xs1 xs2 xs3 (1 : Int32)
set_option maxHeartbeats 4000000 in
set_option maxRecDepth 100000 in
theorem w_L_law_1137 {p : Program} {l : Launch} {e : Env} {s : State} {m : MethodId} {below : List Frame} {meth : Method} {c : Code} {Z : Zt} {b sb L : Nat} {xs : Nat → Int32} (C : Cx p s m #[Value.ref sb] c cL_law RL Z b) (hml : c.maxLocals = 7) (hr : meth.sig.returnType = ret) (hlk : meth.locks = false) (hlf : l.stackTraces = false) (hX : va_X sb L xs s s.heap) (hbl : sb < s.heap.size) (hbb : b = s.heap.size) (n : Nat) {K23 : Mem → Int32 → Option (Int32 × Mem)} (hK23 : ∀ {M : Mem} {x4 : Int32} {M' : Mem} (h : K23 M x4 = some (1, M')) {H : Heap} {locs : List Loc} {ls : Array Slot} {cells slots : Nat} (hS : va_S (A0 b) s.heap H locs) (hW : Wd Z b M H) (hl : lv_has ls 7 [(0, .ref sb), (1, .ref (b + 0)), (2, .ref (b + 156)), (3, .ref (b + 172)), (4, .int x4)]) (hcs : cells + 8 * n ≤ 601024 ∧ slots + 48 * n ≤ 7293034), W p l e room_1 s m #[Value.ref sb] below meth c H locs cells slots (lw_Z below #[Value.ref sb] s) (F0 m 23 ls [])) {M : Mem} {x4 : Int32} {x5 : Int32} {xs1 : Int32} {xs2 : Int32} {xs3 : Int32} {M' : Mem} (h : f_L_law_1137 xs L K23 M x4 x5 xs1 xs2 xs3 = some (1, M')) {H : Heap} {locs : List Loc} {ls : Array Slot} {cells slots : Nat} (hS : va_S (A0 b) s.heap H locs) (hW : Wd Z b M H) (hl : lv_has ls 7 [(0, .ref sb), (1, .ref (b + 0)), (2, .ref (b + 156)), (3, .ref (b + 172)), (4, .int x4), (5, .int x5)]) (hcs : cells + 3 + 8 * n ≤ 601024 ∧ slots + 18 + 48 * n ≤ 7293034) : W p l e room_1 s m #[Value.ref sb] below meth c H locs cells slots (lw_Z below #[Value.ref sb] s) (F0 m 1137 ls [.int xs3, .int xs2, .int xs1, .ref (b + 156)]) := by
  unfold f_L_law_1137 at h
  have hx := C.1
  have hb := C.2.1
  have hbA : ¬ A0 b sb := by unfold A0; omega
  refine lv_aload_n hx hb dL_law_1137 rfl (lv_at hl 0 rfl) ?_
  refine lv_iload hx hb dL_law_1138 (lv_at hl 4 rfl) ?_
  refine lv_iconst (v := (4 : Int32)) hx hb dL_law_1140 (by decide) ?_
  refine lv_iadd hx hb dL_law_1141 ?_
  obtain ⟨g1142, h⟩ := gd h
  refine va_sld hx hb hX hbl hbA hS g1142 dL_law_1142 ?_
  refine lv_if_eq (tgt := 1150) hx hb dL_law_1143 (by decide) (fun c1143 => ?_) (fun c1143 => ?_)
  · have h := (if_pos c1143).symm.trans h
    refine lv_iconst (v := (0 : Int32)) hx hb dL_law_1150 (by decide) ?_
    exact w_L_law_1151 C hml hr hlk hlf hX hbl hbb n hK23 h hS hW (lv_sub hl [0, 1, 2, 3, 4, 5] rfl) ⟨by omega, by omega⟩
  · have h := (if_neg c1143).symm.trans h
    refine lv_iconst (v := (1 : Int32)) hx hb dL_law_1146 (by decide) ?_
    refine lv_goto (tgt := 1151) hx hb dL_law_1147 (by decide) ?_
    exact w_L_law_1151 C hml hr hlk hlf hX hbl hbb n hK23 h hS hW (lv_sub hl [0, 1, 2, 3, 4, 5] rfl) ⟨by omega, by omega⟩
def f_L_law_1091 (xs : Nat → Int32) (L : Nat) (K23 : Mem → Int32 → Option (Int32 × Mem)) (M : Mem) (x4 : Int32) (xs1 : Int32) (xs2 : Int32) (xs3 : Int32) (xs4 : Int32) : Option (Int32 × Mem) :=
  if (x4 + (5 : Int32)) < 0 ∨ L ≤ (x4 + (5 : Int32)).toNatClampNeg then none else if (x4 + (6 : Int32)) < 0 ∨ L ≤ (x4 + (6 : Int32)).toNatClampNeg then none else bd2 (f_L_lock M xs1 xs2 xs3 xs4 (xs (x4 + (5 : Int32)).toNatClampNeg) (xs (x4 + (6 : Int32)).toNatClampNeg)) (fun r1105 M1105 => if (x4 + (1 : Int32)) < 0 ∨ L ≤ (x4 + (1 : Int32)).toNatClampNeg then none else if (x4 + (2 : Int32)) < 0 ∨ L ≤ (x4 + (2 : Int32)).toNatClampNeg then none else if (x4 + (3 : Int32)) < 0 ∨ L ≤ (x4 + (3 : Int32)).toNatClampNeg then none else if (xs (x4 + (3 : Int32)).toNatClampNeg) = 0 then f_L_law_1137 xs L K23 M1105 x4 r1105 (xs (x4 + (1 : Int32)).toNatClampNeg) (xs (x4 + (2 : Int32)).toNatClampNeg) (0 : Int32) else f_L_law_1137 xs L K23 M1105 x4 r1105 (xs (x4 + (1 : Int32)).toNatClampNeg) (xs (x4 + (2 : Int32)).toNatClampNeg) (1 : Int32))
set_option maxHeartbeats 4000000 in
set_option maxRecDepth 100000 in
theorem w_L_law_1091 {p : Program} {l : Launch} {e : Env} {s : State} {m : MethodId} {below : List Frame} {meth : Method} {c : Code} {Z : Zt} {b sb L : Nat} {xs : Nat → Int32} (C : Cx p s m #[Value.ref sb] c cL_law RL Z b) (hml : c.maxLocals = 7) (hr : meth.sig.returnType = ret) (hlk : meth.locks = false) (hlf : l.stackTraces = false) (hX : va_X sb L xs s s.heap) (hbl : sb < s.heap.size) (hbb : b = s.heap.size) (n : Nat) {K23 : Mem → Int32 → Option (Int32 × Mem)} (hK23 : ∀ {M : Mem} {x4 : Int32} {M' : Mem} (h : K23 M x4 = some (1, M')) {H : Heap} {locs : List Loc} {ls : Array Slot} {cells slots : Nat} (hS : va_S (A0 b) s.heap H locs) (hW : Wd Z b M H) (hl : lv_has ls 7 [(0, .ref sb), (1, .ref (b + 0)), (2, .ref (b + 156)), (3, .ref (b + 172)), (4, .int x4)]) (hcs : cells + 8 * n ≤ 601024 ∧ slots + 48 * n ≤ 7293034), W p l e room_1 s m #[Value.ref sb] below meth c H locs cells slots (lw_Z below #[Value.ref sb] s) (F0 m 23 ls [])) {M : Mem} {x4 : Int32} {xs1 : Int32} {xs2 : Int32} {xs3 : Int32} {xs4 : Int32} {M' : Mem} (h : f_L_law_1091 xs L K23 M x4 xs1 xs2 xs3 xs4 = some (1, M')) {H : Heap} {locs : List Loc} {ls : Array Slot} {cells slots : Nat} (hS : va_S (A0 b) s.heap H locs) (hW : Wd Z b M H) (hl : lv_has ls 7 [(0, .ref sb), (1, .ref (b + 0)), (2, .ref (b + 156)), (3, .ref (b + 172)), (4, .int x4)]) (hcs : cells + 8 + 8 * n ≤ 601024 ∧ slots + 48 + 48 * n ≤ 7293034) : W p l e room_1 s m #[Value.ref sb] below meth c H locs cells slots (lw_Z below #[Value.ref sb] s) (F0 m 1091 ls [.int xs4, .int xs3, .int xs2, .int xs1, .ref (b + 0)]) := by
  unfold f_L_law_1091 at h
  have hx := C.1
  have hb := C.2.1
  have hbA : ¬ A0 b sb := by unfold A0; omega
  refine lv_aload_n hx hb dL_law_1091 rfl (lv_at hl 0 rfl) ?_
  refine lv_iload hx hb dL_law_1092 (lv_at hl 4 rfl) ?_
  refine lv_iconst (v := (5 : Int32)) hx hb dL_law_1094 (by decide) ?_
  refine lv_iadd hx hb dL_law_1095 ?_
  obtain ⟨g1096, h⟩ := gd h
  refine va_sld hx hb hX hbl hbA hS g1096 dL_law_1096 ?_
  refine lv_aload_n hx hb dL_law_1097 rfl (lv_at hl 0 rfl) ?_
  refine lv_iload hx hb dL_law_1098 (lv_at hl 4 rfl) ?_
  refine lv_bipush (v := (6 : Int32)) hx hb dL_law_1100 (by decide) ?_
  refine lv_iadd hx hb dL_law_1102 ?_
  obtain ⟨g1103, h⟩ := gd h
  refine va_sld hx hb hX hbl hbA hS g1103 dL_law_1103 ?_
  refine lv_aload_n hx hb dL_law_1104 rfl (lv_at hl 3 rfl) ?_
  obtain ⟨r1105, M1105, hc1105, h⟩ := bd2_e h
  refine kL_134 C hml hl.1 (c_L_lock hlf hc1105) ⟨Nat.le_of_ble_eq_true rfl, Nat.le_of_ble_eq_true rfl⟩ ⟨by show _ ≤ 601024; omega, by show _ ≤ 7293034; omega⟩ (Nat.le_of_ble_eq_true rfl) hS hW dL_law_1105 (fun H locs hW hS => ?_)
  refine lv_istore (lv' := [(5, .int r1105), (0, .ref sb), (1, .ref (b + 0)), (2, .ref (b + 156)), (3, .ref (b + 172)), (4, .int x4)]) hx hb dL_law_1108 hl (by decide) rfl (fun ls hl => ?_)
  refine lv_aload_n hx hb dL_law_1110 rfl (lv_at hl 3 rfl) ?_
  refine lv_aload_n hx hb dL_law_1111 rfl (lv_at hl 1 rfl) ?_
  refine lv_iload hx hb dL_law_1112 (lv_at hl 5 rfl) ?_
  refine lv_iconst (v := (1 : Int32)) hx hb dL_law_1114 (by decide) ?_
  refine lv_iadd hx hb dL_law_1115 ?_
  obtain ⟨g1116, h⟩ := gd h
  refine va_sld hx hb hX hbl hbA hS g1116 dL_law_1116 ?_
  refine lv_aload_n hx hb dL_law_1117 rfl (lv_at hl 1 rfl) ?_
  refine lv_iload hx hb dL_law_1118 (lv_at hl 5 rfl) ?_
  refine lv_iconst (v := (2 : Int32)) hx hb dL_law_1120 (by decide) ?_
  refine lv_iadd hx hb dL_law_1121 ?_
  obtain ⟨g1122, h⟩ := gd h
  refine va_sld hx hb hX hbl hbA hS g1122 dL_law_1122 ?_
  refine lv_aload_n hx hb dL_law_1123 rfl (lv_at hl 1 rfl) ?_
  refine lv_iload hx hb dL_law_1124 (lv_at hl 5 rfl) ?_
  refine lv_iconst (v := (3 : Int32)) hx hb dL_law_1126 (by decide) ?_
  refine lv_iadd hx hb dL_law_1127 ?_
  obtain ⟨g1128, h⟩ := gd h
  refine va_sld hx hb hX hbl hbA hS g1128 dL_law_1128 ?_
  refine lv_if_eq (tgt := 1136) hx hb dL_law_1129 (by decide) (fun c1129 => ?_) (fun c1129 => ?_)
  · have h := (if_pos c1129).symm.trans h
    refine lv_iconst (v := (0 : Int32)) hx hb dL_law_1136 (by decide) ?_
    exact w_L_law_1137 C hml hr hlk hlf hX hbl hbb n hK23 h hS hW (lv_sub hl [1, 2, 3, 4, 5, 0] rfl) ⟨by omega, by omega⟩
  · have h := (if_neg c1129).symm.trans h
    refine lv_iconst (v := (1 : Int32)) hx hb dL_law_1132 (by decide) ?_
    refine lv_goto (tgt := 1137) hx hb dL_law_1133 (by decide) ?_
    exact w_L_law_1137 C hml hr hlk hlf hX hbl hbb n hK23 h hS hW (lv_sub hl [1, 2, 3, 4, 5, 0] rfl) ⟨by omega, by omega⟩
def f_L_law_1077 (xs : Nat → Int32) (L : Nat) (K23 : Mem → Int32 → Option (Int32 × Mem)) (M : Mem) (x4 : Int32) (xs1 : Int32) (xs2 : Int32) (xs3 : Int32) : Option (Int32 × Mem) :=
  if (x4 + (4 : Int32)) < 0 ∨ L ≤ (x4 + (4 : Int32)).toNatClampNeg then none else if (xs (x4 + (4 : Int32)).toNatClampNeg) = 0 then f_L_law_1091 xs L K23 M x4 xs1 xs2 xs3 (0 : Int32) else f_L_law_1091 xs L K23 M x4 xs1 xs2 xs3 (1 : Int32)
set_option maxHeartbeats 4000000 in
set_option maxRecDepth 100000 in
theorem w_L_law_1077 {p : Program} {l : Launch} {e : Env} {s : State} {m : MethodId} {below : List Frame} {meth : Method} {c : Code} {Z : Zt} {b sb L : Nat} {xs : Nat → Int32} (C : Cx p s m #[Value.ref sb] c cL_law RL Z b) (hml : c.maxLocals = 7) (hr : meth.sig.returnType = ret) (hlk : meth.locks = false) (hlf : l.stackTraces = false) (hX : va_X sb L xs s s.heap) (hbl : sb < s.heap.size) (hbb : b = s.heap.size) (n : Nat) {K23 : Mem → Int32 → Option (Int32 × Mem)} (hK23 : ∀ {M : Mem} {x4 : Int32} {M' : Mem} (h : K23 M x4 = some (1, M')) {H : Heap} {locs : List Loc} {ls : Array Slot} {cells slots : Nat} (hS : va_S (A0 b) s.heap H locs) (hW : Wd Z b M H) (hl : lv_has ls 7 [(0, .ref sb), (1, .ref (b + 0)), (2, .ref (b + 156)), (3, .ref (b + 172)), (4, .int x4)]) (hcs : cells + 8 * n ≤ 601024 ∧ slots + 48 * n ≤ 7293034), W p l e room_1 s m #[Value.ref sb] below meth c H locs cells slots (lw_Z below #[Value.ref sb] s) (F0 m 23 ls [])) {M : Mem} {x4 : Int32} {xs1 : Int32} {xs2 : Int32} {xs3 : Int32} {M' : Mem} (h : f_L_law_1077 xs L K23 M x4 xs1 xs2 xs3 = some (1, M')) {H : Heap} {locs : List Loc} {ls : Array Slot} {cells slots : Nat} (hS : va_S (A0 b) s.heap H locs) (hW : Wd Z b M H) (hl : lv_has ls 7 [(0, .ref sb), (1, .ref (b + 0)), (2, .ref (b + 156)), (3, .ref (b + 172)), (4, .int x4)]) (hcs : cells + 8 + 8 * n ≤ 601024 ∧ slots + 48 + 48 * n ≤ 7293034) : W p l e room_1 s m #[Value.ref sb] below meth c H locs cells slots (lw_Z below #[Value.ref sb] s) (F0 m 1077 ls [.int xs3, .int xs2, .int xs1, .ref (b + 0)]) := by
  unfold f_L_law_1077 at h
  have hx := C.1
  have hb := C.2.1
  have hbA : ¬ A0 b sb := by unfold A0; omega
  refine lv_aload_n hx hb dL_law_1077 rfl (lv_at hl 0 rfl) ?_
  refine lv_iload hx hb dL_law_1078 (lv_at hl 4 rfl) ?_
  refine lv_iconst (v := (4 : Int32)) hx hb dL_law_1080 (by decide) ?_
  refine lv_iadd hx hb dL_law_1081 ?_
  obtain ⟨g1082, h⟩ := gd h
  refine va_sld hx hb hX hbl hbA hS g1082 dL_law_1082 ?_
  refine lv_if_eq (tgt := 1090) hx hb dL_law_1083 (by decide) (fun c1083 => ?_) (fun c1083 => ?_)
  · have h := (if_pos c1083).symm.trans h
    refine lv_iconst (v := (0 : Int32)) hx hb dL_law_1090 (by decide) ?_
    exact w_L_law_1091 C hml hr hlk hlf hX hbl hbb n hK23 h hS hW (lv_sub hl [0, 1, 2, 3, 4] rfl) ⟨by omega, by omega⟩
  · have h := (if_neg c1083).symm.trans h
    refine lv_iconst (v := (1 : Int32)) hx hb dL_law_1086 (by decide) ?_
    refine lv_goto (tgt := 1091) hx hb dL_law_1087 (by decide) ?_
    exact w_L_law_1091 C hml hr hlk hlf hX hbl hbb n hK23 h hS hW (lv_sub hl [0, 1, 2, 3, 4] rfl) ⟨by omega, by omega⟩
def f_L_law_1050 (xs : Nat → Int32) (L : Nat) (K23 : Mem → Int32 → Option (Int32 × Mem)) (M : Mem) (x4 : Int32) : Option (Int32 × Mem) :=
  if (x4 + (1 : Int32)) < 0 ∨ L ≤ (x4 + (1 : Int32)).toNatClampNeg then none else if (x4 + (2 : Int32)) < 0 ∨ L ≤ (x4 + (2 : Int32)).toNatClampNeg then none else if (x4 + (3 : Int32)) < 0 ∨ L ≤ (x4 + (3 : Int32)).toNatClampNeg then none else if (xs (x4 + (3 : Int32)).toNatClampNeg) = 0 then f_L_law_1077 xs L K23 M x4 (xs (x4 + (1 : Int32)).toNatClampNeg) (xs (x4 + (2 : Int32)).toNatClampNeg) (0 : Int32) else f_L_law_1077 xs L K23 M x4 (xs (x4 + (1 : Int32)).toNatClampNeg) (xs (x4 + (2 : Int32)).toNatClampNeg) (1 : Int32)
set_option maxHeartbeats 4000000 in
set_option maxRecDepth 100000 in
theorem w_L_law_1050 {p : Program} {l : Launch} {e : Env} {s : State} {m : MethodId} {below : List Frame} {meth : Method} {c : Code} {Z : Zt} {b sb L : Nat} {xs : Nat → Int32} (C : Cx p s m #[Value.ref sb] c cL_law RL Z b) (hml : c.maxLocals = 7) (hr : meth.sig.returnType = ret) (hlk : meth.locks = false) (hlf : l.stackTraces = false) (hX : va_X sb L xs s s.heap) (hbl : sb < s.heap.size) (hbb : b = s.heap.size) (n : Nat) {K23 : Mem → Int32 → Option (Int32 × Mem)} (hK23 : ∀ {M : Mem} {x4 : Int32} {M' : Mem} (h : K23 M x4 = some (1, M')) {H : Heap} {locs : List Loc} {ls : Array Slot} {cells slots : Nat} (hS : va_S (A0 b) s.heap H locs) (hW : Wd Z b M H) (hl : lv_has ls 7 [(0, .ref sb), (1, .ref (b + 0)), (2, .ref (b + 156)), (3, .ref (b + 172)), (4, .int x4)]) (hcs : cells + 8 * n ≤ 601024 ∧ slots + 48 * n ≤ 7293034), W p l e room_1 s m #[Value.ref sb] below meth c H locs cells slots (lw_Z below #[Value.ref sb] s) (F0 m 23 ls [])) {M : Mem} {x4 : Int32} {M' : Mem} (h : f_L_law_1050 xs L K23 M x4 = some (1, M')) {H : Heap} {locs : List Loc} {ls : Array Slot} {cells slots : Nat} (hS : va_S (A0 b) s.heap H locs) (hW : Wd Z b M H) (hl : lv_has ls 7 [(0, .ref sb), (1, .ref (b + 0)), (2, .ref (b + 156)), (3, .ref (b + 172)), (4, .int x4)]) (hcs : cells + 8 + 8 * n ≤ 601024 ∧ slots + 48 + 48 * n ≤ 7293034) : W p l e room_1 s m #[Value.ref sb] below meth c H locs cells slots (lw_Z below #[Value.ref sb] s) (F0 m 1050 ls []) := by
  unfold f_L_law_1050 at h
  have hx := C.1
  have hb := C.2.1
  have hbA : ¬ A0 b sb := by unfold A0; omega
  refine lv_aload_n hx hb dL_law_1050 rfl (lv_at hl 1 rfl) ?_
  refine lv_aload_n hx hb dL_law_1051 rfl (lv_at hl 0 rfl) ?_
  refine lv_iload hx hb dL_law_1052 (lv_at hl 4 rfl) ?_
  refine lv_iconst (v := (1 : Int32)) hx hb dL_law_1054 (by decide) ?_
  refine lv_iadd hx hb dL_law_1055 ?_
  obtain ⟨g1056, h⟩ := gd h
  refine va_sld hx hb hX hbl hbA hS g1056 dL_law_1056 ?_
  refine lv_aload_n hx hb dL_law_1057 rfl (lv_at hl 0 rfl) ?_
  refine lv_iload hx hb dL_law_1058 (lv_at hl 4 rfl) ?_
  refine lv_iconst (v := (2 : Int32)) hx hb dL_law_1060 (by decide) ?_
  refine lv_iadd hx hb dL_law_1061 ?_
  obtain ⟨g1062, h⟩ := gd h
  refine va_sld hx hb hX hbl hbA hS g1062 dL_law_1062 ?_
  refine lv_aload_n hx hb dL_law_1063 rfl (lv_at hl 0 rfl) ?_
  refine lv_iload hx hb dL_law_1064 (lv_at hl 4 rfl) ?_
  refine lv_iconst (v := (3 : Int32)) hx hb dL_law_1066 (by decide) ?_
  refine lv_iadd hx hb dL_law_1067 ?_
  obtain ⟨g1068, h⟩ := gd h
  refine va_sld hx hb hX hbl hbA hS g1068 dL_law_1068 ?_
  refine lv_if_eq (tgt := 1076) hx hb dL_law_1069 (by decide) (fun c1069 => ?_) (fun c1069 => ?_)
  · have h := (if_pos c1069).symm.trans h
    refine lv_iconst (v := (0 : Int32)) hx hb dL_law_1076 (by decide) ?_
    exact w_L_law_1077 C hml hr hlk hlf hX hbl hbb n hK23 h hS hW (lv_sub hl [0, 1, 2, 3, 4] rfl) ⟨by omega, by omega⟩
  · have h := (if_neg c1069).symm.trans h
    refine lv_iconst (v := (1 : Int32)) hx hb dL_law_1072 (by decide) ?_
    refine lv_goto (tgt := 1077) hx hb dL_law_1073 (by decide) ?_
    exact w_L_law_1077 C hml hr hlk hlf hX hbl hbb n hK23 h hS hW (lv_sub hl [0, 1, 2, 3, 4] rfl) ⟨by omega, by omega⟩
def f_L_law_1277 (xs : Nat → Int32) (L : Nat) (K23 : Mem → Int32 → Option (Int32 × Mem)) (M : Mem) (x4 : Int32) : Option (Int32 × Mem) :=
  f_L_law_1627 xs L K23 M x4
set_option maxHeartbeats 4000000 in
set_option maxRecDepth 100000 in
theorem w_L_law_1277 {p : Program} {l : Launch} {e : Env} {s : State} {m : MethodId} {below : List Frame} {meth : Method} {c : Code} {Z : Zt} {b sb L : Nat} {xs : Nat → Int32} (C : Cx p s m #[Value.ref sb] c cL_law RL Z b) (hml : c.maxLocals = 7) (hr : meth.sig.returnType = ret) (hlk : meth.locks = false) (hlf : l.stackTraces = false) (hX : va_X sb L xs s s.heap) (hbl : sb < s.heap.size) (hbb : b = s.heap.size) (n : Nat) {K23 : Mem → Int32 → Option (Int32 × Mem)} (hK23 : ∀ {M : Mem} {x4 : Int32} {M' : Mem} (h : K23 M x4 = some (1, M')) {H : Heap} {locs : List Loc} {ls : Array Slot} {cells slots : Nat} (hS : va_S (A0 b) s.heap H locs) (hW : Wd Z b M H) (hl : lv_has ls 7 [(0, .ref sb), (1, .ref (b + 0)), (2, .ref (b + 156)), (3, .ref (b + 172)), (4, .int x4)]) (hcs : cells + 8 * n ≤ 601024 ∧ slots + 48 * n ≤ 7293034), W p l e room_1 s m #[Value.ref sb] below meth c H locs cells slots (lw_Z below #[Value.ref sb] s) (F0 m 23 ls [])) {M : Mem} {x4 : Int32} {M' : Mem} (h : f_L_law_1277 xs L K23 M x4 = some (1, M')) {H : Heap} {locs : List Loc} {ls : Array Slot} {cells slots : Nat} (hS : va_S (A0 b) s.heap H locs) (hW : Wd Z b M H) (hl : lv_has ls 7 [(0, .ref sb), (1, .ref (b + 0)), (2, .ref (b + 156)), (3, .ref (b + 172)), (4, .int x4)]) (hcs : cells + 5 + 8 * n ≤ 601024 ∧ slots + 30 + 48 * n ≤ 7293034) : W p l e room_1 s m #[Value.ref sb] below meth c H locs cells slots (lw_Z below #[Value.ref sb] s) (F0 m 1277 ls []) := by
  unfold f_L_law_1277 at h
  have hx := C.1
  have hb := C.2.1
  have hbA : ¬ A0 b sb := by unfold A0; omega
  refine lv_goto (tgt := 1627) hx hb dL_law_1277 (by decide) ?_
  exact w_L_law_1627 C hml hr hlk hlf hX hbl hbb n hK23 h hS hW (lv_sub hl [0, 1, 2, 3, 4] rfl) ⟨by omega, by omega⟩
def f_L_law_1200 (xs : Nat → Int32) (L : Nat) (K23 : Mem → Int32 → Option (Int32 × Mem)) (M : Mem) (x4 : Int32) : Option (Int32 × Mem) :=
  if (x4 + (1 : Int32)) < 0 ∨ L ≤ (x4 + (1 : Int32)).toNatClampNeg then none else if (x4 + (2 : Int32)) < 0 ∨ L ≤ (x4 + (2 : Int32)).toNatClampNeg then none else if (x4 + (3 : Int32)) < 0 ∨ L ≤ (x4 + (3 : Int32)).toNatClampNeg then none else bd2 (f_L_refresh M (xs (x4 + (1 : Int32)).toNatClampNeg) (xs (x4 + (2 : Int32)).toNatClampNeg) (xs (x4 + (3 : Int32)).toNatClampNeg)) (fun r1220 M1220 => if (x4 + (1 : Int32)) < 0 ∨ L ≤ (x4 + (1 : Int32)).toNatClampNeg then none else if (x4 + (2 : Int32)) < 0 ∨ L ≤ (x4 + (2 : Int32)).toNatClampNeg then none else if (x4 + (3 : Int32)) < 0 ∨ L ≤ (x4 + (3 : Int32)).toNatClampNeg then none else bd2 (f_X5_refresh M1220 (xs (x4 + (1 : Int32)).toNatClampNeg) (xs (x4 + (2 : Int32)).toNatClampNeg) (xs (x4 + (3 : Int32)).toNatClampNeg)) (fun r1244 M1244 => bd2 (f_X5_thrown M1244) (fun r1250 M1250 => if r1250 = r1220 then (if r1220 = 0 then (if (0 : Int32) < 0 ∨ 1 ≤ (0 : Int32).toNatClampNeg then none else if (lg_cmp (M1250 40 (0 : Int32).toNatClampNeg).toInt64 r1244.toInt64) = 0 then f_L_law_1277 xs L K23 M1250 x4 else some ((0 : Int32), M1250)) else f_L_law_1277 xs L K23 M1250 x4) else some ((0 : Int32), M1250))))
set_option maxHeartbeats 4000000 in
set_option maxRecDepth 100000 in
theorem w_L_law_1200 {p : Program} {l : Launch} {e : Env} {s : State} {m : MethodId} {below : List Frame} {meth : Method} {c : Code} {Z : Zt} {b sb L : Nat} {xs : Nat → Int32} (C : Cx p s m #[Value.ref sb] c cL_law RL Z b) (hml : c.maxLocals = 7) (hr : meth.sig.returnType = ret) (hlk : meth.locks = false) (hlf : l.stackTraces = false) (hX : va_X sb L xs s s.heap) (hbl : sb < s.heap.size) (hbb : b = s.heap.size) (n : Nat) {K23 : Mem → Int32 → Option (Int32 × Mem)} (hK23 : ∀ {M : Mem} {x4 : Int32} {M' : Mem} (h : K23 M x4 = some (1, M')) {H : Heap} {locs : List Loc} {ls : Array Slot} {cells slots : Nat} (hS : va_S (A0 b) s.heap H locs) (hW : Wd Z b M H) (hl : lv_has ls 7 [(0, .ref sb), (1, .ref (b + 0)), (2, .ref (b + 156)), (3, .ref (b + 172)), (4, .int x4)]) (hcs : cells + 8 * n ≤ 601024 ∧ slots + 48 * n ≤ 7293034), W p l e room_1 s m #[Value.ref sb] below meth c H locs cells slots (lw_Z below #[Value.ref sb] s) (F0 m 23 ls [])) {M : Mem} {x4 : Int32} {M' : Mem} (h : f_L_law_1200 xs L K23 M x4 = some (1, M')) {H : Heap} {locs : List Loc} {ls : Array Slot} {cells slots : Nat} (hS : va_S (A0 b) s.heap H locs) (hW : Wd Z b M H) (hl : lv_has ls 7 [(0, .ref sb), (1, .ref (b + 0)), (2, .ref (b + 156)), (3, .ref (b + 172)), (4, .int x4)]) (hcs : cells + 8 + 8 * n ≤ 601024 ∧ slots + 48 + 48 * n ≤ 7293034) : W p l e room_1 s m #[Value.ref sb] below meth c H locs cells slots (lw_Z below #[Value.ref sb] s) (F0 m 1200 ls []) := by
  unfold f_L_law_1200 at h
  have hx := C.1
  have hb := C.2.1
  have hbA : ¬ A0 b sb := by unfold A0; omega
  refine lv_aload_n hx hb dL_law_1200 rfl (lv_at hl 1 rfl) ?_
  refine lv_aload_n hx hb dL_law_1201 rfl (lv_at hl 0 rfl) ?_
  refine lv_iload hx hb dL_law_1202 (lv_at hl 4 rfl) ?_
  refine lv_iconst (v := (1 : Int32)) hx hb dL_law_1204 (by decide) ?_
  refine lv_iadd hx hb dL_law_1205 ?_
  obtain ⟨g1206, h⟩ := gd h
  refine va_sld hx hb hX hbl hbA hS g1206 dL_law_1206 ?_
  refine lv_aload_n hx hb dL_law_1207 rfl (lv_at hl 0 rfl) ?_
  refine lv_iload hx hb dL_law_1208 (lv_at hl 4 rfl) ?_
  refine lv_iconst (v := (2 : Int32)) hx hb dL_law_1210 (by decide) ?_
  refine lv_iadd hx hb dL_law_1211 ?_
  obtain ⟨g1212, h⟩ := gd h
  refine va_sld hx hb hX hbl hbA hS g1212 dL_law_1212 ?_
  refine lv_aload_n hx hb dL_law_1213 rfl (lv_at hl 0 rfl) ?_
  refine lv_iload hx hb dL_law_1214 (lv_at hl 4 rfl) ?_
  refine lv_iconst (v := (3 : Int32)) hx hb dL_law_1216 (by decide) ?_
  refine lv_iadd hx hb dL_law_1217 ?_
  obtain ⟨g1218, h⟩ := gd h
  refine va_sld hx hb hX hbl hbA hS g1218 dL_law_1218 ?_
  refine lv_aload_n hx hb dL_law_1219 rfl (lv_at hl 3 rfl) ?_
  obtain ⟨r1220, M1220, hc1220, h⟩ := bd2_e h
  refine kL_138 C hml hl.1 (c_L_refresh hlf hc1220) ⟨Nat.le_of_ble_eq_true rfl, Nat.le_of_ble_eq_true rfl⟩ ⟨by show _ ≤ 601024; omega, by show _ ≤ 7293034; omega⟩ (Nat.le_of_ble_eq_true rfl) hS hW dL_law_1220 (fun H locs hW hS => ?_)
  refine lv_istore (lv' := [(5, .int r1220), (0, .ref sb), (1, .ref (b + 0)), (2, .ref (b + 156)), (3, .ref (b + 172)), (4, .int x4)]) hx hb dL_law_1223 hl (by decide) rfl (fun ls hl => ?_)
  refine lv_aload_n hx hb dL_law_1225 rfl (lv_at hl 3 rfl) ?_
  refine lv_aload_n hx hb dL_law_1226 rfl (lv_at hl 1 rfl) ?_
  refine lv_iload hx hb dL_law_1227 (lv_at hl 5 rfl) ?_
  refine lv_iconst (v := (1 : Int32)) hx hb dL_law_1229 (by decide) ?_
  refine lv_iadd hx hb dL_law_1230 ?_
  obtain ⟨g1231, h⟩ := gd h
  refine va_sld hx hb hX hbl hbA hS g1231 dL_law_1231 ?_
  refine lv_aload_n hx hb dL_law_1232 rfl (lv_at hl 1 rfl) ?_
  refine lv_iload hx hb dL_law_1233 (lv_at hl 5 rfl) ?_
  refine lv_iconst (v := (2 : Int32)) hx hb dL_law_1235 (by decide) ?_
  refine lv_iadd hx hb dL_law_1236 ?_
  obtain ⟨g1237, h⟩ := gd h
  refine va_sld hx hb hX hbl hbA hS g1237 dL_law_1237 ?_
  refine lv_aload_n hx hb dL_law_1238 rfl (lv_at hl 1 rfl) ?_
  refine lv_iload hx hb dL_law_1239 (lv_at hl 5 rfl) ?_
  refine lv_iconst (v := (3 : Int32)) hx hb dL_law_1241 (by decide) ?_
  refine lv_iadd hx hb dL_law_1242 ?_
  obtain ⟨g1243, h⟩ := gd h
  refine va_sld hx hb hX hbl hbA hS g1243 dL_law_1243 ?_
  obtain ⟨r1244, M1244, hc1244, h⟩ := bd2_e h
  refine kL_140 C hml hl.1 (c_X5_refresh hc1244) ⟨Nat.le_of_ble_eq_true rfl, Nat.le_of_ble_eq_true rfl⟩ ⟨by show _ ≤ 601024; omega, by show _ ≤ 7293034; omega⟩ (Nat.le_of_ble_eq_true rfl) hS hW dL_law_1244 (fun H locs hW hS => ?_)
  refine lv_istore (lv' := [(6, .int r1244), (5, .int r1220), (0, .ref sb), (1, .ref (b + 0)), (2, .ref (b + 156)), (3, .ref (b + 172)), (4, .int x4)]) hx hb dL_law_1247 hl (by decide) rfl (fun ls hl => ?_)
  refine lv_aload_n hx hb dL_law_1249 rfl (lv_at hl 4 rfl) ?_
  obtain ⟨r1250, M1250, hc1250, h⟩ := bd2_e h
  refine kL_87 C hml hl.1 (c_X5_thrown hc1250) ⟨Nat.le_of_ble_eq_true rfl, Nat.le_of_ble_eq_true rfl⟩ ⟨by show _ ≤ 601024; omega, by show _ ≤ 7293034; omega⟩ (Nat.le_of_ble_eq_true rfl) hS hW dL_law_1250 (fun H locs hW hS => ?_)
  refine lv_iload hx hb dL_law_1253 (lv_at hl 1 rfl) ?_
  refine lv_icmp_eq (tgt := 1260) hx hb dL_law_1255 (by decide) (fun c1255 => ?_) (fun c1255 => ?_)
  · have h := (if_pos c1255).symm.trans h
    refine lv_iload hx hb dL_law_1260 (lv_at hl 1 rfl) ?_
    refine lv_if_ne (tgt := 1277) hx hb dL_law_1262 (by decide) (fun c1262 => ?_) (fun c1262 => ?_)
    · have h := (if_neg c1262).symm.trans h
      exact w_L_law_1277 C hml hr hlk hlf hX hbl hbb n hK23 h hS hW (lv_sub hl [2, 3, 4, 5, 6] rfl) ⟨by omega, by omega⟩
    · have h := (if_pos c1262).symm.trans h
      refine lv_aload_n hx hb dL_law_1265 rfl (lv_at hl 5 rfl) ?_
      refine lv_iconst (v := (0 : Int32)) hx hb dL_law_1266 (by decide) ?_
      obtain ⟨g1267, h⟩ := gd h
      refine ald_172 C hW g1267 dL_law_1267 ?_
      refine lv_iload hx hb dL_law_1268 (lv_at hl 0 rfl) ?_
      refine lv_i2l (v := r1244.toInt64) hx hb dL_law_1270 rfl ?_
      refine W.lcmp hx hb dL_law_1271 ?_
      refine lv_if_eq (tgt := 1277) hx hb dL_law_1272 (by decide) (fun c1272 => ?_) (fun c1272 => ?_)
      · have h := (if_pos c1272).symm.trans h
        exact w_L_law_1277 C hml hr hlk hlf hX hbl hbb n hK23 h hS hW (lv_sub hl [2, 3, 4, 5, 6] rfl) ⟨by omega, by omega⟩
      · have h := (if_neg c1272).symm.trans h
        refine lv_iconst (v := (0 : Int32)) hx hb dL_law_1275 (by decide) ?_
        exact absurd (show (0 : Int32) = 1 from congrArg Prod.fst (Option.some.inj h)) (by decide)
  · have h := (if_neg c1255).symm.trans h
    refine lv_iconst (v := (0 : Int32)) hx hb dL_law_1258 (by decide) ?_
    exact absurd (show (0 : Int32) = 1 from congrArg Prod.fst (Option.some.inj h)) (by decide)
def f_L_law_1333 (xs : Nat → Int32) (L : Nat) (K23 : Mem → Int32 → Option (Int32 × Mem)) (M : Mem) (x4 : Int32) : Option (Int32 × Mem) :=
  f_L_law_1627 xs L K23 M x4
set_option maxHeartbeats 4000000 in
set_option maxRecDepth 100000 in
theorem w_L_law_1333 {p : Program} {l : Launch} {e : Env} {s : State} {m : MethodId} {below : List Frame} {meth : Method} {c : Code} {Z : Zt} {b sb L : Nat} {xs : Nat → Int32} (C : Cx p s m #[Value.ref sb] c cL_law RL Z b) (hml : c.maxLocals = 7) (hr : meth.sig.returnType = ret) (hlk : meth.locks = false) (hlf : l.stackTraces = false) (hX : va_X sb L xs s s.heap) (hbl : sb < s.heap.size) (hbb : b = s.heap.size) (n : Nat) {K23 : Mem → Int32 → Option (Int32 × Mem)} (hK23 : ∀ {M : Mem} {x4 : Int32} {M' : Mem} (h : K23 M x4 = some (1, M')) {H : Heap} {locs : List Loc} {ls : Array Slot} {cells slots : Nat} (hS : va_S (A0 b) s.heap H locs) (hW : Wd Z b M H) (hl : lv_has ls 7 [(0, .ref sb), (1, .ref (b + 0)), (2, .ref (b + 156)), (3, .ref (b + 172)), (4, .int x4)]) (hcs : cells + 8 * n ≤ 601024 ∧ slots + 48 * n ≤ 7293034), W p l e room_1 s m #[Value.ref sb] below meth c H locs cells slots (lw_Z below #[Value.ref sb] s) (F0 m 23 ls [])) {M : Mem} {x4 : Int32} {M' : Mem} (h : f_L_law_1333 xs L K23 M x4 = some (1, M')) {H : Heap} {locs : List Loc} {ls : Array Slot} {cells slots : Nat} (hS : va_S (A0 b) s.heap H locs) (hW : Wd Z b M H) (hl : lv_has ls 7 [(0, .ref sb), (1, .ref (b + 0)), (2, .ref (b + 156)), (3, .ref (b + 172)), (4, .int x4)]) (hcs : cells + 6 + 8 * n ≤ 601024 ∧ slots + 36 + 48 * n ≤ 7293034) : W p l e room_1 s m #[Value.ref sb] below meth c H locs cells slots (lw_Z below #[Value.ref sb] s) (F0 m 1333 ls []) := by
  unfold f_L_law_1333 at h
  have hx := C.1
  have hb := C.2.1
  have hbA : ¬ A0 b sb := by unfold A0; omega
  refine lv_goto (tgt := 1627) hx hb dL_law_1333 (by decide) ?_
  exact w_L_law_1627 C hml hr hlk hlf hX hbl hbb n hK23 h hS hW (lv_sub hl [0, 1, 2, 3, 4] rfl) ⟨by omega, by omega⟩
def f_L_law_1280 (xs : Nat → Int32) (L : Nat) (K23 : Mem → Int32 → Option (Int32 × Mem)) (M : Mem) (x4 : Int32) : Option (Int32 × Mem) :=
  if (x4 + (1 : Int32)) < 0 ∨ L ≤ (x4 + (1 : Int32)).toNatClampNeg then none else bd2 (f_L_pass M (xs (x4 + (1 : Int32)).toNatClampNeg)) (fun r1288 M1288 => if (x4 + (1 : Int32)) < 0 ∨ L ≤ (x4 + (1 : Int32)).toNatClampNeg then none else bd2 (f_X5_pass M1288 (xs (x4 + (1 : Int32)).toNatClampNeg)) (fun r1300 M1300 => bd2 (f_X5_thrown M1300) (fun r1306 M1306 => if r1306 = r1288 then (if r1288 = 0 then (if (0 : Int32) < 0 ∨ 1 ≤ (0 : Int32).toNatClampNeg then none else if (lg_cmp (M1306 40 (0 : Int32).toNatClampNeg).toInt64 r1300.toInt64) = 0 then f_L_law_1333 xs L K23 M1306 x4 else some ((0 : Int32), M1306)) else f_L_law_1333 xs L K23 M1306 x4) else some ((0 : Int32), M1306))))
set_option maxHeartbeats 4000000 in
set_option maxRecDepth 100000 in
theorem w_L_law_1280 {p : Program} {l : Launch} {e : Env} {s : State} {m : MethodId} {below : List Frame} {meth : Method} {c : Code} {Z : Zt} {b sb L : Nat} {xs : Nat → Int32} (C : Cx p s m #[Value.ref sb] c cL_law RL Z b) (hml : c.maxLocals = 7) (hr : meth.sig.returnType = ret) (hlk : meth.locks = false) (hlf : l.stackTraces = false) (hX : va_X sb L xs s s.heap) (hbl : sb < s.heap.size) (hbb : b = s.heap.size) (n : Nat) {K23 : Mem → Int32 → Option (Int32 × Mem)} (hK23 : ∀ {M : Mem} {x4 : Int32} {M' : Mem} (h : K23 M x4 = some (1, M')) {H : Heap} {locs : List Loc} {ls : Array Slot} {cells slots : Nat} (hS : va_S (A0 b) s.heap H locs) (hW : Wd Z b M H) (hl : lv_has ls 7 [(0, .ref sb), (1, .ref (b + 0)), (2, .ref (b + 156)), (3, .ref (b + 172)), (4, .int x4)]) (hcs : cells + 8 * n ≤ 601024 ∧ slots + 48 * n ≤ 7293034), W p l e room_1 s m #[Value.ref sb] below meth c H locs cells slots (lw_Z below #[Value.ref sb] s) (F0 m 23 ls [])) {M : Mem} {x4 : Int32} {M' : Mem} (h : f_L_law_1280 xs L K23 M x4 = some (1, M')) {H : Heap} {locs : List Loc} {ls : Array Slot} {cells slots : Nat} (hS : va_S (A0 b) s.heap H locs) (hW : Wd Z b M H) (hl : lv_has ls 7 [(0, .ref sb), (1, .ref (b + 0)), (2, .ref (b + 156)), (3, .ref (b + 172)), (4, .int x4)]) (hcs : cells + 8 + 8 * n ≤ 601024 ∧ slots + 48 + 48 * n ≤ 7293034) : W p l e room_1 s m #[Value.ref sb] below meth c H locs cells slots (lw_Z below #[Value.ref sb] s) (F0 m 1280 ls []) := by
  unfold f_L_law_1280 at h
  have hx := C.1
  have hb := C.2.1
  have hbA : ¬ A0 b sb := by unfold A0; omega
  refine lv_aload_n hx hb dL_law_1280 rfl (lv_at hl 1 rfl) ?_
  refine lv_aload_n hx hb dL_law_1281 rfl (lv_at hl 0 rfl) ?_
  refine lv_iload hx hb dL_law_1282 (lv_at hl 4 rfl) ?_
  refine lv_iconst (v := (1 : Int32)) hx hb dL_law_1284 (by decide) ?_
  refine lv_iadd hx hb dL_law_1285 ?_
  obtain ⟨g1286, h⟩ := gd h
  refine va_sld hx hb hX hbl hbA hS g1286 dL_law_1286 ?_
  refine lv_aload_n hx hb dL_law_1287 rfl (lv_at hl 3 rfl) ?_
  obtain ⟨r1288, M1288, hc1288, h⟩ := bd2_e h
  refine kL_141 C hml hl.1 (c_L_pass hlf hc1288) ⟨Nat.le_of_ble_eq_true rfl, Nat.le_of_ble_eq_true rfl⟩ ⟨by show _ ≤ 601024; omega, by show _ ≤ 7293034; omega⟩ (Nat.le_of_ble_eq_true rfl) hS hW dL_law_1288 (fun H locs hW hS => ?_)
  refine lv_istore (lv' := [(5, .int r1288), (0, .ref sb), (1, .ref (b + 0)), (2, .ref (b + 156)), (3, .ref (b + 172)), (4, .int x4)]) hx hb dL_law_1291 hl (by decide) rfl (fun ls hl => ?_)
  refine lv_aload_n hx hb dL_law_1293 rfl (lv_at hl 3 rfl) ?_
  refine lv_aload_n hx hb dL_law_1294 rfl (lv_at hl 1 rfl) ?_
  refine lv_iload hx hb dL_law_1295 (lv_at hl 5 rfl) ?_
  refine lv_iconst (v := (1 : Int32)) hx hb dL_law_1297 (by decide) ?_
  refine lv_iadd hx hb dL_law_1298 ?_
  obtain ⟨g1299, h⟩ := gd h
  refine va_sld hx hb hX hbl hbA hS g1299 dL_law_1299 ?_
  obtain ⟨r1300, M1300, hc1300, h⟩ := bd2_e h
  refine kL_143 C hml hl.1 (c_X5_pass hc1300) ⟨Nat.le_of_ble_eq_true rfl, Nat.le_of_ble_eq_true rfl⟩ ⟨by show _ ≤ 601024; omega, by show _ ≤ 7293034; omega⟩ (Nat.le_of_ble_eq_true rfl) hS hW dL_law_1300 (fun H locs hW hS => ?_)
  refine lv_istore (lv' := [(6, .int r1300), (5, .int r1288), (0, .ref sb), (1, .ref (b + 0)), (2, .ref (b + 156)), (3, .ref (b + 172)), (4, .int x4)]) hx hb dL_law_1303 hl (by decide) rfl (fun ls hl => ?_)
  refine lv_aload_n hx hb dL_law_1305 rfl (lv_at hl 4 rfl) ?_
  obtain ⟨r1306, M1306, hc1306, h⟩ := bd2_e h
  refine kL_87 C hml hl.1 (c_X5_thrown hc1306) ⟨Nat.le_of_ble_eq_true rfl, Nat.le_of_ble_eq_true rfl⟩ ⟨by show _ ≤ 601024; omega, by show _ ≤ 7293034; omega⟩ (Nat.le_of_ble_eq_true rfl) hS hW dL_law_1306 (fun H locs hW hS => ?_)
  refine lv_iload hx hb dL_law_1309 (lv_at hl 1 rfl) ?_
  refine lv_icmp_eq (tgt := 1316) hx hb dL_law_1311 (by decide) (fun c1311 => ?_) (fun c1311 => ?_)
  · have h := (if_pos c1311).symm.trans h
    refine lv_iload hx hb dL_law_1316 (lv_at hl 1 rfl) ?_
    refine lv_if_ne (tgt := 1333) hx hb dL_law_1318 (by decide) (fun c1318 => ?_) (fun c1318 => ?_)
    · have h := (if_neg c1318).symm.trans h
      exact w_L_law_1333 C hml hr hlk hlf hX hbl hbb n hK23 h hS hW (lv_sub hl [2, 3, 4, 5, 6] rfl) ⟨by omega, by omega⟩
    · have h := (if_pos c1318).symm.trans h
      refine lv_aload_n hx hb dL_law_1321 rfl (lv_at hl 5 rfl) ?_
      refine lv_iconst (v := (0 : Int32)) hx hb dL_law_1322 (by decide) ?_
      obtain ⟨g1323, h⟩ := gd h
      refine ald_172 C hW g1323 dL_law_1323 ?_
      refine lv_iload hx hb dL_law_1324 (lv_at hl 0 rfl) ?_
      refine lv_i2l (v := r1300.toInt64) hx hb dL_law_1326 rfl ?_
      refine W.lcmp hx hb dL_law_1327 ?_
      refine lv_if_eq (tgt := 1333) hx hb dL_law_1328 (by decide) (fun c1328 => ?_) (fun c1328 => ?_)
      · have h := (if_pos c1328).symm.trans h
        exact w_L_law_1333 C hml hr hlk hlf hX hbl hbb n hK23 h hS hW (lv_sub hl [2, 3, 4, 5, 6] rfl) ⟨by omega, by omega⟩
      · have h := (if_neg c1328).symm.trans h
        refine lv_iconst (v := (0 : Int32)) hx hb dL_law_1331 (by decide) ?_
        exact absurd (show (0 : Int32) = 1 from congrArg Prod.fst (Option.some.inj h)) (by decide)
  · have h := (if_neg c1311).symm.trans h
    refine lv_iconst (v := (0 : Int32)) hx hb dL_law_1314 (by decide) ?_
    exact absurd (show (0 : Int32) = 1 from congrArg Prod.fst (Option.some.inj h)) (by decide)
def f_L_law_1389 (xs : Nat → Int32) (L : Nat) (K23 : Mem → Int32 → Option (Int32 × Mem)) (M : Mem) (x4 : Int32) : Option (Int32 × Mem) :=
  f_L_law_1627 xs L K23 M x4
set_option maxHeartbeats 4000000 in
set_option maxRecDepth 100000 in
theorem w_L_law_1389 {p : Program} {l : Launch} {e : Env} {s : State} {m : MethodId} {below : List Frame} {meth : Method} {c : Code} {Z : Zt} {b sb L : Nat} {xs : Nat → Int32} (C : Cx p s m #[Value.ref sb] c cL_law RL Z b) (hml : c.maxLocals = 7) (hr : meth.sig.returnType = ret) (hlk : meth.locks = false) (hlf : l.stackTraces = false) (hX : va_X sb L xs s s.heap) (hbl : sb < s.heap.size) (hbb : b = s.heap.size) (n : Nat) {K23 : Mem → Int32 → Option (Int32 × Mem)} (hK23 : ∀ {M : Mem} {x4 : Int32} {M' : Mem} (h : K23 M x4 = some (1, M')) {H : Heap} {locs : List Loc} {ls : Array Slot} {cells slots : Nat} (hS : va_S (A0 b) s.heap H locs) (hW : Wd Z b M H) (hl : lv_has ls 7 [(0, .ref sb), (1, .ref (b + 0)), (2, .ref (b + 156)), (3, .ref (b + 172)), (4, .int x4)]) (hcs : cells + 8 * n ≤ 601024 ∧ slots + 48 * n ≤ 7293034), W p l e room_1 s m #[Value.ref sb] below meth c H locs cells slots (lw_Z below #[Value.ref sb] s) (F0 m 23 ls [])) {M : Mem} {x4 : Int32} {M' : Mem} (h : f_L_law_1389 xs L K23 M x4 = some (1, M')) {H : Heap} {locs : List Loc} {ls : Array Slot} {cells slots : Nat} (hS : va_S (A0 b) s.heap H locs) (hW : Wd Z b M H) (hl : lv_has ls 7 [(0, .ref sb), (1, .ref (b + 0)), (2, .ref (b + 156)), (3, .ref (b + 172)), (4, .int x4)]) (hcs : cells + 7 + 8 * n ≤ 601024 ∧ slots + 42 + 48 * n ≤ 7293034) : W p l e room_1 s m #[Value.ref sb] below meth c H locs cells slots (lw_Z below #[Value.ref sb] s) (F0 m 1389 ls []) := by
  unfold f_L_law_1389 at h
  have hx := C.1
  have hb := C.2.1
  have hbA : ¬ A0 b sb := by unfold A0; omega
  refine lv_goto (tgt := 1627) hx hb dL_law_1389 (by decide) ?_
  exact w_L_law_1627 C hml hr hlk hlf hX hbl hbb n hK23 h hS hW (lv_sub hl [0, 1, 2, 3, 4] rfl) ⟨by omega, by omega⟩
def f_L_law_1336 (xs : Nat → Int32) (L : Nat) (K23 : Mem → Int32 → Option (Int32 × Mem)) (M : Mem) (x4 : Int32) : Option (Int32 × Mem) :=
  if (x4 + (1 : Int32)) < 0 ∨ L ≤ (x4 + (1 : Int32)).toNatClampNeg then none else bd2 (f_L_covering M (xs (x4 + (1 : Int32)).toNatClampNeg)) (fun r1344 M1344 => if (x4 + (1 : Int32)) < 0 ∨ L ≤ (x4 + (1 : Int32)).toNatClampNeg then none else bd2 (f_X5_covering M1344 (xs (x4 + (1 : Int32)).toNatClampNeg)) (fun r1356 M1356 => bd2 (f_X5_thrown M1356) (fun r1362 M1362 => if r1362 = r1344 then (if r1344 = 0 then (if (0 : Int32) < 0 ∨ 1 ≤ (0 : Int32).toNatClampNeg then none else if (lg_cmp (M1362 40 (0 : Int32).toNatClampNeg).toInt64 r1356.toInt64) = 0 then f_L_law_1389 xs L K23 M1362 x4 else some ((0 : Int32), M1362)) else f_L_law_1389 xs L K23 M1362 x4) else some ((0 : Int32), M1362))))
set_option maxHeartbeats 4000000 in
set_option maxRecDepth 100000 in
theorem w_L_law_1336 {p : Program} {l : Launch} {e : Env} {s : State} {m : MethodId} {below : List Frame} {meth : Method} {c : Code} {Z : Zt} {b sb L : Nat} {xs : Nat → Int32} (C : Cx p s m #[Value.ref sb] c cL_law RL Z b) (hml : c.maxLocals = 7) (hr : meth.sig.returnType = ret) (hlk : meth.locks = false) (hlf : l.stackTraces = false) (hX : va_X sb L xs s s.heap) (hbl : sb < s.heap.size) (hbb : b = s.heap.size) (n : Nat) {K23 : Mem → Int32 → Option (Int32 × Mem)} (hK23 : ∀ {M : Mem} {x4 : Int32} {M' : Mem} (h : K23 M x4 = some (1, M')) {H : Heap} {locs : List Loc} {ls : Array Slot} {cells slots : Nat} (hS : va_S (A0 b) s.heap H locs) (hW : Wd Z b M H) (hl : lv_has ls 7 [(0, .ref sb), (1, .ref (b + 0)), (2, .ref (b + 156)), (3, .ref (b + 172)), (4, .int x4)]) (hcs : cells + 8 * n ≤ 601024 ∧ slots + 48 * n ≤ 7293034), W p l e room_1 s m #[Value.ref sb] below meth c H locs cells slots (lw_Z below #[Value.ref sb] s) (F0 m 23 ls [])) {M : Mem} {x4 : Int32} {M' : Mem} (h : f_L_law_1336 xs L K23 M x4 = some (1, M')) {H : Heap} {locs : List Loc} {ls : Array Slot} {cells slots : Nat} (hS : va_S (A0 b) s.heap H locs) (hW : Wd Z b M H) (hl : lv_has ls 7 [(0, .ref sb), (1, .ref (b + 0)), (2, .ref (b + 156)), (3, .ref (b + 172)), (4, .int x4)]) (hcs : cells + 8 + 8 * n ≤ 601024 ∧ slots + 48 + 48 * n ≤ 7293034) : W p l e room_1 s m #[Value.ref sb] below meth c H locs cells slots (lw_Z below #[Value.ref sb] s) (F0 m 1336 ls []) := by
  unfold f_L_law_1336 at h
  have hx := C.1
  have hb := C.2.1
  have hbA : ¬ A0 b sb := by unfold A0; omega
  refine lv_aload_n hx hb dL_law_1336 rfl (lv_at hl 1 rfl) ?_
  refine lv_aload_n hx hb dL_law_1337 rfl (lv_at hl 0 rfl) ?_
  refine lv_iload hx hb dL_law_1338 (lv_at hl 4 rfl) ?_
  refine lv_iconst (v := (1 : Int32)) hx hb dL_law_1340 (by decide) ?_
  refine lv_iadd hx hb dL_law_1341 ?_
  obtain ⟨g1342, h⟩ := gd h
  refine va_sld hx hb hX hbl hbA hS g1342 dL_law_1342 ?_
  refine lv_aload_n hx hb dL_law_1343 rfl (lv_at hl 3 rfl) ?_
  obtain ⟨r1344, M1344, hc1344, h⟩ := bd2_e h
  refine kL_144 C hml hl.1 (c_L_covering hlf hc1344) ⟨Nat.le_of_ble_eq_true rfl, Nat.le_of_ble_eq_true rfl⟩ ⟨by show _ ≤ 601024; omega, by show _ ≤ 7293034; omega⟩ (Nat.le_of_ble_eq_true rfl) hS hW dL_law_1344 (fun H locs hW hS => ?_)
  refine lv_istore (lv' := [(5, .int r1344), (0, .ref sb), (1, .ref (b + 0)), (2, .ref (b + 156)), (3, .ref (b + 172)), (4, .int x4)]) hx hb dL_law_1347 hl (by decide) rfl (fun ls hl => ?_)
  refine lv_aload_n hx hb dL_law_1349 rfl (lv_at hl 3 rfl) ?_
  refine lv_aload_n hx hb dL_law_1350 rfl (lv_at hl 1 rfl) ?_
  refine lv_iload hx hb dL_law_1351 (lv_at hl 5 rfl) ?_
  refine lv_iconst (v := (1 : Int32)) hx hb dL_law_1353 (by decide) ?_
  refine lv_iadd hx hb dL_law_1354 ?_
  obtain ⟨g1355, h⟩ := gd h
  refine va_sld hx hb hX hbl hbA hS g1355 dL_law_1355 ?_
  obtain ⟨r1356, M1356, hc1356, h⟩ := bd2_e h
  refine kL_146 C hml hl.1 (c_X5_covering hc1356) ⟨Nat.le_of_ble_eq_true rfl, Nat.le_of_ble_eq_true rfl⟩ ⟨by show _ ≤ 601024; omega, by show _ ≤ 7293034; omega⟩ (Nat.le_of_ble_eq_true rfl) hS hW dL_law_1356 (fun H locs hW hS => ?_)
  refine lv_istore (lv' := [(6, .int r1356), (5, .int r1344), (0, .ref sb), (1, .ref (b + 0)), (2, .ref (b + 156)), (3, .ref (b + 172)), (4, .int x4)]) hx hb dL_law_1359 hl (by decide) rfl (fun ls hl => ?_)
  refine lv_aload_n hx hb dL_law_1361 rfl (lv_at hl 4 rfl) ?_
  obtain ⟨r1362, M1362, hc1362, h⟩ := bd2_e h
  refine kL_87 C hml hl.1 (c_X5_thrown hc1362) ⟨Nat.le_of_ble_eq_true rfl, Nat.le_of_ble_eq_true rfl⟩ ⟨by show _ ≤ 601024; omega, by show _ ≤ 7293034; omega⟩ (Nat.le_of_ble_eq_true rfl) hS hW dL_law_1362 (fun H locs hW hS => ?_)
  refine lv_iload hx hb dL_law_1365 (lv_at hl 1 rfl) ?_
  refine lv_icmp_eq (tgt := 1372) hx hb dL_law_1367 (by decide) (fun c1367 => ?_) (fun c1367 => ?_)
  · have h := (if_pos c1367).symm.trans h
    refine lv_iload hx hb dL_law_1372 (lv_at hl 1 rfl) ?_
    refine lv_if_ne (tgt := 1389) hx hb dL_law_1374 (by decide) (fun c1374 => ?_) (fun c1374 => ?_)
    · have h := (if_neg c1374).symm.trans h
      exact w_L_law_1389 C hml hr hlk hlf hX hbl hbb n hK23 h hS hW (lv_sub hl [2, 3, 4, 5, 6] rfl) ⟨by omega, by omega⟩
    · have h := (if_pos c1374).symm.trans h
      refine lv_aload_n hx hb dL_law_1377 rfl (lv_at hl 5 rfl) ?_
      refine lv_iconst (v := (0 : Int32)) hx hb dL_law_1378 (by decide) ?_
      obtain ⟨g1379, h⟩ := gd h
      refine ald_172 C hW g1379 dL_law_1379 ?_
      refine lv_iload hx hb dL_law_1380 (lv_at hl 0 rfl) ?_
      refine lv_i2l (v := r1356.toInt64) hx hb dL_law_1382 rfl ?_
      refine W.lcmp hx hb dL_law_1383 ?_
      refine lv_if_eq (tgt := 1389) hx hb dL_law_1384 (by decide) (fun c1384 => ?_) (fun c1384 => ?_)
      · have h := (if_pos c1384).symm.trans h
        exact w_L_law_1389 C hml hr hlk hlf hX hbl hbb n hK23 h hS hW (lv_sub hl [2, 3, 4, 5, 6] rfl) ⟨by omega, by omega⟩
      · have h := (if_neg c1384).symm.trans h
        refine lv_iconst (v := (0 : Int32)) hx hb dL_law_1387 (by decide) ?_
        exact absurd (show (0 : Int32) = 1 from congrArg Prod.fst (Option.some.inj h)) (by decide)
  · have h := (if_neg c1367).symm.trans h
    refine lv_iconst (v := (0 : Int32)) hx hb dL_law_1370 (by decide) ?_
    exact absurd (show (0 : Int32) = 1 from congrArg Prod.fst (Option.some.inj h)) (by decide)
def f_L_law_1476 (xs : Nat → Int32) (L : Nat) (K23 : Mem → Int32 → Option (Int32 × Mem)) (M : Mem) (x4 : Int32) : Option (Int32 × Mem) :=
  f_L_law_1627 xs L K23 M x4
set_option maxHeartbeats 4000000 in
set_option maxRecDepth 100000 in
theorem w_L_law_1476 {p : Program} {l : Launch} {e : Env} {s : State} {m : MethodId} {below : List Frame} {meth : Method} {c : Code} {Z : Zt} {b sb L : Nat} {xs : Nat → Int32} (C : Cx p s m #[Value.ref sb] c cL_law RL Z b) (hml : c.maxLocals = 7) (hr : meth.sig.returnType = ret) (hlk : meth.locks = false) (hlf : l.stackTraces = false) (hX : va_X sb L xs s s.heap) (hbl : sb < s.heap.size) (hbb : b = s.heap.size) (n : Nat) {K23 : Mem → Int32 → Option (Int32 × Mem)} (hK23 : ∀ {M : Mem} {x4 : Int32} {M' : Mem} (h : K23 M x4 = some (1, M')) {H : Heap} {locs : List Loc} {ls : Array Slot} {cells slots : Nat} (hS : va_S (A0 b) s.heap H locs) (hW : Wd Z b M H) (hl : lv_has ls 7 [(0, .ref sb), (1, .ref (b + 0)), (2, .ref (b + 156)), (3, .ref (b + 172)), (4, .int x4)]) (hcs : cells + 8 * n ≤ 601024 ∧ slots + 48 * n ≤ 7293034), W p l e room_1 s m #[Value.ref sb] below meth c H locs cells slots (lw_Z below #[Value.ref sb] s) (F0 m 23 ls [])) {M : Mem} {x4 : Int32} {M' : Mem} (h : f_L_law_1476 xs L K23 M x4 = some (1, M')) {H : Heap} {locs : List Loc} {ls : Array Slot} {cells slots : Nat} (hS : va_S (A0 b) s.heap H locs) (hW : Wd Z b M H) (hl : lv_has ls 7 [(0, .ref sb), (1, .ref (b + 0)), (2, .ref (b + 156)), (3, .ref (b + 172)), (4, .int x4)]) (hcs : cells + 5 + 8 * n ≤ 601024 ∧ slots + 30 + 48 * n ≤ 7293034) : W p l e room_1 s m #[Value.ref sb] below meth c H locs cells slots (lw_Z below #[Value.ref sb] s) (F0 m 1476 ls []) := by
  unfold f_L_law_1476 at h
  have hx := C.1
  have hb := C.2.1
  have hbA : ¬ A0 b sb := by unfold A0; omega
  refine lv_goto (tgt := 1627) hx hb dL_law_1476 (by decide) ?_
  exact w_L_law_1627 C hml hr hlk hlf hX hbl hbb n hK23 h hS hW (lv_sub hl [0, 1, 2, 3, 4] rfl) ⟨by omega, by omega⟩
def f_L_law_1470 (xs : Nat → Int32) (L : Nat) (K23 : Mem → Int32 → Option (Int32 × Mem)) (M : Mem) (x4 : Int32) (xs0 : Int32) (xs1 : Int32) : Option (Int32 × Mem) :=
  if (lg_cmp xs0.toInt64 xs1.toInt64) = 0 then f_L_law_1476 xs L K23 M x4 else some ((0 : Int32), M)
set_option maxHeartbeats 4000000 in
set_option maxRecDepth 100000 in
theorem w_L_law_1470 {p : Program} {l : Launch} {e : Env} {s : State} {m : MethodId} {below : List Frame} {meth : Method} {c : Code} {Z : Zt} {b sb L : Nat} {xs : Nat → Int32} (C : Cx p s m #[Value.ref sb] c cL_law RL Z b) (hml : c.maxLocals = 7) (hr : meth.sig.returnType = ret) (hlk : meth.locks = false) (hlf : l.stackTraces = false) (hX : va_X sb L xs s s.heap) (hbl : sb < s.heap.size) (hbb : b = s.heap.size) (n : Nat) {K23 : Mem → Int32 → Option (Int32 × Mem)} (hK23 : ∀ {M : Mem} {x4 : Int32} {M' : Mem} (h : K23 M x4 = some (1, M')) {H : Heap} {locs : List Loc} {ls : Array Slot} {cells slots : Nat} (hS : va_S (A0 b) s.heap H locs) (hW : Wd Z b M H) (hl : lv_has ls 7 [(0, .ref sb), (1, .ref (b + 0)), (2, .ref (b + 156)), (3, .ref (b + 172)), (4, .int x4)]) (hcs : cells + 8 * n ≤ 601024 ∧ slots + 48 * n ≤ 7293034), W p l e room_1 s m #[Value.ref sb] below meth c H locs cells slots (lw_Z below #[Value.ref sb] s) (F0 m 23 ls [])) {M : Mem} {x4 : Int32} {xs0 : Int32} {xs1 : Int32} {M' : Mem} (h : f_L_law_1470 xs L K23 M x4 xs0 xs1 = some (1, M')) {H : Heap} {locs : List Loc} {ls : Array Slot} {cells slots : Nat} (hS : va_S (A0 b) s.heap H locs) (hW : Wd Z b M H) (hl : lv_has ls 7 [(0, .ref sb), (1, .ref (b + 0)), (2, .ref (b + 156)), (3, .ref (b + 172)), (4, .int x4)]) (hcs : cells + 5 + 8 * n ≤ 601024 ∧ slots + 30 + 48 * n ≤ 7293034) : W p l e room_1 s m #[Value.ref sb] below meth c H locs cells slots (lw_Z below #[Value.ref sb] s) (F0 m 1470 ls [.long xs1.toInt64, .long xs0.toInt64]) := by
  unfold f_L_law_1470 at h
  have hx := C.1
  have hb := C.2.1
  have hbA : ¬ A0 b sb := by unfold A0; omega
  refine W.lcmp hx hb dL_law_1470 ?_
  refine lv_if_eq (tgt := 1476) hx hb dL_law_1471 (by decide) (fun c1471 => ?_) (fun c1471 => ?_)
  · have h := (if_pos c1471).symm.trans h
    exact w_L_law_1476 C hml hr hlk hlf hX hbl hbb n hK23 h hS hW (lv_sub hl [0, 1, 2, 3, 4] rfl) ⟨by omega, by omega⟩
  · have h := (if_neg c1471).symm.trans h
    refine lv_iconst (v := (0 : Int32)) hx hb dL_law_1474 (by decide) ?_
    exact absurd (show (0 : Int32) = 1 from congrArg Prod.fst (Option.some.inj h)) (by decide)
def f_L_law_1392 (xs : Nat → Int32) (L : Nat) (K23 : Mem → Int32 → Option (Int32 × Mem)) (M : Mem) (x4 : Int32) : Option (Int32 × Mem) :=
  if (x4 + (1 : Int32)) < 0 ∨ L ≤ (x4 + (1 : Int32)).toNatClampNeg then none else if (x4 + (2 : Int32)) < 0 ∨ L ≤ (x4 + (2 : Int32)).toNatClampNeg then none else if (x4 + (3 : Int32)) < 0 ∨ L ≤ (x4 + (3 : Int32)).toNatClampNeg then none else bd2 (f_L_mayChange M (xs (x4 + (1 : Int32)).toNatClampNeg) (xs (x4 + (2 : Int32)).toNatClampNeg) (xs (x4 + (3 : Int32)).toNatClampNeg)) (fun r1412 M1412 => if (x4 + (1 : Int32)) < 0 ∨ L ≤ (x4 + (1 : Int32)).toNatClampNeg then none else if (x4 + (2 : Int32)) < 0 ∨ L ≤ (x4 + (2 : Int32)).toNatClampNeg then none else if (x4 + (3 : Int32)) < 0 ∨ L ≤ (x4 + (3 : Int32)).toNatClampNeg then none else bd2 (f_X5_mayChange M1412 (xs (x4 + (1 : Int32)).toNatClampNeg) (xs (x4 + (2 : Int32)).toNatClampNeg) (xs (x4 + (3 : Int32)).toNatClampNeg)) (fun r1436 M1436 => bd2 (f_X5_thrown M1436) (fun r1442 M1442 => if r1442 = r1412 then (if r1412 = 0 then (if (0 : Int32) < 0 ∨ 1 ≤ (0 : Int32).toNatClampNeg then none else if r1436 = 0 then f_L_law_1470 xs L K23 M1442 x4 (M1442 40 (0 : Int32).toNatClampNeg) (0 : Int32) else f_L_law_1470 xs L K23 M1442 x4 (M1442 40 (0 : Int32).toNatClampNeg) (1 : Int32)) else f_L_law_1476 xs L K23 M1442 x4) else some ((0 : Int32), M1442))))
set_option maxHeartbeats 4000000 in
set_option maxRecDepth 100000 in
theorem w_L_law_1392 {p : Program} {l : Launch} {e : Env} {s : State} {m : MethodId} {below : List Frame} {meth : Method} {c : Code} {Z : Zt} {b sb L : Nat} {xs : Nat → Int32} (C : Cx p s m #[Value.ref sb] c cL_law RL Z b) (hml : c.maxLocals = 7) (hr : meth.sig.returnType = ret) (hlk : meth.locks = false) (hlf : l.stackTraces = false) (hX : va_X sb L xs s s.heap) (hbl : sb < s.heap.size) (hbb : b = s.heap.size) (n : Nat) {K23 : Mem → Int32 → Option (Int32 × Mem)} (hK23 : ∀ {M : Mem} {x4 : Int32} {M' : Mem} (h : K23 M x4 = some (1, M')) {H : Heap} {locs : List Loc} {ls : Array Slot} {cells slots : Nat} (hS : va_S (A0 b) s.heap H locs) (hW : Wd Z b M H) (hl : lv_has ls 7 [(0, .ref sb), (1, .ref (b + 0)), (2, .ref (b + 156)), (3, .ref (b + 172)), (4, .int x4)]) (hcs : cells + 8 * n ≤ 601024 ∧ slots + 48 * n ≤ 7293034), W p l e room_1 s m #[Value.ref sb] below meth c H locs cells slots (lw_Z below #[Value.ref sb] s) (F0 m 23 ls [])) {M : Mem} {x4 : Int32} {M' : Mem} (h : f_L_law_1392 xs L K23 M x4 = some (1, M')) {H : Heap} {locs : List Loc} {ls : Array Slot} {cells slots : Nat} (hS : va_S (A0 b) s.heap H locs) (hW : Wd Z b M H) (hl : lv_has ls 7 [(0, .ref sb), (1, .ref (b + 0)), (2, .ref (b + 156)), (3, .ref (b + 172)), (4, .int x4)]) (hcs : cells + 8 + 8 * n ≤ 601024 ∧ slots + 48 + 48 * n ≤ 7293034) : W p l e room_1 s m #[Value.ref sb] below meth c H locs cells slots (lw_Z below #[Value.ref sb] s) (F0 m 1392 ls []) := by
  unfold f_L_law_1392 at h
  have hx := C.1
  have hb := C.2.1
  have hbA : ¬ A0 b sb := by unfold A0; omega
  refine lv_aload_n hx hb dL_law_1392 rfl (lv_at hl 1 rfl) ?_
  refine lv_aload_n hx hb dL_law_1393 rfl (lv_at hl 0 rfl) ?_
  refine lv_iload hx hb dL_law_1394 (lv_at hl 4 rfl) ?_
  refine lv_iconst (v := (1 : Int32)) hx hb dL_law_1396 (by decide) ?_
  refine lv_iadd hx hb dL_law_1397 ?_
  obtain ⟨g1398, h⟩ := gd h
  refine va_sld hx hb hX hbl hbA hS g1398 dL_law_1398 ?_
  refine lv_aload_n hx hb dL_law_1399 rfl (lv_at hl 0 rfl) ?_
  refine lv_iload hx hb dL_law_1400 (lv_at hl 4 rfl) ?_
  refine lv_iconst (v := (2 : Int32)) hx hb dL_law_1402 (by decide) ?_
  refine lv_iadd hx hb dL_law_1403 ?_
  obtain ⟨g1404, h⟩ := gd h
  refine va_sld hx hb hX hbl hbA hS g1404 dL_law_1404 ?_
  refine lv_aload_n hx hb dL_law_1405 rfl (lv_at hl 0 rfl) ?_
  refine lv_iload hx hb dL_law_1406 (lv_at hl 4 rfl) ?_
  refine lv_iconst (v := (3 : Int32)) hx hb dL_law_1408 (by decide) ?_
  refine lv_iadd hx hb dL_law_1409 ?_
  obtain ⟨g1410, h⟩ := gd h
  refine va_sld hx hb hX hbl hbA hS g1410 dL_law_1410 ?_
  refine lv_aload_n hx hb dL_law_1411 rfl (lv_at hl 3 rfl) ?_
  obtain ⟨r1412, M1412, hc1412, h⟩ := bd2_e h
  refine kL_147 C hml hl.1 (c_L_mayChange hlf hc1412) ⟨Nat.le_of_ble_eq_true rfl, Nat.le_of_ble_eq_true rfl⟩ ⟨by show _ ≤ 601024; omega, by show _ ≤ 7293034; omega⟩ (Nat.le_of_ble_eq_true rfl) hS hW dL_law_1412 (fun H locs hW hS => ?_)
  refine lv_istore (lv' := [(5, .int r1412), (0, .ref sb), (1, .ref (b + 0)), (2, .ref (b + 156)), (3, .ref (b + 172)), (4, .int x4)]) hx hb dL_law_1415 hl (by decide) rfl (fun ls hl => ?_)
  refine lv_aload_n hx hb dL_law_1417 rfl (lv_at hl 3 rfl) ?_
  refine lv_aload_n hx hb dL_law_1418 rfl (lv_at hl 1 rfl) ?_
  refine lv_iload hx hb dL_law_1419 (lv_at hl 5 rfl) ?_
  refine lv_iconst (v := (1 : Int32)) hx hb dL_law_1421 (by decide) ?_
  refine lv_iadd hx hb dL_law_1422 ?_
  obtain ⟨g1423, h⟩ := gd h
  refine va_sld hx hb hX hbl hbA hS g1423 dL_law_1423 ?_
  refine lv_aload_n hx hb dL_law_1424 rfl (lv_at hl 1 rfl) ?_
  refine lv_iload hx hb dL_law_1425 (lv_at hl 5 rfl) ?_
  refine lv_iconst (v := (2 : Int32)) hx hb dL_law_1427 (by decide) ?_
  refine lv_iadd hx hb dL_law_1428 ?_
  obtain ⟨g1429, h⟩ := gd h
  refine va_sld hx hb hX hbl hbA hS g1429 dL_law_1429 ?_
  refine lv_aload_n hx hb dL_law_1430 rfl (lv_at hl 1 rfl) ?_
  refine lv_iload hx hb dL_law_1431 (lv_at hl 5 rfl) ?_
  refine lv_iconst (v := (3 : Int32)) hx hb dL_law_1433 (by decide) ?_
  refine lv_iadd hx hb dL_law_1434 ?_
  obtain ⟨g1435, h⟩ := gd h
  refine va_sld hx hb hX hbl hbA hS g1435 dL_law_1435 ?_
  obtain ⟨r1436, M1436, hc1436, h⟩ := bd2_e h
  refine kL_149 C hml hl.1 (c_X5_mayChange hc1436) ⟨Nat.le_of_ble_eq_true rfl, Nat.le_of_ble_eq_true rfl⟩ ⟨by show _ ≤ 601024; omega, by show _ ≤ 7293034; omega⟩ (Nat.le_of_ble_eq_true rfl) hS hW dL_law_1436 (fun H locs hW hS => ?_)
  refine lv_istore (lv' := [(6, .int r1436), (5, .int r1412), (0, .ref sb), (1, .ref (b + 0)), (2, .ref (b + 156)), (3, .ref (b + 172)), (4, .int x4)]) hx hb dL_law_1439 hl (by decide) rfl (fun ls hl => ?_)
  refine lv_aload_n hx hb dL_law_1441 rfl (lv_at hl 4 rfl) ?_
  obtain ⟨r1442, M1442, hc1442, h⟩ := bd2_e h
  refine kL_87 C hml hl.1 (c_X5_thrown hc1442) ⟨Nat.le_of_ble_eq_true rfl, Nat.le_of_ble_eq_true rfl⟩ ⟨by show _ ≤ 601024; omega, by show _ ≤ 7293034; omega⟩ (Nat.le_of_ble_eq_true rfl) hS hW dL_law_1442 (fun H locs hW hS => ?_)
  refine lv_iload hx hb dL_law_1445 (lv_at hl 1 rfl) ?_
  refine lv_icmp_eq (tgt := 1452) hx hb dL_law_1447 (by decide) (fun c1447 => ?_) (fun c1447 => ?_)
  · have h := (if_pos c1447).symm.trans h
    refine lv_iload hx hb dL_law_1452 (lv_at hl 1 rfl) ?_
    refine lv_if_ne (tgt := 1476) hx hb dL_law_1454 (by decide) (fun c1454 => ?_) (fun c1454 => ?_)
    · have h := (if_neg c1454).symm.trans h
      exact w_L_law_1476 C hml hr hlk hlf hX hbl hbb n hK23 h hS hW (lv_sub hl [2, 3, 4, 5, 6] rfl) ⟨by omega, by omega⟩
    · have h := (if_pos c1454).symm.trans h
      refine lv_aload_n hx hb dL_law_1457 rfl (lv_at hl 5 rfl) ?_
      refine lv_iconst (v := (0 : Int32)) hx hb dL_law_1458 (by decide) ?_
      obtain ⟨g1459, h⟩ := gd h
      refine ald_172 C hW g1459 dL_law_1459 ?_
      refine lv_iload hx hb dL_law_1460 (lv_at hl 0 rfl) ?_
      refine lv_if_eq (tgt := 1469) hx hb dL_law_1462 (by decide) (fun c1462 => ?_) (fun c1462 => ?_)
      · have h := (if_pos c1462).symm.trans h
        refine lv_lconst (v := (0 : Int32).toInt64) hx hb dL_law_1469 (by decide) ?_
        exact w_L_law_1470 C hml hr hlk hlf hX hbl hbb n hK23 h hS hW (lv_sub hl [2, 3, 4, 5, 6] rfl) ⟨by omega, by omega⟩
      · have h := (if_neg c1462).symm.trans h
        refine lv_lconst (v := (1 : Int32).toInt64) hx hb dL_law_1465 (by decide) ?_
        refine lv_goto (tgt := 1470) hx hb dL_law_1466 (by decide) ?_
        exact w_L_law_1470 C hml hr hlk hlf hX hbl hbb n hK23 h hS hW (lv_sub hl [2, 3, 4, 5, 6] rfl) ⟨by omega, by omega⟩
  · have h := (if_neg c1447).symm.trans h
    refine lv_iconst (v := (0 : Int32)) hx hb dL_law_1450 (by decide) ?_
    exact absurd (show (0 : Int32) = 1 from congrArg Prod.fst (Option.some.inj h)) (by decide)
def f_L_law_1532 (xs : Nat → Int32) (L : Nat) (K23 : Mem → Int32 → Option (Int32 × Mem)) (M : Mem) (x4 : Int32) : Option (Int32 × Mem) :=
  f_L_law_1627 xs L K23 M x4
set_option maxHeartbeats 4000000 in
set_option maxRecDepth 100000 in
theorem w_L_law_1532 {p : Program} {l : Launch} {e : Env} {s : State} {m : MethodId} {below : List Frame} {meth : Method} {c : Code} {Z : Zt} {b sb L : Nat} {xs : Nat → Int32} (C : Cx p s m #[Value.ref sb] c cL_law RL Z b) (hml : c.maxLocals = 7) (hr : meth.sig.returnType = ret) (hlk : meth.locks = false) (hlf : l.stackTraces = false) (hX : va_X sb L xs s s.heap) (hbl : sb < s.heap.size) (hbb : b = s.heap.size) (n : Nat) {K23 : Mem → Int32 → Option (Int32 × Mem)} (hK23 : ∀ {M : Mem} {x4 : Int32} {M' : Mem} (h : K23 M x4 = some (1, M')) {H : Heap} {locs : List Loc} {ls : Array Slot} {cells slots : Nat} (hS : va_S (A0 b) s.heap H locs) (hW : Wd Z b M H) (hl : lv_has ls 7 [(0, .ref sb), (1, .ref (b + 0)), (2, .ref (b + 156)), (3, .ref (b + 172)), (4, .int x4)]) (hcs : cells + 8 * n ≤ 601024 ∧ slots + 48 * n ≤ 7293034), W p l e room_1 s m #[Value.ref sb] below meth c H locs cells slots (lw_Z below #[Value.ref sb] s) (F0 m 23 ls [])) {M : Mem} {x4 : Int32} {M' : Mem} (h : f_L_law_1532 xs L K23 M x4 = some (1, M')) {H : Heap} {locs : List Loc} {ls : Array Slot} {cells slots : Nat} (hS : va_S (A0 b) s.heap H locs) (hW : Wd Z b M H) (hl : lv_has ls 7 [(0, .ref sb), (1, .ref (b + 0)), (2, .ref (b + 156)), (3, .ref (b + 172)), (4, .int x4)]) (hcs : cells + 6 + 8 * n ≤ 601024 ∧ slots + 36 + 48 * n ≤ 7293034) : W p l e room_1 s m #[Value.ref sb] below meth c H locs cells slots (lw_Z below #[Value.ref sb] s) (F0 m 1532 ls []) := by
  unfold f_L_law_1532 at h
  have hx := C.1
  have hb := C.2.1
  have hbA : ¬ A0 b sb := by unfold A0; omega
  refine lv_goto (tgt := 1627) hx hb dL_law_1532 (by decide) ?_
  exact w_L_law_1627 C hml hr hlk hlf hX hbl hbb n hK23 h hS hW (lv_sub hl [0, 1, 2, 3, 4] rfl) ⟨by omega, by omega⟩
def f_L_law_1479 (xs : Nat → Int32) (L : Nat) (K23 : Mem → Int32 → Option (Int32 × Mem)) (M : Mem) (x4 : Int32) : Option (Int32 × Mem) :=
  if (x4 + (1 : Int32)) < 0 ∨ L ≤ (x4 + (1 : Int32)).toNatClampNeg then none else bd2 (f_L_keep M (xs (x4 + (1 : Int32)).toNatClampNeg)) (fun r1487 M1487 => if (x4 + (1 : Int32)) < 0 ∨ L ≤ (x4 + (1 : Int32)).toNatClampNeg then none else bd2 (f_X5_keep M1487 (xs (x4 + (1 : Int32)).toNatClampNeg)) (fun r1499 M1499 => bd2 (f_X5_thrown M1499) (fun r1505 M1505 => if r1505 = r1487 then (if r1487 = 0 then (if (0 : Int32) < 0 ∨ 1 ≤ (0 : Int32).toNatClampNeg then none else if (lg_cmp (M1505 40 (0 : Int32).toNatClampNeg).toInt64 r1499.toInt64) = 0 then f_L_law_1532 xs L K23 M1505 x4 else some ((0 : Int32), M1505)) else f_L_law_1532 xs L K23 M1505 x4) else some ((0 : Int32), M1505))))
set_option maxHeartbeats 4000000 in
set_option maxRecDepth 100000 in
theorem w_L_law_1479 {p : Program} {l : Launch} {e : Env} {s : State} {m : MethodId} {below : List Frame} {meth : Method} {c : Code} {Z : Zt} {b sb L : Nat} {xs : Nat → Int32} (C : Cx p s m #[Value.ref sb] c cL_law RL Z b) (hml : c.maxLocals = 7) (hr : meth.sig.returnType = ret) (hlk : meth.locks = false) (hlf : l.stackTraces = false) (hX : va_X sb L xs s s.heap) (hbl : sb < s.heap.size) (hbb : b = s.heap.size) (n : Nat) {K23 : Mem → Int32 → Option (Int32 × Mem)} (hK23 : ∀ {M : Mem} {x4 : Int32} {M' : Mem} (h : K23 M x4 = some (1, M')) {H : Heap} {locs : List Loc} {ls : Array Slot} {cells slots : Nat} (hS : va_S (A0 b) s.heap H locs) (hW : Wd Z b M H) (hl : lv_has ls 7 [(0, .ref sb), (1, .ref (b + 0)), (2, .ref (b + 156)), (3, .ref (b + 172)), (4, .int x4)]) (hcs : cells + 8 * n ≤ 601024 ∧ slots + 48 * n ≤ 7293034), W p l e room_1 s m #[Value.ref sb] below meth c H locs cells slots (lw_Z below #[Value.ref sb] s) (F0 m 23 ls [])) {M : Mem} {x4 : Int32} {M' : Mem} (h : f_L_law_1479 xs L K23 M x4 = some (1, M')) {H : Heap} {locs : List Loc} {ls : Array Slot} {cells slots : Nat} (hS : va_S (A0 b) s.heap H locs) (hW : Wd Z b M H) (hl : lv_has ls 7 [(0, .ref sb), (1, .ref (b + 0)), (2, .ref (b + 156)), (3, .ref (b + 172)), (4, .int x4)]) (hcs : cells + 8 + 8 * n ≤ 601024 ∧ slots + 48 + 48 * n ≤ 7293034) : W p l e room_1 s m #[Value.ref sb] below meth c H locs cells slots (lw_Z below #[Value.ref sb] s) (F0 m 1479 ls []) := by
  unfold f_L_law_1479 at h
  have hx := C.1
  have hb := C.2.1
  have hbA : ¬ A0 b sb := by unfold A0; omega
  refine lv_aload_n hx hb dL_law_1479 rfl (lv_at hl 1 rfl) ?_
  refine lv_aload_n hx hb dL_law_1480 rfl (lv_at hl 0 rfl) ?_
  refine lv_iload hx hb dL_law_1481 (lv_at hl 4 rfl) ?_
  refine lv_iconst (v := (1 : Int32)) hx hb dL_law_1483 (by decide) ?_
  refine lv_iadd hx hb dL_law_1484 ?_
  obtain ⟨g1485, h⟩ := gd h
  refine va_sld hx hb hX hbl hbA hS g1485 dL_law_1485 ?_
  refine lv_aload_n hx hb dL_law_1486 rfl (lv_at hl 3 rfl) ?_
  obtain ⟨r1487, M1487, hc1487, h⟩ := bd2_e h
  refine kL_150 C hml hl.1 (c_L_keep hlf hc1487) ⟨Nat.le_of_ble_eq_true rfl, Nat.le_of_ble_eq_true rfl⟩ ⟨by show _ ≤ 601024; omega, by show _ ≤ 7293034; omega⟩ (Nat.le_of_ble_eq_true rfl) hS hW dL_law_1487 (fun H locs hW hS => ?_)
  refine lv_istore (lv' := [(5, .int r1487), (0, .ref sb), (1, .ref (b + 0)), (2, .ref (b + 156)), (3, .ref (b + 172)), (4, .int x4)]) hx hb dL_law_1490 hl (by decide) rfl (fun ls hl => ?_)
  refine lv_aload_n hx hb dL_law_1492 rfl (lv_at hl 3 rfl) ?_
  refine lv_aload_n hx hb dL_law_1493 rfl (lv_at hl 1 rfl) ?_
  refine lv_iload hx hb dL_law_1494 (lv_at hl 5 rfl) ?_
  refine lv_iconst (v := (1 : Int32)) hx hb dL_law_1496 (by decide) ?_
  refine lv_iadd hx hb dL_law_1497 ?_
  obtain ⟨g1498, h⟩ := gd h
  refine va_sld hx hb hX hbl hbA hS g1498 dL_law_1498 ?_
  obtain ⟨r1499, M1499, hc1499, h⟩ := bd2_e h
  refine kL_152 C hml hl.1 (c_X5_keep hc1499) ⟨Nat.le_of_ble_eq_true rfl, Nat.le_of_ble_eq_true rfl⟩ ⟨by show _ ≤ 601024; omega, by show _ ≤ 7293034; omega⟩ (Nat.le_of_ble_eq_true rfl) hS hW dL_law_1499 (fun H locs hW hS => ?_)
  refine lv_istore (lv' := [(6, .int r1499), (5, .int r1487), (0, .ref sb), (1, .ref (b + 0)), (2, .ref (b + 156)), (3, .ref (b + 172)), (4, .int x4)]) hx hb dL_law_1502 hl (by decide) rfl (fun ls hl => ?_)
  refine lv_aload_n hx hb dL_law_1504 rfl (lv_at hl 4 rfl) ?_
  obtain ⟨r1505, M1505, hc1505, h⟩ := bd2_e h
  refine kL_87 C hml hl.1 (c_X5_thrown hc1505) ⟨Nat.le_of_ble_eq_true rfl, Nat.le_of_ble_eq_true rfl⟩ ⟨by show _ ≤ 601024; omega, by show _ ≤ 7293034; omega⟩ (Nat.le_of_ble_eq_true rfl) hS hW dL_law_1505 (fun H locs hW hS => ?_)
  refine lv_iload hx hb dL_law_1508 (lv_at hl 1 rfl) ?_
  refine lv_icmp_eq (tgt := 1515) hx hb dL_law_1510 (by decide) (fun c1510 => ?_) (fun c1510 => ?_)
  · have h := (if_pos c1510).symm.trans h
    refine lv_iload hx hb dL_law_1515 (lv_at hl 1 rfl) ?_
    refine lv_if_ne (tgt := 1532) hx hb dL_law_1517 (by decide) (fun c1517 => ?_) (fun c1517 => ?_)
    · have h := (if_neg c1517).symm.trans h
      exact w_L_law_1532 C hml hr hlk hlf hX hbl hbb n hK23 h hS hW (lv_sub hl [2, 3, 4, 5, 6] rfl) ⟨by omega, by omega⟩
    · have h := (if_pos c1517).symm.trans h
      refine lv_aload_n hx hb dL_law_1520 rfl (lv_at hl 5 rfl) ?_
      refine lv_iconst (v := (0 : Int32)) hx hb dL_law_1521 (by decide) ?_
      obtain ⟨g1522, h⟩ := gd h
      refine ald_172 C hW g1522 dL_law_1522 ?_
      refine lv_iload hx hb dL_law_1523 (lv_at hl 0 rfl) ?_
      refine lv_i2l (v := r1499.toInt64) hx hb dL_law_1525 rfl ?_
      refine W.lcmp hx hb dL_law_1526 ?_
      refine lv_if_eq (tgt := 1532) hx hb dL_law_1527 (by decide) (fun c1527 => ?_) (fun c1527 => ?_)
      · have h := (if_pos c1527).symm.trans h
        exact w_L_law_1532 C hml hr hlk hlf hX hbl hbb n hK23 h hS hW (lv_sub hl [2, 3, 4, 5, 6] rfl) ⟨by omega, by omega⟩
      · have h := (if_neg c1527).symm.trans h
        refine lv_iconst (v := (0 : Int32)) hx hb dL_law_1530 (by decide) ?_
        exact absurd (show (0 : Int32) = 1 from congrArg Prod.fst (Option.some.inj h)) (by decide)
  · have h := (if_neg c1510).symm.trans h
    refine lv_iconst (v := (0 : Int32)) hx hb dL_law_1513 (by decide) ?_
    exact absurd (show (0 : Int32) = 1 from congrArg Prod.fst (Option.some.inj h)) (by decide)
def f_L_law_1624 (xs : Nat → Int32) (L : Nat) (K23 : Mem → Int32 → Option (Int32 × Mem)) (M : Mem) (x4 : Int32) : Option (Int32 × Mem) :=
  f_L_law_1627 xs L K23 M x4
set_option maxHeartbeats 4000000 in
set_option maxRecDepth 100000 in
theorem w_L_law_1624 {p : Program} {l : Launch} {e : Env} {s : State} {m : MethodId} {below : List Frame} {meth : Method} {c : Code} {Z : Zt} {b sb L : Nat} {xs : Nat → Int32} (C : Cx p s m #[Value.ref sb] c cL_law RL Z b) (hml : c.maxLocals = 7) (hr : meth.sig.returnType = ret) (hlk : meth.locks = false) (hlf : l.stackTraces = false) (hX : va_X sb L xs s s.heap) (hbl : sb < s.heap.size) (hbb : b = s.heap.size) (n : Nat) {K23 : Mem → Int32 → Option (Int32 × Mem)} (hK23 : ∀ {M : Mem} {x4 : Int32} {M' : Mem} (h : K23 M x4 = some (1, M')) {H : Heap} {locs : List Loc} {ls : Array Slot} {cells slots : Nat} (hS : va_S (A0 b) s.heap H locs) (hW : Wd Z b M H) (hl : lv_has ls 7 [(0, .ref sb), (1, .ref (b + 0)), (2, .ref (b + 156)), (3, .ref (b + 172)), (4, .int x4)]) (hcs : cells + 8 * n ≤ 601024 ∧ slots + 48 * n ≤ 7293034), W p l e room_1 s m #[Value.ref sb] below meth c H locs cells slots (lw_Z below #[Value.ref sb] s) (F0 m 23 ls [])) {M : Mem} {x4 : Int32} {M' : Mem} (h : f_L_law_1624 xs L K23 M x4 = some (1, M')) {H : Heap} {locs : List Loc} {ls : Array Slot} {cells slots : Nat} (hS : va_S (A0 b) s.heap H locs) (hW : Wd Z b M H) (hl : lv_has ls 7 [(0, .ref sb), (1, .ref (b + 0)), (2, .ref (b + 156)), (3, .ref (b + 172)), (4, .int x4)]) (hcs : cells + 4 + 8 * n ≤ 601024 ∧ slots + 24 + 48 * n ≤ 7293034) : W p l e room_1 s m #[Value.ref sb] below meth c H locs cells slots (lw_Z below #[Value.ref sb] s) (F0 m 1624 ls []) := by
  unfold f_L_law_1624 at h
  have hx := C.1
  have hb := C.2.1
  have hbA : ¬ A0 b sb := by unfold A0; omega
  refine lv_goto (tgt := 1627) hx hb dL_law_1624 (by decide) ?_
  exact w_L_law_1627 C hml hr hlk hlf hX hbl hbb n hK23 h hS hW (lv_sub hl [0, 1, 2, 3, 4] rfl) ⟨by omega, by omega⟩
def f_L_law_1535 (xs : Nat → Int32) (L : Nat) (K23 : Mem → Int32 → Option (Int32 × Mem)) (M : Mem) (x4 : Int32) : Option (Int32 × Mem) :=
  if (x4 + (1 : Int32)) < 0 ∨ L ≤ (x4 + (1 : Int32)).toNatClampNeg then none else if (x4 + (2 : Int32)) < 0 ∨ L ≤ (x4 + (2 : Int32)).toNatClampNeg then none else if (x4 + (3 : Int32)) < 0 ∨ L ≤ (x4 + (3 : Int32)).toNatClampNeg then none else if (x4 + (4 : Int32)) < 0 ∨ L ≤ (x4 + (4 : Int32)).toNatClampNeg then none else bd2 (f_L_restore M (xs (x4 + (1 : Int32)).toNatClampNeg) (xs (x4 + (2 : Int32)).toNatClampNeg) (xs (x4 + (3 : Int32)).toNatClampNeg) (xs (x4 + (4 : Int32)).toNatClampNeg)) (fun r1561 M1561 => if (x4 + (1 : Int32)) < 0 ∨ L ≤ (x4 + (1 : Int32)).toNatClampNeg then none else if (x4 + (2 : Int32)) < 0 ∨ L ≤ (x4 + (2 : Int32)).toNatClampNeg then none else if (x4 + (3 : Int32)) < 0 ∨ L ≤ (x4 + (3 : Int32)).toNatClampNeg then none else if (x4 + (4 : Int32)) < 0 ∨ L ≤ (x4 + (4 : Int32)).toNatClampNeg then none else bd2 (f_X5_restore M1561 (xs (x4 + (1 : Int32)).toNatClampNeg) (xs (x4 + (2 : Int32)).toNatClampNeg) (xs (x4 + (3 : Int32)).toNatClampNeg) (xs (x4 + (4 : Int32)).toNatClampNeg)) (fun r1591 M1591 => bd2 (f_X5_thrown M1591) (fun r1597 M1597 => if r1597 = r1561 then (if r1561 = 0 then (if (0 : Int32) < 0 ∨ 1 ≤ (0 : Int32).toNatClampNeg then none else if (lg_cmp (M1597 40 (0 : Int32).toNatClampNeg).toInt64 r1591.toInt64) = 0 then f_L_law_1624 xs L K23 M1597 x4 else some ((0 : Int32), M1597)) else f_L_law_1624 xs L K23 M1597 x4) else some ((0 : Int32), M1597))))
set_option maxHeartbeats 4000000 in
set_option maxRecDepth 100000 in
theorem w_L_law_1535 {p : Program} {l : Launch} {e : Env} {s : State} {m : MethodId} {below : List Frame} {meth : Method} {c : Code} {Z : Zt} {b sb L : Nat} {xs : Nat → Int32} (C : Cx p s m #[Value.ref sb] c cL_law RL Z b) (hml : c.maxLocals = 7) (hr : meth.sig.returnType = ret) (hlk : meth.locks = false) (hlf : l.stackTraces = false) (hX : va_X sb L xs s s.heap) (hbl : sb < s.heap.size) (hbb : b = s.heap.size) (n : Nat) {K23 : Mem → Int32 → Option (Int32 × Mem)} (hK23 : ∀ {M : Mem} {x4 : Int32} {M' : Mem} (h : K23 M x4 = some (1, M')) {H : Heap} {locs : List Loc} {ls : Array Slot} {cells slots : Nat} (hS : va_S (A0 b) s.heap H locs) (hW : Wd Z b M H) (hl : lv_has ls 7 [(0, .ref sb), (1, .ref (b + 0)), (2, .ref (b + 156)), (3, .ref (b + 172)), (4, .int x4)]) (hcs : cells + 8 * n ≤ 601024 ∧ slots + 48 * n ≤ 7293034), W p l e room_1 s m #[Value.ref sb] below meth c H locs cells slots (lw_Z below #[Value.ref sb] s) (F0 m 23 ls [])) {M : Mem} {x4 : Int32} {M' : Mem} (h : f_L_law_1535 xs L K23 M x4 = some (1, M')) {H : Heap} {locs : List Loc} {ls : Array Slot} {cells slots : Nat} (hS : va_S (A0 b) s.heap H locs) (hW : Wd Z b M H) (hl : lv_has ls 7 [(0, .ref sb), (1, .ref (b + 0)), (2, .ref (b + 156)), (3, .ref (b + 172)), (4, .int x4)]) (hcs : cells + 8 + 8 * n ≤ 601024 ∧ slots + 48 + 48 * n ≤ 7293034) : W p l e room_1 s m #[Value.ref sb] below meth c H locs cells slots (lw_Z below #[Value.ref sb] s) (F0 m 1535 ls []) := by
  unfold f_L_law_1535 at h
  have hx := C.1
  have hb := C.2.1
  have hbA : ¬ A0 b sb := by unfold A0; omega
  refine lv_aload_n hx hb dL_law_1535 rfl (lv_at hl 1 rfl) ?_
  refine lv_aload_n hx hb dL_law_1536 rfl (lv_at hl 0 rfl) ?_
  refine lv_iload hx hb dL_law_1537 (lv_at hl 4 rfl) ?_
  refine lv_iconst (v := (1 : Int32)) hx hb dL_law_1539 (by decide) ?_
  refine lv_iadd hx hb dL_law_1540 ?_
  obtain ⟨g1541, h⟩ := gd h
  refine va_sld hx hb hX hbl hbA hS g1541 dL_law_1541 ?_
  refine lv_aload_n hx hb dL_law_1542 rfl (lv_at hl 0 rfl) ?_
  refine lv_iload hx hb dL_law_1543 (lv_at hl 4 rfl) ?_
  refine lv_iconst (v := (2 : Int32)) hx hb dL_law_1545 (by decide) ?_
  refine lv_iadd hx hb dL_law_1546 ?_
  obtain ⟨g1547, h⟩ := gd h
  refine va_sld hx hb hX hbl hbA hS g1547 dL_law_1547 ?_
  refine lv_aload_n hx hb dL_law_1548 rfl (lv_at hl 0 rfl) ?_
  refine lv_iload hx hb dL_law_1549 (lv_at hl 4 rfl) ?_
  refine lv_iconst (v := (3 : Int32)) hx hb dL_law_1551 (by decide) ?_
  refine lv_iadd hx hb dL_law_1552 ?_
  obtain ⟨g1553, h⟩ := gd h
  refine va_sld hx hb hX hbl hbA hS g1553 dL_law_1553 ?_
  refine lv_aload_n hx hb dL_law_1554 rfl (lv_at hl 0 rfl) ?_
  refine lv_iload hx hb dL_law_1555 (lv_at hl 4 rfl) ?_
  refine lv_iconst (v := (4 : Int32)) hx hb dL_law_1557 (by decide) ?_
  refine lv_iadd hx hb dL_law_1558 ?_
  obtain ⟨g1559, h⟩ := gd h
  refine va_sld hx hb hX hbl hbA hS g1559 dL_law_1559 ?_
  refine lv_aload_n hx hb dL_law_1560 rfl (lv_at hl 3 rfl) ?_
  obtain ⟨r1561, M1561, hc1561, h⟩ := bd2_e h
  refine kL_153 C hml hl.1 (c_L_restore hlf hc1561) ⟨Nat.le_of_ble_eq_true rfl, Nat.le_of_ble_eq_true rfl⟩ ⟨by show _ ≤ 601024; omega, by show _ ≤ 7293034; omega⟩ (Nat.le_of_ble_eq_true rfl) hS hW dL_law_1561 (fun H locs hW hS => ?_)
  refine lv_istore (lv' := [(5, .int r1561), (0, .ref sb), (1, .ref (b + 0)), (2, .ref (b + 156)), (3, .ref (b + 172)), (4, .int x4)]) hx hb dL_law_1564 hl (by decide) rfl (fun ls hl => ?_)
  refine lv_aload_n hx hb dL_law_1566 rfl (lv_at hl 3 rfl) ?_
  refine lv_aload_n hx hb dL_law_1567 rfl (lv_at hl 1 rfl) ?_
  refine lv_iload hx hb dL_law_1568 (lv_at hl 5 rfl) ?_
  refine lv_iconst (v := (1 : Int32)) hx hb dL_law_1570 (by decide) ?_
  refine lv_iadd hx hb dL_law_1571 ?_
  obtain ⟨g1572, h⟩ := gd h
  refine va_sld hx hb hX hbl hbA hS g1572 dL_law_1572 ?_
  refine lv_aload_n hx hb dL_law_1573 rfl (lv_at hl 1 rfl) ?_
  refine lv_iload hx hb dL_law_1574 (lv_at hl 5 rfl) ?_
  refine lv_iconst (v := (2 : Int32)) hx hb dL_law_1576 (by decide) ?_
  refine lv_iadd hx hb dL_law_1577 ?_
  obtain ⟨g1578, h⟩ := gd h
  refine va_sld hx hb hX hbl hbA hS g1578 dL_law_1578 ?_
  refine lv_aload_n hx hb dL_law_1579 rfl (lv_at hl 1 rfl) ?_
  refine lv_iload hx hb dL_law_1580 (lv_at hl 5 rfl) ?_
  refine lv_iconst (v := (3 : Int32)) hx hb dL_law_1582 (by decide) ?_
  refine lv_iadd hx hb dL_law_1583 ?_
  obtain ⟨g1584, h⟩ := gd h
  refine va_sld hx hb hX hbl hbA hS g1584 dL_law_1584 ?_
  refine lv_aload_n hx hb dL_law_1585 rfl (lv_at hl 1 rfl) ?_
  refine lv_iload hx hb dL_law_1586 (lv_at hl 5 rfl) ?_
  refine lv_iconst (v := (4 : Int32)) hx hb dL_law_1588 (by decide) ?_
  refine lv_iadd hx hb dL_law_1589 ?_
  obtain ⟨g1590, h⟩ := gd h
  refine va_sld hx hb hX hbl hbA hS g1590 dL_law_1590 ?_
  obtain ⟨r1591, M1591, hc1591, h⟩ := bd2_e h
  refine kL_155 C hml hl.1 (c_X5_restore hc1591) ⟨Nat.le_of_ble_eq_true rfl, Nat.le_of_ble_eq_true rfl⟩ ⟨by show _ ≤ 601024; omega, by show _ ≤ 7293034; omega⟩ (Nat.le_of_ble_eq_true rfl) hS hW dL_law_1591 (fun H locs hW hS => ?_)
  refine lv_istore (lv' := [(6, .int r1591), (5, .int r1561), (0, .ref sb), (1, .ref (b + 0)), (2, .ref (b + 156)), (3, .ref (b + 172)), (4, .int x4)]) hx hb dL_law_1594 hl (by decide) rfl (fun ls hl => ?_)
  refine lv_aload_n hx hb dL_law_1596 rfl (lv_at hl 4 rfl) ?_
  obtain ⟨r1597, M1597, hc1597, h⟩ := bd2_e h
  refine kL_87 C hml hl.1 (c_X5_thrown hc1597) ⟨Nat.le_of_ble_eq_true rfl, Nat.le_of_ble_eq_true rfl⟩ ⟨by show _ ≤ 601024; omega, by show _ ≤ 7293034; omega⟩ (Nat.le_of_ble_eq_true rfl) hS hW dL_law_1597 (fun H locs hW hS => ?_)
  refine lv_iload hx hb dL_law_1600 (lv_at hl 1 rfl) ?_
  refine lv_icmp_eq (tgt := 1607) hx hb dL_law_1602 (by decide) (fun c1602 => ?_) (fun c1602 => ?_)
  · have h := (if_pos c1602).symm.trans h
    refine lv_iload hx hb dL_law_1607 (lv_at hl 1 rfl) ?_
    refine lv_if_ne (tgt := 1624) hx hb dL_law_1609 (by decide) (fun c1609 => ?_) (fun c1609 => ?_)
    · have h := (if_neg c1609).symm.trans h
      exact w_L_law_1624 C hml hr hlk hlf hX hbl hbb n hK23 h hS hW (lv_sub hl [2, 3, 4, 5, 6] rfl) ⟨by omega, by omega⟩
    · have h := (if_pos c1609).symm.trans h
      refine lv_aload_n hx hb dL_law_1612 rfl (lv_at hl 5 rfl) ?_
      refine lv_iconst (v := (0 : Int32)) hx hb dL_law_1613 (by decide) ?_
      obtain ⟨g1614, h⟩ := gd h
      refine ald_172 C hW g1614 dL_law_1614 ?_
      refine lv_iload hx hb dL_law_1615 (lv_at hl 0 rfl) ?_
      refine lv_i2l (v := r1591.toInt64) hx hb dL_law_1617 rfl ?_
      refine W.lcmp hx hb dL_law_1618 ?_
      refine lv_if_eq (tgt := 1624) hx hb dL_law_1619 (by decide) (fun c1619 => ?_) (fun c1619 => ?_)
      · have h := (if_pos c1619).symm.trans h
        exact w_L_law_1624 C hml hr hlk hlf hX hbl hbb n hK23 h hS hW (lv_sub hl [2, 3, 4, 5, 6] rfl) ⟨by omega, by omega⟩
      · have h := (if_neg c1619).symm.trans h
        refine lv_iconst (v := (0 : Int32)) hx hb dL_law_1622 (by decide) ?_
        exact absurd (show (0 : Int32) = 1 from congrArg Prod.fst (Option.some.inj h)) (by decide)
  · have h := (if_neg c1602).symm.trans h
    refine lv_iconst (v := (0 : Int32)) hx hb dL_law_1605 (by decide) ?_
    exact absurd (show (0 : Int32) = 1 from congrArg Prod.fst (Option.some.inj h)) (by decide)
def f_L_law_23B (xs : Nat → Int32) (L : Nat) (K23 : Mem → Int32 → Option (Int32 × Mem)) (M : Mem) (x4 : Int32) : Option (Int32 × Mem) :=
  if ((Int32.ofNat L) - (7 : Int32)) < x4 then some ((1 : Int32), M) else if x4 < 0 ∨ L ≤ x4.toNatClampNeg then none else if ((xs x4.toNatClampNeg) &&& (31 : Int32)) = (0 : Int32) then f_L_law_136 xs L K23 M x4 else if ((xs x4.toNatClampNeg) &&& (31 : Int32)) = (1 : Int32) then f_L_law_216 xs L K23 M x4 else if ((xs x4.toNatClampNeg) &&& (31 : Int32)) = (2 : Int32) then f_L_law_320 xs L K23 M x4 else if ((xs x4.toNatClampNeg) &&& (31 : Int32)) = (3 : Int32) then f_L_law_400 xs L K23 M x4 else if ((xs x4.toNatClampNeg) &&& (31 : Int32)) = (4 : Int32) then f_L_law_413 xs L K23 M x4 else if ((xs x4.toNatClampNeg) &&& (31 : Int32)) = (5 : Int32) then f_L_law_469 xs L K23 M x4 else if ((xs x4.toNatClampNeg) &&& (31 : Int32)) = (6 : Int32) then f_L_law_589 xs L K23 M x4 else if ((xs x4.toNatClampNeg) &&& (31 : Int32)) = (7 : Int32) then f_L_law_709 xs L K23 M x4 else if ((xs x4.toNatClampNeg) &&& (31 : Int32)) = (8 : Int32) then f_L_law_765 xs L K23 M x4 else if ((xs x4.toNatClampNeg) &&& (31 : Int32)) = (9 : Int32) then f_L_law_821 xs L K23 M x4 else if ((xs x4.toNatClampNeg) &&& (31 : Int32)) = (10 : Int32) then f_L_law_834 xs L K23 M x4 else if ((xs x4.toNatClampNeg) &&& (31 : Int32)) = (11 : Int32) then f_L_law_890 xs L K23 M x4 else if ((xs x4.toNatClampNeg) &&& (31 : Int32)) = (12 : Int32) then f_L_law_958 xs L K23 M x4 else if ((xs x4.toNatClampNeg) &&& (31 : Int32)) = (13 : Int32) then f_L_law_1050 xs L K23 M x4 else if ((xs x4.toNatClampNeg) &&& (31 : Int32)) = (14 : Int32) then f_L_law_1200 xs L K23 M x4 else if ((xs x4.toNatClampNeg) &&& (31 : Int32)) = (15 : Int32) then f_L_law_1280 xs L K23 M x4 else if ((xs x4.toNatClampNeg) &&& (31 : Int32)) = (16 : Int32) then f_L_law_1336 xs L K23 M x4 else if ((xs x4.toNatClampNeg) &&& (31 : Int32)) = (17 : Int32) then f_L_law_1392 xs L K23 M x4 else if ((xs x4.toNatClampNeg) &&& (31 : Int32)) = (18 : Int32) then f_L_law_1479 xs L K23 M x4 else if ((xs x4.toNatClampNeg) &&& (31 : Int32)) = (19 : Int32) then f_L_law_1535 xs L K23 M x4 else f_L_law_1627 xs L K23 M x4
def f_L_law_23 (xs : Nat → Int32) (L : Nat) : Nat → Mem → Int32 → Option (Int32 × Mem)
  | 0 => fun _ _ => none
  | n + 1 => f_L_law_23B xs L (f_L_law_23 xs L n)
set_option maxHeartbeats 4000000 in
set_option maxRecDepth 100000 in
theorem w_L_law_23 {p : Program} {l : Launch} {e : Env} {s : State} {m : MethodId} {below : List Frame} {meth : Method} {c : Code} {Z : Zt} {b sb L : Nat} {xs : Nat → Int32} (C : Cx p s m #[Value.ref sb] c cL_law RL Z b) (hml : c.maxLocals = 7) (hr : meth.sig.returnType = ret) (hlk : meth.locks = false) (hlf : l.stackTraces = false) (hX : va_X sb L xs s s.heap) (hbl : sb < s.heap.size) (hbb : b = s.heap.size) : ∀ (n : Nat) {M : Mem} {x4 : Int32} {M' : Mem} (h : f_L_law_23 xs L n M x4 = some (1, M')) {H : Heap} {locs : List Loc} {ls : Array Slot} {cells slots : Nat} (hS : va_S (A0 b) s.heap H locs) (hW : Wd Z b M H) (hl : lv_has ls 7 [(0, .ref sb), (1, .ref (b + 0)), (2, .ref (b + 156)), (3, .ref (b + 172)), (4, .int x4)]) (hcs : cells + 8 * n ≤ 601024 ∧ slots + 48 * n ≤ 7293034), W p l e room_1 s m #[Value.ref sb] below meth c H locs cells slots (lw_Z below #[Value.ref sb] s) (F0 m 23 ls []) := by
  intro n
  induction n with
  | zero =>
    intro M x4 M' h
    cases h
  | succ n ih =>
    intro M x4 M' h H locs ls cells slots hS hW hl hcs
    have h : f_L_law_23B xs L (f_L_law_23 xs L n) M x4 = some (1, M') := h
    unfold f_L_law_23B at h
    have hK23 := @ih
    have hx := C.1
    have hb := C.2.1
    have hbA : ¬ A0 b sb := by unfold A0; omega
    refine lv_iload hx hb dL_law_23 (lv_at hl 4 rfl) ?_
    refine lv_aload_n hx hb dL_law_25 rfl (lv_at hl 0 rfl) ?_
    refine va_slen hx hb hX hbl hbA hS dL_law_26 ?_
    refine lv_bipush (v := (7 : Int32)) hx hb dL_law_27 (by decide) ?_
    refine lv_isub hx hb dL_law_29 ?_
    refine lv_icmp_gt (tgt := 1633) hx hb dL_law_30 (by decide) (fun c30 => ?_) (fun c30 => ?_)
    · have h := (if_pos c30).symm.trans h
      refine lv_iconst (v := (1 : Int32)) hx hb dL_law_1633 (by decide) ?_
      exact lw_end hx hb hr hlk hbb hS (by omega) (by omega) dL_law_1634
    · have h := (if_neg c30).symm.trans h
      refine lv_aload_n hx hb dL_law_33 rfl (lv_at hl 0 rfl) ?_
      refine lv_iload hx hb dL_law_34 (lv_at hl 4 rfl) ?_
      obtain ⟨g36, h⟩ := gd h
      refine va_sld hx hb hX hbl hbA hS g36 dL_law_36 ?_
      refine lv_bipush (v := (31 : Int32)) hx hb dL_law_37 (by decide) ?_
      refine lv_iand hx hb dL_law_39 ?_
      by_cases c40_0 : ((xs x4.toNatClampNeg) &&& (31 : Int32)) = (0 : Int32)
      · have h := (if_pos c40_0).symm.trans h
        refine W.eq (g2 := F0 m 40 ls [.int (0 : Int32)]) (by rw [c40_0]) ?_
        refine lv_tableIn (x := (0 : Int32)) (off := 96) (tgt := 136) hx hb dL_law_40 (by decide) (by decide) rfl (by decide) ?_
        exact w_L_law_136 C hml hr hlk hlf hX hbl hbb n hK23 h hS hW (lv_sub hl [0, 1, 2, 3, 4] rfl) ⟨by omega, by omega⟩
      · have h := (if_neg c40_0).symm.trans h
        by_cases c40_1 : ((xs x4.toNatClampNeg) &&& (31 : Int32)) = (1 : Int32)
        · have h := (if_pos c40_1).symm.trans h
          refine W.eq (g2 := F0 m 40 ls [.int (1 : Int32)]) (by rw [c40_1]) ?_
          refine lv_tableIn (x := (1 : Int32)) (off := 176) (tgt := 216) hx hb dL_law_40 (by decide) (by decide) rfl (by decide) ?_
          exact w_L_law_216 C hml hr hlk hlf hX hbl hbb n hK23 h hS hW (lv_sub hl [0, 1, 2, 3, 4] rfl) ⟨by omega, by omega⟩
        · have h := (if_neg c40_1).symm.trans h
          by_cases c40_2 : ((xs x4.toNatClampNeg) &&& (31 : Int32)) = (2 : Int32)
          · have h := (if_pos c40_2).symm.trans h
            refine W.eq (g2 := F0 m 40 ls [.int (2 : Int32)]) (by rw [c40_2]) ?_
            refine lv_tableIn (x := (2 : Int32)) (off := 280) (tgt := 320) hx hb dL_law_40 (by decide) (by decide) rfl (by decide) ?_
            exact w_L_law_320 C hml hr hlk hlf hX hbl hbb n hK23 h hS hW (lv_sub hl [0, 1, 2, 3, 4] rfl) ⟨by omega, by omega⟩
          · have h := (if_neg c40_2).symm.trans h
            by_cases c40_3 : ((xs x4.toNatClampNeg) &&& (31 : Int32)) = (3 : Int32)
            · have h := (if_pos c40_3).symm.trans h
              refine W.eq (g2 := F0 m 40 ls [.int (3 : Int32)]) (by rw [c40_3]) ?_
              refine lv_tableIn (x := (3 : Int32)) (off := 360) (tgt := 400) hx hb dL_law_40 (by decide) (by decide) rfl (by decide) ?_
              exact w_L_law_400 C hml hr hlk hlf hX hbl hbb n hK23 h hS hW (lv_sub hl [0, 1, 2, 3, 4] rfl) ⟨by omega, by omega⟩
            · have h := (if_neg c40_3).symm.trans h
              by_cases c40_4 : ((xs x4.toNatClampNeg) &&& (31 : Int32)) = (4 : Int32)
              · have h := (if_pos c40_4).symm.trans h
                refine W.eq (g2 := F0 m 40 ls [.int (4 : Int32)]) (by rw [c40_4]) ?_
                refine lv_tableIn (x := (4 : Int32)) (off := 373) (tgt := 413) hx hb dL_law_40 (by decide) (by decide) rfl (by decide) ?_
                exact w_L_law_413 C hml hr hlk hlf hX hbl hbb n hK23 h hS hW (lv_sub hl [0, 1, 2, 3, 4] rfl) ⟨by omega, by omega⟩
              · have h := (if_neg c40_4).symm.trans h
                by_cases c40_5 : ((xs x4.toNatClampNeg) &&& (31 : Int32)) = (5 : Int32)
                · have h := (if_pos c40_5).symm.trans h
                  refine W.eq (g2 := F0 m 40 ls [.int (5 : Int32)]) (by rw [c40_5]) ?_
                  refine lv_tableIn (x := (5 : Int32)) (off := 429) (tgt := 469) hx hb dL_law_40 (by decide) (by decide) rfl (by decide) ?_
                  exact w_L_law_469 C hml hr hlk hlf hX hbl hbb n hK23 h hS hW (lv_sub hl [0, 1, 2, 3, 4] rfl) ⟨by omega, by omega⟩
                · have h := (if_neg c40_5).symm.trans h
                  by_cases c40_6 : ((xs x4.toNatClampNeg) &&& (31 : Int32)) = (6 : Int32)
                  · have h := (if_pos c40_6).symm.trans h
                    refine W.eq (g2 := F0 m 40 ls [.int (6 : Int32)]) (by rw [c40_6]) ?_
                    refine lv_tableIn (x := (6 : Int32)) (off := 549) (tgt := 589) hx hb dL_law_40 (by decide) (by decide) rfl (by decide) ?_
                    exact w_L_law_589 C hml hr hlk hlf hX hbl hbb n hK23 h hS hW (lv_sub hl [0, 1, 2, 3, 4] rfl) ⟨by omega, by omega⟩
                  · have h := (if_neg c40_6).symm.trans h
                    by_cases c40_7 : ((xs x4.toNatClampNeg) &&& (31 : Int32)) = (7 : Int32)
                    · have h := (if_pos c40_7).symm.trans h
                      refine W.eq (g2 := F0 m 40 ls [.int (7 : Int32)]) (by rw [c40_7]) ?_
                      refine lv_tableIn (x := (7 : Int32)) (off := 669) (tgt := 709) hx hb dL_law_40 (by decide) (by decide) rfl (by decide) ?_
                      exact w_L_law_709 C hml hr hlk hlf hX hbl hbb n hK23 h hS hW (lv_sub hl [0, 1, 2, 3, 4] rfl) ⟨by omega, by omega⟩
                    · have h := (if_neg c40_7).symm.trans h
                      by_cases c40_8 : ((xs x4.toNatClampNeg) &&& (31 : Int32)) = (8 : Int32)
                      · have h := (if_pos c40_8).symm.trans h
                        refine W.eq (g2 := F0 m 40 ls [.int (8 : Int32)]) (by rw [c40_8]) ?_
                        refine lv_tableIn (x := (8 : Int32)) (off := 725) (tgt := 765) hx hb dL_law_40 (by decide) (by decide) rfl (by decide) ?_
                        exact w_L_law_765 C hml hr hlk hlf hX hbl hbb n hK23 h hS hW (lv_sub hl [0, 1, 2, 3, 4] rfl) ⟨by omega, by omega⟩
                      · have h := (if_neg c40_8).symm.trans h
                        by_cases c40_9 : ((xs x4.toNatClampNeg) &&& (31 : Int32)) = (9 : Int32)
                        · have h := (if_pos c40_9).symm.trans h
                          refine W.eq (g2 := F0 m 40 ls [.int (9 : Int32)]) (by rw [c40_9]) ?_
                          refine lv_tableIn (x := (9 : Int32)) (off := 781) (tgt := 821) hx hb dL_law_40 (by decide) (by decide) rfl (by decide) ?_
                          exact w_L_law_821 C hml hr hlk hlf hX hbl hbb n hK23 h hS hW (lv_sub hl [0, 1, 2, 3, 4] rfl) ⟨by omega, by omega⟩
                        · have h := (if_neg c40_9).symm.trans h
                          by_cases c40_10 : ((xs x4.toNatClampNeg) &&& (31 : Int32)) = (10 : Int32)
                          · have h := (if_pos c40_10).symm.trans h
                            refine W.eq (g2 := F0 m 40 ls [.int (10 : Int32)]) (by rw [c40_10]) ?_
                            refine lv_tableIn (x := (10 : Int32)) (off := 794) (tgt := 834) hx hb dL_law_40 (by decide) (by decide) rfl (by decide) ?_
                            exact w_L_law_834 C hml hr hlk hlf hX hbl hbb n hK23 h hS hW (lv_sub hl [0, 1, 2, 3, 4] rfl) ⟨by omega, by omega⟩
                          · have h := (if_neg c40_10).symm.trans h
                            by_cases c40_11 : ((xs x4.toNatClampNeg) &&& (31 : Int32)) = (11 : Int32)
                            · have h := (if_pos c40_11).symm.trans h
                              refine W.eq (g2 := F0 m 40 ls [.int (11 : Int32)]) (by rw [c40_11]) ?_
                              refine lv_tableIn (x := (11 : Int32)) (off := 850) (tgt := 890) hx hb dL_law_40 (by decide) (by decide) rfl (by decide) ?_
                              exact w_L_law_890 C hml hr hlk hlf hX hbl hbb n hK23 h hS hW (lv_sub hl [0, 1, 2, 3, 4] rfl) ⟨by omega, by omega⟩
                            · have h := (if_neg c40_11).symm.trans h
                              by_cases c40_12 : ((xs x4.toNatClampNeg) &&& (31 : Int32)) = (12 : Int32)
                              · have h := (if_pos c40_12).symm.trans h
                                refine W.eq (g2 := F0 m 40 ls [.int (12 : Int32)]) (by rw [c40_12]) ?_
                                refine lv_tableIn (x := (12 : Int32)) (off := 918) (tgt := 958) hx hb dL_law_40 (by decide) (by decide) rfl (by decide) ?_
                                exact w_L_law_958 C hml hr hlk hlf hX hbl hbb n hK23 h hS hW (lv_sub hl [0, 1, 2, 3, 4] rfl) ⟨by omega, by omega⟩
                              · have h := (if_neg c40_12).symm.trans h
                                by_cases c40_13 : ((xs x4.toNatClampNeg) &&& (31 : Int32)) = (13 : Int32)
                                · have h := (if_pos c40_13).symm.trans h
                                  refine W.eq (g2 := F0 m 40 ls [.int (13 : Int32)]) (by rw [c40_13]) ?_
                                  refine lv_tableIn (x := (13 : Int32)) (off := 1010) (tgt := 1050) hx hb dL_law_40 (by decide) (by decide) rfl (by decide) ?_
                                  exact w_L_law_1050 C hml hr hlk hlf hX hbl hbb n hK23 h hS hW (lv_sub hl [0, 1, 2, 3, 4] rfl) ⟨by omega, by omega⟩
                                · have h := (if_neg c40_13).symm.trans h
                                  by_cases c40_14 : ((xs x4.toNatClampNeg) &&& (31 : Int32)) = (14 : Int32)
                                  · have h := (if_pos c40_14).symm.trans h
                                    refine W.eq (g2 := F0 m 40 ls [.int (14 : Int32)]) (by rw [c40_14]) ?_
                                    refine lv_tableIn (x := (14 : Int32)) (off := 1160) (tgt := 1200) hx hb dL_law_40 (by decide) (by decide) rfl (by decide) ?_
                                    exact w_L_law_1200 C hml hr hlk hlf hX hbl hbb n hK23 h hS hW (lv_sub hl [0, 1, 2, 3, 4] rfl) ⟨by omega, by omega⟩
                                  · have h := (if_neg c40_14).symm.trans h
                                    by_cases c40_15 : ((xs x4.toNatClampNeg) &&& (31 : Int32)) = (15 : Int32)
                                    · have h := (if_pos c40_15).symm.trans h
                                      refine W.eq (g2 := F0 m 40 ls [.int (15 : Int32)]) (by rw [c40_15]) ?_
                                      refine lv_tableIn (x := (15 : Int32)) (off := 1240) (tgt := 1280) hx hb dL_law_40 (by decide) (by decide) rfl (by decide) ?_
                                      exact w_L_law_1280 C hml hr hlk hlf hX hbl hbb n hK23 h hS hW (lv_sub hl [0, 1, 2, 3, 4] rfl) ⟨by omega, by omega⟩
                                    · have h := (if_neg c40_15).symm.trans h
                                      by_cases c40_16 : ((xs x4.toNatClampNeg) &&& (31 : Int32)) = (16 : Int32)
                                      · have h := (if_pos c40_16).symm.trans h
                                        refine W.eq (g2 := F0 m 40 ls [.int (16 : Int32)]) (by rw [c40_16]) ?_
                                        refine lv_tableIn (x := (16 : Int32)) (off := 1296) (tgt := 1336) hx hb dL_law_40 (by decide) (by decide) rfl (by decide) ?_
                                        exact w_L_law_1336 C hml hr hlk hlf hX hbl hbb n hK23 h hS hW (lv_sub hl [0, 1, 2, 3, 4] rfl) ⟨by omega, by omega⟩
                                      · have h := (if_neg c40_16).symm.trans h
                                        by_cases c40_17 : ((xs x4.toNatClampNeg) &&& (31 : Int32)) = (17 : Int32)
                                        · have h := (if_pos c40_17).symm.trans h
                                          refine W.eq (g2 := F0 m 40 ls [.int (17 : Int32)]) (by rw [c40_17]) ?_
                                          refine lv_tableIn (x := (17 : Int32)) (off := 1352) (tgt := 1392) hx hb dL_law_40 (by decide) (by decide) rfl (by decide) ?_
                                          exact w_L_law_1392 C hml hr hlk hlf hX hbl hbb n hK23 h hS hW (lv_sub hl [0, 1, 2, 3, 4] rfl) ⟨by omega, by omega⟩
                                        · have h := (if_neg c40_17).symm.trans h
                                          by_cases c40_18 : ((xs x4.toNatClampNeg) &&& (31 : Int32)) = (18 : Int32)
                                          · have h := (if_pos c40_18).symm.trans h
                                            refine W.eq (g2 := F0 m 40 ls [.int (18 : Int32)]) (by rw [c40_18]) ?_
                                            refine lv_tableIn (x := (18 : Int32)) (off := 1439) (tgt := 1479) hx hb dL_law_40 (by decide) (by decide) rfl (by decide) ?_
                                            exact w_L_law_1479 C hml hr hlk hlf hX hbl hbb n hK23 h hS hW (lv_sub hl [0, 1, 2, 3, 4] rfl) ⟨by omega, by omega⟩
                                          · have h := (if_neg c40_18).symm.trans h
                                            by_cases c40_19 : ((xs x4.toNatClampNeg) &&& (31 : Int32)) = (19 : Int32)
                                            · have h := (if_pos c40_19).symm.trans h
                                              refine W.eq (g2 := F0 m 40 ls [.int (19 : Int32)]) (by rw [c40_19]) ?_
                                              refine lv_tableIn (x := (19 : Int32)) (off := 1495) (tgt := 1535) hx hb dL_law_40 (by decide) (by decide) rfl (by decide) ?_
                                              exact w_L_law_1535 C hml hr hlk hlf hX hbl hbb n hK23 h hS hW (lv_sub hl [0, 1, 2, 3, 4] rfl) ⟨by omega, by omega⟩
                                            · have h := (if_neg c40_19).symm.trans h
                                              refine lv_tableOut (tgt := 1627) hx hb dL_law_40 (tbl20 c40_0 c40_1 c40_2 c40_3 c40_4 c40_5 c40_6 c40_7 c40_8 c40_9 c40_10 c40_11 c40_12 c40_13 c40_14 c40_15 c40_16 c40_17 c40_18 c40_19) (by decide) ?_
                                              exact w_L_law_1627 C hml hr hlk hlf hX hbl hbb n hK23 h hS hW (lv_sub hl [0, 1, 2, 3, 4] rfl) ⟨by omega, by omega⟩

/-! ===== constructors: Shelf ===== -/
abbrev rI_X3 : Room := { frames := 2, cells := 121, slots := 1020, locals := 40 }
/-- the cells while the shelf's row is filled: i resources stand -/
def eS (Z : Zt) (b : Nat) (e0 : va_E) (i k : Nat) : va_E := if k = 0 then e0 else if k = 1 then .inr (3, [.ref (b + 2), .int 0]) else if k = 2 then .inl (Z.2 4, 60, .inr (.inr (.inr (.inr (fun j => if j < i then some (b + (3 + 2 * j)) else none))))) else if (k - 3) % 2 = 0 then .inr (2, [.int 0, .int 0, .int 0, .int 0, .ref (b + (k + 1)), .int 0]) else .inl (Z.2 0, 10, .inl (fun _ => 0))
theorem eS_step (Z : Zt) (b : Nat) (e0 : va_E) {i : Nat} {k : Nat} (hk : k < 3 + 2 * (i + 1)) : vup (vup (vup (vup (eS Z b e0 i) (3 + 2 * i) (.inr (2, [.int 0, .int 0, .int 0, .int 0, .null, .int 0]))) (3 + 2 * i + 1) (.inl (Z.2 0, 10, .inl (fun _ => 0)))) (3 + 2 * i) (.inr (2, [.int 0, .int 0, .int 0, .int 0, .ref (b + (3 + 2 * i + 1)), .int 0]))) 2 (.inl (Z.2 4, 60, .inr (.inr (.inr (.inr (va_up (fun j => if j < i then some (b + (3 + 2 * j)) else none) i (some (b + (3 + 2 * i))))))))) k = eS Z b e0 (i + 1) k := by
  by_cases h2 : k = 2
  · subst h2
    rw [vup_s]
    unfold eS
    rw [if_neg (by decide), if_neg (by decide), if_pos rfl]
    congr 7
    funext j
    unfold va_up
    by_cases h : j = i
    · subst h; rw [if_pos rfl, if_pos (by omega)]
    · by_cases h' : j < i
      · rw [if_neg h]
        show (if j < i then some (b + (3 + 2 * j)) else none) = _
        rw [if_pos h', if_pos (by omega)]
      · rw [if_neg h]
        show (if j < i then some (b + (3 + 2 * j)) else none) = _
        rw [if_neg h', if_neg (by omega)]
  · rw [vup_n _ _ h2]
    by_cases h3 : k = 3 + 2 * i
    · subst h3
      rw [vup_s]
      unfold eS
      rw [if_neg (by omega), if_neg (by omega), if_neg (by omega), if_pos (by omega)]
    · rw [vup_n _ _ h3]
      by_cases h4 : k = 3 + 2 * i + 1
      · subst h4
        rw [vup_s]
        unfold eS
        rw [if_neg (by omega), if_neg (by omega), if_neg (by omega), if_neg (by omega)]
      · rw [vup_n _ _ h4, vup_n _ _ h3]
        unfold eS
        rw [if_neg h2, if_neg h2]
section SHELF
variable {p : Program} {l : Launch} {e : Env} {R : Room} {s : State} {m : MethodId} {args : Array Value} {below : List Frame} {meth : Method} {c : Code} {H : Heap} {locs : List Loc} {cells slots : Nat} {Q : State → Prop} {cc : ByteArray} {pc : Nat} {ls : Array Slot} {rest : List Value} {Z : Zt} {b n : Nat} {E : Nat → va_E}
theorem kI_res {k nL : Nat} (C : Cx p s m args c cc RX3 Z b) (hEi : Evi Z b s) (hml : c.maxLocals = nL) (hsz : ls.size = nL) (hk : k < n) (hEk : E k = .inr (2, [.int 0, .int 0, .int 0, .int 0, .null, .int 0])) (hR : rI_X2.frames + 1 ≤ R.frames ∧ 8 + (1 + 11) + rI_X2.locals ≤ R.locals) (hc : cells + 1 ≤ R.cells ∧ slots + 10 ≤ R.slots) (hroom : (rest.map fun v => v.category).sum ≤ 8) (hS : va_S (A0 b) s.heap H locs) (hP : Pw Z b n E H) (hdg : decode cc pc = .ok (.invokespecial 17, 3))
    (kk : ∀ (H1 : Heap) (locs1 : List Loc), Pw Z b (n + 1) (vup (vup E n (.inl (Z.2 0, 10, .inl (fun _ => 0)))) k (.inr (2, [.int 0, .int 0, .int 0, .int 0, .ref (b + n), .int 0]))) H1 → va_S (A0 b) s.heap H1 locs1 → W p l e R s m args below meth c H1 locs1 (cells + 1) (slots + 10) Q (F0 m (pc + 3) ls rest)) : W p l e R s m args below meth c H locs cells slots Q (F0 m pc ls (.ref (b + k) :: rest)) :=
  cl_goI (va_runIN (As := []) (b := b + k) ⟨C.1, C.2.1, hml, C.2.2.1, C.2.2.2.1⟩ (c_X2_init hk hEk) ⟨va_cnB 0 C.2.2.2.1 (gN q73) rfl rfl rfl (C.2.2.2.2.2.1 _ (List.mem_append_left _ (List.mem_of_getElem? (i := 1) rfl))) (C.2.2.2.1 _ q45) (by decide +kernel) hR, rfl, C.2.2.2.1 _ q72⟩ ⟨Prei.blind _ _ _ _ _, fun U hU hWU => ⟨rfl, hEi.call hS hU hWU, by rw [hU]; exact hP⟩⟩ rfl rfl hsz rfl (lv_room hroom) hdg hc) hS kk
theorem pg_row {e0 : va_E} {i : Nat} (C : Cx p s m args c cc RX3 Z b) (hn : 3 ≤ n) (hP : Pw Z b n (eS Z b e0 i) H) (hdg : decode cc pc = .ok (.getfield 11, 3)) (kk : W p l e R s m args below meth c H locs cells slots Q (F0 m (pc + 3) ls (.ref (b + 2) :: rest))) : W p l e R s m args below meth c H locs cells slots Q (F0 m pc ls (.ref (b + 1) :: rest)) :=
  va_get (D := Z.1) (ci := 3) (fs := [.ref (b + 2), .int 0]) (v := .ref (b + 2)) (C := RX3) (T := TX3) (N := 2) C.1 C.2.1 C.2.2.2.1 inaX3 C.2.2.1 C.2.2.2.2.1 hP.2 1 ((pwl_get (show 1 < n by omega)).trans rfl) rfl 0 (by decide) (C.2.2.2.1 _ q101) (fun _ h9 => h9) rfl hdg kk
theorem pl_row {e0 : va_E} {i : Nat} {own : String} (C : Cx p s m args c cc own Z b) (hn : 3 ≤ n) (hP : Pw Z b n (eS Z b e0 i) H) (hdg : decode cc pc = .ok (.arraylength, 1)) (kk : W p l e R s m args below meth c H locs cells slots Q (F0 m (pc + 1) ls (.int 60 :: rest))) : W p l e R s m args below meth c H locs cells slots Q (F0 m pc ls (.ref (b + 2) :: rest)) :=
  va_alen (cl := vwCl) C.1 C.2.1 C.2.2.2.2.1 hP.2 2 4 ((pwl_get (show 2 < n by omega)).trans rfl) rfl rfl hdg kk
end SHELF
set_option maxHeartbeats 4000000 in
set_option maxRecDepth 100000 in
theorem w_X3_init_15 {p : Program} {l : Launch} {e : Env} {s : State} {m : MethodId} {args : Array Value} {below : List Frame} {meth : Method} {c : Code} {Z : Zt} {b : Nat} {e0 : va_E} (C : Cx p s m args c cX3_init RX3 Z b) (hEi : Evi Z b s) (hml : c.maxLocals = 2) (hr : meth.sig.returnType = none) (hlk : meth.locks = false) : ∀ (d i : Nat), i + d = 60 → ∀ {H : Heap} {locs : List Loc} {ls : Array Slot}, va_S (A0 b) s.heap H locs → Pw Z b (3 + 2 * i) (eS Z b e0 i) H → lv_has ls 2 [(0, .ref (b + 1)), (1, .int (nI i))] → W p l e rI_X3 s m args below meth c H locs (1 + 2 * i) (60 + 16 * i) (MQ below (Qi Z b 123 (eS Z b e0 60)) args s 121 1020 (A0 b)) (F0 m 15 ls []) := by
  intro d
  induction d with
  | zero =>
    intro i hi H locs ls hS hP hl
    have : i = 60 := by omega
    subst this
    refine lv_iload_n C.1 C.2.1 dX3_init_15 rfl (lv_at hl 1 rfl) ?_
    refine lv_aload_n C.1 C.2.1 dX3_init_16 rfl (lv_at hl 0 rfl) ?_
    refine pg_row C (by omega) hP dX3_init_17 ?_
    refine pl_row C (by omega) hP dX3_init_20 ?_
    refine lv_icmp_ge (tgt := 43) C.1 C.2.1 dX3_init_21 (by decide) (fun c1 => ?_) (fun c1 => ?_)
    · refine lv_aload_n C.1 C.2.1 dX3_init_43 rfl (lv_at hl 0 rfl) ?_
      refine lv_iconst (v := 0) C.1 C.2.1 dX3_init_44 (by decide) ?_
      refine pw_put (ci := 3) (v := .int 0) (ty := .int) (fs := [.ref (b + 2), .int 0]) (C := RX3) (T := TX3) (N := 2) C.1 C.2.1 C.2.2.2.1 inaX3 tyX3 tyX3_ok nmX3 C.2.2.1 C.2.2.2.2.1 hP hS 1 (by omega) rfl rfl 1 (by decide) (C.2.2.2.1 _ q102) (fun _ h9 => h9) rfl (by decide +kernel) rfl rfl (Nat.le_of_ble_eq_true rfl) dX3_init_45 (fun H1 locs1 hP hS => ?_)
      have hP' : Pw Z b 123 (eS Z b e0 60) H1 := Pw_cong hP (fun k _ => by
        by_cases z : k = 1
        · subst z; rw [vup_s]; rfl
        · rw [vup_n _ _ z])
      exact ret_i0 C hr hlk hS hP' dX3_init_48
    · exact absurd (by decide) c1
  | succ d ih =>
    intro i hi H locs ls hS hP hl
    refine lv_iload_n C.1 C.2.1 dX3_init_15 rfl (lv_at hl 1 rfl) ?_
    refine lv_aload_n C.1 C.2.1 dX3_init_16 rfl (lv_at hl 0 rfl) ?_
    refine pg_row C (by omega) hP dX3_init_17 ?_
    refine pl_row C (by omega) hP dX3_init_20 ?_
    refine lv_icmp_ge (tgt := 43) C.1 C.2.1 dX3_init_21 (by decide) (fun c1 => ?_) (fun c1 => ?_)
    · rw [show (60 : Int32) = nI 60 from rfl, le' (by decide) (by omega)] at c1
      omega
    · refine lv_aload_n C.1 C.2.1 dX3_init_24 rfl (lv_at hl 0 rfl) ?_
      refine pg_row C (by omega) hP dX3_init_25 ?_
      refine lv_iload_n C.1 C.2.1 dX3_init_28 rfl (lv_at hl 1 rfl) ?_
      refine nw_obj (ci := 2) (fs := [.int 0, .int 0, .int 0, .int 0, .null, .int 0]) (C := RX2) (T := TX2) (N := 6) C.1 C.2.1 C.2.2.2.1 inaX2 tyX2 tyX2_ok C.2.2.1 (C.2.2.2.1 _ q68) (C.2.2.2.1 _ q70) (C.2.2.2.1 _ q45) C.2.2.2.2.1 hP hS rfl (fun j hj => by rcases (show j = 0 ∨ j = 1 ∨ j = 2 ∨ j = 3 ∨ j = 4 ∨ j = 5 by omega) with rfl | rfl | rfl | rfl | rfl | rfl <;> rfl) (by show 1 + 2 * i + 1 ≤ 121; omega) (by show 60 + 16 * i + 6 ≤ 1020; omega) dX3_init_29 (fun H1 hP hS => ?_)
      refine lv_dup C.1 C.2.1 dX3_init_32 rfl ?_
      refine kI_res (k := 3 + 2 * i) C hEi hml hl.1 (by omega) (vup_s _ _ _) ⟨Nat.le_of_ble_eq_true rfl, Nat.le_of_ble_eq_true rfl⟩ ⟨by show 1 + 2 * i + 1 + 1 ≤ 121; omega, by show 60 + 16 * i + 6 + 10 ≤ 1020; omega⟩ (Nat.le_of_ble_eq_true rfl) hS hP dX3_init_33 (fun H1 locs1 hP hS => ?_)
      refine pw_ast (Z := Z) (t0 := 4) (ci := 2) (r := (RX2, TX2, 6)) (N := 60) (j := i) (k0 := 2) (kv := 3 + 2 * i) (f := fun j => if j < i then some (b + (3 + 2 * j)) else none) (vs := [.int 0, .int 0, .int 0, .int 0, .ref (b + (3 + 2 * i + 1)), .int 0]) C.1 C.2.1 C.2.2.2.2.1 hP hS (by omega) (by omega) ?_ rfl ?_ rfl (by omega) (by decide) dX3_init_36 (fun H1 locs1 hP hS => ?_)
      · rw [vup_n _ _ (by omega), vup_n _ _ (by omega), vup_n _ _ (by omega)]
        unfold eS
        rw [if_neg (by decide), if_neg (by decide), if_pos rfl]
      · rw [vup_s]
      · refine lv_iinc (v := nI (i + 1)) (lv' := [(1, .int (nI (i + 1))), (0, .ref (b + 1))]) C.1 C.2.1 dX3_init_37 hl (k := 1) rfl (by rw [← nI_1]; rfl) (by decide) rfl (fun ls hl => ?_)
        refine lv_goto (tgt := 15) C.1 C.2.1 dX3_init_40 (by decide) ?_
        have hP' : Pw Z b (3 + 2 * (i + 1)) (eS Z b e0 (i + 1)) H1 := Pw_cong hP (fun k hk => eS_step Z b e0 hk)
        have := ih (i + 1) (by omega) hS hP' (lv_sub hl [1, 0] rfl)
        rw [show 1 + 2 * (i + 1) = 1 + 2 * i + 1 + 1 by omega, show 60 + 16 * (i + 1) = 60 + 16 * i + 6 + 10 by omega] at this
        exact this

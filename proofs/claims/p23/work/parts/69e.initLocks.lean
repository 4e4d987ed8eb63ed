/-! ===== constructors: Shelf's entry; Locks ===== -/
theorem none_0 {α : Type} (f : Nat → α) : (fun _ => none : Nat → Option α) = (fun j => if j < 0 then some (f j) else none) := by
  funext j
  rw [if_neg (by omega)]
theorem obj_nm {s : State} {cA : ClassId} {C : String} (h : va_RA s cA (.object C)) : s.vm.findClass ("[" ++ (FieldType.object C).toString) = some cA := by
  obtain ⟨kA, comp, -, -, -, h4⟩ := h
  exact h4
set_option maxHeartbeats 4000000 in
set_option maxRecDepth 100000 in
theorem c_X3_init {l : Launch} {Z : Zt} {b : Nat} {E : Nat → va_E} (hE1 : E 1 = .inr (3, [.null, .int 0])) : CtI l yX3_init cX3_init 2 rI_X3 121 1020 Z b 1 2 E 123 (eS Z b (E 0) 60) := by
  refine Met.ofW (cc := cX3_init) (maxL := 2) (ret := (none : Option Jvm.ClassFile.FieldType)) (by decide) rfl ?_
  intro p e s m args below meth c s₁ B hml hv
  obtain ⟨rfl, hE, hP⟩ := hv
  have C : Cx p s m [.ref (b + 1)].toArray c cX3_init RX3 Z b := ⟨B.exec, B.bytes, findClass_of_methodNamed B.named, fun w hw => atoms_spec (ws := Cond.code yX3_init cX3_init 2 (none : Option Jvm.ClassFile.FieldType) :: wsA) B.pre w (List.mem_cons_of_mem _ hw), hE.1⟩
  have hin : meth.name = "<init>" := (name_of_methodNamed B.named B.method).1
  have hl := lv_entry [.ref (b + 1)] (n := 2) (Nat.le_of_ble_eq_true rfl)
  rw [lg_entry_eq]
  generalize (lg_sl [.ref (b + 1)] ++ List.replicate (2 - (lg_sl [.ref (b + 1)]).length) Slot.unset).toArray = ls at hl ⊢
  have hl : lv_has ls 2 [(0, .ref (b + 1))] := hl
  refine lv_aload_n C.1 C.2.1 dX3_init_0 rfl (lv_at hl 0 rfl) ?_
  refine W.objInit C.1 C.2.1 C.2.2.1 (C.2.2.2.1 _ q67) (C.2.2.2.1 _ q60) (C.2.2.2.1 _ q61) rfl (by rw [hml]; exact hl.1) rfl dX3_init_1 (Nat.le_of_ble_eq_true rfl) (Nat.le_of_ble_eq_true rfl) ?_
  refine lv_aload_n C.1 C.2.1 dX3_init_4 rfl (lv_at hl 0 rfl) ?_
  refine lv_bipush (v := (60 : Int32)) C.1 C.2.1 dX3_init_5 (by decide) ?_
  refine nw_oarr (N' := 60) C.1 C.2.1 C.2.2.1 (C.2.2.2.1 _ q68) (va_AO.use hE.2.1) (obj_nm (C.2.2.2.2.1.2 4 _ rfl).2) hP va_S.rf (by decide) (by decide) (by decide) (Nat.le_of_ble_eq_true rfl) (Nat.le_of_ble_eq_true rfl) dX3_init_7 (fun H1 hP hS => ?_)
  refine pw_putF (ci := 3) (v := .ref (b + 2)) (ty := .array (.object "ShelfServer$Resource")) (fs := [.null, .int 0]) (C := RX3) (T := TX3) (N := 2) C.1 C.2.1 C.2.2.2.1 inaX3 tyX3 tyX3_ok nmX3 C.2.2.1 C.2.2.2.2.1 hP hS 1 (by omega) (by rw [vup_n _ _ (by omega)]; exact hE1) rfl 0 (by decide) (C.2.2.2.1 _ q101) (fun _ h9 => h9) rfl hin rfl (by decide +kernel) rfl rfl (Nat.le_of_ble_eq_true rfl) dX3_init_10 (fun H1 locs1 hP hS => ?_)
  refine lv_iconst (v := 0) C.1 C.2.1 dX3_init_13 (by decide) ?_
  refine lv_istore_n (lv' := [(1, .int 0), (0, .ref (b + 1))]) C.1 C.2.1 dX3_init_14 rfl hl (by decide) rfl (fun ls hl => ?_)
  have hP' : Pw Z b (3 + 2 * 0) (eS Z b (E 0) 0) H1 := Pw_cong hP (fun k hk => by
    rcases (show k = 0 ∨ k = 1 ∨ k = 2 by omega) with rfl | rfl | rfl
    · rw [vup_n _ _ (by decide), vup_n _ _ (by decide)]; rfl
    · rw [vup_s]; rfl
    · rw [vup_n _ _ (by decide), vup_s, none_0 (fun j => b + (3 + 2 * j))]; rfl)
  exact w_X3_init_15 C hE hml B.returns B.notSynchronized 60 0 (by decide) hS hP' (lv_sub hl [1, 0] rfl)
abbrev rI_X1 : Room := { frames := 2, cells := 31, slots := 180, locals := 40 }
def eL (Z : Zt) (b : Nat) (E0 : Nat → va_E) (i k : Nat) : va_E := if k < 123 then E0 k else if k = 123 then .inr (1, [.ref (b + 124), .int 0, .int 0]) else if k = 124 then .inl (Z.2 3, 30, .inr (.inr (.inr (.inr (fun j => if j < i then some (b + (125 + j)) else none))))) else .inr (0, [.int 0, .int 0, .int 0, .int 0, .int 0])
theorem eL_step (Z : Zt) (b : Nat) (E0 : Nat → va_E) {i : Nat} {k : Nat} (hk : k < 125 + (i + 1)) : vup (vup (eL Z b E0 i) (125 + i) (.inr (0, [.int 0, .int 0, .int 0, .int 0, .int 0]))) 124 (.inl (Z.2 3, 30, .inr (.inr (.inr (.inr (va_up (fun j => if j < i then some (b + (125 + j)) else none) i (some (b + (125 + i))))))))) k = eL Z b E0 (i + 1) k := by
  by_cases h2 : k = 124
  · subst h2
    rw [vup_s]
    unfold eL
    rw [if_neg (by decide), if_neg (by decide), if_pos rfl]
    congr 7
    funext j
    unfold va_up
    by_cases h : j = i
    · subst h; rw [if_pos rfl, if_pos (by omega)]
    · by_cases h' : j < i
      · rw [if_neg h]
        show (if j < i then some (b + (125 + j)) else none) = _
        rw [if_pos h', if_pos (by omega)]
      · rw [if_neg h]
        show (if j < i then some (b + (125 + j)) else none) = _
        rw [if_neg h', if_neg (by omega)]
  · rw [vup_n _ _ h2]
    by_cases h3 : k = 125 + i
    · subst h3
      rw [vup_s]
      unfold eL
      rw [if_neg (by omega), if_neg (by omega), if_neg (by omega)]
    · rw [vup_n _ _ h3]
      unfold eL
      rw [if_neg h2, if_neg h2]
section LOCKS
variable {p : Program} {l : Launch} {e : Env} {R : Room} {s : State} {m : MethodId} {args : Array Value} {below : List Frame} {meth : Method} {c : Code} {H : Heap} {locs : List Loc} {cells slots : Nat} {Q : State → Prop} {cc : ByteArray} {pc : Nat} {ls : Array Slot} {rest : List Value} {Z : Zt} {b n : Nat} {E : Nat → va_E}
theorem kI_lok {k nL : Nat} (C : Cx p s m args c cc RX1 Z b) (hEi : Evi Z b s) (hml : c.maxLocals = nL) (hsz : ls.size = nL) (hR : rI_X0.frames + 1 ≤ R.frames ∧ 8 + (1 + 11) + rI_X0.locals ≤ R.locals) (hc : cells + 0 ≤ R.cells ∧ slots + 0 ≤ R.slots) (hroom : (rest.map fun v => v.category).sum ≤ 8) (hS : va_S (A0 b) s.heap H locs) (hP : Pw Z b n E H) (hdg : decode cc pc = .ok (.invokespecial 17, 3))
    (kk : ∀ (H1 : Heap) (locs1 : List Loc), Pw Z b n E H1 → va_S (A0 b) s.heap H1 locs1 → W p l e R s m args below meth c H1 locs1 (cells + 0) (slots + 0) Q (F0 m (pc + 3) ls rest)) : W p l e R s m args below meth c H locs cells slots Q (F0 m pc ls (.ref (b + k) :: rest)) :=
  cl_goI (va_runIN (As := []) (b := b + k) ⟨C.1, C.2.1, hml, C.2.2.1, C.2.2.2.1⟩ (c_X0_init) ⟨va_cnB 0 C.2.2.2.1 (gN q120) rfl rfl rfl (C.2.2.2.2.2.1 _ (List.mem_append_left _ (List.mem_of_getElem? (i := 10) rfl))) (C.2.2.2.1 _ q47) (by decide +kernel) hR, rfl, C.2.2.2.1 _ q119⟩ ⟨Prei.blind _ _ _ _ _, fun U hU hWU => ⟨rfl, hEi.call hS hU hWU, by rw [hU]; exact hP⟩⟩ rfl rfl hsz rfl (lv_room hroom) hdg hc) hS kk
theorem pg_lrow {E0 : Nat → va_E} {i : Nat} (C : Cx p s m args c cc RX1 Z b) (hn : 125 ≤ n) (hP : Pw Z b n (eL Z b E0 i) H) (hdg : decode cc pc = .ok (.getfield 11, 3)) (kk : W p l e R s m args below meth c H locs cells slots Q (F0 m (pc + 3) ls (.ref (b + 124) :: rest))) : W p l e R s m args below meth c H locs cells slots Q (F0 m pc ls (.ref (b + 123) :: rest)) :=
  va_get (D := Z.1) (ci := 1) (fs := [.ref (b + 124), .int 0, .int 0]) (v := .ref (b + 124)) (C := RX1) (T := TX1) (N := 3) C.1 C.2.1 C.2.2.2.1 inaX1 C.2.2.1 C.2.2.2.2.1 hP.2 123 ((pwl_get (show 123 < n by omega)).trans rfl) rfl 0 (by decide) (C.2.2.2.1 _ q142) (fun _ h9 => h9) rfl hdg kk
theorem pl_lrow {E0 : Nat → va_E} {i : Nat} {own : String} (C : Cx p s m args c cc own Z b) (hn : 125 ≤ n) (hP : Pw Z b n (eL Z b E0 i) H) (hdg : decode cc pc = .ok (.arraylength, 1)) (kk : W p l e R s m args below meth c H locs cells slots Q (F0 m (pc + 1) ls (.int 30 :: rest))) : W p l e R s m args below meth c H locs cells slots Q (F0 m pc ls (.ref (b + 124) :: rest)) :=
  va_alen (cl := vwCl) C.1 C.2.1 C.2.2.2.2.1 hP.2 124 3 ((pwl_get (show 124 < n by omega)).trans rfl) rfl rfl hdg kk
end LOCKS
set_option maxHeartbeats 4000000 in
set_option maxRecDepth 100000 in
theorem w_X1_init_15 {p : Program} {l : Launch} {e : Env} {s : State} {m : MethodId} {args : Array Value} {below : List Frame} {meth : Method} {c : Code} {Z : Zt} {b : Nat} {E0 : Nat → va_E} (C : Cx p s m args c cX1_init RX1 Z b) (hEi : Evi Z b s) (hml : c.maxLocals = 2) (hr : meth.sig.returnType = none) (hlk : meth.locks = false) : ∀ (d i : Nat), i + d = 30 → ∀ {H : Heap} {locs : List Loc} {ls : Array Slot}, va_S (A0 b) s.heap H locs → Pw Z b (125 + i) (eL Z b E0 i) H → lv_has ls 2 [(0, .ref (b + 123)), (1, .int (nI i))] → W p l e rI_X1 s m args below meth c H locs (1 + i) (30 + 5 * i) (MQ below (Qi Z b 155 (eL Z b E0 30)) args s 31 180 (A0 b)) (F0 m 15 ls []) := by
  intro d
  induction d with
  | zero =>
    intro i hi H locs ls hS hP hl
    have : i = 30 := by omega
    subst this
    refine lv_iload_n C.1 C.2.1 dX1_init_15 rfl (lv_at hl 1 rfl) ?_
    refine lv_aload_n C.1 C.2.1 dX1_init_16 rfl (lv_at hl 0 rfl) ?_
    refine pg_lrow C (by omega) hP dX1_init_17 ?_
    refine pl_lrow C (by omega) hP dX1_init_20 ?_
    refine lv_icmp_ge (tgt := 43) C.1 C.2.1 dX1_init_21 (by decide) (fun c1 => ?_) (fun c1 => ?_)
    · refine lv_aload_n C.1 C.2.1 dX1_init_43 rfl (lv_at hl 0 rfl) ?_
      refine lv_iconst (v := 0) C.1 C.2.1 dX1_init_44 (by decide) ?_
      refine pw_put (ci := 1) (v := .int 0) (ty := .int) (fs := [.ref (b + 124), .int 0, .int 0]) (C := RX1) (T := TX1) (N := 3) C.1 C.2.1 C.2.2.2.1 inaX1 tyX1 tyX1_ok nmX1 C.2.2.1 C.2.2.2.2.1 hP hS 123 (by omega) rfl rfl 1 (by decide) (C.2.2.2.1 _ q143) (fun _ h9 => h9) rfl (by decide +kernel) rfl rfl (Nat.le_of_ble_eq_true rfl) dX1_init_45 (fun H1 locs1 hP hS => ?_)
      have hP' : Pw Z b (125 + 30) (eL Z b E0 30) H1 := Pw_cong hP (fun k _ => by
        by_cases z : k = 123
        · subst z; rw [vup_s]; rfl
        · rw [vup_n _ _ z])
      refine lv_aload_n C.1 C.2.1 dX1_init_48 rfl (lv_at hl 0 rfl) ?_
      refine lv_iconst (v := 0) C.1 C.2.1 dX1_init_49 (by decide) ?_
      refine pw_put (ci := 1) (v := .int 0) (ty := .int) (fs := [.ref (b + 124), .int 0, .int 0]) (C := RX1) (T := TX1) (N := 3) C.1 C.2.1 C.2.2.2.1 inaX1 tyX1 tyX1_ok nmX1 C.2.2.1 C.2.2.2.2.1 hP' hS 123 (by omega) rfl rfl 2 (by decide) (C.2.2.2.1 _ q145) (fun _ h9 => h9) rfl (by decide +kernel) rfl rfl (Nat.le_of_ble_eq_true rfl) dX1_init_50 (fun H1 locs1 hP hS => ?_)
      have hP2 : Pw Z b 155 (eL Z b E0 30) H1 := Pw_cong hP (fun k _ => by
        by_cases z : k = 123
        · subst z; rw [vup_s]; rfl
        · rw [vup_n _ _ z])
      exact ret_i0 C hr hlk hS hP2 dX1_init_53
    · exact absurd (by decide) c1
  | succ d ih =>
    intro i hi H locs ls hS hP hl
    refine lv_iload_n C.1 C.2.1 dX1_init_15 rfl (lv_at hl 1 rfl) ?_
    refine lv_aload_n C.1 C.2.1 dX1_init_16 rfl (lv_at hl 0 rfl) ?_
    refine pg_lrow C (by omega) hP dX1_init_17 ?_
    refine pl_lrow C (by omega) hP dX1_init_20 ?_
    refine lv_icmp_ge (tgt := 43) C.1 C.2.1 dX1_init_21 (by decide) (fun c1 => ?_) (fun c1 => ?_)
    · rw [show (30 : Int32) = nI 30 from rfl, le' (by decide) (by omega)] at c1
      omega
    · refine lv_aload_n C.1 C.2.1 dX1_init_24 rfl (lv_at hl 0 rfl) ?_
      refine pg_lrow C (by omega) hP dX1_init_25 ?_
      refine lv_iload_n C.1 C.2.1 dX1_init_28 rfl (lv_at hl 1 rfl) ?_
      refine nw_obj (ci := 0) (fs := [.int 0, .int 0, .int 0, .int 0, .int 0]) (C := RX0) (T := TX0) (N := 5) C.1 C.2.1 C.2.2.2.1 inaX0 tyX0 tyX0_ok C.2.2.1 (C.2.2.2.1 _ q115) (C.2.2.2.1 _ q117) (C.2.2.2.1 _ q47) C.2.2.2.2.1 hP hS rfl (fun j hj => by rcases (show j = 0 ∨ j = 1 ∨ j = 2 ∨ j = 3 ∨ j = 4 by omega) with rfl | rfl | rfl | rfl | rfl <;> rfl) (by show 1 + i + 1 ≤ 31; omega) (by show 30 + 5 * i + 5 ≤ 180; omega) dX1_init_29 (fun H1 hP hS => ?_)
      refine lv_dup C.1 C.2.1 dX1_init_32 rfl ?_
      refine kI_lok (k := 125 + i) C hEi hml hl.1 ⟨Nat.le_of_ble_eq_true rfl, Nat.le_of_ble_eq_true rfl⟩ ⟨by show 1 + i + 1 + 0 ≤ 31; omega, by show 30 + 5 * i + 5 + 0 ≤ 180; omega⟩ (Nat.le_of_ble_eq_true rfl) hS hP dX1_init_33 (fun H1 locs1 hP hS => ?_)
      refine pw_ast (Z := Z) (t0 := 3) (ci := 0) (r := (RX0, TX0, 5)) (N := 30) (j := i) (k0 := 124) (kv := 125 + i) (f := fun j => if j < i then some (b + (125 + j)) else none) (vs := [.int 0, .int 0, .int 0, .int 0, .int 0]) C.1 C.2.1 C.2.2.2.2.1 hP hS (by omega) (by omega) ?_ rfl ?_ rfl (by omega) (by decide) dX1_init_36 (fun H1 locs1 hP hS => ?_)
      · rw [vup_n _ _ (by omega)]
        unfold eL
        rw [if_neg (by decide), if_neg (by decide), if_pos rfl]
      · rw [vup_s]
      · refine lv_iinc (v := nI (i + 1)) (lv' := [(1, .int (nI (i + 1))), (0, .ref (b + 123))]) C.1 C.2.1 dX1_init_37 hl (k := 1) rfl (by rw [← nI_1]; rfl) (by decide) rfl (fun ls hl => ?_)
        refine lv_goto (tgt := 15) C.1 C.2.1 dX1_init_40 (by decide) ?_
        have hP' : Pw Z b (125 + (i + 1)) (eL Z b E0 (i + 1)) H1 := Pw_cong hP (fun k hk => eL_step Z b E0 hk)
        have := ih (i + 1) (by omega) hS hP' (lv_sub hl [1, 0] rfl)
        rw [show 1 + (i + 1) = 1 + i + 1 + 0 by omega, show 30 + 5 * (i + 1) = 30 + 5 * i + 5 + 0 by omega] at this
        exact this
set_option maxHeartbeats 4000000 in
set_option maxRecDepth 100000 in
theorem c_X1_init {l : Launch} {Z : Zt} {b : Nat} {E : Nat → va_E} (hE1 : E 123 = .inr (1, [.null, .int 0, .int 0])) : CtI l yX1_init cX1_init 2 rI_X1 31 180 Z b 123 124 E 155 (eL Z b E 30) := by
  refine Met.ofW (cc := cX1_init) (maxL := 2) (ret := (none : Option Jvm.ClassFile.FieldType)) (by decide) rfl ?_
  intro p e s m args below meth c s₁ B hml hv
  obtain ⟨rfl, hE, hP⟩ := hv
  have C : Cx p s m [.ref (b + 123)].toArray c cX1_init RX1 Z b := ⟨B.exec, B.bytes, findClass_of_methodNamed B.named, fun w hw => atoms_spec (ws := Cond.code yX1_init cX1_init 2 (none : Option Jvm.ClassFile.FieldType) :: wsA) B.pre w (List.mem_cons_of_mem _ hw), hE.1⟩
  have hin : meth.name = "<init>" := (name_of_methodNamed B.named B.method).1
  have hl := lv_entry [.ref (b + 123)] (n := 2) (Nat.le_of_ble_eq_true rfl)
  rw [lg_entry_eq]
  generalize (lg_sl [.ref (b + 123)] ++ List.replicate (2 - (lg_sl [.ref (b + 123)]).length) Slot.unset).toArray = ls at hl ⊢
  have hl : lv_has ls 2 [(0, .ref (b + 123))] := hl
  refine lv_aload_n C.1 C.2.1 dX1_init_0 rfl (lv_at hl 0 rfl) ?_
  refine W.objInit C.1 C.2.1 C.2.2.1 (C.2.2.2.1 _ q114) (C.2.2.2.1 _ q60) (C.2.2.2.1 _ q61) rfl (by rw [hml]; exact hl.1) rfl dX1_init_1 (Nat.le_of_ble_eq_true rfl) (Nat.le_of_ble_eq_true rfl) ?_
  refine lv_aload_n C.1 C.2.1 dX1_init_4 rfl (lv_at hl 0 rfl) ?_
  refine lv_bipush (v := (30 : Int32)) C.1 C.2.1 dX1_init_5 (by decide) ?_
  refine nw_oarr (N' := 30) C.1 C.2.1 C.2.2.1 (C.2.2.2.1 _ q115) (va_AO.use hE.2.2) (obj_nm (C.2.2.2.2.1.2 3 _ rfl).2) hP va_S.rf (by decide) (by decide) (by decide) (Nat.le_of_ble_eq_true rfl) (Nat.le_of_ble_eq_true rfl) dX1_init_7 (fun H1 hP hS => ?_)
  refine pw_putF (ci := 1) (v := .ref (b + 124)) (ty := .array (.object "ShelfServer$Lock")) (fs := [.null, .int 0, .int 0]) (C := RX1) (T := TX1) (N := 3) C.1 C.2.1 C.2.2.2.1 inaX1 tyX1 tyX1_ok nmX1 C.2.2.1 C.2.2.2.2.1 hP hS 123 (by omega) (by rw [vup_n _ _ (by omega)]; exact hE1) rfl 0 (by decide) (C.2.2.2.1 _ q142) (fun _ h9 => h9) rfl hin rfl (by decide +kernel) rfl rfl (Nat.le_of_ble_eq_true rfl) dX1_init_10 (fun H1 locs1 hP hS => ?_)
  refine lv_iconst (v := 0) C.1 C.2.1 dX1_init_13 (by decide) ?_
  refine lv_istore_n (lv' := [(1, .int 0), (0, .ref (b + 123))]) C.1 C.2.1 dX1_init_14 rfl hl (by decide) rfl (fun ls hl => ?_)
  have hP' : Pw Z b (125 + 0) (eL Z b E 0) H1 := Pw_cong hP (fun k hk => by
    by_cases h1 : k < 123
    · rw [vup_n _ _ (by omega), vup_n _ _ (by omega)]
      unfold eL
      rw [if_pos h1]
    · rcases (show k = 123 ∨ k = 124 by omega) with rfl | rfl
      · rw [vup_s]; rfl
      · rw [vup_n _ _ (by decide), vup_s, none_0 (fun j => b + (125 + j))]; rfl)
  exact w_X1_init_15 C hE hml B.returns B.notSynchronized 30 0 (by decide) hS hP' (lv_sub hl [1, 0] rfl)

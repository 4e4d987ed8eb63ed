/-! ===== constructors: ShelfServer ===== -/
abbrev rI_X4 : Room := { frames := 3, cells := 155, slots := 1265, locals := 61 }
def srv (x y z : Value) : va_E := .inr (4, [x, y, z, .int 0])
/-- the cells after the shelf, after the locks, after all of the server -/
def e4a (Z : Zt) (b : Nat) : Nat → va_E := vup (vup (eS Z b (srv .null .null .null) 60) 0 (srv (.ref (b + 1)) .null .null)) 123 (.inr (1, [.null, .int 0, .int 0]))
def e4b (Z : Zt) (b : Nat) : Nat → va_E := vup (vup (vup (vup (eL Z b (e4a Z b) 30) 0 (srv (.ref (b + 1)) (.ref (b + 123)) .null)) 155 (.inl (Z.2 0, 60, .inl (fun _ => 0)))) 0 (srv (.ref (b + 1)) (.ref (b + 123)) (.ref (b + 155)))) 0 (srv (.ref (b + 1)) (.ref (b + 123)) (.ref (b + 155)))
theorem vup_cong {α : Type} {f g : Nat → α} {k : Nat} {v w : α} {n : Nat} (h : ∀ j, j < n → f j = g j) (hv : v = w) : ∀ j, j < n → vup f k v j = vup g k w j := fun j hj => by
  unfold vup
  rw [h j hj, hv]
theorem eS_cong {Z : Zt} {b i : Nat} {e0 e1 : va_E} (h : e0 = e1) (k : Nat) : eS Z b e0 i k = eS Z b e1 i k := by rw [h]
section SERVER
variable {p : Program} {l : Launch} {e : Env} {R : Room} {s : State} {m : MethodId} {args : Array Value} {below : List Frame} {meth : Method} {c : Code} {H : Heap} {locs : List Loc} {cells slots : Nat} {Q : State → Prop} {cc : ByteArray} {pc : Nat} {ls : Array Slot} {rest : List Value} {Z : Zt} {b n : Nat} {E : Nat → va_E}
theorem kI_shf {nL : Nat} (C : Cx p s m args c cc RX4 Z b) (hEi : Evi Z b s) (hml : c.maxLocals = nL) (hsz : ls.size = nL) (hE1 : E 1 = .inr (3, [.null, .int 0])) (hR : rI_X3.frames + 1 ≤ R.frames ∧ 8 + (2 + 11) + rI_X3.locals ≤ R.locals) (hc : cells + 121 ≤ R.cells ∧ slots + 1020 ≤ R.slots) (hroom : (rest.map fun v => v.category).sum ≤ 8) (hS : va_S (A0 b) s.heap H locs) (hP : Pw Z b 2 E H) (hdg : decode cc pc = .ok (.invokespecial 9, 3))
    (kk : ∀ (H1 : Heap) (locs1 : List Loc), Pw Z b 123 (eS Z b (E 0) 60) H1 → va_S (A0 b) s.heap H1 locs1 → W p l e R s m args below meth c H1 locs1 (cells + 121) (slots + 1020) Q (F0 m (pc + 3) ls rest)) : W p l e R s m args below meth c H locs cells slots Q (F0 m pc ls (.ref (b + 1) :: rest)) :=
  cl_goI (va_runIN (As := []) (b := b + 1) ⟨C.1, C.2.1, hml, C.2.2.1, C.2.2.2.1⟩ (c_X3_init hE1) ⟨va_cnB 0 C.2.2.2.1 (gN q66) rfl rfl rfl (C.2.2.2.2.2.1 _ (List.mem_append_left _ (List.mem_of_getElem? (i := 0) rfl))) (C.2.2.2.1 _ q44) (by decide +kernel) hR, rfl, C.2.2.2.1 _ q65⟩ ⟨Prei.blind _ _ _ _ _, fun U hU hWU => ⟨rfl, hEi.call hS hU hWU, by rw [hU]; exact hP⟩⟩ rfl rfl hsz rfl (lv_room hroom) hdg hc) hS kk
theorem kI_lks {nL : Nat} (C : Cx p s m args c cc RX4 Z b) (hEi : Evi Z b s) (hml : c.maxLocals = nL) (hsz : ls.size = nL) (hE1 : E 123 = .inr (1, [.null, .int 0, .int 0])) (hR : rI_X1.frames + 1 ≤ R.frames ∧ 8 + (2 + 11) + rI_X1.locals ≤ R.locals) (hc : cells + 31 ≤ R.cells ∧ slots + 180 ≤ R.slots) (hroom : (rest.map fun v => v.category).sum ≤ 8) (hS : va_S (A0 b) s.heap H locs) (hP : Pw Z b 124 E H) (hdg : decode cc pc = .ok (.invokespecial 18, 3))
    (kk : ∀ (H1 : Heap) (locs1 : List Loc), Pw Z b 155 (eL Z b E 30) H1 → va_S (A0 b) s.heap H1 locs1 → W p l e R s m args below meth c H1 locs1 (cells + 31) (slots + 180) Q (F0 m (pc + 3) ls rest)) : W p l e R s m args below meth c H locs cells slots Q (F0 m pc ls (.ref (b + 123) :: rest)) :=
  cl_goI (va_runIN (As := []) (b := b + 123) ⟨C.1, C.2.1, hml, C.2.2.1, C.2.2.2.1⟩ (c_X1_init hE1) ⟨va_cnB 0 C.2.2.2.1 (gN q113) rfl rfl rfl (C.2.2.2.2.2.1 _ (List.mem_append_left _ (List.mem_of_getElem? (i := 9) rfl))) (C.2.2.2.1 _ q46) (by decide +kernel) hR, rfl, C.2.2.2.1 _ q112⟩ ⟨Prei.blind _ _ _ _ _, fun U hU hWU => ⟨rfl, hEi.call hS hU hWU, by rw [hU]; exact hP⟩⟩ rfl rfl hsz rfl (lv_room hroom) hdg hc) hS kk
end SERVER
set_option maxHeartbeats 4000000 in
set_option maxRecDepth 100000 in
theorem c_X4_init {l : Launch} {Z : Zt} {b : Nat} {E : Nat → va_E} (hE0 : E 0 = srv .null .null .null) : CtI l yX4_init cX4_init 1 rI_X4 155 1265 Z b 0 1 E 156 (e4b Z b) := by
  refine Met.ofW (cc := cX4_init) (maxL := 1) (ret := (none : Option Jvm.ClassFile.FieldType)) (by decide) rfl ?_
  intro p e s m args below meth c s₁ B hml hv
  obtain ⟨rfl, hE, hP⟩ := hv
  have C : Cx p s m [.ref (b + 0)].toArray c cX4_init RX4 Z b := ⟨B.exec, B.bytes, findClass_of_methodNamed B.named, fun w hw => atoms_spec (ws := Cond.code yX4_init cX4_init 1 (none : Option Jvm.ClassFile.FieldType) :: wsA) B.pre w (List.mem_cons_of_mem _ hw), hE.1⟩
  have hin : meth.name = "<init>" := (name_of_methodNamed B.named B.method).1
  have hl := lv_entry [.ref (b + 0)] (n := 1) (Nat.le_of_ble_eq_true rfl)
  rw [lg_entry_eq]
  generalize (lg_sl [.ref (b + 0)] ++ List.replicate (1 - (lg_sl [.ref (b + 0)]).length) Slot.unset).toArray = ls at hl ⊢
  have hl : lv_has ls 1 [(0, .ref (b + 0))] := hl
  have hz : s.vm.findClass ("[" ++ (newarray.typeOf .int).toString) = some (Z.2 0) := (C.2.2.2.2.1.2 0 _ rfl).2
  refine lv_aload_n C.1 C.2.1 dX4_init_0 rfl (lv_at hl 0 rfl) ?_
  refine W.objInit C.1 C.2.1 C.2.2.1 (C.2.2.2.1 _ q59) (C.2.2.2.1 _ q60) (C.2.2.2.1 _ q61) rfl (by rw [hml]; exact hl.1) rfl dX4_init_1 (Nat.le_of_ble_eq_true rfl) (Nat.le_of_ble_eq_true rfl) ?_
  refine lv_aload_n C.1 C.2.1 dX4_init_4 rfl (lv_at hl 0 rfl) ?_
  refine nw_obj (ci := 3) (fs := [.null, .int 0]) (C := RX3) (T := TX3) (N := 2) C.1 C.2.1 C.2.2.2.1 inaX3 tyX3 tyX3_ok C.2.2.1 (C.2.2.2.1 _ q62) (C.2.2.2.1 _ q63) (C.2.2.2.1 _ q44) C.2.2.2.2.1 hP va_S.rf rfl (fun j hj => by rcases (show j = 0 ∨ j = 1 by omega) with rfl | rfl <;> rfl) (Nat.le_of_ble_eq_true rfl) (Nat.le_of_ble_eq_true rfl) dX4_init_5 (fun H1 hP hS => ?_)
  refine lv_dup C.1 C.2.1 dX4_init_8 rfl ?_
  refine kI_shf C hE hml hl.1 (vup_s _ _ _) ⟨Nat.le_of_ble_eq_true rfl, Nat.le_of_ble_eq_true rfl⟩ ⟨Nat.le_of_ble_eq_true rfl, Nat.le_of_ble_eq_true rfl⟩ (Nat.le_of_ble_eq_true rfl) hS hP dX4_init_9 (fun H1 locs1 hP hS => ?_)
  have hP : Pw Z b 123 (eS Z b (srv .null .null .null) 60) H1 := Pw_cong hP (fun k _ => eS_cong (by rw [vup_n _ _ (by decide), hE0]) k)
  refine pw_putF (ci := 4) (v := .ref (b + 1)) (ty := .object "ShelfServer$Shelf") (fs := [.null, .null, .null, .int 0]) (C := RX4) (T := TX4) (N := 4) C.1 C.2.1 C.2.2.2.1 inaX4 tyX4 tyX4_ok nmX4 C.2.2.1 C.2.2.2.2.1 hP hS 0 (by omega) rfl rfl 0 (by decide) (C.2.2.2.1 _ q154) (fun _ h9 => h9) rfl hin rfl (by decide +kernel) rfl rfl (Nat.le_of_ble_eq_true rfl) dX4_init_12 (fun H1 locs1 hP hS => ?_)
  refine lv_aload_n C.1 C.2.1 dX4_init_15 rfl (lv_at hl 0 rfl) ?_
  refine nw_obj (ci := 1) (fs := [.null, .int 0, .int 0]) (C := RX1) (T := TX1) (N := 3) C.1 C.2.1 C.2.2.2.1 inaX1 tyX1 tyX1_ok C.2.2.1 (C.2.2.2.1 _ q109) (C.2.2.2.1 _ q110) (C.2.2.2.1 _ q46) C.2.2.2.2.1 hP hS rfl (fun j hj => by rcases (show j = 0 ∨ j = 1 ∨ j = 2 by omega) with rfl | rfl | rfl <;> rfl) (Nat.le_of_ble_eq_true rfl) (Nat.le_of_ble_eq_true rfl) dX4_init_16 (fun H1 hP hS => ?_)
  refine lv_dup C.1 C.2.1 dX4_init_19 rfl ?_
  refine kI_lks C hE hml hl.1 (vup_s _ _ _) ⟨Nat.le_of_ble_eq_true rfl, Nat.le_of_ble_eq_true rfl⟩ ⟨Nat.le_of_ble_eq_true rfl, Nat.le_of_ble_eq_true rfl⟩ (Nat.le_of_ble_eq_true rfl) hS hP dX4_init_20 (fun H1 locs1 hP hS => ?_)
  refine pw_putF (ci := 4) (v := .ref (b + 123)) (ty := .object "ShelfServer$Locks") (fs := [.ref (b + 1), .null, .null, .int 0]) (C := RX4) (T := TX4) (N := 4) C.1 C.2.1 C.2.2.2.1 inaX4 tyX4 tyX4_ok nmX4 C.2.2.1 C.2.2.2.2.1 hP hS 0 (by omega) rfl rfl 1 (by decide) (C.2.2.2.1 _ q155) (fun _ h9 => h9) rfl hin rfl (by decide +kernel) rfl rfl (Nat.le_of_ble_eq_true rfl) dX4_init_23 (fun H1 locs1 hP hS => ?_)
  refine lv_aload_n C.1 C.2.1 dX4_init_26 rfl (lv_at hl 0 rfl) ?_
  refine lv_bipush (v := (60 : Int32)) C.1 C.2.1 dX4_init_27 (by decide) ?_
  refine nw_arr (atype := .int) (N' := 60) (a0 := (60, .inl (fun _ => 0))) C.1 C.2.1 (C.2.2.2.1 _ q100) hz hP hS (fun _ => rfl) (by decide) (by decide) (by decide) (Nat.le_of_ble_eq_true rfl) (Nat.le_of_ble_eq_true rfl) dX4_init_29 (fun H1 hP hS => ?_)
  refine pw_putF (ci := 4) (v := .ref (b + 155)) (ty := .array .int) (fs := [.ref (b + 1), .ref (b + 123), .null, .int 0]) (C := RX4) (T := TX4) (N := 4) C.1 C.2.1 C.2.2.2.1 inaX4 tyX4 tyX4_ok nmX4 C.2.2.1 C.2.2.2.2.1 hP hS 0 (by omega) (by rw [vup_n _ _ (by decide), vup_s]; rfl) rfl 2 (by decide) (C.2.2.2.1 _ q156) (fun _ h9 => h9) rfl hin rfl (by decide +kernel) rfl rfl (Nat.le_of_ble_eq_true rfl) dX4_init_31 (fun H1 locs1 hP hS => ?_)
  refine lv_aload_n C.1 C.2.1 dX4_init_34 rfl (lv_at hl 0 rfl) ?_
  refine lv_iconst (v := 0) C.1 C.2.1 dX4_init_35 (by decide) ?_
  refine pw_put (ci := 4) (v := .int 0) (ty := .int) (fs := [.ref (b + 1), .ref (b + 123), .ref (b + 155), .int 0]) (C := RX4) (T := TX4) (N := 4) C.1 C.2.1 C.2.2.2.1 inaX4 tyX4 tyX4_ok nmX4 C.2.2.1 C.2.2.2.2.1 hP hS 0 (by omega) (by rw [vup_s]; rfl) rfl 3 (by decide) (C.2.2.2.1 _ q157) (fun _ h9 => h9) rfl (by decide +kernel) rfl rfl (Nat.le_of_ble_eq_true rfl) dX4_init_36 (fun H1 locs1 hP hS => ?_)
  exact ret_i0 C B.returns B.notSynchronized hS (Pw_cong hP (fun k _ => rfl)) dX4_init_39

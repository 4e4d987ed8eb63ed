/-! ===== constructors: Resource, Lock ===== -/
/-- what stands while the cells are made -/
def Evi (Z : Zt) (b : Nat) (s : State) : Prop := Ev Z b s ∧ va_AO RX2 s ∧ va_AO RX0 s
theorem Evi.calling {Z : Zt} {b : Nat} {U : State} (g : JFrame) (mk : MethodId) (a : Array Value) (h : Evi Z b U) : Evi Z b (U.calling g mk a) :=
  ⟨h.1.calling g mk a, va_AO.moved (u := U) (U := U.calling g mk a) (Vm.Alike.refl U.vm) h.2.1, va_AO.moved (u := U) (U := U.calling g mk a) (Vm.Alike.refl U.vm) h.2.2⟩
theorem Evi.call {Z : Zt} {b : Nat} {s U : State} {H : Heap} {locs : List Loc} (h : Evi Z b s) (hS : va_S (A0 b) s.heap H locs) (hU : U.heap = H) (hW : s.WarmedH U.vm) : Evi Z b U :=
  ⟨h.1.call hS hU hW, va_AO.moved hW.alike h.2.1, va_AO.moved hW.alike h.2.2⟩
def Prei (Z : Zt) (b n : Nat) (E : Nat → va_E) (U : State) : Prop := Evi Z b U ∧ Pw Z b n E U.heap
theorem Prei.blind (av : List Value) (Z : Zt) (b n : Nat) (E : Nat → va_E) : FrameBlind (va_Pc av (Prei Z b n E)) := fun _ _ g mk q => ⟨q.1, q.2.1.calling g mk _, q.2.2⟩
def Qi (Z : Zt) (b n : Nat) (E : Nat → va_E) : Array Value → State → Outcome → State → Prop := fun _ st oc t => (oc = .returned none ∧ Pw Z b n E t.heap) ∧ va_F (A0 b) st t
abbrev CtI (l : Launch) (y : MethodName) (bytes : ByteArray) (maxL : Nat) (rm : Room) (mc ms : Nat) (Z : Zt) (b k n : Nat) (E : Nat → va_E) (n' : Nat) (E' : Nat → va_E) : Prop :=
  Met l y (Cond.code y bytes maxL (none : Option Jvm.ClassFile.FieldType) :: wsA) rm (va_Pc [.ref (b + k)] (Prei Z b n E)) (Qi Z b n' E') mc ms (A0 b)
abbrev rI_X0 : Room := { frames := 1, cells := 0, slots := 0, locals := 20 }
abbrev rI_X2 : Room := { frames := 1, cells := 1, slots := 10, locals := 20 }
section INITROWS
variable {own : String} {p : Program} {l : Launch} {e : Env} {R : Room} {s : State} {m : MethodId} {args : Array Value} {below : List Frame} {meth : Method} {c : Code} {H : Heap} {locs : List Loc} {cells slots : Nat} {Q : State → Prop} {cc : ByteArray} {pc : Nat} {ls : Array Slot} {rest : List Value} {Z : Zt} {b n : Nat} {E : Nat → va_E}
theorem ret_i0 {own0 : String} (C : Cx p s m args c cc own0 Z b) (hr : meth.sig.returnType = none) (hlk : meth.locks = false) (hS : va_S (A0 b) s.heap H locs) (hP : Pw Z b n E H) (hdg : decode cc pc = .ok (.return_, 1)) : W p l e R s m args below meth c H locs cells slots (MQ below (Qi Z b n E) args s cells slots (A0 b)) (F0 m pc ls []) :=
  W.vret C.1 C.2.1 hr (fun t ht _ => ⟨⟨rfl, by rw [ht]; exact hP⟩, hS.F ht⟩) hS.2.2 hdg hlk
/-- a constructor's call -/
theorem cl_goI {st0 : List Value} {n' mc ms : Nat} {E' : Nat → va_E} {a : Array Value} (hr : va_Run p l e R s m args below meth c H locs cells slots mc ms (F0 m pc ls st0) rest (Qi Z b n' E' a) (A0 b)) (hS : va_S (A0 b) s.heap H locs)
    (kk : ∀ (H1 : Heap) (locs1 : List Loc), Pw Z b n' E' H1 → va_S (A0 b) s.heap H1 locs1 → W p l e R s m args below meth c H1 locs1 (cells + mc) (slots + ms) Q (F0 m (pc + 3) ls rest)) : W p l e R s m args below meth c H locs cells slots Q (F0 m pc ls st0) := by
  intro T hT X
  obtain ⟨v', st₀, t, T', L, h0, X', hL, e1, e2, ⟨⟨hv, hw⟩, hz, hk⟩, st⟩ := hr T hT X
  cases hv
  rw [h0] at hz hk
  obtain ⟨t2, a1, b1⟩ := kk T'.heap (locs ++ L) (by rw [e1]; exact hw) ⟨Nat.le_trans hS.1 (by rw [e1]; exact hz), fun q h1 h2 => by rw [e1, hk q (Nat.lt_of_lt_of_le h1 hS.1) h2]; exact hS.2.1 q h1 h2, fun q hq => by
      rcases List.mem_append.mp hq with h | h
      · exact hS.2.2 q h
      · exact hL q h⟩ T' rfl X'
  exact ⟨t2, st t2 a1, b1⟩
end INITROWS
set_option maxHeartbeats 4000000 in
set_option maxRecDepth 100000 in
theorem c_X0_init {l : Launch} {Z : Zt} {b k n : Nat} {E : Nat → va_E} : CtI l yX0_init cX0_init 1 rI_X0 0 0 Z b k n E n E := by
  refine Met.ofW (cc := cX0_init) (maxL := 1) (ret := (none : Option Jvm.ClassFile.FieldType)) (by decide) rfl ?_
  intro p e s m args below meth c s₁ B hml hv
  obtain ⟨rfl, hE, hP⟩ := hv
  have C : Cx p s m [.ref (b + k)].toArray c cX0_init RX0 Z b := ⟨B.exec, B.bytes, findClass_of_methodNamed B.named, fun w hw => atoms_spec (ws := Cond.code yX0_init cX0_init 1 (none : Option Jvm.ClassFile.FieldType) :: wsA) B.pre w (List.mem_cons_of_mem _ hw), hE.1⟩
  have hl := lv_entry [.ref (b + k)] (n := 1) (Nat.le_of_ble_eq_true rfl)
  rw [lg_entry_eq]
  generalize (lg_sl [.ref (b + k)] ++ List.replicate (1 - (lg_sl [.ref (b + k)]).length) Slot.unset).toArray = ls at hl ⊢
  have hl : lv_has ls 1 [(0, .ref (b + k))] := hl
  refine lv_aload_n C.1 C.2.1 dX0_init_0 rfl (lv_at hl 0 rfl) ?_
  refine W.objInit C.1 C.2.1 C.2.2.1 (C.2.2.2.1 _ q121) (C.2.2.2.1 _ q60) (C.2.2.2.1 _ q61) rfl (by rw [hml]; exact hl.1) rfl dX0_init_1 (Nat.le_of_ble_eq_true rfl) (Nat.le_of_ble_eq_true rfl) ?_
  exact ret_i0 C B.returns B.notSynchronized va_S.rf hP dX0_init_4
set_option maxHeartbeats 4000000 in
set_option maxRecDepth 100000 in
theorem c_X2_init {l : Launch} {Z : Zt} {b k n : Nat} {E : Nat → va_E} (hk : k < n) (hEk : E k = .inr (2, [.int 0, .int 0, .int 0, .int 0, .null, .int 0])) : CtI l yX2_init cX2_init 1 rI_X2 1 10 Z b k n E (n + 1) (vup (vup E n (.inl (Z.2 0, 10, .inl (fun _ => 0)))) k (.inr (2, [.int 0, .int 0, .int 0, .int 0, .ref (b + n), .int 0]))) := by
  refine Met.ofW (cc := cX2_init) (maxL := 1) (ret := (none : Option Jvm.ClassFile.FieldType)) (by decide) rfl ?_
  intro p e s m args below meth c s₁ B hml hv
  obtain ⟨rfl, hE, hP⟩ := hv
  have C : Cx p s m [.ref (b + k)].toArray c cX2_init RX2 Z b := ⟨B.exec, B.bytes, findClass_of_methodNamed B.named, fun w hw => atoms_spec (ws := Cond.code yX2_init cX2_init 1 (none : Option Jvm.ClassFile.FieldType) :: wsA) B.pre w (List.mem_cons_of_mem _ hw), hE.1⟩
  have hin : meth.name = "<init>" := (name_of_methodNamed B.named B.method).1
  have hl := lv_entry [.ref (b + k)] (n := 1) (Nat.le_of_ble_eq_true rfl)
  rw [lg_entry_eq]
  generalize (lg_sl [.ref (b + k)] ++ List.replicate (1 - (lg_sl [.ref (b + k)]).length) Slot.unset).toArray = ls at hl ⊢
  have hl : lv_has ls 1 [(0, .ref (b + k))] := hl
  have hz : s.vm.findClass ("[" ++ (newarray.typeOf .int).toString) = some (Z.2 0) := (C.2.2.2.2.1.2 0 _ rfl).2
  refine lv_aload_n C.1 C.2.1 dX2_init_0 rfl (lv_at hl 0 rfl) ?_
  refine W.objInit C.1 C.2.1 C.2.2.1 (C.2.2.2.1 _ q74) (C.2.2.2.1 _ q60) (C.2.2.2.1 _ q61) rfl (by rw [hml]; exact hl.1) rfl dX2_init_1 (Nat.le_of_ble_eq_true rfl) (Nat.le_of_ble_eq_true rfl) ?_
  refine lv_aload_n C.1 C.2.1 dX2_init_4 rfl (lv_at hl 0 rfl) ?_
  refine lv_bipush (v := (10 : Int32)) C.1 C.2.1 dX2_init_5 (by decide) ?_
  refine nw_arr (atype := .int) (N' := 10) (a0 := (10, .inl (fun _ => 0))) C.1 C.2.1 (C.2.2.2.1 _ q100) hz hP va_S.rf (fun _ => rfl) (by decide) (by decide) (by decide) (Nat.le_of_ble_eq_true rfl) (Nat.le_of_ble_eq_true rfl) dX2_init_7 (fun H1 hP hS => ?_)
  refine pw_putF (ci := 2) (v := .ref (b + n)) (ty := .array .int) (fs := [.int 0, .int 0, .int 0, .int 0, .null, .int 0]) (C := RX2) (T := TX2) (N := 6) C.1 C.2.1 C.2.2.2.1 inaX2 tyX2 tyX2_ok nmX2 C.2.2.1 C.2.2.2.2.1 hP hS k (by omega) (by rw [vup_n _ _ (by omega)]; exact hEk) rfl 4 (by decide) (C.2.2.2.1 _ q84) (fun _ h9 => h9) rfl hin rfl (by decide +kernel) rfl rfl (Nat.le_of_ble_eq_true rfl) dX2_init_9 (fun H1 locs1 hP hS => ?_)
  exact ret_i0 C B.returns B.notSynchronized hS hP dX2_init_12

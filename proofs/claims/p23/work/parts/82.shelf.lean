set_option maxHeartbeats 4000000 in
set_option maxRecDepth 100000 in
theorem c_L_shelf {l : Launch} {Z : Zt} {b : Nat} (hlf : l.stackTraces = false) {M : Mem} (h : RS M ([], [], 0, [])) : ∃ M', RS M' V5 ∧ CtN l yL_shelf cL_shelf 1 (some .boolean) rm_L_shelf 26 156 Z b [.ref (b + 0)] M (some (.int 1)) M' := by
  obtain ⟨M1, hc1, h1⟩ := s_mk V1 (0 : Int32) (c := (0 : Int32)) (x := (1 : Int32)) (tks := (0 : Int32)) h (by decide +kernel)
  have hc1 : f_X4_makeCollection M (0 : Int32) (1 : Int32) (0 : Int32) = some (.inr (0 : Int32), M1) := hc1
  obtain ⟨M2, hc2, h2⟩ := s_put V2 (0 : Int32) (c := (0 : Int32)) (x := (11 : Int32)) (ct := (5 : Int32)) (ex := (-1 : Int32)) (tks := (0 : Int32)) h1 (by decide +kernel)
  have hc2 : f_X4_put M1 (0 : Int32) (11 : Int32) (5 : Int32) (-1 : Int32) (0 : Int32) = some (.inr (0 : Int32), M2) := hc2
  obtain ⟨M3, hc3, h3⟩ := s_mk V3 (0 : Int32) (c := (0 : Int32)) (x := (12 : Int32)) (tks := (0 : Int32)) h2 (by decide +kernel)
  have hc3 : f_X4_makeCollection M2 (0 : Int32) (12 : Int32) (0 : Int32) = some (.inr (0 : Int32), M3) := hc3
  obtain ⟨M4, hc4, h4⟩ := s_put V4 (0 : Int32) (c := (0 : Int32)) (x := (121 : Int32)) (ct := (7 : Int32)) (ex := (-1 : Int32)) (tks := (0 : Int32)) h3 (by decide +kernel)
  have hc4 : f_X4_put M3 (0 : Int32) (121 : Int32) (7 : Int32) (-1 : Int32) (0 : Int32) = some (.inr (0 : Int32), M4) := hc4
  obtain ⟨M5, hc5, h5⟩ := s_put V5 (0 : Int32) (c := (0 : Int32)) (x := (122 : Int32)) (ct := (8 : Int32)) (ex := (-1 : Int32)) (tks := (0 : Int32)) h4 (by decide +kernel)
  have hc5 : f_X4_put M4 (0 : Int32) (122 : Int32) (8 : Int32) (-1 : Int32) (0 : Int32) = some (.inr (0 : Int32), M5) := hc5
  refine ⟨M5, h5, ?_⟩
  refine Met.ofW (cc := cL_shelf) (maxL := 1) (ret := (some .boolean)) (by decide) rfl ?_
  intro p e s m args below meth c s₁ B hml hv
  obtain ⟨rfl, hE, hW⟩ := hv
  have C : Cx p s m [.ref (b + 0)].toArray c cL_shelf RL Z b := ⟨B.exec, B.bytes, findClass_of_methodNamed B.named, fun w hw => atoms_spec (ws := Cond.code yL_shelf cL_shelf 1 (some .boolean) :: wsA) B.pre w (List.mem_cons_of_mem _ hw), hE⟩
  have hl := lv_entry [.ref (b + 0)] (n := 1) (Nat.le_of_ble_eq_true rfl)
  rw [lg_entry_eq]
  generalize (lg_sl [.ref (b + 0)] ++ List.replicate (1 - (lg_sl [.ref (b + 0)]).length) Slot.unset).toArray = ls at hl ⊢
  have hl : lv_has ls 1 [(0, .ref (b + 0))] := hl
  have hr := B.returns
  have hlk := B.notSynchronized
  have hS : va_S (A0 b) s.heap s.heap [] := va_S.rf
  have hx := C.1
  have hb := C.2.1
  refine lv_aload_n hx hb dL_shelf_0 rfl (lv_at hl 0 rfl) ?_
  refine lv_iconst (v := (0 : Int32)) hx hb dL_shelf_1 (by decide) ?_
  refine lv_iconst (v := (1 : Int32)) hx hb dL_shelf_2 (by decide) ?_
  refine lv_iconst (v := (0 : Int32)) hx hb dL_shelf_3 (by decide) ?_
  refine kL_7R C hml hl.1 (c_X4_makeCollection hlf hc1) ⟨Nat.le_of_ble_eq_true rfl, Nat.le_of_ble_eq_true rfl⟩ ⟨by show _ ≤ 26; omega, by show _ ≤ 156; omega⟩ (Nat.le_of_ble_eq_true rfl) hS hW dL_shelf_4 (fun H locs hW hS => ?_)
  refine lv_if_ne (tgt := 66) hx hb dL_shelf_7 (by decide) (fun c => absurd (by decide) c) (fun _ => ?_)
  refine lv_aload_n hx hb dL_shelf_10 rfl (lv_at hl 0 rfl) ?_
  refine lv_iconst (v := (0 : Int32)) hx hb dL_shelf_11 (by decide) ?_
  refine lv_bipush (v := (11 : Int32)) hx hb dL_shelf_12 (by decide) ?_
  refine lv_iconst (v := (5 : Int32)) hx hb dL_shelf_14 (by decide) ?_
  refine lv_iconst (v := (-1 : Int32)) hx hb dL_shelf_15 (by decide) ?_
  refine lv_iconst (v := (0 : Int32)) hx hb dL_shelf_16 (by decide) ?_
  refine kL_13R C hml hl.1 (c_X4_put hlf hc2) ⟨Nat.le_of_ble_eq_true rfl, Nat.le_of_ble_eq_true rfl⟩ ⟨by show _ ≤ 26; omega, by show _ ≤ 156; omega⟩ (Nat.le_of_ble_eq_true rfl) hS hW dL_shelf_17 (fun H locs hW hS => ?_)
  refine lv_if_ne (tgt := 66) hx hb dL_shelf_20 (by decide) (fun c => absurd (by decide) c) (fun _ => ?_)
  refine lv_aload_n hx hb dL_shelf_23 rfl (lv_at hl 0 rfl) ?_
  refine lv_iconst (v := (0 : Int32)) hx hb dL_shelf_24 (by decide) ?_
  refine lv_bipush (v := (12 : Int32)) hx hb dL_shelf_25 (by decide) ?_
  refine lv_iconst (v := (0 : Int32)) hx hb dL_shelf_27 (by decide) ?_
  refine kL_7R C hml hl.1 (c_X4_makeCollection hlf hc3) ⟨Nat.le_of_ble_eq_true rfl, Nat.le_of_ble_eq_true rfl⟩ ⟨by show _ ≤ 26; omega, by show _ ≤ 156; omega⟩ (Nat.le_of_ble_eq_true rfl) hS hW dL_shelf_28 (fun H locs hW hS => ?_)
  refine lv_if_ne (tgt := 66) hx hb dL_shelf_31 (by decide) (fun c => absurd (by decide) c) (fun _ => ?_)
  refine lv_aload_n hx hb dL_shelf_34 rfl (lv_at hl 0 rfl) ?_
  refine lv_iconst (v := (0 : Int32)) hx hb dL_shelf_35 (by decide) ?_
  refine lv_bipush (v := (121 : Int32)) hx hb dL_shelf_36 (by decide) ?_
  refine lv_bipush (v := (7 : Int32)) hx hb dL_shelf_38 (by decide) ?_
  refine lv_iconst (v := (-1 : Int32)) hx hb dL_shelf_40 (by decide) ?_
  refine lv_iconst (v := (0 : Int32)) hx hb dL_shelf_41 (by decide) ?_
  refine kL_13R C hml hl.1 (c_X4_put hlf hc4) ⟨Nat.le_of_ble_eq_true rfl, Nat.le_of_ble_eq_true rfl⟩ ⟨by show _ ≤ 26; omega, by show _ ≤ 156; omega⟩ (Nat.le_of_ble_eq_true rfl) hS hW dL_shelf_42 (fun H locs hW hS => ?_)
  refine lv_if_ne (tgt := 66) hx hb dL_shelf_45 (by decide) (fun c => absurd (by decide) c) (fun _ => ?_)
  refine lv_aload_n hx hb dL_shelf_48 rfl (lv_at hl 0 rfl) ?_
  refine lv_iconst (v := (0 : Int32)) hx hb dL_shelf_49 (by decide) ?_
  refine lv_bipush (v := (122 : Int32)) hx hb dL_shelf_50 (by decide) ?_
  refine lv_bipush (v := (8 : Int32)) hx hb dL_shelf_52 (by decide) ?_
  refine lv_iconst (v := (-1 : Int32)) hx hb dL_shelf_54 (by decide) ?_
  refine lv_iconst (v := (0 : Int32)) hx hb dL_shelf_55 (by decide) ?_
  refine kL_13R C hml hl.1 (c_X4_put hlf hc5) ⟨Nat.le_of_ble_eq_true rfl, Nat.le_of_ble_eq_true rfl⟩ ⟨by show _ ≤ 26; omega, by show _ ≤ 156; omega⟩ (Nat.le_of_ble_eq_true rfl) hS hW dL_shelf_56 (fun H locs hW hS => ?_)
  refine lv_if_ne (tgt := 66) hx hb dL_shelf_59 (by decide) (fun c => absurd (by decide) c) (fun _ => ?_)
  refine lv_iconst (v := (1 : Int32)) hx hb dL_shelf_62 (by decide) ?_
  refine lv_goto (tgt := 67) hx hb dL_shelf_63 (by decide) ?_
  exact ret_zN C hr hlk (by decide) hS hW dL_shelf_67 (by omega) (by omega)

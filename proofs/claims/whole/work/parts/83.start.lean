/-! ===== the law, from its entry ===== -/
theorem hfs5 : ∀ j, j < 20 → defaultValue (tyX5 j) = vp_V [.null, .null, .null, .null, .null, .int 0, .null, .null, .int 0, .int 0, .null, .null, .null, .null, .null, .int 0, .null, .null, .null, .int 0] j := fun j hj => by
  rcases (show j = 0 ∨ j = 1 ∨ j = 2 ∨ j = 3 ∨ j = 4 ∨ j = 5 ∨ j = 6 ∨ j = 7 ∨ j = 8 ∨ j = 9 ∨ j = 10 ∨ j = 11 ∨ j = 12 ∨ j = 13 ∨ j = 14 ∨ j = 15 ∨ j = 16 ∨ j = 17 ∨ j = 18 ∨ j = 19 by omega) with rfl | rfl | rfl | rfl | rfl | rfl | rfl | rfl | rfl | rfl | rfl | rfl | rfl | rfl | rfl | rfl | rfl | rfl | rfl | rfl <;> rfl
set_option maxHeartbeats 4000000 in
set_option maxRecDepth 100000 in
theorem whole_start {p : Program} {e : Env} {s : State} {m : MethodId} {below : List Frame} {meth : Method} {c : Code} (l : Launch) (hflags : l.flags = flags0) {b L : Nat} {xs : Nat → Int32} (hL : L ≤ 3584) (C0 : lw_At p s m meth c b L xs) : W p l e room_1 s m #[Value.ref b] below meth c s.heap [] 0 0 (lw_Z below #[Value.ref b] s) (entryFrame m ([Value.ref b] : List Value).toArray 7) := by
  obtain ⟨hx, hb, hr, hml, hown, hts, hX, hbl, hlk, hgv⟩ := id C0
  obtain ⟨Z, hE⟩ := ent_Evi hts hgv
  obtain ⟨b0, hbb⟩ : ∃ b0, b0 = s.heap.size := ⟨_, rfl⟩
  rw [← hbb] at hE
  have C : Cx p s m #[Value.ref b] c cL_law RL Z b0 := ⟨hx, hb, hown, fun w hw => hts w (wsA_tbl hw), hE.1⟩
  have hlf : l.stackTraces = false := by unfold Launch.stackTraces; rw [hflags]; decide
  have hP : Pw Z b0 0 (fun _ => mZ) s.heap := ⟨by omega, fun k q hq => by obtain ⟨hk, -⟩ := pwl_at hq; omega⟩
  have hz2 : s.vm.findClass ("[" ++ (newarray.typeOf .long).toString) = some (Z.2 2) := (C.2.2.2.2.1.2 2 _ rfl).2
  have hl := lv_entry [.ref b] (n := 7) (Nat.le_of_ble_eq_true rfl)
  rw [lg_entry_eq]
  generalize (lg_sl [.ref b] ++ List.replicate (7 - (lg_sl [.ref b]).length) Slot.unset).toArray = ls at hl ⊢
  have hl : lv_has ls 7 [(0, .ref b)] := hl
  refine nw_obj (ci := 4) (fs := [.null, .null, .null, .int 0]) (C := RX4) (T := TX4) (N := 4) hx hb C.2.2.2.1 inaX4 tyX4 tyX4_ok C.2.2.1 (C.2.2.2.1 _ q77) (C.2.2.2.1 _ q78) (C.2.2.2.1 _ q65) C.2.2.2.2.1 hP va_S.rf rfl (fun j hj => by rcases (show j = 0 ∨ j = 1 ∨ j = 2 ∨ j = 3 by omega) with rfl | rfl | rfl | rfl <;> rfl) (Nat.le_of_ble_eq_true rfl) (Nat.le_of_ble_eq_true rfl) dL_law_0 (fun H1 hP hS => ?_)
  refine lv_dup hx hb dL_law_3 rfl ?_
  refine cl_goI (va_runI (As := []) (b := b0 + 0) ⟨hx, hb, hml, C.2.2.1, C.2.2.2.1⟩ (c_X4_init (vup_s _ _ _)) (cwI 0 C.2.2.2.1 (gN q81) rfl rfl rfl (C.2.2.2.1 _ q65) (C.2.2.2.1 _ q79) (C.2.2.2.1 _ q80) rfl (by decide +kernel) ⟨Nat.le_of_ble_eq_true rfl, Nat.le_of_ble_eq_true rfl⟩) ⟨Prei.blind _ _ _ _ _, fun U hU hWU => ⟨rfl, hE.call hS hU hWU, by rw [hU]; exact hP⟩⟩ rfl rfl hl.1 rfl (lv_room (Nat.le_of_ble_eq_true rfl)) dL_law_4 ⟨Nat.le_of_ble_eq_true rfl, Nat.le_of_ble_eq_true rfl⟩) hS (fun H1 locs1 hP hS => ?_)
  refine lv_astore_n (lv' := [(1, .ref (b0 + 0)), (0, .ref b)]) hx hb dL_law_7 rfl hl (by decide) rfl (fun ls hl => ?_)
  refine nw_obj (ci := 5) (fs := [.null, .null, .null, .null, .null, .int 0, .null, .null, .int 0, .int 0, .null, .null, .null, .null, .null, .int 0, .null, .null, .null, .int 0]) (C := RX5) (T := TX5) (N := 20) hx hb C.2.2.2.1 inaX5 tyX5 tyX5_ok C.2.2.1 (C.2.2.2.1 _ q648) (C.2.2.2.1 _ q649) (C.2.2.2.1 _ q70) C.2.2.2.2.1 hP hS rfl hfs5 (Nat.le_of_ble_eq_true rfl) (Nat.le_of_ble_eq_true rfl) dL_law_8 (fun H1 hP hS => ?_)
  have hP : Pw Z b0 157 (vup (e4b Z b0) 156 mZ) H1 := hP
  refine lv_dup hx hb dL_law_11 rfl ?_
  refine cl_goI (va_runI (As := []) (b := b0 + 156) ⟨hx, hb, hml, C.2.2.1, C.2.2.2.1⟩ (c_X5_init (vup_s _ _ _)) (cwI 0 C.2.2.2.1 (gN q652) rfl rfl rfl (C.2.2.2.1 _ q70) (C.2.2.2.1 _ q650) (C.2.2.2.1 _ q651) rfl (by decide +kernel) ⟨Nat.le_of_ble_eq_true rfl, Nat.le_of_ble_eq_true rfl⟩) ⟨Prei.blind _ _ _ _ _, fun U hU hWU => ⟨rfl, hE.call hS hU hWU, by rw [hU]; exact hP⟩⟩ rfl rfl hl.1 rfl (lv_room (Nat.le_of_ble_eq_true rfl)) dL_law_12 ⟨Nat.le_of_ble_eq_true rfl, Nat.le_of_ble_eq_true rfl⟩) hS (fun H1 locs1 hP hS => ?_)
  refine lv_astore_n (lv' := [(2, .ref (b0 + 156)), (1, .ref (b0 + 0)), (0, .ref b)]) hx hb dL_law_15 rfl hl (by decide) rfl (fun ls hl => ?_)
  refine lv_iconst (v := (1 : Int32)) hx hb dL_law_16 (by decide) ?_
  refine nw_arr (atype := .long) (N' := 1) (a0 := (1, .inr (.inl (fun _ => 0)))) hx hb (C.2.2.2.1 _ q910) hz2 hP hS (fun _ => rfl) (by decide) (by decide) (by decide) (Nat.le_of_ble_eq_true rfl) (Nat.le_of_ble_eq_true rfl) dL_law_17 (fun H1 hP hS => ?_)
  have hW : Wd Z b0 M0 H1 := eZ_Wd hP
  refine lv_astore_n (lv' := [(3, .ref (b0 + 172)), (2, .ref (b0 + 156)), (1, .ref (b0 + 0)), (0, .ref b)]) hx hb dL_law_19 rfl hl (by decide) rfl (fun ls hl => ?_)
  refine lv_iconst (v := (0 : Int32)) hx hb dL_law_20 (by decide) ?_
  refine lv_istore (lv' := [(4, .int 0), (3, .ref (b0 + 172)), (2, .ref (b0 + 156)), (1, .ref (b0 + 0)), (0, .ref b)]) hx hb dL_law_21 hl (by decide) rfl (fun ls hl => ?_)
  obtain ⟨M', h⟩ := law_all (xs := xs) hL
  exact w_L_law_23 C hml hr hlk hlf hX hbl hbb 600 h hS hW (lv_sub hl [4, 3, 2, 1, 0] rfl) ⟨by omega, by omega⟩

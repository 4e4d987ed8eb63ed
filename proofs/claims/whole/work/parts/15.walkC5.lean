def f_X4_restore_0 (M : Mem) (x1 : Int32) (x2 : Int32) (x3 : Int32) (x4 : Int32) : Option ((String ⊕ Int32) × Mem) :=
  bdx (f_X4_requireClient M x1) (fun r1 M1 => bdx (f_X4_requirePath M1 x2) (fun r5 M5 => bdx (f_X4_requireNotNegative M5 x3) (fun r9 M9 => bdx (f_X4_requireNotNegative M9 x4) (fun r14 M14 => bd2 (f_X3_findFile M14 x2) (fun q22 M22 => oe q22 (some (.inr (1 : Int32), M22)) (fun k22 => if 60 ≤ k22 then none else bd2 (f_X2_hasVersion M22 k22 x3) (fun r35 M35 => if r35 = 0 then some (.inr (1 : Int32), M35) else bd2 (f_X1_allows M35 x1 x2 x4) (fun r51 M51 => if r51 = 0 then some (.inr (4 : Int32), M51) else bd1 (f_X2_takeVersion M51 k22 x3) (fun M62 => some (.inr (0 : Int32), M62))))))))))
set_option maxHeartbeats 4000000 in
set_option maxRecDepth 100000 in
theorem w_X4_restore_0 {p : Program} {l : Launch} {e : Env} {s : State} {m : MethodId} {args : Array Value} {below : List Frame} {meth : Method} {c : Code} {Z : Zt} {b : Nat} (C : Cx p s m args c cX4_restore RX4 Z b) (hml : c.maxLocals = 6) (hr : meth.sig.returnType = (some .int)) (hlk : meth.locks = false) (hlf : l.stackTraces = false) (ht : ∀ x ∈ c.exceptionTable.toList, False) {res : ((String ⊕ Int32) × Mem)} {M : Mem} {x1 : Int32} {x2 : Int32} {x3 : Int32} {x4 : Int32} (h : f_X4_restore_0 M x1 x2 x3 x4 = some res) {H : Heap} {locs : List Loc} {ls : Array Slot} (hS : va_S (A0 b) s.heap H locs) (hW : Wd Z b M H) (hl : lv_has ls 6 [(0, .ref (b + 0)), (1, .int x1), (2, .int x2), (3, .int x3), (4, .int x4)]) : W p l e rm_X4_restore s m args below meth c H locs 0 0 (vx_MQ below (Qx Z b (voI res.1) res.2) (XCx Z b (voI res.1) res.2) args s 4 24 (A0 b)) (F0 m 0 ls []) := by
  unfold f_X4_restore_0 at h
  have hx := C.1
  have hb := C.2.1
  refine lv_iload_n hx hb dX4_restore_0 rfl (lv_at hl 1 rfl) ?_
  rcases bdx_e h with ⟨E1, M1, hc1, rfl⟩ | ⟨r1, M1, hc1, h⟩
  · exact kX4_31T C hml hl.1 (c_X4_requireClient hlf hc1) ⟨Nat.le_of_ble_eq_true rfl, Nat.le_of_ble_eq_true rfl⟩ ⟨Nat.le_of_ble_eq_true rfl, Nat.le_of_ble_eq_true rfl⟩ (Nat.le_of_ble_eq_true rfl) hS hW dX4_restore_1 ht hlk (Nat.le_of_ble_eq_true rfl) (Nat.le_of_ble_eq_true rfl)
  refine kX4_31R C hml hl.1 (c_X4_requireClient hlf hc1) ⟨Nat.le_of_ble_eq_true rfl, Nat.le_of_ble_eq_true rfl⟩ ⟨Nat.le_of_ble_eq_true rfl, Nat.le_of_ble_eq_true rfl⟩ (Nat.le_of_ble_eq_true rfl) hS hW dX4_restore_1 (fun H locs hW hS => ?_)
  refine lv_iload_n hx hb dX4_restore_4 rfl (lv_at hl 2 rfl) ?_
  rcases bdx_e h with ⟨E5, M5, hc5, rfl⟩ | ⟨r5, M5, hc5, h⟩
  · exact kX4_123T C hml hl.1 (c_X4_requirePath hlf hc5) ⟨Nat.le_of_ble_eq_true rfl, Nat.le_of_ble_eq_true rfl⟩ ⟨Nat.le_of_ble_eq_true rfl, Nat.le_of_ble_eq_true rfl⟩ (Nat.le_of_ble_eq_true rfl) hS hW dX4_restore_5 ht hlk (Nat.le_of_ble_eq_true rfl) (Nat.le_of_ble_eq_true rfl)
  refine kX4_123R C hml hl.1 (c_X4_requirePath hlf hc5) ⟨Nat.le_of_ble_eq_true rfl, Nat.le_of_ble_eq_true rfl⟩ ⟨Nat.le_of_ble_eq_true rfl, Nat.le_of_ble_eq_true rfl⟩ (Nat.le_of_ble_eq_true rfl) hS hW dX4_restore_5 (fun H locs hW hS => ?_)
  refine lv_iload_n hx hb dX4_restore_8 rfl (lv_at hl 3 rfl) ?_
  rcases bdx_e h with ⟨E9, M9, hc9, rfl⟩ | ⟨r9, M9, hc9, h⟩
  · exact kX4_38T C hml hl.1 (c_X4_requireNotNegative hlf hc9) ⟨Nat.le_of_ble_eq_true rfl, Nat.le_of_ble_eq_true rfl⟩ ⟨Nat.le_of_ble_eq_true rfl, Nat.le_of_ble_eq_true rfl⟩ (Nat.le_of_ble_eq_true rfl) hS hW dX4_restore_9 ht hlk (Nat.le_of_ble_eq_true rfl) (Nat.le_of_ble_eq_true rfl)
  refine kX4_38R C hml hl.1 (c_X4_requireNotNegative hlf hc9) ⟨Nat.le_of_ble_eq_true rfl, Nat.le_of_ble_eq_true rfl⟩ ⟨Nat.le_of_ble_eq_true rfl, Nat.le_of_ble_eq_true rfl⟩ (Nat.le_of_ble_eq_true rfl) hS hW dX4_restore_9 (fun H locs hW hS => ?_)
  refine lv_iload hx hb dX4_restore_12 (lv_at hl 4 rfl) ?_
  rcases bdx_e h with ⟨E14, M14, hc14, rfl⟩ | ⟨r14, M14, hc14, h⟩
  · exact kX4_38T C hml hl.1 (c_X4_requireNotNegative hlf hc14) ⟨Nat.le_of_ble_eq_true rfl, Nat.le_of_ble_eq_true rfl⟩ ⟨Nat.le_of_ble_eq_true rfl, Nat.le_of_ble_eq_true rfl⟩ (Nat.le_of_ble_eq_true rfl) hS hW dX4_restore_14 ht hlk (Nat.le_of_ble_eq_true rfl) (Nat.le_of_ble_eq_true rfl)
  refine kX4_38R C hml hl.1 (c_X4_requireNotNegative hlf hc14) ⟨Nat.le_of_ble_eq_true rfl, Nat.le_of_ble_eq_true rfl⟩ ⟨Nat.le_of_ble_eq_true rfl, Nat.le_of_ble_eq_true rfl⟩ (Nat.le_of_ble_eq_true rfl) hS hW dX4_restore_14 (fun H locs hW hS => ?_)
  refine lv_aload_n hx hb dX4_restore_17 rfl (lv_at hl 0 rfl) ?_
  refine gX4_10 C hW dX4_restore_18 ?_
  refine lv_iload_n hx hb dX4_restore_21 rfl (lv_at hl 2 rfl) ?_
  obtain ⟨q22, M22, hc22, h⟩ := bd2_e h
  refine kX4_129 C hml hl.1 (c_X3_findFile hc22) ⟨Nat.le_of_ble_eq_true rfl, Nat.le_of_ble_eq_true rfl⟩ ⟨Nat.le_of_ble_eq_true rfl, Nat.le_of_ble_eq_true rfl⟩ (Nat.le_of_ble_eq_true rfl) hS hW dX4_restore_22 (fun H locs hW hS => ?_)
  rcases q22 with _ | k22
  · have h := oe_n h
    refine W.eq (g2 := F0 m 25 ls [.null]) rfl ?_
    refine lv_astoreN (lv' := [(5, .null), (0, .ref (b + 0)), (1, .int x1), (2, .int x2), (3, .int x3), (4, .int x4)]) hx hb dX4_restore_25 hl (by decide) rfl (fun ls hl => ?_)
    refine lv_aloadN hx hb dX4_restore_27 (lv_at hl 0 rfl) ?_
    refine lv_ifnullN (tgt := 41) hx hb dX4_restore_29 (by decide) ?_
    refine lv_iconst (v := (1 : Int32)) hx hb dX4_restore_41 (by decide) ?_
    cases h
    exact ret_xi C hr hlk hS hW dX4_restore_42 (Nat.le_of_ble_eq_true rfl) (Nat.le_of_ble_eq_true rfl)
  · obtain ⟨g22, h⟩ := gd (oe_s h)
    have hk22 := Nat.lt_of_not_le g22
    refine W.eq (g2 := F0 m 25 ls [.ref (b + (3 + 2 * k22))]) rfl ?_
    refine lv_astore (lv' := [(5, .ref (b + (3 + 2 * k22))), (0, .ref (b + 0)), (1, .int x1), (2, .int x2), (3, .int x3), (4, .int x4)]) hx hb dX4_restore_25 hl (by decide) rfl (fun ls hl => ?_)
    refine lv_aload hx hb dX4_restore_27 (lv_at hl 0 rfl) ?_
    refine lv_ifnull hx hb dX4_restore_29 ?_
    refine lv_aload hx hb dX4_restore_32 (lv_at hl 0 rfl) ?_
    refine lv_iload_n hx hb dX4_restore_34 rfl (lv_at hl 4 rfl) ?_
    obtain ⟨r35, M35, hc35, h⟩ := bd2_e h
    refine kX4_212 hk22 C hml hl.1 (c_X2_hasVersion hk22 hc35) ⟨Nat.le_of_ble_eq_true rfl, Nat.le_of_ble_eq_true rfl⟩ ⟨Nat.le_of_ble_eq_true rfl, Nat.le_of_ble_eq_true rfl⟩ (Nat.le_of_ble_eq_true rfl) hS hW dX4_restore_35 (fun H locs hW hS => ?_)
    refine lv_if_ne (tgt := 43) hx hb dX4_restore_38 (by decide) (fun c38 => ?_) (fun c38 => ?_)
    · have h := (if_neg c38).symm.trans h
      refine lv_aload_n hx hb dX4_restore_43 rfl (lv_at hl 1 rfl) ?_
      refine gX4_19 C hW dX4_restore_44 ?_
      refine lv_iload_n hx hb dX4_restore_47 rfl (lv_at hl 2 rfl) ?_
      refine lv_iload_n hx hb dX4_restore_48 rfl (lv_at hl 3 rfl) ?_
      refine lv_iload hx hb dX4_restore_49 (lv_at hl 5 rfl) ?_
      obtain ⟨r51, M51, hc51, h⟩ := bd2_e h
      refine kX4_111 C hml hl.1 (c_X1_allows hc51) ⟨Nat.le_of_ble_eq_true rfl, Nat.le_of_ble_eq_true rfl⟩ ⟨Nat.le_of_ble_eq_true rfl, Nat.le_of_ble_eq_true rfl⟩ (Nat.le_of_ble_eq_true rfl) hS hW dX4_restore_51 (fun H locs hW hS => ?_)
      refine lv_if_ne (tgt := 59) hx hb dX4_restore_54 (by decide) (fun c54 => ?_) (fun c54 => ?_)
      · have h := (if_neg c54).symm.trans h
        refine lv_aload hx hb dX4_restore_59 (lv_at hl 0 rfl) ?_
        refine lv_iload_n hx hb dX4_restore_61 rfl (lv_at hl 4 rfl) ?_
        obtain ⟨M62, hc62, h⟩ := bd1_e h
        refine kX4_215 hk22 C hml hl.1 (c_X2_takeVersion hk22 hc62) ⟨Nat.le_of_ble_eq_true rfl, Nat.le_of_ble_eq_true rfl⟩ ⟨Nat.le_of_ble_eq_true rfl, Nat.le_of_ble_eq_true rfl⟩ (Nat.le_of_ble_eq_true rfl) hS hW dX4_restore_62 (fun H locs hW hS => ?_)
        refine lv_iconst (v := (0 : Int32)) hx hb dX4_restore_65 (by decide) ?_
        cases h
        exact ret_xi C hr hlk hS hW dX4_restore_66 (Nat.le_of_ble_eq_true rfl) (Nat.le_of_ble_eq_true rfl)
      · have h := (if_pos c54).symm.trans h
        refine lv_iconst (v := (4 : Int32)) hx hb dX4_restore_57 (by decide) ?_
        cases h
        exact ret_xi C hr hlk hS hW dX4_restore_58 (Nat.le_of_ble_eq_true rfl) (Nat.le_of_ble_eq_true rfl)
    · have h := (if_pos c38).symm.trans h
      refine lv_iconst (v := (1 : Int32)) hx hb dX4_restore_41 (by decide) ?_
      cases h
      exact ret_xi C hr hlk hS hW dX4_restore_42 (Nat.le_of_ble_eq_true rfl) (Nat.le_of_ble_eq_true rfl)
def f_X4_restore (M : Mem) (x1 : Int32) (x2 : Int32) (x3 : Int32) (x4 : Int32) : Option ((String ⊕ Int32) × Mem) := f_X4_restore_0 M x1 x2 x3 x4
set_option maxHeartbeats 4000000 in
set_option maxRecDepth 100000 in
theorem c_X4_restore {l : Launch} {Z : Zt} {b : Nat} (hlf : l.stackTraces = false) {M : Mem} {x1 : Int32} {x2 : Int32} {x3 : Int32} {x4 : Int32} {res : ((String ⊕ Int32) × Mem)} (h : f_X4_restore M x1 x2 x3 x4 = some res) : Cx' l yX4_restore cX4_restore 6 (some .int) rm_X4_restore 4 24 Z b [.ref (b + 0), .int x1, .int x2, .int x3, .int x4] M (voI res.1) res.2 := by
  refine vx_ofW (cc := cX4_restore) (maxL := 6) (ret := (some .int)) (by decide) rfl ?_
  intro p e s m args below meth c s₁ B hml ht hv
  obtain ⟨rfl, hE, hW⟩ := hv
  have C : Cx p s m [.ref (b + 0), .int x1, .int x2, .int x3, .int x4].toArray c cX4_restore RX4 Z b := ⟨B.exec, B.bytes, findClass_of_methodNamed B.named, fun w hw => atoms_spec (ws := Cond.code yX4_restore cX4_restore 6 (some .int) :: wsA) B.pre w (List.mem_cons_of_mem _ hw), hE⟩
  have hl := lv_entry [.ref (b + 0), .int x1, .int x2, .int x3, .int x4] (n := 6) (Nat.le_of_ble_eq_true rfl)
  rw [lg_entry_eq]
  generalize (lg_sl [.ref (b + 0), .int x1, .int x2, .int x3, .int x4] ++ List.replicate (6 - (lg_sl [.ref (b + 0), .int x1, .int x2, .int x3, .int x4]).length) Slot.unset).toArray = ls at hl ⊢
  have hl : lv_has ls 6 [(0, .ref (b + 0)), (1, .int x1), (2, .int x2), (3, .int x3), (4, .int x4)] := hl
  exact w_X4_restore_0 C hml B.returns B.notSynchronized hlf ht h va_S.rf hW hl

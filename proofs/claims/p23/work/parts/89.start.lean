/-! ===== the law, from its entry ===== -/
theorem vx_Zq_mono {C D : String} {n : String} {b b' : Nat} {s : State} {H : Heap} (hb : b ≤ b') (h : vx_Zq C n D (A0 b) s H) : vx_Zq C n D (A0 b') s H := h.narrow (fun q hq => Nat.le_trans hb hq)
theorem Ev_mono {Z : Zt} {b b' : Nat} {s : State} (hb : b ≤ b') (h : Ev Z b s) : Ev Z b' s := ⟨h.1, h.2.1, h.2.2.1, vx_Zq_mono hb h.2.2.2.1, vx_Zq_mono hb h.2.2.2.2.1, h.2.2.2.2.2⟩
theorem Evi_mono {Z : Zt} {b b' : Nat} {s : State} (hb : b ≤ b') (h : Evi Z b s) : Evi Z b' s := ⟨Ev_mono hb h.1, h.2⟩
section LINKT
variable {own : String} {p : Program} {l : Launch} {e : Env} {R : Room} {s : State} {m : MethodId} {args : Array Value} {below : List Frame} {meth : Method} {c : Code} {H : Heap} {locs : List Loc} {cells slots : Nat} {Q : State → Prop} {cc : ByteArray} {pc : Nat} {ls : Array Slot} {rest : List Value} {Z : Zt} {b : Nat} {M : Mem}
/-- a call of one that makes its own server -/
theorem cl_goT {st0 : List Value} {a : Array Value} {mc ms : Nat} (hr : va_Run p l e R s m args below meth c H locs cells slots mc ms (F0 m pc ls st0) rest (QT b a) (A0 b)) (hS : va_S (A0 b) s.heap H locs)
    (kk : ∀ (H1 : Heap) (locs1 : List Loc), H.size ≤ H1.size → va_S (A0 b) s.heap H1 locs1 → W p l e R s m args below meth c H1 locs1 (cells + mc) (slots + ms) Q (F0 m (pc + 3) ls (.int 1 :: rest))) : W p l e R s m args below meth c H locs cells slots Q (F0 m pc ls st0) := by
  intro T hT X
  obtain ⟨v', st₀, t, T', L, h0, X', hL, e1, e2, ⟨hv, hz, hk⟩, st⟩ := hr T hT X
  cases hv
  rw [h0] at hz hk
  obtain ⟨t2, a1, b1⟩ := kk T'.heap (locs ++ L) (by rw [e1]; exact hz) ⟨Nat.le_trans hS.1 (by rw [e1]; exact hz), fun q h1 h2 => by rw [e1, hk q (Nat.lt_of_lt_of_le h1 hS.1) h2]; exact hS.2.1 q h1 h2, fun q hq => by
      rcases List.mem_append.mp hq with h | h
      · exact hS.2.2 q h
      · exact hL q h⟩ T' rfl X'
  exact ⟨t2, st t2 a1, b1⟩
theorem kL_102 {nL : Nat} (C : Cx p s m args c cc RL Z b) (hEi : Evi Z b s) (hbs : H.size = b) (hlf : l.stackTraces = false) (hml : c.maxLocals = nL) (hsz : ls.size = nL) (hR : rm_L_trees.frames + 1 ≤ R.frames ∧ 8 + (1 + 11) + rm_L_trees.locals ≤ R.locals) (hc : cells + 5618 ≤ R.cells ∧ slots + 34041 ≤ R.slots) (hroom : (rest.map fun v => v.category).sum ≤ 8) (hS : va_S (A0 b) s.heap H locs) (hdg : decode cc pc = .ok (.invokestatic 102, 3))
    (kk : ∀ (H1 : Heap) (locs1 : List Loc), H.size ≤ H1.size → va_S (A0 b) s.heap H1 locs1 → W p l e R s m args below meth c H1 locs1 (cells + 5618) (slots + 34041) Q (F0 m (pc + 3) ls (.int 1 :: rest))) : W p l e R s m args below meth c H locs cells slots Q (F0 m pc ls rest) :=
  cl_goT (va_runS (As := []) ⟨C.1, C.2.1, hml, C.2.2.1, C.2.2.2.1⟩ (c_L_trees hlf (Z := Z) (b := b)) (cwS 0 C.2.2.2.1 (gS q578 q579 q42 q580) rfl rfl rfl (by decide +kernel) hR) ⟨PrT.blind _ _ _, fun U hU hWU => ⟨rfl, hEi.call hS hU hWU, by rw [hU]; exact hbs⟩⟩ rfl rfl hsz rfl (lv_room hroom) hdg hc) hS kk
theorem kL_106 {nL : Nat} (C : Cx p s m args c cc RL Z b) (hEi : Evi Z b s) (hbs : H.size = b) (hlf : l.stackTraces = false) (hml : c.maxLocals = nL) (hsz : ls.size = nL) (hR : rm_L_locks.frames + 1 ≤ R.frames ∧ 8 + (1 + 11) + rm_L_locks.locals ≤ R.locals) (hc : cells + 5662 ≤ R.cells ∧ slots + 34305 ≤ R.slots) (hroom : (rest.map fun v => v.category).sum ≤ 8) (hS : va_S (A0 b) s.heap H locs) (hdg : decode cc pc = .ok (.invokestatic 106, 3))
    (kk : ∀ (H1 : Heap) (locs1 : List Loc), H.size ≤ H1.size → va_S (A0 b) s.heap H1 locs1 → W p l e R s m args below meth c H1 locs1 (cells + 5662) (slots + 34305) Q (F0 m (pc + 3) ls (.int 1 :: rest))) : W p l e R s m args below meth c H locs cells slots Q (F0 m pc ls rest) :=
  cl_goT (va_runS (As := []) ⟨C.1, C.2.1, hml, C.2.2.1, C.2.2.2.1⟩ (c_L_locks hlf (Z := Z) (b := b)) (cwS 0 C.2.2.2.1 (gS q584 q585 q42 q586) rfl rfl rfl (by decide +kernel) hR) ⟨PrT.blind _ _ _, fun U hU hWU => ⟨rfl, hEi.call hS hU hWU, by rw [hU]; exact hbs⟩⟩ rfl rfl hsz rfl (lv_room hroom) hdg hc) hS kk
theorem kL_109 {nL : Nat} (C : Cx p s m args c cc RL Z b) (hEi : Evi Z b s) (hbs : H.size = b) (hlf : l.stackTraces = false) (hml : c.maxLocals = nL) (hsz : ls.size = nL) (hR : rm_L_partly.frames + 1 ≤ R.frames ∧ 8 + (2 + 11) + rm_L_partly.locals ≤ R.locals) (hc : cells + 4189 ≤ R.cells ∧ slots + 25467 ≤ R.slots) (hroom : (rest.map fun v => v.category).sum ≤ 8) (hS : va_S (A0 b) s.heap H locs) (hdg : decode cc pc = .ok (.invokestatic 109, 3))
    (kk : ∀ (H1 : Heap) (locs1 : List Loc), H.size ≤ H1.size → va_S (A0 b) s.heap H1 locs1 → W p l e R s m args below meth c H1 locs1 (cells + 4189) (slots + 25467) Q (F0 m (pc + 3) ls (.int 1 :: rest))) : W p l e R s m args below meth c H locs cells slots Q (F0 m pc ls rest) :=
  cl_goT (va_runS (As := []) ⟨C.1, C.2.1, hml, C.2.2.1, C.2.2.2.1⟩ (c_L_partly hlf (Z := Z) (b := b)) (cwS 0 C.2.2.2.1 (gS q590 q591 q42 q592) rfl rfl rfl (by decide +kernel) hR) ⟨PrT.blind _ _ _, fun U hU hWU => ⟨rfl, hEi.call hS hU hWU, by rw [hU]; exact hbs⟩⟩ rfl rfl hsz rfl (lv_room hroom) hdg hc) hS kk
end LINKT
set_option maxHeartbeats 4000000 in
set_option maxRecDepth 100000 in
theorem whole_start {p : Program} {e : Env} {s : State} {m : MethodId} {below : List Frame} {meth : Method} {c : Code} (l : Launch) (hflags : l.flags = flags0) {b L : Nat} {xs : Nat → Int32} (hL : L ≤ 260) (C0 : lw_At p s m meth c b L xs) : W p l e room_1 s m #[Value.ref b] below meth c s.heap [] 0 0 (lw_Z below #[Value.ref b] s) (entryFrame m ([Value.ref b] : List Value).toArray 7) := by
  obtain ⟨hx, hb, hr, hml, hown, hts, hX, hbl, hlk, hgv⟩ := id C0
  obtain ⟨Z, hE⟩ := ent_Evi hts hgv
  have CC : ∀ b0, s.heap.size ≤ b0 → Cx p s m #[Value.ref b] c cL_law RL Z b0 := fun b0 h0 => ⟨hx, hb, hown, fun w hw => hts w (wsA_tbl hw), Ev_mono h0 hE.1⟩
  have hlf : l.stackTraces = false := by unfold Launch.stackTraces; rw [hflags]; decide
  have hl := lv_entry [.ref b] (n := 7) (Nat.le_of_ble_eq_true rfl)
  rw [lg_entry_eq]
  generalize (lg_sl [.ref b] ++ List.replicate (7 - (lg_sl [.ref b]).length) Slot.unset).toArray = ls at hl ⊢
  have hl : lv_has ls 7 [(0, .ref b)] := hl
  have fresh : ∀ (b0 : Nat) (H1 : Heap) (locs1 : List Loc), s.heap.size ≤ b0 → va_S (A0 b0) s.heap H1 locs1 → va_S (A0 H1.size) s.heap H1 [] ∧ ∀ q ∈ locs1, s.heap.size ≤ q.base := fun b0 H1 locs1 h0 hS =>
    ⟨⟨hS.1, fun q h1 _ => hS.2.1 q h1 (by unfold A0; omega), fun q hq => by simp at hq⟩, fun q hq => by have := hS.2.2 q hq; unfold A0 at this; omega⟩
  have hS0 : va_S (A0 s.heap.size) s.heap s.heap [] := va_S.rf
  refine kL_102 (CC _ (Nat.le_refl _)) (Evi_mono (Nat.le_refl _) hE) rfl hlf hml hl.1 ⟨Nat.le_of_ble_eq_true rfl, Nat.le_of_ble_eq_true rfl⟩ ⟨by show _ ≤ 667928; omega, by show _ ≤ 7097987; omega⟩ (Nat.le_of_ble_eq_true rfl) hS0 dL_law_0 (fun H1 locs1 z1 hS1 => ?_)
  refine lv_if_eq (tgt := 18) hx hb dL_law_3 (by decide) (fun c => absurd c (by decide)) (fun _ => ?_)
  have w1 : s.heap.size ≤ H1.size := hS1.1
  obtain ⟨hT1, hf1⟩ := fresh _ H1 locs1 (Nat.le_refl _) hS1
  refine va_forget hf1 ?_
  refine kL_106 (CC _ w1) (Evi_mono w1 hE) rfl hlf hml hl.1 ⟨Nat.le_of_ble_eq_true rfl, Nat.le_of_ble_eq_true rfl⟩ ⟨by show _ ≤ 667928; omega, by show _ ≤ 7097987; omega⟩ (Nat.le_of_ble_eq_true rfl) hT1 dL_law_6 (fun H2 locs2 z2 hS2 => ?_)
  refine lv_if_eq (tgt := 18) hx hb dL_law_9 (by decide) (fun c => absurd c (by decide)) (fun _ => ?_)
  have w2 : s.heap.size ≤ H2.size := hS2.1
  obtain ⟨hT2, hf2⟩ := fresh _ H2 locs2 w1 hS2
  refine va_forget hf2 ?_
  refine kL_109 (CC _ w2) (Evi_mono w2 hE) rfl hlf hml hl.1 ⟨Nat.le_of_ble_eq_true rfl, Nat.le_of_ble_eq_true rfl⟩ ⟨by show _ ≤ 667928; omega, by show _ ≤ 7097987; omega⟩ (Nat.le_of_ble_eq_true rfl) hT2 dL_law_12 (fun H3 locs3 z3 hS3 => ?_)
  refine lv_if_ne (tgt := 20) hx hb dL_law_15 (by decide) (fun _ => ?_) (fun c => absurd c (by decide))
  have w3 : s.heap.size ≤ H3.size := hS3.1
  obtain ⟨hT3, hf3⟩ := fresh _ H3 locs3 w2 hS3
  refine va_forget hf3 ?_
  obtain ⟨b0, hbb⟩ : ∃ b0, b0 = H3.size := ⟨_, rfl⟩
  rw [← hbb] at hT3 w3
  have C := CC b0 w3
  have hEi := Evi_mono w3 hE
  have hP : Pw Z b0 0 (fun _ => srv .null .null .null) H3 := ⟨by omega, fun k q hq => by obtain ⟨hk, -⟩ := pwl_at hq; omega⟩
  refine nw_obj (ci := 4) (fs := [.null, .null, .null, .int 0]) (C := RX4) (T := TX4) (N := 4) hx hb C.2.2.2.1 inaX4 tyX4 tyX4_ok C.2.2.1 (C.2.2.2.1 _ q54) (C.2.2.2.1 _ q55) (C.2.2.2.1 _ q43) C.2.2.2.2.1 hP hT3 rfl (fun j hj => by rcases (show j = 0 ∨ j = 1 ∨ j = 2 ∨ j = 3 by omega) with rfl | rfl | rfl | rfl <;> rfl) (by show _ ≤ 667928; omega) (by show _ ≤ 7097987; omega) dL_law_20 (fun H4 hP hS => ?_)
  refine lv_dup hx hb dL_law_23 rfl ?_
  refine cl_goI (va_runI (As := []) (b := b0 + 0) ⟨hx, hb, hml, C.2.2.1, C.2.2.2.1⟩ (c_X4_init (vup_s _ _ _)) (cwI 0 C.2.2.2.1 (gN q58) rfl rfl rfl (C.2.2.2.1 _ q43) (C.2.2.2.1 _ q56) (C.2.2.2.1 _ q57) rfl (by decide +kernel) ⟨Nat.le_of_ble_eq_true rfl, Nat.le_of_ble_eq_true rfl⟩) ⟨Prei.blind _ _ _ _ _, fun U hU hWU => ⟨rfl, hEi.call hS hU hWU, by rw [hU]; exact hP⟩⟩ rfl rfl hl.1 rfl (lv_room (Nat.le_of_ble_eq_true rfl)) dL_law_24 ⟨by show _ ≤ 667928; omega, by show _ ≤ 7097987; omega⟩) hS (fun H1 locs hP hS => ?_)
  refine lv_astore_n (lv' := [(1, .ref (b0 + 0)), (0, .ref b)]) hx hb dL_law_27 rfl hl (by decide) rfl (fun ls hl => ?_)
  have hW : Wd Z b0 M0 H1 := eZ_Wd hP
  refine lv_iconst (v := (0 : Int32)) hx hb dL_law_28 (by decide) ?_
  refine lv_istore_n (lv' := [(2, .int 0), (1, .ref (b0 + 0)), (0, .ref b)]) hx hb dL_law_29 rfl hl (by decide) rfl (fun ls hl => ?_)
  obtain ⟨M', h⟩ := law_all (xs := xs) hL
  exact w_L_law_30 C hml hr hlk hlf hX hbl w3 31 h hS hW (lv_sub hl [2, 1, 0] rfl) ⟨by omega, by omega⟩

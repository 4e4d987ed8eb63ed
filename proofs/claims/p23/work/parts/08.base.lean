def bd1 {β : Type} (x : Option Mem) (k : Mem → Option β) : Option β := x.bind k
def bd2 {α β : Type} (x : Option (α × Mem)) (k : α → Mem → Option β) : Option β := x.bind fun q => k q.1 q.2
def bdx {α β : Type} (x : Option ((String ⊕ α) × Mem)) (k : α → Mem → Option ((String ⊕ β) × Mem)) : Option ((String ⊕ β) × Mem) := x.bind fun q => q.1.elim (fun E => some (.inl E, q.2)) (fun r => k r q.2)
def oe {β : Type} (z : Option Nat) (a : Option β) (f : Nat → Option β) : Option β := z.elim a f
theorem bd1_e {β : Type} {x : Option Mem} {k : Mem → Option β} {r : β} (h : bd1 x k = some r) : ∃ M, x = some M ∧ k M = some r := by
  cases x with
  | none => cases h
  | some M => exact ⟨M, rfl, h⟩
theorem bd2_e {α β : Type} {x : Option (α × Mem)} {k : α → Mem → Option β} {r : β} (h : bd2 x k = some r) : ∃ a M, x = some (a, M) ∧ k a M = some r := by
  cases x with
  | none => cases h
  | some q => exact ⟨q.1, q.2, rfl, h⟩
theorem bdx_e {α β : Type} {x : Option ((String ⊕ α) × Mem)} {k : α → Mem → Option ((String ⊕ β) × Mem)} {r : (String ⊕ β) × Mem} (h : bdx x k = some r) : (∃ E M, x = some (.inl E, M) ∧ r = (.inl E, M)) ∨ ∃ a M, x = some (.inr a, M) ∧ k a M = some r := by
  cases x with
  | none => cases h
  | some q =>
    obtain ⟨E | a, M⟩ := q
    · exact Or.inl ⟨E, M, rfl, (Option.some.inj h).symm⟩
    · exact Or.inr ⟨a, M, rfl, h⟩
theorem oe_n {β : Type} {a : Option β} {f : Nat → Option β} {r : Option β} (h : oe none a f = r) : a = r := h
theorem oe_s {β : Type} {a : Option β} {f : Nat → Option β} {k : Nat} {r : Option β} (h : oe (some k) a f = r) : f k = r := h
theorem gd {β : Type} {c : Prop} {d : Decidable c} {a : Option β} {r : β} (h : (if c then none else a) = some r) : ¬ c ∧ a = some r := by
  by_cases q : c
  · rw [if_pos q] at h; cases h
  · rw [if_neg q] at h; exact ⟨q, h⟩
theorem gdp {β : Type} {c : Prop} {d : Decidable c} {a : Option β} {r : β} (h : (if c then a else none) = some r) : c ∧ a = some r := by
  by_cases q : c
  · rw [if_pos q] at h; exact ⟨q, h⟩
  · rw [if_neg q] at h; cases h
def voI (o : String ⊕ Int32) : String ⊕ Option Value := match o with | .inl E => .inl E | .inr r => .inr (some (.int r))
def voU (o : String ⊕ Unit) : String ⊕ Option Value := match o with | .inl E => .inl E | .inr _ => .inr none
theorem rR_or (b : Nat) (z : Option Nat) : rR b z = .null ∨ ∃ a, rR b z = .ref a := by
  cases z with
  | none => exact Or.inl rfl
  | some k => exact Or.inr ⟨_, rfl⟩
theorem rL_or (b : Nat) (z : Option Nat) : rL b z = .null ∨ ∃ a, rL b z = .ref a := by
  cases z with
  | none => exact Or.inl rfl
  | some k => exact Or.inr ⟨_, rfl⟩
section RX
variable {p : Program} {l : Launch} {e : Env} {R : Room} {s : State} {m : MethodId} {args : Array Value} {below : List Frame} {meth : Method} {c : Code} {H : Heap} {locs : List Loc} {cells slots : Nat} {cc : ByteArray} {pc : Nat} {ls : Array Slot} {Z : Zt} {b : Nat} {M : Mem} {own : String} {mc ms : Nat}
theorem ret_xi {v : Int32} (C : Cx p s m args c cc own Z b) (hr : meth.sig.returnType = some .int) (hlk : meth.locks = false) (hS : va_S (A0 b) s.heap H locs) (hW : Wd Z b M H) (hdg : decode cc pc = .ok (.ireturn, 1)) (h1 : cells ≤ mc) (h2 : slots ≤ ms) : W p l e R s m args below meth c H locs cells slots (vx_MQ below (Qx Z b (.inr (some (.int v))) M) (XCx Z b (.inr (some (.int v))) M) args s mc ms (A0 b)) (F0 m pc ls [.int v]) :=
  W.widen (k := mc) (n := ms) h1 h2 (vx_ret (W.iret C.1 C.2.1 hr (fun t ht _ => ⟨⟨_, rfl, rfl, by rw [ht]; exact hW⟩, hS.F ht⟩) hS.2.2 hdg hlk))
theorem ret_xz {v : Int32} (C : Cx p s m args c cc own Z b) (hr : meth.sig.returnType = some .boolean) (hlk : meth.locks = false) (hn : v &&& 1 = v) (hS : va_S (A0 b) s.heap H locs) (hW : Wd Z b M H) (hdg : decode cc pc = .ok (.ireturn, 1)) (h1 : cells ≤ mc) (h2 : slots ≤ ms) : W p l e R s m args below meth c H locs cells slots (vx_MQ below (Qx Z b (.inr (some (.int v))) M) (XCx Z b (.inr (some (.int v))) M) args s mc ms (A0 b)) (F0 m pc ls [.int v]) :=
  W.widen (k := mc) (n := ms) h1 h2 (vx_ret (W.zret C.1 C.2.1 hr (by rw [show narrow .boolean (.int v) = .int (v &&& 1) from rfl, hn]) (fun t ht _ => ⟨⟨_, rfl, rfl, by rw [ht]; exact hW⟩, hS.F ht⟩) hS.2.2 hdg hlk))
theorem ret_xv (C : Cx p s m args c cc own Z b) (hr : meth.sig.returnType = none) (hlk : meth.locks = false) (hS : va_S (A0 b) s.heap H locs) (hW : Wd Z b M H) (hdg : decode cc pc = .ok (.return_, 1)) (h1 : cells ≤ mc) (h2 : slots ≤ ms) : W p l e R s m args below meth c H locs cells slots (vx_MQ below (Qx Z b (.inr none) M) (XCx Z b (.inr none) M) args s mc ms (A0 b)) (F0 m pc ls []) :=
  W.widen (k := mc) (n := ms) h1 h2 (vx_ret (W.vret C.1 C.2.1 hr (fun t ht _ => ⟨⟨_, rfl, rfl, by rw [ht]; exact hW⟩, hS.F ht⟩) hS.2.2 hdg hlk))
end RX

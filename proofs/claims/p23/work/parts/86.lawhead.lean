-- ===== end of PART A; then your names; then what follows =====
/-! THE CLAIM OUT OF ONE WALK OF THE LAW'S BODY. Your part is whole_start (and what it stands on); all else here is the same for every law, but numbers. -/
def R_law : String := "ShelfServerLaw"
def lw_P (b : Addr) (xs : List Int32) (args : Array Value) (s : State) : Prop := args = #[.ref b] ∧ s.IntsAt b xs ∧ xs.length ≤ 260 ∧ (Jvm.Cond.and given_1 narrow_1).before args s = true
def lw_Q (_ : Array Value) (s : State) (o : Outcome) (t : State) : Prop := o = .returned (some (.int 1)) ∧ Framed s o t [] 667928 7097987
def lw_Z (below : List Frame) (a : Array Value) (s : State) : State → Prop := fun t => ∃ o, t.status = .running ∧ Ended t below o ∧ lw_Q a s o t
/-- the law's own end, with 1 on the stack, nothing written that was there before, its room as the claim has it -/
theorem lw_ret {p : Program} {l : Launch} {e : Env} {s : State} {m : MethodId} {below : List Frame} {meth : Method} {c : Code} {b : Nat} (hx : p.tables.exec = Jvm.exec) (hb : c.code = code) (hr : meth.sig.returnType = ret) (hlocks : meth.locks = false) {pc : Nat} {H : Heap} {ls : Array Slot} (hdg : decode code pc = .ok (.ireturn, 1)) : W p l e room_1 s m #[Value.ref b] below meth c H [] 667928 7097987 (lw_Z below #[Value.ref b] s) (F0 m pc ls [.int 1]) := by
  intro T hT X
  obtain ⟨fs, hret, hrun, hended, hW, hframe⟩ := X.leave (v := some (.int 1)) (hlocks := hlocks) (fun h => by rw [hr] at h; cases h)
  have hmeth' : T.vm.method? m = some meth := X.method'
  refine ⟨T.setFrames fs, ?_, .returned (some (.int 1)), hrun, hended, rfl, ⟨_, rfl⟩, hW, hframe⟩
  jvm_step X.here [X.here.top, hx, hb, hdg, hmeth', hr, ret, narrow_b1]
  (try refine ⟨rfl, ?_⟩); (try refine ⟨rfl, ?_⟩)
  first | (intro acts; rw [hret _ acts rfl rfl rfl]) | rw [hret _ _ rfl rfl rfl]
  exact Steps.refl _
/-- what holds at the law's entry: the machine, the code, the tables' words (any of lw_tbl by 'hts w (by decide +kernel)'), the script of L ints xs at the cell b, what the Statement gives of the start (any of its parts by flat_of_before) -/
def lw_At (p : Program) (s : State) (m : MethodId) (meth : Method) (c : Code) (b L : Nat) (xs : Nat → Int32) : Prop :=
  p.tables.exec = Jvm.exec ∧ c.code = code ∧ meth.sig.returnType = ret ∧ c.maxLocals = 7 ∧ s.vm.findClass R_law = some m.cls ∧ (∀ w ∈ lw_tbl, w.before #[Value.ref b] s = true) ∧ va_X b L xs s s.heap ∧ b < s.heap.size ∧ meth.locks = false ∧ (Jvm.Cond.and given_1 narrow_1).before #[Value.ref b] s = true
theorem lw_end {p : Program} {l : Launch} {e : Env} {s : State} {m : MethodId} {below : List Frame} {meth : Method} {c : Code} {b sb : Nat} {pc : Nat} {H : Heap} {ls : Array Slot} {locs : List Loc} {cells slots : Nat} (hx : p.tables.exec = Jvm.exec) (hb : c.code = code) (hr : meth.sig.returnType = ret) (hlk : meth.locks = false) (hbb : s.heap.size ≤ b) (hS : va_S (A0 b) s.heap H locs) (h1 : cells ≤ 667928) (h2 : slots ≤ 7097987) (hdg : decode code pc = .ok (.ireturn, 1)) : W p l e room_1 s m #[Value.ref sb] below meth c H locs cells slots (lw_Z below #[Value.ref sb] s) (F0 m pc ls [.int 1]) := by
  refine va_forget (fun q hq => by have := hS.2.2 q hq; unfold A0 at this; omega) ?_
  refine W.widen (k := 667928) (n := 7097987) h1 h2 ?_
  exact lw_ret hx hb hr hlk hdg
/-- a shift of eight, the sign with it -/
def ushr8 (x : Int32) : Int32 := (x.toUInt32 >>> ((8 : Int32).toUInt32 &&& Int32.toUInt32 31)).toInt32
/-- refuses, where a state stands: it answers 1 and changes nothing -/
noncomputable def f_L_refuses (M : Mem) : Option (Int32 × Mem) := @ite _ (∃ τ k F, Rl M τ k F) (Classical.propDecidable _) (some (1, M)) none
theorem refuses_1 {M : Mem} {τ : Tr} {k : Lk} {F : List Nat} (h : Rl M τ k F) : f_L_refuses M = some (1, M) := if_pos ⟨τ, k, F, h⟩
theorem c_L_refuses' {l : Launch} {Z : Zt} {b : Nat} (hlf : l.stackTraces = false) {M M' : Mem} {r' : Int32} (h : f_L_refuses M = some (r', M')) : CtN l yL_refuses cL_refuses 17 (some .boolean) rm_L_refuses 1712 10272 Z b [.ref (b + 0)] M (some (.int r')) M' := by
  by_cases q : ∃ τ k F, Rl M τ k F
  · obtain ⟨τ, k, F, q⟩ := q
    rw [refuses_1 q] at h
    cases h
    exact c_L_refuses hlf q
  · unfold f_L_refuses at h
    rw [if_neg q] at h
    cases h

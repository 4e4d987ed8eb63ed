/-! ===== the law's act: which call it is, what it answers ===== -/
def hnd (x : Option ((String ⊕ Int32) × Mem)) : Option (Int32 × Mem) := bdc x (fun E M => if E = "java/lang/IndexOutOfBoundsException" then some ((-9001 : Int32), M) else if E = "java/lang/IllegalArgumentException" then some ((-9002 : Int32), M) else if E = "java/lang/IllegalStateException" then some ((-9003 : Int32), M) else none) (fun r M => some (r, M))
theorem hnd_A {x : Option ((String ⊕ Int32) × Mem)} {M : Mem} (h : x = some (.inl xA, M)) : hnd x = some (-9002, M) := by
  subst h; unfold hnd; rw [bdc_l, if_neg (by decide), if_pos rfl]
theorem hnd_B {x : Option ((String ⊕ Int32) × Mem)} {M : Mem} (h : x = some (.inl xB, M)) : hnd x = some (-9001, M) := by
  subst h; unfold hnd; rw [bdc_l, if_pos rfl]
theorem hnd_S {x : Option ((String ⊕ Int32) × Mem)} {M : Mem} (h : x = some (.inl xS, M)) : hnd x = some (-9003, M) := by
  subst h; unfold hnd; rw [bdc_l, if_neg (by decide), if_neg (by decide), if_pos rfl]
theorem hnd_r {x : Option ((String ⊕ Int32) × Mem)} {M : Mem} {r : Int32} (h : x = some (.inr r, M)) : hnd x = some (r, M) := by
  subst h; rfl
theorem act_0 (M : Mem) (a b c d : Int32) : f_L_act M 0 a b c d = hnd (f_X4_makeCollection M a b c) := by
  unfold f_L_act f_L_act_0 hnd
  rw [if_pos rfl]
theorem act_1 (M : Mem) (a b c d : Int32) : f_L_act M 1 a b c d = hnd (f_X4_put M a b c (-1) d) := by
  unfold f_L_act f_L_act_0 hnd
  rw [if_neg (show ¬ (1 : Int32) = 0 by decide), if_pos rfl]
theorem act_2 (M : Mem) (a b c d : Int32) : f_L_act M 2 a b c d = hnd (f_X4_delete M a b c) := by
  unfold f_L_act f_L_act_0 hnd
  rw [if_neg (show ¬ (2 : Int32) = 0 by decide), if_neg (show ¬ (2 : Int32) = (1 : Int32) by decide), if_pos rfl]
theorem act_3 (M : Mem) (a b c d : Int32) : f_L_act M 3 a b c d = hnd (f_X4_failureAt M a) := by
  unfold f_L_act f_L_act_0 hnd
  rw [if_neg (show ¬ (3 : Int32) = 0 by decide), if_neg (show ¬ (3 : Int32) = (1 : Int32) by decide), if_neg (show ¬ (3 : Int32) = (2 : Int32) by decide), if_pos rfl]
theorem act_6 (M : Mem) (a b c d : Int32) : f_L_act M 6 a b c d = hnd (f_X4_kindOf M a) := by
  unfold f_L_act f_L_act_0 hnd
  rw [if_neg (show ¬ (6 : Int32) = 0 by decide), if_neg (show ¬ (6 : Int32) = (1 : Int32) by decide), if_neg (show ¬ (6 : Int32) = (2 : Int32) by decide), if_neg (show ¬ (6 : Int32) = (3 : Int32) by decide), if_neg (show ¬ (6 : Int32) = (4 : Int32) by decide), if_neg (show ¬ (6 : Int32) = (5 : Int32) by decide), if_pos rfl]
theorem act_7 (M : Mem) (a b c d : Int32) : f_L_act M 7 a b c d = hnd (f_X4_content M a) := by
  unfold f_L_act f_L_act_0 hnd
  rw [if_neg (show ¬ (7 : Int32) = 0 by decide), if_neg (show ¬ (7 : Int32) = (1 : Int32) by decide), if_neg (show ¬ (7 : Int32) = (2 : Int32) by decide), if_neg (show ¬ (7 : Int32) = (3 : Int32) by decide), if_neg (show ¬ (7 : Int32) = (4 : Int32) by decide), if_neg (show ¬ (7 : Int32) = (5 : Int32) by decide), if_neg (show ¬ (7 : Int32) = (6 : Int32) by decide), if_pos rfl]
theorem act_8 (M : Mem) (a b c d : Int32) : f_L_act M 8 a b c d = hnd (f_X4_members M a) := by
  unfold f_L_act f_L_act_0 hnd
  rw [if_neg (show ¬ (8 : Int32) = 0 by decide), if_neg (show ¬ (8 : Int32) = (1 : Int32) by decide), if_neg (show ¬ (8 : Int32) = (2 : Int32) by decide), if_neg (show ¬ (8 : Int32) = (3 : Int32) by decide), if_neg (show ¬ (8 : Int32) = (4 : Int32) by decide), if_neg (show ¬ (8 : Int32) = (5 : Int32) by decide), if_neg (show ¬ (8 : Int32) = (6 : Int32) by decide), if_neg (show ¬ (8 : Int32) = (7 : Int32) by decide), if_pos rfl]
theorem act_9 (M : Mem) (a b c d : Int32) : f_L_act M 9 a b c d = hnd (f_X4_memberAt M a b) := by
  unfold f_L_act f_L_act_0 hnd
  rw [if_neg (show ¬ (9 : Int32) = 0 by decide), if_neg (show ¬ (9 : Int32) = (1 : Int32) by decide), if_neg (show ¬ (9 : Int32) = (2 : Int32) by decide), if_neg (show ¬ (9 : Int32) = (3 : Int32) by decide), if_neg (show ¬ (9 : Int32) = (4 : Int32) by decide), if_neg (show ¬ (9 : Int32) = (5 : Int32) by decide), if_neg (show ¬ (9 : Int32) = (6 : Int32) by decide), if_neg (show ¬ (9 : Int32) = (7 : Int32) by decide), if_neg (show ¬ (9 : Int32) = (8 : Int32) by decide), if_pos rfl]
theorem act_10 (M : Mem) (a b c d : Int32) : f_L_act M 10 a b c d = hnd (f_X4_order M a b c d) := by
  unfold f_L_act f_L_act_0 hnd
  rw [if_neg (show ¬ (10 : Int32) = 0 by decide), if_neg (show ¬ (10 : Int32) = (1 : Int32) by decide), if_neg (show ¬ (10 : Int32) = (2 : Int32) by decide), if_neg (show ¬ (10 : Int32) = (3 : Int32) by decide), if_neg (show ¬ (10 : Int32) = (4 : Int32) by decide), if_neg (show ¬ (10 : Int32) = (5 : Int32) by decide), if_neg (show ¬ (10 : Int32) = (6 : Int32) by decide), if_neg (show ¬ (10 : Int32) = (7 : Int32) by decide), if_neg (show ¬ (10 : Int32) = (8 : Int32) by decide), if_neg (show ¬ (10 : Int32) = (9 : Int32) by decide), if_pos rfl]
theorem act_11 (M : Mem) (a b c d : Int32) : f_L_act M 11 a b c d = hnd (f_X4_lock M a b 0 0 c d) := by
  unfold f_L_act f_L_act_0 hnd
  rw [if_neg (show ¬ (11 : Int32) = 0 by decide), if_neg (show ¬ (11 : Int32) = (1 : Int32) by decide), if_neg (show ¬ (11 : Int32) = (2 : Int32) by decide), if_neg (show ¬ (11 : Int32) = (3 : Int32) by decide), if_neg (show ¬ (11 : Int32) = (4 : Int32) by decide), if_neg (show ¬ (11 : Int32) = (5 : Int32) by decide), if_neg (show ¬ (11 : Int32) = (6 : Int32) by decide), if_neg (show ¬ (11 : Int32) = (7 : Int32) by decide), if_neg (show ¬ (11 : Int32) = (8 : Int32) by decide), if_neg (show ¬ (11 : Int32) = (9 : Int32) by decide), if_neg (show ¬ (11 : Int32) = (10 : Int32) by decide), if_pos rfl]
theorem act_12 (M : Mem) (a b c d : Int32) : f_L_act M 12 a b c d = hnd (f_X4_refresh M a b c) := by
  unfold f_L_act f_L_act_0 hnd
  rw [if_neg (show ¬ (12 : Int32) = 0 by decide), if_neg (show ¬ (12 : Int32) = (1 : Int32) by decide), if_neg (show ¬ (12 : Int32) = (2 : Int32) by decide), if_neg (show ¬ (12 : Int32) = (3 : Int32) by decide), if_neg (show ¬ (12 : Int32) = (4 : Int32) by decide), if_neg (show ¬ (12 : Int32) = (5 : Int32) by decide), if_neg (show ¬ (12 : Int32) = (6 : Int32) by decide), if_neg (show ¬ (12 : Int32) = (7 : Int32) by decide), if_neg (show ¬ (12 : Int32) = (8 : Int32) by decide), if_neg (show ¬ (12 : Int32) = (9 : Int32) by decide), if_neg (show ¬ (12 : Int32) = (10 : Int32) by decide), if_neg (show ¬ (12 : Int32) = (11 : Int32) by decide), if_pos rfl]
theorem act_13 (M : Mem) (a b c d : Int32) : f_L_act M 13 a b c d = hnd (f_X4_pass M a) := by
  unfold f_L_act f_L_act_0 hnd
  rw [if_neg (show ¬ (13 : Int32) = 0 by decide), if_neg (show ¬ (13 : Int32) = (1 : Int32) by decide), if_neg (show ¬ (13 : Int32) = (2 : Int32) by decide), if_neg (show ¬ (13 : Int32) = (3 : Int32) by decide), if_neg (show ¬ (13 : Int32) = (4 : Int32) by decide), if_neg (show ¬ (13 : Int32) = (5 : Int32) by decide), if_neg (show ¬ (13 : Int32) = (6 : Int32) by decide), if_neg (show ¬ (13 : Int32) = (7 : Int32) by decide), if_neg (show ¬ (13 : Int32) = (8 : Int32) by decide), if_neg (show ¬ (13 : Int32) = (9 : Int32) by decide), if_neg (show ¬ (13 : Int32) = (10 : Int32) by decide), if_neg (show ¬ (13 : Int32) = (11 : Int32) by decide), if_neg (show ¬ (13 : Int32) = (12 : Int32) by decide), if_pos rfl]
theorem act_14 (M : Mem) (a b c d : Int32) : f_L_act M 14 a b c d = hnd (f_X4_covering M a) := by
  unfold f_L_act f_L_act_0 hnd
  rw [if_neg (show ¬ (14 : Int32) = 0 by decide), if_neg (show ¬ (14 : Int32) = (1 : Int32) by decide), if_neg (show ¬ (14 : Int32) = (2 : Int32) by decide), if_neg (show ¬ (14 : Int32) = (3 : Int32) by decide), if_neg (show ¬ (14 : Int32) = (4 : Int32) by decide), if_neg (show ¬ (14 : Int32) = (5 : Int32) by decide), if_neg (show ¬ (14 : Int32) = (6 : Int32) by decide), if_neg (show ¬ (14 : Int32) = (7 : Int32) by decide), if_neg (show ¬ (14 : Int32) = (8 : Int32) by decide), if_neg (show ¬ (14 : Int32) = (9 : Int32) by decide), if_neg (show ¬ (14 : Int32) = (10 : Int32) by decide), if_neg (show ¬ (14 : Int32) = (11 : Int32) by decide), if_neg (show ¬ (14 : Int32) = (12 : Int32) by decide), if_neg (show ¬ (14 : Int32) = (13 : Int32) by decide), if_pos rfl]
theorem act_16 (M : Mem) (a b c d : Int32) : f_L_act M 16 a b c d = hnd (f_X4_keep M a) := by
  unfold f_L_act f_L_act_0 hnd
  rw [if_neg (show ¬ (16 : Int32) = 0 by decide), if_neg (show ¬ (16 : Int32) = (1 : Int32) by decide), if_neg (show ¬ (16 : Int32) = (2 : Int32) by decide), if_neg (show ¬ (16 : Int32) = (3 : Int32) by decide), if_neg (show ¬ (16 : Int32) = (4 : Int32) by decide), if_neg (show ¬ (16 : Int32) = (5 : Int32) by decide), if_neg (show ¬ (16 : Int32) = (6 : Int32) by decide), if_neg (show ¬ (16 : Int32) = (7 : Int32) by decide), if_neg (show ¬ (16 : Int32) = (8 : Int32) by decide), if_neg (show ¬ (16 : Int32) = (9 : Int32) by decide), if_neg (show ¬ (16 : Int32) = (10 : Int32) by decide), if_neg (show ¬ (16 : Int32) = (11 : Int32) by decide), if_neg (show ¬ (16 : Int32) = (12 : Int32) by decide), if_neg (show ¬ (16 : Int32) = (13 : Int32) by decide), if_neg (show ¬ (16 : Int32) = (14 : Int32) by decide), if_neg (show ¬ (16 : Int32) = (15 : Int32) by decide), if_pos rfl]
theorem act_17 (M : Mem) (a b c d : Int32) : f_L_act M 17 a b c d = hnd (f_X4_restore M a b c d) := by
  unfold f_L_act f_L_act_0 hnd
  rw [if_neg (show ¬ (17 : Int32) = 0 by decide), if_neg (show ¬ (17 : Int32) = (1 : Int32) by decide), if_neg (show ¬ (17 : Int32) = (2 : Int32) by decide), if_neg (show ¬ (17 : Int32) = (3 : Int32) by decide), if_neg (show ¬ (17 : Int32) = (4 : Int32) by decide), if_neg (show ¬ (17 : Int32) = (5 : Int32) by decide), if_neg (show ¬ (17 : Int32) = (6 : Int32) by decide), if_neg (show ¬ (17 : Int32) = (7 : Int32) by decide), if_neg (show ¬ (17 : Int32) = (8 : Int32) by decide), if_neg (show ¬ (17 : Int32) = (9 : Int32) by decide), if_neg (show ¬ (17 : Int32) = (10 : Int32) by decide), if_neg (show ¬ (17 : Int32) = (11 : Int32) by decide), if_neg (show ¬ (17 : Int32) = (12 : Int32) by decide), if_neg (show ¬ (17 : Int32) = (13 : Int32) by decide), if_neg (show ¬ (17 : Int32) = (14 : Int32) by decide), if_neg (show ¬ (17 : Int32) = (15 : Int32) by decide), if_neg (show ¬ (17 : Int32) = (16 : Int32) by decide), if_pos rfl]
theorem act_18 (M : Mem) (a b c d : Int32) : f_L_act M 18 a b c d = hnd (f_X4_put M a b 0 c d) := by
  unfold f_L_act f_L_act_0 hnd
  rw [if_neg (show ¬ (18 : Int32) = 0 by decide), if_neg (show ¬ (18 : Int32) = (1 : Int32) by decide), if_neg (show ¬ (18 : Int32) = (2 : Int32) by decide), if_neg (show ¬ (18 : Int32) = (3 : Int32) by decide), if_neg (show ¬ (18 : Int32) = (4 : Int32) by decide), if_neg (show ¬ (18 : Int32) = (5 : Int32) by decide), if_neg (show ¬ (18 : Int32) = (6 : Int32) by decide), if_neg (show ¬ (18 : Int32) = (7 : Int32) by decide), if_neg (show ¬ (18 : Int32) = (8 : Int32) by decide), if_neg (show ¬ (18 : Int32) = (9 : Int32) by decide), if_neg (show ¬ (18 : Int32) = (10 : Int32) by decide), if_neg (show ¬ (18 : Int32) = (11 : Int32) by decide), if_neg (show ¬ (18 : Int32) = (12 : Int32) by decide), if_neg (show ¬ (18 : Int32) = (13 : Int32) by decide), if_neg (show ¬ (18 : Int32) = (14 : Int32) by decide), if_neg (show ¬ (18 : Int32) = (15 : Int32) by decide), if_neg (show ¬ (18 : Int32) = (16 : Int32) by decide), if_neg (show ¬ (18 : Int32) = (17 : Int32) by decide), if_pos rfl]
theorem act_4 (M : Mem) (a b c d : Int32) : f_L_act M 4 a b c d = hnd (f_X4_copy M a b c (if d - d / 2 * 2 = 1 then 1 else 0) 0) := by
  unfold f_L_act f_L_act_0 f_L_act_86 hnd
  rw [if_neg (show ¬ (4 : Int32) = 0 by decide), if_neg (show ¬ (4 : Int32) = (1 : Int32) by decide), if_neg (show ¬ (4 : Int32) = (2 : Int32) by decide), if_neg (show ¬ (4 : Int32) = (3 : Int32) by decide), if_pos rfl]
  by_cases q : d - d / 2 * 2 = 1
  · rw [if_pos q, if_pos q]
  · rw [if_neg q, if_neg q]
theorem act_5 (M : Mem) (a b c d : Int32) : f_L_act M 5 a b c d = hnd (f_X4_move M a b c (if d - d / 2 * 2 = 1 then 1 else 0) 0) := by
  unfold f_L_act f_L_act_0 f_L_act_116 hnd
  rw [if_neg (show ¬ (5 : Int32) = 0 by decide), if_neg (show ¬ (5 : Int32) = (1 : Int32) by decide), if_neg (show ¬ (5 : Int32) = (2 : Int32) by decide), if_neg (show ¬ (5 : Int32) = (3 : Int32) by decide), if_neg (show ¬ (5 : Int32) = (4 : Int32) by decide), if_pos rfl]
  by_cases q : d - d / 2 * 2 = 1
  · rw [if_pos q, if_pos q]
  · rw [if_neg q, if_neg q]
theorem act_15 (M : Mem) (a b c d : Int32) : f_L_act M 15 a b c d = bdc (f_X4_mayChange M a b c) (fun E M => if E = "java/lang/IndexOutOfBoundsException" then some ((-9001 : Int32), M) else if E = "java/lang/IllegalArgumentException" then some ((-9002 : Int32), M) else if E = "java/lang/IllegalStateException" then some ((-9003 : Int32), M) else none) (fun r M => if r = 0 then some ((0 : Int32), M) else some ((1 : Int32), M)) := by
  unfold f_L_act f_L_act_0
  rw [if_neg (show ¬ (15 : Int32) = 0 by decide), if_neg (show ¬ (15 : Int32) = (1 : Int32) by decide), if_neg (show ¬ (15 : Int32) = (2 : Int32) by decide), if_neg (show ¬ (15 : Int32) = (3 : Int32) by decide), if_neg (show ¬ (15 : Int32) = (4 : Int32) by decide), if_neg (show ¬ (15 : Int32) = (5 : Int32) by decide), if_neg (show ¬ (15 : Int32) = (6 : Int32) by decide), if_neg (show ¬ (15 : Int32) = (7 : Int32) by decide), if_neg (show ¬ (15 : Int32) = (8 : Int32) by decide), if_neg (show ¬ (15 : Int32) = (9 : Int32) by decide), if_neg (show ¬ (15 : Int32) = (10 : Int32) by decide), if_neg (show ¬ (15 : Int32) = (11 : Int32) by decide), if_neg (show ¬ (15 : Int32) = (12 : Int32) by decide), if_neg (show ¬ (15 : Int32) = (13 : Int32) by decide), if_neg (show ¬ (15 : Int32) = (14 : Int32) by decide), if_pos rfl]
theorem act_19 (M : Mem) (a b c d : Int32) : f_L_act M 19 a b c d = hnd (f_X4_lock M a b 1 (if c = 1 then 1 else 0) 10 d) := by
  unfold f_L_act f_L_act_0 f_L_act_364 hnd
  rw [if_neg (show ¬ (19 : Int32) = 0 by decide), if_neg (show ¬ (19 : Int32) = (1 : Int32) by decide), if_neg (show ¬ (19 : Int32) = (2 : Int32) by decide), if_neg (show ¬ (19 : Int32) = (3 : Int32) by decide), if_neg (show ¬ (19 : Int32) = (4 : Int32) by decide), if_neg (show ¬ (19 : Int32) = (5 : Int32) by decide), if_neg (show ¬ (19 : Int32) = (6 : Int32) by decide), if_neg (show ¬ (19 : Int32) = (7 : Int32) by decide), if_neg (show ¬ (19 : Int32) = (8 : Int32) by decide), if_neg (show ¬ (19 : Int32) = (9 : Int32) by decide), if_neg (show ¬ (19 : Int32) = (10 : Int32) by decide), if_neg (show ¬ (19 : Int32) = (11 : Int32) by decide), if_neg (show ¬ (19 : Int32) = (12 : Int32) by decide), if_neg (show ¬ (19 : Int32) = (13 : Int32) by decide), if_neg (show ¬ (19 : Int32) = (14 : Int32) by decide), if_neg (show ¬ (19 : Int32) = (15 : Int32) by decide), if_neg (show ¬ (19 : Int32) = (16 : Int32) by decide), if_neg (show ¬ (19 : Int32) = (17 : Int32) by decide), if_neg (show ¬ (19 : Int32) = (18 : Int32) by decide), if_pos rfl]
  by_cases q : c = 1
  · rw [if_pos q, if_pos q]
  · rw [if_neg q, if_neg q]
/-! arguments out of range -/
theorem n0 (M : Mem) {a b c d : Int32} (h : okR a b c = false) : f_L_act M 0 a b c d = some (-9002, M) := by rw [act_0]; exact hnd_A (n_mk M h)
theorem n1 (M : Mem) {a b c d : Int32} (h : (okR a b d && (inR c 0 999 && inR (-1) (-1) 999)) = false) : f_L_act M 1 a b c d = some (-9002, M) := by rw [act_1]; exact hnd_A (n_put M h)
theorem n2 (M : Mem) {a b c d : Int32} (h : okR a b c = false) : f_L_act M 2 a b c d = some (-9002, M) := by rw [act_2]; exact hnd_A (n_delete M h)
theorem n4 (M : Mem) {a b c d : Int32} (h : pvT a b c 0 = false) : f_L_act M 4 a b c d = some (-9002, M) := by rw [act_4]; exact hnd_A (n_copy M h)
theorem n5 (M : Mem) {a b c d : Int32} (h : pvT a b c 0 = false) : f_L_act M 5 a b c d = some (-9002, M) := by rw [act_5]; exact hnd_A (n_move M h)
theorem n6 (M : Mem) {a b c d : Int32} (h : vpb a = false) : f_L_act M 6 a b c d = some (-9002, M) := by rw [act_6]; exact hnd_A (n_kindOf M h)
theorem n7 (M : Mem) {a b c d : Int32} (h : vpb a = false) : f_L_act M 7 a b c d = some (-9002, M) := by rw [act_7]; exact hnd_A (n_content M h)
theorem n8 (M : Mem) {a b c d : Int32} (h : vpb a = false) : f_L_act M 8 a b c d = some (-9002, M) := by rw [act_8]; exact hnd_A (n_members M h)
theorem n9 (M : Mem) {a b c d : Int32} (h : vpb a = false) : f_L_act M 9 a b c d = some (-9002, M) := by rw [act_9]; exact hnd_A (n_memberAt M h)
theorem n10 (M : Mem) {a b c d : Int32} (h : pvO a b c d = false) : f_L_act M 10 a b c d = some (-9002, M) := by rw [act_10]; exact hnd_A (n_order M h)
theorem n11 (M : Mem) {a b c d : Int32} (h : pvL a b c d = false) : f_L_act M 11 a b c d = some (-9002, M) := by rw [act_11]; exact hnd_A (n_lock M h)
theorem n13 (M : Mem) {a b c d : Int32} (h : inR a 1 1000 = false) : f_L_act M 13 a b c d = some (-9002, M) := by rw [act_13]; exact hnd_A (n_pass M h)
theorem n14 (M : Mem) {a b c d : Int32} (h : vpb a = false) : f_L_act M 14 a b c d = some (-9002, M) := by rw [act_14]; exact hnd_A (n_covering M h)
theorem n15 (M : Mem) {a b c d : Int32} (h : pvM a b c = false) : f_L_act M 15 a b c d = some (-9002, M) := by
  rw [act_15, n_mayChange M h, bdc_l, if_neg (by decide), if_pos rfl]
theorem n16 (M : Mem) {a b c d : Int32} (h : vpb a = false) : f_L_act M 16 a b c d = some (-9002, M) := by rw [act_16]; exact hnd_A (n_keep M h)
theorem n17 (M : Mem) {a b c d : Int32} (h : pvV a b c d = false) : f_L_act M 17 a b c d = some (-9002, M) := by rw [act_17]; exact hnd_A (n_restore M h)
theorem n18 (M : Mem) {a b c d : Int32} (h : (okR a b d && (inR 0 0 999 && inR c (-1) 999)) = false) : f_L_act M 18 a b c d = some (-9002, M) := by rw [act_18]; exact hnd_A (n_put M h)
/-! places that there are not -/
theorem far_ne {x : Int32} (h : x < 0 ∨ (60 : Int32) < x) {j : Nat} (hj : j ≤ 60) : x ≠ nI j := fun e => by
  subst e
  rcases h with z | z
  · exact nI_pos (by omega) z
  · rw [show (60 : Int32) = nI 60 from rfl, lt' (by decide) (by omega)] at z; omega
theorem Rl_len {M : Mem} {τ : Tr} {k : Lk} {F : List Nat} (h : Rl M τ k F) : (ta τ).length ≤ 60 ∧ kn k ≤ 30 ∧ F.length ≤ 60 := by
  obtain ⟨L, sp, h1, h2, h3, h4⟩ := h
  refine ⟨?_, h2.2.1, h4⟩
  rw [← TC_len h1]; exact IC_len h1.1
theorem n3 {M : Mem} {τ : Tr} {k : Lk} {F : List Nat} (h : Rl M τ k F) {a b c d : Int32} (hx : a < 0 ∨ (60 : Int32) < a) : f_L_act M 3 a b c d = some (-9001, M) := by
  rw [act_3]; exact hnd_B (g_failureAtB h (fun j hj => far_ne hx (by have := (Rl_len h).2.2; omega)))
theorem n3c {M : Mem} {τ : Tr} {k : Lk} {F : List Nat} (h : Rl M τ k F) {b c d : Int32} : f_L_act M 3 (nI F.length) b c d = some (-9001, M) := by
  rw [act_3]; exact hnd_B (g_failureAtB h (fun j hj e => by
    have := (Rl_len h).2.2
    rw [eq' (by omega) (by omega)] at e; omega))
theorem n9p {M : Mem} {τ : Tr} {k : Lk} {F : List Nat} (h : Rl M τ k F) {b c d : Int32} (hx : b < 0 ∨ (60 : Int32) < b) : f_L_act M 9 0 b c d = some (-9001, M) := by
  rw [act_9]; exact hnd_B (g_memberAtB h (by decide) (fun j hj => far_ne hx (by
    have := (Rl_len h).1
    have := List.length_filter_le (par (0 : Int32).toNatClampNeg) (ta τ)
    omega)))
theorem n9c {M : Mem} {τ : Tr} {k : Lk} {F : List Nat} (h : Rl M τ k F) {c d : Int32} : f_L_act M 9 0 (nI ((ta τ).filter (par (0 : Int32).toNatClampNeg)).length) c d = some (-9001, M) := by
  rw [act_9]; exact hnd_B (g_memberAtB h (by decide) (fun j hj e => by
    have := (Rl_len h).1
    have := List.length_filter_le (par (0 : Int32).toNatClampNeg) (ta τ)
    rw [eq' (by omega) (by omega)] at e; omega))
theorem n12 {M : Mem} {τ : Tr} {k : Lk} {F : List Nat} (h : Rl M τ k F) {a b c d : Int32} (hx : b < 0 ∨ (29 : Int32) < b) : f_L_act M 12 a b c d = some (-9001, M) := by
  rw [act_12]
  refine hnd_B (g_refreshB h ?_)
  have hn := (Rl_len h).2.1
  by_cases q : (0 : Int32) ≤ b
  · obtain ⟨j, hj, rfl⟩ := nI_ofNN q
    rcases hx with z | z
    · exact absurd z (nI_pos (by omega))
    · rw [show (29 : Int32) = nI 29 from rfl, lt' (by decide) hj] at z
      rw [cl' hj, show decide (j < kn k) = false by simp; omega, Bool.false_and, Bool.and_false]
  · rw [show decide ((0 : Int32) ≤ b) = false by simpa using q, Bool.false_and]
theorem isF_0 {M : Mem} {τ : Tr} {k : Lk} {F : List Nat} (h : Rl M τ k F) : isF τ 0 = false := by
  obtain ⟨L, sp, h1, h2, h3, h4⟩ := h
  unfold isF
  rw [show decide (0 ∈ ta τ) = false by simp; exact fun z => absurd (TC_pos h1 z).1 (by decide)]
  rfl
theorem n16t {M : Mem} {τ : Tr} {k : Lk} {F : List Nat} (h : Rl M τ k F) {b c d : Int32} : f_L_act M 16 0 b c d = some (-9003, M) := by
  rw [act_16]
  refine hnd_S (g_keepS h (by decide) ?_)
  rw [show (0 : Int32).toNatClampNeg = 0 from rfl, isF_0 h, Bool.false_and]
theorem n17t {M : Mem} {τ : Tr} {k : Lk} {F : List Nat} (h : Rl M τ k F) : f_L_act M 17 0 0 0 0 = some (1, M) := by
  rw [act_17]
  obtain ⟨M', e, -, e2⟩ := g_restore h (c := 0) (x := 0) (y := 0) (tks := 0) (by decide)
  have hn : oRs k τ 0 (0 : Int32).toNatClampNeg (0 : Int32).toNatClampNeg 0 = 1 := oRs_1 (fun z => isF_n (isF_0 h) z.1)
  rw [hn] at e e2
  rw [e2 rfl] at e
  exact hnd_r e
/-! the law's order -/
def expL (a b c : Int32) : List Int32 := if a = 0 then [] else if b = 0 then [a] else if c = 0 then [a, b] else [a, b, c]
theorem mem_i {M : Mem} {s : Sv} {x y : Int32} {l : List Nat} (p : Nat) {a : Int32} (h : RS M s) (hv : vpb x = true) (hl : (ta (tS s)).filter (par x.toNatClampNeg) = l) (hy : (0 : Int32) ≤ y) (hp : l[y.toNatClampNeg]? = some p) (ha : nI p = a) : f_X4_memberAt M x y = some (.inr a, M) := by
  rw [← ha]
  refine g_memberAt h ?_
  rw [hv, hl, hp, show decide ((0 : Int32) ≤ y) = true by simpa using hy]
  simp
theorem s_ord {M : Mem} {s : Sv} {x a b c : Int32} (h : RS M s) (hc : (vpb x && decide (((ta (tS s)).filter (par x.toNatClampNeg)).map nI = expL a b c)) = true) : f_L_order M x a b c = some (1, M) := by
  obtain ⟨hv, hl⟩ := bA hc
  have hl := dE hl
  have hm := g_members h hv
  obtain ⟨l, el⟩ : ∃ l, (ta (tS s)).filter (par x.toNatClampNeg) = l := ⟨_, rfl⟩
  rw [el] at hl hm
  unfold f_L_order f_L_order_0 f_L_order_26 f_L_order_54 f_L_order_70
  unfold expL at hl
  by_cases qa : a = 0
  · rw [if_pos qa] at hl
    rw [if_pos qa, hm, bdr_s]
    have : l = [] := by simpa using hl
    subst this
    rfl
  · rw [if_neg qa] at hl
    rw [if_neg qa]
    by_cases qb : b = 0
    · rw [if_pos qb] at hl
      rw [if_pos qb, hm, bdr_s]
      match l, hl, el with
      | [p0], hl, el =>
        have e0 : nI p0 = a := by simpa using hl
        rw [mem_i (y := (0 : Int32)) p0 h hv el (by decide) rfl e0, bdr_s]
        simp
        rfl
    · rw [if_neg qb] at hl
      rw [if_neg qb]
      by_cases qc : c = 0
      · rw [if_pos qc] at hl
        rw [if_pos qc, hm, bdr_s]
        match l, hl, el with
        | [p0, p1], hl, el =>
          have e0 : nI p0 = a ∧ nI p1 = b := by simpa using hl
          rw [mem_i (y := (0 : Int32)) p0 h hv el (by decide) rfl e0.1, bdr_s]
          rw [mem_i (y := (1 : Int32)) p1 h hv el (by decide) rfl e0.2, bdr_s]
          simp
          rfl
      · rw [if_neg qc] at hl
        rw [if_neg qc, hm, bdr_s]
        match l, hl, el with
        | [p0, p1, p2], hl, el =>
          have e0 : nI p0 = a ∧ nI p1 = b ∧ nI p2 = c := by simpa using hl
          rw [mem_i (y := (0 : Int32)) p0 h hv el (by decide) rfl e0.1, bdr_s]
          rw [mem_i (y := (1 : Int32)) p1 h hv el (by decide) rfl e0.2.1, bdr_s]
          rw [mem_i (y := (2 : Int32)) p2 h hv el (by decide) rfl e0.2.2, bdr_s]
          simp
          rfl
/-- a new server -/
theorem RS_0 : RS M0 ([], [], 0, []) := by
  refine ⟨[], List.range' 0 60, ⟨⟨M0_z (by decide) 0, by simp, List.nodup_range' (step := 1), fun r hr => ?_, fun j r hj => ?_⟩, fun r hr => by simp at hr, eqv_rf _, List.Pairwise.nil, fun r hr => by simp at hr⟩, ⟨M0_z (by decide) 0, by decide, M0_z (by decide) 0, by decide, fun j hj => absurd hj (Nat.not_lt_zero j)⟩, ⟨M0_z (by decide) 0, fun j p hj => by simp at hj, List.Pairwise.nil, fun p hp => by simp at hp⟩, by decide⟩
  · rw [List.nil_append, List.mem_range'] at hr
    obtain ⟨i, hi, e⟩ := hr
    omega
  · rw [List.nil_append] at hj
    have hj60 : j < 60 := by
      rcases Nat.lt_or_ge j 60 with z | z
      · exact z
      · rw [List.getElem?_eq_none (by rw [List.length_range']; exact z)] at hj
        exact absurd hj (by simp)
    rw [List.getElem?_range' hj60] at hj
    have : r = j := by simpa using hj.symm
    rw [this]
    exact if_pos rfl

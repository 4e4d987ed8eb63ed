theorem wR_makeCollection {M M1 : Mem} {x1 x2 x3 v : Int32} (h : f_X4_makeCollection M x1 x2 x3 = some (.inr v, M1)) : f_L_makeCollection M x1 x2 x3 = some (0, mu M1 40 0 v) := by
  unfold f_L_makeCollection f_L_makeCollection_0
  rw [h, bdc_s, if_neg (by decide)]
  rfl
theorem wT_makeCollection_A {M M1 : Mem} {x1 x2 x3 : Int32} (h : f_X4_makeCollection M x1 x2 x3 = some (.inl "java/lang/IllegalArgumentException", M1)) : f_L_makeCollection M x1 x2 x3 = some (1, M1) := by
  unfold f_L_makeCollection f_L_makeCollection_0
  rw [h, bdc_l, if_pos rfl]
theorem wR_put {M M1 : Mem} {x1 x2 x3 x4 x5 v : Int32} (h : f_X4_put M x1 x2 x3 x4 x5 = some (.inr v, M1)) : f_L_put M x1 x2 x3 x4 x5 = some (0, mu M1 40 0 v) := by
  unfold f_L_put f_L_put_0
  rw [h, bdc_s, if_neg (by decide)]
  rfl
theorem wT_put_A {M M1 : Mem} {x1 x2 x3 x4 x5 : Int32} (h : f_X4_put M x1 x2 x3 x4 x5 = some (.inl "java/lang/IllegalArgumentException", M1)) : f_L_put M x1 x2 x3 x4 x5 = some (1, M1) := by
  unfold f_L_put f_L_put_0
  rw [h, bdc_l, if_pos rfl]
theorem wR_delete {M M1 : Mem} {x1 x2 x3 v : Int32} (h : f_X4_delete M x1 x2 x3 = some (.inr v, M1)) : f_L_delete M x1 x2 x3 = some (0, mu M1 40 0 v) := by
  unfold f_L_delete f_L_delete_0
  rw [h, bdc_s, if_neg (by decide)]
  rfl
theorem wT_delete_A {M M1 : Mem} {x1 x2 x3 : Int32} (h : f_X4_delete M x1 x2 x3 = some (.inl "java/lang/IllegalArgumentException", M1)) : f_L_delete M x1 x2 x3 = some (1, M1) := by
  unfold f_L_delete f_L_delete_0
  rw [h, bdc_l, if_pos rfl]
theorem wR_failureAt {M M1 : Mem} {x1 v : Int32} (h : f_X4_failureAt M x1 = some (.inr v, M1)) : f_L_failureAt M x1 = some (0, mu M1 40 0 v) := by
  unfold f_L_failureAt f_L_failureAt_0
  rw [h, bdc_s, if_neg (by decide)]
  rfl
theorem wT_failureAt_B {M M1 : Mem} {x1 : Int32} (h : f_X4_failureAt M x1 = some (.inl "java/lang/IndexOutOfBoundsException", M1)) : f_L_failureAt M x1 = some (1, M1) := by
  unfold f_L_failureAt f_L_failureAt_0
  rw [h, bdc_l, if_pos rfl]
theorem wR_copy {M M1 : Mem} {x1 x2 x3 x4 x5 v : Int32} (h : f_X4_copy M x1 x2 x3 x4 x5 = some (.inr v, M1)) : f_L_copy M x1 x2 x3 x4 x5 = some (0, mu M1 40 0 v) := by
  unfold f_L_copy f_L_copy_0
  rw [h, bdc_s, if_neg (by decide)]
  rfl
theorem wT_copy_A {M M1 : Mem} {x1 x2 x3 x4 x5 : Int32} (h : f_X4_copy M x1 x2 x3 x4 x5 = some (.inl "java/lang/IllegalArgumentException", M1)) : f_L_copy M x1 x2 x3 x4 x5 = some (1, M1) := by
  unfold f_L_copy f_L_copy_0
  rw [h, bdc_l, if_pos rfl]
theorem wR_move {M M1 : Mem} {x1 x2 x3 x4 x5 v : Int32} (h : f_X4_move M x1 x2 x3 x4 x5 = some (.inr v, M1)) : f_L_move M x1 x2 x3 x4 x5 = some (0, mu M1 40 0 v) := by
  unfold f_L_move f_L_move_0
  rw [h, bdc_s, if_neg (by decide)]
  rfl
theorem wT_move_A {M M1 : Mem} {x1 x2 x3 x4 x5 : Int32} (h : f_X4_move M x1 x2 x3 x4 x5 = some (.inl "java/lang/IllegalArgumentException", M1)) : f_L_move M x1 x2 x3 x4 x5 = some (1, M1) := by
  unfold f_L_move f_L_move_0
  rw [h, bdc_l, if_pos rfl]
theorem wR_kindOf {M M1 : Mem} {x1 v : Int32} (h : f_X4_kindOf M x1 = some (.inr v, M1)) : f_L_kindOf M x1 = some (0, mu M1 40 0 v) := by
  unfold f_L_kindOf f_L_kindOf_0
  rw [h, bdc_s, if_neg (by decide)]
  rfl
theorem wT_kindOf_A {M M1 : Mem} {x1 : Int32} (h : f_X4_kindOf M x1 = some (.inl "java/lang/IllegalArgumentException", M1)) : f_L_kindOf M x1 = some (1, M1) := by
  unfold f_L_kindOf f_L_kindOf_0
  rw [h, bdc_l, if_pos rfl]
theorem wR_content {M M1 : Mem} {x1 v : Int32} (h : f_X4_content M x1 = some (.inr v, M1)) : f_L_content M x1 = some (0, mu M1 40 0 v) := by
  unfold f_L_content f_L_content_0
  rw [h, bdc_s, if_neg (by decide)]
  rfl
theorem wT_content_A {M M1 : Mem} {x1 : Int32} (h : f_X4_content M x1 = some (.inl "java/lang/IllegalArgumentException", M1)) : f_L_content M x1 = some (1, M1) := by
  unfold f_L_content f_L_content_0
  rw [h, bdc_l, if_pos rfl]
theorem wR_members {M M1 : Mem} {x1 v : Int32} (h : f_X4_members M x1 = some (.inr v, M1)) : f_L_members M x1 = some (0, mu M1 40 0 v) := by
  unfold f_L_members f_L_members_0
  rw [h, bdc_s, if_neg (by decide)]
  rfl
theorem wT_members_A {M M1 : Mem} {x1 : Int32} (h : f_X4_members M x1 = some (.inl "java/lang/IllegalArgumentException", M1)) : f_L_members M x1 = some (1, M1) := by
  unfold f_L_members f_L_members_0
  rw [h, bdc_l, if_pos rfl]
theorem wR_memberAt {M M1 : Mem} {x1 x2 v : Int32} (h : f_X4_memberAt M x1 x2 = some (.inr v, M1)) : f_L_memberAt M x1 x2 = some (0, mu M1 40 0 v) := by
  unfold f_L_memberAt f_L_memberAt_0
  rw [h, bdc_s, if_neg (by decide)]
  rfl
theorem wT_memberAt_A {M M1 : Mem} {x1 x2 : Int32} (h : f_X4_memberAt M x1 x2 = some (.inl "java/lang/IllegalArgumentException", M1)) : f_L_memberAt M x1 x2 = some (1, M1) := by
  unfold f_L_memberAt f_L_memberAt_0
  rw [h, bdc_l, if_pos rfl]
theorem wT_memberAt_B {M M1 : Mem} {x1 x2 : Int32} (h : f_X4_memberAt M x1 x2 = some (.inl "java/lang/IndexOutOfBoundsException", M1)) : f_L_memberAt M x1 x2 = some (2, M1) := by
  unfold f_L_memberAt f_L_memberAt_0
  rw [h, bdc_l, if_neg (by decide), if_pos rfl]
theorem wR_order {M M1 : Mem} {x1 x2 x3 x4 v : Int32} (h : f_X4_order M x1 x2 x3 x4 = some (.inr v, M1)) : f_L_order M x1 x2 x3 x4 = some (0, mu M1 40 0 v) := by
  unfold f_L_order f_L_order_0
  rw [h, bdc_s, if_neg (by decide)]
  rfl
theorem wT_order_A {M M1 : Mem} {x1 x2 x3 x4 : Int32} (h : f_X4_order M x1 x2 x3 x4 = some (.inl "java/lang/IllegalArgumentException", M1)) : f_L_order M x1 x2 x3 x4 = some (1, M1) := by
  unfold f_L_order f_L_order_0
  rw [h, bdc_l, if_pos rfl]
theorem wR_lock {M M1 : Mem} {x1 x2 x3 x4 x5 x6 v : Int32} (h : f_X4_lock M x1 x2 x3 x4 x5 x6 = some (.inr v, M1)) : f_L_lock M x1 x2 x3 x4 x5 x6 = some (0, mu M1 40 0 v) := by
  unfold f_L_lock f_L_lock_0
  rw [h, bdc_s, if_neg (by decide)]
  rfl
theorem wT_lock_A {M M1 : Mem} {x1 x2 x3 x4 x5 x6 : Int32} (h : f_X4_lock M x1 x2 x3 x4 x5 x6 = some (.inl "java/lang/IllegalArgumentException", M1)) : f_L_lock M x1 x2 x3 x4 x5 x6 = some (1, M1) := by
  unfold f_L_lock f_L_lock_0
  rw [h, bdc_l, if_pos rfl]
theorem wT_lock_S {M M1 : Mem} {x1 x2 x3 x4 x5 x6 : Int32} (h : f_X4_lock M x1 x2 x3 x4 x5 x6 = some (.inl "java/lang/IllegalStateException", M1)) : f_L_lock M x1 x2 x3 x4 x5 x6 = some (2, M1) := by
  unfold f_L_lock f_L_lock_0
  rw [h, bdc_l, if_neg (by decide), if_pos rfl]
theorem wR_refresh {M M1 : Mem} {x1 x2 x3 v : Int32} (h : f_X4_refresh M x1 x2 x3 = some (.inr v, M1)) : f_L_refresh M x1 x2 x3 = some (0, mu M1 40 0 v) := by
  unfold f_L_refresh f_L_refresh_0
  rw [h, bdc_s, if_neg (by decide)]
  rfl
theorem wT_refresh_B {M M1 : Mem} {x1 x2 x3 : Int32} (h : f_X4_refresh M x1 x2 x3 = some (.inl "java/lang/IndexOutOfBoundsException", M1)) : f_L_refresh M x1 x2 x3 = some (1, M1) := by
  unfold f_L_refresh f_L_refresh_0
  rw [h, bdc_l, if_pos rfl]
theorem wT_refresh_A {M M1 : Mem} {x1 x2 x3 : Int32} (h : f_X4_refresh M x1 x2 x3 = some (.inl "java/lang/IllegalArgumentException", M1)) : f_L_refresh M x1 x2 x3 = some (2, M1) := by
  unfold f_L_refresh f_L_refresh_0
  rw [h, bdc_l, if_neg (by decide), if_pos rfl]
theorem wT_refresh_S {M M1 : Mem} {x1 x2 x3 : Int32} (h : f_X4_refresh M x1 x2 x3 = some (.inl "java/lang/IllegalStateException", M1)) : f_L_refresh M x1 x2 x3 = some (3, M1) := by
  unfold f_L_refresh f_L_refresh_0
  rw [h, bdc_l, if_neg (by decide), if_neg (by decide), if_pos rfl]
theorem wR_pass {M M1 : Mem} {x1 v : Int32} (h : f_X4_pass M x1 = some (.inr v, M1)) : f_L_pass M x1 = some (0, mu M1 40 0 v) := by
  unfold f_L_pass f_L_pass_0
  rw [h, bdc_s, if_neg (by decide)]
  rfl
theorem wT_pass_A {M M1 : Mem} {x1 : Int32} (h : f_X4_pass M x1 = some (.inl "java/lang/IllegalArgumentException", M1)) : f_L_pass M x1 = some (1, M1) := by
  unfold f_L_pass f_L_pass_0
  rw [h, bdc_l, if_pos rfl]
theorem wT_pass_S {M M1 : Mem} {x1 : Int32} (h : f_X4_pass M x1 = some (.inl "java/lang/IllegalStateException", M1)) : f_L_pass M x1 = some (2, M1) := by
  unfold f_L_pass f_L_pass_0
  rw [h, bdc_l, if_neg (by decide), if_pos rfl]
theorem wR_covering {M M1 : Mem} {x1 v : Int32} (h : f_X4_covering M x1 = some (.inr v, M1)) : f_L_covering M x1 = some (0, mu M1 40 0 v) := by
  unfold f_L_covering f_L_covering_0
  rw [h, bdc_s, if_neg (by decide)]
  rfl
theorem wT_covering_A {M M1 : Mem} {x1 : Int32} (h : f_X4_covering M x1 = some (.inl "java/lang/IllegalArgumentException", M1)) : f_L_covering M x1 = some (1, M1) := by
  unfold f_L_covering f_L_covering_0
  rw [h, bdc_l, if_pos rfl]
theorem wR_mayChange {M M1 : Mem} {x1 x2 x3 : Int32} {v : Bool} (h : f_X4_mayChange M x1 x2 x3 = some (.inr (b2i v), M1)) : f_L_mayChange M x1 x2 x3 = some (0, mu M1 40 0 (b2i v)) := by
  unfold f_L_mayChange f_L_mayChange_0
  rw [h, bdc_s]
  cases v
  · rw [if_pos (by decide)]; unfold f_L_mayChange_18; rw [if_neg (by decide)]; rfl
  · rw [if_neg (by decide)]; unfold f_L_mayChange_18; rw [if_neg (by decide)]; rfl
theorem wT_mayChange_A {M M1 : Mem} {x1 x2 x3 : Int32} (h : f_X4_mayChange M x1 x2 x3 = some (.inl "java/lang/IllegalArgumentException", M1)) : f_L_mayChange M x1 x2 x3 = some (1, M1) := by
  unfold f_L_mayChange f_L_mayChange_0
  rw [h, bdc_l, if_pos rfl]
theorem wR_keep {M M1 : Mem} {x1 v : Int32} (h : f_X4_keep M x1 = some (.inr v, M1)) : f_L_keep M x1 = some (0, mu M1 40 0 v) := by
  unfold f_L_keep f_L_keep_0
  rw [h, bdc_s, if_neg (by decide)]
  rfl
theorem wT_keep_A {M M1 : Mem} {x1 : Int32} (h : f_X4_keep M x1 = some (.inl "java/lang/IllegalArgumentException", M1)) : f_L_keep M x1 = some (1, M1) := by
  unfold f_L_keep f_L_keep_0
  rw [h, bdc_l, if_pos rfl]
theorem wT_keep_S {M M1 : Mem} {x1 : Int32} (h : f_X4_keep M x1 = some (.inl "java/lang/IllegalStateException", M1)) : f_L_keep M x1 = some (2, M1) := by
  unfold f_L_keep f_L_keep_0
  rw [h, bdc_l, if_neg (by decide), if_pos rfl]
theorem wR_restore {M M1 : Mem} {x1 x2 x3 x4 v : Int32} (h : f_X4_restore M x1 x2 x3 x4 = some (.inr v, M1)) : f_L_restore M x1 x2 x3 x4 = some (0, mu M1 40 0 v) := by
  unfold f_L_restore f_L_restore_0
  rw [h, bdc_s, if_neg (by decide)]
  rfl
theorem wT_restore_A {M M1 : Mem} {x1 x2 x3 x4 : Int32} (h : f_X4_restore M x1 x2 x3 x4 = some (.inl "java/lang/IllegalArgumentException", M1)) : f_L_restore M x1 x2 x3 x4 = some (1, M1) := by
  unfold f_L_restore f_L_restore_0
  rw [h, bdc_l, if_pos rfl]

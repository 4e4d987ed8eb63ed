/-! ===== the law's loop ===== -/
theorem lg_self (x : Int64) : lg_cmp x x = 0 := by
  unfold lg_cmp
  rw [if_neg Int64.lt_irrefl, if_pos rfl]
theorem lw_fin {M2 : Mem} {q v : Int32} (K : Mem → Option (Int32 × Mem)) (h39 : M2 39 0 = q) (h40 : q = 0 → M2 40 0 = v) : bd2 (f_X5_thrown M2) (fun r M => if r = q then (if q = 0 then (if (0 : Int32) < 0 ∨ 1 ≤ (0 : Int32).toNatClampNeg then none else if (lg_cmp (M 40 (0 : Int32).toNatClampNeg).toInt64 v.toInt64) = 0 then K M else some ((0 : Int32), M)) else K M) else some ((0 : Int32), M)) = K M2 := by
  unfold f_X5_thrown f_X5_thrown_0
  rw [bd2_s, if_pos h39]
  by_cases hq : q = 0
  · have e : lg_cmp (M2 40 (0 : Int32).toNatClampNeg).toInt64 v.toInt64 = 0 := by
      rw [show (0 : Int32).toNatClampNeg = 0 from by decide, h40 hq, lg_self]
    rw [if_pos hq, if_neg (by decide), if_pos e]
  · rw [if_neg hq]
theorem ad1 (i : Nat) : nI (7 * i) + 1 = nI (7 * i + 1) := nI_add _ 1
theorem ad2 (i : Nat) : nI (7 * i) + 2 = nI (7 * i + 2) := nI_add _ 2
theorem ad3 (i : Nat) : nI (7 * i) + 3 = nI (7 * i + 3) := nI_add _ 3
theorem ad4 (i : Nat) : nI (7 * i) + 4 = nI (7 * i + 4) := nI_add _ 4
theorem ad5 (i : Nat) : nI (7 * i) + 5 = nI (7 * i + 5) := nI_add _ 5
theorem ad6 (i : Nat) : nI (7 * i) + 6 = nI (7 * i + 6) := nI_add _ 6
theorem ad7 (i : Nat) : nI (7 * i) + 7 = nI (7 * i + 7) := nI_add _ 7
theorem lb_136 {xs : Nat → Int32} {L i : Nat} (hL : L ≤ 3584) (hi : 7 * i + 7 ≤ L) (K : Mem → Int32 → Option (Int32 × Mem)) {M M2 : Mem} (ag : agree M M2 (fun m => f_L_makeCollection m (xs (7 * i + 1)) (xs (7 * i + 2)) (xs (7 * i + 3))) (fun m => f_X5_makeCollection m (xs (7 * i + 1)) (xs (7 * i + 2)) (xs (7 * i + 3)))) : f_L_law_136 xs L K M (nI (7 * i)) = K M2 (nI (7 * i + 7)) := by
  obtain ⟨q, M1, v, ha, hr, h39, h40⟩ := ag
  dsimp only at ha hr
  unfold f_L_law_136 f_L_law_213 f_L_law_1627
  simp only [ad1, ad2, ad3, ad7]
  simp only [gi (show 7 * i + 1 < L by omega) (show L < 2147483648 by omega), gi (show 7 * i + 2 < L by omega) (show L < 2147483648 by omega), gi (show 7 * i + 3 < L by omega) (show L < 2147483648 by omega)]
  simp only [cl' (show 7 * i + 1 < 2147483648 by omega), cl' (show 7 * i + 2 < 2147483648 by omega), cl' (show 7 * i + 3 < 2147483648 by omega)]
  rw [ha, bd2_s, hr, bd2_s]
  exact lw_fin (fun m => K m (nI (7 * i + 7))) h39 h40
theorem lb_216 {xs : Nat → Int32} {L i : Nat} (hL : L ≤ 3584) (hi : 7 * i + 7 ≤ L) (K : Mem → Int32 → Option (Int32 × Mem)) {M M2 : Mem} (ag : agree M M2 (fun m => f_L_put m (xs (7 * i + 1)) (xs (7 * i + 2)) (xs (7 * i + 3)) (xs (7 * i + 4)) (xs (7 * i + 5))) (fun m => f_X5_put m (xs (7 * i + 1)) (xs (7 * i + 2)) (xs (7 * i + 3)) (xs (7 * i + 4)) (xs (7 * i + 5)))) : f_L_law_216 xs L K M (nI (7 * i)) = K M2 (nI (7 * i + 7)) := by
  obtain ⟨q, M1, v, ha, hr, h39, h40⟩ := ag
  dsimp only at ha hr
  unfold f_L_law_216 f_L_law_317 f_L_law_1627
  simp only [ad1, ad2, ad3, ad4, ad5, ad7]
  simp only [gi (show 7 * i + 1 < L by omega) (show L < 2147483648 by omega), gi (show 7 * i + 2 < L by omega) (show L < 2147483648 by omega), gi (show 7 * i + 3 < L by omega) (show L < 2147483648 by omega), gi (show 7 * i + 4 < L by omega) (show L < 2147483648 by omega), gi (show 7 * i + 5 < L by omega) (show L < 2147483648 by omega)]
  simp only [cl' (show 7 * i + 1 < 2147483648 by omega), cl' (show 7 * i + 2 < 2147483648 by omega), cl' (show 7 * i + 3 < 2147483648 by omega), cl' (show 7 * i + 4 < 2147483648 by omega), cl' (show 7 * i + 5 < 2147483648 by omega)]
  rw [ha, bd2_s, hr, bd2_s]
  exact lw_fin (fun m => K m (nI (7 * i + 7))) h39 h40
theorem lb_320 {xs : Nat → Int32} {L i : Nat} (hL : L ≤ 3584) (hi : 7 * i + 7 ≤ L) (K : Mem → Int32 → Option (Int32 × Mem)) {M M2 : Mem} (ag : agree M M2 (fun m => f_L_delete m (xs (7 * i + 1)) (xs (7 * i + 2)) (xs (7 * i + 3))) (fun m => f_X5_delete m (xs (7 * i + 1)) (xs (7 * i + 2)) (xs (7 * i + 3)))) : f_L_law_320 xs L K M (nI (7 * i)) = K M2 (nI (7 * i + 7)) := by
  obtain ⟨q, M1, v, ha, hr, h39, h40⟩ := ag
  dsimp only at ha hr
  unfold f_L_law_320 f_L_law_397 f_L_law_1627
  simp only [ad1, ad2, ad3, ad7]
  simp only [gi (show 7 * i + 1 < L by omega) (show L < 2147483648 by omega), gi (show 7 * i + 2 < L by omega) (show L < 2147483648 by omega), gi (show 7 * i + 3 < L by omega) (show L < 2147483648 by omega)]
  simp only [cl' (show 7 * i + 1 < 2147483648 by omega), cl' (show 7 * i + 2 < 2147483648 by omega), cl' (show 7 * i + 3 < 2147483648 by omega)]
  rw [ha, bd2_s, hr, bd2_s]
  exact lw_fin (fun m => K m (nI (7 * i + 7))) h39 h40
theorem lb_413 {xs : Nat → Int32} {L i : Nat} (hL : L ≤ 3584) (hi : 7 * i + 7 ≤ L) (K : Mem → Int32 → Option (Int32 × Mem)) {M M2 : Mem} (ag : agree M M2 (fun m => f_L_failureAt m (xs (7 * i + 1))) (fun m => f_X5_failureAt m (xs (7 * i + 1)))) : f_L_law_413 xs L K M (nI (7 * i)) = K M2 (nI (7 * i + 7)) := by
  obtain ⟨q, M1, v, ha, hr, h39, h40⟩ := ag
  dsimp only at ha hr
  unfold f_L_law_413 f_L_law_466 f_L_law_1627
  simp only [ad1, ad7]
  simp only [gi (show 7 * i + 1 < L by omega) (show L < 2147483648 by omega)]
  simp only [cl' (show 7 * i + 1 < 2147483648 by omega)]
  rw [ha, bd2_s, hr, bd2_s]
  exact lw_fin (fun m => K m (nI (7 * i + 7))) h39 h40
theorem lb_709 {xs : Nat → Int32} {L i : Nat} (hL : L ≤ 3584) (hi : 7 * i + 7 ≤ L) (K : Mem → Int32 → Option (Int32 × Mem)) {M M2 : Mem} (ag : agree M M2 (fun m => f_L_kindOf m (xs (7 * i + 1))) (fun m => f_X5_kindOf m (xs (7 * i + 1)))) : f_L_law_709 xs L K M (nI (7 * i)) = K M2 (nI (7 * i + 7)) := by
  obtain ⟨q, M1, v, ha, hr, h39, h40⟩ := ag
  dsimp only at ha hr
  unfold f_L_law_709 f_L_law_762 f_L_law_1627
  simp only [ad1, ad7]
  simp only [gi (show 7 * i + 1 < L by omega) (show L < 2147483648 by omega)]
  simp only [cl' (show 7 * i + 1 < 2147483648 by omega)]
  rw [ha, bd2_s, hr, bd2_s]
  exact lw_fin (fun m => K m (nI (7 * i + 7))) h39 h40
theorem lb_765 {xs : Nat → Int32} {L i : Nat} (hL : L ≤ 3584) (hi : 7 * i + 7 ≤ L) (K : Mem → Int32 → Option (Int32 × Mem)) {M M2 : Mem} (ag : agree M M2 (fun m => f_L_content m (xs (7 * i + 1))) (fun m => f_X5_content m (xs (7 * i + 1)))) : f_L_law_765 xs L K M (nI (7 * i)) = K M2 (nI (7 * i + 7)) := by
  obtain ⟨q, M1, v, ha, hr, h39, h40⟩ := ag
  dsimp only at ha hr
  unfold f_L_law_765 f_L_law_818 f_L_law_1627
  simp only [ad1, ad7]
  simp only [gi (show 7 * i + 1 < L by omega) (show L < 2147483648 by omega)]
  simp only [cl' (show 7 * i + 1 < 2147483648 by omega)]
  rw [ha, bd2_s, hr, bd2_s]
  exact lw_fin (fun m => K m (nI (7 * i + 7))) h39 h40
theorem lb_834 {xs : Nat → Int32} {L i : Nat} (hL : L ≤ 3584) (hi : 7 * i + 7 ≤ L) (K : Mem → Int32 → Option (Int32 × Mem)) {M M2 : Mem} (ag : agree M M2 (fun m => f_L_members m (xs (7 * i + 1))) (fun m => f_X5_members m (xs (7 * i + 1)))) : f_L_law_834 xs L K M (nI (7 * i)) = K M2 (nI (7 * i + 7)) := by
  obtain ⟨q, M1, v, ha, hr, h39, h40⟩ := ag
  dsimp only at ha hr
  unfold f_L_law_834 f_L_law_887 f_L_law_1627
  simp only [ad1, ad7]
  simp only [gi (show 7 * i + 1 < L by omega) (show L < 2147483648 by omega)]
  simp only [cl' (show 7 * i + 1 < 2147483648 by omega)]
  rw [ha, bd2_s, hr, bd2_s]
  exact lw_fin (fun m => K m (nI (7 * i + 7))) h39 h40
theorem lb_890 {xs : Nat → Int32} {L i : Nat} (hL : L ≤ 3584) (hi : 7 * i + 7 ≤ L) (K : Mem → Int32 → Option (Int32 × Mem)) {M M2 : Mem} (ag : agree M M2 (fun m => f_L_memberAt m (xs (7 * i + 1)) (xs (7 * i + 2))) (fun m => f_X5_memberAt m (xs (7 * i + 1)) (xs (7 * i + 2)))) : f_L_law_890 xs L K M (nI (7 * i)) = K M2 (nI (7 * i + 7)) := by
  obtain ⟨q, M1, v, ha, hr, h39, h40⟩ := ag
  dsimp only at ha hr
  unfold f_L_law_890 f_L_law_955 f_L_law_1627
  simp only [ad1, ad2, ad7]
  simp only [gi (show 7 * i + 1 < L by omega) (show L < 2147483648 by omega), gi (show 7 * i + 2 < L by omega) (show L < 2147483648 by omega)]
  simp only [cl' (show 7 * i + 1 < 2147483648 by omega), cl' (show 7 * i + 2 < 2147483648 by omega)]
  rw [ha, bd2_s, hr, bd2_s]
  exact lw_fin (fun m => K m (nI (7 * i + 7))) h39 h40
theorem lb_958 {xs : Nat → Int32} {L i : Nat} (hL : L ≤ 3584) (hi : 7 * i + 7 ≤ L) (K : Mem → Int32 → Option (Int32 × Mem)) {M M2 : Mem} (ag : agree M M2 (fun m => f_L_order m (xs (7 * i + 1)) (xs (7 * i + 2)) (xs (7 * i + 3)) (xs (7 * i + 4))) (fun m => f_X5_order m (xs (7 * i + 1)) (xs (7 * i + 2)) (xs (7 * i + 3)) (xs (7 * i + 4)))) : f_L_law_958 xs L K M (nI (7 * i)) = K M2 (nI (7 * i + 7)) := by
  obtain ⟨q, M1, v, ha, hr, h39, h40⟩ := ag
  dsimp only at ha hr
  unfold f_L_law_958 f_L_law_1047 f_L_law_1627
  simp only [ad1, ad2, ad3, ad4, ad7]
  simp only [gi (show 7 * i + 1 < L by omega) (show L < 2147483648 by omega), gi (show 7 * i + 2 < L by omega) (show L < 2147483648 by omega), gi (show 7 * i + 3 < L by omega) (show L < 2147483648 by omega), gi (show 7 * i + 4 < L by omega) (show L < 2147483648 by omega)]
  simp only [cl' (show 7 * i + 1 < 2147483648 by omega), cl' (show 7 * i + 2 < 2147483648 by omega), cl' (show 7 * i + 3 < 2147483648 by omega), cl' (show 7 * i + 4 < 2147483648 by omega)]
  rw [ha, bd2_s, hr, bd2_s]
  exact lw_fin (fun m => K m (nI (7 * i + 7))) h39 h40
theorem lb_1200 {xs : Nat → Int32} {L i : Nat} (hL : L ≤ 3584) (hi : 7 * i + 7 ≤ L) (K : Mem → Int32 → Option (Int32 × Mem)) {M M2 : Mem} (ag : agree M M2 (fun m => f_L_refresh m (xs (7 * i + 1)) (xs (7 * i + 2)) (xs (7 * i + 3))) (fun m => f_X5_refresh m (xs (7 * i + 1)) (xs (7 * i + 2)) (xs (7 * i + 3)))) : f_L_law_1200 xs L K M (nI (7 * i)) = K M2 (nI (7 * i + 7)) := by
  obtain ⟨q, M1, v, ha, hr, h39, h40⟩ := ag
  dsimp only at ha hr
  unfold f_L_law_1200 f_L_law_1277 f_L_law_1627
  simp only [ad1, ad2, ad3, ad7]
  simp only [gi (show 7 * i + 1 < L by omega) (show L < 2147483648 by omega), gi (show 7 * i + 2 < L by omega) (show L < 2147483648 by omega), gi (show 7 * i + 3 < L by omega) (show L < 2147483648 by omega)]
  simp only [cl' (show 7 * i + 1 < 2147483648 by omega), cl' (show 7 * i + 2 < 2147483648 by omega), cl' (show 7 * i + 3 < 2147483648 by omega)]
  rw [ha, bd2_s, hr, bd2_s]
  exact lw_fin (fun m => K m (nI (7 * i + 7))) h39 h40
theorem lb_1280 {xs : Nat → Int32} {L i : Nat} (hL : L ≤ 3584) (hi : 7 * i + 7 ≤ L) (K : Mem → Int32 → Option (Int32 × Mem)) {M M2 : Mem} (ag : agree M M2 (fun m => f_L_pass m (xs (7 * i + 1))) (fun m => f_X5_pass m (xs (7 * i + 1)))) : f_L_law_1280 xs L K M (nI (7 * i)) = K M2 (nI (7 * i + 7)) := by
  obtain ⟨q, M1, v, ha, hr, h39, h40⟩ := ag
  dsimp only at ha hr
  unfold f_L_law_1280 f_L_law_1333 f_L_law_1627
  simp only [ad1, ad7]
  simp only [gi (show 7 * i + 1 < L by omega) (show L < 2147483648 by omega)]
  simp only [cl' (show 7 * i + 1 < 2147483648 by omega)]
  rw [ha, bd2_s, hr, bd2_s]
  exact lw_fin (fun m => K m (nI (7 * i + 7))) h39 h40
theorem lb_1336 {xs : Nat → Int32} {L i : Nat} (hL : L ≤ 3584) (hi : 7 * i + 7 ≤ L) (K : Mem → Int32 → Option (Int32 × Mem)) {M M2 : Mem} (ag : agree M M2 (fun m => f_L_covering m (xs (7 * i + 1))) (fun m => f_X5_covering m (xs (7 * i + 1)))) : f_L_law_1336 xs L K M (nI (7 * i)) = K M2 (nI (7 * i + 7)) := by
  obtain ⟨q, M1, v, ha, hr, h39, h40⟩ := ag
  dsimp only at ha hr
  unfold f_L_law_1336 f_L_law_1389 f_L_law_1627
  simp only [ad1, ad7]
  simp only [gi (show 7 * i + 1 < L by omega) (show L < 2147483648 by omega)]
  simp only [cl' (show 7 * i + 1 < 2147483648 by omega)]
  rw [ha, bd2_s, hr, bd2_s]
  exact lw_fin (fun m => K m (nI (7 * i + 7))) h39 h40
theorem lb_1479 {xs : Nat → Int32} {L i : Nat} (hL : L ≤ 3584) (hi : 7 * i + 7 ≤ L) (K : Mem → Int32 → Option (Int32 × Mem)) {M M2 : Mem} (ag : agree M M2 (fun m => f_L_keep m (xs (7 * i + 1))) (fun m => f_X5_keep m (xs (7 * i + 1)))) : f_L_law_1479 xs L K M (nI (7 * i)) = K M2 (nI (7 * i + 7)) := by
  obtain ⟨q, M1, v, ha, hr, h39, h40⟩ := ag
  dsimp only at ha hr
  unfold f_L_law_1479 f_L_law_1532 f_L_law_1627
  simp only [ad1, ad7]
  simp only [gi (show 7 * i + 1 < L by omega) (show L < 2147483648 by omega)]
  simp only [cl' (show 7 * i + 1 < 2147483648 by omega)]
  rw [ha, bd2_s, hr, bd2_s]
  exact lw_fin (fun m => K m (nI (7 * i + 7))) h39 h40
theorem lb_1535 {xs : Nat → Int32} {L i : Nat} (hL : L ≤ 3584) (hi : 7 * i + 7 ≤ L) (K : Mem → Int32 → Option (Int32 × Mem)) {M M2 : Mem} (ag : agree M M2 (fun m => f_L_restore m (xs (7 * i + 1)) (xs (7 * i + 2)) (xs (7 * i + 3)) (xs (7 * i + 4))) (fun m => f_X5_restore m (xs (7 * i + 1)) (xs (7 * i + 2)) (xs (7 * i + 3)) (xs (7 * i + 4)))) : f_L_law_1535 xs L K M (nI (7 * i)) = K M2 (nI (7 * i + 7)) := by
  obtain ⟨q, M1, v, ha, hr, h39, h40⟩ := ag
  dsimp only at ha hr
  unfold f_L_law_1535 f_L_law_1624 f_L_law_1627
  simp only [ad1, ad2, ad3, ad4, ad7]
  simp only [gi (show 7 * i + 1 < L by omega) (show L < 2147483648 by omega), gi (show 7 * i + 2 < L by omega) (show L < 2147483648 by omega), gi (show 7 * i + 3 < L by omega) (show L < 2147483648 by omega), gi (show 7 * i + 4 < L by omega) (show L < 2147483648 by omega)]
  simp only [cl' (show 7 * i + 1 < 2147483648 by omega), cl' (show 7 * i + 2 < 2147483648 by omega), cl' (show 7 * i + 3 < 2147483648 by omega), cl' (show 7 * i + 4 < 2147483648 by omega)]
  rw [ha, bd2_s, hr, bd2_s]
  exact lw_fin (fun m => K m (nI (7 * i + 7))) h39 h40
theorem lb_469 {xs : Nat → Int32} {L i : Nat} (hL : L ≤ 3584) (hi : 7 * i + 7 ≤ L) (K : Mem → Int32 → Option (Int32 × Mem)) {M M2 : Mem} (ag : agree M M2 (fun m => f_L_copy m (xs (7 * i + 1)) (xs (7 * i + 2)) (xs (7 * i + 3)) (b2i (!decide (xs (7 * i + 4) = 0))) (xs (7 * i + 5))) (fun m => f_X5_copy m (xs (7 * i + 1)) (xs (7 * i + 2)) (xs (7 * i + 3)) (b2i (!decide (xs (7 * i + 4) = 0))) (xs (7 * i + 5)))) : f_L_law_469 xs L K M (nI (7 * i)) = K M2 (nI (7 * i + 7)) := by
  unfold f_L_law_469 f_L_law_502 f_L_law_547 f_L_law_586 f_L_law_1627
  simp only [ad1, ad2, ad3, ad4, ad5, ad7]
  simp only [gi (show 7 * i + 1 < L by omega) (show L < 2147483648 by omega), gi (show 7 * i + 2 < L by omega) (show L < 2147483648 by omega), gi (show 7 * i + 3 < L by omega) (show L < 2147483648 by omega), gi (show 7 * i + 4 < L by omega) (show L < 2147483648 by omega), gi (show 7 * i + 5 < L by omega) (show L < 2147483648 by omega)]
  simp only [cl' (show 7 * i + 1 < 2147483648 by omega), cl' (show 7 * i + 2 < 2147483648 by omega), cl' (show 7 * i + 3 < 2147483648 by omega), cl' (show 7 * i + 4 < 2147483648 by omega), cl' (show 7 * i + 5 < 2147483648 by omega)]
  by_cases z : xs (7 * i + 4) = 0
  · rw [show (!decide (xs (7 * i + 4) = 0)) = false by simp [z], b2i_f] at ag
    obtain ⟨q, M1, v, ha, hr, h39, h40⟩ := ag
    dsimp only at ha hr
    rw [if_pos z, ha, bd2_s, if_pos z, hr, bd2_s]
    exact lw_fin (fun m => K m (nI (7 * i + 7))) h39 h40
  · rw [show (!decide (xs (7 * i + 4) = 0)) = true by simp [z], b2i_t] at ag
    obtain ⟨q, M1, v, ha, hr, h39, h40⟩ := ag
    dsimp only at ha hr
    rw [if_neg z, ha, bd2_s, if_neg z, hr, bd2_s]
    exact lw_fin (fun m => K m (nI (7 * i + 7))) h39 h40
theorem lb_589 {xs : Nat → Int32} {L i : Nat} (hL : L ≤ 3584) (hi : 7 * i + 7 ≤ L) (K : Mem → Int32 → Option (Int32 × Mem)) {M M2 : Mem} (ag : agree M M2 (fun m => f_L_move m (xs (7 * i + 1)) (xs (7 * i + 2)) (xs (7 * i + 3)) (b2i (!decide (xs (7 * i + 4) = 0))) (xs (7 * i + 5))) (fun m => f_X5_move m (xs (7 * i + 1)) (xs (7 * i + 2)) (xs (7 * i + 3)) (b2i (!decide (xs (7 * i + 4) = 0))) (xs (7 * i + 5)))) : f_L_law_589 xs L K M (nI (7 * i)) = K M2 (nI (7 * i + 7)) := by
  unfold f_L_law_589 f_L_law_622 f_L_law_667 f_L_law_706 f_L_law_1627
  simp only [ad1, ad2, ad3, ad4, ad5, ad7]
  simp only [gi (show 7 * i + 1 < L by omega) (show L < 2147483648 by omega), gi (show 7 * i + 2 < L by omega) (show L < 2147483648 by omega), gi (show 7 * i + 3 < L by omega) (show L < 2147483648 by omega), gi (show 7 * i + 4 < L by omega) (show L < 2147483648 by omega), gi (show 7 * i + 5 < L by omega) (show L < 2147483648 by omega)]
  simp only [cl' (show 7 * i + 1 < 2147483648 by omega), cl' (show 7 * i + 2 < 2147483648 by omega), cl' (show 7 * i + 3 < 2147483648 by omega), cl' (show 7 * i + 4 < 2147483648 by omega), cl' (show 7 * i + 5 < 2147483648 by omega)]
  by_cases z : xs (7 * i + 4) = 0
  · rw [show (!decide (xs (7 * i + 4) = 0)) = false by simp [z], b2i_f] at ag
    obtain ⟨q, M1, v, ha, hr, h39, h40⟩ := ag
    dsimp only at ha hr
    rw [if_pos z, ha, bd2_s, if_pos z, hr, bd2_s]
    exact lw_fin (fun m => K m (nI (7 * i + 7))) h39 h40
  · rw [show (!decide (xs (7 * i + 4) = 0)) = true by simp [z], b2i_t] at ag
    obtain ⟨q, M1, v, ha, hr, h39, h40⟩ := ag
    dsimp only at ha hr
    rw [if_neg z, ha, bd2_s, if_neg z, hr, bd2_s]
    exact lw_fin (fun m => K m (nI (7 * i + 7))) h39 h40
theorem lb_1050 {xs : Nat → Int32} {L i : Nat} (hL : L ≤ 3584) (hi : 7 * i + 7 ≤ L) (K : Mem → Int32 → Option (Int32 × Mem)) {M M2 : Mem} (ag : agree M M2 (fun m => f_L_lock m (xs (7 * i + 1)) (xs (7 * i + 2)) (b2i (!decide (xs (7 * i + 3) = 0))) (b2i (!decide (xs (7 * i + 4) = 0))) (xs (7 * i + 5)) (xs (7 * i + 6))) (fun m => f_X5_lock m (xs (7 * i + 1)) (xs (7 * i + 2)) (b2i (!decide (xs (7 * i + 3) = 0))) (b2i (!decide (xs (7 * i + 4) = 0))) (xs (7 * i + 5)) (xs (7 * i + 6)))) : f_L_law_1050 xs L K M (nI (7 * i)) = K M2 (nI (7 * i + 7)) := by
  unfold f_L_law_1050 f_L_law_1077 f_L_law_1091 f_L_law_1137 f_L_law_1151 f_L_law_1197 f_L_law_1627
  simp only [ad1, ad2, ad3, ad4, ad5, ad6, ad7]
  simp only [gi (show 7 * i + 1 < L by omega) (show L < 2147483648 by omega), gi (show 7 * i + 2 < L by omega) (show L < 2147483648 by omega), gi (show 7 * i + 3 < L by omega) (show L < 2147483648 by omega), gi (show 7 * i + 4 < L by omega) (show L < 2147483648 by omega), gi (show 7 * i + 5 < L by omega) (show L < 2147483648 by omega), gi (show 7 * i + 6 < L by omega) (show L < 2147483648 by omega)]
  simp only [cl' (show 7 * i + 1 < 2147483648 by omega), cl' (show 7 * i + 2 < 2147483648 by omega), cl' (show 7 * i + 3 < 2147483648 by omega), cl' (show 7 * i + 4 < 2147483648 by omega), cl' (show 7 * i + 5 < 2147483648 by omega), cl' (show 7 * i + 6 < 2147483648 by omega)]
  by_cases y : xs (7 * i + 3) = 0
  · rw [show (!decide (xs (7 * i + 3) = 0)) = false by simp [y], b2i_f] at ag
    by_cases z : xs (7 * i + 4) = 0
    · rw [show (!decide (xs (7 * i + 4) = 0)) = false by simp [z], b2i_f] at ag
      obtain ⟨q, M1, v, ha, hr, h39, h40⟩ := ag
      dsimp only at ha hr
      rw [if_pos y, if_pos z, ha, bd2_s, if_pos y, if_pos z, hr, bd2_s]
      exact lw_fin (fun m => K m (nI (7 * i + 7))) h39 h40
    · rw [show (!decide (xs (7 * i + 4) = 0)) = true by simp [z], b2i_t] at ag
      obtain ⟨q, M1, v, ha, hr, h39, h40⟩ := ag
      dsimp only at ha hr
      rw [if_pos y, if_neg z, ha, bd2_s, if_pos y, if_neg z, hr, bd2_s]
      exact lw_fin (fun m => K m (nI (7 * i + 7))) h39 h40
  · rw [show (!decide (xs (7 * i + 3) = 0)) = true by simp [y], b2i_t] at ag
    by_cases z : xs (7 * i + 4) = 0
    · rw [show (!decide (xs (7 * i + 4) = 0)) = false by simp [z], b2i_f] at ag
      obtain ⟨q, M1, v, ha, hr, h39, h40⟩ := ag
      dsimp only at ha hr
      rw [if_neg y, if_pos z, ha, bd2_s, if_neg y, if_pos z, hr, bd2_s]
      exact lw_fin (fun m => K m (nI (7 * i + 7))) h39 h40
    · rw [show (!decide (xs (7 * i + 4) = 0)) = true by simp [z], b2i_t] at ag
      obtain ⟨q, M1, v, ha, hr, h39, h40⟩ := ag
      dsimp only at ha hr
      rw [if_neg y, if_neg z, ha, bd2_s, if_neg y, if_neg z, hr, bd2_s]
      exact lw_fin (fun m => K m (nI (7 * i + 7))) h39 h40
theorem lb_400 {xs : Nat → Int32} {L i : Nat} (hL : L ≤ 3584) (hi : 7 * i + 7 ≤ L) (K : Mem → Int32 → Option (Int32 × Mem)) {M M2 : Mem} {v : Int32} {M1 : Mem} (h1 : f_X4_failures M = some (v, M1)) (h2 : f_X5_failures M1 = some (v, M2)) : f_L_law_400 xs L K M (nI (7 * i)) = K M2 (nI (7 * i + 7)) := by
  unfold f_L_law_400 f_L_law_1627
  rw [h1, bd2_s, h2, bd2_s, if_pos rfl, ad7]
theorem lb_821 {xs : Nat → Int32} {L i : Nat} (hL : L ≤ 3584) (hi : 7 * i + 7 ≤ L) (K : Mem → Int32 → Option (Int32 × Mem)) {M M2 : Mem} {v : Int32} {M1 : Mem} (h1 : f_X4_resources M = some (v, M1)) (h2 : f_X5_resources M1 = some (v, M2)) : f_L_law_821 xs L K M (nI (7 * i)) = K M2 (nI (7 * i + 7)) := by
  unfold f_L_law_821 f_L_law_1627
  rw [h1, bd2_s, h2, bd2_s, if_pos rfl, ad7]
def agreeB (M M2 : Mem) (a : Mem → Option (Int32 × Mem)) (r : Mem → Option (Int32 × Mem)) : Prop :=
  ∃ (q : Int32) (M1 : Mem) (v : Bool), a M = some (q, M1) ∧ r M1 = some (b2i v, M2) ∧ M2 39 0 = q ∧ (q = 0 → M2 40 0 = b2i v)
theorem st_mayChangeB {M : Mem} {L sp Lm : List Nat} {τ : Tr} {k : Lk} {F G : List Nat} {B : Nat} (h : Iv M L sp Lm τ k F G B) (c x tks : Int32) : ∃ M2, agreeB M M2 (fun m => f_L_mayChange m c x tks) (fun m => f_X5_mayChange m c x tks) ∧ Iv M2 L sp Lm τ k F G B := by
  cases hv : (okC c && (vpb x && decide (0 ≤ tks)))
  · refine ⟨mu M 39 0 1, ⟨1, M, false, wT_mayChange_A (M1 := M) ?_, ?_, at39 _ _, fun z => absurd z (by decide)⟩, Iv_mu h (by decide) _ _⟩
    · unfold f_X4_mayChange f_X4_mayChange_0
      rw [reqClientC]
      simp only [reqPathC, reqNNC]
      cases h1 : okC c
      · rfl
      · cases h2 : vpb x
        · rfl
        · rw [h1, h2, Bool.true_and, Bool.true_and] at hv; rw [hv]; rfl
    · show f_X5_mayChange M c x tks = _
      rw [mayChangeM_ok, hv]
      unfold f_X5_mayChange_24
      rw [at39, if_neg (by decide)]; rfl
  · simp only [Bool.and_eq_true] at hv
    obtain ⟨p, hp, rfl⟩ := vpb_of hv.2.1
    have h40 := Iv_mu h (t := 40) (by decide) 0 (b2i (alw k c p tks))
    have h39 := Iv_mu h40 (t := 39) (by decide) 0 0
    refine ⟨mu (mu M 40 0 (b2i (alw k c p tks))) 39 0 0, ⟨0, mu M 40 0 (b2i (alw k c p tks)), alw k c p tks, wR_mayChange (M1 := M) (v := alw k c p tks) ?_, ?_, at39 _ _, fun _ => at40 _ _ _⟩, h39⟩
    · unfold f_X4_mayChange f_X4_mayChange_0
      rw [reqClientC, hv.1, un_t, bdx_s, reqPathC, hv.2.1, un_t, bdx_s, reqNNC, hv.2.2, un_t, bdx_s, allowsC h.2.2.1 c hp tks, bd2_s, if_pos (b2i_and _)]
    · show f_X5_mayChange _ _ _ _ = _
      rw [mayChangeM_ok, hv.1, hv.2.1, hv.2.2]
      unfold f_X5_mayChange_24
      rw [show thr (true && (true && true)) = 0 from rfl, at39, if_pos rfl, mayM h39.2.2.2.1 c hp tks, bd2_s]
      cases alw k c p tks <;> simp [b2i]
theorem lb_1392 {xs : Nat → Int32} {L i : Nat} (hL : L ≤ 3584) (hi : 7 * i + 7 ≤ L) (K : Mem → Int32 → Option (Int32 × Mem)) {M M2 : Mem} (ag : agreeB M M2 (fun m => f_L_mayChange m (xs (7 * i + 1)) (xs (7 * i + 2)) (xs (7 * i + 3))) (fun m => f_X5_mayChange m (xs (7 * i + 1)) (xs (7 * i + 2)) (xs (7 * i + 3)))) : f_L_law_1392 xs L K M (nI (7 * i)) = K M2 (nI (7 * i + 7)) := by
  obtain ⟨q, M1, v, ha, hr, h39, h40⟩ := ag
  dsimp only at ha hr
  unfold f_L_law_1392 f_L_law_1470 f_L_law_1476 f_L_law_1627
  simp only [ad1, ad2, ad3, ad7]
  simp only [gi (show 7 * i + 1 < L by omega) (show L < 2147483648 by omega), gi (show 7 * i + 2 < L by omega) (show L < 2147483648 by omega), gi (show 7 * i + 3 < L by omega) (show L < 2147483648 by omega)]
  simp only [cl' (show 7 * i + 1 < 2147483648 by omega), cl' (show 7 * i + 2 < 2147483648 by omega), cl' (show 7 * i + 3 < 2147483648 by omega)]
  rw [ha, bd2_s, hr, bd2_s]
  unfold f_X5_thrown f_X5_thrown_0
  rw [bd2_s, if_pos h39]
  by_cases hq : q = 0
  · have e := h40 hq
    rw [if_pos hq, if_neg (by decide), show (0 : Int32).toNatClampNeg = 0 from by decide, e]
    cases v
    · rw [if_pos (show b2i false = 0 from rfl), if_pos (show lg_cmp (b2i false).toInt64 (0 : Int32).toInt64 = 0 from lg_self _)]
    · rw [if_neg (show ¬ b2i true = 0 by decide), if_pos (show lg_cmp (b2i true).toInt64 (1 : Int32).toInt64 = 0 from lg_self _)]
  · rw [if_neg hq]
theorem sub_lt {L m : Nat} (hL : L ≤ 3584) (hm : m ≤ 4000) : (nI L - 7 < nI m) = (L < m + 7) := by
  apply propext
  rw [Int32.lt_iff_toInt_lt, Int32.toInt_sub, nI_toInt (by omega), nI_toInt (by omega), show (7 : Int32).toInt = 7 from by decide]
  have : ((L : Int) - 7).bmod (2 ^ 32) = (L : Int) - 7 := by
    apply Int.bmod_eq_of_le <;> omega
  rw [this]
  omega
theorem inv_up {M : Mem} {L sp Lm : List Nat} {τ : Tr} {k : Lk} {F G : List Nat} {B : Nat} (h : Iv M L sp Lm τ k F G B) (hB : B + 200 ≤ 1000000) : Inv M (B + 200) := ⟨_, _, _, _, _, _, _, Iv_le h (by omega) hB⟩
theorem inv_up2 {M : Mem} {B : Nat} (h : Inv M B) (hB : B + 200 ≤ 1000000) : Inv M (B + 200) := by
  obtain ⟨L, sp, Lm, τ, k, F, G, h⟩ := h
  exact inv_up h hB
theorem law_step {xs : Nat → Int32} {L i : Nat} (hL : L ≤ 3584) (hi : 7 * i + 7 ≤ L) (K : Mem → Int32 → Option (Int32 × Mem)) {M : Mem} {B : Nat} (hI : Inv M B) (hB : B + 200 ≤ 1000000) : ∃ M2, f_L_law_23B xs L K M (nI (7 * i)) = K M2 (nI (7 * i + 7)) ∧ Inv M2 (B + 200) := by
  obtain ⟨Lc, sp, Lm, τ, k, F, G, h⟩ := hI
  unfold f_L_law_23B
  rw [show Int32.ofNat L = nI L from rfl, if_neg (show ¬ (nI L - 7 < nI (7 * i)) by rw [sub_lt hL (by omega)]; omega), gi (show 7 * i < L by omega) (by omega), cl' (by omega)]
  generalize xs (7 * i) &&& 31 = d
  by_cases z0 : d = 0
  · rw [if_pos z0]
    obtain ⟨M2, ag, hI⟩ := st_makeCollection h hB (xs (7 * i + 1)) (xs (7 * i + 2)) (xs (7 * i + 3))
    exact ⟨M2, lb_136 hL hi K ag, hI⟩
  rw [if_neg z0]
  by_cases z1 : d = 1
  · rw [if_pos z1]
    obtain ⟨M2, ag, hI⟩ := st_put h hB (xs (7 * i + 1)) (xs (7 * i + 2)) (xs (7 * i + 3)) (xs (7 * i + 4)) (xs (7 * i + 5))
    exact ⟨M2, lb_216 hL hi K ag, hI⟩
  rw [if_neg z1]
  by_cases z2 : d = 2
  · rw [if_pos z2]
    obtain ⟨M2, ag, hI⟩ := st_delete h hB (xs (7 * i + 1)) (xs (7 * i + 2)) (xs (7 * i + 3))
    exact ⟨M2, lb_320 hL hi K ag, hI⟩
  rw [if_neg z2]
  by_cases z3 : d = 3
  · rw [if_pos z3]
    obtain ⟨v, h1, h2, hI⟩ := st_failures h
    exact ⟨_, lb_400 hL hi K h1 h2, inv_up hI hB⟩
  rw [if_neg z3]
  by_cases z4 : d = 4
  · rw [if_pos z4]
    obtain ⟨M2, ag, hI⟩ := st_failureAt h (xs (7 * i + 1))
    exact ⟨M2, lb_413 hL hi K ag, inv_up hI hB⟩
  rw [if_neg z4]
  by_cases z5 : d = 5
  · rw [if_pos z5]
    obtain ⟨M2, ag, hI⟩ := st_copy h hB (xs (7 * i + 1)) (xs (7 * i + 2)) (xs (7 * i + 3)) (!decide (xs (7 * i + 4) = 0)) (xs (7 * i + 5))
    exact ⟨M2, lb_469 hL hi K ag, hI⟩
  rw [if_neg z5]
  by_cases z6 : d = 6
  · rw [if_pos z6]
    obtain ⟨M2, ag, hI⟩ := st_move h hB (xs (7 * i + 1)) (xs (7 * i + 2)) (xs (7 * i + 3)) (!decide (xs (7 * i + 4) = 0)) (xs (7 * i + 5))
    exact ⟨M2, lb_589 hL hi K ag, hI⟩
  rw [if_neg z6]
  by_cases z7 : d = 7
  · rw [if_pos z7]
    obtain ⟨M2, ag, hI⟩ := st_kindOf h (xs (7 * i + 1))
    exact ⟨M2, lb_709 hL hi K ag, inv_up hI hB⟩
  rw [if_neg z7]
  by_cases z8 : d = 8
  · rw [if_pos z8]
    obtain ⟨M2, ag, hI⟩ := st_content h (xs (7 * i + 1))
    exact ⟨M2, lb_765 hL hi K ag, inv_up hI hB⟩
  rw [if_neg z8]
  by_cases z9 : d = 9
  · rw [if_pos z9]
    obtain ⟨v, h1, h2, hI⟩ := st_resources h
    exact ⟨_, lb_821 hL hi K h1 h2, inv_up hI hB⟩
  rw [if_neg z9]
  by_cases z10 : d = 10
  · rw [if_pos z10]
    obtain ⟨M2, ag, hI⟩ := st_members h (xs (7 * i + 1))
    exact ⟨M2, lb_834 hL hi K ag, inv_up hI hB⟩
  rw [if_neg z10]
  by_cases z11 : d = 11
  · rw [if_pos z11]
    obtain ⟨M2, ag, hI⟩ := st_memberAt h (xs (7 * i + 1)) (xs (7 * i + 2))
    exact ⟨M2, lb_890 hL hi K ag, inv_up hI hB⟩
  rw [if_neg z11]
  by_cases z12 : d = 12
  · rw [if_pos z12]
    obtain ⟨M2, ag, hI⟩ := st_order h hB (xs (7 * i + 1)) (xs (7 * i + 2)) (xs (7 * i + 3)) (xs (7 * i + 4))
    exact ⟨M2, lb_958 hL hi K ag, hI⟩
  rw [if_neg z12]
  by_cases z13 : d = 13
  · rw [if_pos z13]
    obtain ⟨M2, ag, hI⟩ := st_lock h hB (xs (7 * i + 1)) (xs (7 * i + 2)) (!decide (xs (7 * i + 3) = 0)) (!decide (xs (7 * i + 4) = 0)) (xs (7 * i + 5)) (xs (7 * i + 6))
    exact ⟨M2, lb_1050 hL hi K ag, hI⟩
  rw [if_neg z13]
  by_cases z14 : d = 14
  · rw [if_pos z14]
    obtain ⟨M2, k', ag, hI⟩ := st_refresh h (xs (7 * i + 1)) (xs (7 * i + 2)) (xs (7 * i + 3))
    exact ⟨M2, lb_1200 hL hi K ag, inv_up hI hB⟩
  rw [if_neg z14]
  by_cases z15 : d = 15
  · rw [if_pos z15]
    obtain ⟨M2, k', ag, hI⟩ := st_pass h (xs (7 * i + 1))
    exact ⟨M2, lb_1280 hL hi K ag, inv_up hI hB⟩
  rw [if_neg z15]
  by_cases z16 : d = 16
  · rw [if_pos z16]
    obtain ⟨M2, ag, hI⟩ := st_covering h (xs (7 * i + 1))
    exact ⟨M2, lb_1336 hL hi K ag, inv_up hI hB⟩
  rw [if_neg z16]
  by_cases z17 : d = 17
  · rw [if_pos z17]
    obtain ⟨M2, ag, hI⟩ := st_mayChangeB h (xs (7 * i + 1)) (xs (7 * i + 2)) (xs (7 * i + 3))
    exact ⟨M2, lb_1392 hL hi K ag, inv_up hI hB⟩
  rw [if_neg z17]
  by_cases z18 : d = 18
  · rw [if_pos z18]
    obtain ⟨M2, ag, hI⟩ := st_keep h (xs (7 * i + 1))
    exact ⟨M2, lb_1479 hL hi K ag, inv_up2 hI hB⟩
  rw [if_neg z18]
  by_cases z19 : d = 19
  · rw [if_pos z19]
    obtain ⟨M2, ag, hI⟩ := st_restore h (xs (7 * i + 1)) (xs (7 * i + 2)) (xs (7 * i + 3)) (xs (7 * i + 4))
    exact ⟨M2, lb_1535 hL hi K ag, inv_up2 hI hB⟩
  rw [if_neg z19]
  refine ⟨M, ?_, inv_up h hB⟩
  unfold f_L_law_1627
  rw [ad7]
theorem law_loop {xs : Nat → Int32} {L : Nat} (hL : L ≤ 3584) : ∀ (n i : Nat) (M : Mem) (B : Nat), Inv M B → B + 200 * n ≤ 1000000 → L + 7 < 7 * (i + n) → 7 * i ≤ L + 7 → ∃ M', f_L_law_23 xs L n M (nI (7 * i)) = some (1, M') := by
  intro n
  induction n with
  | zero => intro i M B _ _ h1 h2; omega
  | succ n ih =>
    intro i M B hI hB h1 h2
    show ∃ M', f_L_law_23B xs L (f_L_law_23 xs L n) M (nI (7 * i)) = some (1, M')
    by_cases hi : 7 * i + 7 ≤ L
    · obtain ⟨M2, e, hI2⟩ := law_step (xs := xs) hL hi (f_L_law_23 xs L n) hI (by omega)
      rw [e, show 7 * i + 7 = 7 * (i + 1) by omega]
      exact ih (i + 1) M2 (B + 200) hI2 (by omega) (by omega) (by omega)
    · unfold f_L_law_23B
      rw [show Int32.ofNat L = nI L from rfl, if_pos (show nI L - 7 < nI (7 * i) by rw [sub_lt hL (by omega)]; omega)]
      exact ⟨M, rfl⟩
/-- the first memory -/
def M0 : Mem := fun t i => if t = 3 then nI i else 0
theorem M0_z {t : Nat} (h : t ≠ 3) (i : Nat) : M0 t i = 0 := if_neg h
theorem M0_inv : Inv M0 0 := by
  refine ⟨[], List.range' 0 60, [], ([], fun _ => 0, fun _ => 0, fun _ => 0, fun _ _ => 0), (0, 0, fun _ => 0, fun _ => 0, fun _ => 0, fun _ => 0, fun _ => 0), [], [], ⟨⟨M0_z (by decide) 0, by simp, List.nodup_range' (step := 1), fun r hr => ?_, fun j r hj => ?_⟩, fun r hr => by simp at hr, eqv_rf _, List.Pairwise.nil, fun r hr => by simp at hr⟩, ⟨?_, fun r hr => by simp at hr, eqv_rf _, List.Pairwise.nil, fun r hr => by simp at hr, fun r hr => by simp at hr, List.Pairwise.nil, ?_, ?_, by decide⟩, ⟨M0_z (by decide) 0, by decide, M0_z (by decide) 0, by decide, fun j hj => absurd hj (Nat.not_lt_zero j)⟩, ⟨M0_z (by decide) 0, by decide, M0_z (by decide) 0, by decide, fun j hj => absurd hj (Nat.not_lt_zero j)⟩, ⟨M0_z (by decide) 0, by decide, fun j p hj => by simp at hj, List.Pairwise.nil, fun p hp => by simp at hp, List.Perm.refl _, M0_z (by decide) 0, fun j p hj => by simp at hj⟩⟩
  · rw [List.nil_append, List.mem_range'] at hr
    obtain ⟨i, hi, e⟩ := hr
    omega
  · rw [List.nil_append] at hj
    have hj60 : j < 60 := by
      rcases Nat.lt_or_ge j 60 with z | z
      · exact z
      · rw [List.getElem?_eq_none (by rw [List.length_range']; exact z)] at hj
        exact absurd hj (by simp)
    rw [List.getElem?_range' hj60] at hj
    have : r = j := by simpa using hj.symm
    rw [this]
    exact if_pos rfl
  · have : (List.range' 0 60).filter (us M0) = [] := by
      rw [List.filter_eq_nil_iff]
      intro x _
      unfold us
      rw [M0_z (by decide)]
      decide
    rw [this]
  · unfold rn
    rw [M0_z (by decide)]
    rfl
  · unfold rn
    rw [M0_z (by decide)]
    decide
theorem law_all {xs : Nat → Int32} {L : Nat} (hL : L ≤ 3584) : ∃ M', f_L_law_23 xs L 600 M0 0 = some (1, M') := law_loop hL 600 0 M0 0 M0_inv (by decide) (by omega) (by omega)

/-! All is forgotten. -/
section FG
variable {L : Nat} {xs : Nat → Int32} {d : Nat} {S : ai_S}
theorem plv_none {b N : Nat} {ws : List (List Int × List Int)} (h : plv S b N ws) : plv (ai_wr S b (.inr (6, [.ref (b + 1), ax_i 0]))) b N [] := by
  obtain ⟨f, g, h1, h2, h3, h4, h5, h6, h7, h8⟩ := h
  have hf : fr b (b + 1) S (ai_wr S b (.inr (6, [.ref (b + 1), ax_i 0]))) := fr_wr
  refine ⟨f, g, ai_obj_wrS (ai_obj_inv h1).1, (hf.arrA (by omega)).trans h2, h3, h4, h5, fun j hj => ?_, Nat.zero_le _, fun j hj => absurd hj (Nat.not_lt_zero j)⟩
  obtain ⟨l, r, hw⟩ := h6 j hj
  have := h4 j hj
  exact ⟨l, r, hf.pw hw (by omega)⟩
theorem at_9_0 : ai_at ai_m9 0 = some (.aload_n 0, 1) := rfl
theorem at_9_1 : ai_at ai_m9 1 = some (.getfield 40, 3) := rfl
theorem at_9_4 : ai_at ai_m9 4 = some (.invokevirtual 162, 3) := rfl
theorem at_9_7 : ai_at ai_m9 7 = some (.return_, 1) := rfl
theorem at_23_0 : ai_at ai_m23 0 = some (.aload_n 0, 1) := rfl
theorem at_23_1 : ai_at ai_m23 1 = some (.getfield 54, 3) := rfl
theorem at_23_4 : ai_at ai_m23 4 = some (.iconst 0, 1) := rfl
theorem at_23_5 : ai_at ai_m23 5 = some (.putfield 82, 3) := rfl
theorem at_23_8 : ai_at ai_m23 8 = some (.aload_n 0, 1) := rfl
theorem at_23_9 : ai_at ai_m23 9 = some (.getfield 14, 3) := rfl
theorem at_23_12 : ai_at ai_m23 12 = some (.iconst 0, 1) := rfl
theorem at_23_13 : ai_at ai_m23 13 = some (.putfield 82, 3) := rfl
theorem at_23_16 : ai_at ai_m23 16 = some (.aload_n 0, 1) := rfl
theorem at_23_17 : ai_at ai_m23 17 = some (.iconst 0, 1) := rfl
theorem at_23_18 : ai_at ai_m23 18 = some (.putfield 47, 3) := rfl
theorem at_23_21 : ai_at ai_m23 21 = some (.aload_n 0, 1) := rfl
theorem at_23_22 : ai_at ai_m23 22 = some (.iconst 0, 1) := rfl
theorem at_23_23 : ai_at ai_m23 23 = some (.putfield 51, 3) := rfl
theorem at_23_26 : ai_at ai_m23 26 = some (.return_, 1) := rfl
theorem fl_2_51 : ai_fld 2 51 = some (5, 11, false) := by decide +kernel
theorem fl_2_54 : ai_fld 2 54 = some (5, 0, false) := by decide +kernel
theorem mt_0_162 : ai_mth 0 162 = some (0, 23, 0, 5) := by decide +kernel
set_option maxHeartbeats 1000000 in
theorem r_forget {sx sc : Int} {ws vs : List (List Int × List Int)} (he : en S sx sc) (hr : plv S 12 14 ws) (hq : plv S 84 48 vs) : ai_rn L xs (d + 1) 23 [.ref 11] S (fun v S' => v = none ∧ S' = ai_wr (ai_wr (ai_wr S 12 (.inr (6, [.ref 13, ax_i 0]))) 84 (.inr (6, [.ref 85, ax_i 0]))) 11 (.inr (5, ef 0 0))) := by
  obtain ⟨f, g, h1, -⟩ := hr
  obtain ⟨f', g', h1', -⟩ := hq
  have hl : 11 < S.1 := (ai_obj_inv he).1
  refine ai_rn_of (M := ai_m23) rfl (by decide) (Nat.le_of_ble_eq_true rfl) ?_
  refine aw_loc at_23_0 rfl rfl ?_
  refine aw_get at_23_1 rfl fl_2_54 he rfl ?_
  refine aw_pure (st' := ax_i (0) :: _) at_23_4 rfl rfl ?_
  refine aw_put at_23_5 rfl fl_2_82 h1 (Nat.le_of_ble_eq_true rfl) rfl (by decide +kernel) ?_
  change ai_aw L xs d ai_m23 _ (8, _, _, ai_wr S 12 (.inr (6, [.ref 13, ax_i 0])))
  have he1 : en (ai_wr S 12 (.inr (6, [.ref 13, ax_i 0]))) sx sc := (ai_obj_wr (by decide)).trans he
  have h2 := (ai_obj_wr (a := 12) (x := .inr (6, [.ref 13, ax_i 0])) (show 84 ≠ 12 by decide)).trans h1'
  refine aw_loc at_23_8 rfl rfl ?_
  refine aw_get at_23_9 rfl fl_2_14 he1 rfl ?_
  refine aw_pure (st' := ax_i (0) :: _) at_23_12 rfl rfl ?_
  refine aw_put at_23_13 rfl fl_2_82 h2 (Nat.le_of_ble_eq_true rfl) rfl (by decide +kernel) ?_
  change ai_aw L xs d ai_m23 _ (16, _, _, ai_wr (ai_wr S 12 (.inr (6, [.ref 13, ax_i 0]))) 84 (.inr (6, [.ref 85, ax_i 0])))
  generalize hX : ai_wr (ai_wr S 12 (.inr (6, [.ref 13, ax_i 0]))) 84 (.inr (6, [.ref 85, ax_i 0])) = X
  have he2 : en X sx sc := by rw [← hX]; exact (ai_obj_wr (by decide)).trans he1
  have hlX : 11 < X.1 := by rw [← hX]; exact hl
  refine aw_loc at_23_16 rfl rfl ?_
  refine aw_pure (st' := ax_i (0) :: _) at_23_17 rfl rfl ?_
  refine aw_put at_23_18 rfl fl_2_47 he2 (Nat.le_of_ble_eq_true rfl) rfl (by decide +kernel) ?_
  change ai_aw L xs d ai_m23 _ (21, _, _, ai_wr X 11 (.inr (5, ef 0 sc)))
  have he3 : en (ai_wr X 11 (.inr (5, ef 0 sc))) 0 sc := ai_obj_wrS hlX
  refine aw_loc at_23_21 rfl rfl ?_
  refine aw_pure (st' := ax_i (0) :: _) at_23_22 rfl rfl ?_
  refine aw_put at_23_23 rfl fl_2_51 he3 (Nat.le_of_ble_eq_true rfl) rfl (by decide +kernel) ?_
  change ai_aw L xs d ai_m23 _ (26, _, _, ai_wr (ai_wr X 11 (.inr (5, ef 0 sc))) 11 (.inr (5, ef 0 0)))
  rw [ai_wr_wr]
  exact aw_vret at_23_26 rfl ⟨_, _, rfl, rfl, rfl⟩
theorem r_clear {sx sc : Int} {ws vs : List (List Int × List Int)} (h0 : tp S) (he : en S sx sc) (hr : plv S 12 14 ws) (hq : plv S 84 48 vs) : ai_rn L xs (d + 2) 9 [.ref 0] S (fun v S' => v = none ∧ S' = ai_wr (ai_wr (ai_wr S 12 (.inr (6, [.ref 13, ax_i 0]))) 84 (.inr (6, [.ref 85, ax_i 0]))) 11 (.inr (5, ef 0 0))) := by
  refine ai_rn_of (M := ai_m9) rfl (by decide) (Nat.le_of_ble_eq_true rfl) ?_
  refine aw_loc at_9_0 rfl rfl ?_
  refine aw_get at_9_1 rfl fl_0_40 h0 rfl ?_
  refine aw_cv (a := 11) [] [] at_9_4 mt_0_162 (Or.inl rfl) rfl rfl (Nat.le_of_ble_eq_true rfl) ⟨_, he⟩ ((r_forget he hr hq).mono ?_)
  rintro v S0 ⟨rfl, hS⟩
  exact aw_vret at_9_7 rfl ⟨_, _, rfl, rfl, hS⟩
end FG

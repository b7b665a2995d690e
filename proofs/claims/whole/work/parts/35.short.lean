/-! What is asked and what is forgotten: the short calls of both. -/
section SH
variable {L : Nat} {xs : Nat → Int32} {d : Nat} {S : ai_S}
/-- the landed object and its engine -/
def tp (S : ai_S) : Prop := ai_obj S 0 0 = some [.ref 1, .ref 4, .ref 6, .ref 11]
def ef (sx sc : Int) : List Value := [.ref 12, .ref 84, .ref 326, .ref 412, .ref 417, .ref 425, .ref 398, .ref 400, .ref 405, .ref 410, ax_i sx, ax_i sc]
def en (S : ai_S) (sx sc : Int) : Prop := ai_obj S 11 5 = some (ef sx sc)
def mo_put (S : ai_S) (T D n rc wt kp sx sc : Int) : ai_S := ai_wr S 432 (.inr (11, mf T D n rc wt kp sx sc))
theorem mo_get {T D n rc wt kp sx sc : Int} (h : 432 < S.1) : mo (mo_put S T D n rc wt kp sx sc) T D n rc wt kp sx sc := ai_obj_wrS h
theorem mo_two {T D n rc wt kp sx sc T' D' n' rc' wt' kp' sx' sc' : Int} : mo_put (mo_put S T D n rc wt kp sx sc) T' D' n' rc' wt' kp' sx' sc' = mo_put S T' D' n' rc' wt' kp' sx' sc' := ai_wr_wr _ _ _ _
theorem at_2_0 : ai_at ai_m2 0 = some (.aload_n 0, 1) := rfl
theorem at_2_1 : ai_at ai_m2 1 = some (.getfield 19, 3) := rfl
theorem at_2_4 : ai_at ai_m2 4 = some (.iconst 0, 1) := rfl
theorem at_2_5 : ai_at ai_m2 5 = some (.putfield 68, 3) := rfl
theorem at_2_8 : ai_at ai_m2 8 = some (.return_, 1) := rfl
theorem at_3_0 : ai_at ai_m3 0 = some (.aload_n 0, 1) := rfl
theorem at_3_1 : ai_at ai_m3 1 = some (.getfield 40, 3) := rfl
theorem at_3_4 : ai_at ai_m3 4 = some (.getfield 106, 3) := rfl
theorem at_3_7 : ai_at ai_m3 7 = some (.ireturn, 1) := rfl
theorem at_4_0 : ai_at ai_m4 0 = some (.aload_n 0, 1) := rfl
theorem at_4_1 : ai_at ai_m4 1 = some (.getfield 40, 3) := rfl
theorem at_4_4 : ai_at ai_m4 4 = some (.getfield 109, 3) := rfl
theorem at_4_7 : ai_at ai_m4 7 = some (.getfield 95, 3) := rfl
theorem at_4_10 : ai_at ai_m4 10 = some (.ireturn, 1) := rfl
theorem at_5_0 : ai_at ai_m5 0 = some (.aload_n 0, 1) := rfl
theorem at_5_1 : ai_at ai_m5 1 = some (.getfield 40, 3) := rfl
theorem at_5_4 : ai_at ai_m5 4 = some (.getfield 81, 3) := rfl
theorem at_5_7 : ai_at ai_m5 7 = some (.getfield 95, 3) := rfl
theorem at_5_10 : ai_at ai_m5 10 = some (.ireturn, 1) := rfl
theorem at_25_0 : ai_at ai_m25 0 = some (.aload_n 0, 1) := rfl
theorem at_25_1 : ai_at ai_m25 1 = some (.getfield 47, 3) := rfl
theorem at_25_4 : ai_at ai_m25 4 = some (.ifCond .ne 17, 3) := rfl
theorem at_25_7 : ai_at ai_m25 7 = some (.aload_n 0, 1) := rfl
theorem at_25_8 : ai_at ai_m25 8 = some (.getfield 14, 3) := rfl
theorem at_25_11 : ai_at ai_m25 11 = some (.getfield 82, 3) := rfl
theorem at_25_14 : ai_at ai_m25 14 = some (.ifCond .le 7, 3) := rfl
theorem at_25_17 : ai_at ai_m25 17 = some (.iconst 1, 1) := rfl
theorem at_25_18 : ai_at ai_m25 18 = some (.goto 4, 3) := rfl
theorem at_25_21 : ai_at ai_m25 21 = some (.iconst 0, 1) := rfl
theorem at_25_22 : ai_at ai_m25 22 = some (.ireturn, 1) := rfl
theorem at_102_0 : ai_at ai_m102 0 = some (.aload_n 0, 1) := rfl
theorem at_102_1 : ai_at ai_m102 1 = some (.iconst 0, 1) := rfl
theorem at_102_2 : ai_at ai_m102 2 = some (.putfield 68, 3) := rfl
theorem at_102_5 : ai_at ai_m102 5 = some (.aload_n 0, 1) := rfl
theorem at_102_6 : ai_at ai_m102 6 = some (.iconst 0, 1) := rfl
theorem at_102_7 : ai_at ai_m102 7 = some (.putfield 85, 3) := rfl
theorem at_102_10 : ai_at ai_m102 10 = some (.return_, 1) := rfl
theorem at_148_0 : ai_at ai_m148 0 = some (.aload_n 0, 1) := rfl
theorem at_148_1 : ai_at ai_m148 1 = some (.iconst 0, 1) := rfl
theorem at_148_2 : ai_at ai_m148 2 = some (.putfield 68, 3) := rfl
theorem at_148_5 : ai_at ai_m148 5 = some (.aload_n 0, 1) := rfl
theorem at_148_6 : ai_at ai_m148 6 = some (.getfield 220, 3) := rfl
theorem at_148_9 : ai_at ai_m148 9 = some (.ireturn, 1) := rfl
theorem at_149_0 : ai_at ai_m149 0 = some (.aload_n 0, 1) := rfl
theorem at_149_1 : ai_at ai_m149 1 = some (.iconst 0, 1) := rfl
theorem at_149_2 : ai_at ai_m149 2 = some (.putfield 68, 3) := rfl
theorem at_149_5 : ai_at ai_m149 5 = some (.aload_n 0, 1) := rfl
theorem at_149_6 : ai_at ai_m149 6 = some (.getfield 113, 3) := rfl
theorem at_149_9 : ai_at ai_m149 9 = some (.ireturn, 1) := rfl
theorem at_150_0 : ai_at ai_m150 0 = some (.aload_n 0, 1) := rfl
theorem at_150_1 : ai_at ai_m150 1 = some (.iconst 0, 1) := rfl
theorem at_150_2 : ai_at ai_m150 2 = some (.putfield 68, 3) := rfl
theorem at_150_5 : ai_at ai_m150 5 = some (.aload_n 0, 1) := rfl
theorem at_150_6 : ai_at ai_m150 6 = some (.getfield 106, 3) := rfl
theorem at_150_9 : ai_at ai_m150 9 = some (.ireturn, 1) := rfl
theorem at_157_0 : ai_at ai_m157 0 = some (.aload_n 0, 1) := rfl
theorem at_157_1 : ai_at ai_m157 1 = some (.iconst 0, 1) := rfl
theorem at_157_2 : ai_at ai_m157 2 = some (.putfield 68, 3) := rfl
theorem at_157_5 : ai_at ai_m157 5 = some (.aload_n 0, 1) := rfl
theorem at_157_6 : ai_at ai_m157 6 = some (.iconst 0, 1) := rfl
theorem at_157_7 : ai_at ai_m157 7 = some (.putfield 113, 3) := rfl
theorem at_157_10 : ai_at ai_m157 10 = some (.aload_n 0, 1) := rfl
theorem at_157_11 : ai_at ai_m157 11 = some (.iconst 0, 1) := rfl
theorem at_157_12 : ai_at ai_m157 12 = some (.putfield 106, 3) := rfl
theorem at_157_15 : ai_at ai_m157 15 = some (.aload_n 0, 1) := rfl
theorem at_157_16 : ai_at ai_m157 16 = some (.iconst 0, 1) := rfl
theorem at_157_17 : ai_at ai_m157 17 = some (.putfield 150, 3) := rfl
theorem at_157_20 : ai_at ai_m157 20 = some (.aload_n 0, 1) := rfl
theorem at_157_21 : ai_at ai_m157 21 = some (.iconst 0, 1) := rfl
theorem at_157_22 : ai_at ai_m157 22 = some (.putfield 220, 3) := rfl
theorem at_157_25 : ai_at ai_m157 25 = some (.return_, 1) := rfl
theorem fl_0_95 : ai_fld 0 95 = some (6, 1, true) := by decide +kernel
theorem fl_0_106 : ai_fld 0 106 = some (5, 11, true) := by decide +kernel
theorem fl_2_14 : ai_fld 2 14 = some (5, 1, false) := by decide +kernel
theorem fl_2_47 : ai_fld 2 47 = some (5, 10, false) := by decide +kernel
theorem fl_2_82 : ai_fld 2 82 = some (6, 1, true) := by decide +kernel
theorem fl_12_150 : ai_fld 12 150 = some (11, 15, false) := by decide +kernel
theorem fl_12_220 : ai_fld 12 220 = some (11, 16, false) := by decide +kernel
theorem r_wipe {C : Nat → Int} {n : Nat} (h0 : tp S) (hd : dv S C n) : ai_rn L xs (d + 1) 2 [.ref 0] S (fun v S' => v = none ∧ S' = ai_wr S 4 (.inr (2, [.ref 5, ax_i 0]))) := by
  refine ai_rn_of (M := ai_m2) rfl (by decide) (Nat.le_of_ble_eq_true rfl) ?_
  refine aw_loc at_2_0 rfl rfl ?_
  refine aw_get at_2_1 rfl fl_0_19 h0 rfl ?_
  refine aw_pure (st' := ax_i (0) :: _) at_2_4 rfl rfl ?_
  refine aw_put at_2_5 rfl fl_0_68 hd.1 (Nat.le_of_ble_eq_true rfl) rfl (by decide +kernel) ?_
  exact aw_vret at_2_8 rfl ⟨_, _, rfl, rfl, rfl⟩
theorem r_steps {sx sc : Int} (h0 : tp S) (he : en S sx sc) : ai_rn L xs (d + 1) 3 [.ref 0] S (fun v S' => S' = S ∧ v = some (ax_i sc)) := by
  refine ai_rn_of (M := ai_m3) rfl (by decide) (Nat.le_of_ble_eq_true rfl) ?_
  refine aw_loc at_3_0 rfl rfl ?_
  refine aw_get at_3_1 rfl fl_0_40 h0 rfl ?_
  refine aw_get at_3_4 rfl fl_0_106 he rfl ?_
  exact ax_ret at_3_7 rfl ⟨_, _, rfl, rfl, rfl⟩
theorem r_rules {sx sc : Int} {ws : List (List Int × List Int)} (h0 : tp S) (he : en S sx sc) (hp : plv S 12 14 ws) : ai_rn L xs (d + 1) 4 [.ref 0] S (fun v S' => S' = S ∧ v = some (ax_i ws.length)) := by
  obtain ⟨f, g, h1, -⟩ := hp
  refine ai_rn_of (M := ai_m4) rfl (by decide) (Nat.le_of_ble_eq_true rfl) ?_
  refine aw_loc at_4_0 rfl rfl ?_
  refine aw_get at_4_1 rfl fl_0_40 h0 rfl ?_
  refine aw_get at_4_4 rfl fl_0_109 he rfl ?_
  refine aw_get at_4_7 rfl fl_0_95 h1 rfl ?_
  exact ax_ret at_4_10 rfl ⟨_, _, rfl, rfl, rfl⟩
theorem r_waiting {sx sc : Int} {ws : List (List Int × List Int)} (h0 : tp S) (he : en S sx sc) (hp : plv S 84 48 ws) : ai_rn L xs (d + 1) 5 [.ref 0] S (fun v S' => S' = S ∧ v = some (ax_i ws.length)) := by
  obtain ⟨f, g, h1, -⟩ := hp
  refine ai_rn_of (M := ai_m5) rfl (by decide) (Nat.le_of_ble_eq_true rfl) ?_
  refine aw_loc at_5_0 rfl rfl ?_
  refine aw_get at_5_1 rfl fl_0_40 h0 rfl ?_
  refine aw_get at_5_4 rfl fl_0_81 he rfl ?_
  refine aw_get at_5_7 rfl fl_0_95 h1 rfl ?_
  exact ax_ret at_5_10 rfl ⟨_, _, rfl, rfl, rfl⟩
theorem r_canStep {sx sc : Int} {ws : List (List Int × List Int)} (he : en S sx sc) (hx : 0 ≤ sx ∧ sx ≤ 3) (hp : plv S 84 48 ws) : ai_rn L xs (d + 1) 25 [.ref 11] S (fun v S' => S' = S ∧ ∃ r, v = some (ax_i r) ∧ bz r (sx = 0 ∧ 0 < ws.length)) := by
  obtain ⟨f, g, h1, -, -, -, -, -, h7, -⟩ := hp
  refine ai_rn_of (M := ai_m25) rfl (by decide) (Nat.le_of_ble_eq_true rfl) ?_
  refine aw_loc at_25_0 rfl rfl ?_
  refine aw_get at_25_1 rfl fl_2_47 he rfl ?_
  refine ax_if_ne at_25_4 ⟨by omega, by omega⟩ (fun z => ?_) (fun z => ?_)
  · skip
    refine aw_pure (st' := ax_i (0) :: _) at_25_21 rfl rfl ?_
    exact ax_retZ at_25_22 rfl (Or.inl rfl) ⟨_, _, rfl, rfl, 0, rfl, Or.inl ⟨rfl, fun h => z h.1⟩⟩
  · skip
    refine aw_loc at_25_7 rfl rfl ?_
    refine aw_get at_25_8 rfl fl_2_14 he rfl ?_
    refine aw_get at_25_11 rfl fl_2_82 h1 rfl ?_
    refine ax_if_le at_25_14 ⟨by omega, by omega⟩ (fun z2 => ?_) (fun z2 => ?_)
    · skip
      refine aw_pure (st' := ax_i (0) :: _) at_25_21 rfl rfl ?_
      exact ax_retZ at_25_22 rfl (Or.inl rfl) ⟨_, _, rfl, rfl, 0, rfl, Or.inl ⟨rfl, fun h => by have := h.2; omega⟩⟩
    · skip
      refine aw_pure (st' := ax_i (1) :: _) at_25_17 rfl rfl ?_
      refine aw_goto at_25_18 ?_
      exact ax_retZ at_25_22 rfl (Or.inr rfl) ⟨_, _, rfl, rfl, 1, rfl, Or.inr ⟨rfl, z, by omega⟩⟩
theorem r_m_wipe {T D n rc wt kp sx sc : Int} (ho : mo S T D n rc wt kp sx sc) : ai_rn L xs (d + 1) 102 [.ref 432] S (fun v S' => v = none ∧ S' = mo_put S 0 D 0 rc wt kp sx sc) := by
  have hl : 432 < S.1 := (ai_obj_inv ho).1
  refine ai_rn_of (M := ai_m102) rfl (by decide) (Nat.le_of_ble_eq_true rfl) ?_
  refine aw_loc at_102_0 rfl rfl ?_
  refine aw_pure (st' := ax_i (0) :: _) at_102_1 rfl rfl ?_
  refine aw_put at_102_2 rfl fl_12_68 ho (Nat.le_of_ble_eq_true rfl) rfl (by decide +kernel) ?_
  change ai_aw L xs d ai_m102 _ (5, _, _, mo_put S 0 D n rc wt kp sx sc)
  have ho2 := mo_get (T := 0) (D := D) (n := n) (rc := rc) (wt := wt) (kp := kp) (sx := sx) (sc := sc) hl
  refine aw_loc at_102_5 rfl rfl ?_
  refine aw_pure (st' := ax_i (0) :: _) at_102_6 rfl rfl ?_
  refine aw_put at_102_7 rfl fl_12_85 ho2 (Nat.le_of_ble_eq_true rfl) rfl (by decide +kernel) ?_
  change ai_aw L xs d ai_m102 _ (10, _, _, mo_put (mo_put S 0 D n rc wt kp sx sc) 0 D 0 rc wt kp sx sc)
  rw [mo_two]
  exact aw_vret at_102_10 rfl ⟨_, _, rfl, rfl, rfl⟩
theorem r_m_steps {T D n rc wt kp sx sc : Int} (ho : mo S T D n rc wt kp sx sc) : ai_rn L xs (d + 1) 148 [.ref 432] S (fun v S' => S' = mo_put S 0 D n rc wt kp sx sc ∧ v = some (ax_i sc)) := by
  have hl : 432 < S.1 := (ai_obj_inv ho).1
  refine ai_rn_of (M := ai_m148) rfl (by decide) (Nat.le_of_ble_eq_true rfl) ?_
  refine aw_loc at_148_0 rfl rfl ?_
  refine aw_pure (st' := ax_i (0) :: _) at_148_1 rfl rfl ?_
  refine aw_put at_148_2 rfl fl_12_68 ho (Nat.le_of_ble_eq_true rfl) rfl (by decide +kernel) ?_
  change ai_aw L xs d ai_m148 _ (5, _, _, mo_put S 0 D n rc wt kp sx sc)
  have ho2 := mo_get (T := 0) (D := D) (n := n) (rc := rc) (wt := wt) (kp := kp) (sx := sx) (sc := sc) hl
  refine aw_loc at_148_5 rfl rfl ?_
  refine aw_get at_148_6 rfl fl_12_220 ho2 rfl ?_
  exact ax_ret at_148_9 rfl ⟨_, _, rfl, rfl, rfl⟩
theorem r_m_rules {T D n rc wt kp sx sc : Int} (ho : mo S T D n rc wt kp sx sc) : ai_rn L xs (d + 1) 149 [.ref 432] S (fun v S' => S' = mo_put S 0 D n rc wt kp sx sc ∧ v = some (ax_i rc)) := by
  have hl : 432 < S.1 := (ai_obj_inv ho).1
  refine ai_rn_of (M := ai_m149) rfl (by decide) (Nat.le_of_ble_eq_true rfl) ?_
  refine aw_loc at_149_0 rfl rfl ?_
  refine aw_pure (st' := ax_i (0) :: _) at_149_1 rfl rfl ?_
  refine aw_put at_149_2 rfl fl_12_68 ho (Nat.le_of_ble_eq_true rfl) rfl (by decide +kernel) ?_
  change ai_aw L xs d ai_m149 _ (5, _, _, mo_put S 0 D n rc wt kp sx sc)
  have ho2 := mo_get (T := 0) (D := D) (n := n) (rc := rc) (wt := wt) (kp := kp) (sx := sx) (sc := sc) hl
  refine aw_loc at_149_5 rfl rfl ?_
  refine aw_get at_149_6 rfl fl_12_113 ho2 rfl ?_
  exact ax_ret at_149_9 rfl ⟨_, _, rfl, rfl, rfl⟩
theorem r_m_waiting {T D n rc wt kp sx sc : Int} (ho : mo S T D n rc wt kp sx sc) : ai_rn L xs (d + 1) 150 [.ref 432] S (fun v S' => S' = mo_put S 0 D n rc wt kp sx sc ∧ v = some (ax_i wt)) := by
  have hl : 432 < S.1 := (ai_obj_inv ho).1
  refine ai_rn_of (M := ai_m150) rfl (by decide) (Nat.le_of_ble_eq_true rfl) ?_
  refine aw_loc at_150_0 rfl rfl ?_
  refine aw_pure (st' := ax_i (0) :: _) at_150_1 rfl rfl ?_
  refine aw_put at_150_2 rfl fl_12_68 ho (Nat.le_of_ble_eq_true rfl) rfl (by decide +kernel) ?_
  change ai_aw L xs d ai_m150 _ (5, _, _, mo_put S 0 D n rc wt kp sx sc)
  have ho2 := mo_get (T := 0) (D := D) (n := n) (rc := rc) (wt := wt) (kp := kp) (sx := sx) (sc := sc) hl
  refine aw_loc at_150_5 rfl rfl ?_
  refine aw_get at_150_6 rfl fl_12_106 ho2 rfl ?_
  exact ax_ret at_150_9 rfl ⟨_, _, rfl, rfl, rfl⟩
theorem r_m_clear {T D n rc wt kp sx sc : Int} (ho : mo S T D n rc wt kp sx sc) : ai_rn L xs (d + 1) 157 [.ref 432] S (fun v S' => v = none ∧ S' = mo_put S 0 D n 0 0 kp 0 0) := by
  have hl : 432 < S.1 := (ai_obj_inv ho).1
  refine ai_rn_of (M := ai_m157) rfl (by decide) (Nat.le_of_ble_eq_true rfl) ?_
  refine aw_loc at_157_0 rfl rfl ?_
  refine aw_pure (st' := ax_i (0) :: _) at_157_1 rfl rfl ?_
  refine aw_put at_157_2 rfl fl_12_68 ho (Nat.le_of_ble_eq_true rfl) rfl (by decide +kernel) ?_
  change ai_aw L xs d ai_m157 _ (5, _, _, mo_put S 0 D n rc wt kp sx sc)
  have h2 := mo_get (S := S) (T := 0) (D := D) (n := n) (rc := rc) (wt := wt) (kp := kp) (sx := sx) (sc := sc) hl
  refine aw_loc at_157_5 rfl rfl ?_
  refine aw_pure (st' := ax_i (0) :: _) at_157_6 rfl rfl ?_
  refine aw_put at_157_7 rfl fl_12_113 h2 (Nat.le_of_ble_eq_true rfl) rfl (by decide +kernel) ?_
  change ai_aw L xs d ai_m157 _ (10, _, _, mo_put (mo_put S 0 D n rc wt kp sx sc) 0 D n 0 wt kp sx sc)
  rw [mo_two]
  have h7 := mo_get (S := S) (T := 0) (D := D) (n := n) (rc := 0) (wt := wt) (kp := kp) (sx := sx) (sc := sc) hl
  refine aw_loc at_157_10 rfl rfl ?_
  refine aw_pure (st' := ax_i (0) :: _) at_157_11 rfl rfl ?_
  refine aw_put at_157_12 rfl fl_12_106 h7 (Nat.le_of_ble_eq_true rfl) rfl (by decide +kernel) ?_
  change ai_aw L xs d ai_m157 _ (15, _, _, mo_put (mo_put S 0 D n 0 wt kp sx sc) 0 D n 0 0 kp sx sc)
  rw [mo_two]
  have h12 := mo_get (S := S) (T := 0) (D := D) (n := n) (rc := 0) (wt := 0) (kp := kp) (sx := sx) (sc := sc) hl
  refine aw_loc at_157_15 rfl rfl ?_
  refine aw_pure (st' := ax_i (0) :: _) at_157_16 rfl rfl ?_
  refine aw_put at_157_17 rfl fl_12_150 h12 (Nat.le_of_ble_eq_true rfl) rfl (by decide +kernel) ?_
  change ai_aw L xs d ai_m157 _ (20, _, _, mo_put (mo_put S 0 D n 0 0 kp sx sc) 0 D n 0 0 kp 0 sc)
  rw [mo_two]
  have h17 := mo_get (S := S) (T := 0) (D := D) (n := n) (rc := 0) (wt := 0) (kp := kp) (sx := 0) (sc := sc) hl
  refine aw_loc at_157_20 rfl rfl ?_
  refine aw_pure (st' := ax_i (0) :: _) at_157_21 rfl rfl ?_
  refine aw_put at_157_22 rfl fl_12_220 h17 (Nat.le_of_ble_eq_true rfl) rfl (by decide +kernel) ?_
  change ai_aw L xs d ai_m157 _ (25, _, _, mo_put (mo_put S 0 D n 0 0 kp 0 sc) 0 D n 0 0 kp 0 0)
  rw [mo_two]
  have h22 := mo_get (S := S) (T := 0) (D := D) (n := n) (rc := 0) (wt := 0) (kp := kp) (sx := 0) (sc := 0) hl
  exact aw_vret at_157_25 rfl ⟨_, _, rfl, rfl, rfl⟩
end SH

/-! The reference: a row copied; two rows alike. -/
section MC
variable {L : Nat} {xs : Nat → Int32} {d : Nat} {S : ai_S}
theorem at_123_0 : ai_at ai_m123 0 = some (.aload_n 0, 1) := rfl
theorem at_123_1 : ai_at ai_m123 1 = some (.getfield 40, 3) := rfl
theorem at_123_4 : ai_at ai_m123 4 = some (.iload_n 2, 1) := rfl
theorem at_123_5 : ai_at ai_m123 5 = some (.aload_n 0, 1) := rfl
theorem at_123_6 : ai_at ai_m123 6 = some (.getfield 40, 3) := rfl
theorem at_123_9 : ai_at ai_m123 9 = some (.iload_n 1, 1) := rfl
theorem at_123_10 : ai_at ai_m123 10 = some (.iaload, 1) := rfl
theorem at_123_11 : ai_at ai_m123 11 = some (.iastore, 1) := rfl
theorem at_123_12 : ai_at ai_m123 12 = some (.iconst 0, 1) := rfl
theorem at_123_13 : ai_at ai_m123 13 = some (.istore_n 3, 1) := rfl
theorem at_123_14 : ai_at ai_m123 14 = some (.iload_n 3, 1) := rfl
theorem at_123_15 : ai_at ai_m123 15 = some (.aload_n 0, 1) := rfl
theorem at_123_16 : ai_at ai_m123 16 = some (.getfield 40, 3) := rfl
theorem at_123_19 : ai_at ai_m123 19 = some (.iload_n 1, 1) := rfl
theorem at_123_20 : ai_at ai_m123 20 = some (.iaload, 1) := rfl
theorem at_123_21 : ai_at ai_m123 21 = some (.if_icmp .ge 31, 3) := rfl
theorem at_123_24 : ai_at ai_m123 24 = some (.aload_n 0, 1) := rfl
theorem at_123_25 : ai_at ai_m123 25 = some (.getfield 37, 3) := rfl
theorem at_123_28 : ai_at ai_m123 28 = some (.bipush 64, 2) := rfl
theorem at_123_30 : ai_at ai_m123 30 = some (.iload_n 2, 1) := rfl
theorem at_123_31 : ai_at ai_m123 31 = some (.imul, 1) := rfl
theorem at_123_32 : ai_at ai_m123 32 = some (.iload_n 3, 1) := rfl
theorem at_123_33 : ai_at ai_m123 33 = some (.iadd, 1) := rfl
theorem at_123_34 : ai_at ai_m123 34 = some (.aload_n 0, 1) := rfl
theorem at_123_35 : ai_at ai_m123 35 = some (.getfield 37, 3) := rfl
theorem at_123_38 : ai_at ai_m123 38 = some (.bipush 64, 2) := rfl
theorem at_123_40 : ai_at ai_m123 40 = some (.iload_n 1, 1) := rfl
theorem at_123_41 : ai_at ai_m123 41 = some (.imul, 1) := rfl
theorem at_123_42 : ai_at ai_m123 42 = some (.iload_n 3, 1) := rfl
theorem at_123_43 : ai_at ai_m123 43 = some (.iadd, 1) := rfl
theorem at_123_44 : ai_at ai_m123 44 = some (.iaload, 1) := rfl
theorem at_123_45 : ai_at ai_m123 45 = some (.iastore, 1) := rfl
theorem at_123_46 : ai_at ai_m123 46 = some (.iinc 3 1, 3) := rfl
theorem at_123_49 : ai_at ai_m123 49 = some (.goto (-35), 3) := rfl
theorem at_123_52 : ai_at ai_m123 52 = some (.return_, 1) := rfl
set_option maxHeartbeats 2000000 in
theorem r_m_copy1 {T D n rc wt kp sx sc : Int} (ho : mo S T D n rc wt kp sx sc) {X Z : Nat → Int} {t s z : Nat} (ht : t < 3) (hs : s < 3) (hst : t ≠ s) (hz : Z t = (z : Int)) (hz2 : z ≤ 64) (hl : 443 < S.1) : ∀ (k j : Nat), j + k = z → ai_aw L xs d ai_m123 (fun o => ∃ v S', o = (.inl v, S') ∧ v = none ∧ S' = mt_put S (ow X (64 * s) (fun i => X (64 * t + i)) z) (ax_up Z s (z : Nat))) (14, [some (.ref 432), some (ax_i (t : Nat)), some (ax_i (s : Nat)), some (ax_i (j : Nat))], [], mt_put S (ow X (64 * s) (fun i => X (64 * t + i)) j) (ax_up Z s (z : Nat))) := by
  intro k
  induction k with
  | zero =>
    intro j hj
    have hjz : j = z := by omega
    subst hjz
    have ho2 := (mt_obj (X := ow X (64 * s) (fun i => X (64 * t + i)) j) (Z := ax_up Z s (j : Nat)) (show 432 ≠ 442 by decide) (show 432 ≠ 443 by decide)).trans ho
    have hZ2 := mt_Z (X := ow X (64 * s) (fun i => X (64 * t + i)) j) (Z := ax_up Z s (j : Nat)) hl
    have hzt : ax_up Z s ((j : Nat) : Int) t = ((j : Nat) : Int) := by unfold ax_up; rw [if_neg hst]; exact hz
    refine aw_loc at_123_14 rfl rfl ?_
    refine aw_loc at_123_15 rfl rfl ?_
    refine aw_get at_123_16 rfl fl_12_40 ho2 rfl ?_
    refine aw_loc at_123_19 rfl rfl ?_
    refine ax_ild at_123_20 rfl hZ2 (k := t) rfl (by omega) (by decide) ?_
    rw [hzt]
    refine ax_icmp_ge at_123_21 ⟨by omega, by omega⟩ ⟨by omega, by omega⟩ (fun _ => ?_) (fun h9 => absurd h9 (by omega))
    exact aw_vret at_123_52 rfl ⟨_, _, rfl, rfl, rfl⟩
  | succ k ih =>
    intro j hj
    have ho2 := (mt_obj (X := ow X (64 * s) (fun i => X (64 * t + i)) j) (Z := ax_up Z s (z : Nat)) (show 432 ≠ 442 by decide) (show 432 ≠ 443 by decide)).trans ho
    have hZ2 := mt_Z (X := ow X (64 * s) (fun i => X (64 * t + i)) j) (Z := ax_up Z s (z : Nat)) hl
    have hX2 := mt_X (X := ow X (64 * s) (fun i => X (64 * t + i)) j) (Z := ax_up Z s (z : Nat)) hl
    have hzt : ax_up Z s ((z : Nat) : Int) t = ((z : Nat) : Int) := by unfold ax_up; rw [if_neg hst]; exact hz
    refine aw_loc at_123_14 rfl rfl ?_
    refine aw_loc at_123_15 rfl rfl ?_
    refine aw_get at_123_16 rfl fl_12_40 ho2 rfl ?_
    refine aw_loc at_123_19 rfl rfl ?_
    refine ax_ild at_123_20 rfl hZ2 (k := t) rfl (by omega) (by decide) ?_
    rw [hzt]
    refine ax_icmp_ge at_123_21 ⟨by omega, by omega⟩ ⟨by omega, by omega⟩ (fun h9 => absurd h9 (by omega)) (fun _ => ?_)
    refine aw_loc at_123_24 rfl rfl ?_
    refine aw_get at_123_25 rfl fl_12_37 ho2 rfl ?_
    refine aw_pure (st' := ax_i (64) :: _) at_123_28 rfl rfl ?_
    refine aw_loc at_123_30 rfl rfl ?_
    refine ax_mul at_123_31 rfl ?_
    refine aw_loc at_123_32 rfl rfl ?_
    refine ax_add at_123_33 rfl ?_
    refine aw_loc at_123_34 rfl rfl ?_
    refine aw_get at_123_35 rfl fl_12_37 ho2 rfl ?_
    refine aw_pure (st' := ax_i (64) :: _) at_123_38 rfl rfl ?_
    refine aw_loc at_123_40 rfl rfl ?_
    refine ax_mul at_123_41 rfl ?_
    refine aw_loc at_123_42 rfl rfl ?_
    refine ax_add at_123_43 rfl ?_
    refine ax_ild at_123_44 rfl hX2 (k := 64 * t + j) (by omega) (by omega) (by decide) ?_
    have hsrc : ow X (64 * s) (fun i => X (64 * t + i)) j (64 * t + j) = X (64 * t + j) := if_neg (by omega)
    rw [hsrc]
    refine ax_ist (k := 64 * s + j) at_123_45 rfl hX2 (by omega) (by omega) (by decide) ?_
    have e0 : ai_wr (mt_put S (ow X (64 * s) (fun i => X (64 * t + i)) j) (ax_up Z s (z : Nat))) 442 (.inl (0, ai_I 192 (ax_f (ax_up (ow X (64 * s) (fun i => X (64 * t + i)) j) (64 * s + j) (X (64 * t + j)))))) = mt_put S (ow X (64 * s) (fun i => X (64 * t + i)) (j + 1)) (ax_up Z s (z : Nat)) := by
      rw [show ax_up (ow X (64 * s) (fun i => X (64 * t + i)) j) (64 * s + j) (X (64 * t + j)) = ow X (64 * s) (fun i => X (64 * t + i)) (j + 1) from ow_succ X (64 * s) (fun i => X (64 * t + i)) j]
      unfold mt_put
      rw [ai_wr_comm _ (show 443 ≠ 442 by decide), ai_wr_wr]
    rw [e0]
    refine ax_inc at_123_46 rfl rfl rfl ?_
    refine aw_goto at_123_49 ?_
    have := ih (j + 1) (by omega)
    rw [Int.natCast_add] at this
    exact this
set_option maxHeartbeats 2000000 in
theorem r_m_copy {T D n rc wt kp sx sc : Int} (ho : mo S T D n rc wt kp sx sc) {X Z : Nat → Int} {t s z : Nat} (ht : t < 3) (hs : s < 3) (hst : t ≠ s) (hz : Z t = (z : Int)) (hz2 : z ≤ 64) (hX : ai_arr S 442 0 = some (192, ax_f X)) (hZ : ai_arr S 443 0 = some (3, ax_f Z)) : ai_rn L xs (d + 1) 123 [.ref 432, ax_i (t : Nat), ax_i (s : Nat)] S (fun v S' => v = none ∧ S' = mt_put S (ow X (64 * s) (fun i => X (64 * t + i)) z) (ax_up Z s (z : Nat))) := by
  have hl : 443 < S.1 := (ai_arr_inv hZ).1
  refine ai_rn_of (M := ai_m123) rfl (by decide) (Nat.le_of_ble_eq_true rfl) ?_
  refine aw_loc at_123_0 rfl rfl ?_
  refine aw_get at_123_1 rfl fl_12_40 ho rfl ?_
  refine aw_loc at_123_4 rfl rfl ?_
  refine aw_loc at_123_5 rfl rfl ?_
  refine aw_get at_123_6 rfl fl_12_40 ho rfl ?_
  refine aw_loc at_123_9 rfl rfl ?_
  refine ax_ild at_123_10 rfl hZ (k := t) rfl (by omega) (by decide) ?_
  rw [hz]
  refine ax_ist (k := s) at_123_11 rfl hZ rfl (by omega) (by decide) ?_
  have e0 : ai_wr S 443 (.inl (0, ai_I 3 (ax_f (ax_up Z s (z : Nat))))) = mt_put S (ow X (64 * s) (fun i => X (64 * t + i)) 0) (ax_up Z s (z : Nat)) := by
    rw [ow_zero]
    unfold mt_put
    rw [ai_wr_id (ai_arr_inv hX).2]
  rw [e0]
  refine aw_pure (st' := ax_i (0) :: _) at_123_12 rfl rfl ?_
  refine aw_loc at_123_13 rfl rfl ?_
  exact r_m_copy1 ho ht hs hst hz hz2 hl z 0 (by omega)
end MC

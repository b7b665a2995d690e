/-! The reference: two rows alike; rows exchanged. -/
section ME
variable {L : Nat} {xs : Nat → Int32} {d : Nat} {S : ai_S}
theorem at_124_0 : ai_at ai_m124 0 = some (.aload_n 0, 1) := rfl
theorem at_124_1 : ai_at ai_m124 1 = some (.getfield 40, 3) := rfl
theorem at_124_4 : ai_at ai_m124 4 = some (.iload_n 1, 1) := rfl
theorem at_124_5 : ai_at ai_m124 5 = some (.iaload, 1) := rfl
theorem at_124_6 : ai_at ai_m124 6 = some (.aload_n 0, 1) := rfl
theorem at_124_7 : ai_at ai_m124 7 = some (.getfield 40, 3) := rfl
theorem at_124_10 : ai_at ai_m124 10 = some (.iload_n 2, 1) := rfl
theorem at_124_11 : ai_at ai_m124 11 = some (.iaload, 1) := rfl
theorem at_124_12 : ai_at ai_m124 12 = some (.if_icmp .ne 7, 3) := rfl
theorem at_124_15 : ai_at ai_m124 15 = some (.iconst 1, 1) := rfl
theorem at_124_16 : ai_at ai_m124 16 = some (.goto 4, 3) := rfl
theorem at_124_19 : ai_at ai_m124 19 = some (.iconst 0, 1) := rfl
theorem at_124_20 : ai_at ai_m124 20 = some (.istore_n 3, 1) := rfl
theorem at_124_21 : ai_at ai_m124 21 = some (.iconst 0, 1) := rfl
theorem at_124_22 : ai_at ai_m124 22 = some (.istore 4, 2) := rfl
theorem at_124_24 : ai_at ai_m124 24 = some (.iload 4, 2) := rfl
theorem at_124_26 : ai_at ai_m124 26 = some (.aload_n 0, 1) := rfl
theorem at_124_27 : ai_at ai_m124 27 = some (.getfield 40, 3) := rfl
theorem at_124_30 : ai_at ai_m124 30 = some (.iload_n 1, 1) := rfl
theorem at_124_31 : ai_at ai_m124 31 = some (.iaload, 1) := rfl
theorem at_124_32 : ai_at ai_m124 32 = some (.if_icmp .ge 46, 3) := rfl
theorem at_124_35 : ai_at ai_m124 35 = some (.iload_n 3, 1) := rfl
theorem at_124_36 : ai_at ai_m124 36 = some (.ifCond .eq 42, 3) := rfl
theorem at_124_39 : ai_at ai_m124 39 = some (.aload_n 0, 1) := rfl
theorem at_124_40 : ai_at ai_m124 40 = some (.getfield 37, 3) := rfl
theorem at_124_43 : ai_at ai_m124 43 = some (.bipush 64, 2) := rfl
theorem at_124_45 : ai_at ai_m124 45 = some (.iload_n 1, 1) := rfl
theorem at_124_46 : ai_at ai_m124 46 = some (.imul, 1) := rfl
theorem at_124_47 : ai_at ai_m124 47 = some (.iload 4, 2) := rfl
theorem at_124_49 : ai_at ai_m124 49 = some (.iadd, 1) := rfl
theorem at_124_50 : ai_at ai_m124 50 = some (.iaload, 1) := rfl
theorem at_124_51 : ai_at ai_m124 51 = some (.aload_n 0, 1) := rfl
theorem at_124_52 : ai_at ai_m124 52 = some (.getfield 37, 3) := rfl
theorem at_124_55 : ai_at ai_m124 55 = some (.bipush 64, 2) := rfl
theorem at_124_57 : ai_at ai_m124 57 = some (.iload_n 2, 1) := rfl
theorem at_124_58 : ai_at ai_m124 58 = some (.imul, 1) := rfl
theorem at_124_59 : ai_at ai_m124 59 = some (.iload 4, 2) := rfl
theorem at_124_61 : ai_at ai_m124 61 = some (.iadd, 1) := rfl
theorem at_124_62 : ai_at ai_m124 62 = some (.iaload, 1) := rfl
theorem at_124_63 : ai_at ai_m124 63 = some (.if_icmp .ne 7, 3) := rfl
theorem at_124_66 : ai_at ai_m124 66 = some (.iconst 1, 1) := rfl
theorem at_124_67 : ai_at ai_m124 67 = some (.goto 4, 3) := rfl
theorem at_124_70 : ai_at ai_m124 70 = some (.iconst 0, 1) := rfl
theorem at_124_71 : ai_at ai_m124 71 = some (.istore_n 3, 1) := rfl
theorem at_124_72 : ai_at ai_m124 72 = some (.iinc 4 1, 3) := rfl
theorem at_124_75 : ai_at ai_m124 75 = some (.goto (-51), 3) := rfl
theorem at_124_78 : ai_at ai_m124 78 = some (.iload_n 3, 1) := rfl
theorem at_124_79 : ai_at ai_m124 79 = some (.ireturn, 1) := rfl
set_option maxHeartbeats 2000000 in
theorem r_m_alike1 {T D n rc wt kp sx sc : Int} (ho : mo S T D n rc wt kp sx sc) {X Z : Nat → Int} {t s zt zs : Nat} (hX : ai_arr S 442 0 = some (192, ax_f X)) (hXr : ∀ i, 0 ≤ X i ∧ X i < 1000) (hZ : ai_arr S 443 0 = some (3, ax_f Z)) (ht : t < 3) (hs : s < 3) (hzt : Z t = (zt : Int)) (hzs : Z s = (zs : Int)) (h1 : zt ≤ 64) (h2 : zs ≤ 64) : ∀ (k j : Nat) (b : Int), j + k = zt → bz b (zt = zs ∧ ∀ i, i < j → X (64 * t + i) = X (64 * s + i)) → ai_aw L xs d ai_m124 (fun o => ∃ v S', o = (.inl v, S') ∧ S' = S ∧ ∃ z, v = some (ax_i z) ∧ bz z (zt = zs ∧ ∀ i, i < zt → X (64 * t + i) = X (64 * s + i))) (24, [some (.ref 432), some (ax_i (t : Nat)), some (ax_i (s : Nat)), some (ax_i b), some (ax_i (j : Nat))], [], S) := by
  intro k
  induction k with
  | zero =>
    intro j b hj hb
    have hjz : j = zt := by omega
    have hbl := hb.le
    refine aw_loc at_124_24 rfl rfl ?_
    refine aw_loc at_124_26 rfl rfl ?_
    refine aw_get at_124_27 rfl fl_12_40 ho rfl ?_
    refine aw_loc at_124_30 rfl rfl ?_
    refine ax_ild at_124_31 rfl hZ (k := t) rfl (by omega) (by decide) ?_
    rw [hzt]
    refine ax_icmp_ge at_124_32 ⟨by omega, by omega⟩ ⟨by omega, by omega⟩ (fun _ => ?_) (fun h9 => absurd h9 (by omega))
    show ai_aw L xs d ai_m124 _ (78, _, _, _)
    refine aw_loc at_124_78 rfl rfl ?_
    exact ax_retZ at_124_79 rfl hbl ⟨_, _, rfl, rfl, b, rfl, by rw [hjz] at hb; exact hb⟩
  | succ k ih =>
    intro j b hj hb
    have hbl := hb.le
    have hx1 := hXr (64 * t + j)
    have hx2 := hXr (64 * s + j)
    refine aw_loc at_124_24 rfl rfl ?_
    refine aw_loc at_124_26 rfl rfl ?_
    refine aw_get at_124_27 rfl fl_12_40 ho rfl ?_
    refine aw_loc at_124_30 rfl rfl ?_
    refine ax_ild at_124_31 rfl hZ (k := t) rfl (by omega) (by decide) ?_
    rw [hzt]
    refine ax_icmp_ge at_124_32 ⟨by omega, by omega⟩ ⟨by omega, by omega⟩ (fun h9 => absurd h9 (by omega)) (fun _ => ?_)
    refine aw_loc at_124_35 rfl rfl ?_
    refine ax_if_eq at_124_36 ⟨by omega, by omega⟩ (fun h0 => ?_) (fun h0 => ?_)
    · skip
      have hno : ¬ (zt = zs ∧ ∀ i, i < zt → X (64 * t + i) = X (64 * s + i)) := by
        rcases hb with ⟨-, h9⟩ | ⟨h9, -⟩
        · exact fun h => h9 ⟨h.1, fun i hi => h.2 i (by omega)⟩
        · omega
      refine aw_loc at_124_78 rfl rfl ?_
      exact ax_retZ at_124_79 rfl hbl ⟨_, _, rfl, rfl, b, rfl, Or.inl ⟨h0, hno⟩⟩
    · skip
      have hall : (zt = zs ∧ ∀ i, i < j → X (64 * t + i) = X (64 * s + i)) := by
        rcases hb with ⟨h9, -⟩ | ⟨-, h9⟩
        · exact absurd h9 h0
        · exact h9
      refine aw_loc at_124_39 rfl rfl ?_
      refine aw_get at_124_40 rfl fl_12_37 ho rfl ?_
      refine aw_pure (st' := ax_i (64) :: _) at_124_43 rfl rfl ?_
      refine aw_loc at_124_45 rfl rfl ?_
      refine ax_mul at_124_46 rfl ?_
      refine aw_loc at_124_47 rfl rfl ?_
      refine ax_add at_124_49 rfl ?_
      refine ax_ild at_124_50 rfl hX (k := 64 * t + j) (by omega) (by omega) (by decide) ?_
      refine aw_loc at_124_51 rfl rfl ?_
      refine aw_get at_124_52 rfl fl_12_37 ho rfl ?_
      refine aw_pure (st' := ax_i (64) :: _) at_124_55 rfl rfl ?_
      refine aw_loc at_124_57 rfl rfl ?_
      refine ax_mul at_124_58 rfl ?_
      refine aw_loc at_124_59 rfl rfl ?_
      refine ax_add at_124_61 rfl ?_
      refine ax_ild at_124_62 rfl hX (k := 64 * s + j) (by omega) (by omega) (by decide) ?_
      refine ax_icmp_ne at_124_63 ⟨by omega, by omega⟩ ⟨by omega, by omega⟩ (fun h1 => ?_) (fun h1 => ?_)
      · skip
        refine aw_pure (st' := ax_i (0) :: _) at_124_70 rfl rfl ?_
        refine aw_loc at_124_71 rfl rfl ?_
        refine ax_inc at_124_72 rfl rfl rfl ?_
        refine aw_goto at_124_75 ?_
        have := ih (j + 1) 0 (by omega) ?_
        · rw [Int.natCast_add] at this; exact this
        · exact Or.inl ⟨rfl, fun h => h1 (h.2 j (by omega))⟩
      · skip
        refine aw_pure (st' := ax_i (1) :: _) at_124_66 rfl rfl ?_
        refine aw_goto at_124_67 ?_
        refine aw_loc at_124_71 rfl rfl ?_
        refine ax_inc at_124_72 rfl rfl rfl ?_
        refine aw_goto at_124_75 ?_
        have := ih (j + 1) 1 (by omega) ?_
        · rw [Int.natCast_add] at this; exact this
        · refine Or.inr ⟨rfl, hall.1, fun i hi => ?_⟩
          by_cases hij : i = j
          · subst hij; exact h1
          · exact hall.2 i (by omega)
set_option maxHeartbeats 2000000 in
theorem r_m_alike {T D n rc wt kp sx sc : Int} (ho : mo S T D n rc wt kp sx sc) {X Z : Nat → Int} {t s zt zs : Nat} (hX : ai_arr S 442 0 = some (192, ax_f X)) (hXr : ∀ i, 0 ≤ X i ∧ X i < 1000) (hZ : ai_arr S 443 0 = some (3, ax_f Z)) (ht : t < 3) (hs : s < 3) (hzt : Z t = (zt : Int)) (hzs : Z s = (zs : Int)) (h1 : zt ≤ 64) (h2 : zs ≤ 64) : ai_rn L xs (d + 1) 124 [.ref 432, ax_i (t : Nat), ax_i (s : Nat)] S (fun v S' => S' = S ∧ ∃ z, v = some (ax_i z) ∧ bz z (zt = zs ∧ ∀ i, i < zt → X (64 * t + i) = X (64 * s + i))) := by
  refine ai_rn_of (M := ai_m124) rfl (by decide) (Nat.le_of_ble_eq_true rfl) ?_
  refine aw_loc at_124_0 rfl rfl ?_
  refine aw_get at_124_1 rfl fl_12_40 ho rfl ?_
  refine aw_loc at_124_4 rfl rfl ?_
  refine ax_ild at_124_5 rfl hZ (k := t) rfl (by omega) (by decide) ?_
  refine aw_loc at_124_6 rfl rfl ?_
  refine aw_get at_124_7 rfl fl_12_40 ho rfl ?_
  refine aw_loc at_124_10 rfl rfl ?_
  refine ax_ild at_124_11 rfl hZ (k := s) rfl (by omega) (by decide) ?_
  rw [hzt, hzs]
  refine ax_icmp_ne at_124_12 ⟨by omega, by omega⟩ ⟨by omega, by omega⟩ (fun h0 => ?_) (fun h0 => ?_)
  · skip
    refine aw_pure (st' := ax_i (0) :: _) at_124_19 rfl rfl ?_
    refine aw_loc at_124_20 rfl rfl ?_
    refine aw_pure (st' := ax_i (0) :: _) at_124_21 rfl rfl ?_
    refine aw_loc at_124_22 rfl rfl ?_
    exact r_m_alike1 ho hX hXr hZ ht hs hzt hzs h1 h2 zt 0 0 (by omega) (Or.inl ⟨rfl, fun h => h0 (by rw [h.1])⟩)
  · skip
    refine aw_pure (st' := ax_i (1) :: _) at_124_15 rfl rfl ?_
    refine aw_goto at_124_16 ?_
    refine aw_loc at_124_20 rfl rfl ?_
    refine aw_pure (st' := ax_i (0) :: _) at_124_21 rfl rfl ?_
    refine aw_loc at_124_22 rfl rfl ?_
    exact r_m_alike1 ho hX hXr hZ ht hs hzt hzs h1 h2 zt 0 1 (by omega) (Or.inr ⟨rfl, by omega, fun i hi => absurd hi (Nat.not_lt_zero i)⟩)
end ME

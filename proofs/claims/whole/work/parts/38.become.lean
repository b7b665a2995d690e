/-! The draft becomes a term. -/
section BE
variable {L : Nat} {xs : Nat → Int32} {d : Nat} {S : ai_S}
def dv_put (S : ai_S) (C : Nat → Int) (n : Nat) : ai_S := ai_wr (ai_wr S 5 (.inl (1, ai_I 60 (ax_f C)))) 4 (.inr (2, [.ref 5, ax_i n]))
theorem at_21_0 : ai_at ai_m21 0 = some (.iconst 0, 1) := rfl
theorem at_21_1 : ai_at ai_m21 1 = some (.istore_n 2, 1) := rfl
theorem at_21_2 : ai_at ai_m21 2 = some (.iload_n 2, 1) := rfl
theorem at_21_3 : ai_at ai_m21 3 = some (.aload_n 1, 1) := rfl
theorem at_21_4 : ai_at ai_m21 4 = some (.getfield 25, 3) := rfl
theorem at_21_7 : ai_at ai_m21 7 = some (.if_icmp .ge 27, 3) := rfl
theorem at_21_10 : ai_at ai_m21 10 = some (.iload_n 2, 1) := rfl
theorem at_21_11 : ai_at ai_m21 11 = some (.bipush 24, 2) := rfl
theorem at_21_13 : ai_at ai_m21 13 = some (.if_icmp .ge 21, 3) := rfl
theorem at_21_16 : ai_at ai_m21 16 = some (.aload_n 0, 1) := rfl
theorem at_21_17 : ai_at ai_m21 17 = some (.getfield 9, 3) := rfl
theorem at_21_20 : ai_at ai_m21 20 = some (.iload_n 2, 1) := rfl
theorem at_21_21 : ai_at ai_m21 21 = some (.aload_n 1, 1) := rfl
theorem at_21_22 : ai_at ai_m21 22 = some (.getfield 30, 3) := rfl
theorem at_21_25 : ai_at ai_m21 25 = some (.iload_n 2, 1) := rfl
theorem at_21_26 : ai_at ai_m21 26 = some (.caload, 1) := rfl
theorem at_21_27 : ai_at ai_m21 27 = some (.castore, 1) := rfl
theorem at_21_28 : ai_at ai_m21 28 = some (.iinc 2 1, 3) := rfl
theorem at_21_31 : ai_at ai_m21 31 = some (.goto (-29), 3) := rfl
theorem at_21_34 : ai_at ai_m21 34 = some (.aload_n 0, 1) := rfl
theorem at_21_35 : ai_at ai_m21 35 = some (.aload_n 1, 1) := rfl
theorem at_21_36 : ai_at ai_m21 36 = some (.getfield 25, 3) := rfl
theorem at_21_39 : ai_at ai_m21 39 = some (.putfield 15, 3) := rfl
theorem at_21_42 : ai_at ai_m21 42 = some (.return_, 1) := rfl
theorem fl_1_30 : ai_fld 1 30 = some (4, 0, true) := by decide +kernel
set_option maxHeartbeats 2000000 in
theorem r_become1 {C T : Nat → Int} {n a m : Nat} (hd : dv S C n) (ht : tm S a T m) (hT : ∀ i, 0 ≤ T i ∧ T i < 65536) (hm : m ≤ 24) (ha : 5 < a) (hl : 5 < S.1) : ∀ (k j : Nat), j + k = m → ai_aw L xs d ai_m21 (fun o => ∃ v S', o = (.inl v, S') ∧ v = none ∧ S' = dv_put S (ow C 0 T m) m) (2, [some (.ref 4), some (.ref a), some (ax_i (j : Nat))], [], ai_wr S 5 (.inl (1, ai_I 60 (ax_f (ow C 0 T j))))) := by
  intro k
  induction k with
  | zero =>
    intro j hj
    have hjm : j = m := by omega
    have hd2 := (ai_obj_wr (a := 5) (x := .inl (1, ai_I 60 (ax_f (ow C 0 T j)))) (show 4 ≠ 5 by decide)).trans hd.1
    have ht2 : tm (ai_wr S 5 (.inl (1, ai_I 60 (ax_f (ow C 0 T j))))) a T m := ⟨(ai_obj_wr (by omega)).trans ht.1, (ai_arr_wr (by omega)).trans ht.2⟩
    have hC2 : ai_arr (ai_wr S 5 (.inl (1, ai_I 60 (ax_f (ow C 0 T j))))) 5 1 = some (60, ax_f (ow C 0 T j)) := ai_arr_wrS hl
    refine aw_loc at_21_2 rfl rfl ?_
    refine aw_loc at_21_3 rfl rfl ?_
    refine aw_get at_21_4 rfl fl_1_25 ht2.1 rfl ?_
    refine ax_icmp_ge at_21_7 ⟨by omega, by omega⟩ ⟨by omega, by omega⟩ (fun _ => ?_) (fun z => absurd z (by omega))
    show ai_aw L xs d ai_m21 _ (34, _, _, _)
    refine aw_loc at_21_34 rfl rfl ?_
    refine aw_loc at_21_35 rfl rfl ?_
    refine aw_get at_21_36 rfl fl_1_25 ht2.1 rfl ?_
    refine aw_put at_21_39 rfl fl_1_15 hd2 (Nat.le_of_ble_eq_true rfl) rfl (by decide +kernel) ?_
    exact aw_vret at_21_42 rfl ⟨_, _, rfl, rfl, by rw [hjm]; rfl⟩
  | succ k ih =>
    intro j hj
    have hd2 := (ai_obj_wr (a := 5) (x := .inl (1, ai_I 60 (ax_f (ow C 0 T j)))) (show 4 ≠ 5 by decide)).trans hd.1
    have ht2 : tm (ai_wr S 5 (.inl (1, ai_I 60 (ax_f (ow C 0 T j))))) a T m := ⟨(ai_obj_wr (by omega)).trans ht.1, (ai_arr_wr (by omega)).trans ht.2⟩
    have hC2 : ai_arr (ai_wr S 5 (.inl (1, ai_I 60 (ax_f (ow C 0 T j))))) 5 1 = some (60, ax_f (ow C 0 T j)) := ai_arr_wrS hl
    refine aw_loc at_21_2 rfl rfl ?_
    refine aw_loc at_21_3 rfl rfl ?_
    refine aw_get at_21_4 rfl fl_1_25 ht2.1 rfl ?_
    refine ax_icmp_ge at_21_7 ⟨by omega, by omega⟩ ⟨by omega, by omega⟩ (fun z => absurd z (by omega)) (fun _ => ?_)
    refine aw_loc at_21_10 rfl rfl ?_
    refine aw_pure (st' := ax_i (24) :: _) at_21_11 rfl rfl ?_
    refine ax_icmp_ge at_21_13 ⟨by omega, by omega⟩ ⟨by omega, by omega⟩ (fun z => absurd z (by omega)) (fun _ => ?_)
    refine aw_loc at_21_16 rfl rfl ?_
    refine aw_get at_21_17 rfl fl_1_9 hd2 rfl ?_
    refine aw_loc at_21_20 rfl rfl ?_
    refine aw_loc at_21_21 rfl rfl ?_
    refine aw_get at_21_22 rfl fl_1_30 ht2.1 rfl ?_
    refine aw_loc at_21_25 rfl rfl ?_
    refine ax_cld at_21_26 rfl ht2.2 (k := j) rfl (by omega) (by decide) ?_
    refine ax_cst (k := j) at_21_27 rfl hC2 rfl (by omega) (by decide) (hT j) ?_
    rw [ai_wr_wr, show ax_up (ow C 0 T j) j (T j) = ow C 0 T (j + 1) by have := ow_succ C 0 T j; rw [Nat.zero_add] at this; exact this]
    refine ax_inc at_21_28 rfl rfl rfl ?_
    refine aw_goto at_21_31 ?_
    have := ih (j + 1) (by omega)
    rw [Int.natCast_add] at this
    exact this
theorem r_become {C T : Nat → Int} {n a m : Nat} (hd : dv S C n) (ht : tm S a T m) (hT : ∀ i, 0 ≤ T i ∧ T i < 65536) (hm : m ≤ 24) (ha : 5 < a) : ai_rn L xs (d + 1) 21 [.ref 4, .ref a] S (fun v S' => v = none ∧ S' = dv_put S (ow C 0 T m) m) := by
  have hl : 5 < S.1 := (ai_arr_inv hd.2).1
  refine ai_rn_of (M := ai_m21) rfl (by decide) (Nat.le_of_ble_eq_true rfl) ?_
  refine aw_pure (st' := ax_i (0) :: _) at_21_0 rfl rfl ?_
  refine aw_loc at_21_1 rfl rfl ?_
  have := r_become1 (L := L) (xs := xs) (d := d) hd ht hT hm ha hl m 0 (by omega)
  rw [ow_zero, ai_wr_id (ai_arr_inv hd.2).2] at this
  exact this
end BE

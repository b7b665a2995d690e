/-! What is settled, as the landed code does it. -/
section SE
variable {L : Nat} {xs : Nat → Int32} {d : Nat} {S S' : ai_S} {P R LT EN ND PA SE ST e : Nat → Int} {nn dp : Int}
theorem nz_one (F : Nat → Int) (i n : Nat) (h0 : F i = 0) (hi : i < n) : nz F n < nz (ax_up F i 1) n := by
  rw [nz_up F i 1 h0 (by decide) n hi]
  omega
theorem sev_up {A : Int → Nat} {D : Nat → Prop} {Y : Nat → Int} {ch : Nat → Nat → Nat} {par : Nat → Nat} {X : Nat → List Int} {i : Nat} (h : sti A D Y ch par (fun n => n = i ∨ SE n = 1) X) : sti A D Y ch par (fun n => ax_up SE i 1 n = 1) X := by
  have e : (fun n => ax_up SE i 1 n = 1) = fun n => n = i ∨ SE n = 1 := by
    funext n
    unfold ax_up
    by_cases e : n = i
    · rw [if_pos e]; simp [e]
    · rw [if_neg e]; simp [e]
  rw [e]
  exact h
theorem at_41_0 : ai_at ai_m41 0 = some (.iconst 0, 1) := rfl
theorem at_41_1 : ai_at ai_m41 1 = some (.istore_n 2, 1) := rfl
theorem at_41_2 : ai_at ai_m41 2 = some (.iload_n 2, 1) := rfl
theorem at_41_3 : ai_at ai_m41 3 = some (.bipush 108, 2) := rfl
theorem at_41_5 : ai_at ai_m41 5 = some (.if_icmp .ge 26, 3) := rfl
theorem at_41_8 : ai_at ai_m41 8 = some (.aload_n 0, 1) := rfl
theorem at_41_9 : ai_at ai_m41 9 = some (.getfield 25, 3) := rfl
theorem at_41_12 : ai_at ai_m41 12 = some (.iload_n 2, 1) := rfl
theorem at_41_13 : ai_at ai_m41 13 = some (.iload_n 2, 1) := rfl
theorem at_41_14 : ai_at ai_m41 14 = some (.bipush 96, 2) := rfl
theorem at_41_16 : ai_at ai_m41 16 = some (.if_icmp .lt 7, 3) := rfl
theorem at_41_19 : ai_at ai_m41 19 = some (.iconst 1, 1) := rfl
theorem at_41_20 : ai_at ai_m41 20 = some (.goto 4, 3) := rfl
theorem at_41_23 : ai_at ai_m41 23 = some (.iconst 0, 1) := rfl
theorem at_41_24 : ai_at ai_m41 24 = some (.bastore, 1) := rfl
theorem at_41_25 : ai_at ai_m41 25 = some (.iinc 2 1, 3) := rfl
theorem at_41_28 : ai_at ai_m41 28 = some (.goto (-26), 3) := rfl
theorem at_41_31 : ai_at ai_m41 31 = some (.iconst 1, 1) := rfl
theorem at_41_32 : ai_at ai_m41 32 = some (.istore_n 2, 1) := rfl
theorem at_41_33 : ai_at ai_m41 33 = some (.iconst 0, 1) := rfl
theorem at_41_34 : ai_at ai_m41 34 = some (.istore_n 3, 1) := rfl
theorem at_41_35 : ai_at ai_m41 35 = some (.iload_n 3, 1) := rfl
theorem at_41_36 : ai_at ai_m41 36 = some (.bipush 108, 2) := rfl
theorem at_41_38 : ai_at ai_m41 38 = some (.if_icmp .ge 53, 3) := rfl
theorem at_41_41 : ai_at ai_m41 41 = some (.iload_n 2, 1) := rfl
theorem at_41_42 : ai_at ai_m41 42 = some (.ifCond .eq 49, 3) := rfl
theorem at_41_45 : ai_at ai_m41 45 = some (.aload_n 0, 1) := rfl
theorem at_41_46 : ai_at ai_m41 46 = some (.iload_n 1, 1) := rfl
theorem at_41_47 : ai_at ai_m41 47 = some (.aload_n 0, 1) := rfl
theorem at_41_48 : ai_at ai_m41 48 = some (.getfield 15, 3) := rfl
theorem at_41_51 : ai_at ai_m41 51 = some (.iload_n 1, 1) := rfl
theorem at_41_52 : ai_at ai_m41 52 = some (.iaload, 1) := rfl
theorem at_41_53 : ai_at ai_m41 53 = some (.invokevirtual 111, 3) := rfl
theorem at_41_56 : ai_at ai_m41 56 = some (.istore 4, 2) := rfl
theorem at_41_58 : ai_at ai_m41 58 = some (.aload_n 0, 1) := rfl
theorem at_41_59 : ai_at ai_m41 59 = some (.iconst 0, 1) := rfl
theorem at_41_60 : ai_at ai_m41 60 = some (.aload_n 0, 1) := rfl
theorem at_41_61 : ai_at ai_m41 61 = some (.getfield 36, 3) := rfl
theorem at_41_64 : ai_at ai_m41 64 = some (.invokevirtual 111, 3) := rfl
theorem at_41_67 : ai_at ai_m41 67 = some (.istore 5, 2) := rfl
theorem at_41_69 : ai_at ai_m41 69 = some (.iload 4, 2) := rfl
theorem at_41_71 : ai_at ai_m41 71 = some (.ifCond .ne 8, 3) := rfl
theorem at_41_74 : ai_at ai_m41 74 = some (.iload 5, 2) := rfl
theorem at_41_76 : ai_at ai_m41 76 = some (.ifCond .eq 7, 3) := rfl
theorem at_41_79 : ai_at ai_m41 79 = some (.iconst 1, 1) := rfl
theorem at_41_80 : ai_at ai_m41 80 = some (.goto 4, 3) := rfl
theorem at_41_83 : ai_at ai_m41 83 = some (.iconst 0, 1) := rfl
theorem at_41_84 : ai_at ai_m41 84 = some (.istore_n 2, 1) := rfl
theorem at_41_85 : ai_at ai_m41 85 = some (.iinc 3 1, 3) := rfl
theorem at_41_88 : ai_at ai_m41 88 = some (.goto (-53), 3) := rfl
theorem at_41_91 : ai_at ai_m41 91 = some (.aload_n 0, 1) := rfl
theorem at_41_92 : ai_at ai_m41 92 = some (.getfield 25, 3) := rfl
theorem at_41_95 : ai_at ai_m41 95 = some (.aload_n 0, 1) := rfl
theorem at_41_96 : ai_at ai_m41 96 = some (.iload_n 1, 1) := rfl
theorem at_41_97 : ai_at ai_m41 97 = some (.invokevirtual 97, 3) := rfl
theorem at_41_100 : ai_at ai_m41 100 = some (.baload, 1) := rfl
theorem at_41_101 : ai_at ai_m41 101 = some (.ireturn, 1) := rfl
theorem at_42_0 : ai_at ai_m42 0 = some (.iconst 0, 1) := rfl
theorem at_42_1 : ai_at ai_m42 1 = some (.istore_n 3, 1) := rfl
theorem at_42_2 : ai_at ai_m42 2 = some (.iload_n 2, 1) := rfl
theorem at_42_3 : ai_at ai_m42 3 = some (.iconst 1, 1) := rfl
theorem at_42_4 : ai_at ai_m42 4 = some (.isub, 1) := rfl
theorem at_42_5 : ai_at ai_m42 5 = some (.istore 4, 2) := rfl
theorem at_42_7 : ai_at ai_m42 7 = some (.iload 4, 2) := rfl
theorem at_42_9 : ai_at ai_m42 9 = some (.iload_n 1, 1) := rfl
theorem at_42_10 : ai_at ai_m42 10 = some (.if_icmp .lt 49, 3) := rfl
theorem at_42_13 : ai_at ai_m42 13 = some (.aload_n 0, 1) := rfl
theorem at_42_14 : ai_at ai_m42 14 = some (.getfield 25, 3) := rfl
theorem at_42_17 : ai_at ai_m42 17 = some (.iload 4, 2) := rfl
theorem at_42_19 : ai_at ai_m42 19 = some (.baload, 1) := rfl
theorem at_42_20 : ai_at ai_m42 20 = some (.ifCond .ne 33, 3) := rfl
theorem at_42_23 : ai_at ai_m42 23 = some (.aload_n 0, 1) := rfl
theorem at_42_24 : ai_at ai_m42 24 = some (.iload 4, 2) := rfl
theorem at_42_26 : ai_at ai_m42 26 = some (.invokevirtual 97, 3) := rfl
theorem at_42_29 : ai_at ai_m42 29 = some (.iload 4, 2) := rfl
theorem at_42_31 : ai_at ai_m42 31 = some (.if_icmp .ne 22, 3) := rfl
theorem at_42_34 : ai_at ai_m42 34 = some (.aload_n 0, 1) := rfl
theorem at_42_35 : ai_at ai_m42 35 = some (.iload 4, 2) := rfl
theorem at_42_37 : ai_at ai_m42 37 = some (.invokevirtual 114, 3) := rfl
theorem at_42_40 : ai_at ai_m42 40 = some (.ifCond .eq 13, 3) := rfl
theorem at_42_43 : ai_at ai_m42 43 = some (.aload_n 0, 1) := rfl
theorem at_42_44 : ai_at ai_m42 44 = some (.getfield 25, 3) := rfl
theorem at_42_47 : ai_at ai_m42 47 = some (.iload 4, 2) := rfl
theorem at_42_49 : ai_at ai_m42 49 = some (.iconst 1, 1) := rfl
theorem at_42_50 : ai_at ai_m42 50 = some (.bastore, 1) := rfl
theorem at_42_51 : ai_at ai_m42 51 = some (.iconst 1, 1) := rfl
theorem at_42_52 : ai_at ai_m42 52 = some (.istore_n 3, 1) := rfl
theorem at_42_53 : ai_at ai_m42 53 = some (.iinc 4 (-1), 3) := rfl
theorem at_42_56 : ai_at ai_m42 56 = some (.goto (-49), 3) := rfl
theorem at_42_59 : ai_at ai_m42 59 = some (.iload_n 3, 1) := rfl
theorem at_42_60 : ai_at ai_m42 60 = some (.ireturn, 1) := rfl
theorem at_43_0 : ai_at ai_m43 0 = some (.iload_n 1, 1) := rfl
theorem at_43_1 : ai_at ai_m43 1 = some (.iconst 1, 1) := rfl
theorem at_43_2 : ai_at ai_m43 2 = some (.iadd, 1) := rfl
theorem at_43_3 : ai_at ai_m43 3 = some (.istore_n 2, 1) := rfl
theorem at_43_4 : ai_at ai_m43 4 = some (.aload_n 0, 1) := rfl
theorem at_43_5 : ai_at ai_m43 5 = some (.getfield 48, 3) := rfl
theorem at_43_8 : ai_at ai_m43 8 = some (.aload_n 0, 1) := rfl
theorem at_43_9 : ai_at ai_m43 9 = some (.getfield 11, 3) := rfl
theorem at_43_12 : ai_at ai_m43 12 = some (.iload_n 1, 1) := rfl
theorem at_43_13 : ai_at ai_m43 13 = some (.caload, 1) := rfl
theorem at_43_14 : ai_at ai_m43 14 = some (.invokevirtual 107, 3) := rfl
theorem at_43_17 : ai_at ai_m43 17 = some (.istore_n 3, 1) := rfl
theorem at_43_18 : ai_at ai_m43 18 = some (.iload_n 3, 1) := rfl
theorem at_43_19 : ai_at ai_m43 19 = some (.ifCond .le 31, 3) := rfl
theorem at_43_22 : ai_at ai_m43 22 = some (.aload_n 0, 1) := rfl
theorem at_43_23 : ai_at ai_m43 23 = some (.getfield 25, 3) := rfl
theorem at_43_26 : ai_at ai_m43 26 = some (.aload_n 0, 1) := rfl
theorem at_43_27 : ai_at ai_m43 27 = some (.iload_n 2, 1) := rfl
theorem at_43_28 : ai_at ai_m43 28 = some (.invokevirtual 97, 3) := rfl
theorem at_43_31 : ai_at ai_m43 31 = some (.baload, 1) := rfl
theorem at_43_32 : ai_at ai_m43 32 = some (.ifCond .ne 5, 3) := rfl
theorem at_43_35 : ai_at ai_m43 35 = some (.iconst 0, 1) := rfl
theorem at_43_36 : ai_at ai_m43 36 = some (.ireturn, 1) := rfl
theorem at_43_37 : ai_at ai_m43 37 = some (.aload_n 0, 1) := rfl
theorem at_43_38 : ai_at ai_m43 38 = some (.getfield 15, 3) := rfl
theorem at_43_41 : ai_at ai_m43 41 = some (.iload_n 2, 1) := rfl
theorem at_43_42 : ai_at ai_m43 42 = some (.iaload, 1) := rfl
theorem at_43_43 : ai_at ai_m43 43 = some (.istore_n 2, 1) := rfl
theorem at_43_44 : ai_at ai_m43 44 = some (.iinc 3 (-1), 3) := rfl
theorem at_43_47 : ai_at ai_m43 47 = some (.goto (-29), 3) := rfl
theorem at_43_50 : ai_at ai_m43 50 = some (.iconst 1, 1) := rfl
theorem at_43_51 : ai_at ai_m43 51 = some (.ireturn, 1) := rfl
theorem fl_3_25 : ai_fld 3 25 = some (10, 5, false) := by decide +kernel
theorem fl_3_36 : ai_fld 3 36 = some (10, 8, false) := by decide +kernel
theorem mt_3_111 : ai_mth 3 111 = some (0, 42, 2, 10) := by decide +kernel
theorem mt_3_114 : ai_mth 3 114 = some (0, 43, 1, 10) := by decide +kernel
theorem itr_lt2 {PA : Nat → Int} {par : Nat → Nat} (h : pav PA par) : ∀ (k : Nat) {n : Nat}, n < 108 → itr par k n < 108
  | 0, _, hn => hn
  | k + 1, n, hn => itr_lt2 h k (h n hn).2
set_option maxHeartbeats 4000000 in
theorem r_hasS {A : Int → Nat} {D : Nat → Prop} {Y : Nat → Int} {en : Nat → Nat} {Tm : Nat → List Int} {par : Nat → Nat} {i : Nat} (hA2 : ∀ c, A c ≤ 2) (hs : sy S P R nn) (hv : ovs A P LT EN ND D Y en) (ht : tps A D Y (chp en) Tm) (hp : pav PA par) (h : ovo S LT EN ND PA SE ST dp e) (h01 : ∀ n, SE n = 0 ∨ SE n = 1) (hi : D i) : ai_rn L xs (d + 2) 43 [.ref 425, ax_i (i : Nat)] S (fun v S' => S' = S ∧ ∃ z, v = some (ax_i z) ∧ bz z (∀ k, k < A (Y i) → SE (rep par (ndo Y (chp en i k))) = 1)) := by
  have hvi := hv i hi
  have hci := ht.1 i hi
  have hdk := ovs_dok hv
  have e0 : chp en i 0 = i + 1 := rfl
  have e1 : chp en i 1 = en (i + 1) := rfl
  have kout : ∀ (x n5 : Int), n5 = 0 → (∀ k, k < A (Y i) → SE (rep par (ndo Y (chp en i k))) = 1) → ai_aw L xs (d + 1) ai_m43 (fun o => ∃ v S', o = (.inl v, S') ∧ S' = S ∧ ∃ z, v = some (ax_i z) ∧ bz z (∀ k, k < A (Y i) → SE (rep par (ndo Y (chp en i k))) = 1)) (18, [some (.ref 425), some (ax_i (i : Nat)), some (ax_i x), some (ax_i n5)], [], S) := by
    intro x n5 g0 hall
    refine aw_loc at_43_18 rfl rfl ?_
    refine ax_if_le at_43_19 ⟨by omega, by omega⟩ (fun _ => ?_) (fun z => absurd z (by omega))
    show ai_aw L xs (d + 1) ai_m43 _ (50, _, _, _)
    refine aw_pure (st' := ax_i (1) :: _) at_43_50 rfl rfl ?_
    exact ax_retZ at_43_51 rfl (Or.inr rfl) ⟨_, _, rfl, rfl, 1, rfl, Or.inr ⟨rfl, hall⟩⟩
  refine ai_rn_of (M := ai_m43) rfl (by decide) (Nat.le_of_ble_eq_true rfl) ?_
  refine aw_loc at_43_0 rfl rfl ?_
  refine aw_pure (st' := ax_i (1) :: _) at_43_1 rfl rfl ?_
  refine ax_add at_43_2 rfl ?_
  refine aw_loc at_43_3 rfl rfl ?_
  refine aw_loc at_43_4 rfl rfl ?_
  refine aw_get at_43_5 rfl fl_3_48 h.1 rfl ?_
  refine aw_loc at_43_8 rfl rfl ?_
  refine aw_get at_43_9 rfl fl_3_11 h.1 rfl ?_
  refine aw_loc at_43_12 rfl rfl ?_
  refine ax_cld at_43_13 rfl h.2.1 (k := i) rfl (by omega) (by decide) ?_
  refine aw_cv (a := 1) [ax_i (LT i)] [] at_43_14 mt_3_107 (Or.inl rfl) rfl rfl (Nat.le_of_ble_eq_true rfl) ⟨_, hs.1⟩ ((r_places hs hvi.2.1).mono ?_)
  rintro v S0 ⟨hS, rfl⟩
  have hS2 := hS.symm
  subst hS2
  rw [hvi.2.2.2.2.2.2.2]
  refine aw_loc at_43_17 rfl rfl ?_
  have hA9 := hA2 (Y i)
  obtain hn | hn | hn : A (Y i) = 0 ∨ A (Y i) = 1 ∨ A (Y i) = 2 := by omega
  · skip
    exact kout _ _ (by omega) (fun k hk => by omega)
  · skip
    rw [show (i : Int) + 1 = ((i + 1 : Nat) : Int) by omega]
    have c0 := hv _ (hci 0 (by omega))
    rw [e0] at c0
    have lt0 := ndo_lt hdk (hci 0 (by omega))
    rw [e0] at lt0
    refine aw_loc at_43_18 rfl rfl ?_
    refine ax_if_le at_43_19 ⟨by omega, by omega⟩ (fun z => absurd z (by omega)) (fun _ => ?_)
    refine aw_loc at_43_22 rfl rfl ?_
    refine aw_get at_43_23 rfl fl_3_25 h.1 rfl ?_
    refine aw_loc at_43_26 rfl rfl ?_
    refine aw_loc at_43_27 rfl rfl ?_
    refine aw_cv (a := 425) [ax_i ((i + 1 : Nat) : Int)] [.ref 430] at_43_28 mt_3_97 (Or.inl rfl) rfl rfl (Nat.le_of_ble_eq_true rfl) ⟨_, h.1⟩ ((r_cls h hp c0.1 c0.2.2.2.2.2.1 lt0).mono ?_)
    rintro v S0 ⟨hS, rfl⟩
    have hS2 := hS.symm
    subst hS2
    have rl0 := itr_lt2 hp 108 lt0
    have s0 := h01 (rep par (ndo Y (i + 1)))
    refine ax_zld at_43_31 rfl h.2.2.2.2.2.1 (k := rep par (ndo Y (i + 1))) rfl (by unfold rep; omega) (by decide) ?_
    refine ax_if_ne at_43_32 ⟨by omega, by omega⟩ (fun z0 => ?_) (fun z0 => ?_)
    · skip
      refine aw_loc at_43_37 rfl rfl ?_
      refine aw_get at_43_38 rfl fl_3_15 h.1 rfl ?_
      refine aw_loc at_43_41 rfl rfl ?_
      refine ax_ild at_43_42 rfl h.2.2.1 (k := i + 1) rfl (by omega) (by decide) ?_
      refine aw_loc at_43_43 rfl rfl ?_
      refine ax_inc at_43_44 rfl rfl rfl ?_
      refine aw_goto at_43_47 ?_
      exact kout _ _ (by omega) (fun k hk => by rw [show k = 0 by omega, e0]; omega)
    · skip
      refine aw_pure (st' := ax_i (0) :: _) at_43_35 rfl rfl ?_
      exact ax_retZ at_43_36 rfl (Or.inl rfl) ⟨_, _, rfl, rfl, 0, rfl, Or.inl ⟨rfl, fun hall => by have := hall 0 (by omega); rw [e0] at this; omega⟩⟩
  · skip
    rw [show (i : Int) + 1 = ((i + 1 : Nat) : Int) by omega]
    have c0 := hv _ (hci 0 (by omega))
    rw [e0] at c0
    have lt0 := ndo_lt hdk (hci 0 (by omega))
    rw [e0] at lt0
    refine aw_loc at_43_18 rfl rfl ?_
    refine ax_if_le at_43_19 ⟨by omega, by omega⟩ (fun z => absurd z (by omega)) (fun _ => ?_)
    refine aw_loc at_43_22 rfl rfl ?_
    refine aw_get at_43_23 rfl fl_3_25 h.1 rfl ?_
    refine aw_loc at_43_26 rfl rfl ?_
    refine aw_loc at_43_27 rfl rfl ?_
    refine aw_cv (a := 425) [ax_i ((i + 1 : Nat) : Int)] [.ref 430] at_43_28 mt_3_97 (Or.inl rfl) rfl rfl (Nat.le_of_ble_eq_true rfl) ⟨_, h.1⟩ ((r_cls h hp c0.1 c0.2.2.2.2.2.1 lt0).mono ?_)
    rintro v S0 ⟨hS, rfl⟩
    have hS2 := hS.symm
    subst hS2
    have rl0 := itr_lt2 hp 108 lt0
    have s0 := h01 (rep par (ndo Y (i + 1)))
    refine ax_zld at_43_31 rfl h.2.2.2.2.2.1 (k := rep par (ndo Y (i + 1))) rfl (by unfold rep; omega) (by decide) ?_
    refine ax_if_ne at_43_32 ⟨by omega, by omega⟩ (fun z0 => ?_) (fun z0 => ?_)
    · skip
      refine aw_loc at_43_37 rfl rfl ?_
      refine aw_get at_43_38 rfl fl_3_15 h.1 rfl ?_
      refine aw_loc at_43_41 rfl rfl ?_
      refine ax_ild at_43_42 rfl h.2.2.1 (k := i + 1) rfl (by omega) (by decide) ?_
      refine aw_loc at_43_43 rfl rfl ?_
      refine ax_inc at_43_44 rfl rfl rfl ?_
      refine aw_goto at_43_47 ?_
      rw [c0.2.2.2.2.2.2.1]
      have c1 := hv _ (hci 1 (by omega))
      rw [e1] at c1
      have lt1 := ndo_lt hdk (hci 1 (by omega))
      rw [e1] at lt1
      refine aw_loc at_43_18 rfl rfl ?_
      refine ax_if_le at_43_19 ⟨by omega, by omega⟩ (fun z => absurd z (by omega)) (fun _ => ?_)
      refine aw_loc at_43_22 rfl rfl ?_
      refine aw_get at_43_23 rfl fl_3_25 h.1 rfl ?_
      refine aw_loc at_43_26 rfl rfl ?_
      refine aw_loc at_43_27 rfl rfl ?_
      refine aw_cv (a := 425) [ax_i ((en (i + 1) : Nat))] [.ref 430] at_43_28 mt_3_97 (Or.inl rfl) rfl rfl (Nat.le_of_ble_eq_true rfl) ⟨_, h.1⟩ ((r_cls h hp c1.1 c1.2.2.2.2.2.1 lt1).mono ?_)
      rintro v S0 ⟨hS, rfl⟩
      have hS2 := hS.symm
      subst hS2
      have rl1 := itr_lt2 hp 108 lt1
      have s1 := h01 (rep par (ndo Y (en (i + 1))))
      refine ax_zld at_43_31 rfl h.2.2.2.2.2.1 (k := rep par (ndo Y (en (i + 1)))) rfl (by unfold rep; omega) (by decide) ?_
      refine ax_if_ne at_43_32 ⟨by omega, by omega⟩ (fun z1 => ?_) (fun z1 => ?_)
      · skip
        refine aw_loc at_43_37 rfl rfl ?_
        refine aw_get at_43_38 rfl fl_3_15 h.1 rfl ?_
        refine aw_loc at_43_41 rfl rfl ?_
        refine ax_ild at_43_42 rfl h.2.2.1 (k := en (i + 1)) rfl (by omega) (by decide) ?_
        refine aw_loc at_43_43 rfl rfl ?_
        refine ax_inc at_43_44 rfl rfl rfl ?_
        refine aw_goto at_43_47 ?_
        exact kout _ _ (by omega) (fun k hk => by obtain rfl | rfl : k = 0 ∨ k = 1 := (by omega); rw [e0]; omega; rw [e1]; omega)
      · skip
        refine aw_pure (st' := ax_i (0) :: _) at_43_35 rfl rfl ?_
        exact ax_retZ at_43_36 rfl (Or.inl rfl) ⟨_, _, rfl, rfl, 0, rfl, Or.inl ⟨rfl, fun hall => by have := hall 1 (by omega); rw [e1] at this; omega⟩⟩
    · skip
      refine aw_pure (st' := ax_i (0) :: _) at_43_35 rfl rfl ?_
      exact ax_retZ at_43_36 rfl (Or.inl rfl) ⟨_, _, rfl, rfl, 0, rfl, Or.inl ⟨rfl, fun hall => by have := hall 0 (by omega); rw [e0] at this; omega⟩⟩
set_option maxHeartbeats 8000000 in
theorem r_more1 {A : Int → Nat} {D : Nat → Prop} {Y : Nat → Int} {en : Nat → Nat} {Tm : Nat → List Int} {par : Nat → Nat} {f0 t0 p0 q0 : Nat} (hA2 : ∀ c, A c ≤ 2) (hs : sy S P R nn) (hv : ovs A P LT EN ND D Y en) (ht : tps A D Y (chp en) Tm) (hp : pav PA par) (hu : ufi A D Y (chp en) Tm p0 q0 par []) (hD : ∀ i, f0 ≤ i → i < t0 → D i) (ht0 : t0 ≤ 96) : ∀ (k : Nat) (S1 : ai_S) (SE1 : Nat → Int) (m : Int), f0 + k ≤ t0 → fr 425 432 S S1 → ovo S1 LT EN ND PA SE1 ST dp e → (∀ n, SE1 n = 0 ∨ SE1 n = 1) → (∃ X, sti A D Y (chp en) par (fun n => SE1 n = 1) X) → ((m = 0 ∧ SE1 = SE ∧ ∀ i, f0 + k ≤ i → i < t0 → Y i < 117 → rep par i = i → (∀ k, k < A (Y i) → SE (rep par (ndo Y (chp en i k))) = 1) → SE i = 1) ∨ (m = 1 ∧ nz SE 108 < nz SE1 108)) → ai_aw L xs (d + 2) ai_m42 (fun o => ∃ v S', o = (.inl v, S') ∧ fr 425 432 S S' ∧ ∃ SE', ovo S' LT EN ND PA SE' ST dp e ∧ (∀ n, SE' n = 0 ∨ SE' n = 1) ∧ (∃ X, sti A D Y (chp en) par (fun n => SE' n = 1) X) ∧ ∃ z, v = some (ax_i z) ∧ ((z = 0 ∧ SE' = SE ∧ (∀ i, f0 ≤ i → i < t0 → Y i < 117 → rep par i = i → (∀ k, k < A (Y i) → SE (rep par (ndo Y (chp en i k))) = 1) → SE i = 1)) ∨ (z = 1 ∧ nz SE 108 < nz SE' 108))) (7, [some (.ref 425), some (ax_i (f0 : Nat)), some (ax_i (t0 : Nat)), some (ax_i m), some (ax_i ((f0 : Int) + (k : Nat) - 1))], [], S1) := by
  have hdk := ovs_dok hv
  intro k
  induction k with
  | zero =>
    intro S1 SE1 m hk f1 h1 h01 hX hm
    have hmz : m = 0 ∨ m = 1 := hm.imp (fun h => h.1) (fun h => h.1)
    refine aw_loc at_42_7 rfl rfl ?_
    refine aw_loc at_42_9 rfl rfl ?_
    refine ax_icmp_lt at_42_10 ⟨by omega, by omega⟩ ⟨by omega, by omega⟩ (fun _ => ?_) (fun z => absurd z (by omega))
    show ai_aw L xs (d + 2) ai_m42 _ (59, _, _, _)
    refine aw_loc at_42_59 rfl rfl ?_
    exact ax_retZ at_42_60 rfl hmz ⟨_, _, rfl, f1, SE1, h1, h01, hX, m, rfl, hm⟩
  | succ k ih =>
    intro S1 SE1 m hk f1 h1 h01 hX hm
    have hD0 := hD (f0 + k) (by omega) (by omega)
    have hvi := hv _ hD0
    rw [show (f0 : Int) + ((k + 1 : Nat) : Int) - 1 = ((f0 + k : Nat) : Int) by omega]
    have knext : ∀ (S9 : ai_S) (SE9 : Nat → Int) (m9 : Int), fr 425 432 S S9 → ovo S9 LT EN ND PA SE9 ST dp e → (∀ n, SE9 n = 0 ∨ SE9 n = 1) → (∃ X, sti A D Y (chp en) par (fun n => SE9 n = 1) X) → ((m9 = 0 ∧ SE9 = SE ∧ ∀ i, f0 + k ≤ i → i < t0 → Y i < 117 → rep par i = i → (∀ k, k < A (Y i) → SE (rep par (ndo Y (chp en i k))) = 1) → SE i = 1) ∨ (m9 = 1 ∧ nz SE 108 < nz SE9 108)) → ai_aw L xs (d + 2) ai_m42 (fun o => ∃ v S', o = (.inl v, S') ∧ fr 425 432 S S' ∧ ∃ SE', ovo S' LT EN ND PA SE' ST dp e ∧ (∀ n, SE' n = 0 ∨ SE' n = 1) ∧ (∃ X, sti A D Y (chp en) par (fun n => SE' n = 1) X) ∧ ∃ z, v = some (ax_i z) ∧ ((z = 0 ∧ SE' = SE ∧ (∀ i, f0 ≤ i → i < t0 → Y i < 117 → rep par i = i → (∀ k, k < A (Y i) → SE (rep par (ndo Y (chp en i k))) = 1) → SE i = 1)) ∨ (z = 1 ∧ nz SE 108 < nz SE' 108))) (53, [some (.ref 425), some (ax_i (f0 : Nat)), some (ax_i (t0 : Nat)), some (ax_i m9), some (ax_i ((f0 + k : Nat) : Int))], [], S9) := by
      intro S9 SE9 m9 g1 g2 g3 g4 g5
      refine ax_inc at_42_53 rfl rfl rfl ?_
      refine aw_goto at_42_56 ?_
      rw [show ((f0 + k : Nat) : Int) + -1 = (f0 : Int) + (k : Nat) - 1 by omega]
      exact ih S9 SE9 m9 (by omega) g1 g2 g3 g4 g5
    have kskip : (SE1 = SE → Y (f0 + k) < 117 → rep par (f0 + k) = f0 + k → (∀ j, j < A (Y (f0 + k)) → SE (rep par (ndo Y (chp en (f0 + k) j))) = 1) → SE (f0 + k) = 1) → ai_aw L xs (d + 2) ai_m42 (fun o => ∃ v S', o = (.inl v, S') ∧ fr 425 432 S S' ∧ ∃ SE', ovo S' LT EN ND PA SE' ST dp e ∧ (∀ n, SE' n = 0 ∨ SE' n = 1) ∧ (∃ X, sti A D Y (chp en) par (fun n => SE' n = 1) X) ∧ ∃ z, v = some (ax_i z) ∧ ((z = 0 ∧ SE' = SE ∧ (∀ i, f0 ≤ i → i < t0 → Y i < 117 → rep par i = i → (∀ k, k < A (Y i) → SE (rep par (ndo Y (chp en i k))) = 1) → SE i = 1)) ∨ (z = 1 ∧ nz SE 108 < nz SE' 108))) (53, [some (.ref 425), some (ax_i (f0 : Nat)), some (ax_i (t0 : Nat)), some (ax_i m), some (ax_i ((f0 + k : Nat) : Int))], [], S1) := by
      intro hsk
      refine knext S1 SE1 m f1 h1 h01 hX (hm.imp (fun g => ⟨g.1, g.2.1, fun i h2 h3 h4 h5 h6 => ?_⟩) id)
      by_cases ei : i = f0 + k
      · subst ei; exact hsk g.2.1 h4 h5 h6
      · exact g.2.2 i (by omega) h3 h4 h5 h6
    refine aw_loc at_42_7 rfl rfl ?_
    refine aw_loc at_42_9 rfl rfl ?_
    refine ax_icmp_lt at_42_10 ⟨by omega, by omega⟩ ⟨by omega, by omega⟩ (fun z => absurd z (by omega)) (fun _ => ?_)
    have s0 := h01 (f0 + k)
    refine aw_loc at_42_13 rfl rfl ?_
    refine aw_get at_42_14 rfl fl_3_25 h1.1 rfl ?_
    refine aw_loc at_42_17 rfl rfl ?_
    refine ax_zld at_42_19 rfl h1.2.2.2.2.2.1 (k := f0 + k) rfl (by omega) (by decide) ?_
    refine ax_if_ne at_42_20 ⟨by omega, by omega⟩ (fun z => kskip (fun e1 _ _ _ => by rw [← e1]; omega)) (fun z1 => ?_)
    refine aw_loc at_42_23 rfl rfl ?_
    refine aw_loc at_42_24 rfl rfl ?_
    refine aw_cv (a := 425) [ax_i ((f0 + k : Nat) : Int)] [] at_42_26 mt_3_97 (Or.inl rfl) rfl rfl (Nat.le_of_ble_eq_true rfl) ⟨_, h1.1⟩ ((r_cls h1 hp hvi.1 hvi.2.2.2.2.2.1 (ndo_lt hdk hD0)).mono ?_)
    rintro v S0 ⟨hS, rfl⟩
    have hS2 := hS.symm
    subst hS2
    have rl := itr_lt2 hp 108 (ndo_lt hdk hD0)
    have rl2 : rep par (ndo Y (f0 + k)) < 108 := rl
    refine aw_loc at_42_29 rfl rfl ?_
    refine ax_icmp_ne at_42_31 ⟨by omega, by omega⟩ ⟨by omega, by omega⟩ (fun z => kskip (fun _ hy hr _ => absurd (by rw [(ndo_cases Y (f0 + k)).elim (fun h => h.2) (fun h => absurd hy (by omega)), hr]) z)) (fun z2 => ?_)
    have hy : Y (f0 + k) < 117 := by
      by_cases hy : Y (f0 + k) < 117
      · exact hy
      · have h9 := (ufi_DN hu (ndo_DN hdk hD0)).1
        have h8 : rep par (ndo Y (f0 + k)) = f0 + k := by omega
        rw [h8] at h9
        exact absurd (h9.2.1 hvi.1).2 hy
    have hno : ndo Y (f0 + k) = f0 + k := if_pos hy
    rw [hno] at z2
    have hrep : rep par (f0 + k) = f0 + k := by omega
    refine aw_loc at_42_34 rfl rfl ?_
    refine aw_loc at_42_35 rfl rfl ?_
    refine aw_cv (a := 425) [ax_i ((f0 + k : Nat) : Int)] [] at_42_37 mt_3_114 (Or.inl rfl) rfl rfl (Nat.le_of_ble_eq_true rfl) ⟨_, h1.1⟩ ((r_hasS hA2 (f1.sy hs (by decide)) hv ht hp h1 h01 hD0).mono ?_)
    rintro v S0 ⟨hS, q1, rfl, hq1⟩
    have hS2 := hS.symm
    subst hS2
    have hq19 := hq1.le
    refine ax_if_eq at_42_40 ⟨by omega, by omega⟩ (fun z3 => kskip (fun e1 _ _ h6 => absurd (by rw [← e1] at h6; exact h6) (hq1.resolve_right (fun h => by have := h.1; omega)).2)) (fun z3 => ?_)
    have hall := (hq1.resolve_left (fun h => z3 h.1)).2
    obtain ⟨rk, hrk⟩ := id hu.1
    have hfx := rep_fix hrk (show f0 + k < 108 by omega)
    rw [hrep] at hfx
    obtain ⟨X, hX1⟩ := hX
    obtain ⟨X2, hX2⟩ := sti_more ht hdk hrk hX1 hD0 hy hfx (by omega) hall
    refine aw_loc at_42_43 rfl rfl ?_
    refine aw_get at_42_44 rfl fl_3_25 h1.1 rfl ?_
    refine aw_loc at_42_47 rfl rfl ?_
    refine aw_pure (st' := ax_i (1) :: _) at_42_49 rfl rfl ?_
    refine ax_zst (k := f0 + k) at_42_50 rfl h1.2.2.2.2.2.1 rfl (by omega) (by decide) (Or.inr rfl) ?_
    refine aw_pure (st' := ax_i (1) :: _) at_42_51 rfl rfl ?_
    refine aw_loc at_42_52 rfl rfl ?_
    have hlt := nz_one SE1 (f0 + k) 108 (by omega) (by omega)
    exact knext _ (ax_up SE1 (f0 + k) 1) 1 (f1.tr (fr_ov (by decide) (by decide))) (ovo_se h1) (fun n => by unfold ax_up; split; exact Or.inr rfl; exact h01 n) ⟨X2, sev_up hX2⟩ (Or.inr ⟨rfl, by rcases hm with g | g; rw [g.2.1] at hlt; rw [g.2.1]; exact hlt; have := g.2; omega⟩)
set_option maxHeartbeats 2000000 in
theorem r_more {A : Int → Nat} {D : Nat → Prop} {Y : Nat → Int} {en : Nat → Nat} {Tm : Nat → List Int} {par : Nat → Nat} {f0 t0 p0 q0 : Nat} (hA2 : ∀ c, A c ≤ 2) (hs : sy S P R nn) (hv : ovs A P LT EN ND D Y en) (ht : tps A D Y (chp en) Tm) (hp : pav PA par) (hu : ufi A D Y (chp en) Tm p0 q0 par []) (hD : ∀ i, f0 ≤ i → i < t0 → D i) (ht0 : t0 ≤ 96) (hft : f0 ≤ t0) (h : ovo S LT EN ND PA SE ST dp e) (h01 : ∀ n, SE n = 0 ∨ SE n = 1) (hX : ∃ X, sti A D Y (chp en) par (fun n => SE n = 1) X) : ai_rn L xs (d + 3) 42 [.ref 425, ax_i (f0 : Nat), ax_i (t0 : Nat)] S (fun v S' => fr 425 432 S S' ∧ ∃ SE', ovo S' LT EN ND PA SE' ST dp e ∧ (∀ n, SE' n = 0 ∨ SE' n = 1) ∧ (∃ X, sti A D Y (chp en) par (fun n => SE' n = 1) X) ∧ ∃ z, v = some (ax_i z) ∧ ((z = 0 ∧ SE' = SE ∧ (∀ i, f0 ≤ i → i < t0 → Y i < 117 → rep par i = i → (∀ k, k < A (Y i) → SE (rep par (ndo Y (chp en i k))) = 1) → SE i = 1)) ∨ (z = 1 ∧ nz SE 108 < nz SE' 108))) := by
  refine ai_rn_of (M := ai_m42) rfl (by decide) (Nat.le_of_ble_eq_true rfl) ?_
  refine aw_pure (st' := ax_i (0) :: _) at_42_0 rfl rfl ?_
  refine aw_loc at_42_1 rfl rfl ?_
  refine aw_loc at_42_2 rfl rfl ?_
  refine aw_pure (st' := ax_i (1) :: _) at_42_3 rfl rfl ?_
  refine ax_sub at_42_4 rfl ?_
  refine aw_loc at_42_5 rfl rfl ?_
  rw [show (t0 : Int) - 1 = (f0 : Int) + ((t0 - f0 : Nat) : Int) - 1 by omega]
  exact r_more1 hA2 hs hv ht hp hu hD ht0 (t0 - f0) S SE 0 (by omega) fr.rf h h01 hX (Or.inl ⟨rfl, rfl, fun i h1 h2 => by omega⟩)
set_option maxHeartbeats 8000000 in
theorem r_fin1 {A : Int → Nat} {D : Nat → Prop} {Y : Nat → Int} {en : Nat → Nat} {Tm : Nat → List Int} {par : Nat → Nat} {p0 q0 n1 : Nat} (hA : ∀ c, 117 ≤ c → A c = 0) (hA2 : ∀ c, A c ≤ 2) (hs : sy S P R nn) (hv : ovs A P LT EN ND D Y en) (ht : tps A D Y (chp en) Tm) (hp : pav PA par) (hu : ufi A D Y (chp en) Tm p0 q0 par []) (hp0 : D p0) (hq : D q0) (hDr : ∀ i, D i ↔ (i < n1 ∨ (q0 ≤ i ∧ i < en q0))) (hen : q0 ≤ en q0 ∧ en q0 ≤ 96) (hn1 : n1 ≤ 96) (he : e 0 = (n1 : Int)) : ∀ (k c : Nat) (S1 : ai_S) (SE1 : Nat → Int) (m : Int) (x4 x5 : Option Value), c + k = 108 → fr 425 432 S S1 → ovo S1 LT EN ND PA SE1 ST dp e → (∀ n, SE1 n = 0 ∨ SE1 n = 1) → (∃ X, sti A D Y (chp en) par (fun n => SE1 n = 1) X) → ((m = 0 ∧ (∀ i, D i → Y i < 117 → rep par i = i → (∀ k, k < A (Y i) → SE1 (rep par (ndo Y (chp en i k))) = 1) → SE1 i = 1)) ∨ (m = 1 ∧ (c : Int) < nz SE1 108)) → ai_aw L xs (d + 3) ai_m41 (fun o => ∃ v S', o = (.inl v, S') ∧ fr 425 432 S S' ∧ ∃ SE', ovo S' LT EN ND PA SE' ST dp e ∧ (∀ n, SE' n = 0 ∨ SE' n = 1) ∧ ∃ z, v = some (ax_i z) ∧ ((z = 0 ∧ ¬ ∃ g, gs A g ∧ (Tm p0).flatMap g = (Tm q0).flatMap g) ∨ (z = 1 ∧ (∃ X, sti A D Y (chp en) par (fun n => SE' n = 1) X) ∧ SE' (rep par (ndo Y p0)) = 1))) (35, [some (.ref 425), some (ax_i (q0 : Nat)), some (ax_i m), some (ax_i (c : Nat)), x4, x5], [], S1) := by
  have hdk := ovs_dok hv
  have hv0 := hv q0 hq
  have hlt := ndo_lt hdk hq
  obtain ⟨rk, hrk⟩ := id hu.1
  have hpq := (hu.2.2.2.1 (rep par) (fun n hn => rep_par hrk hn) (fun q hq => by cases hq)).1
  have kend : ∀ (S1 : ai_S) (SE1 : Nat → Int) (m : Int) (c : Nat) (x4 x5 : Option Value), fr 425 432 S S1 → ovo S1 LT EN ND PA SE1 ST dp e → (∀ n, SE1 n = 0 ∨ SE1 n = 1) → (∃ X, sti A D Y (chp en) par (fun n => SE1 n = 1) X) → (∀ i, D i → Y i < 117 → rep par i = i → (∀ k, k < A (Y i) → SE1 (rep par (ndo Y (chp en i k))) = 1) → SE1 i = 1) → ai_aw L xs (d + 3) ai_m41 (fun o => ∃ v S', o = (.inl v, S') ∧ fr 425 432 S S' ∧ ∃ SE', ovo S' LT EN ND PA SE' ST dp e ∧ (∀ n, SE' n = 0 ∨ SE' n = 1) ∧ ∃ z, v = some (ax_i z) ∧ ((z = 0 ∧ ¬ ∃ g, gs A g ∧ (Tm p0).flatMap g = (Tm q0).flatMap g) ∨ (z = 1 ∧ (∃ X, sti A D Y (chp en) par (fun n => SE' n = 1) X) ∧ SE' (rep par (ndo Y p0)) = 1))) (91, [some (.ref 425), some (ax_i (q0 : Nat)), some (ax_i m), some (ax_i (c : Nat)), x4, x5], [], S1) := by
    intro S1 SE1 m c x4 x5 f1 h1 h01 hX hfix
    refine aw_loc at_41_91 rfl rfl ?_
    refine aw_get at_41_92 rfl fl_3_25 h1.1 rfl ?_
    refine aw_loc at_41_95 rfl rfl ?_
    refine aw_loc at_41_96 rfl rfl ?_
    refine aw_cv (a := 425) [ax_i (q0 : Nat)] [.ref 430] at_41_97 mt_3_97 (Or.inl rfl) rfl rfl (Nat.le_of_ble_eq_true rfl) ⟨_, h1.1⟩ ((r_cls h1 hp hv0.1 hv0.2.2.2.2.2.1 hlt).mono ?_)
    rintro v S0 ⟨hS, rfl⟩
    have hS2 := hS.symm
    subst hS2
    have rl : rep par (ndo Y q0) < 108 := itr_lt2 hp 108 hlt
    have s0 := h01 (rep par (ndo Y q0))
    refine ax_zld at_41_100 rfl h1.2.2.2.2.2.1 (k := rep par (ndo Y q0)) rfl (by omega) (by decide) ?_
    refine ax_retZ at_41_101 rfl s0 ⟨_, _, rfl, f1, SE1, h1, h01, _, rfl, ?_⟩
    rcases s0 with s0 | s0
    · obtain ⟨X, hX⟩ := hX
      exact Or.inl ⟨s0, sti_none hA ht hdk hp0 hu hX hfix (by rw [hpq]; omega)⟩
    · exact Or.inr ⟨s0, hX, by rw [hpq]; exact s0⟩
  intro k
  induction k with
  | zero =>
    intro c S1 SE1 m x4 x5 hc f1 h1 h01 hX hm
    have hn := nz_le SE1 108
    refine aw_loc at_41_35 rfl rfl ?_
    refine aw_pure (st' := ax_i (108) :: _) at_41_36 rfl rfl ?_
    refine ax_icmp_ge at_41_38 ⟨by omega, by omega⟩ ⟨by omega, by omega⟩ (fun _ => kend S1 SE1 m c x4 x5 f1 h1 h01 hX (hm.elim (fun g => g.2) (fun g => absurd g.2 (by omega)))) (fun z => absurd z (by omega))
  | succ k ih =>
    intro c S1 SE1 m x4 x5 hc f1 h1 h01 hX hm
    have hm9 : m = 0 ∨ m = 1 := hm.imp (fun g => g.1) (fun g => g.1)
    refine aw_loc at_41_35 rfl rfl ?_
    refine aw_pure (st' := ax_i (108) :: _) at_41_36 rfl rfl ?_
    refine ax_icmp_ge at_41_38 ⟨by omega, by omega⟩ ⟨by omega, by omega⟩ (fun z => absurd z (by omega)) (fun _ => ?_)
    refine aw_loc at_41_41 rfl rfl ?_
    refine ax_if_eq at_41_42 ⟨by omega, by omega⟩ (fun z => kend S1 SE1 m c x4 x5 f1 h1 h01 hX (hm.elim (fun g => g.2) (fun g => absurd z (by have := g.1; omega)))) (fun z1 => ?_)
    have hm1 := (hm.resolve_left (fun g => z1 g.1)).2
    refine aw_loc at_41_45 rfl rfl ?_
    refine aw_loc at_41_46 rfl rfl ?_
    refine aw_loc at_41_47 rfl rfl ?_
    refine aw_get at_41_48 rfl fl_3_15 h1.1 rfl ?_
    refine aw_loc at_41_51 rfl rfl ?_
    refine ax_ild at_41_52 rfl h1.2.2.1 (k := q0) rfl (by omega) (by decide) ?_
    rw [hv0.2.2.2.2.2.2.1]
    refine aw_cv (a := 425) [ax_i (q0 : Nat), ax_i (en q0 : Nat)] [] at_41_53 mt_3_111 (Or.inl rfl) rfl rfl (Nat.le_of_ble_eq_true rfl) ⟨_, h1.1⟩ ((r_more hA2 (f1.sy hs (by decide)) hv ht hp hu (fun i h2 h3 => (hDr i).2 (Or.inr ⟨h2, h3⟩)) hen.2 hen.1 h1 h01 hX).mono ?_)
    rintro v S2 ⟨f2, SE2, h2, g2, hX2, z2, rfl, hz2⟩
    have f12 := f1.tr f2
    have hz29 : z2 = 0 ∨ z2 = 1 := hz2.imp (fun g => g.1) (fun g => g.1)
    refine aw_loc at_41_56 rfl rfl ?_
    refine aw_loc at_41_58 rfl rfl ?_
    refine aw_pure (st' := ax_i (0) :: _) at_41_59 rfl rfl ?_
    refine aw_loc at_41_60 rfl rfl ?_
    refine aw_get at_41_61 rfl fl_3_36 h2.1 rfl ?_
    rw [he]
    refine aw_cv (a := 425) [ax_i ((0 : Nat) : Int), ax_i (n1 : Nat)] [] at_41_64 mt_3_111 (Or.inl rfl) rfl rfl (Nat.le_of_ble_eq_true rfl) ⟨_, h2.1⟩ ((r_more hA2 (f12.sy hs (by decide)) hv ht hp hu (fun i h2 h3 => (hDr i).2 (Or.inl h3)) hn1 (by omega) h2 g2 hX2).mono ?_)
    rintro v S3 ⟨f3, SE3, h3, g3, hX3, z3, rfl, hz3⟩
    have f13 := f12.tr f3
    have hz39 : z3 = 0 ∨ z3 = 1 := hz3.imp (fun g => g.1) (fun g => g.1)
    have knext : ∀ m9 : Int, ((m9 = 0 ∧ z2 = 0 ∧ z3 = 0) ∨ (m9 = 1 ∧ (z2 = 1 ∨ z3 = 1))) → ai_aw L xs (d + 3) ai_m41 (fun o => ∃ v S', o = (.inl v, S') ∧ fr 425 432 S S' ∧ ∃ SE', ovo S' LT EN ND PA SE' ST dp e ∧ (∀ n, SE' n = 0 ∨ SE' n = 1) ∧ ∃ z, v = some (ax_i z) ∧ ((z = 0 ∧ ¬ ∃ g, gs A g ∧ (Tm p0).flatMap g = (Tm q0).flatMap g) ∨ (z = 1 ∧ (∃ X, sti A D Y (chp en) par (fun n => SE' n = 1) X) ∧ SE' (rep par (ndo Y p0)) = 1))) (84, [some (.ref 425), some (ax_i (q0 : Nat)), some (ax_i m), some (ax_i (c : Nat)), some (ax_i z2), some (ax_i z3)], [ax_i m9], S3) := by
      intro m9 hm9
      refine aw_loc at_41_84 rfl rfl ?_
      refine ax_inc at_41_85 rfl rfl rfl ?_
      refine aw_goto at_41_88 ?_
      have := ih (c + 1) S3 SE3 m9 (some (ax_i z2)) (some (ax_i z3)) (by omega) f13 h3 g3 hX3 ?_
      · rw [Int.natCast_add] at this
        exact this
      · rcases hm9 with ⟨a1, a2, a3⟩ | ⟨a1, a2⟩
        · have b2 := (hz2.resolve_right (fun g => by have := g.1; omega)).2
          have b3 := (hz3.resolve_right (fun g => by have := g.1; omega)).2
          refine Or.inl ⟨a1, fun i hi => ?_⟩
          rcases (hDr i).1 hi with hi | hi
          · rw [b3.1]; exact b3.2 i (by omega) hi
          · rw [b3.1, b2.1]; exact b2.2 i hi.1 hi.2
        · refine Or.inr ⟨a1, ?_⟩
          have b2 : nz SE1 108 ≤ nz SE2 108 := by rcases hz2 with g | g; rw [g.2.1]; exact Int.le_refl _; have := g.2; omega
          have b3 : nz SE2 108 ≤ nz SE3 108 := by rcases hz3 with g | g; rw [g.2.1]; exact Int.le_refl _; have := g.2; omega
          rcases a2 with a2 | a2
          · have := (hz2.resolve_left (fun g => by have := g.1; omega)).2; omega
          · have := (hz3.resolve_left (fun g => by have := g.1; omega)).2; omega
    refine aw_loc at_41_67 rfl rfl ?_
    refine aw_loc at_41_69 rfl rfl ?_
    refine ax_if_ne at_41_71 ⟨by omega, by omega⟩ (fun z => ?_) (fun z => ?_)
    · skip
      refine aw_pure (st' := ax_i (1) :: _) at_41_79 rfl rfl ?_
      refine aw_goto at_41_80 ?_
      exact knext 1 (Or.inr ⟨rfl, Or.inl (by omega)⟩)
    · skip
      refine aw_loc at_41_74 rfl rfl ?_
      refine ax_if_eq at_41_76 ⟨by omega, by omega⟩ (fun y => ?_) (fun y => ?_)
      · skip
        refine aw_pure (st' := ax_i (0) :: _) at_41_83 rfl rfl ?_
        exact knext 0 (Or.inl ⟨rfl, by omega, by omega⟩)
      · skip
        refine aw_pure (st' := ax_i (1) :: _) at_41_79 rfl rfl ?_
        refine aw_goto at_41_80 ?_
        exact knext 1 (Or.inr ⟨rfl, Or.inr (by omega)⟩)
set_option maxHeartbeats 2000000 in
theorem r_fin0 {Q : ai_O → Prop} {p : Int} {x3 x4 x5 : Option Value} (h : ovo S LT EN ND PA SE ST dp e) : ∀ (k c : Nat), c + k = 108 → ai_aw L xs d ai_m41 Q (31, [some (.ref 425), some (ax_i p), some (ax_i (108 : Nat)), x3, x4, x5], [], ai_wr S 430 (.inl (2, ai_I 108 (ax_f (fun i => if i < 108 then (if i < 96 then (0 : Int) else 1) else SE i))))) → ai_aw L xs d ai_m41 Q (2, [some (.ref 425), some (ax_i p), some (ax_i (c : Nat)), x3, x4, x5], [], ai_wr S 430 (.inl (2, ai_I 108 (ax_f (fun i => if i < c then (if i < 96 then (0 : Int) else 1) else SE i))))) := by
  intro k
  induction k with
  | zero =>
    intro c hc hcont
    have h1 := ovo_se (F := fun i => if i < c then (if i < 96 then (0 : Int) else 1) else SE i) h
    obtain rfl : c = 108 := by omega
    refine aw_loc at_41_2 rfl rfl ?_
    refine aw_pure (st' := ax_i (108) :: _) at_41_3 rfl rfl ?_
    refine ax_icmp_ge at_41_5 ⟨by omega, by omega⟩ ⟨by omega, by omega⟩ (fun _ => hcont) (fun z => absurd z (by omega))
  | succ k ih =>
    intro c hc hcont
    have h1 := ovo_se (F := fun i => if i < c then (if i < 96 then (0 : Int) else 1) else SE i) h
    have kst : ∀ v : Int, v = (if c < 96 then (0 : Int) else 1) → ai_aw L xs d ai_m41 Q (24, [some (.ref 425), some (ax_i p), some (ax_i (c : Nat)), x3, x4, x5], [ax_i v, ax_i (c : Nat), .ref 430], ai_wr S 430 (.inl (2, ai_I 108 (ax_f (fun i => if i < c then (if i < 96 then (0 : Int) else 1) else SE i))))) := by
      intro v hv
      refine ax_zst (k := c) at_41_24 rfl h1.2.2.2.2.2.1 rfl (by omega) (by decide) (by rw [hv]; split; exact Or.inl rfl; exact Or.inr rfl) ?_
      rw [ai_wr_wr, show ax_up (fun i => if i < c then (if i < 96 then (0 : Int) else 1) else SE i) c v = fun i => if i < c + 1 then (if i < 96 then (0 : Int) else 1) else SE i by funext i; unfold ax_up; by_cases e : i = c; rw [if_pos e, if_pos (by omega), hv, e]; rw [if_neg e]; show (if i < c then (if i < 96 then (0 : Int) else 1) else SE i) = (if i < c + 1 then (if i < 96 then (0 : Int) else 1) else SE i); by_cases e2 : i < c; rw [if_pos e2, if_pos (show i < c + 1 by omega)]; rw [if_neg e2, if_neg (show ¬ i < c + 1 by omega)]]
      refine ax_inc at_41_25 rfl rfl rfl ?_
      refine aw_goto at_41_28 ?_
      have := ih (c + 1) (by omega) hcont
      rw [Int.natCast_add] at this
      exact this
    refine aw_loc at_41_2 rfl rfl ?_
    refine aw_pure (st' := ax_i (108) :: _) at_41_3 rfl rfl ?_
    refine ax_icmp_ge at_41_5 ⟨by omega, by omega⟩ ⟨by omega, by omega⟩ (fun z => absurd z (by omega)) (fun _ => ?_)
    refine aw_loc at_41_8 rfl rfl ?_
    refine aw_get at_41_9 rfl fl_3_25 h1.1 rfl ?_
    refine aw_loc at_41_12 rfl rfl ?_
    refine aw_loc at_41_13 rfl rfl ?_
    refine aw_pure (st' := ax_i (96) :: _) at_41_14 rfl rfl ?_
    refine ax_icmp_lt at_41_16 ⟨by omega, by omega⟩ ⟨by omega, by omega⟩ (fun z => ?_) (fun z => ?_)
    · skip
      refine aw_pure (st' := ax_i (0) :: _) at_41_23 rfl rfl ?_
      exact kst 0 (by rw [if_pos (by omega)])
    · skip
      refine aw_pure (st' := ax_i (1) :: _) at_41_19 rfl rfl ?_
      refine aw_goto at_41_20 ?_
      exact kst 1 (by rw [if_neg (by omega)])
theorem nz_first (SE : Nat → Int) : 0 < nz (fun i => if i < 108 then (if i < 96 then (0 : Int) else 1) else SE i) 108 := by
  have key : ∀ (F : Nat → Int) (n : Nat), F n ≠ 0 → 0 < nz F (n + 1) := by
    intro F n h
    have h0 : ∀ m : Nat, 0 ≤ nz F m := by
      intro m
      induction m with
      | zero => exact Int.le_refl _
      | succ m ih =>
        show 0 ≤ nz F m + (if F m = 0 then 0 else 1)
        split <;> omega
    have := h0 n
    show 0 < nz F n + (if F n = 0 then 0 else 1)
    rw [if_neg h]
    omega
  exact key _ 107 (by show (if (107 : Nat) < 108 then (if (107 : Nat) < 96 then (0 : Int) else 1) else SE 107) ≠ 0; rw [if_pos (by decide), if_neg (by decide)]; decide)
theorem sti_row {A : Int → Nat} {D : Nat → Prop} {Y : Nat → Int} {ch : Nat → Nat → Nat} {par : Nat → Nat} {SE : Nat → Int} : ∃ X, sti A D Y ch par (fun n => (if n < 108 then (if n < 96 then (0 : Int) else 1) else SE n) = 1) X := by
  refine ⟨fun n => [(n : Int) + 21], fun n h1 h2 => ⟨?_, rfl⟩, fun n h1 h2 => ?_⟩
  · show (if n < 108 then (if n < 96 then (0 : Int) else 1) else SE n) = 1
    rw [if_pos h2, if_neg (by omega)]
  · have h3 : (if n < 108 then (if n < 96 then (0 : Int) else 1) else SE n) = 1 := h2
    rw [if_pos (show n < 108 by omega), if_pos h1] at h3
    exact absurd h3 (by decide)
set_option maxHeartbeats 4000000 in
theorem r_fin {A : Int → Nat} {D : Nat → Prop} {Y : Nat → Int} {en : Nat → Nat} {Tm : Nat → List Int} {par : Nat → Nat} {p0 q0 n1 : Nat} (hA : ∀ c, 117 ≤ c → A c = 0) (hA2 : ∀ c, A c ≤ 2) (hs : sy S P R nn) (hv : ovs A P LT EN ND D Y en) (ht : tps A D Y (chp en) Tm) (hp : pav PA par) (hu : ufi A D Y (chp en) Tm p0 q0 par []) (hp0 : D p0) (hq : D q0) (hDr : ∀ i, D i ↔ (i < n1 ∨ (q0 ≤ i ∧ i < en q0))) (hen : q0 ≤ en q0 ∧ en q0 ≤ 96) (hn1 : n1 ≤ 96) (he : e 0 = (n1 : Int)) (h : ovo S LT EN ND PA SE ST dp e) (h01 : ∀ n, SE n = 0 ∨ SE n = 1) : ai_rn L xs (d + 4) 41 [.ref 425, ax_i (q0 : Nat)] S (fun v S' => fr 425 432 S S' ∧ ∃ SE', ovo S' LT EN ND PA SE' ST dp e ∧ (∀ n, SE' n = 0 ∨ SE' n = 1) ∧ ∃ z, v = some (ax_i z) ∧ ((z = 0 ∧ ¬ ∃ g, gs A g ∧ (Tm p0).flatMap g = (Tm q0).flatMap g) ∨ (z = 1 ∧ (∃ X, sti A D Y (chp en) par (fun n => SE' n = 1) X) ∧ SE' (rep par (ndo Y p0)) = 1))) := by
  refine ai_rn_of (M := ai_m41) rfl (by decide) (Nat.le_of_ble_eq_true rfl) ?_
  refine aw_pure (st' := ax_i (0) :: _) at_41_0 rfl rfl ?_
  refine aw_loc at_41_1 rfl rfl ?_
  refine (show ai_aw L xs (d + 3) ai_m41 _ (2, [some (.ref 425), some (ax_i (q0 : Nat)), some (ax_i ((0 : Nat) : Int)), none, none, none], [], S) from ?_)
  have hst : ai_wr S 430 (.inl (2, ai_I 108 (ax_f (fun i => if i < 0 then (if i < 96 then (0 : Int) else 1) else SE i)))) = S := by
    rw [show (fun i => if i < 0 then (if i < 96 then (0 : Int) else 1) else SE i) = SE by funext i; exact if_neg (by omega)]
    exact ai_wr_id (ai_arr_inv h.2.2.2.2.2.1).2
  have hgo := r_fin0 (L := L) (xs := xs) (d := d + 3) (Q := (fun o => ∃ v S', o = (.inl v, S') ∧ fr 425 432 S S' ∧ ∃ SE', ovo S' LT EN ND PA SE' ST dp e ∧ (∀ n, SE' n = 0 ∨ SE' n = 1) ∧ ∃ z, v = some (ax_i z) ∧ ((z = 0 ∧ ¬ ∃ g, gs A g ∧ (Tm p0).flatMap g = (Tm q0).flatMap g) ∨ (z = 1 ∧ (∃ X, sti A D Y (chp en) par (fun n => SE' n = 1) X) ∧ SE' (rep par (ndo Y p0)) = 1)))) (p := (q0 : Nat)) (x3 := none) (x4 := none) (x5 := none) h 108 0 (by omega)
  rw [hst] at hgo
  refine hgo ?_
  have h1 := ovo_se (F := fun i => if i < 108 then (if i < 96 then (0 : Int) else 1) else SE i) h
  have f1 : fr 425 432 S (ai_wr S 430 (.inl (2, ai_I 108 (ax_f (fun i => if i < 108 then (if i < 96 then (0 : Int) else 1) else SE i))))) := fr_ov (by decide) (by decide)
  generalize ai_wr S 430 (.inl (2, ai_I 108 (ax_f (fun i => if i < 108 then (if i < 96 then (0 : Int) else 1) else SE i)))) = S1 at h1 f1 ⊢
  refine aw_pure (st' := ax_i (1) :: _) at_41_31 rfl rfl ?_
  refine aw_loc at_41_32 rfl rfl ?_
  refine aw_pure (st' := ax_i (0) :: _) at_41_33 rfl rfl ?_
  refine aw_loc at_41_34 rfl rfl ?_
  exact r_fin1 hA hA2 hs hv ht hp hu hp0 hq hDr hen hn1 he 108 0 S1 _ 1 _ _ (by omega) f1 h1 (fun n => by show (if n < 108 then (if n < 96 then (0 : Int) else 1) else SE n) = 0 ∨ (if n < 108 then (if n < 96 then (0 : Int) else 1) else SE n) = 1; split; split; exact Or.inl rfl; exact Or.inr rfl; exact h01 n) sti_row (Or.inr ⟨rfl, nz_first SE⟩)
end SE

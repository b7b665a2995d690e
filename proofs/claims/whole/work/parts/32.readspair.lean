/-! The reference: two terms are read; a row copied; two rows alike. -/
section MP
variable {L : Nat} {xs : Nat → Int32} {d : Nat} {S : ai_S}
theorem at_105_0 : ai_at ai_m105 0 = some (.iconst 0, 1) := rfl
theorem at_105_1 : ai_at ai_m105 1 = some (.istore_n 1, 1) := rfl
theorem at_105_2 : ai_at ai_m105 2 = some (.iload_n 1, 1) := rfl
theorem at_105_3 : ai_at ai_m105 3 = some (.aload_n 0, 1) := rfl
theorem at_105_4 : ai_at ai_m105 4 = some (.getfield 85, 3) := rfl
theorem at_105_7 : ai_at ai_m105 7 = some (.if_icmp .ge 20, 3) := rfl
theorem at_105_10 : ai_at ai_m105 10 = some (.aload_n 0, 1) := rfl
theorem at_105_11 : ai_at ai_m105 11 = some (.getfield 16, 3) := rfl
theorem at_105_14 : ai_at ai_m105 14 = some (.iload_n 1, 1) := rfl
theorem at_105_15 : ai_at ai_m105 15 = some (.iaload, 1) := rfl
theorem at_105_16 : ai_at ai_m105 16 = some (.bipush 61, 2) := rfl
theorem at_105_18 : ai_at ai_m105 18 = some (.if_icmp .eq 9, 3) := rfl
theorem at_105_21 : ai_at ai_m105 21 = some (.iinc 1 1, 3) := rfl
theorem at_105_24 : ai_at ai_m105 24 = some (.goto (-22), 3) := rfl
theorem at_105_27 : ai_at ai_m105 27 = some (.iload_n 1, 1) := rfl
theorem at_105_28 : ai_at ai_m105 28 = some (.aload_n 0, 1) := rfl
theorem at_105_29 : ai_at ai_m105 29 = some (.getfield 85, 3) := rfl
theorem at_105_32 : ai_at ai_m105 32 = some (.if_icmp .ge 32, 3) := rfl
theorem at_105_35 : ai_at ai_m105 35 = some (.aload_n 0, 1) := rfl
theorem at_105_36 : ai_at ai_m105 36 = some (.iconst 0, 1) := rfl
theorem at_105_37 : ai_at ai_m105 37 = some (.iload_n 1, 1) := rfl
theorem at_105_38 : ai_at ai_m105 38 = some (.iconst 0, 1) := rfl
theorem at_105_39 : ai_at ai_m105 39 = some (.invokevirtual 99, 3) := rfl
theorem at_105_42 : ai_at ai_m105 42 = some (.ifCond .eq 22, 3) := rfl
theorem at_105_45 : ai_at ai_m105 45 = some (.aload_n 0, 1) := rfl
theorem at_105_46 : ai_at ai_m105 46 = some (.iload_n 1, 1) := rfl
theorem at_105_47 : ai_at ai_m105 47 = some (.iconst 1, 1) := rfl
theorem at_105_48 : ai_at ai_m105 48 = some (.iadd, 1) := rfl
theorem at_105_49 : ai_at ai_m105 49 = some (.aload_n 0, 1) := rfl
theorem at_105_50 : ai_at ai_m105 50 = some (.getfield 85, 3) := rfl
theorem at_105_53 : ai_at ai_m105 53 = some (.iconst 1, 1) := rfl
theorem at_105_54 : ai_at ai_m105 54 = some (.invokevirtual 99, 3) := rfl
theorem at_105_57 : ai_at ai_m105 57 = some (.ifCond .eq 7, 3) := rfl
theorem at_105_60 : ai_at ai_m105 60 = some (.iconst 1, 1) := rfl
theorem at_105_61 : ai_at ai_m105 61 = some (.goto 4, 3) := rfl
theorem at_105_64 : ai_at ai_m105 64 = some (.iconst 0, 1) := rfl
theorem at_105_65 : ai_at ai_m105 65 = some (.ireturn, 1) := rfl
theorem mt_12_99 : ai_mth 12 99 = some (0, 106, 3, 11) := by decide +kernel
theorem ow_xr {X P C : Nat → Int} {b fr j : Nat} (h : ∀ i, 0 ≤ X i ∧ X i < 1000) (hk : ∀ i, i < j → 0 ≤ cd P (C (fr + i))) : ∀ i, 0 ≤ ow X b (fun i => cd P (C (fr + i))) j i ∧ ow X b (fun i => cd P (C (fr + i))) j i < 1000 := by
  intro i
  unfold ow
  split
  · have h1 := hk (i - b) (by omega)
    have h2 := cd_in (P := P) (c := C (fr + (i - b)))
    exact ⟨h1, by show cd P (C (fr + (i - b))) < 1000; omega⟩
  · exact h i
set_option maxHeartbeats 1000000 in
theorem r_m_mid {T D rc wt kp sx sc : Int} {n : Nat} (ho : mo S T D n rc wt kp sx sc) {C : Nat → Int} {Q : ai_O → Prop} (hC : ai_arr S 435 0 = some (60, ax_f C)) (hCr : ∀ i, 0 ≤ C i ∧ C i < 65536) (hn : n ≤ 60) : ∀ (k j : Nat), j + k = n → (∀ i, i < j → ¬ C i = 61) → (∀ m, mid C n m → ai_aw L xs d ai_m105 Q (27, [some (.ref 432), some (ax_i (m : Nat))], [], S)) → ai_aw L xs d ai_m105 Q (2, [some (.ref 432), some (ax_i (j : Nat))], [], S) := by
  intro k
  induction k with
  | zero =>
    intro j hj hno hK
    have hjn : j = n := by omega
    subst hjn
    refine aw_loc at_105_2 rfl rfl ?_
    refine aw_loc at_105_3 rfl rfl ?_
    refine aw_get at_105_4 rfl fl_12_85 ho rfl ?_
    refine ax_icmp_ge at_105_7 ⟨by omega, by omega⟩ ⟨by omega, by omega⟩ (fun _ => hK _ ⟨Nat.le_refl _, hno, Or.inl rfl⟩) (fun z => absurd z (by omega))
  | succ k ih =>
    intro j hj hno hK
    have hCj := hCr j
    refine aw_loc at_105_2 rfl rfl ?_
    refine aw_loc at_105_3 rfl rfl ?_
    refine aw_get at_105_4 rfl fl_12_85 ho rfl ?_
    refine ax_icmp_ge at_105_7 ⟨by omega, by omega⟩ ⟨by omega, by omega⟩ (fun z => absurd z (by omega)) (fun _ => ?_)
    refine aw_loc at_105_10 rfl rfl ?_
    refine aw_get at_105_11 rfl fl_12_16 ho rfl ?_
    refine aw_loc at_105_14 rfl rfl ?_
    refine ax_ild at_105_15 rfl hC (k := j) rfl (by omega) (by decide) ?_
    refine aw_pure (st' := ax_i (61) :: _) at_105_16 rfl rfl ?_
    refine ax_icmp_eq at_105_18 ⟨by omega, by omega⟩ ⟨by omega, by omega⟩ (fun z => hK _ ⟨by omega, hno, Or.inr z⟩) (fun z => ?_)
    refine ax_inc at_105_21 rfl rfl rfl ?_
    refine aw_goto at_105_24 ?_
    have := ih (j + 1) (by omega) (fun i hi => ?_) hK
    · rw [Int.natCast_add] at this; exact this
    · by_cases hij : i = j
      · subst hij; exact z
      · exact hno i (by omega)
set_option maxHeartbeats 4000000 in
theorem r_m_readsPair {T D rc wt kp sx sc : Int} {n : Nat} (ho : mo S T D n rc wt kp sx sc) {P C X Z : Nat → Int} (hP : ai_arr S 433 0 = some (8, ax_f P)) (hPr : ∀ i, -1 ≤ P i ∧ P i ≤ 2) (hC : ai_arr S 435 0 = some (60, ax_f C)) (hCr : ∀ i, 0 ≤ C i ∧ C i < 65536) (hn : n ≤ 60) (hX : ai_arr S 442 0 = some (192, ax_f X)) (hZ : ai_arr S 443 0 = some (3, ax_f Z)) : ai_rn L xs (d + 3) 105 [.ref 432] S (fun v S' => ∃ m z, mid C n m ∧ v = some (ax_i z) ∧ bz z (m < n ∧ vt (fun c => 0 ≤ cd P c) (fun c => ar P (cd P c)) (fun i => C (0 + i)) (m - 0) ∧ vt (fun c => 0 ≤ cd P c) (fun c => ar P (cd P c)) (fun i => C (m + 1 + i)) (n - (m + 1))) ∧ (∃ X' Z', S' = mt_put S X' Z' ∧ (m < n ∧ vt (fun c => 0 ≤ cd P c) (fun c => ar P (cd P c)) (fun i => C (0 + i)) (m - 0) ∧ vt (fun c => 0 ≤ cd P c) (fun c => ar P (cd P c)) (fun i => C (m + 1 + i)) (n - (m + 1)) → X' = ow (ow X 0 (fun i => cd P (C (0 + i))) m) 64 (fun i => cd P (C (m + 1 + i))) (n - (m + 1)) ∧ Z' = ax_up (ax_up Z 0 (m : Nat)) 1 ((n - (m + 1) : Nat) : Int)) ∧ ((∀ i, 0 ≤ X i ∧ X i < 1000) → ∀ i, 0 ≤ X' i ∧ X' i < 1000))) := by
  have hl : 443 < S.1 := (ai_arr_inv hZ).1
  refine ai_rn_of (M := ai_m105) rfl (by decide) (Nat.le_of_ble_eq_true rfl) ?_
  refine aw_pure (st' := ax_i (0) :: _) at_105_0 rfl rfl ?_
  refine aw_loc at_105_1 rfl rfl ?_
  refine r_m_mid ho hC hCr hn n 0 (by omega) (fun i hi => absurd hi (Nat.not_lt_zero i)) (fun m hm => ?_)
  have hmn := hm.1
  refine aw_loc at_105_27 rfl rfl ?_
  refine aw_loc at_105_28 rfl rfl ?_
  refine aw_get at_105_29 rfl fl_12_85 ho rfl ?_
  refine ax_icmp_ge at_105_32 ⟨by omega, by omega⟩ ⟨by omega, by omega⟩ (fun z => ?_) (fun z => ?_)
  · skip
    have hno : ¬ (m < n ∧ vt (fun c => 0 ≤ cd P c) (fun c => ar P (cd P c)) (fun i => C (0 + i)) (m - 0) ∧ vt (fun c => 0 ≤ cd P c) (fun c => ar P (cd P c)) (fun i => C (m + 1 + i)) (n - (m + 1))) := fun h => by omega
    refine aw_pure (st' := ax_i (0) :: _) at_105_64 rfl rfl ?_
    exact ax_retZ at_105_65 rfl (Or.inl rfl) ⟨_, _, rfl, m, 0, hm, rfl, Or.inl ⟨rfl, hno⟩, X, Z, (mt_self hX hZ).symm, fun h => absurd h hno, fun h => h⟩
  · skip
    refine aw_loc at_105_35 rfl rfl ?_
    refine aw_pure (st' := ax_i (0) :: _) at_105_36 rfl rfl ?_
    refine aw_loc at_105_37 rfl rfl ?_
    refine aw_pure (st' := ax_i (0) :: _) at_105_38 rfl rfl ?_
    refine aw_cv (a := 432) [ax_i ((0 : Nat) : Int), ax_i (m : Nat), ax_i ((0 : Nat) : Int)] [] at_105_39 mt_12_99 (Or.inl rfl) rfl rfl (Nat.le_of_ble_eq_true rfl) ⟨_, ho⟩ ((r_m_reads ho hP hPr hC hCr (by decide) (by omega) (by omega) hX hZ).mono ?_)
    rintro v S1 ⟨j1, y, hj1, rfl, rfl, hy, hyv, hyk⟩
    have hyl := hy.le
    generalize hX1 : ow X (64 * 0) (fun i => cd P (C (0 + i))) j1 = X1
    generalize hZ1 : ax_up Z 0 ((j1 : Nat) : Int) = Z1
    have hq1 : (∀ i, 0 ≤ X i ∧ X i < 1000) → ∀ i, 0 ≤ X1 i ∧ X1 i < 1000 := fun h => hX1 ▸ ow_xr h hyk
    have ho1 : mo (mt_put S X1 Z1) T D n rc wt kp sx sc := (mt_obj (by decide) (by decide)).trans ho
    have hP1 : ai_arr (mt_put S X1 Z1) 433 0 = some (8, ax_f P) := (mt_arr (by decide) (by decide)).trans hP
    have hC1 : ai_arr (mt_put S X1 Z1) 435 0 = some (60, ax_f C) := (mt_arr (by decide) (by decide)).trans hC
    refine ax_if_eq at_105_42 ⟨by omega, by omega⟩ (fun zz => ?_) (fun zz => ?_)
    · skip
      have hno : ¬ (m < n ∧ vt (fun c => 0 ≤ cd P c) (fun c => ar P (cd P c)) (fun i => C (0 + i)) (m - 0) ∧ vt (fun c => 0 ≤ cd P c) (fun c => ar P (cd P c)) (fun i => C (m + 1 + i)) (n - (m + 1))) := fun h => by rcases hy with ⟨-, h9⟩ | ⟨h9, -⟩; exact h9 h.2.1; omega
      refine aw_pure (st' := ax_i (0) :: _) at_105_64 rfl rfl ?_
      exact ax_retZ at_105_65 rfl (Or.inl rfl) ⟨_, _, rfl, m, 0, hm, rfl, Or.inl ⟨rfl, hno⟩, X1, Z1, rfl, fun h => absurd h hno, hq1⟩
    · skip
      have hyl : vt (fun c => 0 ≤ cd P c) (fun c => ar P (cd P c)) (fun i => C (0 + i)) (m - 0) := by rcases hy with ⟨h9, -⟩ | ⟨-, h9⟩; omega; exact h9
      refine aw_loc at_105_45 rfl rfl ?_
      refine aw_loc at_105_46 rfl rfl ?_
      refine aw_pure (st' := ax_i (1) :: _) at_105_47 rfl rfl ?_
      refine ax_add at_105_48 rfl ?_
      refine aw_loc at_105_49 rfl rfl ?_
      refine aw_get at_105_50 rfl fl_12_85 ho1 rfl ?_
      refine aw_pure (st' := ax_i (1) :: _) at_105_53 rfl rfl ?_
      rw [show (m : Int) + 1 = ((m + 1 : Nat) : Int) by omega]
      refine aw_cv (a := 432) [ax_i ((m + 1 : Nat) : Int), ax_i (n : Nat), ax_i ((1 : Nat) : Int)] [] at_105_54 mt_12_99 (Or.inl rfl) rfl rfl (Nat.le_of_ble_eq_true rfl) ⟨_, ho1⟩ ((r_m_reads ho1 hP1 hPr hC1 hCr (by decide) (by omega) (by omega) (mt_X hl) (mt_Z hl)).mono ?_)
      rintro v S1 ⟨j2, x, hj2, rfl, rfl, hx, hxv, hxk⟩
      have hxl := hx.le
      rw [mt_two]
      refine ax_if_eq at_105_57 ⟨by omega, by omega⟩ (fun zy => ?_) (fun zy => ?_)
      · skip
        have hno : ¬ (m < n ∧ vt (fun c => 0 ≤ cd P c) (fun c => ar P (cd P c)) (fun i => C (0 + i)) (m - 0) ∧ vt (fun c => 0 ≤ cd P c) (fun c => ar P (cd P c)) (fun i => C (m + 1 + i)) (n - (m + 1))) := fun h => by rcases hx with ⟨-, h9⟩ | ⟨h9, -⟩; exact h9 h.2.2; omega
        refine aw_pure (st' := ax_i (0) :: _) at_105_64 rfl rfl ?_
        exact ax_retZ at_105_65 rfl (Or.inl rfl) ⟨_, _, rfl, m, 0, hm, rfl, Or.inl ⟨rfl, hno⟩, _, _, rfl, fun h => absurd h hno, fun h => ow_xr (hq1 h) hxk⟩
      · skip
        have hxr : vt (fun c => 0 ≤ cd P c) (fun c => ar P (cd P c)) (fun i => C (m + 1 + i)) (n - (m + 1)) := by rcases hx with ⟨h9, -⟩ | ⟨-, h9⟩; omega; exact h9
        refine aw_pure (st' := ax_i (1) :: _) at_105_60 rfl rfl ?_
        refine aw_goto at_105_61 ?_
        refine ax_retZ at_105_65 rfl (Or.inr rfl) ⟨_, _, rfl, m, 1, hm, rfl, Or.inr ⟨rfl, by omega, hyl, hxr⟩, _, _, rfl, fun _ => ?_, fun h => ow_xr (hq1 h) hxk⟩
        have e1 : j1 = m := hyv hyl
        have e2 : j2 = n - (m + 1) := hxv hxr
        subst e1
        subst e2
        subst hX1
        subst hZ1
        exact ⟨rfl, rfl⟩
end MP

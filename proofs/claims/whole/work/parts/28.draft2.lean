/-! The draft of the landed code: two terms are read. -/
section DP
variable {L : Nat} {xs : Nat → Int32} {d : Nat} {S : ai_S}
/-- m is where the first = stands among the first n, or n -/
def mid (C : Nat → Int) (n m : Nat) : Prop := m ≤ n ∧ (∀ i, i < m → ¬ C i = 61) ∧ (m = n ∨ C m = 61)
theorem mid_one {C : Nat → Int} {n m m' : Nat} (h : mid C n m) (h' : mid C n m') : m = m' := by
  obtain ⟨h1, h2, h3⟩ := h
  obtain ⟨g1, g2, g3⟩ := h'
  rcases Nat.lt_trichotomy m m' with hlt | heq | hgt
  · rcases h3 with h3 | h3
    · omega
    · exact absurd h3 (g2 m hlt)
  · exact heq
  · rcases g3 with g3 | g3
    · omega
    · exact absurd g3 (h2 m' hgt)
theorem at_19_0 : ai_at ai_m19 0 = some (.iconst 0, 1) := rfl
theorem at_19_1 : ai_at ai_m19 1 = some (.istore_n 3, 1) := rfl
theorem at_19_2 : ai_at ai_m19 2 = some (.iload_n 3, 1) := rfl
theorem at_19_3 : ai_at ai_m19 3 = some (.aload_n 0, 1) := rfl
theorem at_19_4 : ai_at ai_m19 4 = some (.getfield 15, 3) := rfl
theorem at_19_7 : ai_at ai_m19 7 = some (.if_icmp .ge 20, 3) := rfl
theorem at_19_10 : ai_at ai_m19 10 = some (.aload_n 0, 1) := rfl
theorem at_19_11 : ai_at ai_m19 11 = some (.getfield 9, 3) := rfl
theorem at_19_14 : ai_at ai_m19 14 = some (.iload_n 3, 1) := rfl
theorem at_19_15 : ai_at ai_m19 15 = some (.caload, 1) := rfl
theorem at_19_16 : ai_at ai_m19 16 = some (.bipush 61, 2) := rfl
theorem at_19_18 : ai_at ai_m19 18 = some (.if_icmp .eq 9, 3) := rfl
theorem at_19_21 : ai_at ai_m19 21 = some (.iinc 3 1, 3) := rfl
theorem at_19_24 : ai_at ai_m19 24 = some (.goto (-22), 3) := rfl
theorem at_19_27 : ai_at ai_m19 27 = some (.aload_n 0, 1) := rfl
theorem at_19_28 : ai_at ai_m19 28 = some (.aload_n 1, 1) := rfl
theorem at_19_29 : ai_at ai_m19 29 = some (.iconst 0, 1) := rfl
theorem at_19_30 : ai_at ai_m19 30 = some (.iload_n 3, 1) := rfl
theorem at_19_31 : ai_at ai_m19 31 = some (.aload_n 2, 1) := rfl
theorem at_19_32 : ai_at ai_m19 32 = some (.getfield 33, 3) := rfl
theorem at_19_35 : ai_at ai_m19 35 = some (.invokevirtual 39, 3) := rfl
theorem at_19_38 : ai_at ai_m19 38 = some (.ifCond .eq 26, 3) := rfl
theorem at_19_41 : ai_at ai_m19 41 = some (.aload_n 0, 1) := rfl
theorem at_19_42 : ai_at ai_m19 42 = some (.aload_n 1, 1) := rfl
theorem at_19_43 : ai_at ai_m19 43 = some (.iload_n 3, 1) := rfl
theorem at_19_44 : ai_at ai_m19 44 = some (.iconst 1, 1) := rfl
theorem at_19_45 : ai_at ai_m19 45 = some (.iadd, 1) := rfl
theorem at_19_46 : ai_at ai_m19 46 = some (.aload_n 0, 1) := rfl
theorem at_19_47 : ai_at ai_m19 47 = some (.getfield 15, 3) := rfl
theorem at_19_50 : ai_at ai_m19 50 = some (.aload_n 2, 1) := rfl
theorem at_19_51 : ai_at ai_m19 51 = some (.getfield 43, 3) := rfl
theorem at_19_54 : ai_at ai_m19 54 = some (.invokevirtual 39, 3) := rfl
theorem at_19_57 : ai_at ai_m19 57 = some (.ifCond .eq 7, 3) := rfl
theorem at_19_60 : ai_at ai_m19 60 = some (.iconst 1, 1) := rfl
theorem at_19_61 : ai_at ai_m19 61 = some (.goto 4, 3) := rfl
theorem at_19_64 : ai_at ai_m19 64 = some (.iconst 0, 1) := rfl
theorem at_19_65 : ai_at ai_m19 65 = some (.ireturn, 1) := rfl
theorem fl_1_33 : ai_fld 1 33 = some (3, 0, true) := by decide +kernel
theorem fl_1_43 : ai_fld 1 43 = some (3, 1, true) := by decide +kernel
theorem mt_1_39 : ai_mth 1 39 = some (0, 20, 4, 2) := by decide +kernel
set_option maxHeartbeats 1000000 in
theorem r_mid {C : Nat → Int} {n p : Nat} {Q : ai_O → Prop} (hd : dv S C n) (hC : ∀ i, 0 ≤ C i ∧ C i < 65536) (hn : n ≤ 60) : ∀ (k j : Nat), j + k = n → (∀ i, i < j → ¬ C i = 61) → (∀ m, mid C n m → ai_aw L xs d ai_m19 Q (27, [some (.ref 4), some (.ref 1), some (.ref p), some (ax_i (m : Nat))], [], S)) → ai_aw L xs d ai_m19 Q (2, [some (.ref 4), some (.ref 1), some (.ref p), some (ax_i (j : Nat))], [], S) := by
  intro k
  induction k with
  | zero =>
    intro j hj hno hK
    have hjn : j = n := by omega
    subst hjn
    refine aw_loc at_19_2 rfl rfl ?_
    refine aw_loc at_19_3 rfl rfl ?_
    refine aw_get at_19_4 rfl fl_1_15 hd.1 rfl ?_
    refine ax_icmp_ge at_19_7 ⟨by omega, by omega⟩ ⟨by omega, by omega⟩ (fun _ => hK _ ⟨Nat.le_refl _, hno, Or.inl rfl⟩) (fun z => absurd z (by omega))
  | succ k ih =>
    intro j hj hno hK
    have hCj := hC j
    refine aw_loc at_19_2 rfl rfl ?_
    refine aw_loc at_19_3 rfl rfl ?_
    refine aw_get at_19_4 rfl fl_1_15 hd.1 rfl ?_
    refine ax_icmp_ge at_19_7 ⟨by omega, by omega⟩ ⟨by omega, by omega⟩ (fun z => absurd z (by omega)) (fun _ => ?_)
    refine aw_loc at_19_10 rfl rfl ?_
    refine aw_get at_19_11 rfl fl_1_9 hd.1 rfl ?_
    refine aw_loc at_19_14 rfl rfl ?_
    refine ax_cld at_19_15 rfl hd.2 (k := j) rfl (by omega) (by decide) ?_
    refine aw_pure (st' := ax_i (61) :: _) at_19_16 rfl rfl ?_
    refine ax_icmp_eq at_19_18 ⟨by omega, by omega⟩ ⟨by omega, by omega⟩ (fun z => hK _ ⟨by omega, hno, Or.inr z⟩) (fun z => ?_)
    refine ax_inc at_19_21 rfl rfl rfl ?_
    refine aw_goto at_19_24 ?_
    have := ih (j + 1) (by omega) (fun i hi => ?_) hK
    · rw [Int.natCast_add] at this; exact this
    · by_cases hij : i = j
      · subst hij; exact z
      · exact hno i (by omega)
set_option maxHeartbeats 4000000 in
theorem r_readPair {P R C : Nat → Int} {nn : Int} {n p : Nat} {l r : List Int} (hs : sy S P R nn) (hP : ∀ i, 0 ≤ P i ∧ P i ≤ 2) (hR : ∀ i, 0 ≤ R i ∧ R i ≤ 1000) (hd : dv S C n) (hC : ∀ i, 0 ≤ C i ∧ C i < 65536) (hn : n ≤ 60) (hp : pw S p l r) (h5 : 5 < p) : ai_rn L xs (d + 5) 19 [.ref 4, .ref 1, .ref p] S (fun v S' => ∃ m z l' r', mid C n m ∧ v = some (ax_i z) ∧ bz z (vt (kC R) (at256 P) (fun i => C (0 + i)) (m - 0) ∧ vt (kC R) (at256 P) (fun i => C (m + 1 + i)) (n - (m + 1))) ∧ pq S S' p l' r' ∧ (vt (kC R) (at256 P) (fun i => C (0 + i)) (m - 0) ∧ vt (kC R) (at256 P) (fun i => C (m + 1 + i)) (n - (m + 1)) → l' = sl C 0 m ∧ r' = sl C (m + 1) (n - (m + 1)))) := by
  obtain ⟨T, tn, U, un, hp, hT, hU⟩ := hp
  refine ai_rn_of (M := ai_m19) rfl (by decide) (Nat.le_of_ble_eq_true rfl) ?_
  refine aw_pure (st' := ax_i (0) :: _) at_19_0 rfl rfl ?_
  refine aw_loc at_19_1 rfl rfl ?_
  refine r_mid hd hC hn n 0 (by omega) (fun i hi => absurd hi (Nat.not_lt_zero i)) (fun m hm => ?_)
  have hmn := hm.1
  refine aw_loc at_19_27 rfl rfl ?_
  refine aw_loc at_19_28 rfl rfl ?_
  refine aw_pure (st' := ax_i (0) :: _) at_19_29 rfl rfl ?_
  refine aw_loc at_19_30 rfl rfl ?_
  refine aw_loc at_19_31 rfl rfl ?_
  refine aw_get at_19_32 rfl fl_1_33 hp.1 rfl ?_
  refine aw_cv (a := 4) [.ref 1, ax_i ((0 : Nat) : Int), ax_i (m : Nat), .ref (p + 1)] [] at_19_35 mt_1_39 (Or.inl rfl) rfl rfl (Nat.le_of_ble_eq_true rfl) ⟨_, hd.1⟩ ((r_read hs hP hR hd hC (by omega) (by omega) (by omega) hp.2.1 hT.2.2).mono ?_)
  rintro v S1 ⟨T', n', w', z, rfl, hw, rfl, hz, hwv⟩
  have hzl := hz.le
  have hR1 : tm (tm_put S (p + 1) T' n') (p + 3) U un := tm_off hp.2.2 (by omega) (by omega) (by omega)
  have hp1 : ai_obj (tm_put S (p + 1) T' n') p 3 = some [.ref (p + 1), .ref (p + 3)] := (tm_obj (by omega) (by omega)).trans hp.1
  have hs1 := sy_tm (T := T') (m := n') hs (show 5 < p + 1 by omega)
  have hd1 := dv_tm (T := T') (m := n') hd (show 5 < p + 1 by omega)
  refine ax_if_eq at_19_38 ⟨by omega, by omega⟩ (fun z => ?_) (fun z => ?_)
  · skip
    have hno : ¬ (vt (kC R) (at256 P) (fun i => C (0 + i)) (m - 0) ∧ vt (kC R) (at256 P) (fun i => C (m + 1 + i)) (n - (m + 1))) := fun h => by rcases hz with ⟨-, h9⟩ | ⟨h9, -⟩; exact h9 h.1; omega
    refine aw_pure (st' := ax_i (0) :: _) at_19_64 rfl rfl ?_
    exact ax_retZ at_19_65 rfl (Or.inl rfl) ⟨_, _, rfl, m, 0, w', r, hm, rfl, Or.inl ⟨rfl, hno⟩, ⟨T', n', U, un, (tm_self hR1).symm, hw, hU⟩, fun h => absurd h hno⟩
  · skip
    have hyl : vt (kC R) (at256 P) (fun i => C (0 + i)) (m - 0) := by rcases hz with ⟨h9, -⟩ | ⟨-, h9⟩; omega; exact h9
    refine aw_loc at_19_41 rfl rfl ?_
    refine aw_loc at_19_42 rfl rfl ?_
    refine aw_loc at_19_43 rfl rfl ?_
    refine aw_pure (st' := ax_i (1) :: _) at_19_44 rfl rfl ?_
    refine ax_add at_19_45 rfl ?_
    refine aw_loc at_19_46 rfl rfl ?_
    refine aw_get at_19_47 rfl fl_1_15 hd1.1 rfl ?_
    refine aw_loc at_19_50 rfl rfl ?_
    refine aw_get at_19_51 rfl fl_1_43 hp1 rfl ?_
    rw [show (m : Int) + 1 = ((m + 1 : Nat) : Int) by omega]
    refine aw_cv (a := 4) [.ref 1, ax_i ((m + 1 : Nat) : Int), ax_i (n : Nat), .ref (p + 3)] [] at_19_54 mt_1_39 (Or.inl rfl) rfl rfl (Nat.le_of_ble_eq_true rfl) ⟨_, hd1.1⟩ ((r_read hs1 hP hR hd1 hC (by omega) (by omega) (by omega) hR1 hU.2.2).mono ?_)
    rintro v S1 ⟨U', m', u', y, rfl, hu, rfl, hy, huv⟩
    have hyl2 := hy.le
    refine ax_if_eq at_19_57 ⟨by omega, by omega⟩ (fun zz => ?_) (fun zz => ?_)
    · skip
      have hno : ¬ (vt (kC R) (at256 P) (fun i => C (0 + i)) (m - 0) ∧ vt (kC R) (at256 P) (fun i => C (m + 1 + i)) (n - (m + 1))) := fun h => by rcases hy with ⟨-, h9⟩ | ⟨h9, -⟩; exact h9 h.2; omega
      refine aw_pure (st' := ax_i (0) :: _) at_19_64 rfl rfl ?_
      exact ax_retZ at_19_65 rfl (Or.inl rfl) ⟨_, _, rfl, m, 0, w', u', hm, rfl, Or.inl ⟨rfl, hno⟩, ⟨T', n', U', m', rfl, hw, hu⟩, fun h => absurd h hno⟩
    · skip
      have hyr : vt (kC R) (at256 P) (fun i => C (m + 1 + i)) (n - (m + 1)) := by rcases hy with ⟨h9, -⟩ | ⟨-, h9⟩; omega; exact h9
      refine aw_pure (st' := ax_i (1) :: _) at_19_60 rfl rfl ?_
      refine aw_goto at_19_61 ?_
      exact ax_retZ at_19_65 rfl (Or.inr rfl) ⟨_, _, rfl, m, 1, w', u', hm, rfl, Or.inr ⟨rfl, hyl, hyr⟩, ⟨T', n', U', m', rfl, hw, hu⟩, fun h => ⟨hwv h.1, huv h.2⟩⟩
end DP

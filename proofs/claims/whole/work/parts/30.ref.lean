/-! The reference's small methods. -/
section MO
variable {L : Nat} {xs : Nat → Int32} {d : Nat} {S S' : ai_S}
/-- the reference's fields: thrown, declared, draft's size, rules, waiting, kept, state, steps -/
def mf (T D n rc wt kp sx sc : Int) : List Value := [ax_i T, .ref 433, .ref 434, ax_i D, ax_i n, .ref 435, ax_i rc, .ref 436, .ref 437, .ref 438, ax_i wt, ax_i kp, .ref 439, .ref 440, .ref 441, ax_i sx, ax_i sc, .ref 442, .ref 443, .ref 444, .ref 445, .ref 446, .ref 447, .ref 448, .ref 449, .ref 450, .ref 451]
def mo (S : ai_S) (T D n rc wt kp sx sc : Int) : Prop := ai_obj S 432 11 = some (mf T D n rc wt kp sx sc)
/-- the places of a code -/
def ar (P : Nat → Int) (c : Int) : Int := if c < 8 then P c.toNat else 0
/-- a code's letter -/
def lt' (c : Int) : Int := if c < 8 then 97 + c else 109 + c
/-- a letter's code, -1 if it is none -/
def cd (P : Nat → Int) (c : Int) : Int := if 117 ≤ c ∧ c ≤ 122 then c - 109 else if 97 ≤ c ∧ c ≤ 104 ∧ 0 ≤ P (c - 97).toNat then c - 97 else -1
/-- the need after k letters of the row X from p on -/
def nd (P X : Nat → Int) (p : Nat) : Nat → Int
  | 0 => 1
  | k + 1 => nd P X p k + ar P (X (p + k)) - 1
theorem ar_in {P : Nat → Int} (hP : ∀ i, -1 ≤ P i ∧ P i ≤ 2) (c : Int) : -1 ≤ ar P c ∧ ar P c ≤ 2 := by
  unfold ar
  split
  · exact hP _
  · omega
theorem nd_in {P X : Nat → Int} (hP : ∀ i, -1 ≤ P i ∧ P i ≤ 2) (p : Nat) : ∀ k : Nat, 1 - 2 * (k : Int) ≤ nd P X p k ∧ nd P X p k ≤ 1 + (k : Int)
  | 0 => by unfold nd; omega
  | k + 1 => by
    have h1 := nd_in hP (X := X) p k
    have h2 := ar_in hP (X (p + k))
    unfold nd
    omega
theorem at_107_0 : ai_at ai_m107 0 = some (.iload_n 1, 1) := rfl
theorem at_107_1 : ai_at ai_m107 1 = some (.bipush 117, 2) := rfl
theorem at_107_3 : ai_at ai_m107 3 = some (.if_icmp .lt 17, 3) := rfl
theorem at_107_6 : ai_at ai_m107 6 = some (.iload_n 1, 1) := rfl
theorem at_107_7 : ai_at ai_m107 7 = some (.bipush 122, 2) := rfl
theorem at_107_9 : ai_at ai_m107 9 = some (.if_icmp .gt 11, 3) := rfl
theorem at_107_12 : ai_at ai_m107 12 = some (.bipush 8, 2) := rfl
theorem at_107_14 : ai_at ai_m107 14 = some (.iload_n 1, 1) := rfl
theorem at_107_15 : ai_at ai_m107 15 = some (.iadd, 1) := rfl
theorem at_107_16 : ai_at ai_m107 16 = some (.bipush 117, 2) := rfl
theorem at_107_18 : ai_at ai_m107 18 = some (.isub, 1) := rfl
theorem at_107_19 : ai_at ai_m107 19 = some (.ireturn, 1) := rfl
theorem at_107_20 : ai_at ai_m107 20 = some (.iload_n 1, 1) := rfl
theorem at_107_21 : ai_at ai_m107 21 = some (.bipush 97, 2) := rfl
theorem at_107_23 : ai_at ai_m107 23 = some (.if_icmp .lt 28, 3) := rfl
theorem at_107_26 : ai_at ai_m107 26 = some (.iload_n 1, 1) := rfl
theorem at_107_27 : ai_at ai_m107 27 = some (.bipush 104, 2) := rfl
theorem at_107_29 : ai_at ai_m107 29 = some (.if_icmp .gt 22, 3) := rfl
theorem at_107_32 : ai_at ai_m107 32 = some (.aload_n 0, 1) := rfl
theorem at_107_33 : ai_at ai_m107 33 = some (.getfield 7, 3) := rfl
theorem at_107_36 : ai_at ai_m107 36 = some (.iload_n 1, 1) := rfl
theorem at_107_37 : ai_at ai_m107 37 = some (.bipush 97, 2) := rfl
theorem at_107_39 : ai_at ai_m107 39 = some (.isub, 1) := rfl
theorem at_107_40 : ai_at ai_m107 40 = some (.iaload, 1) := rfl
theorem at_107_41 : ai_at ai_m107 41 = some (.ifCond .lt 10, 3) := rfl
theorem at_107_44 : ai_at ai_m107 44 = some (.iload_n 1, 1) := rfl
theorem at_107_45 : ai_at ai_m107 45 = some (.bipush 97, 2) := rfl
theorem at_107_47 : ai_at ai_m107 47 = some (.isub, 1) := rfl
theorem at_107_48 : ai_at ai_m107 48 = some (.goto 4, 3) := rfl
theorem at_107_51 : ai_at ai_m107 51 = some (.iconst (-1), 1) := rfl
theorem at_107_52 : ai_at ai_m107 52 = some (.ireturn, 1) := rfl
theorem at_108_0 : ai_at ai_m108 0 = some (.aload_n 0, 1) := rfl
theorem at_108_1 : ai_at ai_m108 1 = some (.getfield 40, 3) := rfl
theorem at_108_4 : ai_at ai_m108 4 = some (.iload_n 1, 1) := rfl
theorem at_108_5 : ai_at ai_m108 5 = some (.iaload, 1) := rfl
theorem at_108_6 : ai_at ai_m108 6 = some (.bipush 64, 2) := rfl
theorem at_108_8 : ai_at ai_m108 8 = some (.if_icmp .ge 30, 3) := rfl
theorem at_108_11 : ai_at ai_m108 11 = some (.aload_n 0, 1) := rfl
theorem at_108_12 : ai_at ai_m108 12 = some (.getfield 37, 3) := rfl
theorem at_108_15 : ai_at ai_m108 15 = some (.bipush 64, 2) := rfl
theorem at_108_17 : ai_at ai_m108 17 = some (.iload_n 1, 1) := rfl
theorem at_108_18 : ai_at ai_m108 18 = some (.imul, 1) := rfl
theorem at_108_19 : ai_at ai_m108 19 = some (.aload_n 0, 1) := rfl
theorem at_108_20 : ai_at ai_m108 20 = some (.getfield 40, 3) := rfl
theorem at_108_23 : ai_at ai_m108 23 = some (.iload_n 1, 1) := rfl
theorem at_108_24 : ai_at ai_m108 24 = some (.iaload, 1) := rfl
theorem at_108_25 : ai_at ai_m108 25 = some (.iadd, 1) := rfl
theorem at_108_26 : ai_at ai_m108 26 = some (.iload_n 2, 1) := rfl
theorem at_108_27 : ai_at ai_m108 27 = some (.iastore, 1) := rfl
theorem at_108_28 : ai_at ai_m108 28 = some (.aload_n 0, 1) := rfl
theorem at_108_29 : ai_at ai_m108 29 = some (.getfield 40, 3) := rfl
theorem at_108_32 : ai_at ai_m108 32 = some (.iload_n 1, 1) := rfl
theorem at_108_33 : ai_at ai_m108 33 = some (.dup2, 1) := rfl
theorem at_108_34 : ai_at ai_m108 34 = some (.iaload, 1) := rfl
theorem at_108_35 : ai_at ai_m108 35 = some (.iconst 1, 1) := rfl
theorem at_108_36 : ai_at ai_m108 36 = some (.iadd, 1) := rfl
theorem at_108_37 : ai_at ai_m108 37 = some (.iastore, 1) := rfl
theorem at_108_38 : ai_at ai_m108 38 = some (.return_, 1) := rfl
theorem at_109_0 : ai_at ai_m109 0 = some (.iload_n 1, 1) := rfl
theorem at_109_1 : ai_at ai_m109 1 = some (.bipush 8, 2) := rfl
theorem at_109_3 : ai_at ai_m109 3 = some (.if_icmp .ge 12, 3) := rfl
theorem at_109_6 : ai_at ai_m109 6 = some (.aload_n 0, 1) := rfl
theorem at_109_7 : ai_at ai_m109 7 = some (.getfield 7, 3) := rfl
theorem at_109_10 : ai_at ai_m109 10 = some (.iload_n 1, 1) := rfl
theorem at_109_11 : ai_at ai_m109 11 = some (.iaload, 1) := rfl
theorem at_109_12 : ai_at ai_m109 12 = some (.goto 4, 3) := rfl
theorem at_109_15 : ai_at ai_m109 15 = some (.iconst 0, 1) := rfl
theorem at_109_16 : ai_at ai_m109 16 = some (.ireturn, 1) := rfl
theorem at_120_0 : ai_at ai_m120 0 = some (.iconst 1, 1) := rfl
theorem at_120_1 : ai_at ai_m120 1 = some (.istore_n 3, 1) := rfl
theorem at_120_2 : ai_at ai_m120 2 = some (.iload_n 2, 1) := rfl
theorem at_120_3 : ai_at ai_m120 3 = some (.istore 4, 2) := rfl
theorem at_120_5 : ai_at ai_m120 5 = some (.iload_n 3, 1) := rfl
theorem at_120_6 : ai_at ai_m120 6 = some (.ifCond .le 30, 3) := rfl
theorem at_120_9 : ai_at ai_m120 9 = some (.iload_n 3, 1) := rfl
theorem at_120_10 : ai_at ai_m120 10 = some (.aload_n 0, 1) := rfl
theorem at_120_11 : ai_at ai_m120 11 = some (.aload_n 0, 1) := rfl
theorem at_120_12 : ai_at ai_m120 12 = some (.getfield 37, 3) := rfl
theorem at_120_15 : ai_at ai_m120 15 = some (.bipush 64, 2) := rfl
theorem at_120_17 : ai_at ai_m120 17 = some (.iload_n 1, 1) := rfl
theorem at_120_18 : ai_at ai_m120 18 = some (.imul, 1) := rfl
theorem at_120_19 : ai_at ai_m120 19 = some (.iload 4, 2) := rfl
theorem at_120_21 : ai_at ai_m120 21 = some (.iadd, 1) := rfl
theorem at_120_22 : ai_at ai_m120 22 = some (.iaload, 1) := rfl
theorem at_120_23 : ai_at ai_m120 23 = some (.invokevirtual 96, 3) := rfl
theorem at_120_26 : ai_at ai_m120 26 = some (.iconst 1, 1) := rfl
theorem at_120_27 : ai_at ai_m120 27 = some (.isub, 1) := rfl
theorem at_120_28 : ai_at ai_m120 28 = some (.iadd, 1) := rfl
theorem at_120_29 : ai_at ai_m120 29 = some (.istore_n 3, 1) := rfl
theorem at_120_30 : ai_at ai_m120 30 = some (.iinc 4 1, 3) := rfl
theorem at_120_33 : ai_at ai_m120 33 = some (.goto (-28), 3) := rfl
theorem at_120_36 : ai_at ai_m120 36 = some (.iload 4, 2) := rfl
theorem at_120_38 : ai_at ai_m120 38 = some (.ireturn, 1) := rfl
theorem at_142_0 : ai_at ai_m142 0 = some (.iload_n 0, 1) := rfl
theorem at_142_1 : ai_at ai_m142 1 = some (.bipush 8, 2) := rfl
theorem at_142_3 : ai_at ai_m142 3 = some (.if_icmp .ge 7, 3) := rfl
theorem at_142_6 : ai_at ai_m142 6 = some (.iload_n 0, 1) := rfl
theorem at_142_7 : ai_at ai_m142 7 = some (.goto 7, 3) := rfl
theorem at_142_10 : ai_at ai_m142 10 = some (.iload_n 0, 1) := rfl
theorem at_142_11 : ai_at ai_m142 11 = some (.bipush 6, 2) := rfl
theorem at_142_13 : ai_at ai_m142 13 = some (.iadd, 1) := rfl
theorem at_142_14 : ai_at ai_m142 14 = some (.ireturn, 1) := rfl
theorem at_153_0 : ai_at ai_m153 0 = some (.iload_n 0, 1) := rfl
theorem at_153_1 : ai_at ai_m153 1 = some (.bipush 8, 2) := rfl
theorem at_153_3 : ai_at ai_m153 3 = some (.if_icmp .ge 10, 3) := rfl
theorem at_153_6 : ai_at ai_m153 6 = some (.bipush 97, 2) := rfl
theorem at_153_8 : ai_at ai_m153 8 = some (.iload_n 0, 1) := rfl
theorem at_153_9 : ai_at ai_m153 9 = some (.iadd, 1) := rfl
theorem at_153_10 : ai_at ai_m153 10 = some (.goto 10, 3) := rfl
theorem at_153_13 : ai_at ai_m153 13 = some (.bipush 117, 2) := rfl
theorem at_153_15 : ai_at ai_m153 15 = some (.iload_n 0, 1) := rfl
theorem at_153_16 : ai_at ai_m153 16 = some (.iadd, 1) := rfl
theorem at_153_17 : ai_at ai_m153 17 = some (.bipush 8, 2) := rfl
theorem at_153_19 : ai_at ai_m153 19 = some (.isub, 1) := rfl
theorem at_153_20 : ai_at ai_m153 20 = some (.i2c, 1) := rfl
theorem at_153_21 : ai_at ai_m153 21 = some (.ireturn, 1) := rfl
theorem fl_12_7 : ai_fld 12 7 = some (11, 1, false) := by decide +kernel
theorem fl_12_37 : ai_fld 12 37 = some (11, 17, false) := by decide +kernel
theorem fl_12_40 : ai_fld 12 40 = some (11, 18, false) := by decide +kernel
theorem mt_12_96 : ai_mth 12 96 = some (0, 109, 1, 11) := by decide +kernel
theorem r_m_places {T D n rc wt kp sx sc : Int} (ho : mo S T D n rc wt kp sx sc) {P : Nat → Int} {c : Int} (hP : ai_arr S 433 0 = some (8, ax_f P)) (hc : 0 ≤ c ∧ c < 1000) : ai_rn L xs (d + 1) 109 [.ref 432, ax_i c] S (fun v S' => S' = S ∧ v = some (ax_i (ar P c))) := by
  refine ai_rn_of (M := ai_m109) rfl (by decide) (Nat.le_of_ble_eq_true rfl) ?_
  refine aw_loc at_109_0 rfl rfl ?_
  refine aw_pure (st' := ax_i (8) :: _) at_109_1 rfl rfl ?_
  refine ax_icmp_ge at_109_3 ⟨by omega, by omega⟩ ⟨by omega, by omega⟩ (fun z => ?_) (fun z => ?_)
  · skip
    refine aw_pure (st' := ax_i (0) :: _) at_109_15 rfl rfl ?_
    exact ax_ret at_109_16 rfl ⟨_, _, rfl, rfl, by unfold ar; rw [if_neg (by omega)]⟩
  · skip
    refine aw_loc at_109_6 rfl rfl ?_
    refine aw_get at_109_7 rfl fl_12_7 ho rfl ?_
    refine aw_loc at_109_10 rfl rfl ?_
    refine ax_ild at_109_11 rfl hP (k := c.toNat) (by omega) (by omega) (by decide) ?_
    refine aw_goto at_109_12 ?_
    exact ax_ret at_109_16 rfl ⟨_, _, rfl, rfl, by unfold ar; rw [if_pos (by omega)]⟩
theorem r_m_letter {c : Int} (hc : 0 ≤ c ∧ c < 1000) : ai_rn L xs (d + 1) 153 [ax_i c] S (fun v S' => S' = S ∧ v = some (ax_i (lt' c))) := by
  refine ai_rn_of (M := ai_m153) rfl (by decide) (Nat.le_of_ble_eq_true rfl) ?_
  refine aw_loc at_153_0 rfl rfl ?_
  refine aw_pure (st' := ax_i (8) :: _) at_153_1 rfl rfl ?_
  refine ax_icmp_ge at_153_3 ⟨by omega, by omega⟩ ⟨by omega, by omega⟩ (fun z => ?_) (fun z => ?_)
  · skip
    refine aw_pure (st' := ax_i (117) :: _) at_153_13 rfl rfl ?_
    refine aw_loc at_153_15 rfl rfl ?_
    refine ax_add at_153_16 rfl ?_
    refine aw_pure (st' := ax_i (8) :: _) at_153_17 rfl rfl ?_
    refine ax_sub at_153_19 rfl ?_
    refine ax_chrI at_153_20 rfl (by omega) ?_
    refine ax_retC at_153_21 rfl (by omega) ⟨_, _, rfl, rfl, ?_⟩
    unfold lt'; rw [if_neg (by omega), show (117 : Int) + c - 8 = 109 + c by omega]
  · skip
    refine aw_pure (st' := ax_i (97) :: _) at_153_6 rfl rfl ?_
    refine aw_loc at_153_8 rfl rfl ?_
    refine ax_add at_153_9 rfl ?_
    refine aw_goto at_153_10 ?_
    refine ax_chrI at_153_20 rfl (by omega) ?_
    exact ax_retC at_153_21 rfl (by omega) ⟨_, _, rfl, rfl, by unfold lt'; rw [if_pos (by omega)]⟩
theorem r_m_other {c : Int} (hc : 0 ≤ c ∧ c < 1000) : ai_rn L xs (d + 1) 142 [ax_i c] S (fun v S' => S' = S ∧ v = some (ax_i (if c < 8 then c else c + 6))) := by
  refine ai_rn_of (M := ai_m142) rfl (by decide) (Nat.le_of_ble_eq_true rfl) ?_
  refine aw_loc at_142_0 rfl rfl ?_
  refine aw_pure (st' := ax_i (8) :: _) at_142_1 rfl rfl ?_
  refine ax_icmp_ge at_142_3 ⟨by omega, by omega⟩ ⟨by omega, by omega⟩ (fun z => ?_) (fun z => ?_)
  · skip
    refine aw_loc at_142_10 rfl rfl ?_
    refine aw_pure (st' := ax_i (6) :: _) at_142_11 rfl rfl ?_
    refine ax_add at_142_13 rfl ?_
    exact ax_ret at_142_14 rfl ⟨_, _, rfl, rfl, by rw [if_neg (by omega)]⟩
  · skip
    refine aw_loc at_142_6 rfl rfl ?_
    refine aw_goto at_142_7 ?_
    exact ax_ret at_142_14 rfl ⟨_, _, rfl, rfl, by rw [if_pos (by omega)]⟩
set_option maxHeartbeats 1000000 in
theorem r_m_code {T D n rc wt kp sx sc : Int} (ho : mo S T D n rc wt kp sx sc) {P : Nat → Int} {c : Int} (hP : ai_arr S 433 0 = some (8, ax_f P)) (hPr : ∀ i, -1 ≤ P i ∧ P i ≤ 2) (hc : 0 ≤ c ∧ c < 65536) : ai_rn L xs (d + 1) 107 [.ref 432, ax_i c] S (fun v S' => S' = S ∧ v = some (ax_i (cd P c))) := by
  refine ai_rn_of (M := ai_m107) rfl (by decide) (Nat.le_of_ble_eq_true rfl) ?_
  have k51 : cd P c = -1 → ai_aw L xs d ai_m107 (fun o => ∃ v S', o = (.inl v, S') ∧ S' = S ∧ v = some (ax_i (cd P c))) (51, ai_in ai_m107 [.ref 432, ax_i c], [], S) := by
    intro h
    refine aw_pure (st' := ax_i (-1) :: _) at_107_51 rfl rfl ?_
    exact ax_ret at_107_52 rfl ⟨_, _, rfl, rfl, by rw [h]⟩
  have k20 : ¬ (117 ≤ c ∧ c ≤ 122) → ai_aw L xs d ai_m107 (fun o => ∃ v S', o = (.inl v, S') ∧ S' = S ∧ v = some (ax_i (cd P c))) (20, ai_in ai_m107 [.ref 432, ax_i c], [], S) := by
    intro h
    have hcd : cd P c = if 97 ≤ c ∧ c ≤ 104 ∧ 0 ≤ P (c - 97).toNat then c - 97 else -1 := by unfold cd; rw [if_neg h]
    refine aw_loc at_107_20 rfl rfl ?_
    refine aw_pure (st' := ax_i (97) :: _) at_107_21 rfl rfl ?_
    refine ax_icmp_lt at_107_23 ⟨by omega, by omega⟩ ⟨by omega, by omega⟩ (fun z => k51 (by rw [hcd, if_neg (by omega)])) (fun z1 => ?_)
    refine aw_loc at_107_26 rfl rfl ?_
    refine aw_pure (st' := ax_i (104) :: _) at_107_27 rfl rfl ?_
    refine ax_icmp_gt at_107_29 ⟨by omega, by omega⟩ ⟨by omega, by omega⟩ (fun z => k51 (by rw [hcd, if_neg (by omega)])) (fun z2 => ?_)
    have hp := hPr (c - 97).toNat
    refine aw_loc at_107_32 rfl rfl ?_
    refine aw_get at_107_33 rfl fl_12_7 ho rfl ?_
    refine aw_loc at_107_36 rfl rfl ?_
    refine aw_pure (st' := ax_i (97) :: _) at_107_37 rfl rfl ?_
    refine ax_sub at_107_39 rfl ?_
    refine ax_ild at_107_40 rfl hP (k := (c - 97).toNat) (by omega) (by omega) (by decide) ?_
    refine ax_if_lt at_107_41 ⟨by omega, by omega⟩ (fun z => k51 (by rw [hcd, if_neg (by omega)])) (fun z3 => ?_)
    refine aw_loc at_107_44 rfl rfl ?_
    refine aw_pure (st' := ax_i (97) :: _) at_107_45 rfl rfl ?_
    refine ax_sub at_107_47 rfl ?_
    refine aw_goto at_107_48 ?_
    exact ax_ret at_107_52 rfl ⟨_, _, rfl, rfl, by rw [hcd, if_pos (by omega)]⟩
  refine aw_loc at_107_0 rfl rfl ?_
  refine aw_pure (st' := ax_i (117) :: _) at_107_1 rfl rfl ?_
  refine ax_icmp_lt at_107_3 ⟨by omega, by omega⟩ ⟨by omega, by omega⟩ (fun z => k20 (by omega)) (fun z1 => ?_)
  refine aw_loc at_107_6 rfl rfl ?_
  refine aw_pure (st' := ax_i (122) :: _) at_107_7 rfl rfl ?_
  refine ax_icmp_gt at_107_9 ⟨by omega, by omega⟩ ⟨by omega, by omega⟩ (fun z => k20 (by omega)) (fun z2 => ?_)
  refine aw_pure (st' := ax_i (8) :: _) at_107_12 rfl rfl ?_
  refine aw_loc at_107_14 rfl rfl ?_
  refine ax_add at_107_15 rfl ?_
  refine aw_pure (st' := ax_i (117) :: _) at_107_16 rfl rfl ?_
  refine ax_sub at_107_18 rfl ?_
  refine ax_ret at_107_19 rfl ⟨_, _, rfl, rfl, ?_⟩
  unfold cd; rw [if_pos (by omega), show (8 : Int) + c - 117 = c - 109 by omega]
def mt_put (S : ai_S) (X Z : Nat → Int) : ai_S := ai_wr (ai_wr S 442 (.inl (0, ai_I 192 (ax_f X)))) 443 (.inl (0, ai_I 3 (ax_f Z)))
set_option maxHeartbeats 1000000 in
theorem r_m_put {T D n rc wt kp sx sc : Int} (ho : mo S T D n rc wt kp sx sc) {X Z : Nat → Int} {t z : Nat} {c : Int} (hX : ai_arr S 442 0 = some (192, ax_f X)) (hZ : ai_arr S 443 0 = some (3, ax_f Z)) (ht : t < 3) (hz : Z t = (z : Int)) (hz2 : z ≤ 64) : ai_rn L xs (d + 1) 108 [.ref 432, ax_i (t : Nat), ax_i c] S (fun v S' => v = none ∧ (z < 64 → S' = mt_put S (ax_up X (64 * t + z) c) (ax_up Z t ((z : Int) + 1))) ∧ (64 ≤ z → S' = S)) := by
  have hl : 443 < S.1 := (ai_arr_inv hZ).1
  refine ai_rn_of (M := ai_m108) rfl (by decide) (Nat.le_of_ble_eq_true rfl) ?_
  refine aw_loc at_108_0 rfl rfl ?_
  refine aw_get at_108_1 rfl fl_12_40 ho rfl ?_
  refine aw_loc at_108_4 rfl rfl ?_
  refine ax_ild at_108_5 rfl hZ (k := t) rfl (by omega) (by decide) ?_
  refine aw_pure (st' := ax_i (64) :: _) at_108_6 rfl rfl ?_
  rw [hz]
  refine ax_icmp_ge at_108_8 ⟨by omega, by omega⟩ ⟨by omega, by omega⟩ (fun hz9 => ?_) (fun hz9 => ?_)
  · skip
    exact aw_vret at_108_38 rfl ⟨_, _, rfl, rfl, fun h => absurd h (by omega), fun _ => rfl⟩
  · skip
    refine aw_loc at_108_11 rfl rfl ?_
    refine aw_get at_108_12 rfl fl_12_37 ho rfl ?_
    refine aw_pure (st' := ax_i (64) :: _) at_108_15 rfl rfl ?_
    refine aw_loc at_108_17 rfl rfl ?_
    refine ax_mul at_108_18 rfl ?_
    refine aw_loc at_108_19 rfl rfl ?_
    refine aw_get at_108_20 rfl fl_12_40 ho rfl ?_
    refine aw_loc at_108_23 rfl rfl ?_
    refine ax_ild at_108_24 rfl hZ (k := t) rfl (by omega) (by decide) ?_
    refine ax_add at_108_25 rfl ?_
    refine aw_loc at_108_26 rfl rfl ?_
    rw [hz]
    refine ax_ist (k := 64 * t + z) at_108_27 rfl hX (by omega) (by omega) (by decide) ?_
    have ho2 := (ai_obj_wr (a := 442) (x := .inl (0, ai_I 192 (ax_f (ax_up X (64 * t + z) c)))) (show 432 ≠ 442 by decide)).trans ho
    have hZ2 := (ai_arr_wr (a := 442) (x := .inl (0, ai_I 192 (ax_f (ax_up X (64 * t + z) c)))) (show 443 ≠ 442 by decide)).trans hZ
    refine aw_loc at_108_28 rfl rfl ?_
    refine aw_get at_108_29 rfl fl_12_40 ho2 rfl ?_
    refine aw_loc at_108_32 rfl rfl ?_
    refine aw_pure at_108_33 rfl rfl ?_
    refine ax_ild (k := t) at_108_34 rfl hZ2 rfl (by omega) (by decide) ?_
    rw [hz]
    refine aw_pure (st' := ax_i (1) :: _) at_108_35 rfl rfl ?_
    refine ax_add at_108_36 rfl ?_
    refine ax_ist (k := t) at_108_37 rfl hZ2 rfl (by omega) (by decide) ?_
    exact aw_vret at_108_38 rfl ⟨_, _, rfl, rfl, fun _ => rfl, fun h => absurd h (by omega)⟩
set_option maxHeartbeats 2000000 in
theorem r_m_end1 {T D n rc wt kp sx sc : Int} (ho : mo S T D n rc wt kp sx sc) {P X : Nat → Int} {t p k : Nat} (hP : ai_arr S 433 0 = some (8, ax_f P)) (hPr : ∀ i, -1 ≤ P i ∧ P i ≤ 2) (hX : ai_arr S 442 0 = some (192, ax_f X)) (hXr : ∀ i, 0 ≤ X i ∧ X i < 1000) (hk : 64 * t + p + k ≤ 192) (hall : ∀ j, j < k → 0 < nd P X (64 * t + p) j) (hend : nd P X (64 * t + p) k = 0) : ∀ (m j : Nat), j + m = k → ai_aw L xs (d + 1) ai_m120 (fun o => ∃ v S', o = (.inl v, S') ∧ S' = S ∧ v = some (ax_i ((p : Int) + (k : Nat)))) (5, [some (.ref 432), some (ax_i (t : Nat)), some (ax_i (p : Nat)), some (ax_i (nd P X (64 * t + p) j)), some (ax_i ((p : Int) + (j : Nat)))], [], S) := by
  intro m
  induction m with
  | zero =>
    intro j hj
    have hjk : j = k := by omega
    subst hjk
    refine aw_loc at_120_5 rfl rfl ?_
    rw [hend]
    refine ax_if_le at_120_6 ⟨by omega, by omega⟩ (fun _ => ?_) (fun z => absurd z (by decide))
    refine aw_loc at_120_36 rfl rfl ?_
    exact ax_ret at_120_38 rfl ⟨_, _, rfl, rfl, rfl⟩
  | succ m ih =>
    intro j hj
    have hpos := hall j (by omega)
    have hin := nd_in hPr (X := X) (64 * t + p) j
    have hxr := hXr (64 * t + p + j)
    refine aw_loc at_120_5 rfl rfl ?_
    refine ax_if_le at_120_6 ⟨by omega, by omega⟩ (fun z => absurd z (by omega)) (fun _ => ?_)
    refine aw_loc at_120_9 rfl rfl ?_
    refine aw_loc at_120_10 rfl rfl ?_
    refine aw_loc at_120_11 rfl rfl ?_
    refine aw_get at_120_12 rfl fl_12_37 ho rfl ?_
    refine aw_pure (st' := ax_i (64) :: _) at_120_15 rfl rfl ?_
    refine aw_loc at_120_17 rfl rfl ?_
    refine ax_mul at_120_18 rfl ?_
    refine aw_loc at_120_19 rfl rfl ?_
    refine ax_add at_120_21 rfl ?_
    refine ax_ild at_120_22 rfl hX (k := 64 * t + p + j) (by omega) (by omega) (by decide) ?_
    refine aw_cv (a := 432) [ax_i (X (64 * t + p + j))] [ax_i (nd P X (64 * t + p) j)] at_120_23 mt_12_96 (Or.inl rfl) rfl rfl (Nat.le_of_ble_eq_true rfl) ⟨_, ho⟩ ((r_m_places ho hP hxr).mono ?_)
    rintro v S0 ⟨hS, rfl⟩
    have hS2 := hS.symm
    subst hS2
    refine aw_pure (st' := ax_i (1) :: _) at_120_26 rfl rfl ?_
    refine ax_sub at_120_27 rfl ?_
    refine ax_add at_120_28 rfl ?_
    refine aw_loc at_120_29 rfl rfl ?_
    refine ax_inc at_120_30 rfl rfl rfl ?_
    refine aw_goto at_120_33 ?_
    have := ih (j + 1) (by omega)
    rw [show nd P X (64 * t + p) (j + 1) = nd P X (64 * t + p) j + (ar P (X (64 * t + p + j)) - 1) by show nd P X (64 * t + p) j + ar P (X (64 * t + p + j)) - 1 = _; omega, show (p : Int) + ((j + 1 : Nat) : Int) = (p : Int) + (j : Nat) + 1 by omega] at this
    exact this
theorem r_m_end {T D n rc wt kp sx sc : Int} (ho : mo S T D n rc wt kp sx sc) {P X : Nat → Int} {t p k : Nat} (hP : ai_arr S 433 0 = some (8, ax_f P)) (hPr : ∀ i, -1 ≤ P i ∧ P i ≤ 2) (hX : ai_arr S 442 0 = some (192, ax_f X)) (hXr : ∀ i, 0 ≤ X i ∧ X i < 1000) (hk : 64 * t + p + k ≤ 192) (hall : ∀ j, j < k → 0 < nd P X (64 * t + p) j) (hend : nd P X (64 * t + p) k = 0) : ai_rn L xs (d + 2) 120 [.ref 432, ax_i (t : Nat), ax_i (p : Nat)] S (fun v S' => S' = S ∧ v = some (ax_i ((p : Int) + (k : Nat)))) := by
  refine ai_rn_of (M := ai_m120) rfl (by decide) (Nat.le_of_ble_eq_true rfl) ?_
  refine aw_pure (st' := ax_i (1) :: _) at_120_0 rfl rfl ?_
  refine aw_loc at_120_1 rfl rfl ?_
  refine aw_loc at_120_2 rfl rfl ?_
  refine aw_loc at_120_3 rfl rfl ?_
  have := r_m_end1 (L := L) (xs := xs) (d := d) ho hP hPr hX hXr hk hall hend k 0 (by omega)
  rw [show nd P X (64 * t + p) 0 = 1 from rfl, show (p : Int) + ((0 : Nat) : Int) = (p : Int) by omega] at this
  exact this
end MO

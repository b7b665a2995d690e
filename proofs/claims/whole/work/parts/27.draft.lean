/-! The draft of the landed code: a term is read. -/
section DR
variable {L : Nat} {xs : Nat → Int32} {d : Nat} {S : ai_S}
/-- the draft: its row, its length -/
def dv (S : ai_S) (C : Nat → Int) (n : Nat) : Prop := ai_obj S 4 2 = some [.ref 5, ax_i n] ∧ ai_arr S 5 1 = some (60, ax_f C)
/-- the need after k letters -/
def ndA (A : Int → Int) (W : Nat → Int) : Nat → Int
  | 0 => 1
  | k + 1 => ndA A W k + A (W k) - 1
/-- the row's first n are a term that is not too long: K: a letter is known, A: its places -/
def vt (K : Int → Prop) (A : Int → Int) (W : Nat → Int) (n : Nat) : Prop := (∀ i, i < n → K (W i) ∧ ¬ ndA A W i = 0) ∧ ndA A W n = 0 ∧ n ≤ 24
theorem ndA_in {A : Int → Int} {W : Nat → Int} (hA : ∀ c, 0 ≤ A c ∧ A c ≤ 2) : ∀ k : Nat, 1 - (k : Int) ≤ ndA A W k ∧ ndA A W k ≤ 1 + (k : Int)
  | 0 => by unfold ndA; omega
  | k + 1 => by
    have h1 := ndA_in (W := W) hA k
    have h2 := hA (W k)
    show 1 - ((k + 1 : Nat) : Int) ≤ ndA A W k + A (W k) - 1 ∧ ndA A W k + A (W k) - 1 ≤ 1 + ((k + 1 : Nat) : Int)
    omega
def kC (R : Nat → Int) (c : Int) : Prop := 0 < at256 R c ∨ (117 ≤ c ∧ c ≤ 122)
theorem at256_in {P : Nat → Int} (hP : ∀ i, 0 ≤ P i ∧ P i ≤ 2) (c : Int) : 0 ≤ at256 P c ∧ at256 P c ≤ 2 := by
  unfold at256
  split
  · exact hP _
  · omega
theorem sy_tm {P R T : Nat → Int} {n : Int} {a m : Nat} (h : sy S P R n) (ha : 5 < a) : sy (tm_put S a T m) P R n := ⟨(tm_obj (by omega) (by omega)).trans h.1, (tm_arr (by omega) (by omega)).trans h.2.1, (tm_arr (by omega) (by omega)).trans h.2.2⟩
theorem dv_tm {C T : Nat → Int} {n a m : Nat} (h : dv S C n) (ha : 5 < a) : dv (tm_put S a T m) C n := ⟨(tm_obj (by omega) (by omega)).trans h.1, (tm_arr (by omega) (by omega)).trans h.2⟩
theorem at_20_0 : ai_at ai_m20 0 = some (.aload 4, 2) := rfl
theorem at_20_2 : ai_at ai_m20 2 = some (.iconst 0, 1) := rfl
theorem at_20_3 : ai_at ai_m20 3 = some (.putfield 25, 3) := rfl
theorem at_20_6 : ai_at ai_m20 6 = some (.iconst 1, 1) := rfl
theorem at_20_7 : ai_at ai_m20 7 = some (.istore 5, 2) := rfl
theorem at_20_9 : ai_at ai_m20 9 = some (.iload_n 2, 1) := rfl
theorem at_20_10 : ai_at ai_m20 10 = some (.istore 6, 2) := rfl
theorem at_20_12 : ai_at ai_m20 12 = some (.iload 6, 2) := rfl
theorem at_20_14 : ai_at ai_m20 14 = some (.iload_n 3, 1) := rfl
theorem at_20_15 : ai_at ai_m20 15 = some (.if_icmp .ge 81, 3) := rfl
theorem at_20_18 : ai_at ai_m20 18 = some (.aload_n 0, 1) := rfl
theorem at_20_19 : ai_at ai_m20 19 = some (.getfield 9, 3) := rfl
theorem at_20_22 : ai_at ai_m20 22 = some (.iload 6, 2) := rfl
theorem at_20_24 : ai_at ai_m20 24 = some (.caload, 1) := rfl
theorem at_20_25 : ai_at ai_m20 25 = some (.istore 7, 2) := rfl
theorem at_20_27 : ai_at ai_m20 27 = some (.aload_n 1, 1) := rfl
theorem at_20_28 : ai_at ai_m20 28 = some (.iload 7, 2) := rfl
theorem at_20_30 : ai_at ai_m20 30 = some (.invokevirtual 46, 3) := rfl
theorem at_20_33 : ai_at ai_m20 33 = some (.ifCond .ne 18, 3) := rfl
theorem at_20_36 : ai_at ai_m20 36 = some (.iload 7, 2) := rfl
theorem at_20_38 : ai_at ai_m20 38 = some (.invokestatic 52, 3) := rfl
theorem at_20_41 : ai_at ai_m20 41 = some (.ifCond .eq 14, 3) := rfl
theorem at_20_44 : ai_at ai_m20 44 = some (.iload 7, 2) := rfl
theorem at_20_46 : ai_at ai_m20 46 = some (.bipush 122, 2) := rfl
theorem at_20_48 : ai_at ai_m20 48 = some (.if_icmp .gt 7, 3) := rfl
theorem at_20_51 : ai_at ai_m20 51 = some (.iconst 1, 1) := rfl
theorem at_20_52 : ai_at ai_m20 52 = some (.goto 4, 3) := rfl
theorem at_20_55 : ai_at ai_m20 55 = some (.iconst 0, 1) := rfl
theorem at_20_56 : ai_at ai_m20 56 = some (.istore 8, 2) := rfl
theorem at_20_58 : ai_at ai_m20 58 = some (.iload 8, 2) := rfl
theorem at_20_60 : ai_at ai_m20 60 = some (.ifCond .eq 8, 3) := rfl
theorem at_20_63 : ai_at ai_m20 63 = some (.iload 5, 2) := rfl
theorem at_20_65 : ai_at ai_m20 65 = some (.ifCond .ne 5, 3) := rfl
theorem at_20_68 : ai_at ai_m20 68 = some (.iconst 0, 1) := rfl
theorem at_20_69 : ai_at ai_m20 69 = some (.ireturn, 1) := rfl
theorem at_20_70 : ai_at ai_m20 70 = some (.iload 5, 2) := rfl
theorem at_20_72 : ai_at ai_m20 72 = some (.aload_n 1, 1) := rfl
theorem at_20_73 : ai_at ai_m20 73 = some (.iload 7, 2) := rfl
theorem at_20_75 : ai_at ai_m20 75 = some (.invokevirtual 55, 3) := rfl
theorem at_20_78 : ai_at ai_m20 78 = some (.iconst 1, 1) := rfl
theorem at_20_79 : ai_at ai_m20 79 = some (.isub, 1) := rfl
theorem at_20_80 : ai_at ai_m20 80 = some (.iadd, 1) := rfl
theorem at_20_81 : ai_at ai_m20 81 = some (.istore 5, 2) := rfl
theorem at_20_83 : ai_at ai_m20 83 = some (.aload 4, 2) := rfl
theorem at_20_85 : ai_at ai_m20 85 = some (.iload 7, 2) := rfl
theorem at_20_87 : ai_at ai_m20 87 = some (.invokevirtual 59, 3) := rfl
theorem at_20_90 : ai_at ai_m20 90 = some (.iinc 6 1, 3) := rfl
theorem at_20_93 : ai_at ai_m20 93 = some (.goto (-81), 3) := rfl
theorem at_20_96 : ai_at ai_m20 96 = some (.iload 5, 2) := rfl
theorem at_20_98 : ai_at ai_m20 98 = some (.ifCond .ne 15, 3) := rfl
theorem at_20_101 : ai_at ai_m20 101 = some (.aload 4, 2) := rfl
theorem at_20_103 : ai_at ai_m20 103 = some (.invokevirtual 63, 3) := rfl
theorem at_20_106 : ai_at ai_m20 106 = some (.ifCond .ne 7, 3) := rfl
theorem at_20_109 : ai_at ai_m20 109 = some (.iconst 1, 1) := rfl
theorem at_20_110 : ai_at ai_m20 110 = some (.goto 4, 3) := rfl
theorem at_20_113 : ai_at ai_m20 113 = some (.iconst 0, 1) := rfl
theorem at_20_114 : ai_at ai_m20 114 = some (.ireturn, 1) := rfl
theorem fl_1_25 : ai_fld 1 25 = some (4, 1, true) := by decide +kernel
theorem mt_1_46 : ai_mth 1 46 = some (0, 79, 1, 1) := by decide +kernel
theorem mt_1_52 : ai_mth 1 52 = some (3, 12, 1, 0) := by decide +kernel
theorem mt_1_55 : ai_mth 1 55 = some (0, 82, 1, 1) := by decide +kernel
theorem mt_1_59 : ai_mth 1 59 = some (0, 85, 1, 4) := by decide +kernel
theorem mt_1_63 : ai_mth 1 63 = some (0, 86, 0, 4) := by decide +kernel
set_option maxHeartbeats 4000000 in
theorem r_read1 {P R C : Nat → Int} {nn : Int} {n a fr to : Nat} (hs : sy S P R nn) (hP : ∀ i, 0 ≤ P i ∧ P i ≤ 2) (hR : ∀ i, 0 ≤ R i ∧ R i ≤ 1000) (hd : dv S C n) (hC : ∀ i, 0 ≤ C i ∧ C i < 65536) (ha : 5 < a) (hto : to ≤ 60) (hfr : fr ≤ 61) (hl : a + 1 < S.1) : ∀ (k j : Nat) (T : Nat → Int) (m : Nat) (x7 x8 : Option Value), j + k = to - fr → wd T m (sl C fr j) → (∀ i, i < j → kC R ((fun i => C (fr + i)) i) ∧ ¬ ndA (at256 P) (fun i => C (fr + i)) i = 0) → ai_aw L xs (d + 3) ai_m20 (fun o => ∃ v S', o = (.inl v, S') ∧ ∃ T' m' w' z, S' = tm_put S a T' m' ∧ wd T' m' w' ∧ v = some (ax_i z) ∧ bz z (vt (kC R) (at256 P) (fun i => C (fr + i)) (to - fr)) ∧ (vt (kC R) (at256 P) (fun i => C (fr + i)) (to - fr) → w' = sl C fr (to - fr))) (12, [some (.ref 4), some (.ref 1), some (ax_i (fr : Nat)), some (ax_i (to : Nat)), some (.ref a), some (ax_i (ndA (at256 P) (fun i => C (fr + i)) j)), some (ax_i ((fr : Int) + (j : Nat))), x7, x8], [], tm_put S a T m) := by
  intro k
  induction k with
  | zero =>
    intro j T m x7 x8 hj hw hK
    have ht : tm (tm_put S a T m) a T m := tm_get hl
    have hs := sy_tm (T := T) (m := m) hs ha
    have hd := dv_tm (T := T) (m := m) hd ha
    have hin := ndA_in (W := (fun i => C (fr + i))) (at256_in hP) j
    have hm := hw.1
    have hsl : (sl C fr j).length = j := by unfold sl; rw [List.length_map, List.length_range]
    rw [hsl] at hm
    have hjn : j = to - fr := by omega
    refine aw_loc at_20_12 rfl rfl ?_
    refine aw_loc at_20_14 rfl rfl ?_
    refine ax_icmp_ge at_20_15 ⟨by omega, by omega⟩ ⟨by omega, by omega⟩ (fun _ => ?_) (fun z => absurd z (by omega))
    show ai_aw L xs (d + 3) ai_m20 _ (96, _, _, _)
    have k113 : ¬ (vt (kC R) (at256 P) (fun i => C (fr + i)) (to - fr)) → ai_aw L xs (d + 3) ai_m20 (fun o => ∃ v S', o = (.inl v, S') ∧ ∃ T' m' w' z, S' = tm_put S a T' m' ∧ wd T' m' w' ∧ v = some (ax_i z) ∧ bz z (vt (kC R) (at256 P) (fun i => C (fr + i)) (to - fr)) ∧ (vt (kC R) (at256 P) (fun i => C (fr + i)) (to - fr) → w' = sl C fr (to - fr))) (113, [some (.ref 4), some (.ref 1), some (ax_i (fr : Nat)), some (ax_i (to : Nat)), some (.ref a), some (ax_i (ndA (at256 P) (fun i => C (fr + i)) j)), some (ax_i ((fr : Int) + (j : Nat))), x7, x8], [], tm_put S a T m) := by
      intro hno
      refine aw_pure (st' := ax_i (0) :: _) at_20_113 rfl rfl ?_
      exact ax_retZ at_20_114 rfl (Or.inl rfl) ⟨_, _, rfl, T, m, _, 0, rfl, hw, rfl, Or.inl ⟨rfl, hno⟩, fun h => absurd h hno⟩
    refine aw_loc at_20_96 rfl rfl ?_
    refine ax_if_ne at_20_98 ⟨by omega, by omega⟩ (fun z => k113 (fun h => z (by rw [hjn]; exact h.2.1))) (fun z1 => ?_)
    refine aw_loc at_20_101 rfl rfl ?_
    refine aw_cv (a := a) [] [] at_20_103 mt_1_63 (Or.inl rfl) rfl rfl (Nat.le_of_ble_eq_true rfl) ⟨_, ht.1⟩ ((r_tooLong ht (wd_le hw)).mono ?_)
    rintro v S0 ⟨hS, z, rfl, hz⟩
    have hS2 := hS.symm
    subst hS2
    have hzl := hz.le
    refine ax_if_ne at_20_106 ⟨by omega, by omega⟩ (fun z2 => k113 (fun h => ?_)) (fun z2 => ?_)
    · rcases hz with ⟨h9, -⟩ | ⟨-, h9⟩
      · exact z2 h9
      · have := h.2.2; omega
    · have hvt : vt (kC R) (at256 P) (fun i => C (fr + i)) (to - fr) := by
        rcases hz with ⟨-, h9⟩ | ⟨h9, -⟩
        · refine ⟨fun i hi => hK i (by omega), by rw [← hjn]; exact z1, by omega⟩
        · omega
      refine aw_pure (st' := ax_i (1) :: _) at_20_109 rfl rfl ?_
      refine aw_goto at_20_110 ?_
      exact ax_retZ at_20_114 rfl (Or.inr rfl) ⟨_, _, rfl, T, m, _, 1, rfl, hw, rfl, Or.inr ⟨rfl, hvt⟩, fun _ => by rw [hjn]⟩
  | succ k ih =>
    intro j T m x7 x8 hj hw hK
    have ht : tm (tm_put S a T m) a T m := tm_get hl
    have hs := sy_tm (T := T) (m := m) hs ha
    have hd := dv_tm (T := T) (m := m) hd ha
    have hin := ndA_in (W := (fun i => C (fr + i))) (at256_in hP) j
    have hCj := hC (fr + j)
    have k68 : ∀ y7 y8, ¬ (vt (kC R) (at256 P) (fun i => C (fr + i)) (to - fr)) → ai_aw L xs (d + 3) ai_m20 (fun o => ∃ v S', o = (.inl v, S') ∧ ∃ T' m' w' z, S' = tm_put S a T' m' ∧ wd T' m' w' ∧ v = some (ax_i z) ∧ bz z (vt (kC R) (at256 P) (fun i => C (fr + i)) (to - fr)) ∧ (vt (kC R) (at256 P) (fun i => C (fr + i)) (to - fr) → w' = sl C fr (to - fr))) (68, [some (.ref 4), some (.ref 1), some (ax_i (fr : Nat)), some (ax_i (to : Nat)), some (.ref a), some (ax_i (ndA (at256 P) (fun i => C (fr + i)) j)), some (ax_i ((fr : Int) + (j : Nat))), y7, y8], [], tm_put S a T m) := by
      intro y7 y8 hno
      refine aw_pure (st' := ax_i (0) :: _) at_20_68 rfl rfl ?_
      exact ax_retZ at_20_69 rfl (Or.inl rfl) ⟨_, _, rfl, T, m, _, 0, rfl, hw, rfl, Or.inl ⟨rfl, hno⟩, fun h => absurd h hno⟩
    have kY : kC R (C (fr + j)) → ai_aw L xs (d + 3) ai_m20 (fun o => ∃ v S', o = (.inl v, S') ∧ ∃ T' m' w' z, S' = tm_put S a T' m' ∧ wd T' m' w' ∧ v = some (ax_i z) ∧ bz z (vt (kC R) (at256 P) (fun i => C (fr + i)) (to - fr)) ∧ (vt (kC R) (at256 P) (fun i => C (fr + i)) (to - fr) → w' = sl C fr (to - fr))) (51, [some (.ref 4), some (.ref 1), some (ax_i (fr : Nat)), some (ax_i (to : Nat)), some (.ref a), some (ax_i (ndA (at256 P) (fun i => C (fr + i)) j)), some (ax_i ((fr : Int) + (j : Nat))), some (ax_i (C (fr + j))), x8], [], tm_put S a T m) := by
      intro hk
      refine aw_pure (st' := ax_i (1) :: _) at_20_51 rfl rfl ?_
      refine aw_goto at_20_52 ?_
      refine aw_loc at_20_56 rfl rfl ?_
      refine aw_loc at_20_58 rfl rfl ?_
      refine ax_if_eq at_20_60 ⟨by decide, by decide⟩ (fun z => absurd z (by decide)) (fun _ => ?_)
      refine aw_loc at_20_63 rfl rfl ?_
      refine ax_if_ne at_20_65 ⟨by omega, by omega⟩ (fun z1 => ?_) (fun z1 => k68 _ _ (fun h => (h.1 j (by omega)).2 z1))
      show ai_aw L xs (d + 3) ai_m20 _ (70, _, _, _)
      refine aw_loc at_20_70 rfl rfl ?_
      refine aw_loc at_20_72 rfl rfl ?_
      refine aw_loc at_20_73 rfl rfl ?_
      refine aw_cv (a := 1) [ax_i (C (fr + j))] [ax_i (ndA (at256 P) (fun i => C (fr + i)) j)] at_20_75 mt_1_55 (Or.inl rfl) rfl rfl (Nat.le_of_ble_eq_true rfl) ⟨_, hs.1⟩ ((r_places hs hCj).mono ?_)
      rintro v S0 ⟨hS, rfl⟩
      have hS2 := hS.symm
      subst hS2
      refine aw_pure (st' := ax_i (1) :: _) at_20_78 rfl rfl ?_
      refine ax_sub at_20_79 rfl ?_
      refine ax_add at_20_80 rfl ?_
      refine aw_loc at_20_81 rfl rfl ?_
      refine aw_loc at_20_83 rfl rfl ?_
      refine aw_loc at_20_85 rfl rfl ?_
      refine aw_cv (a := a) [ax_i (C (fr + j))] [] at_20_87 mt_1_59 (Or.inl rfl) rfl rfl (Nat.le_of_ble_eq_true rfl) ⟨_, ht.1⟩ ((r_tappend ht (wd_le hw) hCj).mono ?_)
      rintro v S0 ⟨rfl, rfl⟩
      rw [tm_two]
      refine ax_inc at_20_90 rfl rfl rfl ?_
      refine aw_goto at_20_93 ?_
      have := ih (j + 1) (ap_T T m (C (fr + j))) (ap_N m) (some (ax_i (C (fr + j)))) (some (ax_i 1)) (by omega) (by rw [sl_succ]; exact wd_app hw hCj) (fun i hi => ?_)
      · rw [show ndA (at256 P) (fun i => C (fr + i)) (j + 1) = ndA (at256 P) (fun i => C (fr + i)) j + (at256 P (C (fr + j)) - 1) by show ndA (at256 P) (fun i => C (fr + i)) j + at256 P (C (fr + j)) - 1 = _; omega, show (fr : Int) + ((j + 1 : Nat) : Int) = (fr : Int) + (j : Nat) + 1 by omega] at this
        exact this
      · by_cases hij : i = j
        · subst hij; exact ⟨hk, z1⟩
        · exact hK i (by omega)
    have kN : ¬ kC R (C (fr + j)) → ai_aw L xs (d + 3) ai_m20 (fun o => ∃ v S', o = (.inl v, S') ∧ ∃ T' m' w' z, S' = tm_put S a T' m' ∧ wd T' m' w' ∧ v = some (ax_i z) ∧ bz z (vt (kC R) (at256 P) (fun i => C (fr + i)) (to - fr)) ∧ (vt (kC R) (at256 P) (fun i => C (fr + i)) (to - fr) → w' = sl C fr (to - fr))) (55, [some (.ref 4), some (.ref 1), some (ax_i (fr : Nat)), some (ax_i (to : Nat)), some (.ref a), some (ax_i (ndA (at256 P) (fun i => C (fr + i)) j)), some (ax_i ((fr : Int) + (j : Nat))), some (ax_i (C (fr + j))), x8], [], tm_put S a T m) := by
      intro hk
      refine aw_pure (st' := ax_i (0) :: _) at_20_55 rfl rfl ?_
      refine aw_loc at_20_56 rfl rfl ?_
      refine aw_loc at_20_58 rfl rfl ?_
      refine ax_if_eq at_20_60 ⟨by decide, by decide⟩ (fun _ => k68 _ _ (fun h => hk (h.1 j (by omega)).1)) (fun z => absurd rfl z)
    refine aw_loc at_20_12 rfl rfl ?_
    refine aw_loc at_20_14 rfl rfl ?_
    refine ax_icmp_ge at_20_15 ⟨by omega, by omega⟩ ⟨by omega, by omega⟩ (fun z => absurd z (by omega)) (fun _ => ?_)
    refine aw_loc at_20_18 rfl rfl ?_
    refine aw_get at_20_19 rfl fl_1_9 hd.1 rfl ?_
    refine aw_loc at_20_22 rfl rfl ?_
    refine ax_cld at_20_24 rfl hd.2 (k := fr + j) (by omega) (by omega) (by decide) ?_
    refine aw_loc at_20_25 rfl rfl ?_
    refine aw_loc at_20_27 rfl rfl ?_
    refine aw_loc at_20_28 rfl rfl ?_
    refine aw_cv (a := 1) [ax_i (C (fr + j))] [] at_20_30 mt_1_46 (Or.inl rfl) rfl rfl (Nat.le_of_ble_eq_true rfl) ⟨_, hs.1⟩ ((r_has hs hCj hR).mono ?_)
    rintro v S0 ⟨hS, z, rfl, hz⟩
    have hS2 := hS.symm
    subst hS2
    have hzl := hz.le
    refine ax_if_ne at_20_33 ⟨by omega, by omega⟩ (fun z1 => kY (Or.inl ?_)) (fun z1 => ?_)
    · rcases hz with ⟨h9, -⟩ | ⟨-, h9⟩
      · exact absurd h9 z1
      · exact h9
    have hnh : ¬ 0 < at256 R (C (fr + j)) := by
      rcases hz with ⟨-, h9⟩ | ⟨h9, -⟩
      · exact h9
      · omega
    refine aw_loc at_20_36 rfl rfl ?_
    refine aw_cs [ax_i (C (fr + j))] [] at_20_38 rfl mt_1_52 (Or.inr (Or.inl rfl)) rfl rfl (Nat.le_of_ble_eq_true rfl) ((r_isVar hCj).mono ?_)
    rintro v S0 ⟨hS, y, rfl, hy⟩
    have hS2 := hS.symm
    subst hS2
    have hyl := hy.le
    refine ax_if_eq at_20_41 ⟨by omega, by omega⟩ (fun z2 => kN ?_) (fun z2 => ?_)
    · rcases hy with ⟨-, h9⟩ | ⟨h9, -⟩
      · rintro (h | h)
        · exact hnh h
        · exact h9 h.1
      · omega
    have hv : 117 ≤ C (fr + j) := by
      rcases hy with ⟨h9, -⟩ | ⟨-, h9⟩
      · exact absurd h9 z2
      · exact h9
    refine aw_loc at_20_44 rfl rfl ?_
    refine aw_pure (st' := ax_i (122) :: _) at_20_46 rfl rfl ?_
    refine ax_icmp_gt at_20_48 ⟨by omega, by omega⟩ ⟨by omega, by omega⟩ (fun z3 => kN ?_) (fun z3 => kY (Or.inr ⟨hv, z3⟩))
    rintro (h | h)
    · exact hnh h
    · omega
set_option maxHeartbeats 2000000 in
theorem r_read {P R C T : Nat → Int} {nn : Int} {n a fr to m : Nat} (hs : sy S P R nn) (hP : ∀ i, 0 ≤ P i ∧ P i ≤ 2) (hR : ∀ i, 0 ≤ R i ∧ R i ≤ 1000) (hd : dv S C n) (hC : ∀ i, 0 ≤ C i ∧ C i < 65536) (ha : 5 < a) (hto : to ≤ 60) (hfr : fr ≤ 61) (ht : tm S a T m) (hT : ∀ i, 0 ≤ T i ∧ T i < 65536) : ai_rn L xs (d + 4) 20 [.ref 4, .ref 1, ax_i (fr : Nat), ax_i (to : Nat), .ref a] S (fun v S' => ∃ T' m' w' z, S' = tm_put S a T' m' ∧ wd T' m' w' ∧ v = some (ax_i z) ∧ bz z (vt (kC R) (at256 P) (fun i => C (fr + i)) (to - fr)) ∧ (vt (kC R) (at256 P) (fun i => C (fr + i)) (to - fr) → w' = sl C fr (to - fr))) := by
  have hl := tm_lt ht
  refine ai_rn_of (M := ai_m20) rfl (by decide) (Nat.le_of_ble_eq_true rfl) ?_
  refine aw_loc at_20_0 rfl rfl ?_
  refine aw_pure (st' := ax_i (0) :: _) at_20_2 rfl rfl ?_
  refine aw_put at_20_3 rfl fl_1_25 ht.1 (Nat.le_of_ble_eq_true rfl) rfl (by decide +kernel) ?_
  have e0 : ai_wr S a (.inr (4, [.ref (a + 1), ax_i (0 : Nat)])) = tm_put S a T 0 := by
    have := tm_w2 (S := S) (a := a) (n := m) (T := T) (x := ax_i (0 : Nat)) (m := 0) rfl
    rw [tm_self ht] at this
    exact this
  change ai_aw L xs (d + 3) ai_m20 _ (6, _, _, ai_wr S a (.inr (4, [.ref (a + 1), ax_i (0 : Nat)])))
  rw [e0]
  refine aw_pure (st' := ax_i (1) :: _) at_20_6 rfl rfl ?_
  refine aw_loc at_20_7 rfl rfl ?_
  refine aw_loc at_20_9 rfl rfl ?_
  refine aw_loc at_20_10 rfl rfl ?_
  have := r_read1 (L := L) (xs := xs) (d := d) hs hP hR hd hC ha hto hfr hl (to - fr) 0 T 0 none none (by omega) ⟨rfl, fun i hi => absurd hi (Nat.not_lt_zero i), hT⟩ (fun i hi => absurd hi (Nat.not_lt_zero i))
  rw [show ndA (at256 P) (fun i => C (fr + i)) 0 = 1 from rfl, show (fr : Int) + ((0 : Nat) : Int) = (fr : Int) by omega] at this
  exact this
end DR

/-! The reference: a term is read. -/
section MR
variable {L : Nat} {xs : Nat → Int32} {d : Nat} {S : ai_S}
/-- the row X with the first j of W laid at b -/
def ow (X : Nat → Int) (b : Nat) (W : Nat → Int) (j : Nat) : Nat → Int := fun i => if b ≤ i ∧ i < b + j then W (i - b) else X i
theorem ow_zero (X : Nat → Int) (b : Nat) (W : Nat → Int) : ow X b W 0 = X := by
  funext i
  exact if_neg (by omega)
theorem ow_succ (X : Nat → Int) (b : Nat) (W : Nat → Int) (j : Nat) : ax_up (ow X b W j) (b + j) (W j) = ow X b W (j + 1) := by
  funext i
  unfold ax_up ow
  by_cases h : i = b + j
  · rw [if_pos h, if_pos (by omega), show i - b = j by omega]
  · rw [if_neg h]
    by_cases h2 : b ≤ i ∧ i < b + j
    · rw [if_pos h2, if_pos (by omega)]
    · rw [if_neg h2, if_neg (by omega)]
theorem ax_up_two (F : Nat → Int) (k : Nat) (u v : Int) : ax_up (ax_up F k u) k v = ax_up F k v := by
  funext i
  unfold ax_up
  split <;> rfl
theorem mt_two {X Z X' Z' : Nat → Int} : mt_put (mt_put S X Z) X' Z' = mt_put S X' Z' := by
  unfold mt_put
  rw [ai_wr_comm _ (show 443 ≠ 442 by decide), ai_wr_wr, ai_wr_wr]
theorem mt_X {X Z : Nat → Int} (h : 443 < S.1) : ai_arr (mt_put S X Z) 442 0 = some (192, ax_f X) := (ai_arr_wr (by decide)).trans (ai_arr_wrS (by omega))
theorem mt_Z {X Z : Nat → Int} (h : 443 < S.1) : ai_arr (mt_put S X Z) 443 0 = some (3, ax_f Z) := ai_arr_wrS (show 443 < S.1 from h)
theorem mt_obj {X Z : Nat → Int} {a c : Nat} (h1 : a ≠ 442) (h2 : a ≠ 443) : ai_obj (mt_put S X Z) a c = ai_obj S a c := (ai_obj_wr h2).trans (ai_obj_wr h1)
theorem mt_arr {X Z : Nat → Int} {a c : Nat} (h1 : a ≠ 442) (h2 : a ≠ 443) : ai_arr (mt_put S X Z) a c = ai_arr S a c := (ai_arr_wr h2).trans (ai_arr_wr h1)
theorem mt_self {X Z : Nat → Int} (hX : ai_arr S 442 0 = some (192, ax_f X)) (hZ : ai_arr S 443 0 = some (3, ax_f Z)) : mt_put S X Z = S := by
  unfold mt_put
  rw [ai_wr_id (ai_arr_inv hX).2, ai_wr_id (ai_arr_inv hZ).2]
theorem ndA_in2 {A : Int → Int} {W : Nat → Int} (hA : ∀ c, -1 ≤ A c ∧ A c ≤ 2) : ∀ k : Nat, 1 - 2 * (k : Int) ≤ ndA A W k ∧ ndA A W k ≤ 1 + (k : Int)
  | 0 => by unfold ndA; omega
  | k + 1 => by
    have h1 := ndA_in2 (W := W) hA k
    have h2 := hA (W k)
    show 1 - 2 * ((k + 1 : Nat) : Int) ≤ ndA A W k + A (W k) - 1 ∧ ndA A W k + A (W k) - 1 ≤ 1 + ((k + 1 : Nat) : Int)
    omega
theorem cd_in {P : Nat → Int} {c : Int} : -1 ≤ cd P c ∧ cd P c < 14 := by
  unfold cd
  split
  · omega
  · split <;> omega
theorem at_106_0 : ai_at ai_m106 0 = some (.iconst 1, 1) := rfl
theorem at_106_1 : ai_at ai_m106 1 = some (.istore 4, 2) := rfl
theorem at_106_3 : ai_at ai_m106 3 = some (.aload_n 0, 1) := rfl
theorem at_106_4 : ai_at ai_m106 4 = some (.getfield 40, 3) := rfl
theorem at_106_7 : ai_at ai_m106 7 = some (.iload_n 3, 1) := rfl
theorem at_106_8 : ai_at ai_m106 8 = some (.iconst 0, 1) := rfl
theorem at_106_9 : ai_at ai_m106 9 = some (.iastore, 1) := rfl
theorem at_106_10 : ai_at ai_m106 10 = some (.iload_n 1, 1) := rfl
theorem at_106_11 : ai_at ai_m106 11 = some (.istore 5, 2) := rfl
theorem at_106_13 : ai_at ai_m106 13 = some (.iload 5, 2) := rfl
theorem at_106_15 : ai_at ai_m106 15 = some (.iload_n 2, 1) := rfl
theorem at_106_16 : ai_at ai_m106 16 = some (.if_icmp .ge 65, 3) := rfl
theorem at_106_19 : ai_at ai_m106 19 = some (.aload_n 0, 1) := rfl
theorem at_106_20 : ai_at ai_m106 20 = some (.aload_n 0, 1) := rfl
theorem at_106_21 : ai_at ai_m106 21 = some (.getfield 16, 3) := rfl
theorem at_106_24 : ai_at ai_m106 24 = some (.iload 5, 2) := rfl
theorem at_106_26 : ai_at ai_m106 26 = some (.iaload, 1) := rfl
theorem at_106_27 : ai_at ai_m106 27 = some (.invokevirtual 88, 3) := rfl
theorem at_106_30 : ai_at ai_m106 30 = some (.istore 6, 2) := rfl
theorem at_106_32 : ai_at ai_m106 32 = some (.iload 6, 2) := rfl
theorem at_106_34 : ai_at ai_m106 34 = some (.ifCond .lt 19, 3) := rfl
theorem at_106_37 : ai_at ai_m106 37 = some (.iload 4, 2) := rfl
theorem at_106_39 : ai_at ai_m106 39 = some (.ifCond .eq 14, 3) := rfl
theorem at_106_42 : ai_at ai_m106 42 = some (.aload_n 0, 1) := rfl
theorem at_106_43 : ai_at ai_m106 43 = some (.getfield 40, 3) := rfl
theorem at_106_46 : ai_at ai_m106 46 = some (.iload_n 3, 1) := rfl
theorem at_106_47 : ai_at ai_m106 47 = some (.iaload, 1) := rfl
theorem at_106_48 : ai_at ai_m106 48 = some (.bipush 24, 2) := rfl
theorem at_106_50 : ai_at ai_m106 50 = some (.if_icmp .ne 5, 3) := rfl
theorem at_106_53 : ai_at ai_m106 53 = some (.iconst 0, 1) := rfl
theorem at_106_54 : ai_at ai_m106 54 = some (.ireturn, 1) := rfl
theorem at_106_55 : ai_at ai_m106 55 = some (.aload_n 0, 1) := rfl
theorem at_106_56 : ai_at ai_m106 56 = some (.iload_n 3, 1) := rfl
theorem at_106_57 : ai_at ai_m106 57 = some (.iload 6, 2) := rfl
theorem at_106_59 : ai_at ai_m106 59 = some (.invokevirtual 92, 3) := rfl
theorem at_106_62 : ai_at ai_m106 62 = some (.iload 4, 2) := rfl
theorem at_106_64 : ai_at ai_m106 64 = some (.aload_n 0, 1) := rfl
theorem at_106_65 : ai_at ai_m106 65 = some (.iload 6, 2) := rfl
theorem at_106_67 : ai_at ai_m106 67 = some (.invokevirtual 96, 3) := rfl
theorem at_106_70 : ai_at ai_m106 70 = some (.iconst 1, 1) := rfl
theorem at_106_71 : ai_at ai_m106 71 = some (.isub, 1) := rfl
theorem at_106_72 : ai_at ai_m106 72 = some (.iadd, 1) := rfl
theorem at_106_73 : ai_at ai_m106 73 = some (.istore 4, 2) := rfl
theorem at_106_75 : ai_at ai_m106 75 = some (.iinc 5 1, 3) := rfl
theorem at_106_78 : ai_at ai_m106 78 = some (.goto (-65), 3) := rfl
theorem at_106_81 : ai_at ai_m106 81 = some (.iload 4, 2) := rfl
theorem at_106_83 : ai_at ai_m106 83 = some (.ifCond .ne 7, 3) := rfl
theorem at_106_86 : ai_at ai_m106 86 = some (.iconst 1, 1) := rfl
theorem at_106_87 : ai_at ai_m106 87 = some (.goto 4, 3) := rfl
theorem at_106_90 : ai_at ai_m106 90 = some (.iconst 0, 1) := rfl
theorem at_106_91 : ai_at ai_m106 91 = some (.ireturn, 1) := rfl
theorem mt_12_88 : ai_mth 12 88 = some (0, 107, 1, 11) := by decide +kernel
theorem mt_12_92 : ai_mth 12 92 = some (0, 108, 2, 11) := by decide +kernel
set_option maxHeartbeats 4000000 in
theorem r_m_reads1 {T D n rc wt kp sx sc : Int} (ho : mo S T D n rc wt kp sx sc) {P C X Z : Nat → Int} {fr to t : Nat} (hP : ai_arr S 433 0 = some (8, ax_f P)) (hPr : ∀ i, -1 ≤ P i ∧ P i ≤ 2) (hC : ai_arr S 435 0 = some (60, ax_f C)) (hCr : ∀ i, 0 ≤ C i ∧ C i < 65536) (ht : t < 3) (hto : to ≤ 60) (hfr : fr ≤ 61) (hl : 443 < S.1) : ∀ (k j : Nat) (x6 : Option Value), j + k = to - fr → j ≤ 24 → (∀ i, i < j → 0 ≤ cd P ((fun i => C (fr + i)) i) ∧ ¬ ndA (fun c => ar P (cd P c)) (fun i => C (fr + i)) i = 0) → ai_aw L xs (d + 1) ai_m106 (fun o => ∃ v S', o = (.inl v, S') ∧ ∃ j' z, j' ≤ 24 ∧ S' = mt_put S (ow X (64 * t) (fun i => cd P (C (fr + i))) (j')) (ax_up Z t (j' : Nat)) ∧ v = some (ax_i z) ∧ bz z (vt (fun c => 0 ≤ cd P c) (fun c => ar P (cd P c)) (fun i => C (fr + i)) (to - fr)) ∧ (vt (fun c => 0 ≤ cd P c) (fun c => ar P (cd P c)) (fun i => C (fr + i)) (to - fr) → j' = to - fr) ∧ ∀ i, i < j' → 0 ≤ cd P (C (fr + i))) (13, [some (.ref 432), some (ax_i (fr : Nat)), some (ax_i (to : Nat)), some (ax_i (t : Nat)), some (ax_i (ndA (fun c => ar P (cd P c)) (fun i => C (fr + i)) j)), some (ax_i ((fr : Int) + (j : Nat))), x6], [], mt_put S (ow X (64 * t) (fun i => cd P (C (fr + i))) (j)) (ax_up Z t (j : Nat))) := by
  intro k
  induction k with
  | zero =>
    intro j x6 hj hj24 hK
    have ho2 := (mt_obj (X := ow X (64 * t) (fun i => cd P (C (fr + i))) j) (Z := ax_up Z t (j : Nat)) (show 432 ≠ 442 by decide) (show 432 ≠ 443 by decide)).trans ho
    have hC2 := (mt_arr (X := ow X (64 * t) (fun i => cd P (C (fr + i))) j) (Z := ax_up Z t (j : Nat)) (show 435 ≠ 442 by decide) (show 435 ≠ 443 by decide)).trans hC
    have hP2 := (mt_arr (X := ow X (64 * t) (fun i => cd P (C (fr + i))) j) (Z := ax_up Z t (j : Nat)) (show 433 ≠ 442 by decide) (show 433 ≠ 443 by decide)).trans hP
    have hZ2 := mt_Z (X := ow X (64 * t) (fun i => cd P (C (fr + i))) j) (Z := ax_up Z t (j : Nat)) hl
    have hX2 := mt_X (X := ow X (64 * t) (fun i => cd P (C (fr + i))) j) (Z := ax_up Z t (j : Nat)) hl
    have hin := ndA_in2 (W := (fun i => C (fr + i))) (fun c => ar_in hPr (cd P c)) j
    have hzt : ax_up Z t (j : Nat) t = ((j : Nat) : Int) := if_pos rfl
    have hjn : j = to - fr := by omega
    refine aw_loc at_106_13 rfl rfl ?_
    refine aw_loc at_106_15 rfl rfl ?_
    refine ax_icmp_ge at_106_16 ⟨by omega, by omega⟩ ⟨by omega, by omega⟩ (fun _ => ?_) (fun z => absurd z (by omega))
    show ai_aw L xs (d + 1) ai_m106 _ (81, _, _, _)
    refine aw_loc at_106_81 rfl rfl ?_
    refine ax_if_ne at_106_83 ⟨by omega, by omega⟩ (fun z1 => ?_) (fun z1 => ?_)
    · skip
      have hno : ¬ (vt (fun c => 0 ≤ cd P c) (fun c => ar P (cd P c)) (fun i => C (fr + i)) (to - fr)) := fun h => z1 (by rw [hjn]; exact h.2.1)
      refine aw_pure (st' := ax_i (0) :: _) at_106_90 rfl rfl ?_
      exact ax_retZ at_106_91 rfl (Or.inl rfl) ⟨_, _, rfl, j, 0, hj24, rfl, rfl, Or.inl ⟨rfl, hno⟩, fun h => absurd h hno, fun i hi => (hK i hi).1⟩
    · skip
      have hvt : vt (fun c => 0 ≤ cd P c) (fun c => ar P (cd P c)) (fun i => C (fr + i)) (to - fr) := ⟨fun i hi => hK i (by omega), by rw [← hjn]; exact z1, by omega⟩
      refine aw_pure (st' := ax_i (1) :: _) at_106_86 rfl rfl ?_
      refine aw_goto at_106_87 ?_
      exact ax_retZ at_106_91 rfl (Or.inr rfl) ⟨_, _, rfl, j, 1, hj24, rfl, rfl, Or.inr ⟨rfl, hvt⟩, fun _ => hjn, fun i hi => (hK i hi).1⟩
  | succ k ih =>
    intro j x6 hj hj24 hK
    have ho2 := (mt_obj (X := ow X (64 * t) (fun i => cd P (C (fr + i))) j) (Z := ax_up Z t (j : Nat)) (show 432 ≠ 442 by decide) (show 432 ≠ 443 by decide)).trans ho
    have hC2 := (mt_arr (X := ow X (64 * t) (fun i => cd P (C (fr + i))) j) (Z := ax_up Z t (j : Nat)) (show 435 ≠ 442 by decide) (show 435 ≠ 443 by decide)).trans hC
    have hP2 := (mt_arr (X := ow X (64 * t) (fun i => cd P (C (fr + i))) j) (Z := ax_up Z t (j : Nat)) (show 433 ≠ 442 by decide) (show 433 ≠ 443 by decide)).trans hP
    have hZ2 := mt_Z (X := ow X (64 * t) (fun i => cd P (C (fr + i))) j) (Z := ax_up Z t (j : Nat)) hl
    have hX2 := mt_X (X := ow X (64 * t) (fun i => cd P (C (fr + i))) j) (Z := ax_up Z t (j : Nat)) hl
    have hin := ndA_in2 (W := (fun i => C (fr + i))) (fun c => ar_in hPr (cd P c)) j
    have hzt : ax_up Z t (j : Nat) t = ((j : Nat) : Int) := if_pos rfl
    have hCj := hCr (fr + j)
    have hcd := cd_in (P := P) (c := C (fr + j))
    have k53 : ¬ (vt (fun c => 0 ≤ cd P c) (fun c => ar P (cd P c)) (fun i => C (fr + i)) (to - fr)) → ∀ y6, ai_aw L xs (d + 1) ai_m106 (fun o => ∃ v S', o = (.inl v, S') ∧ ∃ j' z, j' ≤ 24 ∧ S' = mt_put S (ow X (64 * t) (fun i => cd P (C (fr + i))) (j')) (ax_up Z t (j' : Nat)) ∧ v = some (ax_i z) ∧ bz z (vt (fun c => 0 ≤ cd P c) (fun c => ar P (cd P c)) (fun i => C (fr + i)) (to - fr)) ∧ (vt (fun c => 0 ≤ cd P c) (fun c => ar P (cd P c)) (fun i => C (fr + i)) (to - fr) → j' = to - fr) ∧ ∀ i, i < j' → 0 ≤ cd P (C (fr + i))) (53, [some (.ref 432), some (ax_i (fr : Nat)), some (ax_i (to : Nat)), some (ax_i (t : Nat)), some (ax_i (ndA (fun c => ar P (cd P c)) (fun i => C (fr + i)) j)), some (ax_i ((fr : Int) + (j : Nat))), y6], [], mt_put S (ow X (64 * t) (fun i => cd P (C (fr + i))) (j)) (ax_up Z t (j : Nat))) := by
      intro hno y6
      refine aw_pure (st' := ax_i (0) :: _) at_106_53 rfl rfl ?_
      exact ax_retZ at_106_54 rfl (Or.inl rfl) ⟨_, _, rfl, j, 0, hj24, rfl, rfl, Or.inl ⟨rfl, hno⟩, fun h => absurd h hno, fun i hi => (hK i hi).1⟩
    refine aw_loc at_106_13 rfl rfl ?_
    refine aw_loc at_106_15 rfl rfl ?_
    refine ax_icmp_ge at_106_16 ⟨by omega, by omega⟩ ⟨by omega, by omega⟩ (fun z => absurd z (by omega)) (fun _ => ?_)
    refine aw_loc at_106_19 rfl rfl ?_
    refine aw_loc at_106_20 rfl rfl ?_
    refine aw_get at_106_21 rfl fl_12_16 ho2 rfl ?_
    refine aw_loc at_106_24 rfl rfl ?_
    refine ax_ild at_106_26 rfl hC2 (k := fr + j) (by omega) (by omega) (by decide) ?_
    refine aw_cv (a := 432) [ax_i (C (fr + j))] [] at_106_27 mt_12_88 (Or.inl rfl) rfl rfl (Nat.le_of_ble_eq_true rfl) ⟨_, ho2⟩ ((r_m_code ho2 hP2 hPr hCj).mono ?_)
    rintro v S0 ⟨hS, rfl⟩
    rw [hS]
    refine aw_loc at_106_30 rfl rfl ?_
    refine aw_loc at_106_32 rfl rfl ?_
    refine ax_if_lt at_106_34 ⟨by omega, by omega⟩ (fun z1 => k53 (fun h => ?_) _) (fun z1 => ?_)
    · have := (h.1 j (by omega)).1
      have h9 : 0 ≤ cd P (C (fr + j)) := this
      omega
    refine aw_loc at_106_37 rfl rfl ?_
    refine ax_if_eq at_106_39 ⟨by omega, by omega⟩ (fun z2 => k53 (fun h => (h.1 j (by omega)).2 z2) _) (fun z2 => ?_)
    refine aw_loc at_106_42 rfl rfl ?_
    refine aw_get at_106_43 rfl fl_12_40 ho2 rfl ?_
    refine aw_loc at_106_46 rfl rfl ?_
    refine ax_ild at_106_47 rfl hZ2 (k := t) rfl (by omega) (by decide) ?_
    refine aw_pure (st' := ax_i (24) :: _) at_106_48 rfl rfl ?_
    rw [hzt]
    refine ax_icmp_ne at_106_50 ⟨by omega, by omega⟩ ⟨by omega, by omega⟩ (fun z3 => ?_) (fun z3 => k53 (fun h => by have := h.2.2; omega) _)
    show ai_aw L xs (d + 1) ai_m106 _ (55, _, _, _)
    refine aw_loc at_106_55 rfl rfl ?_
    refine aw_loc at_106_56 rfl rfl ?_
    refine aw_loc at_106_57 rfl rfl ?_
    refine aw_cv (a := 432) [ax_i (t : Nat), ax_i (cd P (C (fr + j)))] [] at_106_59 mt_12_92 (Or.inl rfl) rfl rfl (Nat.le_of_ble_eq_true rfl) ⟨_, ho2⟩ ((r_m_put ho2 hX2 hZ2 ht hzt (by omega)).mono ?_)
    rintro v S0 ⟨rfl, hput, -⟩
    have hput := hput (by omega)
    rw [mt_two, show ax_up (ow X (64 * t) (fun i => cd P (C (fr + i))) j) (64 * t + j) (cd P (C (fr + j))) = ow X (64 * t) (fun i => cd P (C (fr + i))) (j + 1) from ow_succ X (64 * t) (fun i => cd P (C (fr + i))) j, ax_up_two] at hput
    subst hput
    have ho3 := (mt_obj (X := ow X (64 * t) (fun i => cd P (C (fr + i))) (j + 1)) (Z := ax_up Z t ((j : Int) + 1)) (show 432 ≠ 442 by decide) (show 432 ≠ 443 by decide)).trans ho
    have hP3 := (mt_arr (X := ow X (64 * t) (fun i => cd P (C (fr + i))) (j + 1)) (Z := ax_up Z t ((j : Int) + 1)) (show 433 ≠ 442 by decide) (show 433 ≠ 443 by decide)).trans hP
    refine aw_loc at_106_62 rfl rfl ?_
    refine aw_loc at_106_64 rfl rfl ?_
    refine aw_loc at_106_65 rfl rfl ?_
    refine aw_cv (a := 432) [ax_i (cd P (C (fr + j)))] [ax_i (ndA (fun c => ar P (cd P c)) (fun i => C (fr + i)) j)] at_106_67 mt_12_96 (Or.inl rfl) rfl rfl (Nat.le_of_ble_eq_true rfl) ⟨_, ho3⟩ ((r_m_places ho3 hP3 (by omega)).mono ?_)
    rintro v S0 ⟨hS, rfl⟩
    rw [hS]
    refine aw_pure (st' := ax_i (1) :: _) at_106_70 rfl rfl ?_
    refine ax_sub at_106_71 rfl ?_
    refine ax_add at_106_72 rfl ?_
    refine aw_loc at_106_73 rfl rfl ?_
    refine ax_inc at_106_75 rfl rfl rfl ?_
    refine aw_goto at_106_78 ?_
    have := ih (j + 1) (some (ax_i (cd P (C (fr + j))))) (by omega) (by omega) (fun i hi => ?_)
    · rw [show ndA (fun c => ar P (cd P c)) (fun i => C (fr + i)) (j + 1) = ndA (fun c => ar P (cd P c)) (fun i => C (fr + i)) j + (ar P (cd P (C (fr + j))) - 1) by show ndA (fun c => ar P (cd P c)) (fun i => C (fr + i)) j + ar P (cd P (C (fr + j))) - 1 = _; omega, show (fr : Int) + ((j + 1 : Nat) : Int) = (fr : Int) + (j : Nat) + 1 by omega, show ((j + 1 : Nat) : Int) = (j : Int) + 1 by omega] at this
      exact this
    · by_cases hij : i = j
      · subst hij; exact ⟨z1, z2⟩
      · exact hK i (by omega)
set_option maxHeartbeats 2000000 in
theorem r_m_reads {T D n rc wt kp sx sc : Int} (ho : mo S T D n rc wt kp sx sc) {P C X Z : Nat → Int} {fr to t : Nat} (hP : ai_arr S 433 0 = some (8, ax_f P)) (hPr : ∀ i, -1 ≤ P i ∧ P i ≤ 2) (hC : ai_arr S 435 0 = some (60, ax_f C)) (hCr : ∀ i, 0 ≤ C i ∧ C i < 65536) (ht : t < 3) (hto : to ≤ 60) (hfr : fr ≤ 61) (hX : ai_arr S 442 0 = some (192, ax_f X)) (hZ : ai_arr S 443 0 = some (3, ax_f Z)) : ai_rn L xs (d + 2) 106 [.ref 432, ax_i (fr : Nat), ax_i (to : Nat), ax_i (t : Nat)] S (fun v S' => ∃ j' z, j' ≤ 24 ∧ S' = mt_put S (ow X (64 * t) (fun i => cd P (C (fr + i))) (j')) (ax_up Z t (j' : Nat)) ∧ v = some (ax_i z) ∧ bz z (vt (fun c => 0 ≤ cd P c) (fun c => ar P (cd P c)) (fun i => C (fr + i)) (to - fr)) ∧ (vt (fun c => 0 ≤ cd P c) (fun c => ar P (cd P c)) (fun i => C (fr + i)) (to - fr) → j' = to - fr) ∧ ∀ i, i < j' → 0 ≤ cd P (C (fr + i))) := by
  have hl : 443 < S.1 := (ai_arr_inv hZ).1
  refine ai_rn_of (M := ai_m106) rfl (by decide) (Nat.le_of_ble_eq_true rfl) ?_
  refine aw_pure (st' := ax_i (1) :: _) at_106_0 rfl rfl ?_
  refine aw_loc at_106_1 rfl rfl ?_
  refine aw_loc at_106_3 rfl rfl ?_
  refine aw_get at_106_4 rfl fl_12_40 ho rfl ?_
  refine aw_loc at_106_7 rfl rfl ?_
  refine aw_pure (st' := ax_i (0) :: _) at_106_8 rfl rfl ?_
  refine ax_ist (k := t) at_106_9 rfl hZ rfl (by omega) (by decide) ?_
  refine aw_loc at_106_10 rfl rfl ?_
  refine aw_loc at_106_11 rfl rfl ?_
  have := r_m_reads1 (L := L) (xs := xs) (d := d) (X := X) (Z := Z) ho hP hPr hC hCr ht hto hfr hl (to - fr) 0 none (by omega) (by omega) (fun i hi => absurd hi (Nat.not_lt_zero i))
  rw [show ndA (fun c => ar P (cd P c)) (fun i => C (fr + i)) 0 = 1 from rfl, show (fr : Int) + ((0 : Nat) : Int) = (fr : Int) by omega, ow_zero] at this
  have e0 : mt_put S X (ax_up Z t ((0 : Nat) : Int)) = ai_wr S 443 (.inl (0, ai_I 3 (ax_f (ax_up Z t 0)))) := by
    unfold mt_put
    rw [ai_wr_id (ai_arr_inv hX).2]; rfl
  rw [e0] at this
  exact this
end MR

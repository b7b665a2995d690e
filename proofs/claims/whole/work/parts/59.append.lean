/-! What is put for a variable, as the landed code appends it. -/
section AP
variable {L : Nat} {xs : Nat → Int32} {d : Nat} {S S' : ai_S} {P R LT EN ND PA SE ST e : Nat → Int} {nn dp : Int}
/-- places on the stack, the last one first -/
def skn (ST : Nat → Int) : List Nat → Prop
  | [] => True
  | p :: l => ST l.length = (p : Int) ∧ skn ST l
theorem skn_up {i : Nat} {v : Int} : ∀ (l : List Nat), l.length ≤ i → skn ST l → skn (ax_up ST i v) l
  | [], _, _ => True.intro
  | p :: l, hi, h => by
    rw [List.length_cons] at hi
    refine ⟨?_, skn_up l (by omega) h.2⟩
    unfold ax_up
    rw [if_neg (by omega)]
    exact h.1
theorem skn_push {l : List Nat} {p : Nat} (h : skn ST l) : skn (ax_up ST l.length p) (p :: l) := ⟨if_pos rfl, skn_up l (Nat.le_refl _) h⟩
theorem wd_long {T : Nat → Int} {n : Nat} {w x : List Int} (h : wd T n w) (hl : 24 < w.length) : wd T n (w ++ x) := by
  refine ⟨by rw [h.1, List.length_append]; omega, fun i hi h24 => ?_, h.2.2⟩
  rw [h.2.1 i (by omega) h24, List.getD_eq_getElem?_getD, List.getD_eq_getElem?_getD, List.getElem?_append_left (by omega)]
theorem tw_put {a n : Nat} {T : Nat → Int} {w : List Int} (h : a + 1 < S.1) (hw : wd T n w) : tw (tm_put S a T n) a w := ⟨T, n, tm_get h, hw⟩
theorem ovo_tm {T : Nat → Int} {a n : Nat} (h : ovo S LT EN ND PA SE ST dp e) (ha : a + 1 < 425 ∨ 431 < a) : ovo (tm_put S a T n) LT EN ND PA SE ST dp e := by
  obtain ⟨h1, h2, h3, h4, h5, h6, h7⟩ := h
  exact ⟨(tm_obj (by omega) (by omega)).trans h1, (tm_arr (by omega) (by omega)).trans h2, (tm_arr (by omega) (by omega)).trans h3, (tm_arr (by omega) (by omega)).trans h4, (tm_arr (by omega) (by omega)).trans h5, (tm_arr (by omega) (by omega)).trans h6, (tm_arr (by omega) (by omega)).trans h7⟩
/-- the cells that appending to a term changes -/
abbrev rgO (a c : Nat) : Prop := c = a ∨ c = a + 1 ∨ (425 ≤ c ∧ c < 432)
theorem at_44_0 : ai_at ai_m44 0 = some (.iload_n 1, 1) := rfl
theorem at_44_1 : ai_at ai_m44 1 = some (.istore 4, 2) := rfl
theorem at_44_3 : ai_at ai_m44 3 = some (.iload 4, 2) := rfl
theorem at_44_5 : ai_at ai_m44 5 = some (.iload_n 2, 1) := rfl
theorem at_44_6 : ai_at ai_m44 6 = some (.if_icmp .ge 43, 3) := rfl
theorem at_44_9 : ai_at ai_m44 9 = some (.aload_n 0, 1) := rfl
theorem at_44_10 : ai_at ai_m44 10 = some (.getfield 11, 3) := rfl
theorem at_44_13 : ai_at ai_m44 13 = some (.iload 4, 2) := rfl
theorem at_44_15 : ai_at ai_m44 15 = some (.caload, 1) := rfl
theorem at_44_16 : ai_at ai_m44 16 = some (.invokestatic 71, 3) := rfl
theorem at_44_19 : ai_at ai_m44 19 = some (.ifCond .eq 13, 3) := rfl
theorem at_44_22 : ai_at ai_m44 22 = some (.aload_n 0, 1) := rfl
theorem at_44_23 : ai_at ai_m44 23 = some (.iload 4, 2) := rfl
theorem at_44_25 : ai_at ai_m44 25 = some (.aload_n 3, 1) := rfl
theorem at_44_26 : ai_at ai_m44 26 = some (.invokevirtual 117, 3) := rfl
theorem at_44_29 : ai_at ai_m44 29 = some (.goto 14, 3) := rfl
theorem at_44_32 : ai_at ai_m44 32 = some (.aload_n 3, 1) := rfl
theorem at_44_33 : ai_at ai_m44 33 = some (.aload_n 0, 1) := rfl
theorem at_44_34 : ai_at ai_m44 34 = some (.getfield 11, 3) := rfl
theorem at_44_37 : ai_at ai_m44 37 = some (.iload 4, 2) := rfl
theorem at_44_39 : ai_at ai_m44 39 = some (.caload, 1) := rfl
theorem at_44_40 : ai_at ai_m44 40 = some (.invokevirtual 121, 3) := rfl
theorem at_44_43 : ai_at ai_m44 43 = some (.iinc 4 1, 3) := rfl
theorem at_44_46 : ai_at ai_m44 46 = some (.goto (-43), 3) := rfl
theorem at_44_49 : ai_at ai_m44 49 = some (.return_, 1) := rfl
theorem at_45_0 : ai_at ai_m45 0 = some (.aload_n 0, 1) := rfl
theorem at_45_1 : ai_at ai_m45 1 = some (.getfield 29, 3) := rfl
theorem at_45_4 : ai_at ai_m45 4 = some (.iconst 0, 1) := rfl
theorem at_45_5 : ai_at ai_m45 5 = some (.iload_n 1, 1) := rfl
theorem at_45_6 : ai_at ai_m45 6 = some (.iastore, 1) := rfl
theorem at_45_7 : ai_at ai_m45 7 = some (.aload_n 0, 1) := rfl
theorem at_45_8 : ai_at ai_m45 8 = some (.iconst 1, 1) := rfl
theorem at_45_9 : ai_at ai_m45 9 = some (.putfield 32, 3) := rfl
theorem at_45_12 : ai_at ai_m45 12 = some (.iconst 0, 1) := rfl
theorem at_45_13 : ai_at ai_m45 13 = some (.istore_n 3, 1) := rfl
theorem at_45_14 : ai_at ai_m45 14 = some (.iload_n 3, 1) := rfl
theorem at_45_15 : ai_at ai_m45 15 = some (.bipush 24, 2) := rfl
theorem at_45_17 : ai_at ai_m45 17 = some (.if_icmp .gt 81, 3) := rfl
theorem at_45_20 : ai_at ai_m45 20 = some (.aload_n 0, 1) := rfl
theorem at_45_21 : ai_at ai_m45 21 = some (.getfield 32, 3) := rfl
theorem at_45_24 : ai_at ai_m45 24 = some (.ifCond .le 74, 3) := rfl
theorem at_45_27 : ai_at ai_m45 27 = some (.aload_n 0, 1) := rfl
theorem at_45_28 : ai_at ai_m45 28 = some (.dup, 1) := rfl
theorem at_45_29 : ai_at ai_m45 29 = some (.getfield 32, 3) := rfl
theorem at_45_32 : ai_at ai_m45 32 = some (.iconst 1, 1) := rfl
theorem at_45_33 : ai_at ai_m45 33 = some (.isub, 1) := rfl
theorem at_45_34 : ai_at ai_m45 34 = some (.putfield 32, 3) := rfl
theorem at_45_37 : ai_at ai_m45 37 = some (.aload_n 0, 1) := rfl
theorem at_45_38 : ai_at ai_m45 38 = some (.aload_n 0, 1) := rfl
theorem at_45_39 : ai_at ai_m45 39 = some (.getfield 29, 3) := rfl
theorem at_45_42 : ai_at ai_m45 42 = some (.aload_n 0, 1) := rfl
theorem at_45_43 : ai_at ai_m45 43 = some (.getfield 32, 3) := rfl
theorem at_45_46 : ai_at ai_m45 46 = some (.iaload, 1) := rfl
theorem at_45_47 : ai_at ai_m45 47 = some (.invokevirtual 97, 3) := rfl
theorem at_45_50 : ai_at ai_m45 50 = some (.istore 4, 2) := rfl
theorem at_45_52 : ai_at ai_m45 52 = some (.iload 4, 2) := rfl
theorem at_45_54 : ai_at ai_m45 54 = some (.bipush 96, 2) := rfl
theorem at_45_56 : ai_at ai_m45 56 = some (.if_icmp .lt 19, 3) := rfl
theorem at_45_59 : ai_at ai_m45 59 = some (.aload_n 2, 1) := rfl
theorem at_45_60 : ai_at ai_m45 60 = some (.bipush 117, 2) := rfl
theorem at_45_62 : ai_at ai_m45 62 = some (.iload 4, 2) := rfl
theorem at_45_64 : ai_at ai_m45 64 = some (.iadd, 1) := rfl
theorem at_45_65 : ai_at ai_m45 65 = some (.bipush 96, 2) := rfl
theorem at_45_67 : ai_at ai_m45 67 = some (.isub, 1) := rfl
theorem at_45_68 : ai_at ai_m45 68 = some (.i2c, 1) := rfl
theorem at_45_69 : ai_at ai_m45 69 = some (.invokevirtual 121, 3) := rfl
theorem at_45_72 : ai_at ai_m45 72 = some (.goto 20, 3) := rfl
theorem at_45_75 : ai_at ai_m45 75 = some (.aload_n 2, 1) := rfl
theorem at_45_76 : ai_at ai_m45 76 = some (.aload_n 0, 1) := rfl
theorem at_45_77 : ai_at ai_m45 77 = some (.getfield 11, 3) := rfl
theorem at_45_80 : ai_at ai_m45 80 = some (.iload 4, 2) := rfl
theorem at_45_82 : ai_at ai_m45 82 = some (.caload, 1) := rfl
theorem at_45_83 : ai_at ai_m45 83 = some (.invokevirtual 121, 3) := rfl
theorem at_45_86 : ai_at ai_m45 86 = some (.aload_n 0, 1) := rfl
theorem at_45_87 : ai_at ai_m45 87 = some (.iload 4, 2) := rfl
theorem at_45_89 : ai_at ai_m45 89 = some (.invokevirtual 125, 3) := rfl
theorem at_45_92 : ai_at ai_m45 92 = some (.iinc 3 1, 3) := rfl
theorem at_45_95 : ai_at ai_m45 95 = some (.goto (-81), 3) := rfl
theorem at_45_98 : ai_at ai_m45 98 = some (.return_, 1) := rfl
theorem at_46_0 : ai_at ai_m46 0 = some (.aload_n 0, 1) := rfl
theorem at_46_1 : ai_at ai_m46 1 = some (.getfield 48, 3) := rfl
theorem at_46_4 : ai_at ai_m46 4 = some (.aload_n 0, 1) := rfl
theorem at_46_5 : ai_at ai_m46 5 = some (.getfield 11, 3) := rfl
theorem at_46_8 : ai_at ai_m46 8 = some (.iload_n 1, 1) := rfl
theorem at_46_9 : ai_at ai_m46 9 = some (.caload, 1) := rfl
theorem at_46_10 : ai_at ai_m46 10 = some (.invokevirtual 107, 3) := rfl
theorem at_46_13 : ai_at ai_m46 13 = some (.istore_n 2, 1) := rfl
theorem at_46_14 : ai_at ai_m46 14 = some (.iload_n 2, 1) := rfl
theorem at_46_15 : ai_at ai_m46 15 = some (.iconst 2, 1) := rfl
theorem at_46_16 : ai_at ai_m46 16 = some (.if_icmp .ne 30, 3) := rfl
theorem at_46_19 : ai_at ai_m46 19 = some (.aload_n 0, 1) := rfl
theorem at_46_20 : ai_at ai_m46 20 = some (.getfield 29, 3) := rfl
theorem at_46_23 : ai_at ai_m46 23 = some (.aload_n 0, 1) := rfl
theorem at_46_24 : ai_at ai_m46 24 = some (.getfield 32, 3) := rfl
theorem at_46_27 : ai_at ai_m46 27 = some (.aload_n 0, 1) := rfl
theorem at_46_28 : ai_at ai_m46 28 = some (.getfield 15, 3) := rfl
theorem at_46_31 : ai_at ai_m46 31 = some (.iload_n 1, 1) := rfl
theorem at_46_32 : ai_at ai_m46 32 = some (.iconst 1, 1) := rfl
theorem at_46_33 : ai_at ai_m46 33 = some (.iadd, 1) := rfl
theorem at_46_34 : ai_at ai_m46 34 = some (.iaload, 1) := rfl
theorem at_46_35 : ai_at ai_m46 35 = some (.iastore, 1) := rfl
theorem at_46_36 : ai_at ai_m46 36 = some (.aload_n 0, 1) := rfl
theorem at_46_37 : ai_at ai_m46 37 = some (.dup, 1) := rfl
theorem at_46_38 : ai_at ai_m46 38 = some (.getfield 32, 3) := rfl
theorem at_46_41 : ai_at ai_m46 41 = some (.iconst 1, 1) := rfl
theorem at_46_42 : ai_at ai_m46 42 = some (.iadd, 1) := rfl
theorem at_46_43 : ai_at ai_m46 43 = some (.putfield 32, 3) := rfl
theorem at_46_46 : ai_at ai_m46 46 = some (.iload_n 2, 1) := rfl
theorem at_46_47 : ai_at ai_m46 47 = some (.ifCond .le 25, 3) := rfl
theorem at_46_50 : ai_at ai_m46 50 = some (.aload_n 0, 1) := rfl
theorem at_46_51 : ai_at ai_m46 51 = some (.getfield 29, 3) := rfl
theorem at_46_54 : ai_at ai_m46 54 = some (.aload_n 0, 1) := rfl
theorem at_46_55 : ai_at ai_m46 55 = some (.getfield 32, 3) := rfl
theorem at_46_58 : ai_at ai_m46 58 = some (.iload_n 1, 1) := rfl
theorem at_46_59 : ai_at ai_m46 59 = some (.iconst 1, 1) := rfl
theorem at_46_60 : ai_at ai_m46 60 = some (.iadd, 1) := rfl
theorem at_46_61 : ai_at ai_m46 61 = some (.iastore, 1) := rfl
theorem at_46_62 : ai_at ai_m46 62 = some (.aload_n 0, 1) := rfl
theorem at_46_63 : ai_at ai_m46 63 = some (.dup, 1) := rfl
theorem at_46_64 : ai_at ai_m46 64 = some (.getfield 32, 3) := rfl
theorem at_46_67 : ai_at ai_m46 67 = some (.iconst 1, 1) := rfl
theorem at_46_68 : ai_at ai_m46 68 = some (.iadd, 1) := rfl
theorem at_46_69 : ai_at ai_m46 69 = some (.putfield 32, 3) := rfl
theorem at_46_72 : ai_at ai_m46 72 = some (.return_, 1) := rfl
theorem mt_3_71 : ai_mth 3 71 = some (3, 12, 1, 0) := by decide +kernel
theorem mt_3_117 : ai_mth 3 117 = some (0, 45, 2, 10) := by decide +kernel
theorem mt_3_121 : ai_mth 3 121 = some (0, 85, 1, 4) := by decide +kernel
theorem mt_3_125 : ai_mth 3 125 = some (0, 46, 1, 10) := by decide +kernel
set_option maxHeartbeats 4000000 in
theorem r_pushN {A : Int → Nat} {D : Nat → Prop} {Y : Nat → Int} {en : Nat → Nat} {Tm : Nat → List Int} {r : Nat} {ps : List Nat} (hA2 : ∀ c, A c ≤ 2) (hs : sy S P R nn) (hv : ovs A P LT EN ND D Y en) (ht : tps A D Y (chp en) Tm) (h : ovo S LT EN ND PA SE ST (ps.length : Nat) e) (hk : skn ST ps) (hl : ps.length < 200) (hr : D r) : ai_rn L xs (d + 2) 46 [.ref 425, ax_i (r : Nat)] S (fun v S' => v = none ∧ fr 425 432 S S' ∧ ∃ ST', ovo S' LT EN ND PA SE ST' (((((List.range (A (Y r))).map (chp en r)) ++ ps).length : Nat) : Int) e ∧ skn ST' (((List.range (A (Y r))).map (chp en r)) ++ ps)) := by
  have hvr := hv r hr
  have hcr := ht.1 r hr
  have e0 : chp en r 0 = r + 1 := rfl
  have e1 : chp en r 1 = en (r + 1) := rfl
  refine ai_rn_of (M := ai_m46) rfl (by decide) (Nat.le_of_ble_eq_true rfl) ?_
  refine aw_loc at_46_0 rfl rfl ?_
  refine aw_get at_46_1 rfl fl_3_48 h.1 rfl ?_
  refine aw_loc at_46_4 rfl rfl ?_
  refine aw_get at_46_5 rfl fl_3_11 h.1 rfl ?_
  refine aw_loc at_46_8 rfl rfl ?_
  refine ax_cld at_46_9 rfl h.2.1 (k := r) rfl (by omega) (by decide) ?_
  refine aw_cv (a := 1) [ax_i (LT r)] [] at_46_10 mt_3_107 (Or.inl rfl) rfl rfl (Nat.le_of_ble_eq_true rfl) ⟨_, hs.1⟩ ((r_places hs hvr.2.1).mono ?_)
  rintro v S0 ⟨hS, rfl⟩
  have hS2 := hS.symm
  subst hS2
  rw [hvr.2.2.2.2.2.2.2]
  refine aw_loc at_46_13 rfl rfl ?_
  refine aw_loc at_46_14 rfl rfl ?_
  refine aw_pure (st' := ax_i (2) :: _) at_46_15 rfl rfl ?_
  have hA9 := hA2 (Y r)
  have klast : ∀ (S9 : ai_S) (ST9 : Nat → Int) (ps9 : List Nat) (dp9 : Int), dp9 = (ps9.length : Int) → fr 425 432 S S9 → ovo S9 LT EN ND PA SE ST9 dp9 e → skn ST9 ps9 → ps9.length < 216 → 0 < A (Y r) → ((r + 1) :: ps9 = (List.range (A (Y r))).map (chp en r) ++ ps) → ai_aw L xs (d + 1) ai_m46 (fun o => ∃ v S', o = (.inl v, S') ∧ v = none ∧ fr 425 432 S S' ∧ ∃ ST', ovo S' LT EN ND PA SE ST' (((((List.range (A (Y r))).map (chp en r)) ++ ps).length : Nat) : Int) e ∧ skn ST' (((List.range (A (Y r))).map (chp en r)) ++ ps)) (46, [some (.ref 425), some (ax_i (r : Nat)), some (ax_i (A (Y r) : Nat))], [], S9) := by
    intro S9 ST9 ps9 dp9 g0 g1 g2 g3 g4 g5 g6
    subst g0
    refine aw_loc at_46_46 rfl rfl ?_
    refine ax_if_le at_46_47 ⟨by omega, by omega⟩ (fun z => absurd z (by omega)) (fun _ => ?_)
    refine aw_loc at_46_50 rfl rfl ?_
    refine aw_get at_46_51 rfl fl_3_29 g2.1 rfl ?_
    refine aw_loc at_46_54 rfl rfl ?_
    refine aw_get at_46_55 rfl fl_3_32 g2.1 rfl ?_
    refine aw_loc at_46_58 rfl rfl ?_
    refine aw_pure (st' := ax_i (1) :: _) at_46_59 rfl rfl ?_
    refine ax_add at_46_60 rfl ?_
    refine ax_ist (k := ps9.length) at_46_61 rfl g2.2.2.2.2.2.2 rfl (by omega) (by decide) ?_
    have h2 := ovo_st (F := ax_up ST9 ps9.length ((r : Int) + 1)) g2
    refine aw_loc at_46_62 rfl rfl ?_
    refine aw_pure at_46_63 rfl rfl ?_
    refine aw_get at_46_64 rfl fl_3_32 h2.1 rfl ?_
    refine aw_pure (st' := ax_i (1) :: _) at_46_67 rfl rfl ?_
    refine ax_add at_46_68 rfl ?_
    refine aw_put at_46_69 rfl fl_3_32 h2.1 (Nat.le_of_ble_eq_true rfl) rfl (by decide +kernel) ?_
    rw [← g6]
    refine aw_vret at_46_72 rfl ⟨_, _, rfl, rfl, (g1.tr (fr_ov (by decide) (by decide))).tr (fr_ov (by decide) (by decide)), ax_up ST9 ps9.length ((r : Int) + 1), ?_, ?_⟩
    · have h3 := ovo_dp (dp2 := (ps9.length : Int) + 1) h2
      rw [show (((((r + 1) :: ps9 : List Nat)).length : Nat) : Int) = (ps9.length : Int) + 1 by rw [List.length_cons]; omega]
      exact h3
    · have := skn_push (p := r + 1) g3
      rw [Int.natCast_add] at this
      exact this
  obtain hn | hn | hn : A (Y r) = 0 ∨ A (Y r) = 1 ∨ A (Y r) = 2 := by omega
  · skip
    refine ax_icmp_ne at_46_16 ⟨by omega, by omega⟩ ⟨by omega, by omega⟩ (fun _ => ?_) (fun z => absurd z (by omega))
    show ai_aw L xs (d + 1) ai_m46 _ (46, _, _, _)
    refine aw_loc at_46_46 rfl rfl ?_
    refine ax_if_le at_46_47 ⟨by omega, by omega⟩ (fun _ => ?_) (fun z => absurd z (by omega))
    rw [hn]
    exact aw_vret at_46_72 rfl ⟨_, _, rfl, rfl, fr.rf, ST, h, hk⟩
  · skip
    refine ax_icmp_ne at_46_16 ⟨by omega, by omega⟩ ⟨by omega, by omega⟩ (fun _ => ?_) (fun z => absurd z (by omega))
    exact klast S ST ps _ rfl fr.rf h hk (by omega) (by omega) (by rw [hn]; rfl)
  · skip
    have c0 := hv _ (hcr 0 (by omega))
    rw [e0] at c0
    refine ax_icmp_ne at_46_16 ⟨by omega, by omega⟩ ⟨by omega, by omega⟩ (fun z => absurd z (by omega)) (fun _ => ?_)
    refine aw_loc at_46_19 rfl rfl ?_
    refine aw_get at_46_20 rfl fl_3_29 h.1 rfl ?_
    refine aw_loc at_46_23 rfl rfl ?_
    refine aw_get at_46_24 rfl fl_3_32 h.1 rfl ?_
    refine aw_loc at_46_27 rfl rfl ?_
    refine aw_get at_46_28 rfl fl_3_15 h.1 rfl ?_
    refine aw_loc at_46_31 rfl rfl ?_
    refine aw_pure (st' := ax_i (1) :: _) at_46_32 rfl rfl ?_
    refine ax_add at_46_33 rfl ?_
    refine ax_ild at_46_34 rfl h.2.2.1 (k := r + 1) (by omega) (by omega) (by decide) ?_
    rw [c0.2.2.2.2.2.2.1]
    refine ax_ist (k := ps.length) at_46_35 rfl h.2.2.2.2.2.2 rfl (by omega) (by decide) ?_
    have h2 := ovo_st (F := ax_up ST ps.length (en (r + 1) : Nat)) h
    refine aw_loc at_46_36 rfl rfl ?_
    refine aw_pure at_46_37 rfl rfl ?_
    refine aw_get at_46_38 rfl fl_3_32 h2.1 rfl ?_
    refine aw_pure (st' := ax_i (1) :: _) at_46_41 rfl rfl ?_
    refine ax_add at_46_42 rfl ?_
    refine aw_put at_46_43 rfl fl_3_32 h2.1 (Nat.le_of_ble_eq_true rfl) rfl (by decide +kernel) ?_
    have h3 := ovo_dp (dp2 := (ps.length : Int) + 1) h2
    exact klast _ _ (en (r + 1) :: ps) _ (by rw [List.length_cons]; omega) ((fr_ov (by decide) (by decide)).tr (fr_ov (by decide) (by decide))) h3 (skn_push hk) (by rw [List.length_cons]; omega) (by omega) (by rw [hn]; rfl)
set_option maxHeartbeats 8000000 in
theorem r_putV1 {A : Int → Nat} {D : Nat → Prop} {Y : Nat → Int} {en : Nat → Nat} {Tm : Nat → List Int} {par : Nat → Nat} {X : Nat → List Int} {a i : Nat} {W : List Int} (hA2 : ∀ c, A c ≤ 2) (hs : sy S P R nn) (hv : ovs A P LT EN ND D Y en) (ht : tps A D Y (chp en) Tm) (hp : pav PA par) (hX : sti A D Y (chp en) par (fun n => SE n = 1) X) (ha : (5 < a ∧ a + 1 < 425) ∨ 431 < a) : ∀ (k c : Nat) (x4 : Option Value) (S1 : ai_S) (ST1 : Nat → Int) (w1 : List Int) (ps : List Nat), c + k = 25 → c ≤ w1.length → frp (rgO a) S S1 → ovo S1 LT EN ND PA SE ST1 (ps.length : Nat) e → skn ST1 ps → tw S1 a w1 → W = w1 ++ ps.flatMap (fun p => X (rep par (ndo Y p))) → ps.length ≤ 2 * c + 1 → (∀ q, q ∈ ps → q < 96 ∧ ND q = (ndo Y q : Int) ∧ ndo Y q < 108 ∧ SE (rep par (ndo Y q)) = 1) → ai_aw L xs (d + 2) ai_m45 (fun o => ∃ v S', o = (.inl v, S') ∧ v = none ∧ frp (rgO a) S S' ∧ (∃ ST' dp', ovo S' LT EN ND PA SE ST' dp' e) ∧ tw S' a W) (14, [some (.ref 425), some (ax_i (i : Nat)), some (.ref a), some (ax_i (c : Nat)), x4], [], S1) := by
  have kend : ∀ (c : Nat) (x4 : Option Value) (S1 : ai_S) (ST1 : Nat → Int) (dp1 : Int) (w1 : List Int) (ps : List Nat), frp (rgO a) S S1 → ovo S1 LT EN ND PA SE ST1 dp1 e → tw S1 a w1 → W = w1 ++ ps.flatMap (fun p => X (rep par (ndo Y p))) → (ps = [] ∨ 24 < w1.length) → ai_aw L xs (d + 2) ai_m45 (fun o => ∃ v S', o = (.inl v, S') ∧ v = none ∧ frp (rgO a) S S' ∧ (∃ ST' dp', ovo S' LT EN ND PA SE ST' dp' e) ∧ tw S' a W) (98, [some (.ref 425), some (ax_i (i : Nat)), some (.ref a), some (ax_i (c : Nat)), x4], [], S1) := by
    intro c x4 S1 ST1 dp1 w1 ps f1 h1 ⟨T, n, t1, t2⟩ hW hor
    refine aw_vret at_45_98 rfl ⟨_, _, rfl, rfl, f1, ⟨_, _, h1⟩, T, n, t1, ?_⟩
    rw [hW]
    rcases hor with rfl | hor
    · show wd T n (w1 ++ [])
      rw [List.append_nil]; exact t2
    · exact wd_long t2 hor
  intro k
  induction k with
  | zero =>
    intro c x4 S1 ST1 w1 ps hc hwl f1 h1 hk tw1 hW hpl hps
    refine aw_loc at_45_14 rfl rfl ?_
    refine aw_pure (st' := ax_i (24) :: _) at_45_15 rfl rfl ?_
    refine ax_icmp_gt at_45_17 ⟨by omega, by omega⟩ ⟨by omega, by omega⟩ (fun _ => kend c x4 S1 ST1 _ w1 ps f1 h1 tw1 hW (Or.inr (by omega))) (fun z => absurd z (by omega))
  | succ k ih =>
    intro c x4 S1 ST1 w1 ps hc hwl f1 h1 hk tw1 hW hpl hps
    refine aw_loc at_45_14 rfl rfl ?_
    refine aw_pure (st' := ax_i (24) :: _) at_45_15 rfl rfl ?_
    refine ax_icmp_gt at_45_17 ⟨by omega, by omega⟩ ⟨by omega, by omega⟩ (fun z => absurd z (by omega)) (fun _ => ?_)
    refine aw_loc at_45_20 rfl rfl ?_
    refine aw_get at_45_21 rfl fl_3_32 h1.1 rfl ?_
    cases ps with
    | nil =>
      refine ax_if_le at_45_24 ⟨by decide, by decide⟩ (fun _ => kend c x4 S1 ST1 _ w1 [] f1 h1 tw1 hW (Or.inl rfl)) (fun z => absurd z (by decide))
    | cons p ps =>
      rw [List.length_cons] at hpl
      rw [show (((p :: ps : List Nat).length : Nat) : Int) = (ps.length : Int) + 1 by rw [List.length_cons]; omega] at h1 ⊢
      refine ax_if_le at_45_24 ⟨by omega, by omega⟩ (fun z => absurd z (by omega)) (fun _ => ?_)
      obtain ⟨kp, hk⟩ := hk
      have hp1 := hps p (List.mem_cons_self ..)
      refine aw_loc at_45_27 rfl rfl ?_
      refine aw_pure at_45_28 rfl rfl ?_
      refine aw_get at_45_29 rfl fl_3_32 h1.1 rfl ?_
      refine aw_pure (st' := ax_i (1) :: _) at_45_32 rfl rfl ?_
      refine ax_sub at_45_33 rfl ?_
      refine aw_put at_45_34 rfl fl_3_32 h1.1 (Nat.le_of_ble_eq_true rfl) rfl (by decide +kernel) ?_
      refine (show ai_aw L xs (d + 2) ai_m45 _ (37, _, _, ai_wr S1 425 (.inr (10, ovf ((ps.length : Int) + 1 - 1) e))) from ?_)
      rw [show (ps.length : Int) + 1 - 1 = (ps.length : Int) by omega]
      have h2 := ovo_dp (dp2 := (ps.length : Int)) h1
      have f9 : fr 425 432 S1 (ai_wr S1 425 (.inr (10, ovf (ps.length : Int) e))) := fr_ov (by decide) (by decide)
      have f2 := f1.tr (f9.pp (P := rgO a) (fun c g1 g2 => by omega))
      have tw2 := f9.tw tw1 (by omega)
      generalize ai_wr S1 425 (.inr (10, ovf (ps.length : Int) e)) = S2 at h2 f2 tw2 ⊢
      have hs2 := f2.sy hs (by omega) (by omega) (by omega)
      refine aw_loc at_45_37 rfl rfl ?_
      refine aw_loc at_45_38 rfl rfl ?_
      refine aw_get at_45_39 rfl fl_3_29 h2.1 rfl ?_
      refine aw_loc at_45_42 rfl rfl ?_
      refine aw_get at_45_43 rfl fl_3_32 h2.1 rfl ?_
      refine ax_ild at_45_46 rfl h2.2.2.2.2.2.2 (k := ps.length) rfl (by omega) (by decide) ?_
      rw [kp]
      refine aw_cv (a := 425) [ax_i (p : Nat)] [] at_45_47 mt_3_97 (Or.inl rfl) rfl rfl (Nat.le_of_ble_eq_true rfl) ⟨_, h2.1⟩ ((r_cls h2 hp hp1.1 hp1.2.1 hp1.2.2.1).mono ?_)
      rintro v S0 ⟨hS, rfl⟩
      have hS2 := hS.symm
      subst hS2
      have rl : rep par (ndo Y p) < 108 := itr_lt2 hp 108 hp1.2.2.1
      have hset := hp1.2.2.2
      obtain ⟨T, n, t1, t2⟩ := id tw2
      have hl2 := tm_lt t1
      have hW2 : W = w1 ++ (X (rep par (ndo Y p)) ++ ps.flatMap (fun p => X (rep par (ndo Y p)))) := hW
      have knext : ∀ (S9 : ai_S) (ST9 : Nat → Int) (x9 : Option Value) (y : Int) (qs : List Nat), frp (rgO a) S S9 → ovo S9 LT EN ND PA SE ST9 (qs.length : Nat) e → skn ST9 qs → tw S9 a (w1 ++ [y]) → X (rep par (ndo Y p)) ++ ps.flatMap (fun p => X (rep par (ndo Y p))) = y :: qs.flatMap (fun p => X (rep par (ndo Y p))) → qs.length ≤ ps.length + 2 → (∀ q, q ∈ qs → q < 96 ∧ ND q = (ndo Y q : Int) ∧ ndo Y q < 108 ∧ SE (rep par (ndo Y q)) = 1) → ai_aw L xs (d + 2) ai_m45 (fun o => ∃ v S', o = (.inl v, S') ∧ v = none ∧ frp (rgO a) S S' ∧ (∃ ST' dp', ovo S' LT EN ND PA SE ST' dp' e) ∧ tw S' a W) (92, [some (.ref 425), some (ax_i (i : Nat)), some (.ref a), some (ax_i (c : Nat)), x9], [], S9) := by
        intro S9 ST9 x9 y qs g1 g2 g3 g4 g5 g6 g7
        refine ax_inc at_45_92 rfl rfl rfl ?_
        refine aw_goto at_45_95 ?_
        have := ih (c + 1) x9 S9 ST9 (w1 ++ [y]) qs (by omega) (by rw [List.length_append, List.length_singleton]; omega) g1 g2 g3 g4 (by rw [hW2, g5, List.append_assoc]; rfl) (by omega) g7
        rw [Int.natCast_add] at this
        exact this
      refine aw_loc at_45_50 rfl rfl ?_
      refine aw_loc at_45_52 rfl rfl ?_
      refine aw_pure (st' := ax_i (96) :: _) at_45_54 rfl rfl ?_
      refine ax_icmp_lt at_45_56 ⟨by omega, by omega⟩ ⟨by omega, by omega⟩ (fun z => ?_) (fun z => ?_)
      · skip
        obtain ⟨a1, a2, a3, a4, a5⟩ := hX.2 _ (show rep par (ndo Y p) < 96 by omega) hset
        have hvr := hv _ a1
        have elt := hvr.2.2.2.2.1 a2
        refine aw_loc at_45_75 rfl rfl ?_
        refine aw_loc at_45_76 rfl rfl ?_
        refine aw_get at_45_77 rfl fl_3_11 h2.1 rfl ?_
        refine aw_loc at_45_80 rfl rfl ?_
        refine ax_cld at_45_82 rfl h2.2.1 (k := rep par (ndo Y p)) rfl (by omega) (by decide) ?_
        rw [elt]
        have h65 := hvr.2.1
        rw [elt] at h65
        refine aw_cv (a := a) [ax_i (Y (rep par (ndo Y p)))] [] at_45_83 mt_3_121 (Or.inl rfl) rfl rfl (Nat.le_of_ble_eq_true rfl) ⟨_, t1.1⟩ ((r_tappend t1 (wd_le t2) h65).mono ?_)
        rintro v S0 ⟨rfl, rfl⟩
        have h3 := ovo_tm (T := ap_T T n (Y (rep par (ndo Y p)))) (n := ap_N n) h2 (show a + 1 < 425 ∨ 431 < a by omega)
        have f3 := f2.tr ((fr_tm (S := S2) (a := a) (n := ap_N n) (T := ap_T T n (Y (rep par (ndo Y p))))).pp (P := rgO a) (fun c g1 g2 => by omega))
        have tw3 := tw_put (S := S2) hl2 (wd_app t2 h65)
        generalize tm_put S2 a (ap_T T n (Y (rep par (ndo Y p)))) (ap_N n) = S3 at h3 f3 tw3 ⊢
        refine aw_loc at_45_86 rfl rfl ?_
        refine aw_loc at_45_87 rfl rfl ?_
        refine aw_cv (a := 425) [ax_i (rep par (ndo Y p) : Nat)] [] at_45_89 mt_3_125 (Or.inl rfl) rfl rfl (Nat.le_of_ble_eq_true rfl) ⟨_, h3.1⟩ ((r_pushN hA2 (f3.sy hs (by omega) (by omega) (by omega)) hv ht h3 hk (by omega) a1).mono ?_)
        rintro v S4 ⟨rfl, f4, ST4, h4, k4⟩
        have hA9 := hA2 (Y (rep par (ndo Y p)))
        refine knext S4 ST4 _ (Y (rep par (ndo Y p))) _ (f3.tr (f4.pp (P := rgO a) (fun c g1 g2 => by omega))) h4 k4 (f4.tw tw3 (by omega)) ?_ (by rw [List.length_append, List.length_map, List.length_range]; omega) (fun q hq => ?_)
        · rw [a5, List.flatMap_append, List.flatMap_map, List.cons_append]
        · rcases List.mem_append.1 hq with hq | hq
          · obtain ⟨k9, hk9, rfl⟩ := List.mem_map.1 hq
            rw [List.mem_range] at hk9
            have hc9 := ht.1 _ a1 k9 hk9
            exact ⟨(hv _ hc9).1, (hv _ hc9).2.2.2.2.2.1, ndo_lt (ovs_dok hv) hc9, a4 k9 hk9⟩
          · exact hps q (List.mem_cons_of_mem _ hq)
      · skip
        have hx := (hX.1 _ (show 96 ≤ rep par (ndo Y p) by omega) rl).2
        refine aw_loc at_45_59 rfl rfl ?_
        refine aw_pure (st' := ax_i (117) :: _) at_45_60 rfl rfl ?_
        refine aw_loc at_45_62 rfl rfl ?_
        refine ax_add at_45_64 rfl ?_
        refine aw_pure (st' := ax_i (96) :: _) at_45_65 rfl rfl ?_
        refine ax_sub at_45_67 rfl ?_
        refine ax_chrI at_45_68 rfl (by omega) ?_
        rw [show (117 : Int) + (rep par (ndo Y p) : Nat) - 96 = (rep par (ndo Y p) : Nat) + 21 by omega]
        refine aw_cv (a := a) [ax_i ((rep par (ndo Y p) : Nat) + 21)] [] at_45_69 mt_3_121 (Or.inl rfl) rfl rfl (Nat.le_of_ble_eq_true rfl) ⟨_, t1.1⟩ ((r_tappend t1 (wd_le t2) (by omega)).mono ?_)
        rintro v S0 ⟨rfl, rfl⟩
        refine aw_goto at_45_72 ?_
        refine knext _ ST1 _ ((rep par (ndo Y p) : Nat) + 21) ps (f2.tr (fr_tm.pp (P := rgO a) (fun c g1 g2 => by omega))) (ovo_tm h2 (by omega)) hk (tw_put hl2 (wd_app t2 (by omega))) (by rw [hx]; rfl) (by omega) (fun q hq => hps q (List.mem_cons_of_mem _ hq))
set_option maxHeartbeats 4000000 in
theorem r_putV {A : Int → Nat} {D : Nat → Prop} {Y : Nat → Int} {en : Nat → Nat} {Tm : Nat → List Int} {par : Nat → Nat} {X : Nat → List Int} {a i : Nat} {w : List Int} (hA2 : ∀ c, A c ≤ 2) (hs : sy S P R nn) (hv : ovs A P LT EN ND D Y en) (ht : tps A D Y (chp en) Tm) (hp : pav PA par) (hX : sti A D Y (chp en) par (fun n => SE n = 1) X) (ha : (5 < a ∧ a + 1 < 425) ∨ 431 < a) (h : ovo S LT EN ND PA SE ST dp e) (htw : tw S a w) (hi : i < 96 ∧ ND i = (ndo Y i : Int) ∧ ndo Y i < 108 ∧ SE (rep par (ndo Y i)) = 1) : ai_rn L xs (d + 3) 45 [.ref 425, ax_i (i : Nat), .ref a] S (fun v S' => v = none ∧ frp (rgO a) S S' ∧ (∃ ST' dp', ovo S' LT EN ND PA SE ST' dp' e) ∧ tw S' a (w ++ X (rep par (ndo Y i)))) := by
  refine ai_rn_of (M := ai_m45) rfl (by decide) (Nat.le_of_ble_eq_true rfl) ?_
  refine aw_loc at_45_0 rfl rfl ?_
  refine aw_get at_45_1 rfl fl_3_29 h.1 rfl ?_
  refine aw_pure (st' := ax_i (0) :: _) at_45_4 rfl rfl ?_
  refine aw_loc at_45_5 rfl rfl ?_
  refine ax_ist (k := 0) at_45_6 rfl h.2.2.2.2.2.2 rfl (by decide) (by decide) ?_
  have h1 := ovo_st (F := ax_up ST 0 i) h
  refine aw_loc at_45_7 rfl rfl ?_
  refine aw_pure (st' := ax_i (1) :: _) at_45_8 rfl rfl ?_
  refine aw_put at_45_9 rfl fl_3_32 h1.1 (Nat.le_of_ble_eq_true rfl) rfl (by decide +kernel) ?_
  have h2 := ovo_dp (dp2 := 1) h1
  have f2 := (fr_ov (S := S) (a := 431) (x := .inl (0, ai_I 216 (ax_f (ax_up ST 0 i)))) (by decide) (by decide)).tr (fr_ov (a := 425) (x := .inr (10, ovf 1 e)) (by decide) (by decide))
  refine aw_pure (st' := ax_i (0) :: _) at_45_12 rfl rfl ?_
  refine aw_loc at_45_13 rfl rfl ?_
  exact r_putV1 hA2 hs hv ht hp hX ha 25 0 _ _ (ax_up ST 0 i) w [i] (by omega) (by omega) (f2.pp (P := rgO a) (fun c g1 g2 => by omega)) h2 ⟨rfl, True.intro⟩ (f2.tw htw (by omega)) (by show _ = w ++ (X (rep par (ndo Y i)) ++ []); rw [List.append_nil]) (by rw [List.length_singleton]; omega) (fun q hq => by rw [List.mem_singleton.1 hq]; exact hi)
set_option maxHeartbeats 8000000 in
theorem r_puts1 {A : Int → Nat} {D : Nat → Prop} {Y : Nat → Int} {en : Nat → Nat} {Tm : Nat → List Int} {par : Nat → Nat} {X : Nat → List Int} {a f0 t0 : Nat} {w : List Int} (hA2 : ∀ c, A c ≤ 2) (hs : sy S P R nn) (hv : ovs A P LT EN ND D Y en) (ht : tps A D Y (chp en) Tm) (hp : pav PA par) (hX : sti A D Y (chp en) par (fun n => SE n = 1) X) (ha : (5 < a ∧ a + 1 < 425) ∨ 431 < a) (hlay : ∀ i, f0 ≤ i → i < t0 → i < 96 ∧ (0 ≤ LT i ∧ LT i < 65536) ∧ (LT i < 117 ↔ Y i < 117) ∧ (Y i < 117 → LT i = Y i) ∧ ND i = (ndo Y i : Int) ∧ Y i < 129) (hall : ∀ n, 96 ≤ n → n < 108 → SE (rep par n) = 1) (ht0 : t0 ≤ 96) (hf0 : f0 ≤ t0) : ∀ (k j : Nat) (S1 : ai_S) (ST1 : Nat → Int) (dp1 : Int), j + k = t0 - f0 → frp (rgO a) S S1 → ovo S1 LT EN ND PA SE ST1 dp1 e → tw S1 a (w ++ (sl Y f0 j).flatMap (fun c => if 117 ≤ c then X (rep par (c - 21).toNat) else [c])) → ai_aw L xs (d + 3) ai_m44 (fun o => ∃ v S', o = (.inl v, S') ∧ v = none ∧ frp (rgO a) S S' ∧ (∃ ST' dp', ovo S' LT EN ND PA SE ST' dp' e) ∧ tw S' a (w ++ (sl Y f0 (t0 - f0)).flatMap (fun c => if 117 ≤ c then X (rep par (c - 21).toNat) else [c]))) (3, [some (.ref 425), some (ax_i (f0 : Nat)), some (ax_i (t0 : Nat)), some (.ref a), some (ax_i ((f0 : Int) + (j : Int)))], [], S1) := by
  intro k
  induction k with
  | zero =>
    intro j S1 ST1 dp1 hj f1 h1 tw1
    obtain rfl : j = t0 - f0 := by omega
    rw [show (f0 : Int) + ((t0 - f0 : Nat) : Int) = (t0 : Int) by omega]
    refine aw_loc at_44_3 rfl rfl ?_
    refine aw_loc at_44_5 rfl rfl ?_
    refine ax_icmp_ge at_44_6 ⟨by omega, by omega⟩ ⟨by omega, by omega⟩ (fun _ => ?_) (fun z => absurd z (by omega))
    exact aw_vret at_44_49 rfl ⟨_, _, rfl, rfl, f1, ⟨_, _, h1⟩, tw1⟩
  | succ k ih =>
    intro j S1 ST1 dp1 hj f1 h1 tw1
    have hl := hlay (f0 + j) (by omega) (by omega)
    have h65 := hl.2.1
    rw [show (f0 : Int) + (j : Int) = ((f0 + j : Nat) : Int) by omega]
    have knext : ∀ (S9 : ai_S) (ST9 : Nat → Int) (dp9 : Int) (V : List Int), frp (rgO a) S S9 → ovo S9 LT EN ND PA SE ST9 dp9 e → tw S9 a (w ++ (sl Y f0 j).flatMap (fun c => if 117 ≤ c then X (rep par (c - 21).toNat) else [c]) ++ V) → V = (fun c => if 117 ≤ c then X (rep par (c - 21).toNat) else [c]) (Y (f0 + j)) → ai_aw L xs (d + 3) ai_m44 (fun o => ∃ v S', o = (.inl v, S') ∧ v = none ∧ frp (rgO a) S S' ∧ (∃ ST' dp', ovo S' LT EN ND PA SE ST' dp' e) ∧ tw S' a (w ++ (sl Y f0 (t0 - f0)).flatMap (fun c => if 117 ≤ c then X (rep par (c - 21).toNat) else [c]))) (43, [some (.ref 425), some (ax_i (f0 : Nat)), some (ax_i (t0 : Nat)), some (.ref a), some (ax_i ((f0 + j : Nat) : Int))], [], S9) := by
      intro S9 ST9 dp9 V g1 g2 g3 g4
      refine ax_inc at_44_43 rfl rfl rfl ?_
      refine aw_goto at_44_46 ?_
      have := ih (j + 1) S9 ST9 dp9 (by omega) g1 g2 (by rw [sl_succ, List.flatMap_append, ← List.append_assoc]; show tw S9 a (_ ++ ((fun c => if 117 ≤ c then X (rep par (c - 21).toNat) else [c]) (Y (f0 + j)) ++ [])); rw [List.append_nil, ← g4]; exact g3)
      rw [show (f0 : Int) + ((j + 1 : Nat) : Int) = ((f0 + j : Nat) : Int) + 1 by omega] at this
      exact this
    refine aw_loc at_44_3 rfl rfl ?_
    refine aw_loc at_44_5 rfl rfl ?_
    refine ax_icmp_ge at_44_6 ⟨by omega, by omega⟩ ⟨by omega, by omega⟩ (fun z => absurd z (by omega)) (fun _ => ?_)
    refine aw_loc at_44_9 rfl rfl ?_
    refine aw_get at_44_10 rfl fl_3_11 h1.1 rfl ?_
    refine aw_loc at_44_13 rfl rfl ?_
    refine ax_cld at_44_15 rfl h1.2.1 (k := f0 + j) rfl (by omega) (by decide) ?_
    refine aw_cs [ax_i (LT (f0 + j))] [] at_44_16 rfl mt_3_71 (Or.inr (Or.inl rfl)) rfl rfl (Nat.le_of_ble_eq_true rfl) ((r_isVar h65).mono ?_)
    rintro v S0 ⟨hS, q1, rfl, hq1⟩
    have hS2 := hS.symm
    subst hS2
    have hq19 := hq1.le
    unfold bz at hq1
    refine ax_if_eq at_44_19 ⟨by omega, by omega⟩ (fun z => ?_) (fun z => ?_)
    · skip
      have hy : Y (f0 + j) < 117 := hl.2.2.1.1 (by omega)
      obtain ⟨T, n, t1, t2⟩ := id tw1
      have hl2 := tm_lt t1
      have el := hl.2.2.2.1 hy
      refine aw_loc at_44_32 rfl rfl ?_
      refine aw_loc at_44_33 rfl rfl ?_
      refine aw_get at_44_34 rfl fl_3_11 h1.1 rfl ?_
      refine aw_loc at_44_37 rfl rfl ?_
      refine ax_cld at_44_39 rfl h1.2.1 (k := f0 + j) rfl (by omega) (by decide) ?_
      refine aw_cv (a := a) [ax_i (LT (f0 + j))] [] at_44_40 mt_3_121 (Or.inl rfl) rfl rfl (Nat.le_of_ble_eq_true rfl) ⟨_, t1.1⟩ ((r_tappend t1 (wd_le t2) h65).mono ?_)
      rintro v S0 ⟨rfl, rfl⟩
      exact knext _ ST1 dp1 [LT (f0 + j)] (f1.tr (fr_tm.pp (P := rgO a) (fun c g1 g2 => by omega))) (ovo_tm h1 (by omega)) (tw_put hl2 (wd_app t2 h65)) (by show _ = if 117 ≤ Y (f0 + j) then _ else [Y (f0 + j)]; rw [if_neg (by omega), el])
    · skip
      have hy : 117 ≤ Y (f0 + j) := by have := hl.2.2.1; omega
      have en9 : ndo Y (f0 + j) = (Y (f0 + j) - 21).toNat := if_neg (by omega)
      refine aw_loc at_44_22 rfl rfl ?_
      refine aw_loc at_44_23 rfl rfl ?_
      refine aw_loc at_44_25 rfl rfl ?_
      refine aw_cv (a := 425) [ax_i ((f0 + j : Nat) : Int), .ref a] [] at_44_26 mt_3_117 (Or.inl rfl) rfl rfl (Nat.le_of_ble_eq_true rfl) ⟨_, h1.1⟩ ((r_putV hA2 (f1.sy hs (by omega) (by omega) (by omega)) hv ht hp hX ha h1 tw1 ⟨hl.1, hl.2.2.2.2.1, by have := hl.2.2.2.2.2; omega, by rw [en9]; exact hall _ (by have := hl.2.2.2.2.2; omega) (by have := hl.2.2.2.2.2; omega)⟩).mono ?_)
      rintro v S2 ⟨rfl, f2, ⟨ST2, dp2, h2⟩, tw2⟩
      refine aw_goto at_44_29 ?_
      exact knext S2 ST2 dp2 _ (f1.tr f2) h2 tw2 (by show _ = if 117 ≤ Y (f0 + j) then _ else _; rw [if_pos hy, en9])
set_option maxHeartbeats 4000000 in
theorem r_puts {A : Int → Nat} {D : Nat → Prop} {Y : Nat → Int} {en : Nat → Nat} {Tm : Nat → List Int} {par : Nat → Nat} {X : Nat → List Int} {a f0 t0 : Nat} {w : List Int} (hA2 : ∀ c, A c ≤ 2) (hs : sy S P R nn) (hv : ovs A P LT EN ND D Y en) (ht : tps A D Y (chp en) Tm) (hp : pav PA par) (hX : sti A D Y (chp en) par (fun n => SE n = 1) X) (ha : (5 < a ∧ a + 1 < 425) ∨ 431 < a) (hlay : ∀ i, f0 ≤ i → i < t0 → i < 96 ∧ (0 ≤ LT i ∧ LT i < 65536) ∧ (LT i < 117 ↔ Y i < 117) ∧ (Y i < 117 → LT i = Y i) ∧ ND i = (ndo Y i : Int) ∧ Y i < 129) (hall : ∀ n, 96 ≤ n → n < 108 → SE (rep par n) = 1) (ht0 : t0 ≤ 96) (hf0 : f0 ≤ t0) (h : ovo S LT EN ND PA SE ST dp e) (htw : tw S a w) : ai_rn L xs (d + 4) 44 [.ref 425, ax_i (f0 : Nat), ax_i (t0 : Nat), .ref a] S (fun v S' => v = none ∧ frp (rgO a) S S' ∧ (∃ ST' dp', ovo S' LT EN ND PA SE ST' dp' e) ∧ tw S' a (w ++ (sl Y f0 (t0 - f0)).flatMap (fun c => if 117 ≤ c then X (rep par (c - 21).toNat) else [c]))) := by
  refine ai_rn_of (M := ai_m44) rfl (by decide) (Nat.le_of_ble_eq_true rfl) ?_
  refine aw_loc at_44_0 rfl rfl ?_
  refine aw_loc at_44_1 rfl rfl ?_
  have := r_puts1 (L := L) (xs := xs) (d := d) hA2 hs hv ht hp hX ha hlay hall ht0 hf0 (t0 - f0) 0 S ST dp (by omega) frp.rf h (by show tw S a (w ++ []); rw [List.append_nil]; exact htw)
  rw [show (f0 : Int) + ((0 : Nat) : Int) = (f0 : Int) by omega] at this
  exact this
end AP

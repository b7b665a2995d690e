/-! Two rules are laid, and a pair is found, as the landed code does it. -/
section FP
variable {L : Nat} {xs : Nat → Int32} {d : Nat} {S S' : ai_S} {P R LT EN ND PA SE ST e : Nat → Int} {nn dp : Int}
theorem fe_off (P T : Nat → Int) (to : Nat) (E : Nat → Int) : ∀ (k : Nat), k ≤ to → ∀ j : Nat, (j < to - k ∨ to ≤ j) → fe P T to E k j = E j
  | 0, _, j, _ => rfl
  | k + 1, hk, j, h => by
    show ax_up (fe P T to E k) (to - 1 - k) _ j = E j
    unfold ax_up
    rw [if_neg (by omega)]
    exact fe_off P T to E k (by omega) j (by omega)
theorem ow_succ2 (X W : Nat → Int) (b j : Nat) {v : Int} (hv : v = W j) : ax_up (ow X b W j) (b + j) v = ow X b W (j + 1) := by
  rw [hv]
  exact ow_succ X b W j
theorem at_33_0 : ai_at ai_m33 0 = some (.aload_n 0, 1) := rfl
theorem at_33_1 : ai_at ai_m33 1 = some (.aload_n 0, 1) := rfl
theorem at_33_2 : ai_at ai_m33 2 = some (.aload_n 1, 1) := rfl
theorem at_33_3 : ai_at ai_m33 3 = some (.getfield 52, 3) := rfl
theorem at_33_6 : ai_at ai_m33 6 = some (.iconst 0, 1) := rfl
theorem at_33_7 : ai_at ai_m33 7 = some (.iconst 0, 1) := rfl
theorem at_33_8 : ai_at ai_m33 8 = some (.invokevirtual 58, 3) := rfl
theorem at_33_11 : ai_at ai_m33 11 = some (.putfield 36, 3) := rfl
theorem at_33_14 : ai_at ai_m33 14 = some (.aload_n 0, 1) := rfl
theorem at_33_15 : ai_at ai_m33 15 = some (.aload_n 0, 1) := rfl
theorem at_33_16 : ai_at ai_m33 16 = some (.aload_n 1, 1) := rfl
theorem at_33_17 : ai_at ai_m33 17 = some (.getfield 62, 3) := rfl
theorem at_33_20 : ai_at ai_m33 20 = some (.bipush 24, 2) := rfl
theorem at_33_22 : ai_at ai_m33 22 = some (.iconst 0, 1) := rfl
theorem at_33_23 : ai_at ai_m33 23 = some (.invokevirtual 58, 3) := rfl
theorem at_33_26 : ai_at ai_m33 26 = some (.putfield 39, 3) := rfl
theorem at_33_29 : ai_at ai_m33 29 = some (.aload_n 0, 1) := rfl
theorem at_33_30 : ai_at ai_m33 30 = some (.aload_n 0, 1) := rfl
theorem at_33_31 : ai_at ai_m33 31 = some (.aload_n 2, 1) := rfl
theorem at_33_32 : ai_at ai_m33 32 = some (.getfield 52, 3) := rfl
theorem at_33_35 : ai_at ai_m33 35 = some (.bipush 48, 2) := rfl
theorem at_33_37 : ai_at ai_m33 37 = some (.bipush 6, 2) := rfl
theorem at_33_39 : ai_at ai_m33 39 = some (.invokevirtual 58, 3) := rfl
theorem at_33_42 : ai_at ai_m33 42 = some (.putfield 42, 3) := rfl
theorem at_33_45 : ai_at ai_m33 45 = some (.aload_n 0, 1) := rfl
theorem at_33_46 : ai_at ai_m33 46 = some (.aload_n 0, 1) := rfl
theorem at_33_47 : ai_at ai_m33 47 = some (.aload_n 2, 1) := rfl
theorem at_33_48 : ai_at ai_m33 48 = some (.getfield 62, 3) := rfl
theorem at_33_51 : ai_at ai_m33 51 = some (.bipush 72, 2) := rfl
theorem at_33_53 : ai_at ai_m33 53 = some (.bipush 6, 2) := rfl
theorem at_33_55 : ai_at ai_m33 55 = some (.invokevirtual 58, 3) := rfl
theorem at_33_58 : ai_at ai_m33 58 = some (.putfield 45, 3) := rfl
theorem at_33_61 : ai_at ai_m33 61 = some (.return_, 1) := rfl
theorem at_34_0 : ai_at ai_m34 0 = some (.iload_n 2, 1) := rfl
theorem at_34_1 : ai_at ai_m34 1 = some (.aload_n 1, 1) := rfl
theorem at_34_2 : ai_at ai_m34 2 = some (.getfield 65, 3) := rfl
theorem at_34_5 : ai_at ai_m34 5 = some (.iadd, 1) := rfl
theorem at_34_6 : ai_at ai_m34 6 = some (.istore 4, 2) := rfl
theorem at_34_8 : ai_at ai_m34 8 = some (.iload_n 2, 1) := rfl
theorem at_34_9 : ai_at ai_m34 9 = some (.istore 5, 2) := rfl
theorem at_34_11 : ai_at ai_m34 11 = some (.iload 5, 2) := rfl
theorem at_34_13 : ai_at ai_m34 13 = some (.iload 4, 2) := rfl
theorem at_34_15 : ai_at ai_m34 15 = some (.if_icmp .ge 59, 3) := rfl
theorem at_34_18 : ai_at ai_m34 18 = some (.aload_n 1, 1) := rfl
theorem at_34_19 : ai_at ai_m34 19 = some (.getfield 70, 3) := rfl
theorem at_34_22 : ai_at ai_m34 22 = some (.iload 5, 2) := rfl
theorem at_34_24 : ai_at ai_m34 24 = some (.iload_n 2, 1) := rfl
theorem at_34_25 : ai_at ai_m34 25 = some (.isub, 1) := rfl
theorem at_34_26 : ai_at ai_m34 26 = some (.caload, 1) := rfl
theorem at_34_27 : ai_at ai_m34 27 = some (.istore 6, 2) := rfl
theorem at_34_29 : ai_at ai_m34 29 = some (.aload_n 0, 1) := rfl
theorem at_34_30 : ai_at ai_m34 30 = some (.getfield 11, 3) := rfl
theorem at_34_33 : ai_at ai_m34 33 = some (.iload 5, 2) := rfl
theorem at_34_35 : ai_at ai_m34 35 = some (.iload 6, 2) := rfl
theorem at_34_37 : ai_at ai_m34 37 = some (.castore, 1) := rfl
theorem at_34_38 : ai_at ai_m34 38 = some (.aload_n 0, 1) := rfl
theorem at_34_39 : ai_at ai_m34 39 = some (.getfield 19, 3) := rfl
theorem at_34_42 : ai_at ai_m34 42 = some (.iload 5, 2) := rfl
theorem at_34_44 : ai_at ai_m34 44 = some (.iload 6, 2) := rfl
theorem at_34_46 : ai_at ai_m34 46 = some (.invokestatic 71, 3) := rfl
theorem at_34_49 : ai_at ai_m34 49 = some (.ifCond .eq 16, 3) := rfl
theorem at_34_52 : ai_at ai_m34 52 = some (.bipush 96, 2) := rfl
theorem at_34_54 : ai_at ai_m34 54 = some (.iload_n 3, 1) := rfl
theorem at_34_55 : ai_at ai_m34 55 = some (.iadd, 1) := rfl
theorem at_34_56 : ai_at ai_m34 56 = some (.iload 6, 2) := rfl
theorem at_34_58 : ai_at ai_m34 58 = some (.iadd, 1) := rfl
theorem at_34_59 : ai_at ai_m34 59 = some (.bipush 117, 2) := rfl
theorem at_34_61 : ai_at ai_m34 61 = some (.isub, 1) := rfl
theorem at_34_62 : ai_at ai_m34 62 = some (.goto 5, 3) := rfl
theorem at_34_65 : ai_at ai_m34 65 = some (.iload 5, 2) := rfl
theorem at_34_67 : ai_at ai_m34 67 = some (.iastore, 1) := rfl
theorem at_34_68 : ai_at ai_m34 68 = some (.iinc 5 1, 3) := rfl
theorem at_34_71 : ai_at ai_m34 71 = some (.goto (-60), 3) := rfl
theorem at_34_74 : ai_at ai_m34 74 = some (.aload_n 0, 1) := rfl
theorem at_34_75 : ai_at ai_m34 75 = some (.getfield 48, 3) := rfl
theorem at_34_78 : ai_at ai_m34 78 = some (.aload_n 0, 1) := rfl
theorem at_34_79 : ai_at ai_m34 79 = some (.getfield 11, 3) := rfl
theorem at_34_82 : ai_at ai_m34 82 = some (.iload_n 2, 1) := rfl
theorem at_34_83 : ai_at ai_m34 83 = some (.iload 4, 2) := rfl
theorem at_34_85 : ai_at ai_m34 85 = some (.aload_n 0, 1) := rfl
theorem at_34_86 : ai_at ai_m34 86 = some (.getfield 15, 3) := rfl
theorem at_34_89 : ai_at ai_m34 89 = some (.invokevirtual 75, 3) := rfl
theorem at_34_92 : ai_at ai_m34 92 = some (.iload 4, 2) := rfl
theorem at_34_94 : ai_at ai_m34 94 = some (.ireturn, 1) := rfl
theorem fl_3_39 : ai_fld 3 39 = some (10, 9, false) := by decide +kernel
theorem fl_3_42 : ai_fld 3 42 = some (10, 10, false) := by decide +kernel
theorem fl_3_45 : ai_fld 3 45 = some (10, 11, false) := by decide +kernel
theorem fl_3_52 : ai_fld 3 52 = some (3, 0, true) := by decide +kernel
theorem fl_3_62 : ai_fld 3 62 = some (3, 1, true) := by decide +kernel
theorem fl_3_65 : ai_fld 3 65 = some (4, 1, true) := by decide +kernel
theorem fl_3_70 : ai_fld 3 70 = some (4, 0, true) := by decide +kernel
theorem mt_3_58 : ai_mth 3 58 = some (0, 34, 3, 10) := by decide +kernel
theorem mt_3_75 : ai_mth 3 75 = some (0, 83, 4, 1) := by decide +kernel
set_option maxHeartbeats 4000000 in
theorem r_lay1 {a n b sh : Nat} {T : Nat → Int} {w : List Int} {Q : ai_O → Prop} (ha : tm S a T n) (hT : wd T n w) (hwl : w.length ≤ 24) (hb : b + 24 ≤ 96) (hsh : sh ≤ 6) (hw : al (fun c => 97 ≤ c ∧ c < 123) w) (hsa : a + 1 < 425 ∨ 431 < a) : ∀ (k j : Nat) (S1 : ai_S) (x6 : Option Value), j + k = w.length → fr 425 432 S S1 → ovo S1 (ow LT b (fun i => w.getD i 0) j) EN (ow ND b (fun i => if w.getD i 0 < 117 then ((b + i : Nat) : Int) else 96 + (sh : Int) + w.getD i 0 - 117) j) PA SE ST dp e → (∀ (S2 : ai_S) (x6 : Option Value), fr 425 432 S S2 → ovo S2 (ow LT b (fun i => w.getD i 0) w.length) EN (ow ND b (fun i => if w.getD i 0 < 117 then ((b + i : Nat) : Int) else 96 + (sh : Int) + w.getD i 0 - 117) w.length) PA SE ST dp e → ai_aw L xs (d + 2) ai_m34 Q (74, [some (.ref 425), some (.ref a), some (ax_i (b : Nat)), some (ax_i (sh : Nat)), some (ax_i ((b : Int) + (w.length : Nat))), some (ax_i ((b + w.length : Nat) : Int)), x6], [], S2)) → ai_aw L xs (d + 2) ai_m34 Q (11, [some (.ref 425), some (.ref a), some (ax_i (b : Nat)), some (ax_i (sh : Nat)), some (ax_i ((b : Int) + (w.length : Nat))), some (ax_i ((b + j : Nat) : Int)), x6], [], S1) := by
  have en : n = w.length := by rw [hT.1]; omega
  subst en
  intro k
  induction k with
  | zero =>
    intro j S1 x6 hj f1 h1 hc
    obtain rfl : j = w.length := by omega
    refine aw_loc at_34_11 rfl rfl ?_
    refine aw_loc at_34_13 rfl rfl ?_
    refine ax_icmp_ge at_34_15 ⟨by omega, by omega⟩ ⟨by omega, by omega⟩ (fun _ => hc S1 x6 f1 h1) (fun z => absurd z (by omega))
  | succ k ih =>
    intro j S1 x6 hj f1 h1 hc
    have ha1 := f1.tm ha (by omega)
    have hTj : T j = w.getD j 0 := hT.2.1 j (by omega) (by omega)
    have h65 := hT.2.2 j
    rw [hTj] at h65
    have h123 := hw (w.getD j 0) (by rw [getD_eq (show j < w.length by omega)]; exact List.getElem_mem _)
    refine aw_loc at_34_11 rfl rfl ?_
    refine aw_loc at_34_13 rfl rfl ?_
    refine ax_icmp_ge at_34_15 ⟨by omega, by omega⟩ ⟨by omega, by omega⟩ (fun z => absurd z (by omega)) (fun _ => ?_)
    refine aw_loc at_34_18 rfl rfl ?_
    refine aw_get at_34_19 rfl fl_3_70 ha1.1 rfl ?_
    refine aw_loc at_34_22 rfl rfl ?_
    refine aw_loc at_34_24 rfl rfl ?_
    refine ax_sub at_34_25 rfl ?_
    refine ax_cld at_34_26 rfl ha1.2 (k := j) (by omega) (by omega) (by decide) ?_
    rw [hTj]
    refine aw_loc at_34_27 rfl rfl ?_
    refine aw_loc at_34_29 rfl rfl ?_
    refine aw_get at_34_30 rfl fl_3_11 h1.1 rfl ?_
    refine aw_loc at_34_33 rfl rfl ?_
    refine aw_loc at_34_35 rfl rfl ?_
    refine ax_cst (k := b + j) at_34_37 rfl h1.2.1 rfl (by omega) (by decide) h65 ?_
    rw [ow_succ2 LT (fun i => w.getD i 0) b j rfl]
    have h2 := ovo_lt (F := ow LT b (fun i => w.getD i 0) (j + 1)) h1
    have f2 := f1.tr (fr_ov (S := S1) (a := 426) (x := .inl (1, ai_I 96 (ax_f (ow LT b (fun i => w.getD i 0) (j + 1))))) (by decide) (by decide))
    generalize ai_wr S1 426 (.inl (1, ai_I 96 (ax_f (ow LT b (fun i => w.getD i 0) (j + 1))))) = S2 at h2 f2 ⊢
    refine aw_loc at_34_38 rfl rfl ?_
    refine aw_get at_34_39 rfl fl_3_19 h2.1 rfl ?_
    refine aw_loc at_34_42 rfl rfl ?_
    refine aw_loc at_34_44 rfl rfl ?_
    have kst : ∀ v : Int, v = (fun i => if w.getD i 0 < 117 then ((b + i : Nat) : Int) else 96 + (sh : Int) + w.getD i 0 - 117) j → ai_aw L xs (d + 2) ai_m34 Q (67, [some (.ref 425), some (.ref a), some (ax_i (b : Nat)), some (ax_i (sh : Nat)), some (ax_i ((b : Int) + (w.length : Nat))), some (ax_i ((b + j : Nat) : Int)), some (ax_i (w.getD j 0))], [ax_i v, ax_i ((b + j : Nat) : Int), .ref 428], S2) := by
      intro v hv
      refine ax_ist (k := b + j) at_34_67 rfl h2.2.2.2.1 rfl (by omega) (by decide) ?_
      rw [hv, ow_succ2 ND (fun i => if w.getD i 0 < 117 then ((b + i : Nat) : Int) else 96 + (sh : Int) + w.getD i 0 - 117) b j rfl]
      refine ax_inc at_34_68 rfl rfl rfl ?_
      refine aw_goto at_34_71 ?_
      have := ih (j + 1) _ (some (ax_i (w.getD j 0))) (by omega) (f2.tr (fr_ov (by decide) (by decide))) (ovo_nd h2) hc
      rw [show ((b + (j + 1) : Nat) : Int) = ((b + j : Nat) : Int) + 1 by omega] at this
      exact this
    refine aw_cs [ax_i (w.getD j 0)] [ax_i ((b + j : Nat) : Int), .ref 428] at_34_46 rfl mt_3_71 (Or.inr (Or.inl rfl)) rfl rfl (Nat.le_of_ble_eq_true rfl) ((r_isVar h65).mono ?_)
    rintro v S0 ⟨hS, q1, rfl, hq1⟩
    have hS2 := hS.symm
    subst hS2
    have hq19 := hq1.le
    unfold bz at hq1
    refine ax_if_eq at_34_49 ⟨by omega, by omega⟩ (fun z => ?_) (fun z => ?_)
    · skip
      refine aw_loc at_34_65 rfl rfl ?_
      exact kst _ (by show _ = if w.getD j 0 < 117 then _ else _; rw [if_pos (by omega)])
    · skip
      refine aw_pure (st' := ax_i (96) :: _) at_34_52 rfl rfl ?_
      refine aw_loc at_34_54 rfl rfl ?_
      refine ax_add at_34_55 rfl ?_
      refine aw_loc at_34_56 rfl rfl ?_
      refine ax_add at_34_58 rfl ?_
      refine aw_pure (st' := ax_i (117) :: _) at_34_59 rfl rfl ?_
      refine ax_sub at_34_61 rfl ?_
      refine aw_goto at_34_62 ?_
      exact kst _ (by show _ = if w.getD j 0 < 117 then _ else _; rw [if_neg (by omega)])
set_option maxHeartbeats 4000000 in
theorem r_lay {a b sh : Nat} {w : List Int} (hs : sy S P R nn) (hP : ∀ i, 0 ≤ P i ∧ P i ≤ 2) (h : ovo S LT EN ND PA SE ST dp e) (hLT : ∀ i, 0 ≤ LT i ∧ LT i < 65536) (ha : tw S a w) (hwl : w.length ≤ 24) (hb : b + 24 ≤ 96) (hsh : sh ≤ 6) (hw : al (fun c => 97 ≤ c ∧ c < 123) w) (hsa : a + 1 < 425 ∨ 431 < a) : ai_rn L xs (d + 3) 34 [.ref 425, .ref a, ax_i (b : Nat), ax_i (sh : Nat)] S (fun v S' => v = some (ax_i ((b + w.length : Nat) : Int)) ∧ fr 425 432 S S' ∧ ∃ LT' EN' ND', ovo S' LT' EN' ND' PA SE ST dp e ∧ (∀ i, 0 ≤ LT' i ∧ LT' i < 65536) ∧ rgn (Ar P) LT' EN' ND' b sh w ∧ ∀ i, (i < b ∨ b + w.length ≤ i) → LT' i = LT i ∧ ND' i = ND i ∧ EN' i = EN i) := by
  obtain ⟨T, n, ha, hT⟩ := ha
  have en : n = w.length := by rw [hT.1]; omega
  subst en
  refine ai_rn_of (M := ai_m34) rfl (by decide) (Nat.le_of_ble_eq_true rfl) ?_
  refine aw_loc at_34_0 rfl rfl ?_
  refine aw_loc at_34_1 rfl rfl ?_
  refine aw_get at_34_2 rfl fl_3_65 ha.1 rfl ?_
  refine ax_add at_34_5 rfl ?_
  refine aw_loc at_34_6 rfl rfl ?_
  refine aw_loc at_34_8 rfl rfl ?_
  refine aw_loc at_34_9 rfl rfl ?_
  refine r_lay1 (w := w) ha hT hwl hb hsh hw hsa w.length 0 S none (by omega) fr.rf (by rw [ow_zero, ow_zero]; exact h) (fun S2 y6 f2 h2 => ?_)
  have hs2 := f2.sy hs (by decide)
  have hLT2 : ∀ i, 0 ≤ ow LT b (fun i => w.getD i 0) w.length i ∧ ow LT b (fun i => w.getD i 0) w.length i < 65536 := by
    intro i
    unfold ow
    split
    · rename_i g; have := hw (w.getD (i - b) 0) (by rw [getD_eq (show i - b < w.length by omega)]; exact List.getElem_mem _); show 0 ≤ w.getD (i - b) 0 ∧ w.getD (i - b) 0 < 65536; omega
    · exact hLT i
  rw [← Int.natCast_add]
  refine aw_loc at_34_74 rfl rfl ?_
  refine aw_get at_34_75 rfl fl_3_48 h2.1 rfl ?_
  refine aw_loc at_34_78 rfl rfl ?_
  refine aw_get at_34_79 rfl fl_3_11 h2.1 rfl ?_
  refine aw_loc at_34_82 rfl rfl ?_
  refine aw_loc at_34_83 rfl rfl ?_
  refine aw_loc at_34_85 rfl rfl ?_
  refine aw_get at_34_86 rfl fl_3_15 h2.1 rfl ?_
  refine aw_cv (a := 1) [.ref 426, ax_i (b : Nat), ax_i ((b + w.length : Nat) : Int), .ref 427] [] at_34_89 mt_3_75 (Or.inl rfl) rfl rfl (Nat.le_of_ble_eq_true rfl) ⟨_, hs2.1⟩ ((r_ends hs2 hP h2.2.1 hLT2 h2.2.2.1 (by decide) (by decide) (by omega) (by omega) (by decide) (by decide) (by omega)).mono ?_)
  rintro v S0 ⟨rfl, rfl⟩
  refine aw_loc at_34_92 rfl rfl ?_
  refine ax_ret at_34_94 rfl ⟨_, _, rfl, rfl, f2.tr (fr_ov (by decide) (by decide)), _, _, _, ovo_en h2, hLT2, fun i hi => ⟨?_, ?_, ?_⟩, fun i hi => ⟨?_, ?_, ?_⟩⟩
  · unfold ow; rw [if_pos (by omega), Nat.add_sub_cancel_left]
  · unfold ow; rw [if_pos (by omega), Nat.add_sub_cancel_left]
  · rw [fe_tl _ _ _ _ _ (by omega) (b + i) (by omega) (by omega)]
    rw [show b + w.length - (b + i) = w.length - i by omega, show sl (ow LT b (fun i => w.getD i 0) w.length) (b + i) (w.length - i) = w.drop i from ?_]
    have e1 := sl_word (ow LT b (fun i => w.getD i 0) w.length) w b (fun j hj => by unfold ow; rw [if_pos (by omega), Nat.add_sub_cancel_left])
    have e2 := sl_drop (ow LT b (fun i => w.getD i 0) w.length) i b w.length
    rw [e1] at e2
    exact e2.symm
  · unfold ow; rw [if_neg (by omega)]
  · unfold ow; rw [if_neg (by omega)]
  · exact fe_off _ _ _ _ _ (by omega) i (by omega)
set_option maxHeartbeats 8000000 in
theorem r_begin {p q : Nat} {u l : List Int × List Int} (hs : sy S P R nn) (hP : ∀ i, 0 ≤ P i ∧ P i ≤ 2) (h : ovo S LT EN ND PA SE ST dp e) (hLT : ∀ i, 0 ≤ LT i ∧ LT i < 65536) (hp : pw S p u.1 u.2) (hq : pw S q l.1 l.2) (hb : twb (Ar P) u l) (hsp : p + 4 < 425 ∨ 431 < p) (hsq : q + 4 < 425 ∨ 431 < q) : ai_rn L xs (d + 4) 33 [.ref 425, .ref p, .ref q] S (fun v S' => v = none ∧ fr 425 432 S S' ∧ ∃ LT' EN' ND' e', ovo S' LT' EN' ND' PA SE ST dp e' ∧ ovq (Ar P) LT' EN' ND' e' u l) := by
  obtain ⟨T1, n1, T2, n2, hp, w1, w2⟩ := hp
  obtain ⟨T3, n3, T4, n4, hq, w3, w4⟩ := hq
  obtain ⟨-, ⟨l1, l2, l3, l4⟩, k1, k2, k3, k4⟩ := hb
  refine ai_rn_of (M := ai_m33) rfl (by decide) (Nat.le_of_ble_eq_true rfl) ?_
  refine aw_loc at_33_0 rfl rfl ?_
  refine aw_loc at_33_1 rfl rfl ?_
  refine aw_loc at_33_2 rfl rfl ?_
  refine aw_get at_33_3 rfl fl_3_52 hp.1 rfl ?_
  refine aw_pure (st' := ax_i (0) :: _) at_33_6 rfl rfl ?_
  refine aw_pure (st' := ax_i (0) :: _) at_33_7 rfl rfl ?_
  refine aw_cv (a := 425) [.ref (p + 1), ax_i ((0 : Nat) : Int), ax_i ((0 : Nat) : Int)] [.ref 425] at_33_8 mt_3_58 (Or.inl rfl) rfl rfl (Nat.le_of_ble_eq_true rfl) ⟨_, h.1⟩ ((r_lay hs hP h hLT ⟨_, _, hp.2.1, w1⟩ l1 (by decide) (by decide) k1 (by omega)).mono ?_)
  rintro v T1' ⟨rfl, f1, LT1, EN1, ND1, g1, hLT1, r1, o1⟩
  have h1 := ovo_e (e2 := fun x => if x = 0 then ((0 + (u.1).length : Nat) : Int) else e x) g1
  refine aw_put at_33_11 rfl fl_3_36 g1.1 (Nat.le_of_ble_eq_true rfl) rfl (by decide +kernel) ?_
  have F1 : fr 425 432 S (ai_wr T1' 425 (.inr (10, ovf dp (fun x => if x = 0 then ((0 + (u.1).length : Nat) : Int) else e x)))) := (f1).tr (fr_ov (by decide) (by decide))
  refine (show ai_aw L xs (d + 3) ai_m33 _ (14, _, _, ai_wr T1' 425 (.inr (10, ovf dp (fun x => if x = 0 then ((0 + (u.1).length : Nat) : Int) else e x)))) from ?_)
  generalize hT1 : ai_wr T1' 425 (.inr (10, ovf dp (fun x => if x = 0 then ((0 + (u.1).length : Nat) : Int) else e x))) = T1 at h1 F1 ⊢
  generalize he1 : (fun x => if x = 0 then ((0 + (u.1).length : Nat) : Int) else e x) = e1 at h1 ⊢
  have hp1 := F1.pr hp (by omega)
  have hq1 := F1.pr hq (by omega)
  refine aw_loc at_33_14 rfl rfl ?_
  refine aw_loc at_33_15 rfl rfl ?_
  refine aw_loc at_33_16 rfl rfl ?_
  refine aw_get at_33_17 rfl fl_3_62 hp1.1 rfl ?_
  refine aw_pure (st' := ax_i (24) :: _) at_33_20 rfl rfl ?_
  refine aw_pure (st' := ax_i (0) :: _) at_33_22 rfl rfl ?_
  refine aw_cv (a := 425) [.ref (p + 3), ax_i ((24 : Nat) : Int), ax_i ((0 : Nat) : Int)] [.ref 425] at_33_23 mt_3_58 (Or.inl rfl) rfl rfl (Nat.le_of_ble_eq_true rfl) ⟨_, h1.1⟩ ((r_lay (F1.sy hs (by decide)) hP h1 hLT1 (F1.tw ⟨_, _, hp.2.2, w2⟩ (by omega)) l2 (by decide) (by decide) k2 (by omega)).mono ?_)
  rintro v T2' ⟨rfl, f2, LT2, EN2, ND2, g2, hLT2, r2, o2⟩
  have h2 := ovo_e (e2 := fun x => if x = 1 then ((24 + (u.2).length : Nat) : Int) else e1 x) g2
  refine aw_put at_33_26 rfl fl_3_39 g2.1 (Nat.le_of_ble_eq_true rfl) rfl (by decide +kernel) ?_
  have F2 : fr 425 432 S (ai_wr T2' 425 (.inr (10, ovf dp (fun x => if x = 1 then ((24 + (u.2).length : Nat) : Int) else e1 x)))) := (F1.tr f2).tr (fr_ov (by decide) (by decide))
  refine (show ai_aw L xs (d + 3) ai_m33 _ (29, _, _, ai_wr T2' 425 (.inr (10, ovf dp (fun x => if x = 1 then ((24 + (u.2).length : Nat) : Int) else e1 x)))) from ?_)
  generalize hT2 : ai_wr T2' 425 (.inr (10, ovf dp (fun x => if x = 1 then ((24 + (u.2).length : Nat) : Int) else e1 x))) = T2 at h2 F2 ⊢
  generalize he2 : (fun x => if x = 1 then ((24 + (u.2).length : Nat) : Int) else e1 x) = e2 at h2 ⊢
  have r1 := rgn_keep r1 (fun i hi => o2 _ (by omega))
  have hp2 := F2.pr hp (by omega)
  have hq2 := F2.pr hq (by omega)
  refine aw_loc at_33_29 rfl rfl ?_
  refine aw_loc at_33_30 rfl rfl ?_
  refine aw_loc at_33_31 rfl rfl ?_
  refine aw_get at_33_32 rfl fl_3_52 hq2.1 rfl ?_
  refine aw_pure (st' := ax_i (48) :: _) at_33_35 rfl rfl ?_
  refine aw_pure (st' := ax_i (6) :: _) at_33_37 rfl rfl ?_
  refine aw_cv (a := 425) [.ref (q + 1), ax_i ((48 : Nat) : Int), ax_i ((6 : Nat) : Int)] [.ref 425] at_33_39 mt_3_58 (Or.inl rfl) rfl rfl (Nat.le_of_ble_eq_true rfl) ⟨_, h2.1⟩ ((r_lay (F2.sy hs (by decide)) hP h2 hLT2 (F2.tw ⟨_, _, hq.2.1, w3⟩ (by omega)) l3 (by decide) (by decide) k3 (by omega)).mono ?_)
  rintro v T3' ⟨rfl, f3, LT3, EN3, ND3, g3, hLT3, r3, o3⟩
  have h3 := ovo_e (e2 := fun x => if x = 2 then ((48 + (l.1).length : Nat) : Int) else e2 x) g3
  refine aw_put at_33_42 rfl fl_3_42 g3.1 (Nat.le_of_ble_eq_true rfl) rfl (by decide +kernel) ?_
  have F3 : fr 425 432 S (ai_wr T3' 425 (.inr (10, ovf dp (fun x => if x = 2 then ((48 + (l.1).length : Nat) : Int) else e2 x)))) := (F2.tr f3).tr (fr_ov (by decide) (by decide))
  refine (show ai_aw L xs (d + 3) ai_m33 _ (45, _, _, ai_wr T3' 425 (.inr (10, ovf dp (fun x => if x = 2 then ((48 + (l.1).length : Nat) : Int) else e2 x)))) from ?_)
  generalize hT3 : ai_wr T3' 425 (.inr (10, ovf dp (fun x => if x = 2 then ((48 + (l.1).length : Nat) : Int) else e2 x))) = T3 at h3 F3 ⊢
  generalize he3 : (fun x => if x = 2 then ((48 + (l.1).length : Nat) : Int) else e2 x) = e3 at h3 ⊢
  have r1 := rgn_keep r1 (fun i hi => o3 _ (by omega))
  have r2 := rgn_keep r2 (fun i hi => o3 _ (by omega))
  have hp3 := F3.pr hp (by omega)
  have hq3 := F3.pr hq (by omega)
  refine aw_loc at_33_45 rfl rfl ?_
  refine aw_loc at_33_46 rfl rfl ?_
  refine aw_loc at_33_47 rfl rfl ?_
  refine aw_get at_33_48 rfl fl_3_62 hq3.1 rfl ?_
  refine aw_pure (st' := ax_i (72) :: _) at_33_51 rfl rfl ?_
  refine aw_pure (st' := ax_i (6) :: _) at_33_53 rfl rfl ?_
  refine aw_cv (a := 425) [.ref (q + 3), ax_i ((72 : Nat) : Int), ax_i ((6 : Nat) : Int)] [.ref 425] at_33_55 mt_3_58 (Or.inl rfl) rfl rfl (Nat.le_of_ble_eq_true rfl) ⟨_, h3.1⟩ ((r_lay (F3.sy hs (by decide)) hP h3 hLT3 (F3.tw ⟨_, _, hq.2.2, w4⟩ (by omega)) l4 (by decide) (by decide) k4 (by omega)).mono ?_)
  rintro v T4' ⟨rfl, f4, LT4, EN4, ND4, g4, hLT4, r4, o4⟩
  have h4 := ovo_e (e2 := fun x => if x = 3 then ((72 + (l.2).length : Nat) : Int) else e3 x) g4
  refine aw_put at_33_58 rfl fl_3_45 g4.1 (Nat.le_of_ble_eq_true rfl) rfl (by decide +kernel) ?_
  have F4 : fr 425 432 S (ai_wr T4' 425 (.inr (10, ovf dp (fun x => if x = 3 then ((72 + (l.2).length : Nat) : Int) else e3 x)))) := (F3.tr f4).tr (fr_ov (by decide) (by decide))
  refine (show ai_aw L xs (d + 3) ai_m33 _ (61, _, _, ai_wr T4' 425 (.inr (10, ovf dp (fun x => if x = 3 then ((72 + (l.2).length : Nat) : Int) else e3 x)))) from ?_)
  generalize hT4 : ai_wr T4' 425 (.inr (10, ovf dp (fun x => if x = 3 then ((72 + (l.2).length : Nat) : Int) else e3 x))) = T4 at h4 F4 ⊢
  generalize he4 : (fun x => if x = 3 then ((72 + (l.2).length : Nat) : Int) else e3 x) = e4 at h4 ⊢
  have r1 := rgn_keep r1 (fun i hi => o4 _ (by omega))
  have r2 := rgn_keep r2 (fun i hi => o4 _ (by omega))
  have r3 := rgn_keep r3 (fun i hi => o4 _ (by omega))
  refine aw_vret at_33_61 rfl ⟨_, _, rfl, rfl, F4, LT4, EN4, ND4, e4, h4, ⟨r1, r2, r3, r4, ⟨?_, ?_, ?_, ?_⟩, hLT4⟩⟩
  · rw [← he4, ← he3, ← he2, ← he1]; simp only []; rw [if_neg (by decide)]; rw [if_neg (by decide)]; rw [if_neg (by decide)]; rw [if_pos True.intro]; omega
  · rw [← he4, ← he3, ← he2]; simp only []; rw [if_neg (by decide)]; rw [if_neg (by decide)]; rw [if_pos True.intro]; omega
  · rw [← he4, ← he3]; simp only []; rw [if_neg (by decide)]; rw [if_pos True.intro]; omega
  · rw [← he4]; simp only []; rw [if_pos True.intro]; omega
end FP

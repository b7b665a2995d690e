/-! Renaming of the landed code. -/
section RE
variable {L : Nat} {xs : Nat → Int32} {d : Nat} {S : ai_S}
/-- numbers by variable, how many; a letter comes -/
def rs (q : (Nat → Int) × Int) (c : Int) : (Nat → Int) × Int := if c < 117 then q else if q.1 (c - 117).toNat = 0 then (ax_up q.1 (c - 117).toNat (q.2 + 1), q.2 + 1) else q
/-- the letter's new one -/
def rl (q : (Nat → Int) × Int) (c : Int) : Int := if c < 117 then c else 117 + (rs q c).1 (c - 117).toNat - 1
def rq (W : Nat → Int) (q : (Nat → Int) × Int) : Nat → (Nat → Int) × Int
  | 0 => q
  | i + 1 => rs (rq W q i) (W i)
def ra (W : Nat → Int) (q : (Nat → Int) × Int) (i : Nat) : Int := rl (rq W q i) (W i)
/-- the word renamed -/
def rnw (q : (Nat → Int) × Int) (w : List Int) : List Int := sl (ra (fun i => w.getD i 0) q) 0 w.length
def qok (q : (Nat → Int) × Int) (b : Int) : Prop := 0 ≤ q.2 ∧ q.2 ≤ b ∧ ∀ i, i < 12 → 0 ≤ q.1 i ∧ q.1 i ≤ q.2
theorem qok_rs {q : (Nat → Int) × Int} {b c : Int} (h : qok q b) : qok (rs q c) (b + 1) := by
  obtain ⟨h1, h2, h3⟩ := h
  unfold rs
  split
  · exact ⟨h1, by omega, h3⟩
  · split
    · refine ⟨by show 0 ≤ q.2 + 1; omega, by show q.2 + 1 ≤ b + 1; omega, fun i hi => ?_⟩
      show 0 ≤ ax_up q.1 _ (q.2 + 1) i ∧ ax_up q.1 _ (q.2 + 1) i ≤ q.2 + 1
      unfold ax_up
      split
      · omega
      · have := h3 i hi; omega
    · exact ⟨h1, by omega, h3⟩
theorem qok_rq {W : Nat → Int} {q : (Nat → Int) × Int} {b : Int} (h : qok q b) : ∀ i : Nat, qok (rq W q i) (b + i)
  | 0 => by rw [show b + ((0 : Nat) : Int) = b by omega]; exact h
  | i + 1 => by
    have := qok_rs (c := W i) (qok_rq (W := W) h i)
    rw [show b + ((i + 1 : Nat) : Int) = b + (i : Int) + 1 by omega]
    exact this
/-- a variable's number after it has come is at least 1 -/
theorem rs_pos {q : (Nat → Int) × Int} {b c : Int} (h : qok q b) (hc : 117 ≤ c ∧ c < 129) : 1 ≤ (rs q c).1 (c - 117).toNat ∧ (rs q c).1 (c - 117).toNat ≤ b + 1 := by
  obtain ⟨h1, h2, h3⟩ := h
  have h4 := h3 (c - 117).toNat (by omega)
  unfold rs
  rw [if_neg (by omega)]
  split
  · show 1 ≤ ax_up q.1 _ (q.2 + 1) _ ∧ ax_up q.1 _ (q.2 + 1) _ ≤ b + 1
    unfold ax_up
    rw [if_pos rfl]
    omega
  · omega
theorem ra_in {W : Nat → Int} {q : (Nat → Int) × Int} {b : Int} (h : qok q b) (hb : b ≤ 500) {i : Nat} (hi : i ≤ 100) (hW : 0 ≤ W i ∧ W i < 129) : 0 ≤ ra W q i ∧ ra W q i < 65536 := by
  unfold ra rl
  split
  · omega
  · have := rs_pos (c := W i) (qok_rq (W := W) h i) (by omega)
    omega
/-- the renaming: at 398, its numbers at 399 -/
def rv (S : ai_S) (q : (Nat → Int) × Int) : Prop := ai_obj S 398 7 = some [.ref 399, ax_i q.2] ∧ ai_arr S 399 0 = some (12, ax_f q.1)
def rv_put (S : ai_S) (q : (Nat → Int) × Int) : ai_S := ai_wr (ai_wr S 399 (.inl (0, ai_I 12 (ax_f q.1)))) 398 (.inr (7, [.ref 399, ax_i q.2]))
theorem rv_get {q : (Nat → Int) × Int} (h : 399 < S.1) : rv (rv_put S q) q := ⟨ai_obj_wrS (show 398 < S.1 by omega), (ai_arr_wr (by decide)).trans (ai_arr_wrS h)⟩
theorem rv_self {q : (Nat → Int) × Int} (h : rv S q) : rv_put S q = S := by
  unfold rv_put
  rw [ai_wr_id (ai_arr_inv h.2).2, ai_wr_id (ai_obj_inv h.1).2]
theorem rv_two {q q' : (Nat → Int) × Int} : rv_put (rv_put S q) q' = rv_put S q' := by
  unfold rv_put
  rw [ai_wr_comm _ (show 398 ≠ 399 by decide), ai_wr_wr, ai_wr_wr]
theorem rv_tm {q q' : (Nat → Int) × Int} {a n : Nat} {T : Nat → Int} (h1 : a ≠ 398) (h2 : a ≠ 399) (h3 : a + 1 ≠ 398) : rv_put (tm_put (rv_put S q) a T n) q' = tm_put (rv_put S q') a T n := by
  have h4 : a + 1 ≠ 399 := by omega
  have hc : rv_put (tm_put (rv_put S q) a T n) q' = tm_put (rv_put (rv_put S q) q') a T n := by
    generalize rv_put S q = X
    unfold rv_put tm_put
    rw [ai_wr_comm (ai_wr X (a + 1) _) h2, ai_wr_comm (ai_wr (ai_wr X (a + 1) _) 399 _) h1, ai_wr_comm X h4, ai_wr_comm (ai_wr X 399 _) h3]
  rw [hc, rv_two]
theorem rv_off {q : (Nat → Int) × Int} {a n : Nat} {T : Nat → Int} (h : rv S q) (h1 : a ≠ 398) (h2 : a ≠ 399) (h3 : a + 1 ≠ 398) : rv (tm_put S a T n) q :=
  ⟨(tm_obj (Ne.symm h1) (by omega)).trans h.1, (tm_arr (Ne.symm h2) (by omega)).trans h.2⟩
theorem rv_tmo {q : (Nat → Int) × Int} {a n : Nat} {T : Nat → Int} (h : tm S a T n) (h1 : a ≠ 398) (h2 : a ≠ 399) (h3 : a + 1 ≠ 398) : tm (rv_put S q) a T n :=
  ⟨(ai_obj_wr h1).trans ((ai_obj_wr h2).trans h.1), (ai_arr_wr h3).trans ((ai_arr_wr (show a + 1 ≠ 399 by omega)).trans h.2)⟩
theorem rv_obj {q : (Nat → Int) × Int} {b c : Nat} (h1 : b ≠ 398) (h2 : b ≠ 399) : ai_obj (rv_put S q) b c = ai_obj S b c := (ai_obj_wr h1).trans (ai_obj_wr h2)
theorem rv_arr {q : (Nat → Int) × Int} {b c : Nat} (h1 : b ≠ 398) (h2 : b ≠ 399) : ai_arr (rv_put S q) b c = ai_arr S b c := (ai_arr_wr h1).trans (ai_arr_wr h2)
theorem tm_w3 {a n : Nat} {T U : Nat → Int} : ai_wr (tm_put S a T n) (a + 1) (.inl (1, ai_I 24 (ax_f U))) = tm_put S a U n := by
  unfold tm_put
  rw [ai_wr_comm _ (show a ≠ a + 1 by omega), ai_wr_wr]
theorem at_69_0 : ai_at ai_m69 0 = some (.aload_n 0, 1) := rfl
theorem at_69_1 : ai_at ai_m69 1 = some (.getfield 9, 3) := rfl
theorem at_69_4 : ai_at ai_m69 4 = some (.iconst 0, 1) := rfl
theorem at_69_5 : ai_at ai_m69 5 = some (.invokestatic 19, 3) := rfl
theorem at_69_8 : ai_at ai_m69 8 = some (.aload_n 0, 1) := rfl
theorem at_69_9 : ai_at ai_m69 9 = some (.iconst 0, 1) := rfl
theorem at_69_10 : ai_at ai_m69 10 = some (.putfield 15, 3) := rfl
theorem at_69_13 : ai_at ai_m69 13 = some (.aload_n 0, 1) := rfl
theorem at_69_14 : ai_at ai_m69 14 = some (.aload_n 1, 1) := rfl
theorem at_69_15 : ai_at ai_m69 15 = some (.getfield 25, 3) := rfl
theorem at_69_18 : ai_at ai_m69 18 = some (.invokevirtual 31, 3) := rfl
theorem at_69_21 : ai_at ai_m69 21 = some (.aload_n 0, 1) := rfl
theorem at_69_22 : ai_at ai_m69 22 = some (.aload_n 1, 1) := rfl
theorem at_69_23 : ai_at ai_m69 23 = some (.getfield 35, 3) := rfl
theorem at_69_26 : ai_at ai_m69 26 = some (.invokevirtual 31, 3) := rfl
theorem at_69_29 : ai_at ai_m69 29 = some (.aload_n 0, 1) := rfl
theorem at_69_30 : ai_at ai_m69 30 = some (.getfield 15, 3) := rfl
theorem at_69_33 : ai_at ai_m69 33 = some (.ireturn, 1) := rfl
theorem at_70_0 : ai_at ai_m70 0 = some (.iconst 0, 1) := rfl
theorem at_70_1 : ai_at ai_m70 1 = some (.istore_n 2, 1) := rfl
theorem at_70_2 : ai_at ai_m70 2 = some (.iload_n 2, 1) := rfl
theorem at_70_3 : ai_at ai_m70 3 = some (.aload_n 1, 1) := rfl
theorem at_70_4 : ai_at ai_m70 4 = some (.getfield 38, 3) := rfl
theorem at_70_7 : ai_at ai_m70 7 = some (.if_icmp .ge 46, 3) := rfl
theorem at_70_10 : ai_at ai_m70 10 = some (.iload_n 2, 1) := rfl
theorem at_70_11 : ai_at ai_m70 11 = some (.bipush 24, 2) := rfl
theorem at_70_13 : ai_at ai_m70 13 = some (.if_icmp .ge 40, 3) := rfl
theorem at_70_16 : ai_at ai_m70 16 = some (.aload_n 1, 1) := rfl
theorem at_70_17 : ai_at ai_m70 17 = some (.getfield 43, 3) := rfl
theorem at_70_20 : ai_at ai_m70 20 = some (.iload_n 2, 1) := rfl
theorem at_70_21 : ai_at ai_m70 21 = some (.caload, 1) := rfl
theorem at_70_22 : ai_at ai_m70 22 = some (.invokestatic 47, 3) := rfl
theorem at_70_25 : ai_at ai_m70 25 = some (.ifCond .eq 22, 3) := rfl
theorem at_70_28 : ai_at ai_m70 28 = some (.aload_n 1, 1) := rfl
theorem at_70_29 : ai_at ai_m70 29 = some (.getfield 43, 3) := rfl
theorem at_70_32 : ai_at ai_m70 32 = some (.iload_n 2, 1) := rfl
theorem at_70_33 : ai_at ai_m70 33 = some (.aload_n 0, 1) := rfl
theorem at_70_34 : ai_at ai_m70 34 = some (.aload_n 1, 1) := rfl
theorem at_70_35 : ai_at ai_m70 35 = some (.getfield 43, 3) := rfl
theorem at_70_38 : ai_at ai_m70 38 = some (.iload_n 2, 1) := rfl
theorem at_70_39 : ai_at ai_m70 39 = some (.caload, 1) := rfl
theorem at_70_40 : ai_at ai_m70 40 = some (.bipush 117, 2) := rfl
theorem at_70_42 : ai_at ai_m70 42 = some (.isub, 1) := rfl
theorem at_70_43 : ai_at ai_m70 43 = some (.invokevirtual 51, 3) := rfl
theorem at_70_46 : ai_at ai_m70 46 = some (.castore, 1) := rfl
theorem at_70_47 : ai_at ai_m70 47 = some (.iinc 2 1, 3) := rfl
theorem at_70_50 : ai_at ai_m70 50 = some (.goto (-48), 3) := rfl
theorem at_70_53 : ai_at ai_m70 53 = some (.return_, 1) := rfl
theorem at_71_0 : ai_at ai_m71 0 = some (.aload_n 0, 1) := rfl
theorem at_71_1 : ai_at ai_m71 1 = some (.getfield 9, 3) := rfl
theorem at_71_4 : ai_at ai_m71 4 = some (.iload_n 1, 1) := rfl
theorem at_71_5 : ai_at ai_m71 5 = some (.iaload, 1) := rfl
theorem at_71_6 : ai_at ai_m71 6 = some (.ifCond .ne 23, 3) := rfl
theorem at_71_9 : ai_at ai_m71 9 = some (.aload_n 0, 1) := rfl
theorem at_71_10 : ai_at ai_m71 10 = some (.dup, 1) := rfl
theorem at_71_11 : ai_at ai_m71 11 = some (.getfield 15, 3) := rfl
theorem at_71_14 : ai_at ai_m71 14 = some (.iconst 1, 1) := rfl
theorem at_71_15 : ai_at ai_m71 15 = some (.iadd, 1) := rfl
theorem at_71_16 : ai_at ai_m71 16 = some (.putfield 15, 3) := rfl
theorem at_71_19 : ai_at ai_m71 19 = some (.aload_n 0, 1) := rfl
theorem at_71_20 : ai_at ai_m71 20 = some (.getfield 9, 3) := rfl
theorem at_71_23 : ai_at ai_m71 23 = some (.iload_n 1, 1) := rfl
theorem at_71_24 : ai_at ai_m71 24 = some (.aload_n 0, 1) := rfl
theorem at_71_25 : ai_at ai_m71 25 = some (.getfield 15, 3) := rfl
theorem at_71_28 : ai_at ai_m71 28 = some (.iastore, 1) := rfl
theorem at_71_29 : ai_at ai_m71 29 = some (.bipush 117, 2) := rfl
theorem at_71_31 : ai_at ai_m71 31 = some (.aload_n 0, 1) := rfl
theorem at_71_32 : ai_at ai_m71 32 = some (.getfield 9, 3) := rfl
theorem at_71_35 : ai_at ai_m71 35 = some (.iload_n 1, 1) := rfl
theorem at_71_36 : ai_at ai_m71 36 = some (.iaload, 1) := rfl
theorem at_71_37 : ai_at ai_m71 37 = some (.iadd, 1) := rfl
theorem at_71_38 : ai_at ai_m71 38 = some (.iconst 1, 1) := rfl
theorem at_71_39 : ai_at ai_m71 39 = some (.isub, 1) := rfl
theorem at_71_40 : ai_at ai_m71 40 = some (.i2c, 1) := rfl
theorem at_71_41 : ai_at ai_m71 41 = some (.ireturn, 1) := rfl
theorem fl_7_9 : ai_fld 7 9 = some (7, 0, false) := by decide +kernel
theorem fl_7_15 : ai_fld 7 15 = some (7, 1, false) := by decide +kernel
theorem fl_7_25 : ai_fld 7 25 = some (3, 0, true) := by decide +kernel
theorem fl_7_35 : ai_fld 7 35 = some (3, 1, true) := by decide +kernel
theorem fl_7_38 : ai_fld 7 38 = some (4, 1, true) := by decide +kernel
theorem fl_7_43 : ai_fld 7 43 = some (4, 0, true) := by decide +kernel
theorem mt_7_19 : ai_mth 7 19 = some (2, 158, 2, 0) := by decide +kernel
theorem mt_7_31 : ai_mth 7 31 = some (0, 70, 1, 7) := by decide +kernel
theorem mt_7_47 : ai_mth 7 47 = some (3, 12, 1, 0) := by decide +kernel
theorem mt_7_51 : ai_mth 7 51 = some (0, 71, 1, 7) := by decide +kernel
set_option maxHeartbeats 1000000 in
theorem r_newName {q : (Nat → Int) × Int} {c b : Int} (h : rv S q) (hq : qok q b) (hb : b ≤ 1000) (hc : 117 ≤ c ∧ c < 129) : ai_rn L xs (d + 1) 71 [.ref 398, ax_i (c - 117)] S (fun v S' => v = some (ax_i (rl q c)) ∧ S' = rv_put S (rs q c)) := by
  obtain ⟨h1, h2, h3⟩ := hq
  have hk := h3 (c - 117).toNat (by omega)
  have hl : 399 < S.1 := (ai_arr_inv h.2).1
  have hcn : c - 117 = (((c - 117).toNat : Nat) : Int) := by omega
  refine ai_rn_of (M := ai_m71) rfl (by decide) (Nat.le_of_ble_eq_true rfl) ?_
  have k29 : ∀ S9, S9 = rv_put S (rs q c) → ai_aw L xs d ai_m71 (fun o => ∃ v S', o = (.inl v, S') ∧ v = some (ax_i (rl q c)) ∧ S' = rv_put S (rs q c)) (29, ai_in ai_m71 [.ref 398, ax_i (c - 117)], [], S9) := by
    rintro _ rfl
    have h := rv_get (q := rs q c) hl
    have hp := rs_pos (c := c) ⟨h1, h2, h3⟩ (by omega)
    refine aw_pure (st' := ax_i (117) :: _) at_71_29 rfl rfl ?_
    refine aw_loc at_71_31 rfl rfl ?_
    refine aw_get at_71_32 rfl fl_7_9 h.1 rfl ?_
    refine aw_loc at_71_35 rfl rfl ?_
    refine ax_ild at_71_36 rfl h.2 (k := (c - 117).toNat) hcn (by omega) (by decide) ?_
    refine ax_add at_71_37 rfl ?_
    refine aw_pure (st' := ax_i (1) :: _) at_71_38 rfl rfl ?_
    refine ax_sub at_71_39 rfl ?_
    refine ax_chrI at_71_40 rfl (by omega) ?_
    refine ax_retC at_71_41 rfl (by omega) ⟨_, _, rfl, ?_, rfl⟩
    unfold rl
    rw [if_neg (by omega)]
  refine aw_loc at_71_0 rfl rfl ?_
  refine aw_get at_71_1 rfl fl_7_9 h.1 rfl ?_
  refine aw_loc at_71_4 rfl rfl ?_
  refine ax_ild at_71_5 rfl h.2 (k := (c - 117).toNat) hcn (by omega) (by decide) ?_
  refine ax_if_ne at_71_6 ⟨by omega, by omega⟩ (fun z => ?_) (fun z => ?_)
  · skip
    have hrs : rs q c = q := by unfold rs; rw [if_neg (by omega), if_neg z]
    exact k29 S (by rw [hrs, rv_self h])
  · skip
    have hrs : rs q c = (ax_up q.1 (c - 117).toNat (q.2 + 1), q.2 + 1) := by unfold rs; rw [if_neg (by omega), if_pos z]
    refine aw_loc at_71_9 rfl rfl ?_
    refine aw_pure at_71_10 rfl rfl ?_
    refine aw_get at_71_11 rfl fl_7_15 h.1 rfl ?_
    refine aw_pure (st' := ax_i (1) :: _) at_71_14 rfl rfl ?_
    refine ax_add at_71_15 rfl ?_
    refine aw_put at_71_16 rfl fl_7_15 h.1 (Nat.le_of_ble_eq_true rfl) rfl (by decide +kernel) ?_
    have ho1 : ai_obj (ai_wr S 398 (.inr (7, [.ref 399, ax_i (q.2 + 1)]))) 398 7 = some [.ref 399, ax_i (q.2 + 1)] := ai_obj_wrS (by omega)
    have hA1 := (ai_arr_wr (a := 398) (x := .inr (7, [.ref 399, ax_i (q.2 + 1)])) (show 399 ≠ 398 by decide)).trans h.2
    refine aw_loc at_71_19 rfl rfl ?_
    refine aw_get at_71_20 rfl fl_7_9 ho1 rfl ?_
    refine aw_loc at_71_23 rfl rfl ?_
    refine aw_loc at_71_24 rfl rfl ?_
    refine aw_get at_71_25 rfl fl_7_15 ho1 rfl ?_
    refine ax_ist (k := (c - 117).toNat) at_71_28 rfl hA1 hcn (by omega) (by decide) ?_
    refine k29 _ ?_
    rw [hrs]
    unfold rv_put
    exact ai_wr_comm S (show 398 ≠ 399 by decide) _ _
set_option maxHeartbeats 2000000 in
theorem r_renSide1 {a n : Nat} {W : Nat → Int} {q : (Nat → Int) × Int} {b : Int} (hl : a + 1 < S.1) (hl2 : 399 < S.1) (h1 : a ≠ 398) (h2 : a ≠ 399) (h3 : a + 1 ≠ 398) (hn : n ≤ 24) (hW : ∀ i, i < n → 0 ≤ W i ∧ W i < 129) (hq : qok q b) (hb : b ≤ 500) : ∀ (k j : Nat) (T : Nat → Int), j + k = n → (∀ i, i < j → T i = ra W q i) → (∀ i, j ≤ i → i < n → T i = W i) → (∀ i, 0 ≤ T i ∧ T i < 65536) → ai_aw L xs (d + 1) ai_m70 (fun o => ∃ v S', o = (.inl v, S') ∧ v = none ∧ ∃ T', S' = tm_put (rv_put S (rq W q n)) a T' n ∧ (∀ i, i < n → T' i = ra W q i) ∧ ∀ i, 0 ≤ T' i ∧ T' i < 65536) (2, [some (.ref 398), some (.ref a), some (ax_i (j : Nat))], [], tm_put (rv_put S (rq W q j)) a T n) := by
  intro k
  induction k with
  | zero =>
    intro j T hj hA hB hT
    have hjn : j = n := by omega
    subst hjn
    have ht : tm (tm_put (rv_put S (rq W q j)) a T j) a T j := tm_get hl
    refine aw_loc at_70_2 rfl rfl ?_
    refine aw_loc at_70_3 rfl rfl ?_
    refine aw_get at_70_4 rfl fl_7_38 ht.1 rfl ?_
    refine ax_icmp_ge at_70_7 ⟨by omega, by omega⟩ ⟨by omega, by omega⟩ (fun _ => ?_) (fun z => absurd z (by omega))
    exact aw_vret at_70_53 rfl ⟨_, _, rfl, rfl, T, rfl, hA, hT⟩
  | succ k ih =>
    intro j T hj hA hB hT
    have ht : tm (tm_put (rv_put S (rq W q j)) a T n) a T n := tm_get hl
    have hr : rv (tm_put (rv_put S (rq W q j)) a T n) (rq W q j) := rv_off (rv_get hl2) h1 h2 h3
    have hjW := hB j (Nat.le_refl _) (by omega)
    have hWj := hW j (by omega)
    have hTj := hT j
    refine aw_loc at_70_2 rfl rfl ?_
    refine aw_loc at_70_3 rfl rfl ?_
    refine aw_get at_70_4 rfl fl_7_38 ht.1 rfl ?_
    refine ax_icmp_ge at_70_7 ⟨by omega, by omega⟩ ⟨by omega, by omega⟩ (fun z => absurd z (by omega)) (fun _ => ?_)
    refine aw_loc at_70_10 rfl rfl ?_
    refine aw_pure (st' := ax_i (24) :: _) at_70_11 rfl rfl ?_
    refine ax_icmp_ge at_70_13 ⟨by omega, by omega⟩ ⟨by omega, by omega⟩ (fun z => absurd z (by omega)) (fun _ => ?_)
    refine aw_loc at_70_16 rfl rfl ?_
    refine aw_get at_70_17 rfl fl_7_43 ht.1 rfl ?_
    refine aw_loc at_70_20 rfl rfl ?_
    refine ax_cld at_70_21 rfl ht.2 (k := j) rfl (by omega) (by decide) ?_
    refine aw_cs [ax_i (T j)] [] at_70_22 rfl mt_7_47 (Or.inr (Or.inl rfl)) rfl rfl (Nat.le_of_ble_eq_true rfl) ((r_isVar hTj).mono ?_)
    rintro v S' ⟨rfl, z, rfl, hz⟩
    have hzl := hz.le
    refine ax_if_eq at_70_25 ⟨by omega, by omega⟩ (fun z => ?_) (fun z => ?_)
    · skip
      have hv : ¬ 117 ≤ T j := by rcases hz with ⟨-, h⟩ | ⟨h, -⟩; exact h; omega
      have hrs : rq W q (j + 1) = rq W q j := by show rs (rq W q j) (W j) = _; unfold rs; rw [if_pos (by omega)]
      have hra : ra W q j = W j := by unfold ra rl; rw [if_pos (by omega)]
      have := ih (j + 1) T (by omega) (fun i hi => ?_) (fun i hi => hB i (by omega)) hT
      · rw [hrs] at this
        refine ax_inc at_70_47 rfl rfl rfl ?_
        refine aw_goto at_70_50 ?_
        rw [Int.natCast_add] at this
        exact this
      · by_cases h : i = j
        · subst h; rw [hra]; exact hjW
        · exact hA i (by omega)
    · skip
      have hv : 117 ≤ T j := by rcases hz with ⟨h, -⟩ | ⟨-, h⟩; omega; exact h
      refine aw_loc at_70_28 rfl rfl ?_
      refine aw_get at_70_29 rfl fl_7_43 ht.1 rfl ?_
      refine aw_loc at_70_32 rfl rfl ?_
      refine aw_loc at_70_33 rfl rfl ?_
      refine aw_loc at_70_34 rfl rfl ?_
      refine aw_get at_70_35 rfl fl_7_43 ht.1 rfl ?_
      refine aw_loc at_70_38 rfl rfl ?_
      refine ax_cld at_70_39 rfl ht.2 (k := j) rfl (by omega) (by decide) ?_
      refine aw_pure (st' := ax_i (117) :: _) at_70_40 rfl rfl ?_
      refine ax_sub at_70_42 rfl ?_
      refine aw_cv (a := 398) [ax_i (T j - 117)] [ax_i (j : Nat), .ref (a + 1)] at_70_43 mt_7_51 (Or.inl rfl) rfl rfl (Nat.le_of_ble_eq_true rfl) ⟨_, hr.1⟩ ((r_newName hr (qok_rq hq j) (by omega) ⟨hv, by omega⟩).mono ?_)
      rintro v S' ⟨rfl, rfl⟩
      rw [rv_tm h1 h2 h3, hjW]
      have ht2 : tm (tm_put (rv_put S (rs (rq W q j) (W j))) a T n) a T n := tm_get hl
      refine ax_cst (k := j) at_70_46 rfl ht2.2 rfl (by omega) (by decide) (ra_in hq hb (by omega) (by omega)) ?_
      rw [tm_w3]
      have := ih (j + 1) (ax_up T j (ra W q j)) (by omega) (fun i hi => ?_) (fun i hi hi2 => ?_) (fun i => ?_)
      · skip
        refine ax_inc at_70_47 rfl rfl rfl ?_
        refine aw_goto at_70_50 ?_
        rw [Int.natCast_add] at this
        exact this
      · unfold ax_up
        by_cases h : i = j
        · rw [if_pos h, h]
        · rw [if_neg h]; exact hA i (by omega)
      · unfold ax_up
        rw [if_neg (by omega)]
        exact hB i (by omega) hi2
      · unfold ax_up
        split
        · exact ra_in hq hb (by omega) (by omega)
        · exact hT i
set_option maxHeartbeats 1000000 in
theorem r_renSide {a n : Nat} {T : Nat → Int} {w : List Int} {q : (Nat → Int) × Int} {b : Int} (ht : tm S a T n) (hw : wd T n w) (hwl : w.length ≤ 24) (hr : rv S q) (h1 : a ≠ 398) (h2 : a ≠ 399) (h3 : a + 1 ≠ 398) (hW : ∀ i, i < w.length → 0 ≤ w.getD i 0 ∧ w.getD i 0 < 129) (hq : qok q b) (hb : b ≤ 500) : ai_rn L xs (d + 2) 70 [.ref 398, .ref a] S (fun v S' => v = none ∧ ∃ T', S' = tm_put (rv_put S (rq (fun i => w.getD i 0) q w.length)) a T' n ∧ wd T' n (rnw q w)) := by
  have hl := tm_lt ht
  have hl2 : 399 < S.1 := (ai_arr_inv hr.2).1
  have hn : n = w.length := by rw [hw.1]; omega
  subst hn
  refine ai_rn_of (M := ai_m70) rfl (by decide) (Nat.le_of_ble_eq_true rfl) ?_
  refine aw_pure (st' := ax_i (0) :: _) at_70_0 rfl rfl ?_
  refine aw_loc at_70_1 rfl rfl ?_
  have := r_renSide1 (L := L) (xs := xs) (d := d) (W := fun i => w.getD i 0) hl hl2 h1 h2 h3 hwl hW hq hb w.length 0 T (by omega) (fun i hi => absurd hi (Nat.not_lt_zero i)) (fun i _ hi => hw.2.1 i hi (by omega)) hw.2.2
  rw [show rq (fun i => w.getD i 0) q 0 = q from rfl, rv_self hr, tm_self ht] at this
  refine ai_aw_mono this ?_
  rintro o ⟨v, S', rfl, rfl, T', rfl, hA, hT⟩
  refine ⟨_, _, rfl, rfl, T', rfl, ?_, ?_, hT⟩
  · unfold rnw sl; rw [List.length_map, List.length_range]; omega
  · intro i hi hi2
    unfold rnw sl at hi ⊢
    rw [List.length_map, List.length_range] at hi
    rw [hA i hi, List.getD_eq_getElem?_getD, List.getElem?_map, List.getElem?_range hi]
    show _ = ra _ q (0 + i)
    rw [Nat.zero_add]
/-- two states of a renaming that go on alike -/
def qe (q q' : (Nat → Int) × Int) : Prop := q.2 = q'.2 ∧ ∀ i, i < 12 → q.1 i = q'.1 i
theorem qe_rs {q q' : (Nat → Int) × Int} {c : Int} (h : qe q q') (hc : c < 129) : qe (rs q c) (rs q' c) := by
  obtain ⟨h1, h2⟩ := h
  unfold rs
  by_cases hv : c < 117
  · rw [if_pos hv, if_pos hv]; exact ⟨h1, h2⟩
  · rw [if_neg hv, if_neg hv, h2 (c - 117).toNat (by omega)]
    split
    · refine ⟨by show q.2 + 1 = q'.2 + 1; rw [h1], fun i hi => ?_⟩
      show ax_up q.1 _ (q.2 + 1) i = ax_up q'.1 _ (q'.2 + 1) i
      unfold ax_up
      rw [h1, h2 i hi]
    · exact ⟨h1, h2⟩
theorem qe_rl {q q' : (Nat → Int) × Int} {c : Int} (h : qe q q') (hc : c < 129) : rl q c = rl q' c := by
  unfold rl
  by_cases hv : c < 117
  · rw [if_pos hv, if_pos hv]
  · rw [if_neg hv, if_neg hv, (qe_rs h hc).2 _ (by omega)]
theorem qe_rq {W : Nat → Int} {q q' : (Nat → Int) × Int} (h : qe q q') : ∀ n, (∀ i, i < n → W i < 129) → qe (rq W q n) (rq W q' n)
  | 0, _ => h
  | n + 1, hW => qe_rs (qe_rq h n (fun i hi => hW i (by omega))) (hW n (by omega))
theorem qe_rnw {q q' : (Nat → Int) × Int} {w : List Int} (h : qe q q') (hW : ∀ i, i < w.length → w.getD i 0 < 129) : rnw q w = rnw q' w := by
  unfold rnw sl
  apply List.map_congr_left
  intro i hi
  rw [List.mem_range] at hi
  show rl (rq (fun i => w.getD i 0) q (0 + i)) (w.getD (0 + i) 0) = rl (rq (fun i => w.getD i 0) q' (0 + i)) (w.getD (0 + i) 0)
  rw [Nat.zero_add]
  exact qe_rl (qe_rq h i (fun j hj => hW j (by omega))) (hW i hi)
def q00 : (Nat → Int) × Int := (fun _ => 0, 0)
/-- the state after the first word, after both -/
def rq1 (l : List Int) : (Nat → Int) × Int := rq (fun i => l.getD i 0) q00 l.length
def rq2 (l r : List Int) : (Nat → Int) × Int := rq (fun i => r.getD i 0) (rq1 l) r.length
/-- letters of a word of the landed code -/
def lets (w : List Int) : Prop := ∀ i, i < w.length → 0 ≤ w.getD i 0 ∧ w.getD i 0 < 129
set_option maxHeartbeats 2000000 in
theorem r_rename {p : Nat} {l r : List Int} {q : (Nat → Int) × Int} (hp : pw S p l r) (hr : rv S q) (hll : l.length ≤ 24) (hrl : r.length ≤ 24) (hlet : lets l ∧ lets r) (hs : p + 4 < 398 ∨ 399 < p) : ai_rn L xs (d + 3) 69 [.ref 398, .ref p] S (fun v S' => v = some (ax_i (rq2 l r).2) ∧ ∃ q2, qe q2 (rq2 l r) ∧ pq (rv_put S q2) S' p (rnw q00 l) (rnw (rq1 l) r)) := by
  obtain ⟨T, n, U, m, hp, hT, hU⟩ := hp
  have hl2 : 399 < S.1 := (ai_arr_inv hr.2).1
  have hpl := pr_lt hp
  refine ai_rn_of (M := ai_m69) rfl (by decide) (Nat.le_of_ble_eq_true rfl) ?_
  refine aw_loc at_69_0 rfl rfl ?_
  refine aw_get at_69_1 rfl fl_7_9 hr.1 rfl ?_
  refine aw_pure (st' := ax_i (0) :: _) at_69_4 rfl rfl ?_
  refine aw_cs [.ref 399, ax_i 0] [] at_69_5 rfl mt_7_19 (Or.inl rfl) rfl rfl (Nat.le_of_ble_eq_true rfl) ((r_fill hr.2 (by decide)).mono ?_)
  rintro v S' ⟨rfl, rfl⟩
  have ho1 := (ai_obj_wr (a := 399) (x := .inl (0, ai_I 12 (ax_f (fi q.1 0 12)))) (show 398 ≠ 399 by decide)).trans hr.1
  refine aw_loc at_69_8 rfl rfl ?_
  refine aw_pure (st' := ax_i (0) :: _) at_69_9 rfl rfl ?_
  refine aw_put at_69_10 rfl fl_7_15 ho1 (Nat.le_of_ble_eq_true rfl) rfl (by decide +kernel) ?_
  change ai_aw L xs (d + 2) ai_m69 _ (13, _, _, rv_put S (fi q.1 0 12, 0))
  have hqe : qe (fi q.1 0 12, 0) q00 := ⟨rfl, fun i hi => if_pos hi⟩
  have hqk : qok (fi q.1 0 12, 0) 0 := ⟨Int.le_refl _, Int.le_refl _, fun i hi => by show 0 ≤ fi q.1 0 12 i ∧ fi q.1 0 12 i ≤ 0; unfold fi; rw [if_pos hi]; omega⟩
  generalize hq0 : ((fi q.1 0 12, 0) : (Nat → Int) × Int) = q0 at hqe hqk ⊢
  have hr0 : rv (rv_put S q0) q0 := rv_get hl2
  have hp0 : ai_obj (rv_put S q0) p 3 = some [.ref (p + 1), .ref (p + 3)] := (rv_obj (by omega) (by omega)).trans hp.1
  have hL0 : tm (rv_put S q0) (p + 1) T n := rv_tmo hp.2.1 (by omega) (by omega) (by omega)
  have hR0 : tm (rv_put S q0) (p + 3) U m := rv_tmo hp.2.2 (by omega) (by omega) (by omega)
  refine aw_loc at_69_13 rfl rfl ?_
  refine aw_loc at_69_14 rfl rfl ?_
  refine aw_get at_69_15 rfl fl_7_25 hp0 rfl ?_
  refine aw_cv (a := 398) [.ref (p + 1)] [] at_69_18 mt_7_31 (Or.inl rfl) rfl rfl (Nat.le_of_ble_eq_true rfl) ⟨_, hr0.1⟩ ((r_renSide hL0 hT hll hr0 (by omega) (by omega) (by omega) hlet.1 hqk (by decide)).mono ?_)
  rintro v S' ⟨rfl, T', rfl, hT'⟩
  rw [rv_two]
  generalize hq1 : rq (fun i => l.getD i 0) q0 l.length = q1
  have hqe1 : qe q1 (rq1 l) := by rw [← hq1]; exact qe_rq hqe l.length (fun i hi => (hlet.1 i hi).2)
  have hqk1 : qok q1 24 := by
    have := qok_rq (W := fun i => l.getD i 0) hqk l.length
    rw [hq1] at this
    exact ⟨this.1, by have := this.2.1; omega, this.2.2⟩
  have hr1 : rv (tm_put (rv_put S q1) (p + 1) T' n) q1 := rv_off (rv_get hl2) (by omega) (by omega) (by omega)
  have hp1 : ai_obj (tm_put (rv_put S q1) (p + 1) T' n) p 3 = some [.ref (p + 1), .ref (p + 3)] := (tm_obj (by omega) (by omega)).trans ((rv_obj (by omega) (by omega)).trans hp.1)
  have hR1 : tm (tm_put (rv_put S q1) (p + 1) T' n) (p + 3) U m := tm_off (rv_tmo hp.2.2 (by omega) (by omega) (by omega)) (by omega) (by omega) (by omega)
  refine aw_loc at_69_21 rfl rfl ?_
  refine aw_loc at_69_22 rfl rfl ?_
  refine aw_get at_69_23 rfl fl_7_35 hp1 rfl ?_
  refine aw_cv (a := 398) [.ref (p + 3)] [] at_69_26 mt_7_31 (Or.inl rfl) rfl rfl (Nat.le_of_ble_eq_true rfl) ⟨_, hr1.1⟩ ((r_renSide hR1 hU hrl hr1 (by omega) (by omega) (by omega) hlet.2 hqk1 (by decide)).mono ?_)
  rintro v S' ⟨rfl, U', rfl, hU'⟩
  rw [rv_tm (by omega) (by omega) (by omega)]
  generalize hq2 : rq (fun i => r.getD i 0) q1 r.length = q2
  have hqe2 : qe q2 (rq2 l r) := by rw [← hq2]; exact qe_rq hqe1 r.length (fun i hi => (hlet.2 i hi).2)
  have hr2 : rv (tm_put (tm_put (rv_put S q2) (p + 1) T' n) (p + 3) U' m) q2 := rv_off (rv_off (rv_get hl2) (by omega) (by omega) (by omega)) (by omega) (by omega) (by omega)
  refine aw_loc at_69_29 rfl rfl ?_
  refine aw_get at_69_30 rfl fl_7_15 hr2.1 rfl ?_
  refine ax_ret at_69_33 rfl ⟨_, _, rfl, by rw [hqe2.1], q2, hqe2, T', n, U', m, rfl, ?_, ?_⟩
  · rw [qe_rnw hqe (fun i hi => (hlet.1 i hi).2)] at hT'; exact hT'
  · rw [qe_rnw hqe1 (fun i hi => (hlet.2 i hi).2)] at hU'; exact hU'
end RE

/-! The law's entry: the two objects and the row for answers are made. -/
section LE
variable {L : Nat} {xs : Nat → Int32}
theorem ai_isO_eq {x : ai_C} {c : Nat} {fs : List Value} (h : ai_isO x c fs = true) : x = .inr (c, fs) := by
  unfold ai_isO at h
  split at h
  · simp only [Bool.and_eq_true, decide_eq_true_eq] at h
    rw [h.1, h.2]
  · cases h
theorem ai_isZ_eq {x : ai_C} {t n : Nat} {v : Int32} (h : ai_isZ x t n v = true) : ∃ f, x = .inl (t, ai_I n f) ∧ ∀ j, j < n → f j = v := by
  unfold ai_isZ at h
  split at h
  · rename_i t' n' f
    simp only [Bool.and_eq_true, decide_eq_true_eq, List.all_eq_true, List.mem_range] at h
    exact ⟨f, by rw [h.1.1, h.1.2], h.2⟩
  · cases h
theorem ai_isP_eq {x : ai_C} {n b : Nat} (h : ai_isP x n b = true) : ∃ f, x = .inl (4, ai_A n f) ∧ ∀ j, j < n → f j = some (b + 5 * j) := by
  unfold ai_isP at h
  split at h
  · rename_i n' f
    simp only [Bool.and_eq_true, decide_eq_true_eq, List.all_eq_true, List.mem_range] at h
    exact ⟨f, by rw [h.1], h.2⟩
  · cases h
theorem ai_isL_eq {x : ai_C} {v : Int64} (h : ai_isL x v = true) : ∃ f, x = .inl (3, ai_J 1 f) ∧ f 0 = v := by
  unfold ai_isL at h
  split at h
  · rename_i f
    exact ⟨f, rfl, by simpa using h⟩
  · cases h
/-- what a fresh state is, in words -/
theorem ai_frc_all {S : ai_S} (h : ai_frc S = true) : S.1 = 453 ∧ S.2.1 = 453 ∧ S.2.2.1 = 12190 ∧ (∀ q ∈ ai_fo, S.2.2.2 q.1 = .inr (q.2.1, q.2.2)) ∧ (∀ q ∈ ai_fa, ∃ f, S.2.2.2 q.1 = .inl (q.2.1, ai_I q.2.2.1 f) ∧ ∀ j, j < q.2.2.1 → f j = q.2.2.2) ∧ (∀ q ∈ ai_fp, ∃ f, S.2.2.2 q.1 = .inl (4, ai_A q.2.1 f) ∧ ∀ j, j < q.2.1 → f j = some (q.2.2 + 5 * j)) ∧ ∃ f, S.2.2.2 452 = .inl (3, ai_J 1 f) ∧ f 0 = 0 := by
  unfold ai_frc at h
  simp only [Bool.and_eq_true, decide_eq_true_eq] at h
  obtain ⟨⟨⟨⟨⟨⟨h1, h2⟩, h3⟩, h4⟩, h5⟩, h6⟩, h7⟩ := h
  exact ⟨h1, h2, h3, fun q hq => ai_isO_eq (List.all_eq_true.mp h4 q hq), fun q hq => ai_isZ_eq (List.all_eq_true.mp h5 q hq), fun q hq => ai_isP_eq (List.all_eq_true.mp h6 q hq), ai_isL_eq h7⟩
theorem ai_obj_of {S : ai_S} {a c : Nat} {fs : List Value} (h : S.2.2.2 a = .inr (c, fs)) (hl : a < S.1) : ai_obj S a c = some fs := by
  unfold ai_obj
  rw [if_pos hl, h]
  exact if_pos rfl
theorem ai_arr_of {S : ai_S} {a t n : Nat} {f : Nat → Int32} (h : S.2.2.2 a = .inl (t, ai_I n f)) (hl : a < S.1) : ai_arr S a t = some (n, f) := by
  unfold ai_arr
  rw [if_pos hl, h]
  exact if_pos rfl
theorem ai_arrJ_of {S : ai_S} {a t n : Nat} {f : Nat → Int64} (h : S.2.2.2 a = .inl (t, ai_J n f)) (hl : a < S.1) : ai_arrJ S a t = some (n, f) := by
  unfold ai_arrJ
  rw [if_pos hl, h]
  exact if_pos rfl
theorem ai_arrA_of {S : ai_S} {a t n : Nat} {f : Nat → Option Nat} (h : S.2.2.2 a = .inl (t, ai_A n f)) (hl : a < S.1) : ai_arrA S a t = some (n, f) := by
  unfold ai_arrA
  rw [if_pos hl, h]
  exact if_pos rfl
theorem ai_fo_m : (0, 0, [.ref 1, .ref 4, .ref 6, .ref 11]) ∈ ai_fo := List.mem_append_left _ (List.mem_append_left _ (List.mem_append_left _ (List.mem_append_left _ List.mem_cons_self)))
theorem ai_fo_has : ai_fo.any (fun q => decide (q.1 = 432) && decide (q.2.1 = 11)) = true := by decide +kernel
theorem ai_prs_of {S : ai_S} (h : ai_frc S = true) : ai_prs S := by
  obtain ⟨h1, -, -, h4, -, -, f, hf, -⟩ := ai_frc_all h
  refine ⟨⟨_, ai_obj_of (h4 _ ai_fo_m) (by rw [h1]; decide)⟩, ?_, f, ai_arrJ_of hf (by rw [h1]; decide)⟩
  obtain ⟨q, hq, h⟩ := List.any_eq_true.mp ai_fo_has
  simp only [Bool.and_eq_true, decide_eq_true_eq] at h
  have := h4 q hq
  rw [h.1, h.2] at this
  exact ⟨_, ai_obj_of this (by rw [h1]; decide)⟩
theorem at_159_0 : ai_at ai_m159 0 = some (.new 8, 3) := rfl
theorem at_159_3 : ai_at ai_m159 3 = some (.dup, 1) := rfl
theorem at_159_4 : ai_at ai_m159 4 = some (.invokespecial 33, 3) := rfl
theorem at_159_7 : ai_at ai_m159 7 = some (.astore_n 1, 1) := rfl
theorem at_159_8 : ai_at ai_m159 8 = some (.new 34, 3) := rfl
theorem at_159_11 : ai_at ai_m159 11 = some (.dup, 1) := rfl
theorem at_159_12 : ai_at ai_m159 12 = some (.invokespecial 36, 3) := rfl
theorem at_159_15 : ai_at ai_m159 15 = some (.astore_n 2, 1) := rfl
theorem at_159_16 : ai_at ai_m159 16 = some (.iconst 1, 1) := rfl
theorem at_159_17 : ai_at ai_m159 17 = some (.newarray .long, 2) := rfl
theorem at_159_19 : ai_at ai_m159 19 = some (.astore_n 3, 1) := rfl
theorem at_159_20 : ai_at ai_m159 20 = some (.iconst 0, 1) := rfl
theorem at_159_21 : ai_at ai_m159 21 = some (.istore 4, 2) := rfl
theorem mt_99_33 : ai_mth 99 33 = some (4, 0, 0, 0) := by decide +kernel
theorem mt_99_36 : ai_mth 99 36 = some (4, 96, 0, 11) := by decide +kernel
set_option maxHeartbeats 1000000 in
/-- the law's claim, out of an invariant of its turns -/
theorem lw_law {I : Nat → ai_S → Prop} (hL : L ≤ 1536) (h0 : ∀ q, ai_pre = some q → ai_frc (ai_last q.2) = true → I 0 (ai_last q.2)) (hop : ∀ t S, 3 * t + 3 ≤ L → ai_prs S → I t S → ai_op L xs 12 (xs (3 * t) &&& Int32.ofInt 15) (xs (3 * t + 1)) (xs (3 * t + 2)) (I (t + 1)) S) (hq : ∀ t S, 3 * t ≤ L → I t S → S.2.1 ≤ 600002 ∧ S.2.2.1 ≤ 7302232) : ai_Law L xs := by
  have hf := ai_fresh
  cases hp : ai_pre with
  | none => rw [hp] at hf; cases hf
  | some q =>
    rw [hp] at hf
    simp only [Bool.and_eq_true, decide_eq_true_eq] at hf
    obtain ⟨⟨hn1, hn2⟩, hfr⟩ := hf
    obtain ⟨Sa, Sb⟩ := q
    have hp' := hp
    unfold ai_pre ai_pre1 at hp
    split at hp
    · rename_i Sa' hr1
      split at hp
      · rename_i Sb' hr2
        cases hp
        have r1 := ai_runF_ok (L := L) (xs := xs) 12 0 _ _ _ hr1
        have r2 := ai_runF_ok (L := L) (xs := xs) 12 96 _ _ _ hr2
        have hp0 := ai_prs_of hfr
        have hlast := ai_frc_all hfr
        have hb1 : Sb.1 = 452 := by
          have := hlast.1
          exact Nat.succ.inj this
        have hb2 : Sb.2.1 = 452 := by
          have := hlast.2.1
          exact Nat.succ.inj this
        have key : ai_aw L xs 12 ai_m159 (fun o => o.1 = .inl (some (.int 1)) ∧ o.2.2.1 ≤ 600002 ∧ o.2.2.2.1 ≤ 7302232) (0, ai_in ai_m159 [.retAddr 0], [], ai_S0) := by
          refine aw_fop at_159_0 rfl (S' := ai_mk ai_S0 4 (.inr (0, ai_blank 0))) (st' := [.ref 0]) rfl ?_
          refine aw_pure at_159_3 rfl rfl ?_
          refine aw_ci (a := 0) [] [.ref 0] at_159_4 rfl mt_99_33 (Or.inl rfl) rfl rfl (Nat.le_of_ble_eq_true rfl) ⟨ai_blank 0, rfl⟩ ⟨none, Sa, r1, ?_⟩
          refine aw_loc at_159_7 rfl rfl ?_
          refine aw_fop at_159_8 rfl (S' := ai_mk Sa 27 (.inr (11, ai_blank 11))) (st' := [.ref 432]) ?_ ?_
          · show (if Sa.1 = Sa.2.1 then some (Value.ref Sa.1 :: [], ai_mk Sa (ai_N 11) (.inr (11, ai_blank 11))) else none) = _
            rw [if_pos (hn1.trans hn2.symm), hn1]
            rfl
          refine aw_pure at_159_11 rfl rfl ?_
          refine aw_ci (a := 432) [] [.ref 432] at_159_12 rfl mt_99_36 (Or.inl rfl) rfl rfl (Nat.le_of_ble_eq_true rfl) ⟨ai_blank 11, ?_⟩ ⟨none, Sb, r2, ?_⟩
          · refine ai_obj_of ?_ ?_
            · show va_up Sa.2.2.2 Sa.1 _ 432 = _
              rw [hn1]; exact va_up_self ..
            · show 432 < Sa.1 + 1
              rw [hn1]; decide
          refine aw_loc at_159_15 rfl rfl ?_
          refine aw_pure at_159_16 rfl rfl ?_
          refine aw_heap at_159_17 rfl (S' := ai_last Sb) (st' := [.ref 452]) ?_ ?_
          · show (if Int32.ofInt 1 < 0 ∨ ¬ Sb.1 = Sb.2.1 ∨ 65536 < (Int32.ofInt 1).toNatClampNeg then none else some ([Value.ref Sb.1], ai_mk Sb (Int32.ofInt 1).toNatClampNeg (.inl (3, ai_zero 3 (Int32.ofInt 1).toNatClampNeg)))) = _
            rw [if_neg (by rw [hb1, hb2]; decide), hb1]
            rfl
          refine aw_loc at_159_19 rfl rfl ?_
          refine aw_pure at_159_20 rfl rfl ?_
          refine aw_loc at_159_21 rfl rfl ?_
          exact lw_loop (I := I) hL hop (fun t S ht hI => ⟨rfl, hq t S ht hI⟩) L 0 none none (ai_last Sb) (by omega) (by omega) hp0 (h0 _ hp' hfr)
        obtain ⟨n, hwp⟩ := key
        obtain ⟨o, h1, h2, -⟩ := ai_wp_det ai_run_le hwp
        exact ⟨12, n, o, h1, h2.1, h2.2⟩
      · cases hp
    · cases hp
end LE

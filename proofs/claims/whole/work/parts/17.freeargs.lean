/-! Calls on a fresh object whose arguments are free. -/
section OP
variable {L : Nat} {xs : Nat → Int32} {d : Nat} {M : ai_M} {Q : ai_O → Prop} {pc len : Nat} {lv lv' : ai_L} {st st' : List Value} {S S' : ai_S} {i : Instr}
/-- a call that throws, caught here -/
theorem aw_cx {x mi na ci a hh : Nat} {k9 : Fin 4} {E : String} (args rest : List Value) (ha : ai_at M pc = some (.invokevirtual x, len)) (hm : ai_mth (ai_oi M) x = some (0, mi, na, ci)) (hst : st = args.reverse ++ .ref a :: rest) (hl : args.length = na) (hs : ai_sum rest ≤ 8) (ho : ∃ fs, ai_obj S a ci = some fs) (hr : ai_run L xs d mi (.ref a :: args) S (.inr E, S')) (hh1 : ai_hand M pc E = some hh) (hh2 : ai_at M hh = some (.astore_n k9, 1)) (h3 : (k9 : Nat) < lv.length) (h4 : ai_isl (lv.getD ((k9 : Nat) - 1) none) = false)
    (k : ai_aw L xs d M Q (hh + 1, lv.set k9 none, [], S')) : ai_aw L xs d M Q (pc, lv, st, S) := by
  obtain ⟨fs, ho⟩ := ho
  subst hst
  refine aw_callV (rest := rest) ha hm (Or.inl rfl) ?_ ?_ hs ho rfl ⟨(.inr E, S'), ?_, ?_⟩
  · rw [List.drop_left' (by rw [List.length_reverse, hl])]
  · rw [List.length_append, List.length_reverse, hl]; exact Nat.le_add_right _ _
  · rw [List.take_left' (by rw [List.length_reverse, hl]), List.reverse_reverse]; exact hr
  · simp only [ai_back, hh1, hh2]
    exact ⟨trivial, h3, Or.inr h4, k⟩
/-- after a throw: one cell more, six slots more -/
def ai_th (S : ai_S) : ai_S := (S.1, S.2.1 + 1, S.2.2.1 + 6, S.2.2.2)
theorem ai_obj_th {a c : Nat} : ai_obj (ai_th S) a c = ai_obj S a c := rfl
theorem ai_arr_th {a c : Nat} : ai_arr (ai_th S) a c = ai_arr S a c := rfl
theorem ai_arrJ_th {a c : Nat} : ai_arrJ (ai_th S) a c = ai_arrJ S a c := rfl
theorem at_6_0 : ai_at ai_m6 0 = some (.aload_n 0, 1) := rfl
theorem at_6_1 : ai_at ai_m6 1 = some (.getfield 40, 3) := rfl
theorem at_6_4 : ai_at ai_m6 4 = some (.getfield 109, 3) := rfl
theorem at_6_7 : ai_at ai_m6 7 = some (.iload_n 1, 1) := rfl
theorem at_6_8 : ai_at ai_m6 8 = some (.iload_n 2, 1) := rfl
theorem at_6_9 : ai_at ai_m6 9 = some (.bipush 62, 2) := rfl
theorem at_6_11 : ai_at ai_m6 11 = some (.invokevirtual 112, 3) := rfl
theorem at_6_14 : ai_at ai_m6 14 = some (.ireturn, 1) := rfl
theorem at_7_0 : ai_at ai_m7 0 = some (.aload_n 0, 1) := rfl
theorem at_7_1 : ai_at ai_m7 1 = some (.getfield 40, 3) := rfl
theorem at_7_4 : ai_at ai_m7 4 = some (.getfield 81, 3) := rfl
theorem at_7_7 : ai_at ai_m7 7 = some (.iload_n 1, 1) := rfl
theorem at_7_8 : ai_at ai_m7 8 = some (.iload_n 2, 1) := rfl
theorem at_7_9 : ai_at ai_m7 9 = some (.bipush 61, 2) := rfl
theorem at_7_11 : ai_at ai_m7 11 = some (.invokevirtual 112, 3) := rfl
theorem at_7_14 : ai_at ai_m7 14 = some (.ireturn, 1) := rfl
theorem at_8_0 : ai_at ai_m8 0 = some (.iload_n 1, 1) := rfl
theorem at_8_1 : ai_at ai_m8 1 = some (.ifCond .lt 26, 3) := rfl
theorem at_8_4 : ai_at ai_m8 4 = some (.iload_n 1, 1) := rfl
theorem at_8_5 : ai_at ai_m8 5 = some (.aload_n 0, 1) := rfl
theorem at_8_6 : ai_at ai_m8 6 = some (.getfield 19, 3) := rfl
theorem at_8_9 : ai_at ai_m8 9 = some (.getfield 68, 3) := rfl
theorem at_8_12 : ai_at ai_m8 12 = some (.if_icmp .ge 15, 3) := rfl
theorem at_8_27 : ai_at ai_m8 27 = some (.iconst 0, 1) := rfl
theorem at_8_28 : ai_at ai_m8 28 = some (.ireturn, 1) := rfl
theorem at_10_0 : ai_at ai_m10 0 = some (.iload_n 1, 1) := rfl
theorem at_10_1 : ai_at ai_m10 1 = some (.bipush 97, 2) := rfl
theorem at_10_3 : ai_at ai_m10 3 = some (.if_icmp .lt 18, 3) := rfl
theorem at_10_6 : ai_at ai_m10 6 = some (.iload_n 1, 1) := rfl
theorem at_10_7 : ai_at ai_m10 7 = some (.bipush 104, 2) := rfl
theorem at_10_9 : ai_at ai_m10 9 = some (.if_icmp .gt 12, 3) := rfl
theorem at_10_12 : ai_at ai_m10 12 = some (.iload_n 2, 1) := rfl
theorem at_10_13 : ai_at ai_m10 13 = some (.ifCond .lt 8, 3) := rfl
theorem at_10_16 : ai_at ai_m10 16 = some (.iload_n 2, 1) := rfl
theorem at_10_17 : ai_at ai_m10 17 = some (.iconst 2, 1) := rfl
theorem at_10_18 : ai_at ai_m10 18 = some (.if_icmp .le 13, 3) := rfl
theorem at_10_21 : ai_at ai_m10 21 = some (.new 44, 3) := rfl
theorem at_13_0 : ai_at ai_m13 0 = some (.iload_n 1, 1) := rfl
theorem at_13_1 : ai_at ai_m13 1 = some (.ifCond .lt 9, 3) := rfl
theorem at_13_4 : ai_at ai_m13 4 = some (.iload_n 1, 1) := rfl
theorem at_13_5 : ai_at ai_m13 5 = some (.bipush 20, 2) := rfl
theorem at_13_7 : ai_at ai_m13 7 = some (.if_icmp .le 13, 3) := rfl
theorem at_13_10 : ai_at ai_m13 10 = some (.new 44, 3) := rfl
theorem at_54_0 : ai_at ai_m54 0 = some (.iload_n 1, 1) := rfl
theorem at_54_1 : ai_at ai_m54 1 = some (.ifCond .lt 25, 3) := rfl
theorem at_54_4 : ai_at ai_m54 4 = some (.iload_n 1, 1) := rfl
theorem at_54_5 : ai_at ai_m54 5 = some (.aload_n 0, 1) := rfl
theorem at_54_6 : ai_at ai_m54 6 = some (.getfield 9, 3) := rfl
theorem at_54_9 : ai_at ai_m54 9 = some (.if_icmp .ge 17, 3) := rfl
theorem at_54_26 : ai_at ai_m54 26 = some (.iconst 0, 1) := rfl
theorem at_54_27 : ai_at ai_m54 27 = some (.ireturn, 1) := rfl
theorem at_91_0 : ai_at ai_m91 0 = some (.aload_n 0, 1) := rfl
theorem at_91_1 : ai_at ai_m91 1 = some (.iload_n 1, 1) := rfl
theorem at_91_2 : ai_at ai_m91 2 = some (.iload_n 2, 1) := rfl
theorem at_91_3 : ai_at ai_m91 3 = some (.invokevirtual 7, 3) := rfl
theorem at_91_9 : ai_at ai_m91 9 = some (.astore_n 3, 1) := rfl
theorem at_91_10 : ai_at ai_m91 10 = some (.iconst 1, 1) := rfl
theorem at_91_11 : ai_at ai_m91 11 = some (.ireturn, 1) := rfl
theorem at_93_0 : ai_at ai_m93 0 = some (.aload_n 2, 1) := rfl
theorem at_93_1 : ai_at ai_m93 1 = some (.iconst 0, 1) := rfl
theorem at_93_2 : ai_at ai_m93 2 = some (.aload_n 0, 1) := rfl
theorem at_93_3 : ai_at ai_m93 3 = some (.iload_n 1, 1) := rfl
theorem at_93_4 : ai_at ai_m93 4 = some (.invokevirtual 21, 3) := rfl
theorem at_93_12 : ai_at ai_m93 12 = some (.astore_n 3, 1) := rfl
theorem at_93_13 : ai_at ai_m93 13 = some (.iconst 1, 1) := rfl
theorem at_93_14 : ai_at ai_m93 14 = some (.ireturn, 1) := rfl
theorem at_97_0 : ai_at ai_m97 0 = some (.aload_n 0, 1) := rfl
theorem at_97_1 : ai_at ai_m97 1 = some (.getfield 68, 3) := rfl
theorem at_97_4 : ai_at ai_m97 4 = some (.ireturn, 1) := rfl
theorem at_98_0 : ai_at ai_m98 0 = some (.iload_n 1, 1) := rfl
theorem at_98_1 : ai_at ai_m98 1 = some (.bipush 97, 2) := rfl
theorem at_98_3 : ai_at ai_m98 3 = some (.isub, 1) := rfl
theorem at_98_4 : ai_at ai_m98 4 = some (.istore_n 3, 1) := rfl
theorem at_98_5 : ai_at ai_m98 5 = some (.iload_n 3, 1) := rfl
theorem at_98_6 : ai_at ai_m98 6 = some (.ifCond .lt 18, 3) := rfl
theorem at_98_9 : ai_at ai_m98 9 = some (.iload_n 3, 1) := rfl
theorem at_98_10 : ai_at ai_m98 10 = some (.bipush 7, 2) := rfl
theorem at_98_12 : ai_at ai_m98 12 = some (.if_icmp .gt 12, 3) := rfl
theorem at_98_15 : ai_at ai_m98 15 = some (.iload_n 2, 1) := rfl
theorem at_98_16 : ai_at ai_m98 16 = some (.ifCond .lt 8, 3) := rfl
theorem at_98_19 : ai_at ai_m98 19 = some (.iload_n 2, 1) := rfl
theorem at_98_20 : ai_at ai_m98 20 = some (.iconst 2, 1) := rfl
theorem at_98_21 : ai_at ai_m98 21 = some (.if_icmp .le 7, 3) := rfl
theorem at_98_24 : ai_at ai_m98 24 = some (.iconst 1, 1) := rfl
theorem at_98_25 : ai_at ai_m98 25 = some (.goto 4, 3) := rfl
theorem at_98_29 : ai_at ai_m98 29 = some (.istore 4, 2) := rfl
theorem at_98_31 : ai_at ai_m98 31 = some (.aload_n 0, 1) := rfl
theorem at_98_32 : ai_at ai_m98 32 = some (.iload 4, 2) := rfl
theorem at_98_34 : ai_at ai_m98 34 = some (.iload 4, 2) := rfl
theorem at_98_36 : ai_at ai_m98 36 = some (.ifCond .ne 16, 3) := rfl
theorem at_98_52 : ai_at ai_m98 52 = some (.iconst 0, 1) := rfl
theorem at_98_53 : ai_at ai_m98 53 = some (.invokevirtual 72, 3) := rfl
theorem at_98_56 : ai_at ai_m98 56 = some (.ifCond .eq 4, 3) := rfl
theorem at_98_59 : ai_at ai_m98 59 = some (.return_, 1) := rfl
theorem at_99_0 : ai_at ai_m99 0 = some (.aload_n 0, 1) := rfl
theorem at_99_1 : ai_at ai_m99 1 = some (.iload_n 1, 1) := rfl
theorem at_99_2 : ai_at ai_m99 2 = some (.ifCond .eq 7, 3) := rfl
theorem at_99_5 : ai_at ai_m99 5 = some (.iconst 1, 1) := rfl
theorem at_99_6 : ai_at ai_m99 6 = some (.goto 12, 3) := rfl
theorem at_99_18 : ai_at ai_m99 18 = some (.putfield 68, 3) := rfl
theorem at_99_21 : ai_at ai_m99 21 = some (.aload_n 0, 1) := rfl
theorem at_99_22 : ai_at ai_m99 22 = some (.getfield 68, 3) := rfl
theorem at_99_25 : ai_at ai_m99 25 = some (.ifCond .le 7, 3) := rfl
theorem at_99_28 : ai_at ai_m99 28 = some (.iconst 1, 1) := rfl
theorem at_99_29 : ai_at ai_m99 29 = some (.goto 4, 3) := rfl
theorem at_99_33 : ai_at ai_m99 33 = some (.ireturn, 1) := rfl
theorem at_103_0 : ai_at ai_m103 0 = some (.aload_n 0, 1) := rfl
theorem at_103_1 : ai_at ai_m103 1 = some (.iconst 0, 1) := rfl
theorem at_103_2 : ai_at ai_m103 2 = some (.putfield 68, 3) := rfl
theorem at_103_5 : ai_at ai_m103 5 = some (.iload_n 1, 1) := rfl
theorem at_103_6 : ai_at ai_m103 6 = some (.ifCond .lt 21, 3) := rfl
theorem at_103_9 : ai_at ai_m103 9 = some (.iload_n 1, 1) := rfl
theorem at_103_10 : ai_at ai_m103 10 = some (.aload_n 0, 1) := rfl
theorem at_103_11 : ai_at ai_m103 11 = some (.getfield 85, 3) := rfl
theorem at_103_14 : ai_at ai_m103 14 = some (.if_icmp .ge 13, 3) := rfl
theorem at_103_27 : ai_at ai_m103 27 = some (.iconst 0, 1) := rfl
theorem at_103_28 : ai_at ai_m103 28 = some (.ireturn, 1) := rfl
theorem at_112_0 : ai_at ai_m112 0 = some (.aload_n 0, 1) := rfl
theorem at_112_1 : ai_at ai_m112 1 = some (.iload_n 1, 1) := rfl
theorem at_112_2 : ai_at ai_m112 2 = some (.ifCond .lt 9, 3) := rfl
theorem at_112_5 : ai_at ai_m112 5 = some (.iload_n 1, 1) := rfl
theorem at_112_6 : ai_at ai_m112 6 = some (.bipush 20, 2) := rfl
theorem at_112_8 : ai_at ai_m112 8 = some (.if_icmp .le 7, 3) := rfl
theorem at_112_11 : ai_at ai_m112 11 = some (.iconst 1, 1) := rfl
theorem at_112_12 : ai_at ai_m112 12 = some (.goto 4, 3) := rfl
theorem at_112_16 : ai_at ai_m112 16 = some (.iconst 0, 1) := rfl
theorem at_112_17 : ai_at ai_m112 17 = some (.invokevirtual 72, 3) := rfl
theorem at_112_20 : ai_at ai_m112 20 = some (.ifCond .eq 5, 3) := rfl
theorem at_112_23 : ai_at ai_m112 23 = some (.iconst 0, 1) := rfl
theorem at_112_24 : ai_at ai_m112 24 = some (.ireturn, 1) := rfl
theorem at_151_0 : ai_at ai_m151 0 = some (.aload_n 0, 1) := rfl
theorem at_151_1 : ai_at ai_m151 1 = some (.iconst 0, 1) := rfl
theorem at_151_2 : ai_at ai_m151 2 = some (.putfield 68, 3) := rfl
theorem at_151_5 : ai_at ai_m151 5 = some (.iload_n 1, 1) := rfl
theorem at_151_6 : ai_at ai_m151 6 = some (.ifCond .lt 11, 3) := rfl
theorem at_151_9 : ai_at ai_m151 9 = some (.iload_n 1, 1) := rfl
theorem at_151_10 : ai_at ai_m151 10 = some (.aload_n 0, 1) := rfl
theorem at_151_11 : ai_at ai_m151 11 = some (.getfield 113, 3) := rfl
theorem at_151_14 : ai_at ai_m151 14 = some (.if_icmp .lt 5, 3) := rfl
theorem at_151_17 : ai_at ai_m151 17 = some (.iconst 0, 1) := rfl
theorem at_151_18 : ai_at ai_m151 18 = some (.ireturn, 1) := rfl
theorem at_154_0 : ai_at ai_m154 0 = some (.aload_n 0, 1) := rfl
theorem at_154_1 : ai_at ai_m154 1 = some (.iconst 0, 1) := rfl
theorem at_154_2 : ai_at ai_m154 2 = some (.putfield 68, 3) := rfl
theorem at_154_5 : ai_at ai_m154 5 = some (.iload_n 1, 1) := rfl
theorem at_154_6 : ai_at ai_m154 6 = some (.ifCond .lt 11, 3) := rfl
theorem at_154_9 : ai_at ai_m154 9 = some (.iload_n 1, 1) := rfl
theorem at_154_10 : ai_at ai_m154 10 = some (.aload_n 0, 1) := rfl
theorem at_154_11 : ai_at ai_m154 11 = some (.getfield 106, 3) := rfl
theorem at_154_14 : ai_at ai_m154 14 = some (.if_icmp .lt 5, 3) := rfl
theorem at_154_17 : ai_at ai_m154 17 = some (.iconst 0, 1) := rfl
theorem at_154_18 : ai_at ai_m154 18 = some (.ireturn, 1) := rfl
theorem fl_0_19 : ai_fld 0 19 = some (0, 1, false) := by decide +kernel
theorem fl_0_40 : ai_fld 0 40 = some (0, 3, false) := by decide +kernel
theorem fl_0_68 : ai_fld 0 68 = some (2, 1, true) := by decide +kernel
theorem fl_0_81 : ai_fld 0 81 = some (5, 1, true) := by decide +kernel
theorem fl_0_109 : ai_fld 0 109 = some (5, 0, true) := by decide +kernel
theorem fl_5_9 : ai_fld 5 9 = some (6, 1, false) := by decide +kernel
theorem fl_12_68 : ai_fld 12 68 = some (11, 0, false) := by decide +kernel
theorem fl_12_85 : ai_fld 12 85 = some (11, 4, false) := by decide +kernel
theorem fl_12_106 : ai_fld 12 106 = some (11, 10, false) := by decide +kernel
theorem fl_12_113 : ai_fld 12 113 = some (11, 6, false) := by decide +kernel
theorem mt_0_112 : ai_mth 0 112 = some (0, 54, 3, 6) := by decide +kernel
theorem mt_11_7 : ai_mth 11 7 = some (0, 10, 2, 0) := by decide +kernel
theorem mt_11_21 : ai_mth 11 21 = some (0, 13, 1, 0) := by decide +kernel
theorem mt_12_72 : ai_mth 12 72 = some (0, 99, 2, 11) := by decide +kernel
theorem i32_good {c p : Int32} (z1 : ¬ c < (Int8.ofInt 97).toInt32) (z2 : ¬ (Int8.ofInt 104).toInt32 < c) (z3 : ¬ p < 0) (z4 : p ≤ Int32.ofInt 2) : ¬ (c < 97 ∨ 104 < c ∨ p < 0 ∨ 2 < p) := by
  rintro (h | h | h | h)
  · exact z1 h
  · exact z2 h
  · exact z3 h
  · exact absurd (Int32.lt_of_lt_of_le h z4) (by decide)
theorem r_declare_bad {a : Nat} {c p : Int32} (hb : c < 97 ∨ 104 < c ∨ p < 0 ∨ 2 < p) : ai_run L xs (d + 1) 10 [.ref a, .int c, .int p] S (.inr "java/lang/IllegalArgumentException", ai_th S) := by
  suffices h : ai_aw L xs d ai_m10 (fun o => o = (.inr "java/lang/IllegalArgumentException", ai_th S)) (0, ai_in ai_m10 [.ref a, .int c, .int p], [], S) by
    obtain ⟨o, h1, rfl⟩ := ai_run_of (mi := 10) rfl (by decide) (Nat.le_of_ble_eq_true rfl) h
    exact h1
  have k21 : ai_aw L xs d ai_m10 (fun o => o = (.inr "java/lang/IllegalArgumentException", ai_th S)) (21, ai_in ai_m10 [.ref a, .int c, .int p], [], S) := aw_throw at_10_21 rfl (Nat.le_of_ble_eq_true rfl) rfl
  refine aw_loc at_10_0 rfl rfl ?_
  refine aw_pure at_10_1 rfl rfl ?_
  refine aw_icmp at_10_3 (fun _ => k21) (fun z1 => ?_)
  refine aw_loc at_10_6 rfl rfl ?_
  refine aw_pure at_10_7 rfl rfl ?_
  refine aw_icmp at_10_9 (fun _ => k21) (fun z2 => ?_)
  refine aw_loc at_10_12 rfl rfl ?_
  refine aw_if at_10_13 (fun _ => k21) (fun z3 => ?_)
  refine aw_loc at_10_16 rfl rfl ?_
  refine aw_pure at_10_17 rfl rfl ?_
  refine aw_icmp at_10_18 (fun z4 => ?_) (fun _ => k21)
  exact absurd hb (i32_good z1 z2 z3 z4)
theorem hd_91 : ai_hand ai_m91 3 "java/lang/IllegalArgumentException" = some 9 := by decide +kernel
theorem r_h_declare_bad {a : Nat} {c p : Int32} (hb : c < 97 ∨ 104 < c ∨ p < 0 ∨ 2 < p) (ho : ∃ fs, ai_obj S a 0 = some fs) : ai_rn L xs (d + 2) 91 [.ref a, .int c, .int p] S (fun v S' => v = some (.int 1) ∧ S' = ai_th S) := by
  refine ai_rn_of (M := ai_m91) rfl (by decide) (Nat.le_of_ble_eq_true rfl) ?_
  refine aw_loc at_91_0 rfl rfl ?_
  refine aw_loc at_91_1 rfl rfl ?_
  refine aw_loc at_91_2 rfl rfl ?_
  refine aw_cx (a := a) [.int c, .int p] [] at_91_3 mt_11_7 rfl rfl (Nat.le_of_ble_eq_true rfl) ho (r_declare_bad hb) hd_91 at_91_9 (show (3 : Nat) < 4 by decide) rfl ?_
  refine aw_pure at_91_10 rfl rfl ?_
  exact aw_ret at_91_11 rfl rfl ⟨_, _, rfl, rfl, rfl⟩
theorem r_refuses1 {T two : Int32} {r : List Value} (ho : ai_obj S 432 11 = some (.int T :: r)) (hl : 432 < S.1) : ai_rn L xs (d + 1) 99 [.ref 432, .int 1, .int two] S (fun v S' => v = some (.int 1) ∧ S' = ai_wr S 432 (.inr (11, .int 1 :: r))) := by
  refine ai_rn_of (M := ai_m99) rfl (by decide) (Nat.le_of_ble_eq_true rfl) ?_
  refine aw_loc at_99_0 rfl rfl ?_
  refine aw_loc at_99_1 rfl rfl ?_
  refine aw_if at_99_2 (fun z => absurd z (by unfold ai_cmp; decide)) (fun _ => ?_)
  refine aw_pure at_99_5 rfl rfl ?_
  refine aw_goto at_99_6 ?_
  refine aw_put at_99_18 rfl fl_12_68 ho (Nat.succ_pos _) rfl (by decide +kernel) ?_
  have ho2 : ai_obj (ai_wr S 432 (.inr (11, (Value.int T :: r).set 0 (.int (Int32.ofInt 1))))) 432 11 = some (Value.int 1 :: r) := ai_obj_wrS hl
  refine aw_loc at_99_21 rfl rfl ?_
  refine aw_get at_99_22 rfl fl_12_68 ho2 rfl ?_
  refine aw_if at_99_25 (fun z => absurd z (by unfold ai_cmp; decide)) (fun _ => ?_)
  refine aw_pure at_99_28 rfl rfl ?_
  refine aw_goto at_99_29 ?_
  exact aw_ret at_99_33 rfl rfl ⟨_, _, rfl, rfl, rfl⟩
theorem r_thrown {T : Int32} {r : List Value} (ho : ai_obj S 432 11 = some (.int T :: r)) : ai_rn L xs (d + 1) 97 [.ref 432] S (fun v S' => v = some (.int T) ∧ S' = S) := by
  refine ai_rn_of (M := ai_m97) rfl (by decide) (Nat.le_of_ble_eq_true rfl) ?_
  refine aw_loc at_97_0 rfl rfl ?_
  refine aw_get at_97_1 rfl fl_12_68 ho rfl ?_
  exact aw_ret at_97_4 rfl rfl ⟨_, _, rfl, rfl, rfl⟩
theorem i32_good2 {c p : Int32} (hc : 0 ≤ c.toInt ∧ c.toInt < 65536) (z1 : ¬ c - (Int8.ofInt 97).toInt32 < 0) (z2 : ¬ (Int8.ofInt 7).toInt32 < c - (Int8.ofInt 97).toInt32) (z3 : ¬ p < 0) (z4 : p ≤ Int32.ofInt 2) : ¬ (c < 97 ∨ 104 < c ∨ p < 0 ∨ 2 < p) := by
  have h1 : (c - (Int8.ofInt 97).toInt32).toInt = c.toInt - 97 := by
    rw [Int32.toInt_sub, show ((Int8.ofInt 97).toInt32).toInt = 97 from rfl]
    exact Int.bmod_eq_of_le (by omega) (by omega)
  rw [Int32.lt_iff_toInt_lt, h1, show (0 : Int32).toInt = 0 from rfl] at z1
  rw [Int32.lt_iff_toInt_lt, h1, show ((Int8.ofInt 7).toInt32).toInt = 7 from rfl] at z2
  rintro (h | h | h | h)
  · rw [Int32.lt_iff_toInt_lt, show (97 : Int32).toInt = 97 from rfl] at h; omega
  · rw [Int32.lt_iff_toInt_lt, show (104 : Int32).toInt = 104 from rfl] at h; omega
  · exact z3 h
  · exact absurd (Int32.lt_of_lt_of_le h z4) (by decide)
theorem r_m_declare_bad {c p T : Int32} {r : List Value} (hc : 0 ≤ c.toInt ∧ c.toInt < 65536) (hb : c < 97 ∨ 104 < c ∨ p < 0 ∨ 2 < p) (ho : ai_obj S 432 11 = some (.int T :: r)) (hl : 432 < S.1) : ai_rn L xs (d + 2) 98 [.ref 432, .int c, .int p] S (fun v S' => v = none ∧ S' = ai_wr S 432 (.inr (11, .int 1 :: r))) := by
  refine ai_rn_of (M := ai_m98) rfl (by decide) (Nat.le_of_ble_eq_true rfl) ?_
  refine aw_loc at_98_0 rfl rfl ?_
  refine aw_pure at_98_1 rfl rfl ?_
  refine aw_pure at_98_3 rfl rfl ?_
  refine aw_loc at_98_4 rfl rfl ?_
  have k24 : ai_aw L xs (d + 1) ai_m98 (fun o => ∃ v S', o = (.inl v, S') ∧ v = none ∧ S' = ai_wr S 432 (.inr (11, .int 1 :: r))) (24, [some (.ref 432), some (.int c), some (.int p), some (.int (c - (Int8.ofInt 97).toInt32)), none], [], S) := by
    refine aw_pure at_98_24 rfl rfl ?_
    refine aw_goto at_98_25 ?_
    refine aw_loc at_98_29 rfl rfl ?_
    refine aw_loc at_98_31 rfl rfl ?_
    refine aw_loc at_98_32 rfl rfl ?_
    refine aw_loc at_98_34 rfl rfl ?_
    refine aw_if at_98_36 (fun _ => ?_) (fun z => absurd (by unfold ai_cmp; decide) z)
    refine aw_pure at_98_52 rfl rfl ?_
    refine aw_cv (a := 432) [.int 1, .int 0] [] at_98_53 mt_12_72 (Or.inl rfl) rfl rfl (Nat.le_of_ble_eq_true rfl) ⟨_, ho⟩ ((r_refuses1 ho hl).mono ?_)
    rintro v S' ⟨rfl, rfl⟩
    refine aw_if at_98_56 (fun z => absurd z (by unfold ai_cmp; decide)) (fun _ => ?_)
    exact aw_vret at_98_59 rfl ⟨_, _, rfl, rfl, rfl⟩
  refine aw_loc at_98_5 rfl rfl ?_
  refine aw_if at_98_6 (fun _ => k24) (fun z1 => ?_)
  refine aw_loc at_98_9 rfl rfl ?_
  refine aw_pure at_98_10 rfl rfl ?_
  refine aw_icmp at_98_12 (fun _ => k24) (fun z2 => ?_)
  refine aw_loc at_98_15 rfl rfl ?_
  refine aw_if at_98_16 (fun _ => k24) (fun z3 => ?_)
  refine aw_loc at_98_19 rfl rfl ?_
  refine aw_pure at_98_20 rfl rfl ?_
  refine aw_icmp at_98_21 (fun z4 => ?_) (fun _ => k24)
  exact absurd hb (i32_good2 hc z1 z2 z3 z4)
theorem i32_good3 {c : Int32} (z1 : ¬ c < 0) (z2 : c ≤ (Int8.ofInt 20).toInt32) : ¬ (c < 0 ∨ 20 < c) := by
  rintro (h | h)
  · exact z1 h
  · exact absurd (Int32.lt_of_lt_of_le h z2) (by decide)
theorem r_complete_bad {a : Nat} {c : Int32} (hb : c < 0 ∨ 20 < c) : ai_run L xs (d + 1) 13 [.ref a, .int c] S (.inr "java/lang/IllegalArgumentException", ai_th S) := by
  suffices h : ai_aw L xs d ai_m13 (fun o => o = (.inr "java/lang/IllegalArgumentException", ai_th S)) (0, ai_in ai_m13 [.ref a, .int c], [], S) by
    obtain ⟨o, h1, rfl⟩ := ai_run_of (mi := 13) rfl (by decide) (Nat.le_of_ble_eq_true rfl) h
    exact h1
  have k10 : ai_aw L xs d ai_m13 (fun o => o = (.inr "java/lang/IllegalArgumentException", ai_th S)) (10, ai_in ai_m13 [.ref a, .int c], [], S) := aw_throw at_13_10 rfl (Nat.le_of_ble_eq_true rfl) rfl
  refine aw_loc at_13_0 rfl rfl ?_
  refine aw_if at_13_1 (fun _ => k10) (fun z1 => ?_)
  refine aw_loc at_13_4 rfl rfl ?_
  refine aw_pure at_13_5 rfl rfl ?_
  refine aw_icmp at_13_7 (fun z2 => ?_) (fun _ => k10)
  exact absurd hb (i32_good3 z1 z2)
theorem hd_93 : ai_hand ai_m93 4 "java/lang/IllegalArgumentException" = some 12 := by decide +kernel
theorem r_h_complete_bad {a b : Nat} {c : Int32} (hb : c < 0 ∨ 20 < c) (ho : ∃ fs, ai_obj S a 0 = some fs) : ai_rn L xs (d + 2) 93 [.ref a, .int c, .ref b] S (fun v S' => v = some (.int 1) ∧ S' = ai_th S) := by
  refine ai_rn_of (M := ai_m93) rfl (by decide) (Nat.le_of_ble_eq_true rfl) ?_
  refine aw_loc at_93_0 rfl rfl ?_
  refine aw_pure at_93_1 rfl rfl ?_
  refine aw_loc at_93_2 rfl rfl ?_
  refine aw_loc at_93_3 rfl rfl ?_
  refine aw_cx (a := a) [.int c] [.int 0, .ref b] at_93_4 mt_11_21 rfl rfl (Nat.le_of_ble_eq_true rfl) ho (r_complete_bad hb) hd_93 at_93_12 (show (3 : Nat) < 4 by decide) rfl ?_
  refine aw_pure at_93_13 rfl rfl ?_
  exact aw_ret at_93_14 rfl rfl ⟨_, _, rfl, rfl, rfl⟩
theorem r_m_complete_bad {c T : Int32} {r : List Value} (hb : c < 0 ∨ 20 < c) (ho : ai_obj S 432 11 = some (.int T :: r)) (hl : 432 < S.1) : ai_rn L xs (d + 2) 112 [.ref 432, .int c] S (fun v S' => v = some (.int 0) ∧ S' = ai_wr S 432 (.inr (11, .int 1 :: r))) := by
  refine ai_rn_of (M := ai_m112) rfl (by decide) (Nat.le_of_ble_eq_true rfl) ?_
  have k11 : ai_aw L xs (d + 1) ai_m112 (fun o => ∃ v S', o = (.inl v, S') ∧ v = some (.int 0) ∧ S' = ai_wr S 432 (.inr (11, .int 1 :: r))) (11, ai_in ai_m112 [.ref 432, .int c], [.ref 432], S) := by
    refine aw_pure at_112_11 rfl rfl ?_
    refine aw_goto at_112_12 ?_
    refine aw_pure at_112_16 rfl rfl ?_
    refine aw_cv (a := 432) [.int 1, .int 0] [] at_112_17 mt_12_72 (Or.inl rfl) rfl rfl (Nat.le_of_ble_eq_true rfl) ⟨_, ho⟩ ((r_refuses1 ho hl).mono ?_)
    rintro v S' ⟨rfl, rfl⟩
    refine aw_if at_112_20 (fun z => absurd z (by unfold ai_cmp; decide)) (fun _ => ?_)
    refine aw_pure at_112_23 rfl rfl ?_
    exact aw_ret at_112_24 rfl rfl ⟨_, _, rfl, rfl, rfl⟩
  refine aw_loc at_112_0 rfl rfl ?_
  refine aw_loc at_112_1 rfl rfl ?_
  refine aw_if at_112_2 (fun _ => k11) (fun z1 => ?_)
  refine aw_loc at_112_5 rfl rfl ?_
  refine aw_pure at_112_6 rfl rfl ?_
  refine aw_icmp at_112_8 (fun z2 => ?_) (fun _ => k11)
  exact absurd hb (i32_good3 z1 z2)
theorem r_chr0 {a p : Nat} {k i bt : Int32} (ho : ai_obj S a 6 = some [.ref p, .int 0]) : ai_rn L xs (d + 1) 54 [.ref a, .int k, .int i, .int bt] S (fun v S' => v = some (.int 0) ∧ S' = S) := by
  refine ai_rn_of (M := ai_m54) rfl (by decide) (Nat.le_of_ble_eq_true rfl) ?_
  have k26 : ai_aw L xs d ai_m54 (fun o => ∃ v S', o = (.inl v, S') ∧ v = some (.int 0) ∧ S' = S) (26, ai_in ai_m54 [.ref a, .int k, .int i, .int bt], [], S) := by
    refine aw_pure at_54_26 rfl rfl ?_
    exact aw_ret at_54_27 rfl rfl ⟨_, _, rfl, rfl, rfl⟩
  refine aw_loc at_54_0 rfl rfl ?_
  refine aw_if at_54_1 (fun _ => k26) (fun z1 => ?_)
  refine aw_loc at_54_4 rfl rfl ?_
  refine aw_loc at_54_5 rfl rfl ?_
  refine aw_get at_54_6 rfl fl_5_9 ho rfl ?_
  refine aw_icmp at_54_9 (fun _ => k26) (fun z2 => absurd (Int32.not_lt.mp z1) z2)
theorem r_rule0 {a b c x1 : Nat} {r : List Value} {k i : Int32} (ho : ai_obj S 0 0 = some [.ref a, .ref b, .ref c, .ref 11]) (he : ai_obj S 11 5 = some (.ref 12 :: .ref 84 :: r)) (hp : ai_obj S 12 6 = some [.ref x1, .int 0]) : ai_rn L xs (d + 2) 6 [.ref 0, .int k, .int i] S (fun v S' => v = some (.int 0) ∧ S' = S) := by
  refine ai_rn_of (M := ai_m6) rfl (by decide) (Nat.le_of_ble_eq_true rfl) ?_
  refine aw_loc at_6_0 rfl rfl ?_
  refine aw_get at_6_1 rfl fl_0_40 ho rfl ?_
  refine aw_get at_6_4 rfl fl_0_109 he rfl ?_
  refine aw_loc at_6_7 rfl rfl ?_
  refine aw_loc at_6_8 rfl rfl ?_
  refine aw_pure at_6_9 rfl rfl ?_
  refine aw_cv (a := 12) [.int k, .int i, .int 62] [] at_6_11 mt_0_112 (Or.inl rfl) rfl rfl (Nat.le_of_ble_eq_true rfl) ⟨_, hp⟩ ((r_chr0 hp).mono ?_)
  rintro v S' ⟨rfl, rfl⟩
  exact aw_ret at_6_14 rfl rfl ⟨_, _, rfl, rfl, rfl⟩
theorem r_eqAt0 {a b c x1 : Nat} {r : List Value} {k i : Int32} (ho : ai_obj S 0 0 = some [.ref a, .ref b, .ref c, .ref 11]) (he : ai_obj S 11 5 = some (.ref 12 :: .ref 84 :: r)) (hp : ai_obj S 84 6 = some [.ref x1, .int 0]) : ai_rn L xs (d + 2) 7 [.ref 0, .int k, .int i] S (fun v S' => v = some (.int 0) ∧ S' = S) := by
  refine ai_rn_of (M := ai_m7) rfl (by decide) (Nat.le_of_ble_eq_true rfl) ?_
  refine aw_loc at_7_0 rfl rfl ?_
  refine aw_get at_7_1 rfl fl_0_40 ho rfl ?_
  refine aw_get at_7_4 rfl fl_0_81 he rfl ?_
  refine aw_loc at_7_7 rfl rfl ?_
  refine aw_loc at_7_8 rfl rfl ?_
  refine aw_pure at_7_9 rfl rfl ?_
  refine aw_cv (a := 84) [.int k, .int i, .int 61] [] at_7_11 mt_0_112 (Or.inl rfl) rfl rfl (Nat.le_of_ble_eq_true rfl) ⟨_, hp⟩ ((r_chr0 hp).mono ?_)
  rintro v S' ⟨rfl, rfl⟩
  exact aw_ret at_7_14 rfl rfl ⟨_, _, rfl, rfl, rfl⟩
theorem r_m_rule0 {T k i : Int32} {r : List Value} (ho : ai_obj S 432 11 = some (.int T :: r)) (hl : 432 < S.1) (hz : (Value.int 0 :: r)[6]? = some (.int 0)) : ai_rn L xs (d + 1) 151 [.ref 432, .int k, .int i] S (fun v S' => v = some (.int 0) ∧ S' = ai_wr S 432 (.inr (11, .int 0 :: r))) := by
  refine ai_rn_of (M := ai_m151) rfl (by decide) (Nat.le_of_ble_eq_true rfl) ?_
  refine aw_loc at_151_0 rfl rfl ?_
  refine aw_pure at_151_1 rfl rfl ?_
  refine aw_put at_151_2 rfl fl_12_68 ho (Nat.succ_pos _) rfl (by decide +kernel) ?_
  have ho2 : ai_obj (ai_wr S 432 (.inr (11, (Value.int T :: r).set 0 (.int (Int32.ofInt 0))))) 432 11 = some (Value.int 0 :: r) := ai_obj_wrS hl
  have k17 : ai_aw L xs d ai_m151 (fun o => ∃ v S', o = (.inl v, S') ∧ v = some (.int 0) ∧ S' = ai_wr S 432 (.inr (11, .int 0 :: r))) (17, ai_in ai_m151 [.ref 432, .int k, .int i], [], ai_wr S 432 (.inr (11, .int 0 :: r))) := by
    refine aw_pure at_151_17 rfl rfl ?_
    exact aw_ret at_151_18 rfl rfl ⟨_, _, rfl, rfl, rfl⟩
  refine aw_loc at_151_5 rfl rfl ?_
  refine aw_if at_151_6 (fun _ => k17) (fun z1 => ?_)
  refine aw_loc at_151_9 rfl rfl ?_
  refine aw_loc at_151_10 rfl rfl ?_
  refine aw_get at_151_11 rfl fl_12_113 ho2 hz ?_
  refine aw_icmp at_151_14 (fun z2 => absurd z2 z1) (fun _ => k17)
theorem r_m_eqAt0 {T k i : Int32} {r : List Value} (ho : ai_obj S 432 11 = some (.int T :: r)) (hl : 432 < S.1) (hz : (Value.int 0 :: r)[10]? = some (.int 0)) : ai_rn L xs (d + 1) 154 [.ref 432, .int k, .int i] S (fun v S' => v = some (.int 0) ∧ S' = ai_wr S 432 (.inr (11, .int 0 :: r))) := by
  refine ai_rn_of (M := ai_m154) rfl (by decide) (Nat.le_of_ble_eq_true rfl) ?_
  refine aw_loc at_154_0 rfl rfl ?_
  refine aw_pure at_154_1 rfl rfl ?_
  refine aw_put at_154_2 rfl fl_12_68 ho (Nat.succ_pos _) rfl (by decide +kernel) ?_
  have ho2 : ai_obj (ai_wr S 432 (.inr (11, (Value.int T :: r).set 0 (.int (Int32.ofInt 0))))) 432 11 = some (Value.int 0 :: r) := ai_obj_wrS hl
  have k17 : ai_aw L xs d ai_m154 (fun o => ∃ v S', o = (.inl v, S') ∧ v = some (.int 0) ∧ S' = ai_wr S 432 (.inr (11, .int 0 :: r))) (17, ai_in ai_m154 [.ref 432, .int k, .int i], [], ai_wr S 432 (.inr (11, .int 0 :: r))) := by
    refine aw_pure at_154_17 rfl rfl ?_
    exact aw_ret at_154_18 rfl rfl ⟨_, _, rfl, rfl, rfl⟩
  refine aw_loc at_154_5 rfl rfl ?_
  refine aw_if at_154_6 (fun _ => k17) (fun z1 => ?_)
  refine aw_loc at_154_9 rfl rfl ?_
  refine aw_loc at_154_10 rfl rfl ?_
  refine aw_get at_154_11 rfl fl_12_106 ho2 hz ?_
  refine aw_icmp at_154_14 (fun z2 => absurd z2 z1) (fun _ => k17)
theorem r_m_draft0 {T k : Int32} {r : List Value} (ho : ai_obj S 432 11 = some (.int T :: r)) (hl : 432 < S.1) (hz : (Value.int 0 :: r)[4]? = some (.int 0)) : ai_rn L xs (d + 1) 103 [.ref 432, .int k] S (fun v S' => v = some (.int 0) ∧ S' = ai_wr S 432 (.inr (11, .int 0 :: r))) := by
  refine ai_rn_of (M := ai_m103) rfl (by decide) (Nat.le_of_ble_eq_true rfl) ?_
  refine aw_loc at_103_0 rfl rfl ?_
  refine aw_pure at_103_1 rfl rfl ?_
  refine aw_put at_103_2 rfl fl_12_68 ho (Nat.succ_pos _) rfl (by decide +kernel) ?_
  have ho2 : ai_obj (ai_wr S 432 (.inr (11, (Value.int T :: r).set 0 (.int (Int32.ofInt 0))))) 432 11 = some (Value.int 0 :: r) := ai_obj_wrS hl
  have k27 : ai_aw L xs d ai_m103 (fun o => ∃ v S', o = (.inl v, S') ∧ v = some (.int 0) ∧ S' = ai_wr S 432 (.inr (11, .int 0 :: r))) (27, ai_in ai_m103 [.ref 432, .int k], [], ai_wr S 432 (.inr (11, .int 0 :: r))) := by
    refine aw_pure at_103_27 rfl rfl ?_
    exact aw_ret at_103_28 rfl rfl ⟨_, _, rfl, rfl, rfl⟩
  refine aw_loc at_103_5 rfl rfl ?_
  refine aw_if at_103_6 (fun _ => k27) (fun z1 => ?_)
  refine aw_loc at_103_9 rfl rfl ?_
  refine aw_loc at_103_10 rfl rfl ?_
  refine aw_get at_103_11 rfl fl_12_85 ho2 hz ?_
  refine aw_icmp at_103_14 (fun _ => k27) (fun z2 => absurd (Int32.not_lt.mp z1) z2)
theorem r_draft0 {a b c p : Nat} {k : Int32} (ho : ai_obj S 0 0 = some [.ref a, .ref b, .ref c, .ref 11]) (hd2 : ai_obj S b 2 = some [.ref p, .int 0]) : ai_rn L xs (d + 1) 8 [.ref 0, .int k] S (fun v S' => v = some (.int 0) ∧ S' = S) := by
  refine ai_rn_of (M := ai_m8) rfl (by decide) (Nat.le_of_ble_eq_true rfl) ?_
  have k27 : ai_aw L xs d ai_m8 (fun o => ∃ v S', o = (.inl v, S') ∧ v = some (.int 0) ∧ S' = S) (27, ai_in ai_m8 [.ref 0, .int k], [], S) := by
    refine aw_pure at_8_27 rfl rfl ?_
    exact aw_ret at_8_28 rfl rfl ⟨_, _, rfl, rfl, rfl⟩
  refine aw_loc at_8_0 rfl rfl ?_
  refine aw_if at_8_1 (fun _ => k27) (fun z1 => ?_)
  refine aw_loc at_8_4 rfl rfl ?_
  refine aw_loc at_8_5 rfl rfl ?_
  refine aw_get at_8_6 rfl fl_0_19 ho rfl ?_
  refine aw_get at_8_9 rfl fl_0_68 hd2 rfl ?_
  refine aw_icmp at_8_12 (fun _ => k27) (fun z2 => absurd (Int32.not_lt.mp z1) z2)
end OP

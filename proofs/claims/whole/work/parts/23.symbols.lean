/-! The declared symbols of the landed code; where subterms end; a row filled. -/
section SY
variable {L : Nat} {xs : Nat → Int32} {d : Nat} {S : ai_S}
/-- the symbols: places, ranks, how many -/
def sy (S : ai_S) (P R : Nat → Int) (n : Int) : Prop := ai_obj S 1 1 = some [.ref 2, .ref 3, ax_i n] ∧ ai_arr S 2 0 = some (256, ax_f P) ∧ ai_arr S 3 0 = some (256, ax_f R)
def sy_put (S : ai_S) (P R : Nat → Int) (n : Int) : ai_S := ai_wr (ai_wr (ai_wr S 1 (.inr (1, [.ref 2, .ref 3, ax_i n]))) 3 (.inl (0, ai_I 256 (ax_f R)))) 2 (.inl (0, ai_I 256 (ax_f P)))
def at256 (P : Nat → Int) (c : Int) : Int := if c < 256 then P c.toNat else 0
theorem sy_lt {P R : Nat → Int} {n : Int} (h : sy S P R n) : 3 < S.1 := (ai_arr_inv h.2.2).1
/-- the end that the loop over a symbol's terms comes to -/
def fs (E : Nat → Int) (to : Nat) : Nat → Int → Int
  | 0, e => e
  | n + 1, e => if e < to then fs E to n (E e.toNat) else e
/-- the row of ends when the last k letters below 'to' are done -/
def fe (P T : Nat → Int) (to : Nat) (E : Nat → Int) : Nat → Nat → Int
  | 0 => E
  | k + 1 => ax_up (fe P T to E k) (to - 1 - k) (fs (fe P T to E k) to (at256 P (T (to - 1 - k))).toNat ((to - 1 - k : Nat) + 1))
theorem fs_in {E : Nat → Int} {to lo : Nat} (hE : ∀ j, lo ≤ j → j < to → (j : Int) < E j ∧ E j ≤ to) : ∀ (n : Nat) (e : Int), (lo : Int) ≤ e → e ≤ to → e ≤ fs E to n e ∧ fs E to n e ≤ to := by
  intro n
  induction n with
  | zero => intro e _ h; exact ⟨Int.le_refl _, h⟩
  | succ n ih =>
    intro e h1 h2
    unfold fs
    split
    · rename_i h3
      have h4 := hE e.toNat (by omega) (by omega)
      have h5 := ih (E e.toNat) (by omega) (by omega)
      omega
    · exact ⟨Int.le_refl _, h2⟩
theorem fe_in (P T : Nat → Int) (to : Nat) (E : Nat → Int) : ∀ k, k ≤ to → ∀ j, to - k ≤ j → j < to → (j : Int) < fe P T to E k j ∧ fe P T to E k j ≤ to := by
  intro k
  induction k with
  | zero => intro _ j h1 h2; omega
  | succ k ih =>
    intro hk j h1 h2
    have ih := ih (by omega)
    show (j : Int) < ax_up (fe P T to E k) (to - 1 - k) _ j ∧ ax_up (fe P T to E k) (to - 1 - k) _ j ≤ to
    unfold ax_up
    split
    · rename_i h3
      have := fs_in (lo := to - k) ih (at256 P (T (to - 1 - k))).toNat ((to - 1 - k : Nat) + 1) (by omega) (by omega)
      omega
    · exact ih j (by omega) h2
theorem at_79_0 : ai_at ai_m79 0 = some (.aload_n 0, 1) := rfl
theorem at_79_1 : ai_at ai_m79 1 = some (.iload_n 1, 1) := rfl
theorem at_79_2 : ai_at ai_m79 2 = some (.invokevirtual 22, 3) := rfl
theorem at_79_5 : ai_at ai_m79 5 = some (.ifCond .le 7, 3) := rfl
theorem at_79_8 : ai_at ai_m79 8 = some (.iconst 1, 1) := rfl
theorem at_79_9 : ai_at ai_m79 9 = some (.goto 4, 3) := rfl
theorem at_79_12 : ai_at ai_m79 12 = some (.iconst 0, 1) := rfl
theorem at_79_13 : ai_at ai_m79 13 = some (.ireturn, 1) := rfl
theorem at_80_0 : ai_at ai_m80 0 = some (.iload_n 1, 1) := rfl
theorem at_80_1 : ai_at ai_m80 1 = some (.sipush 256, 3) := rfl
theorem at_80_4 : ai_at ai_m80 4 = some (.if_icmp .ge 12, 3) := rfl
theorem at_80_7 : ai_at ai_m80 7 = some (.aload_n 0, 1) := rfl
theorem at_80_8 : ai_at ai_m80 8 = some (.getfield 15, 3) := rfl
theorem at_80_11 : ai_at ai_m80 11 = some (.iload_n 1, 1) := rfl
theorem at_80_12 : ai_at ai_m80 12 = some (.iaload, 1) := rfl
theorem at_80_13 : ai_at ai_m80 13 = some (.goto 4, 3) := rfl
theorem at_80_16 : ai_at ai_m80 16 = some (.iconst 0, 1) := rfl
theorem at_80_17 : ai_at ai_m80 17 = some (.ireturn, 1) := rfl
theorem at_81_0 : ai_at ai_m81 0 = some (.iload_n 1, 1) := rfl
theorem at_81_1 : ai_at ai_m81 1 = some (.sipush 256, 3) := rfl
theorem at_81_4 : ai_at ai_m81 4 = some (.if_icmp .ge 30, 3) := rfl
theorem at_81_7 : ai_at ai_m81 7 = some (.aload_n 0, 1) := rfl
theorem at_81_8 : ai_at ai_m81 8 = some (.dup, 1) := rfl
theorem at_81_9 : ai_at ai_m81 9 = some (.getfield 18, 3) := rfl
theorem at_81_12 : ai_at ai_m81 12 = some (.iconst 1, 1) := rfl
theorem at_81_13 : ai_at ai_m81 13 = some (.iadd, 1) := rfl
theorem at_81_14 : ai_at ai_m81 14 = some (.putfield 18, 3) := rfl
theorem at_81_17 : ai_at ai_m81 17 = some (.aload_n 0, 1) := rfl
theorem at_81_18 : ai_at ai_m81 18 = some (.getfield 15, 3) := rfl
theorem at_81_21 : ai_at ai_m81 21 = some (.iload_n 1, 1) := rfl
theorem at_81_22 : ai_at ai_m81 22 = some (.aload_n 0, 1) := rfl
theorem at_81_23 : ai_at ai_m81 23 = some (.getfield 18, 3) := rfl
theorem at_81_26 : ai_at ai_m81 26 = some (.iastore, 1) := rfl
theorem at_81_27 : ai_at ai_m81 27 = some (.aload_n 0, 1) := rfl
theorem at_81_28 : ai_at ai_m81 28 = some (.getfield 9, 3) := rfl
theorem at_81_31 : ai_at ai_m81 31 = some (.iload_n 1, 1) := rfl
theorem at_81_32 : ai_at ai_m81 32 = some (.iload_n 2, 1) := rfl
theorem at_81_33 : ai_at ai_m81 33 = some (.iastore, 1) := rfl
theorem at_81_34 : ai_at ai_m81 34 = some (.return_, 1) := rfl
theorem at_82_0 : ai_at ai_m82 0 = some (.iload_n 1, 1) := rfl
theorem at_82_1 : ai_at ai_m82 1 = some (.sipush 256, 3) := rfl
theorem at_82_4 : ai_at ai_m82 4 = some (.if_icmp .ge 12, 3) := rfl
theorem at_82_7 : ai_at ai_m82 7 = some (.aload_n 0, 1) := rfl
theorem at_82_8 : ai_at ai_m82 8 = some (.getfield 9, 3) := rfl
theorem at_82_11 : ai_at ai_m82 11 = some (.iload_n 1, 1) := rfl
theorem at_82_12 : ai_at ai_m82 12 = some (.iaload, 1) := rfl
theorem at_82_13 : ai_at ai_m82 13 = some (.goto 4, 3) := rfl
theorem at_82_16 : ai_at ai_m82 16 = some (.iconst 0, 1) := rfl
theorem at_82_17 : ai_at ai_m82 17 = some (.ireturn, 1) := rfl
theorem at_83_0 : ai_at ai_m83 0 = some (.iload_n 3, 1) := rfl
theorem at_83_1 : ai_at ai_m83 1 = some (.iconst 1, 1) := rfl
theorem at_83_2 : ai_at ai_m83 2 = some (.isub, 1) := rfl
theorem at_83_3 : ai_at ai_m83 3 = some (.istore 5, 2) := rfl
theorem at_83_5 : ai_at ai_m83 5 = some (.iload 5, 2) := rfl
theorem at_83_7 : ai_at ai_m83 7 = some (.iload_n 2, 1) := rfl
theorem at_83_8 : ai_at ai_m83 8 = some (.if_icmp .lt 56, 3) := rfl
theorem at_83_11 : ai_at ai_m83 11 = some (.iload 5, 2) := rfl
theorem at_83_13 : ai_at ai_m83 13 = some (.iconst 1, 1) := rfl
theorem at_83_14 : ai_at ai_m83 14 = some (.iadd, 1) := rfl
theorem at_83_15 : ai_at ai_m83 15 = some (.istore 6, 2) := rfl
theorem at_83_17 : ai_at ai_m83 17 = some (.aload_n 0, 1) := rfl
theorem at_83_18 : ai_at ai_m83 18 = some (.aload_n 1, 1) := rfl
theorem at_83_19 : ai_at ai_m83 19 = some (.iload 5, 2) := rfl
theorem at_83_21 : ai_at ai_m83 21 = some (.caload, 1) := rfl
theorem at_83_22 : ai_at ai_m83 22 = some (.invokevirtual 26, 3) := rfl
theorem at_83_25 : ai_at ai_m83 25 = some (.istore 7, 2) := rfl
theorem at_83_27 : ai_at ai_m83 27 = some (.iload 7, 2) := rfl
theorem at_83_29 : ai_at ai_m83 29 = some (.ifCond .le 22, 3) := rfl
theorem at_83_32 : ai_at ai_m83 32 = some (.iload 6, 2) := rfl
theorem at_83_34 : ai_at ai_m83 34 = some (.iload_n 3, 1) := rfl
theorem at_83_35 : ai_at ai_m83 35 = some (.if_icmp .ge 16, 3) := rfl
theorem at_83_38 : ai_at ai_m83 38 = some (.aload 4, 2) := rfl
theorem at_83_40 : ai_at ai_m83 40 = some (.iload 6, 2) := rfl
theorem at_83_42 : ai_at ai_m83 42 = some (.iaload, 1) := rfl
theorem at_83_43 : ai_at ai_m83 43 = some (.istore 6, 2) := rfl
theorem at_83_45 : ai_at ai_m83 45 = some (.iinc 7 (-1), 3) := rfl
theorem at_83_48 : ai_at ai_m83 48 = some (.goto (-21), 3) := rfl
theorem at_83_51 : ai_at ai_m83 51 = some (.aload 4, 2) := rfl
theorem at_83_53 : ai_at ai_m83 53 = some (.iload 5, 2) := rfl
theorem at_83_55 : ai_at ai_m83 55 = some (.iload 6, 2) := rfl
theorem at_83_57 : ai_at ai_m83 57 = some (.iastore, 1) := rfl
theorem at_83_58 : ai_at ai_m83 58 = some (.iinc 5 (-1), 3) := rfl
theorem at_83_61 : ai_at ai_m83 61 = some (.goto (-56), 3) := rfl
theorem at_83_64 : ai_at ai_m83 64 = some (.return_, 1) := rfl
theorem at_158_0 : ai_at ai_m158 0 = some (.iconst 0, 1) := rfl
theorem at_158_1 : ai_at ai_m158 1 = some (.istore_n 2, 1) := rfl
theorem at_158_2 : ai_at ai_m158 2 = some (.aload_n 0, 1) := rfl
theorem at_158_3 : ai_at ai_m158 3 = some (.arraylength, 1) := rfl
theorem at_158_4 : ai_at ai_m158 4 = some (.istore_n 3, 1) := rfl
theorem at_158_5 : ai_at ai_m158 5 = some (.iload_n 2, 1) := rfl
theorem at_158_6 : ai_at ai_m158 6 = some (.iload_n 3, 1) := rfl
theorem at_158_7 : ai_at ai_m158 7 = some (.if_icmp .ge 13, 3) := rfl
theorem at_158_10 : ai_at ai_m158 10 = some (.aload_n 0, 1) := rfl
theorem at_158_11 : ai_at ai_m158 11 = some (.iload_n 2, 1) := rfl
theorem at_158_12 : ai_at ai_m158 12 = some (.iload_n 1, 1) := rfl
theorem at_158_13 : ai_at ai_m158 13 = some (.iastore, 1) := rfl
theorem at_158_14 : ai_at ai_m158 14 = some (.iinc 2 1, 3) := rfl
theorem at_158_17 : ai_at ai_m158 17 = some (.goto (-12), 3) := rfl
theorem at_158_20 : ai_at ai_m158 20 = some (.return_, 1) := rfl
theorem fl_9_9 : ai_fld 9 9 = some (1, 0, false) := by decide +kernel
theorem fl_9_15 : ai_fld 9 15 = some (1, 1, false) := by decide +kernel
theorem fl_9_18 : ai_fld 9 18 = some (1, 2, false) := by decide +kernel
theorem mt_9_22 : ai_mth 9 22 = some (0, 80, 1, 1) := by decide +kernel
theorem mt_9_26 : ai_mth 9 26 = some (0, 82, 1, 1) := by decide +kernel
theorem r_places {P R : Nat → Int} {n c : Int} (h : sy S P R n) (hc : 0 ≤ c ∧ c < 65536) : ai_rn L xs (d + 1) 82 [.ref 1, ax_i c] S (fun v S' => S' = S ∧ v = some (ax_i (at256 P c))) := by
  have hcn : c = (c.toNat : Int) := by omega
  refine ai_rn_of (M := ai_m82) rfl (by decide) (Nat.le_of_ble_eq_true rfl) ?_
  refine aw_loc at_82_0 rfl rfl ?_
  refine aw_pure (st' := ax_i (256) :: _) at_82_1 rfl rfl ?_
  refine ax_icmp_ge at_82_4 ⟨by omega, by omega⟩ ⟨by omega, by omega⟩ (fun z => ?_) (fun z => ?_)
  · skip
    refine aw_pure (st' := ax_i (0) :: _) at_82_16 rfl rfl ?_
    exact ax_ret at_82_17 rfl ⟨_, _, rfl, rfl, by unfold at256; rw [if_neg (by omega)]⟩
  · skip
    refine aw_loc at_82_7 rfl rfl ?_
    refine aw_get at_82_8 rfl fl_9_9 h.1 rfl ?_
    refine aw_loc at_82_11 rfl rfl ?_
    refine ax_ild at_82_12 rfl h.2.1 (k := c.toNat) hcn (by omega) (by decide) ?_
    refine aw_goto at_82_13 ?_
    exact ax_ret at_82_17 rfl ⟨_, _, rfl, rfl, by unfold at256; rw [if_pos (by omega)]⟩
theorem r_rank {P R : Nat → Int} {n c : Int} (h : sy S P R n) (hc : 0 ≤ c ∧ c < 65536) : ai_rn L xs (d + 1) 80 [.ref 1, ax_i c] S (fun v S' => S' = S ∧ v = some (ax_i (at256 R c))) := by
  have hcn : c = (c.toNat : Int) := by omega
  refine ai_rn_of (M := ai_m80) rfl (by decide) (Nat.le_of_ble_eq_true rfl) ?_
  refine aw_loc at_80_0 rfl rfl ?_
  refine aw_pure (st' := ax_i (256) :: _) at_80_1 rfl rfl ?_
  refine ax_icmp_ge at_80_4 ⟨by omega, by omega⟩ ⟨by omega, by omega⟩ (fun z => ?_) (fun z => ?_)
  · skip
    refine aw_pure (st' := ax_i (0) :: _) at_80_16 rfl rfl ?_
    exact ax_ret at_80_17 rfl ⟨_, _, rfl, rfl, by unfold at256; rw [if_neg (by omega)]⟩
  · skip
    refine aw_loc at_80_7 rfl rfl ?_
    refine aw_get at_80_8 rfl fl_9_15 h.1 rfl ?_
    refine aw_loc at_80_11 rfl rfl ?_
    refine ax_ild at_80_12 rfl h.2.2 (k := c.toNat) hcn (by omega) (by decide) ?_
    refine aw_goto at_80_13 ?_
    exact ax_ret at_80_17 rfl ⟨_, _, rfl, rfl, by unfold at256; rw [if_pos (by omega)]⟩
theorem r_has {P R : Nat → Int} {n c : Int} (h : sy S P R n) (hc : 0 ≤ c ∧ c < 65536) (hR : ∀ i, 0 ≤ R i ∧ R i ≤ 1000) : ai_rn L xs (d + 2) 79 [.ref 1, ax_i c] S (fun v S' => S' = S ∧ ∃ r, v = some (ax_i r) ∧ bz r (0 < at256 R c)) := by
  refine ai_rn_of (M := ai_m79) rfl (by decide) (Nat.le_of_ble_eq_true rfl) ?_
  refine aw_loc at_79_0 rfl rfl ?_
  refine aw_loc at_79_1 rfl rfl ?_
  refine aw_cv (a := 1) [ax_i c] [] at_79_2 mt_9_22 (Or.inl rfl) rfl rfl (Nat.le_of_ble_eq_true rfl) ⟨_, h.1⟩ ((r_rank h hc).mono ?_)
  rintro v S' ⟨rfl, rfl⟩
  have hr : 0 ≤ at256 R c ∧ at256 R c ≤ 1000 := by unfold at256; split; exact hR _; omega
  refine ax_if_le at_79_5 ⟨by omega, by omega⟩ (fun z => ?_) (fun z => ?_)
  · skip
    refine aw_pure (st' := ax_i (0) :: _) at_79_12 rfl rfl ?_
    exact ax_retZ at_79_13 rfl (Or.inl rfl) ⟨_, _, rfl, rfl, 0, rfl, Or.inl ⟨rfl, by omega⟩⟩
  · skip
    refine aw_pure (st' := ax_i (1) :: _) at_79_8 rfl rfl ?_
    refine aw_goto at_79_9 ?_
    exact ax_retZ at_79_13 rfl (Or.inr rfl) ⟨_, _, rfl, rfl, 1, rfl, Or.inr ⟨rfl, by omega⟩⟩
set_option maxHeartbeats 1000000 in
theorem r_enter {P R : Nat → Int} {n c p : Int} (h : sy S P R n) (hc : 0 ≤ c ∧ c < 256) : ai_rn L xs (d + 1) 81 [.ref 1, ax_i c, ax_i p] S (fun v S' => v = none ∧ S' = sy_put S (ax_up P c.toNat p) (ax_up R c.toNat (n + 1)) (n + 1)) := by
  obtain ⟨ho, hP, hR⟩ := h
  have hl := (ai_arr_inv hR).1
  have hcn : c = (c.toNat : Int) := by omega
  refine ai_rn_of (M := ai_m81) rfl (by decide) (Nat.le_of_ble_eq_true rfl) ?_
  refine aw_loc at_81_0 rfl rfl ?_
  refine aw_pure (st' := ax_i (256) :: _) at_81_1 rfl rfl ?_
  refine ax_icmp_ge at_81_4 ⟨by omega, by omega⟩ ⟨by omega, by omega⟩ (fun z => absurd z (by omega)) (fun z => ?_)
  refine aw_loc at_81_7 rfl rfl ?_
  refine aw_pure at_81_8 rfl rfl ?_
  refine aw_get at_81_9 rfl fl_9_18 ho rfl ?_
  refine aw_pure (st' := ax_i (1) :: _) at_81_12 rfl rfl ?_
  refine ax_add at_81_13 rfl ?_
  refine aw_put at_81_14 rfl fl_9_18 ho (Nat.le_of_ble_eq_true rfl) rfl (by decide +kernel) ?_
  have ho1 : ai_obj (ai_wr S 1 (.inr (1, [.ref 2, .ref 3, ax_i (n + 1)]))) 1 1 = some [.ref 2, .ref 3, ax_i (n + 1)] := ai_obj_wrS (by omega)
  have hP1 := (ai_arr_wr (a := 1) (x := .inr (1, [.ref 2, .ref 3, ax_i (n + 1)])) (show 2 ≠ 1 by decide)).trans hP
  have hR1 := (ai_arr_wr (a := 1) (x := .inr (1, [.ref 2, .ref 3, ax_i (n + 1)])) (show 3 ≠ 1 by decide)).trans hR
  refine aw_loc at_81_17 rfl rfl ?_
  refine aw_get at_81_18 rfl fl_9_15 ho1 rfl ?_
  refine aw_loc at_81_21 rfl rfl ?_
  refine aw_loc at_81_22 rfl rfl ?_
  refine aw_get at_81_23 rfl fl_9_18 ho1 rfl ?_
  refine ax_ist (k := c.toNat) at_81_26 rfl hR1 hcn (by omega) (by decide) ?_
  have ho2 := (ai_obj_wr (a := 3) (x := .inl (0, ai_I 256 (ax_f (ax_up R c.toNat (n + 1))))) (show 1 ≠ 3 by decide)).trans ho1
  have hP2 := (ai_arr_wr (a := 3) (x := .inl (0, ai_I 256 (ax_f (ax_up R c.toNat (n + 1))))) (show 2 ≠ 3 by decide)).trans hP1
  refine aw_loc at_81_27 rfl rfl ?_
  refine aw_get at_81_28 rfl fl_9_9 ho2 rfl ?_
  refine aw_loc at_81_31 rfl rfl ?_
  refine aw_loc at_81_32 rfl rfl ?_
  refine ax_ist (k := c.toNat) at_81_33 rfl hP2 hcn (by omega) (by decide) ?_
  exact aw_vret at_81_34 rfl ⟨_, _, rfl, rfl, rfl⟩
/-- the first j of a row filled -/
def fi (F : Nat → Int) (v : Int) (j : Nat) : Nat → Int := fun i => if i < j then v else F i
theorem fi_succ (F : Nat → Int) (v : Int) (j : Nat) : ax_up (fi F v j) j v = fi F v (j + 1) := by
  funext i
  unfold ax_up fi
  by_cases h : i = j
  · rw [if_pos h, if_pos (by omega)]
  · rw [if_neg h]
    by_cases h2 : i < j
    · rw [if_pos h2, if_pos (by omega)]
    · rw [if_neg h2, if_neg (by omega)]
theorem ai_arr_len {M : ai_M} {Q : ai_O → Prop} {pc len a n t : Nat} {lv : ai_L} {st : List Value} {f : Nat → Int32} (ha : ai_at M pc = some (.arraylength, len)) (ht : ai_thr M pc = none) (hA : ai_arr S a t = some (n, f)) (h5 : t < 5) (k : ai_aw L xs d M Q (pc + len, lv, ax_i n :: st, S)) : ai_aw L xs d M Q (pc, lv, .ref a :: st, S) := by
  obtain ⟨h1, h2⟩ := ai_arr_inv hA
  refine aw_heap (st' := ax_i n :: st) (S' := S) ha ht ?_ k
  simp only [ai_heap, if_pos h1, h2, if_pos h5]
  rfl
set_option maxHeartbeats 1000000 in
theorem r_fill1 {a n : Nat} {F : Nat → Int} {v : Int} (hl : a < S.1) (hn : n < 100000) : ∀ (k j : Nat), j + k = n → ai_aw L xs d ai_m158 (fun o => ∃ w S', o = (.inl w, S') ∧ w = none ∧ S' = ai_wr S a (.inl (0, ai_I n (ax_f (fi F v n))))) (5, [some (.ref a), some (ax_i v), some (ax_i (j : Nat)), some (ax_i (n : Nat))], [], ai_wr S a (.inl (0, ai_I n (ax_f (fi F v j))))) := by
  intro k
  induction k with
  | zero =>
    intro j hj
    have hjn : j = n := by omega
    subst hjn
    refine aw_loc at_158_5 rfl rfl ?_
    refine aw_loc at_158_6 rfl rfl ?_
    refine ax_icmp_ge at_158_7 ⟨by omega, by omega⟩ ⟨by omega, by omega⟩ (fun _ => ?_) (fun z => absurd z (by omega))
    exact aw_vret at_158_20 rfl ⟨_, _, rfl, rfl, rfl⟩
  | succ k ih =>
    intro j hj
    have hA : ai_arr (ai_wr S a (.inl (0, ai_I n (ax_f (fi F v j))))) a 0 = some (n, ax_f (fi F v j)) := ai_arr_wrS hl
    refine aw_loc at_158_5 rfl rfl ?_
    refine aw_loc at_158_6 rfl rfl ?_
    refine ax_icmp_ge at_158_7 ⟨by omega, by omega⟩ ⟨by omega, by omega⟩ (fun z => absurd z (by omega)) (fun _ => ?_)
    refine aw_loc at_158_10 rfl rfl ?_
    refine aw_loc at_158_11 rfl rfl ?_
    refine aw_loc at_158_12 rfl rfl ?_
    refine ax_ist (k := j) at_158_13 rfl hA rfl (by omega) (by omega) ?_
    rw [fi_succ, ai_wr_wr]
    refine ax_inc at_158_14 rfl rfl rfl ?_
    refine aw_goto at_158_17 ?_
    have := ih (j + 1) (by omega)
    rw [Int.natCast_add] at this
    exact this
theorem r_fill {a n : Nat} {F : Nat → Int} {v : Int} (hA : ai_arr S a 0 = some (n, ax_f F)) (hn : n < 100000) : ai_rn L xs (d + 1) 158 [.ref a, ax_i v] S (fun w S' => w = none ∧ S' = ai_wr S a (.inl (0, ai_I n (ax_f (fi F v n))))) := by
  have hl := (ai_arr_inv hA).1
  refine ai_rn_of (M := ai_m158) rfl (by decide) (Nat.le_of_ble_eq_true rfl) ?_
  refine aw_pure (st' := ax_i (0) :: _) at_158_0 rfl rfl ?_
  refine aw_loc at_158_1 rfl rfl ?_
  refine aw_loc at_158_2 rfl rfl ?_
  refine ai_arr_len at_158_3 rfl hA (by decide) ?_
  refine aw_loc at_158_4 rfl rfl ?_
  have := r_fill1 (L := L) (xs := xs) (d := d) (S := S) (F := F) (v := v) hl hn n 0 (by omega)
  rw [show fi F v 0 = F from by funext i; exact if_neg (Nat.not_lt_zero i), ai_wr_id (ai_arr_inv hA).2] at this
  exact this
set_option maxHeartbeats 1000000 in
theorem r_ends1 {la ea fr to ne lo : Nat} {i : Int} {E : Nat → Int} {Q : ai_O → Prop} (hE : ai_arr S ea 0 = some (ne, ax_f E)) (hto : to ≤ ne) (hne : ne ≤ 1000) (hB : ∀ j, lo ≤ j → j < to → (j : Int) < E j ∧ E j ≤ to) : ∀ (n : Nat) (e : Int), n < 1000 ∧ (lo : Int) ≤ e → e ≤ to → (∀ n', ai_aw L xs d ai_m83 Q (51, [some (.ref 1), some (.ref la), some (ax_i (fr : Nat)), some (ax_i (to : Nat)), some (.ref ea), some (ax_i i), some (ax_i (fs E to n e)), some (ax_i n')], [], S)) → ai_aw L xs d ai_m83 Q (27, [some (.ref 1), some (.ref la), some (ax_i (fr : Nat)), some (ax_i (to : Nat)), some (.ref ea), some (ax_i i), some (ax_i e), some (ax_i (n : Nat))], [], S) := by
  intro n
  induction n with
  | zero =>
    intro e h1 h2 hK
    refine aw_loc at_83_27 rfl rfl ?_
    refine ax_if_le at_83_29 ⟨by omega, by omega⟩ (fun _ => hK _) (fun z => absurd z (by decide))
  | succ n ih =>
    intro e h1 h2 hK
    refine aw_loc at_83_27 rfl rfl ?_
    refine ax_if_le at_83_29 ⟨by omega, by omega⟩ (fun z => absurd z (by omega)) (fun _ => ?_)
    refine aw_loc at_83_32 rfl rfl ?_
    refine aw_loc at_83_34 rfl rfl ?_
    refine ax_icmp_ge at_83_35 ⟨by omega, by omega⟩ ⟨by omega, by omega⟩ (fun z => ?_) (fun z => ?_)
    · skip
      have hK := hK ((n + 1 : Nat) : Int)
      rw [show fs E to (n + 1) e = e from if_neg (by omega)] at hK
      exact hK
    · skip
      have h4 := hB e.toNat (by omega) (by omega)
      refine aw_loc at_83_38 rfl rfl ?_
      refine aw_loc at_83_40 rfl rfl ?_
      refine ax_ild at_83_42 rfl hE (k := e.toNat) (by omega) (by omega) (by omega) ?_
      refine aw_loc at_83_43 rfl rfl ?_
      refine ax_inc at_83_45 rfl rfl rfl ?_
      refine aw_goto at_83_48 ?_
      have := ih (E e.toNat) (by omega) (by omega) (by rw [show fs E to (n + 1) e = fs E to n (E e.toNat) from if_pos (by omega)] at hK; exact hK)
      rw [show (((n + 1 : Nat) : Int) + -1) = (n : Int) by omega]
      exact this
set_option maxHeartbeats 2000000 in
theorem r_ends2 {la ea fr to ne nl : Nat} {E T P R : Nat → Int} {nn : Int} (hs : sy S P R nn) (hP : ∀ i, 0 ≤ P i ∧ P i ≤ 2) (hT : ai_arr S la 1 = some (nl, ax_f T)) (hTr : ∀ i, 0 ≤ T i ∧ T i < 65536) (hla : la ≠ ea) (hl : ea < S.1) (h3 : 3 < ea) (hto : to ≤ ne) (htl : to ≤ nl) (hne : ne ≤ 1000) (hnl : nl ≤ 1000) (hfr : fr ≤ to) : ∀ (m k : Nat) (x6 x7 : Option Value), k + m = to - fr → ai_isl x6 = false → ai_isl x7 = false → ai_aw L xs (d + 1) ai_m83 (fun o => ∃ w S', o = (.inl w, S') ∧ w = none ∧ S' = ai_wr S ea (.inl (0, ai_I ne (ax_f (fe P T to E (to - fr)))))) (5, [some (.ref 1), some (.ref la), some (ax_i (fr : Nat)), some (ax_i (to : Nat)), some (.ref ea), some (ax_i ((to : Int) - 1 - (k : Nat))), x6, x7], [], ai_wr S ea (.inl (0, ai_I ne (ax_f (fe P T to E (k)))))) := by
  intro m
  induction m with
  | zero =>
    intro k x6 x7 hk h6 h7
    have hkk : k = to - fr := by omega
    subst hkk
    refine aw_loc at_83_5 rfl rfl ?_
    refine aw_loc at_83_7 rfl rfl ?_
    refine ax_icmp_lt at_83_8 ⟨by omega, by omega⟩ ⟨by omega, by omega⟩ (fun _ => ?_) (fun z => absurd z (by omega))
    exact aw_vret at_83_64 rfl ⟨_, _, rfl, rfl, rfl⟩
  | succ m ih =>
    intro k x6 x7 hk h6 h7
    have hs2 : sy (ai_wr S ea (.inl (0, ai_I ne (ax_f (fe P T to E (k)))))) P R nn := ⟨(ai_obj_wr (by omega)).trans hs.1, (ai_arr_wr (by omega)).trans hs.2.1, (ai_arr_wr (by omega)).trans hs.2.2⟩
    have hT := (ai_arr_wr (a := ea) (x := .inl (0, ai_I ne (ax_f (fe P T to E k)))) (show la ≠ ea from hla)).trans hT
    have hE2 : ai_arr (ai_wr S ea (.inl (0, ai_I ne (ax_f (fe P T to E (k)))))) ea 0 = some (ne, ax_f (fe P T to E k)) := ai_arr_wrS hl
    have hB := fe_in P T to E k (by omega)
    have hi : (to : Int) - 1 - (k : Nat) = ((to - 1 - k : Nat) : Int) := by omega
    refine aw_loc at_83_5 rfl rfl ?_
    refine aw_loc at_83_7 rfl rfl ?_
    refine ax_icmp_lt at_83_8 ⟨by omega, by omega⟩ ⟨by omega, by omega⟩ (fun z => absurd z (by omega)) (fun _ => ?_)
    refine aw_loc at_83_11 rfl rfl ?_
    refine aw_pure (st' := ax_i (1) :: _) at_83_13 rfl rfl ?_
    refine ax_add at_83_14 rfl ?_
    refine aw_loc at_83_15 rfl rfl ?_
    refine aw_loc at_83_17 rfl rfl ?_
    refine aw_loc at_83_18 rfl rfl ?_
    refine aw_loc at_83_19 rfl rfl ?_
    refine ax_cld at_83_21 rfl hT (k := to - 1 - k) hi (by omega) (by omega) ?_
    refine aw_cv (a := 1) [ax_i (T (to - 1 - k))] [] at_83_22 mt_9_26 (Or.inl rfl) rfl rfl (Nat.le_of_ble_eq_true rfl) ⟨_, hs2.1⟩ ((r_places hs2 (hTr _)).mono ?_)
    rintro v S' ⟨rfl, rfl⟩
    refine aw_loc at_83_25 rfl rfl ?_
    have hp : 0 ≤ at256 P (T (to - 1 - k)) ∧ at256 P (T (to - 1 - k)) ≤ 2 := by unfold at256; split; exact hP _; omega
    have := r_ends1 (L := L) (xs := xs) (d := d + 1) (la := la) (fr := fr) (i := (to : Int) - 1 - (k : Nat)) (Q := fun o => ∃ w S', o = (.inl w, S') ∧ w = none ∧ S' = ai_wr S ea (.inl (0, ai_I ne (ax_f (fe P T to E (to - fr)))))) hE2 hto hne hB (at256 P (T (to - 1 - k))).toNat ((to : Int) - 1 - (k : Nat) + 1) ⟨by omega, by omega⟩ (by omega) ?_
    · rw [show (((at256 P (T (to - 1 - k))).toNat : Nat) : Int) = at256 P (T (to - 1 - k)) by omega] at this
      exact this
    · intro n'
      refine aw_loc at_83_51 rfl rfl ?_
      refine aw_loc at_83_53 rfl rfl ?_
      refine aw_loc at_83_55 rfl rfl ?_
      refine ax_ist (k := to - 1 - k) at_83_57 rfl hE2 hi (by omega) (by omega) ?_
      rw [ai_wr_wr]
      refine ax_inc at_83_58 rfl rfl rfl ?_
      refine aw_goto at_83_61 ?_
      have h9 := ih (k + 1) (some (ax_i (fs (fe P T to E k) to (at256 P (T (to - 1 - k))).toNat ((to : Int) - 1 - (k : Nat) + 1)))) (some (ax_i n')) (by omega) rfl rfl
      rw [show (to : Int) - 1 - ((k + 1 : Nat) : Int) = (to : Int) - 1 - (k : Nat) + -1 by omega] at h9
      rw [show fe P T to E (k + 1) = ax_up (fe P T to E k) (to - 1 - k) (fs (fe P T to E k) to (at256 P (T (to - 1 - k))).toNat ((to : Int) - 1 - (k : Nat) + 1)) by rw [hi]; rfl] at h9
      exact h9
set_option maxHeartbeats 1000000 in
theorem r_ends {la ea fr to ne nl : Nat} {E T P R : Nat → Int} {nn : Int} (hs : sy S P R nn) (hP : ∀ i, 0 ≤ P i ∧ P i ≤ 2) (hT : ai_arr S la 1 = some (nl, ax_f T)) (hTr : ∀ i, 0 ≤ T i ∧ T i < 65536) (hE : ai_arr S ea 0 = some (ne, ax_f E)) (hla : la ≠ ea) (h3 : 3 < ea) (hto : to ≤ ne) (htl : to ≤ nl) (hne : ne ≤ 1000) (hnl : nl ≤ 1000) (hfr : fr ≤ to) : ai_rn L xs (d + 2) 83 [.ref 1, .ref la, ax_i (fr : Nat), ax_i (to : Nat), .ref ea] S (fun w S' => w = none ∧ S' = ai_wr S ea (.inl (0, ai_I ne (ax_f (fe P T to E (to - fr)))))) := by
  have hl := (ai_arr_inv hE).1
  refine ai_rn_of (M := ai_m83) rfl (by decide) (Nat.le_of_ble_eq_true rfl) ?_
  refine aw_loc at_83_0 rfl rfl ?_
  refine aw_pure (st' := ax_i (1) :: _) at_83_1 rfl rfl ?_
  refine ax_sub at_83_2 rfl ?_
  refine aw_loc at_83_3 rfl rfl ?_
  have := r_ends2 (L := L) (xs := xs) (d := d) (E := E) hs hP hT hTr hla hl h3 hto htl hne hnl hfr (to - fr) 0 none none (by omega) rfl rfl
  rw [show fe P T to E 0 = E from rfl, ai_wr_id (ai_arr_inv hE).2, show (to : Int) - 1 - ((0 : Nat) : Int) = (to : Int) - 1 by omega] at this
  exact this
end SY

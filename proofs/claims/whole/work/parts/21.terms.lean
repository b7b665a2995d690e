/-! Terms of the landed code: rows of letters, written at the end. -/
section TM
variable {L : Nat} {xs : Nat → Int32} {d : Nat} {S : ai_S}
theorem ai_wp_imp {M : ai_M} {Q Q' : ai_O → Prop} (k : ∀ o, Q o → Q' o) : ∀ (n : Nat) (F : ai_F), ai_wp L xs M (fun mi as S Q => ∃ o, ai_run L xs d mi as S o ∧ Q o) Q n F → ai_wp L xs M (fun mi as S Q => ∃ o, ai_run L xs d mi as S o ∧ Q o) Q' n F := by
  intro n
  induction n with
  | zero => intro F h; exact h.elim
  | succ n ih =>
    intro F h
    rcases ai_one_path ai_run_le h with ⟨G, g1, -, g3⟩ | ⟨o, g1, -, g3⟩
    · exact g3 _ _ (ih G g1)
    · exact g3 _ _ (k o g1)
theorem ai_aw_mono {M : ai_M} {F : ai_F} {Q Q' : ai_O → Prop} (h : ai_aw L xs d M Q F) (k : ∀ o, Q o → Q' o) : ai_aw L xs d M Q' F := by
  obtain ⟨n, h⟩ := h
  exact ⟨n, ai_wp_imp k n F h⟩
/-- a term at a: its letters' row stands at a + 1 -/
def tm (S : ai_S) (a : Nat) (T : Nat → Int) (n : Nat) : Prop := ai_obj S a 4 = some [.ref (a + 1), ax_i n] ∧ ai_arr S (a + 1) 1 = some (24, ax_f T)
def tm_put (S : ai_S) (a : Nat) (T : Nat → Int) (n : Nat) : ai_S := ai_wr (ai_wr S (a + 1) (.inl (1, ai_I 24 (ax_f T)))) a (.inr (4, [.ref (a + 1), ax_i n]))
/-- the row T with the size n is the word w, cut at the end of the row -/
def wd (T : Nat → Int) (n : Nat) (w : List Int) : Prop := n = min w.length 25 ∧ (∀ i, i < w.length → i < 24 → T i = w.getD i 0) ∧ ∀ i, 0 ≤ T i ∧ T i < 65536
/-- a truth as an int -/
def bz (r : Int) (P : Prop) : Prop := (r = 0 ∧ ¬ P) ∨ (r = 1 ∧ P)
theorem bz.le {r : Int} {P : Prop} (h : bz r P) : r = 0 ∨ r = 1 := by
  rcases h with h | h
  · exact Or.inl h.1
  · exact Or.inr h.1
theorem tm_lt {a n : Nat} {T : Nat → Int} (h : tm S a T n) : a + 1 < S.1 := (ai_arr_inv h.2).1
theorem tm_get {a n : Nat} {T : Nat → Int} (h : a + 1 < S.1) : tm (tm_put S a T n) a T n := ⟨ai_obj_wrS (show a < S.1 by omega), (ai_arr_wr (show a + 1 ≠ a by omega)).trans (ai_arr_wrS h)⟩
theorem tm_self {a n : Nat} {T : Nat → Int} (h : tm S a T n) : tm_put S a T n = S := by
  unfold tm_put
  rw [ai_wr_id (ai_arr_inv h.2).2, ai_wr_id (ai_obj_inv h.1).2]
theorem tm_two {a n m : Nat} {T U : Nat → Int} : tm_put (tm_put S a T n) a U m = tm_put S a U m := by
  unfold tm_put
  rw [ai_wr_comm _ (show a ≠ a + 1 by omega), ai_wr_wr, ai_wr_wr]
theorem tm_off {a b n m : Nat} {T U : Nat → Int} (h : tm S b U m) (h1 : b ≠ a) (h2 : b ≠ a + 1) (h3 : b + 1 ≠ a) : tm (tm_put S a T n) b U m :=
  ⟨(ai_obj_wr h1).trans ((ai_obj_wr h2).trans h.1), (ai_arr_wr h3).trans ((ai_arr_wr (show b + 1 ≠ a + 1 by omega)).trans h.2)⟩
theorem tm_w1 {a n : Nat} {T U : Nat → Int} {x : Value} {m : Nat} (hx : x = ax_i m) : ai_wr (ai_wr (tm_put S a T n) (a + 1) (.inl (1, ai_I 24 (ax_f U)))) a (.inr (4, [.ref (a + 1), x])) = tm_put S a U m := by
  subst hx
  exact tm_two
theorem tm_w2 {a n : Nat} {T : Nat → Int} {x : Value} {m : Nat} (hx : x = ax_i m) : ai_wr (tm_put S a T n) a (.inr (4, [.ref (a + 1), x])) = tm_put S a T m := by
  subst hx
  unfold tm_put
  rw [ai_wr_wr]
def ap_T (T : Nat → Int) (n : Nat) (c : Int) : Nat → Int := if n < 24 then ax_up T n c else T
def ap_N (n : Nat) : Nat := if n ≤ 24 then n + 1 else n
theorem wd_app {T : Nat → Int} {n : Nat} {w : List Int} {c : Int} (h : wd T n w) (hc : 0 ≤ c ∧ c < 65536) : wd (ap_T T n c) (ap_N n) (w ++ [c]) := by
  obtain ⟨h1, h2, h3⟩ := h
  unfold ap_T ap_N
  refine ⟨?_, ?_, ?_⟩
  · rw [List.length_append, List.length_singleton]
    split <;> omega
  · intro i hi hi2
    rw [List.length_append, List.length_singleton] at hi
    by_cases h4 : i < w.length
    · rw [List.getD_eq_getElem?_getD, List.getElem?_append_left h4, ← List.getD_eq_getElem?_getD]
      split
      · unfold ax_up
        rw [if_neg (by omega)]
        exact h2 i h4 hi2
      · exact h2 i h4 hi2
    · have h5 : i = w.length := by omega
      subst h5
      rw [if_pos (by omega)]
      unfold ax_up
      rw [if_pos (by omega)]
      simp
  · intro i
    split
    · unfold ax_up
      split
      · exact hc
      · exact h3 i
    · exact h3 i
theorem wd_le {T : Nat → Int} {n : Nat} {w : List Int} (h : wd T n w) : n ≤ 25 := by
  rw [h.1]
  exact Nat.min_le_right _ _
theorem at_12_0 : ai_at ai_m12 0 = some (.iload_n 0, 1) := rfl
theorem at_12_1 : ai_at ai_m12 1 = some (.bipush 117, 2) := rfl
theorem at_12_3 : ai_at ai_m12 3 = some (.if_icmp .lt 7, 3) := rfl
theorem at_12_6 : ai_at ai_m12 6 = some (.iconst 1, 1) := rfl
theorem at_12_7 : ai_at ai_m12 7 = some (.goto 4, 3) := rfl
theorem at_12_10 : ai_at ai_m12 10 = some (.iconst 0, 1) := rfl
theorem at_12_11 : ai_at ai_m12 11 = some (.ireturn, 1) := rfl
theorem at_85_0 : ai_at ai_m85 0 = some (.aload_n 0, 1) := rfl
theorem at_85_1 : ai_at ai_m85 1 = some (.getfield 15, 3) := rfl
theorem at_85_4 : ai_at ai_m85 4 = some (.bipush 24, 2) := rfl
theorem at_85_6 : ai_at ai_m85 6 = some (.if_icmp .ge 13, 3) := rfl
theorem at_85_9 : ai_at ai_m85 9 = some (.aload_n 0, 1) := rfl
theorem at_85_10 : ai_at ai_m85 10 = some (.getfield 9, 3) := rfl
theorem at_85_13 : ai_at ai_m85 13 = some (.aload_n 0, 1) := rfl
theorem at_85_14 : ai_at ai_m85 14 = some (.getfield 15, 3) := rfl
theorem at_85_17 : ai_at ai_m85 17 = some (.iload_n 1, 1) := rfl
theorem at_85_18 : ai_at ai_m85 18 = some (.castore, 1) := rfl
theorem at_85_19 : ai_at ai_m85 19 = some (.aload_n 0, 1) := rfl
theorem at_85_20 : ai_at ai_m85 20 = some (.getfield 15, 3) := rfl
theorem at_85_23 : ai_at ai_m85 23 = some (.bipush 24, 2) := rfl
theorem at_85_25 : ai_at ai_m85 25 = some (.if_icmp .gt 13, 3) := rfl
theorem at_85_28 : ai_at ai_m85 28 = some (.aload_n 0, 1) := rfl
theorem at_85_29 : ai_at ai_m85 29 = some (.dup, 1) := rfl
theorem at_85_30 : ai_at ai_m85 30 = some (.getfield 15, 3) := rfl
theorem at_85_33 : ai_at ai_m85 33 = some (.iconst 1, 1) := rfl
theorem at_85_34 : ai_at ai_m85 34 = some (.iadd, 1) := rfl
theorem at_85_35 : ai_at ai_m85 35 = some (.putfield 15, 3) := rfl
theorem at_85_38 : ai_at ai_m85 38 = some (.return_, 1) := rfl
theorem at_86_0 : ai_at ai_m86 0 = some (.aload_n 0, 1) := rfl
theorem at_86_1 : ai_at ai_m86 1 = some (.getfield 15, 3) := rfl
theorem at_86_4 : ai_at ai_m86 4 = some (.bipush 24, 2) := rfl
theorem at_86_6 : ai_at ai_m86 6 = some (.if_icmp .le 7, 3) := rfl
theorem at_86_9 : ai_at ai_m86 9 = some (.iconst 1, 1) := rfl
theorem at_86_10 : ai_at ai_m86 10 = some (.goto 4, 3) := rfl
theorem at_86_13 : ai_at ai_m86 13 = some (.iconst 0, 1) := rfl
theorem at_86_14 : ai_at ai_m86 14 = some (.ireturn, 1) := rfl
theorem at_88_0 : ai_at ai_m88 0 = some (.iload_n 1, 1) := rfl
theorem at_88_1 : ai_at ai_m88 1 = some (.iload 4, 2) := rfl
theorem at_88_3 : ai_at ai_m88 3 = some (.iadd, 1) := rfl
theorem at_88_4 : ai_at ai_m88 4 = some (.bipush 24, 2) := rfl
theorem at_88_6 : ai_at ai_m88 6 = some (.if_icmp .gt 12, 3) := rfl
theorem at_88_9 : ai_at ai_m88 9 = some (.iload_n 3, 1) := rfl
theorem at_88_10 : ai_at ai_m88 10 = some (.iload 4, 2) := rfl
theorem at_88_12 : ai_at ai_m88 12 = some (.iadd, 1) := rfl
theorem at_88_13 : ai_at ai_m88 13 = some (.bipush 24, 2) := rfl
theorem at_88_15 : ai_at ai_m88 15 = some (.if_icmp .le 5, 3) := rfl
theorem at_88_18 : ai_at ai_m88 18 = some (.iconst 0, 1) := rfl
theorem at_88_19 : ai_at ai_m88 19 = some (.ireturn, 1) := rfl
theorem at_88_20 : ai_at ai_m88 20 = some (.iconst 0, 1) := rfl
theorem at_88_21 : ai_at ai_m88 21 = some (.istore 5, 2) := rfl
theorem at_88_23 : ai_at ai_m88 23 = some (.iload 5, 2) := rfl
theorem at_88_25 : ai_at ai_m88 25 = some (.iload 4, 2) := rfl
theorem at_88_27 : ai_at ai_m88 27 = some (.if_icmp .ge 32, 3) := rfl
theorem at_88_30 : ai_at ai_m88 30 = some (.aload_n 0, 1) := rfl
theorem at_88_31 : ai_at ai_m88 31 = some (.getfield 9, 3) := rfl
theorem at_88_34 : ai_at ai_m88 34 = some (.iload_n 1, 1) := rfl
theorem at_88_35 : ai_at ai_m88 35 = some (.iload 5, 2) := rfl
theorem at_88_37 : ai_at ai_m88 37 = some (.iadd, 1) := rfl
theorem at_88_38 : ai_at ai_m88 38 = some (.caload, 1) := rfl
theorem at_88_39 : ai_at ai_m88 39 = some (.aload_n 2, 1) := rfl
theorem at_88_40 : ai_at ai_m88 40 = some (.getfield 9, 3) := rfl
theorem at_88_43 : ai_at ai_m88 43 = some (.iload_n 3, 1) := rfl
theorem at_88_44 : ai_at ai_m88 44 = some (.iload 5, 2) := rfl
theorem at_88_46 : ai_at ai_m88 46 = some (.iadd, 1) := rfl
theorem at_88_47 : ai_at ai_m88 47 = some (.caload, 1) := rfl
theorem at_88_48 : ai_at ai_m88 48 = some (.if_icmp .eq 5, 3) := rfl
theorem at_88_51 : ai_at ai_m88 51 = some (.iconst 0, 1) := rfl
theorem at_88_52 : ai_at ai_m88 52 = some (.ireturn, 1) := rfl
theorem at_88_53 : ai_at ai_m88 53 = some (.iinc 5 1, 3) := rfl
theorem at_88_56 : ai_at ai_m88 56 = some (.goto (-33), 3) := rfl
theorem at_88_59 : ai_at ai_m88 59 = some (.iconst 1, 1) := rfl
theorem at_88_60 : ai_at ai_m88 60 = some (.ireturn, 1) := rfl
theorem at_89_0 : ai_at ai_m89 0 = some (.iload_n 2, 1) := rfl
theorem at_89_1 : ai_at ai_m89 1 = some (.istore 4, 2) := rfl
theorem at_89_3 : ai_at ai_m89 3 = some (.iload 4, 2) := rfl
theorem at_89_5 : ai_at ai_m89 5 = some (.iload_n 3, 1) := rfl
theorem at_89_6 : ai_at ai_m89 6 = some (.if_icmp .ge 27, 3) := rfl
theorem at_89_9 : ai_at ai_m89 9 = some (.iload 4, 2) := rfl
theorem at_89_11 : ai_at ai_m89 11 = some (.bipush 24, 2) := rfl
theorem at_89_13 : ai_at ai_m89 13 = some (.if_icmp .ge 20, 3) := rfl
theorem at_89_16 : ai_at ai_m89 16 = some (.aload_n 0, 1) := rfl
theorem at_89_17 : ai_at ai_m89 17 = some (.aload_n 1, 1) := rfl
theorem at_89_18 : ai_at ai_m89 18 = some (.getfield 9, 3) := rfl
theorem at_89_21 : ai_at ai_m89 21 = some (.iload 4, 2) := rfl
theorem at_89_23 : ai_at ai_m89 23 = some (.caload, 1) := rfl
theorem at_89_24 : ai_at ai_m89 24 = some (.invokevirtual 19, 3) := rfl
theorem at_89_27 : ai_at ai_m89 27 = some (.iinc 4 1, 3) := rfl
theorem at_89_30 : ai_at ai_m89 30 = some (.goto (-27), 3) := rfl
theorem at_89_33 : ai_at ai_m89 33 = some (.return_, 1) := rfl
theorem at_90_0 : ai_at ai_m90 0 = some (.aload_n 0, 1) := rfl
theorem at_90_1 : ai_at ai_m90 1 = some (.getfield 15, 3) := rfl
theorem at_90_4 : ai_at ai_m90 4 = some (.aload_n 1, 1) := rfl
theorem at_90_5 : ai_at ai_m90 5 = some (.getfield 15, 3) := rfl
theorem at_90_8 : ai_at ai_m90 8 = some (.if_icmp .ne 21, 3) := rfl
theorem at_90_11 : ai_at ai_m90 11 = some (.aload_n 0, 1) := rfl
theorem at_90_12 : ai_at ai_m90 12 = some (.iconst 0, 1) := rfl
theorem at_90_13 : ai_at ai_m90 13 = some (.aload_n 1, 1) := rfl
theorem at_90_14 : ai_at ai_m90 14 = some (.iconst 0, 1) := rfl
theorem at_90_15 : ai_at ai_m90 15 = some (.aload_n 0, 1) := rfl
theorem at_90_16 : ai_at ai_m90 16 = some (.getfield 15, 3) := rfl
theorem at_90_19 : ai_at ai_m90 19 = some (.invokevirtual 29, 3) := rfl
theorem at_90_22 : ai_at ai_m90 22 = some (.ifCond .eq 7, 3) := rfl
theorem at_90_25 : ai_at ai_m90 25 = some (.iconst 1, 1) := rfl
theorem at_90_26 : ai_at ai_m90 26 = some (.goto 4, 3) := rfl
theorem at_90_29 : ai_at ai_m90 29 = some (.iconst 0, 1) := rfl
theorem at_90_30 : ai_at ai_m90 30 = some (.ireturn, 1) := rfl
theorem fl_10_9 : ai_fld 10 9 = some (4, 0, false) := by decide +kernel
theorem fl_10_15 : ai_fld 10 15 = some (4, 1, false) := by decide +kernel
theorem mt_10_19 : ai_mth 10 19 = some (0, 85, 1, 4) := by decide +kernel
theorem mt_10_29 : ai_mth 10 29 = some (0, 88, 4, 4) := by decide +kernel
set_option maxHeartbeats 1000000 in
theorem r_tappend {a n : Nat} {T : Nat → Int} {c : Int} (h : tm S a T n) (hn : n ≤ 25) (hc : 0 ≤ c ∧ c < 65536) : ai_rn L xs (d + 1) 85 [.ref a, ax_i c] S (fun v S' => v = none ∧ S' = tm_put S a (ap_T T n c) (ap_N n)) := by
  obtain ⟨ho, hA⟩ := h
  have hself := tm_self ⟨ho, hA⟩
  refine ai_rn_of (M := ai_m85) rfl (by decide) (Nat.le_of_ble_eq_true rfl) ?_
  have k19 : ∀ U, ai_aw L xs d ai_m85 (fun o => ∃ v S', o = (.inl v, S') ∧ v = none ∧ S' = tm_put S a (ap_T T n c) (ap_N n)) (19, ai_in ai_m85 [.ref a, ax_i c], [], ai_wr S (a + 1) (.inl (1, ai_I 24 (ax_f U)))) ∨ U ≠ ap_T T n c := by
    intro U
    by_cases hU : U = ap_T T n c
    · refine Or.inl ?_
      subst hU
      have ho := (ai_obj_wr (S := S) (x := .inl (1, ai_I 24 (ax_f (ap_T T n c)))) (show a ≠ a + 1 by omega)).trans ho
      refine aw_loc at_85_19 rfl rfl ?_
      refine aw_get at_85_20 rfl fl_10_15 ho rfl ?_
      refine aw_pure (st' := ax_i (24) :: _) at_85_23 rfl rfl ?_
      refine ax_icmp_gt at_85_25 ⟨by omega, by omega⟩ ⟨by omega, by omega⟩ (fun z => ?_) (fun z => ?_)
      · skip
        refine aw_vret at_85_38 rfl ⟨_, _, rfl, rfl, ?_⟩
        have hn : ap_N n = n := if_neg (by omega)
        have : tm_put S a (ap_T T n c) n = ai_wr S (a + 1) (.inl (1, ai_I 24 (ax_f (ap_T T n c)))) := by
          unfold tm_put
          exact ai_wr_id (ai_obj_inv ho).2
        rw [hn]; exact this.symm
      · skip
        refine aw_loc at_85_28 rfl rfl ?_
        refine aw_pure at_85_29 rfl rfl ?_
        refine aw_get at_85_30 rfl fl_10_15 ho rfl ?_
        refine aw_pure (st' := ax_i (1) :: _) at_85_33 rfl rfl ?_
        refine ax_add at_85_34 rfl ?_
        refine aw_put at_85_35 rfl fl_10_15 ho (Nat.le_of_ble_eq_true rfl) rfl (by decide +kernel) ?_
        refine aw_vret at_85_38 rfl ⟨_, _, rfl, rfl, ?_⟩
        have hn : ap_N n = n + 1 := if_pos (by omega)
        rw [hn]; rfl
    · exact Or.inr hU
  refine aw_loc at_85_0 rfl rfl ?_
  refine aw_get at_85_1 rfl fl_10_15 ho rfl ?_
  refine aw_pure (st' := ax_i (24) :: _) at_85_4 rfl rfl ?_
  refine ax_icmp_ge at_85_6 ⟨by omega, by omega⟩ ⟨by omega, by omega⟩ (fun z => ?_) (fun z => ?_)
  · skip
    have hT : ap_T T n c = T := if_neg (by omega)
    rcases k19 T with h | h
    · rw [ai_wr_id (ai_arr_inv hA).2] at h; exact h
    · exact absurd hT.symm h
  · skip
    refine aw_loc at_85_9 rfl rfl ?_
    refine aw_get at_85_10 rfl fl_10_9 ho rfl ?_
    refine aw_loc at_85_13 rfl rfl ?_
    refine aw_get at_85_14 rfl fl_10_15 ho rfl ?_
    refine aw_loc at_85_17 rfl rfl ?_
    refine ax_cst at_85_18 rfl hA rfl (show n < 24 by omega) (by decide) hc ?_
    have hT : ap_T T n c = ax_up T n c := if_pos (by omega)
    rcases k19 (ax_up T n c) with h | h
    · exact h
    · exact absurd hT.symm h
theorem r_tooLong {a n : Nat} {T : Nat → Int} (h : tm S a T n) (hn : n ≤ 25) : ai_rn L xs (d + 1) 86 [.ref a] S (fun v S' => S' = S ∧ ∃ r, v = some (ax_i r) ∧ bz r (24 < n)) := by
  refine ai_rn_of (M := ai_m86) rfl (by decide) (Nat.le_of_ble_eq_true rfl) ?_
  refine aw_loc at_86_0 rfl rfl ?_
  refine aw_get at_86_1 rfl fl_10_15 h.1 rfl ?_
  refine aw_pure (st' := ax_i (24) :: _) at_86_4 rfl rfl ?_
  refine ax_icmp_le at_86_6 ⟨by omega, by omega⟩ ⟨by omega, by omega⟩ (fun z => ?_) (fun z => ?_)
  · skip
    refine aw_pure (st' := ax_i (0) :: _) at_86_13 rfl rfl ?_
    exact ax_retZ at_86_14 rfl (Or.inl rfl) ⟨_, _, rfl, rfl, 0, rfl, Or.inl ⟨rfl, by omega⟩⟩
  · skip
    refine aw_pure (st' := ax_i (1) :: _) at_86_9 rfl rfl ?_
    refine aw_goto at_86_10 ?_
    exact ax_retZ at_86_14 rfl (Or.inr rfl) ⟨_, _, rfl, rfl, 1, rfl, Or.inr ⟨rfl, by omega⟩⟩
theorem r_isVar {c : Int} (hc : 0 ≤ c ∧ c < 65536) : ai_rn L xs (d + 1) 12 [ax_i c] S (fun v S' => S' = S ∧ ∃ r, v = some (ax_i r) ∧ bz r (117 ≤ c)) := by
  refine ai_rn_of (M := ai_m12) rfl (by decide) (Nat.le_of_ble_eq_true rfl) ?_
  refine aw_loc at_12_0 rfl rfl ?_
  refine aw_pure (st' := ax_i (117) :: _) at_12_1 rfl rfl ?_
  refine ax_icmp_lt at_12_3 ⟨by omega, by omega⟩ ⟨by omega, by omega⟩ (fun z => ?_) (fun z => ?_)
  · skip
    refine aw_pure (st' := ax_i (0) :: _) at_12_10 rfl rfl ?_
    exact ax_retZ at_12_11 rfl (Or.inl rfl) ⟨_, _, rfl, rfl, 0, rfl, Or.inl ⟨rfl, by omega⟩⟩
  · skip
    refine aw_pure (st' := ax_i (1) :: _) at_12_6 rfl rfl ?_
    refine aw_goto at_12_7 ?_
    exact ax_retZ at_12_11 rfl (Or.inr rfl) ⟨_, _, rfl, rfl, 1, rfl, Or.inr ⟨rfl, by omega⟩⟩
set_option maxHeartbeats 1000000 in
theorem r_samePart1 {a b p q n m1 m2 : Nat} {T U : Nat → Int} (ha : tm S a T m1) (hb : tm S b U m2) (hT : ∀ i, 0 ≤ T i ∧ T i < 65536) (hU : ∀ i, 0 ≤ U i ∧ U i < 65536) (hp : p + n ≤ 24) (hq : q + n ≤ 24) : ∀ (k j : Nat), j + k = n → (∀ i, i < j → T (p + i) = U (q + i)) → ai_aw L xs d ai_m88 (fun o => ∃ v S', o = (.inl v, S') ∧ S' = S ∧ ∃ r, v = some (ax_i r) ∧ bz r (∀ i, i < n → T (p + i) = U (q + i))) (23, [some (.ref a), some (ax_i (p : Nat)), some (.ref b), some (ax_i (q : Nat)), some (ax_i (n : Nat)), some (ax_i (j : Nat))], [], S) := by
  intro k
  induction k with
  | zero =>
    intro j hj hI
    refine aw_loc at_88_23 rfl rfl ?_
    refine aw_loc at_88_25 rfl rfl ?_
    refine ax_icmp_ge at_88_27 ⟨by omega, by omega⟩ ⟨by omega, by omega⟩ (fun _ => ?_) (fun z => absurd z (by omega))
    refine aw_pure (st' := ax_i (1) :: _) at_88_59 rfl rfl ?_
    exact ax_retZ at_88_60 rfl (Or.inr rfl) ⟨_, _, rfl, rfl, 1, rfl, Or.inr ⟨rfl, fun i hi => hI i (by omega)⟩⟩
  | succ k ih =>
    intro j hj hI
    refine aw_loc at_88_23 rfl rfl ?_
    refine aw_loc at_88_25 rfl rfl ?_
    refine ax_icmp_ge at_88_27 ⟨by omega, by omega⟩ ⟨by omega, by omega⟩ (fun z => absurd z (by omega)) (fun _ => ?_)
    refine aw_loc at_88_30 rfl rfl ?_
    refine aw_get at_88_31 rfl fl_10_9 ha.1 rfl ?_
    refine aw_loc at_88_34 rfl rfl ?_
    refine aw_loc at_88_35 rfl rfl ?_
    refine ax_add at_88_37 rfl ?_
    refine ax_cld at_88_38 rfl ha.2 (k := p + j) (by omega) (by omega) (by decide) ?_
    refine aw_loc at_88_39 rfl rfl ?_
    refine aw_get at_88_40 rfl fl_10_9 hb.1 rfl ?_
    refine aw_loc at_88_43 rfl rfl ?_
    refine aw_loc at_88_44 rfl rfl ?_
    refine ax_add at_88_46 rfl ?_
    refine ax_cld at_88_47 rfl hb.2 (k := q + j) (by omega) (by omega) (by decide) ?_
    refine ax_icmp_eq at_88_48 ⟨by have := hT (p + j); omega, by have := hT (p + j); omega⟩ ⟨by have := hU (q + j); omega, by have := hU (q + j); omega⟩ (fun z => ?_) (fun z => ?_)
    · skip
      refine ax_inc at_88_53 rfl rfl rfl ?_
      refine aw_goto at_88_56 ?_
      have := ih (j + 1) (by omega) (fun i hi => ?_)
      · rw [Int.natCast_add] at this; exact this
      · by_cases h : i = j
        · subst h; exact z
        · exact hI i (by omega)
    · skip
      refine aw_pure (st' := ax_i (0) :: _) at_88_51 rfl rfl ?_
      exact ax_retZ at_88_52 rfl (Or.inl rfl) ⟨_, _, rfl, rfl, 0, rfl, Or.inl ⟨rfl, fun h => z (h j (by omega))⟩⟩
set_option maxHeartbeats 1000000 in
theorem r_samePart {a b p q n m1 m2 : Nat} {T U : Nat → Int} (ha : tm S a T m1) (hb : tm S b U m2) (hT : ∀ i, 0 ≤ T i ∧ T i < 65536) (hU : ∀ i, 0 ≤ U i ∧ U i < 65536) (hp : p ≤ 1000) (hq : q ≤ 1000) (hn : n ≤ 1000) : ai_rn L xs (d + 1) 88 [.ref a, ax_i (p : Nat), .ref b, ax_i (q : Nat), ax_i (n : Nat)] S (fun v S' => S' = S ∧ ∃ r, v = some (ax_i r) ∧ bz r (p + n ≤ 24 ∧ q + n ≤ 24 ∧ ∀ i, i < n → T (p + i) = U (q + i))) := by
  refine ai_rn_of (M := ai_m88) rfl (by decide) (Nat.le_of_ble_eq_true rfl) ?_
  have k18 : ¬ (p + n ≤ 24 ∧ q + n ≤ 24) → ai_aw L xs d ai_m88 (fun o => ∃ v S', o = (.inl v, S') ∧ S' = S ∧ ∃ r, v = some (ax_i r) ∧ bz r (p + n ≤ 24 ∧ q + n ≤ 24 ∧ ∀ i, i < n → T (p + i) = U (q + i))) (18, ai_in ai_m88 [.ref a, ax_i (p : Nat), .ref b, ax_i (q : Nat), ax_i (n : Nat)], [], S) := by
    intro hno
    refine aw_pure (st' := ax_i (0) :: _) at_88_18 rfl rfl ?_
    exact ax_retZ at_88_19 rfl (Or.inl rfl) ⟨_, _, rfl, rfl, 0, rfl, Or.inl ⟨rfl, fun h => hno ⟨h.1, h.2.1⟩⟩⟩
  refine aw_loc at_88_0 rfl rfl ?_
  refine aw_loc at_88_1 rfl rfl ?_
  refine ax_add at_88_3 rfl ?_
  refine aw_pure (st' := ax_i (24) :: _) at_88_4 rfl rfl ?_
  refine ax_icmp_gt at_88_6 ⟨by omega, by omega⟩ ⟨by omega, by omega⟩ (fun z => k18 (by omega)) (fun z1 => ?_)
  refine aw_loc at_88_9 rfl rfl ?_
  refine aw_loc at_88_10 rfl rfl ?_
  refine ax_add at_88_12 rfl ?_
  refine aw_pure (st' := ax_i (24) :: _) at_88_13 rfl rfl ?_
  refine ax_icmp_le at_88_15 ⟨by omega, by omega⟩ ⟨by omega, by omega⟩ (fun z2 => ?_) (fun z => k18 (by omega))
  refine aw_pure (st' := ax_i (0) :: _) at_88_20 rfl rfl ?_
  refine aw_loc at_88_21 rfl rfl ?_
  refine ai_aw_mono (r_samePart1 (L := L) (xs := xs) (d := d) ha hb hT hU (show p + n ≤ 24 by omega) (show q + n ≤ 24 by omega) n 0 (by omega) (fun i hi => absurd hi (Nat.not_lt_zero i))) ?_
  rintro o ⟨v, S', rfl, rfl, r, rfl, hz⟩
  refine ⟨_, _, rfl, rfl, r, rfl, ?_⟩
  rcases hz with ⟨h1, h2⟩ | ⟨h1, h2⟩
  · exact Or.inl ⟨h1, fun h => h2 h.2.2⟩
  · exact Or.inr ⟨h1, by omega, by omega, h2⟩
set_option maxHeartbeats 1000000 in
theorem r_tsame {a b m1 m2 : Nat} {T U : Nat → Int} (ha : tm S a T m1) (hb : tm S b U m2) (hT : ∀ i, 0 ≤ T i ∧ T i < 65536) (hU : ∀ i, 0 ≤ U i ∧ U i < 65536) (h1 : m1 ≤ 25) (h2 : m2 ≤ 25) : ai_rn L xs (d + 2) 90 [.ref a, .ref b] S (fun v S' => S' = S ∧ ∃ r, v = some (ax_i r) ∧ bz r (m1 = m2 ∧ m1 ≤ 24 ∧ ∀ i, i < m1 → T i = U i)) := by
  refine ai_rn_of (M := ai_m90) rfl (by decide) (Nat.le_of_ble_eq_true rfl) ?_
  have k29 : ¬ (m1 = m2 ∧ m1 ≤ 24 ∧ ∀ i, i < m1 → T i = U i) → ai_aw L xs (d + 1) ai_m90 (fun o => ∃ v S', o = (.inl v, S') ∧ S' = S ∧ ∃ r, v = some (ax_i r) ∧ bz r (m1 = m2 ∧ m1 ≤ 24 ∧ ∀ i, i < m1 → T i = U i)) (29, ai_in ai_m90 [.ref a, .ref b], [], S) := by
    intro hno
    refine aw_pure (st' := ax_i (0) :: _) at_90_29 rfl rfl ?_
    exact ax_retZ at_90_30 rfl (Or.inl rfl) ⟨_, _, rfl, rfl, 0, rfl, Or.inl ⟨rfl, hno⟩⟩
  refine aw_loc at_90_0 rfl rfl ?_
  refine aw_get at_90_1 rfl fl_10_15 ha.1 rfl ?_
  refine aw_loc at_90_4 rfl rfl ?_
  refine aw_get at_90_5 rfl fl_10_15 hb.1 rfl ?_
  refine ax_icmp_ne at_90_8 ⟨by omega, by omega⟩ ⟨by omega, by omega⟩ (fun z => k29 (fun h => z (by rw [h.1]))) (fun z1 => ?_)
  refine aw_loc at_90_11 rfl rfl ?_
  refine aw_pure (st' := ax_i (0) :: _) at_90_12 rfl rfl ?_
  refine aw_loc at_90_13 rfl rfl ?_
  refine aw_pure (st' := ax_i (0) :: _) at_90_14 rfl rfl ?_
  refine aw_loc at_90_15 rfl rfl ?_
  refine aw_get at_90_16 rfl fl_10_15 ha.1 rfl ?_
  refine aw_cv (a := a) [ax_i (0 : Nat), .ref b, ax_i (0 : Nat), ax_i (m1 : Nat)] [] at_90_19 mt_10_29 (Or.inl rfl) rfl rfl (Nat.le_of_ble_eq_true rfl) ⟨_, ha.1⟩ ((r_samePart ha hb hT hU (by omega) (by omega) (by omega)).mono ?_)
  rintro v S' ⟨rfl, r, rfl, hz⟩
  have hrr := hz.le
  simp only [Nat.zero_add] at hz
  refine ax_if_eq at_90_22 ⟨by omega, by omega⟩ (fun z => ?_) (fun z => ?_)
  · skip
    refine k29 (fun h => ?_)
    rcases hz with ⟨-, h2⟩ | ⟨h1, -⟩
    · exact h2 ⟨h.2.1, h.2.1, h.2.2⟩
    · omega
  · skip
    refine aw_pure (st' := ax_i (1) :: _) at_90_25 rfl rfl ?_
    refine aw_goto at_90_26 ?_
    rcases hz with ⟨h1, -⟩ | ⟨-, h2⟩
    · omega
    · exact ax_retZ at_90_30 rfl (Or.inr rfl) ⟨_, _, rfl, rfl, 1, rfl, Or.inr ⟨rfl, by omega, h2.1, h2.2.2⟩⟩
/-- the letters of a row from p on, n of them -/
def sl (U : Nat → Int) (p n : Nat) : List Int := (List.range n).map fun i => U (p + i)
theorem sl_succ (U : Nat → Int) (p n : Nat) : sl U p (n + 1) = sl U p n ++ [U (p + n)] := by
  unfold sl
  rw [List.range_succ, List.map_append]; rfl
set_option maxHeartbeats 1000000 in
theorem r_part1 {a b p q m : Nat} {U : Nat → Int} {w : List Int} (hl : a + 1 < S.1) (hb : tm S b U m) (h1 : b ≠ a) (h2 : b ≠ a + 1) (h3 : b + 1 ≠ a) (hU : ∀ i, 0 ≤ U i ∧ U i < 65536) (hq : q ≤ 1000) (hp : p ≤ 1000) : ∀ (k j : Nat) (T : Nat → Int) (n : Nat), max p (min q 24) = j + k → p ≤ j → wd T n (w ++ sl U p (j - p)) → ai_aw L xs (d + 1) ai_m89 (fun o => ∃ v S', o = (.inl v, S') ∧ v = none ∧ ∃ T' n', S' = tm_put S a T' n' ∧ wd T' n' (w ++ sl U p (min q 24 - p))) (3, [some (.ref a), some (.ref b), some (ax_i (p : Nat)), some (ax_i (q : Nat)), some (ax_i (j : Nat))], [], tm_put S a T n) := by
  intro k
  induction k with
  | zero =>
    intro j T n hj hpj hw
    have hend : ai_aw L xs (d + 1) ai_m89 (fun o => ∃ v S', o = (.inl v, S') ∧ v = none ∧ ∃ T' n', S' = tm_put S a T' n' ∧ wd T' n' (w ++ sl U p (min q 24 - p))) (33, [some (.ref a), some (.ref b), some (ax_i (p : Nat)), some (ax_i (q : Nat)), some (ax_i (j : Nat))], [], tm_put S a T n) := aw_vret at_89_33 rfl ⟨_, _, rfl, rfl, T, n, rfl, by rw [show min q 24 - p = j - p by omega]; exact hw⟩
    refine aw_loc at_89_3 rfl rfl ?_
    refine aw_loc at_89_5 rfl rfl ?_
    refine ax_icmp_ge at_89_6 ⟨by omega, by omega⟩ ⟨by omega, by omega⟩ (fun _ => hend) (fun z1 => ?_)
    refine aw_loc at_89_9 rfl rfl ?_
    refine aw_pure (st' := ax_i (24) :: _) at_89_11 rfl rfl ?_
    refine ax_icmp_ge at_89_13 ⟨by omega, by omega⟩ ⟨by omega, by omega⟩ (fun _ => hend) (fun z => absurd z (by omega))
  | succ k ih =>
    intro j T n hj hpj hw
    have ha : tm (tm_put S a T n) a T n := tm_get hl
    have hb : tm (tm_put S a T n) b U m := tm_off hb h1 h2 h3
    refine aw_loc at_89_3 rfl rfl ?_
    refine aw_loc at_89_5 rfl rfl ?_
    refine ax_icmp_ge at_89_6 ⟨by omega, by omega⟩ ⟨by omega, by omega⟩ (fun z => absurd z (by omega)) (fun z1 => ?_)
    refine aw_loc at_89_9 rfl rfl ?_
    refine aw_pure (st' := ax_i (24) :: _) at_89_11 rfl rfl ?_
    refine ax_icmp_ge at_89_13 ⟨by omega, by omega⟩ ⟨by omega, by omega⟩ (fun z => absurd z (by omega)) (fun z2 => ?_)
    refine aw_loc at_89_16 rfl rfl ?_
    refine aw_loc at_89_17 rfl rfl ?_
    refine aw_get at_89_18 rfl fl_10_9 hb.1 rfl ?_
    refine aw_loc at_89_21 rfl rfl ?_
    refine ax_cld at_89_23 rfl hb.2 (k := j) rfl (by omega) (by decide) ?_
    refine aw_cv (a := a) [ax_i (U j)] [] at_89_24 mt_10_19 (Or.inl rfl) rfl rfl (Nat.le_of_ble_eq_true rfl) ⟨_, ha.1⟩ ((r_tappend ha (wd_le hw) (hU j)).mono ?_)
    rintro v S' ⟨rfl, rfl⟩
    rw [tm_two]
    refine ax_inc at_89_27 rfl rfl rfl ?_
    refine aw_goto at_89_30 ?_
    have := ih (j + 1) (ap_T T n (U j)) (ap_N n) (by omega) (by omega) ?_
    · rw [Int.natCast_add] at this; exact this
    · rw [show j + 1 - p = (j - p) + 1 by omega, sl_succ, ← List.append_assoc, show p + (j - p) = j by omega]
      exact wd_app hw (hU j)
set_option maxHeartbeats 1000000 in
theorem r_tpart {a b p q n m : Nat} {T U : Nat → Int} {w : List Int} (ha : tm S a T n) (hw : wd T n w) (hb : tm S b U m) (h1 : b ≠ a) (h2 : b ≠ a + 1) (h3 : b + 1 ≠ a) (hU : ∀ i, 0 ≤ U i ∧ U i < 65536) (hq : q ≤ 1000) (hp : p ≤ 1000) : ai_rn L xs (d + 2) 89 [.ref a, .ref b, ax_i (p : Nat), ax_i (q : Nat)] S (fun v S' => v = none ∧ ∃ T' n', S' = tm_put S a T' n' ∧ wd T' n' (w ++ sl U p (min q 24 - p))) := by
  have hl := tm_lt ha
  refine ai_rn_of (M := ai_m89) rfl (by decide) (Nat.le_of_ble_eq_true rfl) ?_
  refine aw_loc at_89_0 rfl rfl ?_
  refine aw_loc at_89_1 rfl rfl ?_
  have := r_part1 (L := L) (xs := xs) (d := d) (p := p) (q := q) (w := w) hl hb h1 h2 h3 hU hq hp (max p (min q 24) - p) p T n (by omega) (by omega) (by rw [Nat.sub_self]; show wd T n (w ++ []); rw [List.append_nil]; exact hw)
  rw [tm_self ha] at this
  exact this
end TM

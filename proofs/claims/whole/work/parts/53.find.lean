/-! Finding a rule, as the landed code does it. -/
section FI
variable {L : Nat} {xs : Nat → Int32} {d : Nat} {S S' : ai_S} {A : Int → Nat}
/-- the rewriter: its rows and its place -/
def rwo (S : ai_S) (E B : Nat → Int) (pl : Int) : Prop := ai_obj S 412 8 = some (rwf pl) ∧ ai_arr S 413 0 = some (24, ax_f E) ∧ ai_arr S 414 0 = some (6, ax_f B) ∧ ∃ T n, tm S 415 T n ∧ ∀ i, 0 ≤ T i ∧ T i < 65536
/-- the term at a has the word w -/
def tw (S : ai_S) (a : Nat) (w : List Int) : Prop := ∃ T n, tm S a T n ∧ wd T n w
theorem fr.tw {lo hi a : Nat} {w : List Int} (h : fr lo hi S S') (ht : tw S a w) (ha : a + 1 < lo ∨ hi ≤ a) : tw S' a w := by
  obtain ⟨T, n, h1, h2⟩ := ht
  exact ⟨T, n, h.tm h1 ha, h2⟩
/-- a rule that is no longer than it may be -/
def rlk (A : Int → Nat) (q : List Int × List Int) : Prop := rok A q ∧ q.1.length ≤ 24 ∧ q.2.length ≤ 24 ∧ al (fun c => c < 123) q.1 ∧ al (fun c => c < 123) q.2
theorem rwo_wr {E B B2 : Nat → Int} {pl : Int} (h : rwo S E B pl) : rwo (ai_wr S 414 (.inl (0, ai_I 6 (ax_f B2)))) E B2 pl := by
  obtain ⟨h1, h2, h3, T, n, h4, h5⟩ := h
  exact ⟨(ai_obj_wr (by decide)).trans h1, (ai_arr_wr (by decide)).trans h2, ai_arr_wrS (ai_arr_inv h3).1, T, n, ⟨(ai_obj_wr (by decide)).trans h4.1, (ai_arr_wr (by decide)).trans h4.2⟩, h5⟩
theorem rwo_we {E B E2 : Nat → Int} {pl : Int} (h : rwo S E B pl) : rwo (ai_wr S 413 (.inl (0, ai_I 24 (ax_f E2)))) E2 B pl := by
  obtain ⟨h1, h2, h3, T, n, h4, h5⟩ := h
  exact ⟨(ai_obj_wr (by decide)).trans h1, ai_arr_wrS (ai_arr_inv h2).1, (ai_arr_wr (by decide)).trans h3, T, n, ⟨(ai_obj_wr (by decide)).trans h4.1, (ai_arr_wr (by decide)).trans h4.2⟩, h5⟩
theorem rwo_wp {E B : Nat → Int} {pl pl2 : Int} (h : rwo S E B pl) : rwo (ai_wr S 412 (.inr (8, rwf pl2))) E B pl2 := by
  obtain ⟨h1, h2, h3, T, n, h4, h5⟩ := h
  exact ⟨ai_obj_wrS (by have := (ai_arr_inv h2).1; omega), (ai_arr_wr (by decide)).trans h2, (ai_arr_wr (by decide)).trans h3, T, n, ⟨(ai_obj_wr (by decide)).trans h4.1, (ai_arr_wr (by decide)).trans h4.2⟩, h5⟩
/-- ends of a term's row -/
theorem fe_word {P T E : Nat → Int} {n : Nat} {w : List Int} (h : wd T n w) (hl : w.length ≤ 24) : ∀ j : Nat, j < w.length → fe P T n E (n - 0) j = (j : Int) + tl (Ar P) 1 (w.drop j) := by
  intro j hj
  have h1 := wd_sl h hl
  rw [Nat.sub_zero, fe_tl P T n E n (Nat.le_refl _) j (by omega) (by omega), h1.2.2 j (by omega)]
theorem at_74_0 : ai_at ai_m74 0 = some (.aload_n 0, 1) := rfl
theorem at_74_1 : ai_at ai_m74 1 = some (.getfield 29, 3) := rfl
theorem at_74_4 : ai_at ai_m74 4 = some (.aload_n 1, 1) := rfl
theorem at_74_5 : ai_at ai_m74 5 = some (.getfield 60, 3) := rfl
theorem at_74_8 : ai_at ai_m74 8 = some (.iconst 0, 1) := rfl
theorem at_74_9 : ai_at ai_m74 9 = some (.aload_n 1, 1) := rfl
theorem at_74_10 : ai_at ai_m74 10 = some (.getfield 64, 3) := rfl
theorem at_74_13 : ai_at ai_m74 13 = some (.aload_n 0, 1) := rfl
theorem at_74_14 : ai_at ai_m74 14 = some (.getfield 9, 3) := rfl
theorem at_74_17 : ai_at ai_m74 17 = some (.invokevirtual 67, 3) := rfl
theorem at_74_20 : ai_at ai_m74 20 = some (.iconst 0, 1) := rfl
theorem at_74_21 : ai_at ai_m74 21 = some (.istore_n 2, 1) := rfl
theorem at_74_22 : ai_at ai_m74 22 = some (.iload_n 2, 1) := rfl
theorem at_74_23 : ai_at ai_m74 23 = some (.aload_n 1, 1) := rfl
theorem at_74_24 : ai_at ai_m74 24 = some (.getfield 64, 3) := rfl
theorem at_74_27 : ai_at ai_m74 27 = some (.if_icmp .ge 56, 3) := rfl
theorem at_74_30 : ai_at ai_m74 30 = some (.iconst 0, 1) := rfl
theorem at_74_31 : ai_at ai_m74 31 = some (.istore_n 3, 1) := rfl
theorem at_74_32 : ai_at ai_m74 32 = some (.iload_n 3, 1) := rfl
theorem at_74_33 : ai_at ai_m74 33 = some (.aload_n 0, 1) := rfl
theorem at_74_34 : ai_at ai_m74 34 = some (.getfield 33, 3) := rfl
theorem at_74_37 : ai_at ai_m74 37 = some (.getfield 77, 3) := rfl
theorem at_74_40 : ai_at ai_m74 40 = some (.if_icmp .ge 37, 3) := rfl
theorem at_74_43 : ai_at ai_m74 43 = some (.aload_n 0, 1) := rfl
theorem at_74_44 : ai_at ai_m74 44 = some (.aload_n 1, 1) := rfl
theorem at_74_45 : ai_at ai_m74 45 = some (.iload_n 2, 1) := rfl
theorem at_74_46 : ai_at ai_m74 46 = some (.aload_n 0, 1) := rfl
theorem at_74_47 : ai_at ai_m74 47 = some (.getfield 33, 3) := rfl
theorem at_74_50 : ai_at ai_m74 50 = some (.getfield 45, 3) := rfl
theorem at_74_53 : ai_at ai_m74 53 = some (.iload_n 3, 1) := rfl
theorem at_74_54 : ai_at ai_m74 54 = some (.aaload, 1) := rfl
theorem at_74_55 : ai_at ai_m74 55 = some (.getfield 80, 3) := rfl
theorem at_74_58 : ai_at ai_m74 58 = some (.invokevirtual 73, 3) := rfl
theorem at_74_61 : ai_at ai_m74 61 = some (.ifCond .eq 10, 3) := rfl
theorem at_74_64 : ai_at ai_m74 64 = some (.aload_n 0, 1) := rfl
theorem at_74_65 : ai_at ai_m74 65 = some (.iload_n 2, 1) := rfl
theorem at_74_66 : ai_at ai_m74 66 = some (.putfield 25, 3) := rfl
theorem at_74_69 : ai_at ai_m74 69 = some (.iload_n 3, 1) := rfl
theorem at_74_70 : ai_at ai_m74 70 = some (.ireturn, 1) := rfl
theorem at_74_71 : ai_at ai_m74 71 = some (.iinc 3 1, 3) := rfl
theorem at_74_74 : ai_at ai_m74 74 = some (.goto (-42), 3) := rfl
theorem at_74_77 : ai_at ai_m74 77 = some (.iinc 2 1, 3) := rfl
theorem at_74_80 : ai_at ai_m74 80 = some (.goto (-58), 3) := rfl
theorem at_74_83 : ai_at ai_m74 83 = some (.iconst (-1), 1) := rfl
theorem at_74_84 : ai_at ai_m74 84 = some (.ireturn, 1) := rfl
theorem at_77_0 : ai_at ai_m77 0 = some (.aload_n 0, 1) := rfl
theorem at_77_1 : ai_at ai_m77 1 = some (.getfield 29, 3) := rfl
theorem at_77_4 : ai_at ai_m77 4 = some (.aload_n 1, 1) := rfl
theorem at_77_5 : ai_at ai_m77 5 = some (.getfield 60, 3) := rfl
theorem at_77_8 : ai_at ai_m77 8 = some (.iconst 0, 1) := rfl
theorem at_77_9 : ai_at ai_m77 9 = some (.aload_n 1, 1) := rfl
theorem at_77_10 : ai_at ai_m77 10 = some (.getfield 64, 3) := rfl
theorem at_77_13 : ai_at ai_m77 13 = some (.aload_n 0, 1) := rfl
theorem at_77_14 : ai_at ai_m77 14 = some (.getfield 9, 3) := rfl
theorem at_77_17 : ai_at ai_m77 17 = some (.invokevirtual 67, 3) := rfl
theorem at_77_20 : ai_at ai_m77 20 = some (.iconst 0, 1) := rfl
theorem at_77_21 : ai_at ai_m77 21 = some (.istore_n 3, 1) := rfl
theorem at_77_22 : ai_at ai_m77 22 = some (.iload_n 3, 1) := rfl
theorem at_77_23 : ai_at ai_m77 23 = some (.aload_n 1, 1) := rfl
theorem at_77_24 : ai_at ai_m77 24 = some (.getfield 64, 3) := rfl
theorem at_77_27 : ai_at ai_m77 27 = some (.if_icmp .ge 21, 3) := rfl
theorem at_77_30 : ai_at ai_m77 30 = some (.aload_n 0, 1) := rfl
theorem at_77_31 : ai_at ai_m77 31 = some (.aload_n 1, 1) := rfl
theorem at_77_32 : ai_at ai_m77 32 = some (.iload_n 3, 1) := rfl
theorem at_77_33 : ai_at ai_m77 33 = some (.aload_n 2, 1) := rfl
theorem at_77_34 : ai_at ai_m77 34 = some (.invokevirtual 73, 3) := rfl
theorem at_77_37 : ai_at ai_m77 37 = some (.ifCond .eq 5, 3) := rfl
theorem at_77_40 : ai_at ai_m77 40 = some (.iconst 1, 1) := rfl
theorem at_77_41 : ai_at ai_m77 41 = some (.ireturn, 1) := rfl
theorem at_77_42 : ai_at ai_m77 42 = some (.iinc 3 1, 3) := rfl
theorem at_77_45 : ai_at ai_m77 45 = some (.goto (-23), 3) := rfl
theorem at_77_48 : ai_at ai_m77 48 = some (.iconst 0, 1) := rfl
theorem at_77_49 : ai_at ai_m77 49 = some (.ireturn, 1) := rfl
theorem fl_8_25 : ai_fld 8 25 = some (8, 5, false) := by decide +kernel
theorem fl_8_29 : ai_fld 8 29 = some (8, 0, false) := by decide +kernel
theorem fl_8_33 : ai_fld 8 33 = some (8, 1, false) := by decide +kernel
theorem fl_8_45 : ai_fld 8 45 = some (6, 0, true) := by decide +kernel
theorem fl_8_77 : ai_fld 8 77 = some (6, 1, true) := by decide +kernel
theorem fl_8_80 : ai_fld 8 80 = some (3, 0, true) := by decide +kernel
theorem mt_8_67 : ai_mth 8 67 = some (0, 83, 4, 1) := by decide +kernel
theorem mt_8_73 : ai_mth 8 73 = some (0, 75, 3, 8) := by decide +kernel
set_option maxHeartbeats 2000000 in
theorem r_hasI1 {a b n m N : Nat} {T U E : Nat → Int} {pl : Int} {w p : List Int} (hA : ∀ c, 117 ≤ c → A c = 0) (ha : tm S a T n) (hT : wd T n w) (hb : tm S b U m) (hU : wd U m p) (hwl : w.length ≤ 24) (hpl : p.length ≤ 24) (hEv : ∀ j : Nat, j < w.length → E j = (j : Int) + tl A 1 (w.drop j)) (hpv : al (fun c => c < 123) p) (hN : ts A N w) (hpt : ts A 1 p) (hp0 : ∃ c u, p = c :: u ∧ c < 117) (hsa : a + 1 < 412 ∨ 416 < a) (hsb : b + 1 < 412 ∨ 416 < b) : ∀ (k i : Nat) (S1 : ai_S) (B1 : Nat → Int), i + k = w.length → fr 412 417 S S1 → rwo S1 E B1 pl → hib A p (w.drop i) = hib A p w → ai_aw L xs (d + 2) ai_m77 (fun o => ∃ v S', o = (.inl v, S') ∧ fr 412 417 S S' ∧ (∃ E' B' pl', rwo S' E' B' pl') ∧ ∃ z, v = some (ax_i z) ∧ bz z (hib A p w = true)) (22, [some (.ref 412), some (.ref a), some (.ref b), some (ax_i (i : Nat))], [], S1) := by
  have en : n = w.length := by rw [hT.1]; omega
  subst en
  intro k
  induction k with
  | zero =>
    intro i S1 B1 hi hf hr1 hh
    have ha1 := hf.tm ha (by omega)
    rw [hib_end (by omega)] at hh
    refine aw_loc at_77_22 rfl rfl ?_
    refine aw_loc at_77_23 rfl rfl ?_
    refine aw_get at_77_24 rfl fl_8_64 ha1.1 rfl ?_
    refine ax_icmp_ge at_77_27 ⟨by omega, by omega⟩ ⟨by omega, by omega⟩ (fun _ => ?_) (fun z => absurd z (by omega))
    show ai_aw L xs (d + 2) ai_m77 _ (48, _, _, _)
    refine aw_pure (st' := ax_i (0) :: _) at_77_48 rfl rfl ?_
    exact ax_retZ at_77_49 rfl (Or.inl rfl) ⟨_, _, rfl, hf, ⟨_, _, _, hr1⟩, 0, rfl, Or.inl ⟨rfl, by rw [← hh]; intro h; cases h⟩⟩
  | succ k ih =>
    intro i S1 B1 hi hf hr1 hh
    have ha1 := hf.tm ha (by omega)
    have hb1 := hf.tm hb (by omega)
    rw [hib_at (by omega)] at hh
    refine aw_loc at_77_22 rfl rfl ?_
    refine aw_loc at_77_23 rfl rfl ?_
    refine aw_get at_77_24 rfl fl_8_64 ha1.1 rfl ?_
    refine ax_icmp_ge at_77_27 ⟨by omega, by omega⟩ ⟨by omega, by omega⟩ (fun z => absurd z (by omega)) (fun _ => ?_)
    refine aw_loc at_77_30 rfl rfl ?_
    refine aw_loc at_77_31 rfl rfl ?_
    refine aw_loc at_77_32 rfl rfl ?_
    refine aw_loc at_77_33 rfl rfl ?_
    refine aw_cv (a := 412) [.ref a, ax_i (i : Nat), .ref b] [] at_77_34 mt_8_73 (Or.inl rfl) rfl rfl (Nat.le_of_ble_eq_true rfl) ⟨_, hr1.1⟩ ((r_inst hA hr1.1 hr1.2.1 ha1 hT hb1 hU hwl hpl hEv hpv hN hsa hsb hr1.2.2.1 hpt hp0 (by omega)).mono ?_)
    rintro v S0 ⟨B2, z1, rfl, rfl, hz1, -⟩
    have hz9 := hz1.le
    have hf2 : fr 412 417 S _ := hf.tr ((fr_wr (a := 414) (x := .inl (0, ai_I 6 (ax_f B2)))).mn (by decide) (by decide))
    have hr2 := rwo_wr (B2 := B2) hr1
    refine ax_if_eq at_77_37 ⟨by omega, by omega⟩ (fun z => ?_) (fun z => ?_)
    · skip
      refine ax_inc at_77_42 rfl rfl rfl ?_
      refine aw_goto at_77_45 ?_
      have h9 : (mtf A p (w.drop i) s_no).isSome = false := by rcases hz1 with ⟨-, h9⟩ | ⟨h9, -⟩; exact eq_false_of_ne_true h9; omega
      rw [h9, Bool.false_or] at hh
      have := ih (i + 1) _ B2 (by omega) hf2 hr2 hh
      rw [Int.natCast_add] at this
      exact this
    · skip
      refine aw_pure (st' := ax_i (1) :: _) at_77_40 rfl rfl ?_
      exact ax_retZ at_77_41 rfl (Or.inr rfl) ⟨_, _, rfl, hf2, ⟨_, _, _, hr2⟩, 1, rfl, Or.inr ⟨rfl, by rcases hz1 with ⟨h9, -⟩ | ⟨-, h9⟩; exact absurd h9 z; rw [← hh, h9, Bool.true_or]⟩⟩
set_option maxHeartbeats 2000000 in
theorem r_hasI {a b N : Nat} {P R E B : Nat → Int} {nn pl : Int} {w p : List Int} (hs : sy S P R nn) (hP : ∀ i, 0 ≤ P i ∧ P i ≤ 2) (hA : ∀ c, 117 ≤ c → Ar P c = 0) (hr : rwo S E B pl) (ha : tw S a w) (hb : tw S b p) (hwl : w.length ≤ 24) (hpl : p.length ≤ 24) (hpv : al (fun c => c < 123) p) (hN : ts (Ar P) N w) (hpt : ts (Ar P) 1 p) (hp0 : ∃ c u, p = c :: u ∧ c < 117) (hsa : a + 1 < 412 ∨ 416 < a) (hsb : b + 1 < 412 ∨ 416 < b) : ai_rn L xs (d + 3) 77 [.ref 412, .ref a, .ref b] S (fun v S' => fr 412 417 S S' ∧ (∃ E' B' pl', rwo S' E' B' pl') ∧ ∃ z, v = some (ax_i z) ∧ bz z (hib (Ar P) p w = true)) := by
  obtain ⟨T, n, ha, hT⟩ := ha
  obtain ⟨U, m, hb, hU⟩ := hb
  have en : n = w.length := by rw [hT.1]; omega
  refine ai_rn_of (M := ai_m77) rfl (by decide) (Nat.le_of_ble_eq_true rfl) ?_
  refine aw_loc at_77_0 rfl rfl ?_
  refine aw_get at_77_1 rfl fl_8_29 hr.1 rfl ?_
  refine aw_loc at_77_4 rfl rfl ?_
  refine aw_get at_77_5 rfl fl_8_60 ha.1 rfl ?_
  refine aw_pure (st' := ax_i (0) :: _) at_77_8 rfl rfl ?_
  refine aw_loc at_77_9 rfl rfl ?_
  refine aw_get at_77_10 rfl fl_8_64 ha.1 rfl ?_
  refine aw_loc at_77_13 rfl rfl ?_
  refine aw_get at_77_14 rfl fl_8_9 hr.1 rfl ?_
  refine aw_cv (a := 1) [.ref (a + 1), ax_i ((0 : Nat) : Int), ax_i (n : Nat), .ref 413] [] at_77_17 mt_8_67 (Or.inl rfl) rfl rfl (Nat.le_of_ble_eq_true rfl) ⟨_, hs.1⟩ ((r_ends hs hP ha.2 hT.2.2 hr.2.1 (by omega) (by decide) (by omega) (by omega) (by decide) (by decide) (by omega)).mono ?_)
  rintro v S0 ⟨rfl, rfl⟩
  have hf : fr 412 417 S _ := (fr_wr (a := 413) (x := .inl (0, ai_I 24 (ax_f (fe P T n E (n - 0)))))).mn (by decide) (by decide)
  have hr1 := rwo_we (E2 := fe P T n E (n - 0)) hr
  refine aw_pure (st' := ax_i (0) :: _) at_77_20 rfl rfl ?_
  refine aw_loc at_77_21 rfl rfl ?_
  refine ai_aw_mono (r_hasI1 hA (hf.tm ha (by omega)) hT (hf.tm hb (by omega)) hU hwl hpl (fe_word hT hwl) hpv hN hpt hp0 hsa hsb w.length 0 _ B (by omega) fr.rf hr1 rfl) ?_
  rintro o ⟨v, S2, rfl, h1, h2⟩
  exact ⟨v, S2, rfl, hf.tr h1, h2⟩
set_option maxHeartbeats 4000000 in
theorem r_find1 {a n N : Nat} {T E : Nat → Int} {pl : Int} {w : List Int} {Rs : rls} (hA : ∀ c, 117 ≤ c → A c = 0) (ha : tm S a T n) (hT : wd T n w) (hwl : w.length ≤ 24) (hEv : ∀ j : Nat, j < w.length → E j = (j : Int) + tl A 1 (w.drop j)) (hN : ts A N w) (hsa : a + 1 < 412 ∨ 416 < a) (hp : plv S 12 14 Rs) (hR : ∀ q, q ∈ Rs → rlk A q) {i : Nat} (hi : i < w.length) (hJ : stp A Rs w = (stp A Rs (w.drop i)).map (w.take i ++ ·)) : ∀ (m k : Nat) (S1 : ai_S) (B1 : Nat → Int), k + m = Rs.length → fr 412 417 S S1 → rwo S1 E B1 pl → fk A (Rs.drop k) (w.drop i) = fk A Rs (w.drop i) → (fk A Rs (w.drop i) = none → ∀ (S2 : ai_S) (B2 : Nat → Int) (x3 : Option Value), fr 412 417 S S2 → rwo S2 E B2 pl → ai_aw L xs (d + 2) ai_m74 (fun o => ∃ v S', o = (.inl v, S') ∧ fr 412 417 S S' ∧ ∃ E' B' pl', rwo S' E' B' pl' ∧ (∀ j : Nat, j < w.length → E' j = (j : Int) + tl A 1 (w.drop j)) ∧ ∃ z, v = some (ax_i z) ∧ ((z = -1 ∧ stp A Rs w = none) ∨ ∃ (k i : Nat) (s : sgm), z = (k : Int) ∧ k < Rs.length ∧ i < w.length ∧ pl' = (i : Int) ∧ rpB A w B' s ∧ mtf A (Rs.getD k q_no).1 (w.drop i) s_no = some s ∧ stp A Rs w = some (w.take i ++ (rb s (Rs.getD k q_no).2 ++ w.drop (i + tl A 1 (w.drop i)))))) (77, [some (.ref 412), some (.ref a), some (ax_i (i : Nat)), x3], [], S2)) → ai_aw L xs (d + 2) ai_m74 (fun o => ∃ v S', o = (.inl v, S') ∧ fr 412 417 S S' ∧ ∃ E' B' pl', rwo S' E' B' pl' ∧ (∀ j : Nat, j < w.length → E' j = (j : Int) + tl A 1 (w.drop j)) ∧ ∃ z, v = some (ax_i z) ∧ ((z = -1 ∧ stp A Rs w = none) ∨ ∃ (k i : Nat) (s : sgm), z = (k : Int) ∧ k < Rs.length ∧ i < w.length ∧ pl' = (i : Int) ∧ rpB A w B' s ∧ mtf A (Rs.getD k q_no).1 (w.drop i) s_no = some s ∧ stp A Rs w = some (w.take i ++ (rb s (Rs.getD k q_no).2 ++ w.drop (i + tl A 1 (w.drop i)))))) (32, [some (.ref 412), some (.ref a), some (ax_i (i : Nat)), some (ax_i (k : Nat))], [], S1) := by
  intro m
  induction m with
  | zero =>
    intro k S1 B1 hk hf hr1 hh hc
    have ha1 := hf.tm ha (by omega)
    obtain ⟨f, g, h1, h2, h3, h4, h5, h6, h7, h8⟩ := hf.plv hp (by decide)
    rw [show Rs.drop k = [] from List.drop_eq_nil_iff.2 (by omega)] at hh
    refine aw_loc at_74_32 rfl rfl ?_
    refine aw_loc at_74_33 rfl rfl ?_
    refine aw_get at_74_34 rfl fl_8_33 hr1.1 rfl ?_
    refine aw_get at_74_37 rfl fl_8_77 h1 rfl ?_
    refine ax_icmp_ge at_74_40 ⟨by omega, by omega⟩ ⟨by omega, by omega⟩ (fun _ => hc hh.symm S1 B1 _ hf hr1) (fun z => absurd z (by omega))
  | succ m ih =>
    intro k S1 B1 hk hf hr1 hh hc
    have ha1 := hf.tm ha (by omega)
    obtain ⟨f, g, h1, h2, h3, h4, h5, h6, h7, h8⟩ := hf.plv hp (by decide)
    have hkR : k < Rs.length := by omega
    have hq : rlk A (Rs.getD k q_no) := by
      rw [List.getD_eq_getElem?_getD, List.getElem?_eq_getElem hkR]
      exact hR _ (List.getElem_mem _)
    obtain ⟨Tl, nl, Tr, nr, hpr, hwd1, hwd2⟩ := h8 k hkR
    have hg := h4 k (by omega)
    refine aw_loc at_74_32 rfl rfl ?_
    refine aw_loc at_74_33 rfl rfl ?_
    refine aw_get at_74_34 rfl fl_8_33 hr1.1 rfl ?_
    refine aw_get at_74_37 rfl fl_8_77 h1 rfl ?_
    refine ax_icmp_ge at_74_40 ⟨by omega, by omega⟩ ⟨by omega, by omega⟩ (fun z => absurd z (by omega)) (fun _ => ?_)
    refine aw_loc at_74_43 rfl rfl ?_
    refine aw_loc at_74_44 rfl rfl ?_
    refine aw_loc at_74_45 rfl rfl ?_
    refine aw_loc at_74_46 rfl rfl ?_
    refine aw_get at_74_47 rfl fl_8_33 hr1.1 rfl ?_
    refine aw_get at_74_50 rfl fl_8_45 h1 rfl ?_
    refine aw_loc at_74_53 rfl rfl ?_
    refine ax_ald (k := k) at_74_54 rfl h2 rfl (by omega) (by decide) (h3 _ (by omega)) ?_
    refine aw_get at_74_55 rfl fl_8_80 hpr.1 rfl ?_
    refine aw_cv (a := 412) [.ref a, ax_i (i : Nat), .ref (g k + 1)] [] at_74_58 mt_8_73 (Or.inl rfl) rfl rfl (Nat.le_of_ble_eq_true rfl) ⟨_, hr1.1⟩ ((r_inst hA hr1.1 hr1.2.1 ha1 hT hpr.2.1 hwd1 hwl hq.2.1 hEv hq.2.2.2.1 hN hsa (by omega) hr1.2.2.1 hq.1.1 hq.1.2.2.1 hi).mono ?_)
    rintro v S0 ⟨B2, z1, rfl, rfl, hz1, hB2⟩
    have hz9 := hz1.le
    have hf2 : fr 412 417 S _ := hf.tr ((fr_wr (a := 414) (x := .inl (0, ai_I 6 (ax_f B2)))).mn (by decide) (by decide))
    have hr2 := rwo_wr (B2 := B2) hr1
    refine ax_if_eq at_74_61 ⟨by omega, by omega⟩ (fun z => ?_) (fun z => ?_)
    · skip
      refine ax_inc at_74_71 rfl rfl rfl ?_
      refine aw_goto at_74_74 ?_
      have hm : mtf A (Rs.getD k q_no).1 (w.drop i) s_no = none := by
        rcases hz1 with ⟨-, h9⟩ | ⟨h9, -⟩
        · exact Option.not_isSome_iff_eq_none.1 h9
        · omega
      have := ih (k + 1) _ B2 (by omega) hf2 hr2 (by rw [← hh, fk_miss hkR hm]) hc
      rw [Int.natCast_add] at this
      exact this
    · skip
      have hm : ∃ s, mtf A (Rs.getD k q_no).1 (w.drop i) s_no = some s := by
        rcases hz1 with ⟨h9, -⟩ | ⟨-, h9⟩
        · exact absurd h9 z
        · exact Option.isSome_iff_exists.1 h9
      obtain ⟨s, hm⟩ := hm
      rw [fk_hit hkR hm, List.drop_drop] at hh
      refine aw_loc at_74_64 rfl rfl ?_
      refine aw_loc at_74_65 rfl rfl ?_
      refine aw_put at_74_66 rfl fl_8_25 hr2.1 (Nat.le_of_ble_eq_true rfl) rfl (by decide +kernel) ?_
      refine aw_loc at_74_69 rfl rfl ?_
      exact ax_ret at_74_70 rfl ⟨_, _, rfl, hf2.tr (fr_wr.mn (by decide) (by decide)), E, B2, i, rwo_wp hr2, hEv, k, rfl, Or.inr ⟨k, i, s, rfl, hkR, hi, rfl, hB2 s hm, hm, stp_hit hi hJ hh.symm⟩⟩
set_option maxHeartbeats 2000000 in
theorem r_find2 {a n N : Nat} {T E : Nat → Int} {pl : Int} {w : List Int} {Rs : rls} (hA : ∀ c, 117 ≤ c → A c = 0) (ha : tm S a T n) (hT : wd T n w) (hwl : w.length ≤ 24) (hEv : ∀ j : Nat, j < w.length → E j = (j : Int) + tl A 1 (w.drop j)) (hN : ts A N w) (hsa : a + 1 < 412 ∨ 416 < a) (hp : plv S 12 14 Rs) (hR : ∀ q, q ∈ Rs → rlk A q) : ∀ (m i : Nat) (S1 : ai_S) (B1 : Nat → Int) (x3 : Option Value), i + m = w.length → fr 412 417 S S1 → rwo S1 E B1 pl → stp A Rs w = (stp A Rs (w.drop i)).map (w.take i ++ ·) → ai_aw L xs (d + 2) ai_m74 (fun o => ∃ v S', o = (.inl v, S') ∧ fr 412 417 S S' ∧ ∃ E' B' pl', rwo S' E' B' pl' ∧ (∀ j : Nat, j < w.length → E' j = (j : Int) + tl A 1 (w.drop j)) ∧ ∃ z, v = some (ax_i z) ∧ ((z = -1 ∧ stp A Rs w = none) ∨ ∃ (k i : Nat) (s : sgm), z = (k : Int) ∧ k < Rs.length ∧ i < w.length ∧ pl' = (i : Int) ∧ rpB A w B' s ∧ mtf A (Rs.getD k q_no).1 (w.drop i) s_no = some s ∧ stp A Rs w = some (w.take i ++ (rb s (Rs.getD k q_no).2 ++ w.drop (i + tl A 1 (w.drop i)))))) (22, [some (.ref 412), some (.ref a), some (ax_i (i : Nat)), x3], [], S1) := by
  have en : n = w.length := by rw [hT.1]; omega
  subst en
  intro m
  induction m with
  | zero =>
    intro i S1 B1 x3 hi hf hr1 hJ
    have ha1 := hf.tm ha (by omega)
    refine aw_loc at_74_22 rfl rfl ?_
    refine aw_loc at_74_23 rfl rfl ?_
    refine aw_get at_74_24 rfl fl_8_64 ha1.1 rfl ?_
    refine ax_icmp_ge at_74_27 ⟨by omega, by omega⟩ ⟨by omega, by omega⟩ (fun _ => ?_) (fun z => absurd z (by omega))
    show ai_aw L xs (d + 2) ai_m74 _ (83, _, _, _)
    refine aw_pure (st' := ax_i (-1) :: _) at_74_83 rfl rfl ?_
    exact ax_ret at_74_84 rfl ⟨_, _, rfl, hf, _, _, _, hr1, hEv, -1, rfl, Or.inl ⟨rfl, stp_end (by omega) hJ⟩⟩
  | succ m ih =>
    intro i S1 B1 x3 hi hf hr1 hJ
    have ha1 := hf.tm ha (by omega)
    refine aw_loc at_74_22 rfl rfl ?_
    refine aw_loc at_74_23 rfl rfl ?_
    refine aw_get at_74_24 rfl fl_8_64 ha1.1 rfl ?_
    refine ax_icmp_ge at_74_27 ⟨by omega, by omega⟩ ⟨by omega, by omega⟩ (fun z => absurd z (by omega)) (fun _ => ?_)
    refine aw_pure (st' := ax_i (0) :: _) at_74_30 rfl rfl ?_
    refine aw_loc at_74_31 rfl rfl ?_
    refine r_find1 (i := i) hA ha hT hwl hEv hN hsa hp hR (by omega) hJ Rs.length 0 S1 B1 (by omega) hf hr1 rfl (fun hno S2 B2 y3 hf2 hr2 => ?_)
    refine ax_inc at_74_77 rfl rfl rfl ?_
    refine aw_goto at_74_80 ?_
    have := ih (i + 1) S2 B2 y3 (by omega) hf2 hr2 (stp_next (by omega) hJ hno)
    rw [Int.natCast_add] at this
    exact this
set_option maxHeartbeats 2000000 in
theorem r_find {a N : Nat} {P R E B : Nat → Int} {nn pl : Int} {w : List Int} {Rs : rls} (hs : sy S P R nn) (hP : ∀ i, 0 ≤ P i ∧ P i ≤ 2) (hA : ∀ c, 117 ≤ c → Ar P c = 0) (hr : rwo S E B pl) (ha : tw S a w) (hwl : w.length ≤ 24) (hN : ts (Ar P) N w) (hsa : a + 1 < 412 ∨ 416 < a) (hp : plv S 12 14 Rs) (hR : ∀ q, q ∈ Rs → rlk (Ar P) q) : ai_rn L xs (d + 3) 74 [.ref 412, .ref a] S (fun v S' => fr 412 417 S S' ∧ ∃ E' B' pl', rwo S' E' B' pl' ∧ (∀ j : Nat, j < w.length → E' j = (j : Int) + tl (Ar P) 1 (w.drop j)) ∧ ∃ z, v = some (ax_i z) ∧ ((z = -1 ∧ stp (Ar P) Rs w = none) ∨ ∃ (k i : Nat) (s : sgm), z = (k : Int) ∧ k < Rs.length ∧ i < w.length ∧ pl' = (i : Int) ∧ rpB (Ar P) w B' s ∧ mtf (Ar P) (Rs.getD k q_no).1 (w.drop i) s_no = some s ∧ stp (Ar P) Rs w = some (w.take i ++ (rb s (Rs.getD k q_no).2 ++ w.drop (i + tl (Ar P) 1 (w.drop i)))))) := by
  obtain ⟨T, n, ha, hT⟩ := ha
  have en : n = w.length := by rw [hT.1]; omega
  refine ai_rn_of (M := ai_m74) rfl (by decide) (Nat.le_of_ble_eq_true rfl) ?_
  refine aw_loc at_74_0 rfl rfl ?_
  refine aw_get at_74_1 rfl fl_8_29 hr.1 rfl ?_
  refine aw_loc at_74_4 rfl rfl ?_
  refine aw_get at_74_5 rfl fl_8_60 ha.1 rfl ?_
  refine aw_pure (st' := ax_i (0) :: _) at_74_8 rfl rfl ?_
  refine aw_loc at_74_9 rfl rfl ?_
  refine aw_get at_74_10 rfl fl_8_64 ha.1 rfl ?_
  refine aw_loc at_74_13 rfl rfl ?_
  refine aw_get at_74_14 rfl fl_8_9 hr.1 rfl ?_
  refine aw_cv (a := 1) [.ref (a + 1), ax_i ((0 : Nat) : Int), ax_i (n : Nat), .ref 413] [] at_74_17 mt_8_67 (Or.inl rfl) rfl rfl (Nat.le_of_ble_eq_true rfl) ⟨_, hs.1⟩ ((r_ends hs hP ha.2 hT.2.2 hr.2.1 (by omega) (by decide) (by omega) (by omega) (by decide) (by decide) (by omega)).mono ?_)
  rintro v S0 ⟨rfl, rfl⟩
  have hf : fr 412 417 S _ := (fr_wr (a := 413) (x := .inl (0, ai_I 24 (ax_f (fe P T n E (n - 0)))))).mn (by decide) (by decide)
  have hr1 := rwo_we (E2 := fe P T n E (n - 0)) hr
  refine aw_pure (st' := ax_i (0) :: _) at_74_20 rfl rfl ?_
  refine aw_loc at_74_21 rfl rfl ?_
  refine ai_aw_mono (r_find2 hA (hf.tm ha (by omega)) hT hwl (fe_word hT hwl) hN hsa (hf.plv hp (by decide)) hR w.length 0 _ B _ (by omega) fr.rf hr1 (stp_zero Rs w)) ?_
  rintro o ⟨v, S2, rfl, h1, h2⟩
  exact ⟨v, S2, rfl, hf.tr h1, h2⟩
end FI

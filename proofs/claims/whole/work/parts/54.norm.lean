/-! Rewriting and normal forms, as the landed code does them. -/
section NO
variable {L : Nat} {xs : Nat → Int32} {d : Nat} {S S' S'' : ai_S} {A : Int → Nat}
/-- cells that are not named are the same -/
def frp (P : Nat → Prop) (S S' : ai_S) : Prop := S'.1 = S.1 ∧ S'.2.1 = S.2.1 ∧ S'.2.2.1 = S.2.2.1 ∧ ∀ a, ¬ P a → S'.2.2.2 a = S.2.2.2 a
theorem frp.rf {P : Nat → Prop} : frp P S S := ⟨rfl, rfl, rfl, fun _ _ => rfl⟩
theorem frp.tr {P : Nat → Prop} (h1 : frp P S S') (h2 : frp P S' S'') : frp P S S'' := ⟨h2.1.trans h1.1, h2.2.1.trans h1.2.1, h2.2.2.1.trans h1.2.2.1, fun a ha => (h2.2.2.2 a ha).trans (h1.2.2.2 a ha)⟩
theorem frp.mn {P P' : Nat → Prop} (h : frp P S S') (k : ∀ a, P a → P' a) : frp P' S S' := ⟨h.1, h.2.1, h.2.2.1, fun a ha => h.2.2.2 a (fun h2 => ha (k a h2))⟩
theorem fr.pp {lo hi : Nat} {P : Nat → Prop} (h : fr lo hi S S') (k : ∀ a, lo ≤ a → a < hi → P a) : frp P S S' := ⟨h.1, h.2.1, h.2.2.1, fun a ha => h.2.2.2 a (by
  by_cases h1 : lo ≤ a
  · by_cases h2 : a < hi
    · exact absurd (k a h1 h2) ha
    · omega
  · omega)⟩
theorem frp.obj {P : Nat → Prop} {a c : Nat} (h : frp P S S') (ha : ¬ P a) : ai_obj S' a c = ai_obj S a c := by
  unfold ai_obj
  rw [h.1, h.2.2.2 a ha]
theorem frp.arr {P : Nat → Prop} {a c : Nat} (h : frp P S S') (ha : ¬ P a) : ai_arr S' a c = ai_arr S a c := by
  unfold ai_arr
  rw [h.1, h.2.2.2 a ha]
theorem frp.arrA {P : Nat → Prop} {a c : Nat} (h : frp P S S') (ha : ¬ P a) : ai_arrA S' a c = ai_arrA S a c := by
  unfold ai_arrA
  rw [h.1, h.2.2.2 a ha]
theorem frp.arrJ {P : Nat → Prop} {a c : Nat} (h : frp P S S') (ha : ¬ P a) : ai_arrJ S' a c = ai_arrJ S a c := by
  unfold ai_arrJ
  rw [h.1, h.2.2.2 a ha]
theorem frp.tm {P : Nat → Prop} {a n : Nat} {T : Nat → Int} (h : frp P S S') (ht : tm S a T n) (h0 : ¬ P a) (h1 : ¬ P (a + 1)) : tm S' a T n := ⟨(h.obj h0).trans ht.1, (h.arr h1).trans ht.2⟩
theorem frp.tw {P : Nat → Prop} {a : Nat} {w : List Int} (h : frp P S S') (ht : tw S a w) (h0 : ¬ P a) (h1 : ¬ P (a + 1)) : tw S' a w := by
  obtain ⟨T, n, e1, e2⟩ := ht
  exact ⟨T, n, h.tm e1 h0 h1, e2⟩
theorem frp.pr {P : Nat → Prop} {p n m : Nat} {T U : Nat → Int} (h : frp P S S') (ht : pr S p T n U m) (k : ∀ i, i < 5 → ¬ P (p + i)) : pr S' p T n U m := ⟨(h.obj (k 0 (by decide))).trans ht.1, h.tm ht.2.1 (k 1 (by decide)) (k 2 (by decide)), h.tm ht.2.2 (k 3 (by decide)) (k 4 (by decide))⟩
theorem frp.pw {P : Nat → Prop} {p : Nat} {l r : List Int} (h : frp P S S') (hp : pw S p l r) (k : ∀ i, i < 5 → ¬ P (p + i)) : pw S' p l r := by
  obtain ⟨T, n, U, m, h1, h2, h3⟩ := hp
  exact ⟨T, n, U, m, h.pr h1 k, h2, h3⟩
theorem frp.sy {P : Nat → Prop} {P1 R : Nat → Int} {n : Int} (h : frp P S S') (hr : sy S P1 R n) (h1 : ¬ P 1) (h2 : ¬ P 2) (h3 : ¬ P 3) : sy S' P1 R n := ⟨(h.obj h1).trans hr.1, (h.arr h2).trans hr.2.1, (h.arr h3).trans hr.2.2⟩
theorem frp.plv {P : Nat → Prop} {b N : Nat} {ws : List (List Int × List Int)} (h : frp P S S') (hp : plv S b N ws) (k : ∀ i, b ≤ i → i < b + 2 + 5 * N → ¬ P i) : plv S' b N ws := by
  obtain ⟨f, g, h1, h2, h3, h4, h5, h6, h7, h8⟩ := hp
  refine ⟨f, g, (h.obj (k _ (by omega) (by omega))).trans h1, (h.arrA (k _ (by omega) (by omega))).trans h2, h3, h4, h5, fun j hj => ?_, h7, fun j hj => ?_⟩
  · obtain ⟨l, r, hw⟩ := h6 j hj
    have := h4 j hj
    exact ⟨l, r, h.pw hw (fun i hi => k _ (by omega) (by omega))⟩
  · have := h4 j (by omega)
    exact h.pw (h8 j hj) (fun i hi => k _ (by omega) (by omega))
theorem rb_take {s : sgm} {r : List Int} {j : Nat} (hj : j < r.length) : rb s (r.take (j + 1)) = rb s (r.take j) ++ rc s (r.getD j 0) := by
  have e : r.take (j + 1) = r.take j ++ [r.getD j 0] := by
    rw [List.take_add_one, List.getD_eq_getElem?_getD, List.getElem?_eq_getElem hj]
    rfl
  unfold rb
  rw [e, List.flatMap_append]
  show _ ++ (rc s (r.getD j 0) ++ []) = _
  rw [List.append_nil]
theorem rwo_tm {E B T : Nat → Int} {pl : Int} {n a : Nat} (h : rwo S E B pl) (ha : a + 1 < 412 ∨ 416 < a) : rwo (tm_put S a T n) E B pl := by
  obtain ⟨h1, h2, h3, T0, n0, h4, h5⟩ := h
  exact ⟨(tm_obj (by omega) (by omega)).trans h1, (tm_arr (by omega) (by omega)).trans h2, (tm_arr (by omega) (by omega)).trans h3, T0, n0, tm_off h4 (by omega) (by omega) (by omega), h5⟩
theorem rwo_res {E B T : Nat → Int} {pl : Int} {n : Nat} (h : rwo S E B pl) (hT : ∀ i, 0 ≤ T i ∧ T i < 65536) : rwo (tm_put S 415 T n) E B pl := by
  obtain ⟨h1, h2, h3, T0, n0, h4, h5⟩ := h
  exact ⟨(tm_obj (by omega) (by omega)).trans h1, (tm_arr (by omega) (by omega)).trans h2, (tm_arr (by omega) (by omega)).trans h3, T, n, tm_get (tm_lt h4), hT⟩
/-- the cells that rewriting a term changes -/
abbrev rgR (a c : Nat) : Prop := c = a ∨ c = a + 1 ∨ (412 ≤ c ∧ c < 417)
theorem at_73_0 : ai_at ai_m73 0 = some (.iconst 0, 1) := rfl
theorem at_73_1 : ai_at ai_m73 1 = some (.istore_n 2, 1) := rfl
theorem at_73_2 : ai_at ai_m73 2 = some (.iload_n 2, 1) := rfl
theorem at_73_3 : ai_at ai_m73 3 = some (.bipush 40, 2) := rfl
theorem at_73_5 : ai_at ai_m73 5 = some (.if_icmp .gt 45, 3) := rfl
theorem at_73_8 : ai_at ai_m73 8 = some (.aload_n 1, 1) := rfl
theorem at_73_9 : ai_at ai_m73 9 = some (.invokevirtual 37, 3) := rfl
theorem at_73_12 : ai_at ai_m73 12 = some (.ifCond .ne 38, 3) := rfl
theorem at_73_15 : ai_at ai_m73 15 = some (.aload_n 0, 1) := rfl
theorem at_73_16 : ai_at ai_m73 16 = some (.aload_n 1, 1) := rfl
theorem at_73_17 : ai_at ai_m73 17 = some (.invokevirtual 41, 3) := rfl
theorem at_73_20 : ai_at ai_m73 20 = some (.istore_n 3, 1) := rfl
theorem at_73_21 : ai_at ai_m73 21 = some (.iload_n 3, 1) := rfl
theorem at_73_22 : ai_at ai_m73 22 = some (.ifCond .ge 5, 3) := rfl
theorem at_73_25 : ai_at ai_m73 25 = some (.iload_n 2, 1) := rfl
theorem at_73_26 : ai_at ai_m73 26 = some (.ireturn, 1) := rfl
theorem at_73_27 : ai_at ai_m73 27 = some (.aload_n 0, 1) := rfl
theorem at_73_28 : ai_at ai_m73 28 = some (.aload_n 1, 1) := rfl
theorem at_73_29 : ai_at ai_m73 29 = some (.aload_n 0, 1) := rfl
theorem at_73_30 : ai_at ai_m73 30 = some (.getfield 33, 3) := rfl
theorem at_73_33 : ai_at ai_m73 33 = some (.getfield 45, 3) := rfl
theorem at_73_36 : ai_at ai_m73 36 = some (.iload_n 3, 1) := rfl
theorem at_73_37 : ai_at ai_m73 37 = some (.aaload, 1) := rfl
theorem at_73_38 : ai_at ai_m73 38 = some (.getfield 51, 3) := rfl
theorem at_73_41 : ai_at ai_m73 41 = some (.invokevirtual 56, 3) := rfl
theorem at_73_44 : ai_at ai_m73 44 = some (.iinc 2 1, 3) := rfl
theorem at_73_47 : ai_at ai_m73 47 = some (.goto (-45), 3) := rfl
theorem at_73_50 : ai_at ai_m73 50 = some (.iconst (-1), 1) := rfl
theorem at_73_51 : ai_at ai_m73 51 = some (.ireturn, 1) := rfl
theorem at_76_0 : ai_at ai_m76 0 = some (.aload_n 0, 1) := rfl
theorem at_76_1 : ai_at ai_m76 1 = some (.getfield 21, 3) := rfl
theorem at_76_4 : ai_at ai_m76 4 = some (.iconst 0, 1) := rfl
theorem at_76_5 : ai_at ai_m76 5 = some (.putfield 64, 3) := rfl
theorem at_76_8 : ai_at ai_m76 8 = some (.aload_n 0, 1) := rfl
theorem at_76_9 : ai_at ai_m76 9 = some (.getfield 21, 3) := rfl
theorem at_76_12 : ai_at ai_m76 12 = some (.aload_n 1, 1) := rfl
theorem at_76_13 : ai_at ai_m76 13 = some (.iconst 0, 1) := rfl
theorem at_76_14 : ai_at ai_m76 14 = some (.aload_n 0, 1) := rfl
theorem at_76_15 : ai_at ai_m76 15 = some (.getfield 25, 3) := rfl
theorem at_76_18 : ai_at ai_m76 18 = some (.invokevirtual 97, 3) := rfl
theorem at_76_21 : ai_at ai_m76 21 = some (.iconst 0, 1) := rfl
theorem at_76_22 : ai_at ai_m76 22 = some (.istore_n 3, 1) := rfl
theorem at_76_23 : ai_at ai_m76 23 = some (.iload_n 3, 1) := rfl
theorem at_76_24 : ai_at ai_m76 24 = some (.aload_n 2, 1) := rfl
theorem at_76_25 : ai_at ai_m76 25 = some (.getfield 64, 3) := rfl
theorem at_76_28 : ai_at ai_m76 28 = some (.if_icmp .ge 75, 3) := rfl
theorem at_76_31 : ai_at ai_m76 31 = some (.aload_n 2, 1) := rfl
theorem at_76_32 : ai_at ai_m76 32 = some (.getfield 60, 3) := rfl
theorem at_76_35 : ai_at ai_m76 35 = some (.iload_n 3, 1) := rfl
theorem at_76_36 : ai_at ai_m76 36 = some (.caload, 1) := rfl
theorem at_76_37 : ai_at ai_m76 37 = some (.istore 4, 2) := rfl
theorem at_76_39 : ai_at ai_m76 39 = some (.iload 4, 2) := rfl
theorem at_76_41 : ai_at ai_m76 41 = some (.invokestatic 89, 3) := rfl
theorem at_76_44 : ai_at ai_m76 44 = some (.ifCond .eq 16, 3) := rfl
theorem at_76_47 : ai_at ai_m76 47 = some (.aload_n 0, 1) := rfl
theorem at_76_48 : ai_at ai_m76 48 = some (.getfield 15, 3) := rfl
theorem at_76_51 : ai_at ai_m76 51 = some (.iload 4, 2) := rfl
theorem at_76_53 : ai_at ai_m76 53 = some (.bipush 117, 2) := rfl
theorem at_76_55 : ai_at ai_m76 55 = some (.isub, 1) := rfl
theorem at_76_56 : ai_at ai_m76 56 = some (.iaload, 1) := rfl
theorem at_76_57 : ai_at ai_m76 57 = some (.goto 4, 3) := rfl
theorem at_76_60 : ai_at ai_m76 60 = some (.iconst (-1), 1) := rfl
theorem at_76_61 : ai_at ai_m76 61 = some (.istore 5, 2) := rfl
theorem at_76_63 : ai_at ai_m76 63 = some (.iload 5, 2) := rfl
theorem at_76_65 : ai_at ai_m76 65 = some (.ifCond .lt 23, 3) := rfl
theorem at_76_68 : ai_at ai_m76 68 = some (.aload_n 0, 1) := rfl
theorem at_76_69 : ai_at ai_m76 69 = some (.getfield 21, 3) := rfl
theorem at_76_72 : ai_at ai_m76 72 = some (.aload_n 1, 1) := rfl
theorem at_76_73 : ai_at ai_m76 73 = some (.iload 5, 2) := rfl
theorem at_76_75 : ai_at ai_m76 75 = some (.aload_n 0, 1) := rfl
theorem at_76_76 : ai_at ai_m76 76 = some (.getfield 9, 3) := rfl
theorem at_76_79 : ai_at ai_m76 79 = some (.iload 5, 2) := rfl
theorem at_76_81 : ai_at ai_m76 81 = some (.iaload, 1) := rfl
theorem at_76_82 : ai_at ai_m76 82 = some (.invokevirtual 97, 3) := rfl
theorem at_76_85 : ai_at ai_m76 85 = some (.goto 12, 3) := rfl
theorem at_76_88 : ai_at ai_m76 88 = some (.aload_n 0, 1) := rfl
theorem at_76_89 : ai_at ai_m76 89 = some (.getfield 21, 3) := rfl
theorem at_76_92 : ai_at ai_m76 92 = some (.iload 4, 2) := rfl
theorem at_76_94 : ai_at ai_m76 94 = some (.invokevirtual 101, 3) := rfl
theorem at_76_97 : ai_at ai_m76 97 = some (.iinc 3 1, 3) := rfl
theorem at_76_100 : ai_at ai_m76 100 = some (.goto (-77), 3) := rfl
theorem at_76_103 : ai_at ai_m76 103 = some (.aload_n 0, 1) := rfl
theorem at_76_104 : ai_at ai_m76 104 = some (.getfield 21, 3) := rfl
theorem at_76_107 : ai_at ai_m76 107 = some (.aload_n 1, 1) := rfl
theorem at_76_108 : ai_at ai_m76 108 = some (.aload_n 0, 1) := rfl
theorem at_76_109 : ai_at ai_m76 109 = some (.getfield 9, 3) := rfl
theorem at_76_112 : ai_at ai_m76 112 = some (.aload_n 0, 1) := rfl
theorem at_76_113 : ai_at ai_m76 113 = some (.getfield 25, 3) := rfl
theorem at_76_116 : ai_at ai_m76 116 = some (.iaload, 1) := rfl
theorem at_76_117 : ai_at ai_m76 117 = some (.aload_n 1, 1) := rfl
theorem at_76_118 : ai_at ai_m76 118 = some (.getfield 64, 3) := rfl
theorem at_76_121 : ai_at ai_m76 121 = some (.invokevirtual 97, 3) := rfl
theorem at_76_124 : ai_at ai_m76 124 = some (.aload_n 1, 1) := rfl
theorem at_76_125 : ai_at ai_m76 125 = some (.aload_n 0, 1) := rfl
theorem at_76_126 : ai_at ai_m76 126 = some (.getfield 21, 3) := rfl
theorem at_76_129 : ai_at ai_m76 129 = some (.invokevirtual 105, 3) := rfl
theorem at_76_132 : ai_at ai_m76 132 = some (.return_, 1) := rfl
theorem fl_8_21 : ai_fld 8 21 = some (8, 4, false) := by decide +kernel
theorem fl_8_51 : ai_fld 8 51 = some (3, 1, true) := by decide +kernel
theorem mt_8_37 : ai_mth 8 37 = some (0, 86, 0, 4) := by decide +kernel
theorem mt_8_41 : ai_mth 8 41 = some (0, 74, 1, 8) := by decide +kernel
theorem mt_8_56 : ai_mth 8 56 = some (0, 76, 2, 8) := by decide +kernel
theorem mt_8_97 : ai_mth 8 97 = some (0, 89, 3, 4) := by decide +kernel
theorem mt_8_101 : ai_mth 8 101 = some (0, 85, 1, 4) := by decide +kernel
theorem mt_8_105 : ai_mth 8 105 = some (0, 87, 1, 4) := by decide +kernel
set_option maxHeartbeats 4000000 in
theorem r_repl1 {a b n m i0 : Nat} {T U E B : Nat → Int} {w r : List Int} {s : sgm} (hr : rwo S E B i0) (ha : tm S a T n) (hT : wd T n w) (hb : tm S b U m) (hU : wd U m r) (hwl : w.length ≤ 24) (hrl : r.length ≤ 24) (hEv : ∀ j : Nat, j < w.length → E j = (j : Int) + tl A 1 (w.drop j)) (hrv : al (fun c => c < 123) r) (hB : rpB A w B s) (hi0 : i0 < w.length) (hsa : a + 1 < 412 ∨ 416 < a) (hsb : b + 1 < 412 ∨ 416 < b) (hl : 415 + 1 < S.1) : ∀ (k j : Nat) (Tr : Nat → Int) (nr : Nat) (x4 x5 : Option Value), j + k = r.length → wd Tr nr (w.take i0 ++ rb s (r.take j)) → ai_aw L xs (d + 2) ai_m76 (fun o => ∃ v S', o = (.inl v, S') ∧ v = none ∧ frp (rgR a) S S' ∧ rwo S' E B i0 ∧ tw S' a (w.take i0 ++ (rb s r ++ w.drop (i0 + tl A 1 (w.drop i0))))) (23, [some (.ref 412), some (.ref a), some (.ref b), some (ax_i (j : Nat)), x4, x5], [], tm_put S 415 Tr nr) := by
  have en : n = w.length := by rw [hT.1]; omega
  subst en
  have em : m = r.length := by rw [hU.1]; omega
  subst em
  have htl := tl_le (A := A) (w.drop i0) 1
  rw [List.length_drop] at htl
  intro k
  induction k with
  | zero =>
    intro j Tr nr x4 x5 hj hw
    have hr1 := rwo_res (n := nr) hr hw.2.2
    have ha1 : tm (tm_put S 415 Tr nr) a T w.length := tm_off ha (by omega) (by omega) (by omega)
    have hb1 : tm (tm_put S 415 Tr nr) b U r.length := tm_off hb (by omega) (by omega) (by omega)
    have hs1 : tm (tm_put S 415 Tr nr) 415 Tr nr := tm_get hl
    have hjr : j = r.length := by omega
    rw [hjr, List.take_length] at hw
    refine aw_loc at_76_23 rfl rfl ?_
    refine aw_loc at_76_24 rfl rfl ?_
    refine aw_get at_76_25 rfl fl_8_64 hb1.1 rfl ?_
    refine ax_icmp_ge at_76_28 ⟨by omega, by omega⟩ ⟨by omega, by omega⟩ (fun _ => ?_) (fun z => absurd z (by omega))
    show ai_aw L xs (d + 2) ai_m76 _ (103, _, _, _)
    have hEi := hEv i0 hi0
    refine aw_loc at_76_103 rfl rfl ?_
    refine aw_get at_76_104 rfl fl_8_21 hr1.1 rfl ?_
    refine aw_loc at_76_107 rfl rfl ?_
    refine aw_loc at_76_108 rfl rfl ?_
    refine aw_get at_76_109 rfl fl_8_9 hr1.1 rfl ?_
    refine aw_loc at_76_112 rfl rfl ?_
    refine aw_get at_76_113 rfl fl_8_25 hr1.1 rfl ?_
    refine ax_ild at_76_116 rfl hr1.2.1 (k := i0) rfl (by omega) (by decide) ?_
    rw [hEi, ← Int.natCast_add]
    refine aw_loc at_76_117 rfl rfl ?_
    refine aw_get at_76_118 rfl fl_8_64 ha1.1 rfl ?_
    refine aw_cv (a := 415) [.ref a, ax_i ((i0 + tl A 1 (w.drop i0) : Nat) : Int), ax_i (w.length : Nat)] [] at_76_121 mt_8_97 (Or.inl rfl) rfl rfl (Nat.le_of_ble_eq_true rfl) ⟨_, hs1.1⟩ ((r_tpart hs1 hw ha1 (by omega) (by omega) (by omega) hT.2.2 (by omega) (by omega)).mono ?_)
    rintro v S0 ⟨rfl, T2, n2, rfl, hw2⟩
    rw [tm_two]
    rw [show min w.length 24 - (i0 + tl A 1 (w.drop i0)) = w.length - (i0 + tl A 1 (w.drop i0)) by omega, (wd_sl hT hwl).2.2 _ (by omega), List.append_assoc] at hw2
    have hr2 := rwo_res (n := n2) hr hw2.2.2
    have ha2 : tm (tm_put S 415 T2 n2) a T w.length := tm_off ha (by omega) (by omega) (by omega)
    have hs2 : tm (tm_put S 415 T2 n2) 415 T2 n2 := tm_get hl
    refine aw_loc at_76_124 rfl rfl ?_
    refine aw_loc at_76_125 rfl rfl ?_
    refine aw_get at_76_126 rfl fl_8_21 hr2.1 rfl ?_
    refine aw_cv (a := a) [.ref 415] [] at_76_129 mt_8_105 (Or.inl rfl) rfl rfl (Nat.le_of_ble_eq_true rfl) ⟨_, ha2.1⟩ ((r_tcopy ha2 hT.2.2 hs2 hw2 (by omega)).mono ?_)
    rintro v S0 ⟨rfl, T3, n3, rfl, hw3⟩
    exact aw_vret at_76_132 rfl ⟨_, _, rfl, rfl, ((fr_tm (a := 415)).pp (fun c h1 h2 => by omega)).tr ((fr_tm (a := a)).pp (fun c h1 h2 => by omega)), rwo_tm hr2 hsa, T3, n3, tm_get (tm_lt ha2), hw3⟩
  | succ k ih =>
    intro j Tr nr x4 x5 hj hw
    have hr1 := rwo_res (n := nr) hr hw.2.2
    have ha1 : tm (tm_put S 415 Tr nr) a T w.length := tm_off ha (by omega) (by omega) (by omega)
    have hb1 : tm (tm_put S 415 Tr nr) b U r.length := tm_off hb (by omega) (by omega) (by omega)
    have hs1 : tm (tm_put S 415 Tr nr) 415 Tr nr := tm_get hl
    have hjr : j < r.length := by omega
    have hUj : U j = r.getD j 0 := hU.2.1 j hjr (by omega)
    have hc65 := hU.2.2 j
    rw [hUj] at hc65
    have hcv : r.getD j 0 < 123 := hrv _ (by rw [getD_eq hjr]; exact List.getElem_mem _)
    have hstep : ∀ (X : List Int) (T9 : Nat → Int) (n9 : Nat) (y4 y5 : Option Value), rc s (r.getD j 0) = X → wd T9 n9 (w.take i0 ++ rb s (r.take j) ++ X) → ai_aw L xs (d + 2) ai_m76 (fun o => ∃ v S', o = (.inl v, S') ∧ v = none ∧ frp (rgR a) S S' ∧ rwo S' E B i0 ∧ tw S' a (w.take i0 ++ (rb s r ++ w.drop (i0 + tl A 1 (w.drop i0))))) (97, [some (.ref 412), some (.ref a), some (.ref b), some (ax_i (j : Nat)), y4, y5], [], tm_put S 415 T9 n9) := by
      intro X T9 n9 y4 y5 hX hw9
      rw [← hX, List.append_assoc, ← rb_take hjr] at hw9
      refine ax_inc at_76_97 rfl rfl rfl ?_
      refine aw_goto at_76_100 ?_
      have := ih (j + 1) T9 n9 y4 y5 (by omega) hw9
      rw [Int.natCast_add] at this
      exact this
    have happ : ∀ (y5 : Option Value), rc s (r.getD j 0) = [r.getD j 0] → ai_aw L xs (d + 2) ai_m76 (fun o => ∃ v S', o = (.inl v, S') ∧ v = none ∧ frp (rgR a) S S' ∧ rwo S' E B i0 ∧ tw S' a (w.take i0 ++ (rb s r ++ w.drop (i0 + tl A 1 (w.drop i0))))) (88, [some (.ref 412), some (.ref a), some (.ref b), some (ax_i (j : Nat)), some (ax_i (r.getD j 0)), y5], [], tm_put S 415 Tr nr) := by
      intro y5 hX
      refine aw_loc at_76_88 rfl rfl ?_
      refine aw_get at_76_89 rfl fl_8_21 hr1.1 rfl ?_
      refine aw_loc at_76_92 rfl rfl ?_
      refine aw_cv (a := 415) [ax_i (r.getD j 0)] [] at_76_94 mt_8_101 (Or.inl rfl) rfl rfl (Nat.le_of_ble_eq_true rfl) ⟨_, hs1.1⟩ ((r_tappend hs1 (wd_le hw) hc65).mono ?_)
      rintro v S0 ⟨rfl, rfl⟩
      rw [tm_two]
      exact hstep _ _ _ _ _ hX (wd_app hw hc65)
    refine aw_loc at_76_23 rfl rfl ?_
    refine aw_loc at_76_24 rfl rfl ?_
    refine aw_get at_76_25 rfl fl_8_64 hb1.1 rfl ?_
    refine ax_icmp_ge at_76_28 ⟨by omega, by omega⟩ ⟨by omega, by omega⟩ (fun z => absurd z (by omega)) (fun _ => ?_)
    refine aw_loc at_76_31 rfl rfl ?_
    refine aw_get at_76_32 rfl fl_8_60 hb1.1 rfl ?_
    refine aw_loc at_76_35 rfl rfl ?_
    refine ax_cld at_76_36 rfl hb1.2 (k := j) rfl (by omega) (by decide) ?_
    rw [hUj]
    refine aw_loc at_76_37 rfl rfl ?_
    refine aw_loc at_76_39 rfl rfl ?_
    refine aw_cs [ax_i (r.getD j 0)] [] at_76_41 rfl mt_8_89 (Or.inr (Or.inl rfl)) rfl rfl (Nat.le_of_ble_eq_true rfl) ((r_isVar hc65).mono ?_)
    rintro v S0 ⟨hS, r1, rfl, hr1v⟩
    have hS2 := hS.symm
    subst hS2
    have hr19 := hr1v.le
    unfold bz at hr1v
    refine ax_if_eq at_76_44 ⟨by omega, by omega⟩ (fun z => ?_) (fun z => ?_)
    · skip
      refine aw_pure (st' := ax_i (-1) :: _) at_76_60 rfl rfl ?_
      refine aw_loc at_76_61 rfl rfl ?_
      refine aw_loc at_76_63 rfl rfl ?_
      refine ax_if_lt at_76_65 ⟨by decide, by decide⟩ (fun _ => ?_) (fun z9 => absurd z9 (by decide))
      exact happ _ (by unfold rc; rw [if_pos (by omega)])
    · skip
      have hv : 117 ≤ r.getD j 0 := by omega
      have hBk := hB.1 (r.getD j 0 - 117).toNat (by omega)
      refine aw_loc at_76_47 rfl rfl ?_
      refine aw_get at_76_48 rfl fl_8_15 hr1.1 rfl ?_
      refine aw_loc at_76_51 rfl rfl ?_
      refine aw_pure (st' := ax_i (117) :: _) at_76_53 rfl rfl ?_
      refine ax_sub at_76_55 rfl ?_
      refine ax_ild at_76_56 rfl hr1.2.2.1 (k := (r.getD j 0 - 117).toNat) (by omega) (by omega) (by decide) ?_
      refine aw_goto at_76_57 ?_
      refine aw_loc at_76_61 rfl rfl ?_
      refine aw_loc at_76_63 rfl rfl ?_
      rcases hB.2 _ hv hcv with ⟨hs0, hb0⟩ | ⟨b0, hb0, hb1, hs0⟩
      · skip
        refine ax_if_lt at_76_65 ⟨by omega, by omega⟩ (fun _ => ?_) (fun z9 => absurd z9 (by omega))
        exact happ _ (by unfold rc; rw [if_neg (by omega), hs0]; rfl)
      · skip
        refine ax_if_lt at_76_65 ⟨by omega, by omega⟩ (fun z9 => absurd z9 (by omega)) (fun _ => ?_)
        have hEb := hEv b0 hb1
        have htb := tl_le (A := A) (w.drop b0) 1
        rw [List.length_drop] at htb
        rw [hb0]
        refine aw_loc at_76_68 rfl rfl ?_
        refine aw_get at_76_69 rfl fl_8_21 hr1.1 rfl ?_
        refine aw_loc at_76_72 rfl rfl ?_
        refine aw_loc at_76_73 rfl rfl ?_
        refine aw_loc at_76_75 rfl rfl ?_
        refine aw_get at_76_76 rfl fl_8_9 hr1.1 rfl ?_
        refine aw_loc at_76_79 rfl rfl ?_
        refine ax_ild at_76_81 rfl hr1.2.1 (k := b0) rfl (by omega) (by decide) ?_
        rw [hEb, ← Int.natCast_add]
        refine aw_cv (a := 415) [.ref a, ax_i (b0 : Nat), ax_i ((b0 + tl A 1 (w.drop b0) : Nat) : Int)] [] at_76_82 mt_8_97 (Or.inl rfl) rfl rfl (Nat.le_of_ble_eq_true rfl) ⟨_, hs1.1⟩ ((r_tpart hs1 hw ha1 (by omega) (by omega) (by omega) hT.2.2 (by omega) (by omega)).mono ?_)
        rintro v S0 ⟨rfl, T2, n2, rfl, hw2⟩
        rw [tm_two]
        rw [show min (b0 + tl A 1 (w.drop b0)) 24 - b0 = tl A 1 (w.drop b0) by omega, ← sb_sl (fun i hi => hT.2.1 i hi (by omega))] at hw2
        refine aw_goto at_76_85 ?_
        exact hstep _ _ _ _ _ (by unfold rc; rw [if_neg (by omega), hs0]; rfl) hw2
set_option maxHeartbeats 2000000 in
theorem r_repl {a b n m i0 : Nat} {T U E B : Nat → Int} {w r : List Int} {s : sgm} (hr : rwo S E B i0) (ha : tm S a T n) (hT : wd T n w) (hb : tm S b U m) (hU : wd U m r) (hwl : w.length ≤ 24) (hrl : r.length ≤ 24) (hEv : ∀ j : Nat, j < w.length → E j = (j : Int) + tl A 1 (w.drop j)) (hrv : al (fun c => c < 123) r) (hB : rpB A w B s) (hi0 : i0 < w.length) (hsa : a + 1 < 412 ∨ 416 < a) (hsb : b + 1 < 412 ∨ 416 < b) : ai_rn L xs (d + 3) 76 [.ref 412, .ref a, .ref b] S (fun v S' => v = none ∧ frp (rgR a) S S' ∧ rwo S' E B i0 ∧ tw S' a (w.take i0 ++ (rb s r ++ w.drop (i0 + tl A 1 (w.drop i0))))) := by
  obtain ⟨T0, n0, hs, hT0⟩ := hr.2.2.2
  have hl := tm_lt hs
  have en : n = w.length := by rw [hT.1]; omega
  have e0 : ai_wr S 415 (.inr (4, [.ref 416, ax_i 0])) = tm_put S 415 T0 0 := by
    have := tm_w2 (S := S) (a := 415) (n := n0) (T := T0) (x := ax_i 0) (m := 0) rfl
    rw [tm_self hs] at this
    exact this
  refine ai_rn_of (M := ai_m76) rfl (by decide) (Nat.le_of_ble_eq_true rfl) ?_
  refine aw_loc at_76_0 rfl rfl ?_
  refine aw_get at_76_1 rfl fl_8_21 hr.1 rfl ?_
  refine aw_pure (st' := ax_i (0) :: _) at_76_4 rfl rfl ?_
  refine aw_put at_76_5 rfl fl_8_64 hs.1 (Nat.le_of_ble_eq_true rfl) rfl (by decide +kernel) ?_
  refine (show ai_aw L xs (d + 2) ai_m76 _ (8, _, _, ai_wr S 415 (.inr (4, [.ref 416, ax_i 0]))) from ?_)
  rw [e0]
  have hr1 := rwo_res (n := 0) hr hT0
  have ha1 : tm (tm_put S 415 T0 0) a T n := tm_off ha (by omega) (by omega) (by omega)
  have hs1 : tm (tm_put S 415 T0 0) 415 T0 0 := tm_get hl
  have hw0 : wd T0 0 [] := ⟨rfl, fun i hi => absurd hi (by simp), hT0⟩
  refine aw_loc at_76_8 rfl rfl ?_
  refine aw_get at_76_9 rfl fl_8_21 hr1.1 rfl ?_
  refine aw_loc at_76_12 rfl rfl ?_
  refine aw_pure (st' := ax_i (0) :: _) at_76_13 rfl rfl ?_
  refine aw_loc at_76_14 rfl rfl ?_
  refine aw_get at_76_15 rfl fl_8_25 hr1.1 rfl ?_
  refine aw_cv (a := 415) [.ref a, ax_i ((0 : Nat) : Int), ax_i (i0 : Nat)] [] at_76_18 mt_8_97 (Or.inl rfl) rfl rfl (Nat.le_of_ble_eq_true rfl) ⟨_, hs1.1⟩ ((r_tpart hs1 hw0 ha1 (by omega) (by omega) (by omega) hT.2.2 (by omega) (by omega)).mono ?_)
  rintro v S0 ⟨rfl, T2, n2, rfl, hw2⟩
  rw [tm_two]
  rw [List.nil_append, show min i0 24 - 0 = i0 by omega, ← sl_take T i0 0 n (by omega), (wd_sl hT hwl).2.1] at hw2
  refine aw_pure (st' := ax_i (0) :: _) at_76_21 rfl rfl ?_
  refine aw_loc at_76_22 rfl rfl ?_
  exact r_repl1 hr ha hT hb hU hwl hrl hEv hrv hB hi0 hsa hsb hl r.length 0 T2 n2 _ _ (by omega) (by show wd T2 n2 (w.take i0 ++ []); rw [List.append_nil]; exact hw2)
set_option maxHeartbeats 4000000 in
theorem r_norm1 {a : Nat} {P R : Nat → Int} {nn : Int} {Rs : rls} (hs : sy S P R nn) (hP : ∀ i, 0 ≤ P i ∧ P i ≤ 2) (hA : ∀ c, 117 ≤ c → Ar P c = 0) (hsa : (5 < a ∧ a + 1 < 12) ∨ (83 < a ∧ a + 1 < 412)) (hp : plv S 12 14 Rs) (hR : ∀ q, q ∈ Rs → rlk (Ar P) q) : ∀ (f c : Nat) (S1 : ai_S) (w1 : List Int) (E1 B1 : Nat → Int) (pl1 : Int) (N : Nat) (x3 : Option Value), c + f = 40 → frp (rgR a) S S1 → rwo S1 E1 B1 pl1 → tw S1 a w1 → ts (Ar P) N w1 → ai_aw L xs (d + 3) ai_m73 (fun o => ∃ v S', o = (.inl v, S') ∧ frp (rgR a) S S' ∧ (∃ E' B' pl', rwo S' E' B' pl') ∧ ∃ z, v = some (ax_i z) ∧ ((nf (Ar P) Rs f w1 = none ∧ z = -1 ∧ ∃ w', tw S' a w') ∨ ∃ q, nf (Ar P) Rs f w1 = some q ∧ z = (c : Int) + (q.2 : Int) ∧ tw S' a q.1)) (2, [some (.ref 412), some (.ref a), some (ax_i (c : Nat)), x3], [], S1) := by
  have hout : ∀ (y3 : Option Value) (S2 : ai_S) (Q2 : ai_O → Prop) (c : Int), (Q2 (.inl (some (ax_i (-1))), S2)) → ai_aw L xs (d + 3) ai_m73 Q2 (50, [some (.ref 412), some (.ref a), some (ax_i c), y3], [], S2) := by
    intro y3 S2 Q2 c hQ
    refine aw_pure (st' := ax_i (-1) :: _) at_73_50 rfl rfl ?_
    exact ax_ret at_73_51 rfl hQ
  intro f
  induction f with
  | zero =>
    intro c S1 w1 E1 B1 pl1 N x3 hc hf hr1 ht1 hN
    have hs1 := hf.sy hs (by omega) (by omega) (by omega)
    have hp1 := hf.plv hp (by omega)
    obtain ⟨T, n, ha, hT⟩ := ht1
    have hn25 := hT.1
    refine aw_loc at_73_2 rfl rfl ?_
    refine aw_pure (st' := ax_i (40) :: _) at_73_3 rfl rfl ?_
    refine ax_icmp_gt at_73_5 ⟨by omega, by omega⟩ ⟨by omega, by omega⟩ (fun z => absurd z (by omega)) (fun _ => ?_)
    refine aw_loc at_73_8 rfl rfl ?_
    refine aw_cv (a := a) [] [] at_73_9 mt_8_37 (Or.inl rfl) rfl rfl (Nat.le_of_ble_eq_true rfl) ⟨_, ha.1⟩ ((r_tooLong ha (wd_le hT)).mono ?_)
    rintro v S0 ⟨hS, r1, rfl, hl1⟩
    have hS2 := hS.symm
    subst hS2
    have hl9 := hl1.le
    unfold bz at hl1
    refine ax_if_ne at_73_12 ⟨by omega, by omega⟩ (fun z => hout _ _ _ _ ⟨_, _, rfl, hf, ⟨_, _, _, hr1⟩, -1, rfl, Or.inl ⟨by unfold nf; rw [if_pos (by omega)], rfl, w1, T, n, ha, hT⟩⟩) (fun z => ?_)
    have hwl : w1.length ≤ 24 := by omega
    refine aw_loc at_73_15 rfl rfl ?_
    refine aw_loc at_73_16 rfl rfl ?_
    refine aw_cv (a := 412) [.ref a] [] at_73_17 mt_8_41 (Or.inl rfl) rfl rfl (Nat.le_of_ble_eq_true rfl) ⟨_, hr1.1⟩ ((r_find hs1 hP hA hr1 ⟨T, n, ha, hT⟩ hwl hN (by omega) hp1 hR).mono ?_)
    rintro v S2 ⟨hf2, E2, B2, pl2, hr2, hE2, z1, rfl, hz⟩
    have hf3 : frp (rgR a) S S2 := hf.tr (hf2.pp (fun c h1 h2 => by omega))
    refine aw_loc at_73_20 rfl rfl ?_
    refine aw_loc at_73_21 rfl rfl ?_
    rcases hz with ⟨hz, hst⟩ | ⟨k, i, s, hz, hk, hi, hpl, hB, hm, hst⟩
    · skip
      refine ax_if_ge at_73_22 ⟨by omega, by omega⟩ (fun z9 => absurd z9 (by omega)) (fun _ => ?_)
      refine aw_loc at_73_25 rfl rfl ?_
      exact ax_ret at_73_26 rfl ⟨_, _, rfl, hf3, ⟨_, _, _, hr2⟩, c, rfl, Or.inr ⟨(w1, 0), by unfold nf; rw [if_neg (by omega), hst], by show (c : Int) = (c : Int) + ((0 : Nat) : Int); omega, hf2.tw ⟨T, n, ha, hT⟩ (by omega)⟩⟩
    · skip
      have hp2 := hf3.plv hp (by omega)
      obtain ⟨fa, g, h1, h2, h3, h4, h5, h6, h7, h8⟩ := hp2
      obtain ⟨Tl, nl, Tr, nr, hpr, hwd1, hwd2⟩ := h8 k hk
      have hg := h4 k (by omega)
      have hq : rlk (Ar P) (Rs.getD k q_no) := by
        rw [List.getD_eq_getElem?_getD, List.getElem?_eq_getElem hk]
        exact hR _ (List.getElem_mem _)
      subst hpl
      have hst2 := stp_ok (K := fun _ => True) hA (fun q hq => ⟨(hR q hq).1, fun _ _ _ => True.intro⟩) w1 _ N hN (fun _ _ => True.intro) hst
      refine ax_if_ge at_73_22 ⟨by omega, by omega⟩ (fun _ => ?_) (fun z9 => absurd z9 (by omega))
      show ai_aw L xs (d + 3) ai_m73 _ (27, _, _, _)
      refine aw_loc at_73_27 rfl rfl ?_
      refine aw_loc at_73_28 rfl rfl ?_
      refine aw_loc at_73_29 rfl rfl ?_
      refine aw_get at_73_30 rfl fl_8_33 hr2.1 rfl ?_
      refine aw_get at_73_33 rfl fl_8_45 h1 rfl ?_
      refine aw_loc at_73_36 rfl rfl ?_
      refine ax_ald (k := k) at_73_37 rfl h2 hz (by omega) (by decide) (h3 _ (by omega)) ?_
      refine aw_get at_73_38 rfl fl_8_51 hpr.1 rfl ?_
      refine aw_cv (a := 412) [.ref a, .ref (g k + 3)] [] at_73_41 mt_8_56 (Or.inl rfl) rfl rfl (Nat.le_of_ble_eq_true rfl) ⟨_, hr2.1⟩ ((r_repl hr2 (hf2.tm ha (by omega)) hT hpr.2.2 hwd2 hwl hq.2.2.1 hE2 hq.2.2.2.2 hB hi (by omega) (by omega)).mono ?_)
      rintro v S3 ⟨rfl, hf4, hr4, ht4⟩
      have hf5 := hf3.tr hf4
      refine ax_inc at_73_44 rfl rfl rfl ?_
      refine aw_goto at_73_47 ?_
      refine aw_loc at_73_2 rfl rfl ?_
      refine aw_pure (st' := ax_i (40) :: _) at_73_3 rfl rfl ?_
      refine ax_icmp_gt at_73_5 ⟨by omega, by omega⟩ ⟨by omega, by omega⟩ (fun _ => ?_) (fun z => absurd z (by omega))
      exact hout _ _ _ _ ⟨_, _, rfl, hf5, ⟨_, _, _, hr4⟩, -1, rfl, Or.inl ⟨by unfold nf; rw [if_neg (by omega), hst], rfl, _, ht4⟩⟩
  | succ f ih =>
    intro c S1 w1 E1 B1 pl1 N x3 hc hf hr1 ht1 hN
    have hs1 := hf.sy hs (by omega) (by omega) (by omega)
    have hp1 := hf.plv hp (by omega)
    obtain ⟨T, n, ha, hT⟩ := ht1
    have hn25 := hT.1
    refine aw_loc at_73_2 rfl rfl ?_
    refine aw_pure (st' := ax_i (40) :: _) at_73_3 rfl rfl ?_
    refine ax_icmp_gt at_73_5 ⟨by omega, by omega⟩ ⟨by omega, by omega⟩ (fun z => absurd z (by omega)) (fun _ => ?_)
    refine aw_loc at_73_8 rfl rfl ?_
    refine aw_cv (a := a) [] [] at_73_9 mt_8_37 (Or.inl rfl) rfl rfl (Nat.le_of_ble_eq_true rfl) ⟨_, ha.1⟩ ((r_tooLong ha (wd_le hT)).mono ?_)
    rintro v S0 ⟨hS, r1, rfl, hl1⟩
    have hS2 := hS.symm
    subst hS2
    have hl9 := hl1.le
    unfold bz at hl1
    refine ax_if_ne at_73_12 ⟨by omega, by omega⟩ (fun z => hout _ _ _ _ ⟨_, _, rfl, hf, ⟨_, _, _, hr1⟩, -1, rfl, Or.inl ⟨by unfold nf; rw [if_pos (by omega)], rfl, w1, T, n, ha, hT⟩⟩) (fun z => ?_)
    have hwl : w1.length ≤ 24 := by omega
    refine aw_loc at_73_15 rfl rfl ?_
    refine aw_loc at_73_16 rfl rfl ?_
    refine aw_cv (a := 412) [.ref a] [] at_73_17 mt_8_41 (Or.inl rfl) rfl rfl (Nat.le_of_ble_eq_true rfl) ⟨_, hr1.1⟩ ((r_find hs1 hP hA hr1 ⟨T, n, ha, hT⟩ hwl hN (by omega) hp1 hR).mono ?_)
    rintro v S2 ⟨hf2, E2, B2, pl2, hr2, hE2, z1, rfl, hz⟩
    have hf3 : frp (rgR a) S S2 := hf.tr (hf2.pp (fun c h1 h2 => by omega))
    refine aw_loc at_73_20 rfl rfl ?_
    refine aw_loc at_73_21 rfl rfl ?_
    rcases hz with ⟨hz, hst⟩ | ⟨k, i, s, hz, hk, hi, hpl, hB, hm, hst⟩
    · skip
      refine ax_if_ge at_73_22 ⟨by omega, by omega⟩ (fun z9 => absurd z9 (by omega)) (fun _ => ?_)
      refine aw_loc at_73_25 rfl rfl ?_
      exact ax_ret at_73_26 rfl ⟨_, _, rfl, hf3, ⟨_, _, _, hr2⟩, c, rfl, Or.inr ⟨(w1, 0), by unfold nf; rw [if_neg (by omega), hst], by show (c : Int) = (c : Int) + ((0 : Nat) : Int); omega, hf2.tw ⟨T, n, ha, hT⟩ (by omega)⟩⟩
    · skip
      have hp2 := hf3.plv hp (by omega)
      obtain ⟨fa, g, h1, h2, h3, h4, h5, h6, h7, h8⟩ := hp2
      obtain ⟨Tl, nl, Tr, nr, hpr, hwd1, hwd2⟩ := h8 k hk
      have hg := h4 k (by omega)
      have hq : rlk (Ar P) (Rs.getD k q_no) := by
        rw [List.getD_eq_getElem?_getD, List.getElem?_eq_getElem hk]
        exact hR _ (List.getElem_mem _)
      subst hpl
      have hst2 := stp_ok (K := fun _ => True) hA (fun q hq => ⟨(hR q hq).1, fun _ _ _ => True.intro⟩) w1 _ N hN (fun _ _ => True.intro) hst
      refine ax_if_ge at_73_22 ⟨by omega, by omega⟩ (fun _ => ?_) (fun z9 => absurd z9 (by omega))
      show ai_aw L xs (d + 3) ai_m73 _ (27, _, _, _)
      refine aw_loc at_73_27 rfl rfl ?_
      refine aw_loc at_73_28 rfl rfl ?_
      refine aw_loc at_73_29 rfl rfl ?_
      refine aw_get at_73_30 rfl fl_8_33 hr2.1 rfl ?_
      refine aw_get at_73_33 rfl fl_8_45 h1 rfl ?_
      refine aw_loc at_73_36 rfl rfl ?_
      refine ax_ald (k := k) at_73_37 rfl h2 hz (by omega) (by decide) (h3 _ (by omega)) ?_
      refine aw_get at_73_38 rfl fl_8_51 hpr.1 rfl ?_
      refine aw_cv (a := 412) [.ref a, .ref (g k + 3)] [] at_73_41 mt_8_56 (Or.inl rfl) rfl rfl (Nat.le_of_ble_eq_true rfl) ⟨_, hr2.1⟩ ((r_repl hr2 (hf2.tm ha (by omega)) hT hpr.2.2 hwd2 hwl hq.2.2.1 hE2 hq.2.2.2.2 hB hi (by omega) (by omega)).mono ?_)
      rintro v S3 ⟨rfl, hf4, hr4, ht4⟩
      have hf5 := hf3.tr hf4
      refine ax_inc at_73_44 rfl rfl rfl ?_
      refine aw_goto at_73_47 ?_
      have := ih (c + 1) S3 _ _ _ _ N (some (ax_i z1)) (by omega) hf5 hr4 ht4 hst2.1
      rw [Int.natCast_add] at this
      refine ai_aw_mono this ?_
      rintro o ⟨v, S9, rfl, h91, h92, z9, rfl, h93⟩
      refine ⟨_, _, rfl, h91, h92, z9, rfl, ?_⟩
      have hnf : nf (Ar P) Rs (f + 1) w1 = (nf (Ar P) Rs f (w1.take i ++ (rb s (Rs.getD k q_no).2 ++ w1.drop (i + tl (Ar P) 1 (w1.drop i))))).map fun q => (q.1, q.2 + 1) := by
        conv => lhs; unfold nf
        rw [if_neg (by omega), hst]
      rcases h93 with ⟨h94, h95⟩ | ⟨q, h94, h95, h96⟩
      · exact Or.inl ⟨by rw [hnf, h94]; rfl, h95⟩
      · exact Or.inr ⟨(q.1, q.2 + 1), by rw [hnf, h94]; rfl, by show z9 = (c : Int) + ((q.2 + 1 : Nat) : Int); rw [h95]; omega, h96⟩
set_option maxHeartbeats 2000000 in
theorem r_norm {a N : Nat} {P R E B : Nat → Int} {nn pl : Int} {Rs : rls} {w : List Int} (hs : sy S P R nn) (hP : ∀ i, 0 ≤ P i ∧ P i ≤ 2) (hA : ∀ c, 117 ≤ c → Ar P c = 0) (hsa : (5 < a ∧ a + 1 < 12) ∨ (83 < a ∧ a + 1 < 412)) (hp : plv S 12 14 Rs) (hR : ∀ q, q ∈ Rs → rlk (Ar P) q) (hr : rwo S E B pl) (ht : tw S a w) (hN : ts (Ar P) N w) : ai_rn L xs (d + 4) 73 [.ref 412, .ref a] S (fun v S' => frp (rgR a) S S' ∧ (∃ E' B' pl', rwo S' E' B' pl') ∧ ∃ z, v = some (ax_i z) ∧ ((nf (Ar P) Rs 40 w = none ∧ z = -1 ∧ ∃ w', tw S' a w') ∨ ∃ q, nf (Ar P) Rs 40 w = some q ∧ z = (q.2 : Int) ∧ tw S' a q.1)) := by
  refine ai_rn_of (M := ai_m73) rfl (by decide) (Nat.le_of_ble_eq_true rfl) ?_
  refine aw_pure (st' := ax_i (0) :: _) at_73_0 rfl rfl ?_
  refine aw_loc at_73_1 rfl rfl ?_
  refine ai_aw_mono (r_norm1 hs hP hA hsa hp hR 40 0 S w E B pl N _ (by omega) frp.rf hr ht hN) ?_
  rintro o ⟨v, S9, rfl, h91, h92, z9, rfl, h93⟩
  refine ⟨_, _, rfl, h91, h92, z9, rfl, h93.imp id ?_⟩
  rintro ⟨q, h94, h95, h96⟩
  exact ⟨q, h94, by rw [h95]; omega, h96⟩
end NO

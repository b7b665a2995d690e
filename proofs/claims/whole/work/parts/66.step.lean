/-! The engine: a step; an equation is accepted. -/
section ES
variable {L : Nat} {xs : Nat → Int32} {d : Nat} {S S' : ai_S} {P R P' : Nat → Int} {nn sx sc : Int} {Rs Vs : rls} {l r : List Int}
/-- the engine: its rules, what waits, its state and its steps -/
def egs (S : ai_S) (P R : Nat → Int) (nn : Int) (Rs Vs : rls) (sx sc : Int) : Prop := sy S P R nn ∧ en S sx sc ∧ plv S 12 14 Rs ∧ plv S 84 48 Vs ∧ (∃ ks, plv S 326 14 ks) ∧ wkh S ∧ (∃ x y, pw S 400 x y) ∧ (∃ x, tw S 410 x) ∧ pog S ∧ ovg S
/-- what is known of the symbols -/
def syk (P R : Nat → Int) : Prop := (∀ i, 0 ≤ P i ∧ P i ≤ 2) ∧ (∀ c, 117 ≤ c → Ar P c = 0) ∧ ∀ i, 0 ≤ R i ∧ R i ≤ 1000
theorem frp.pog {Q : Nat → Prop} (h : frp Q S S') (hg : pog S) (k : ∀ c, 417 ≤ c → c < 425 → ¬ Q c) : pog S' := by
  obtain ⟨h1, ⟨T1, n1, a1, b1⟩, ⟨T2, n2, a2, b2⟩, ⟨E1, e1⟩, ⟨E2, e2⟩, TB, t1, t2⟩ := hg
  exact ⟨(h.obj (k _ (by decide) (by decide))).trans h1, ⟨T1, n1, h.tm a1 (k _ (by decide) (by decide)) (k _ (by decide) (by decide)), b1⟩, ⟨T2, n2, h.tm a2 (k _ (by decide) (by decide)) (k _ (by decide) (by decide)), b2⟩, ⟨E1, (h.arr (k _ (by decide) (by decide))).trans e1⟩, ⟨E2, (h.arr (k _ (by decide) (by decide))).trans e2⟩, TB, (h.arr (k _ (by decide) (by decide))).trans t1, t2⟩
theorem frp.ovg {Q : Nat → Prop} (h : frp Q S S') (hg : ovg S) (k : ∀ c, 425 ≤ c → c < 432 → ¬ Q c) : ovg S' := by
  obtain ⟨LT, EN, ND, PA, SE, ST, dp, e, h0, h1, h2⟩ := hg
  exact ⟨LT, EN, ND, PA, SE, ST, dp, e, h.ovo h0 k, h1, h2⟩
theorem frp.wkh {Q : Nat → Prop} (h : frp Q S S') (hw : wkh S) (k1 : ∀ c, 398 ≤ c → c < 400 → ¬ Q c) (k2 : ∀ c, 405 ≤ c → c < 410 → ¬ Q c) (k3 : ∀ c, 412 ≤ c → c < 417 → ¬ Q c) : wkh S' := by
  obtain ⟨⟨q0, a1⟩, ⟨x5, y5, a2⟩, E0, B0, pl0, a3⟩ := hw
  exact ⟨⟨q0, h.rv a1 (k1 _ (by decide) (by decide)) (k1 _ (by decide) (by decide))⟩, ⟨x5, y5, h.pw a2 (fun i hi => k2 _ (by omega) (by omega))⟩, E0, B0, pl0, h.rwo a3 k3⟩
/-- the state is written -/
theorem en_wr {a b : Int} (hl : 11 < S.1) : en (ai_wr S 11 (.inr (5, ef a b))) a b := ai_obj_wrS hl
theorem wsh_ok {A : Int → Nat} (hV : ∀ q, q ∈ Vs → okv A P' q) : wsh Vs := fun j hj => (hV _ (mem_getD.2 ⟨j, hj, rfl⟩)).2.1
theorem at_24_0 : ai_at ai_m24 0 = some (.aload_n 0, 1) := rfl
theorem at_24_1 : ai_at ai_m24 1 = some (.getfield 26, 3) := rfl
theorem at_24_4 : ai_at ai_m24 4 = some (.aload_n 1, 1) := rfl
theorem at_24_5 : ai_at ai_m24 5 = some (.invokevirtual 85, 3) := rfl
theorem at_24_8 : ai_at ai_m24 8 = some (.pop, 1) := rfl
theorem at_24_9 : ai_at ai_m24 9 = some (.aload_n 0, 1) := rfl
theorem at_24_10 : ai_at ai_m24 10 = some (.getfield 14, 3) := rfl
theorem at_24_13 : ai_at ai_m24 13 = some (.aload_n 1, 1) := rfl
theorem at_24_14 : ai_at ai_m24 14 = some (.invokevirtual 89, 3) := rfl
theorem at_24_17 : ai_at ai_m24 17 = some (.return_, 1) := rfl
theorem at_26_0 : ai_at ai_m26 0 = some (.aload_n 0, 1) := rfl
theorem at_26_1 : ai_at ai_m26 1 = some (.dup, 1) := rfl
theorem at_26_2 : ai_at ai_m26 2 = some (.getfield 51, 3) := rfl
theorem at_26_5 : ai_at ai_m26 5 = some (.iconst 1, 1) := rfl
theorem at_26_6 : ai_at ai_m26 6 = some (.iadd, 1) := rfl
theorem at_26_7 : ai_at ai_m26 7 = some (.putfield 51, 3) := rfl
theorem at_26_10 : ai_at ai_m26 10 = some (.aload_n 0, 1) := rfl
theorem at_26_11 : ai_at ai_m26 11 = some (.getfield 14, 3) := rfl
theorem at_26_14 : ai_at ai_m26 14 = some (.invokevirtual 93, 3) := rfl
theorem at_26_17 : ai_at ai_m26 17 = some (.istore_n 1, 1) := rfl
theorem at_26_18 : ai_at ai_m26 18 = some (.aload_n 0, 1) := rfl
theorem at_26_19 : ai_at ai_m26 19 = some (.getfield 33, 3) := rfl
theorem at_26_22 : ai_at ai_m26 22 = some (.aload_n 0, 1) := rfl
theorem at_26_23 : ai_at ai_m26 23 = some (.getfield 14, 3) := rfl
theorem at_26_26 : ai_at ai_m26 26 = some (.getfield 97, 3) := rfl
theorem at_26_29 : ai_at ai_m26 29 = some (.iload_n 1, 1) := rfl
theorem at_26_30 : ai_at ai_m26 30 = some (.aaload, 1) := rfl
theorem at_26_31 : ai_at ai_m26 31 = some (.invokevirtual 101, 3) := rfl
theorem at_26_34 : ai_at ai_m26 34 = some (.aload_n 0, 1) := rfl
theorem at_26_35 : ai_at ai_m26 35 = some (.getfield 14, 3) := rfl
theorem at_26_38 : ai_at ai_m26 38 = some (.iload_n 1, 1) := rfl
theorem at_26_39 : ai_at ai_m26 39 = some (.invokevirtual 104, 3) := rfl
theorem at_26_42 : ai_at ai_m26 42 = some (.aload_n 0, 1) := rfl
theorem at_26_43 : ai_at ai_m26 43 = some (.getfield 62, 3) := rfl
theorem at_26_46 : ai_at ai_m26 46 = some (.aload_n 0, 1) := rfl
theorem at_26_47 : ai_at ai_m26 47 = some (.getfield 33, 3) := rfl
theorem at_26_50 : ai_at ai_m26 50 = some (.getfield 107, 3) := rfl
theorem at_26_53 : ai_at ai_m26 53 = some (.invokevirtual 110, 3) := rfl
theorem at_26_56 : ai_at ai_m26 56 = some (.iconst (-1), 1) := rfl
theorem at_26_57 : ai_at ai_m26 57 = some (.if_icmp .eq 21, 3) := rfl
theorem at_26_60 : ai_at ai_m26 60 = some (.aload_n 0, 1) := rfl
theorem at_26_61 : ai_at ai_m26 61 = some (.getfield 62, 3) := rfl
theorem at_26_64 : ai_at ai_m26 64 = some (.aload_n 0, 1) := rfl
theorem at_26_65 : ai_at ai_m26 65 = some (.getfield 33, 3) := rfl
theorem at_26_68 : ai_at ai_m26 68 = some (.getfield 114, 3) := rfl
theorem at_26_71 : ai_at ai_m26 71 = some (.invokevirtual 110, 3) := rfl
theorem at_26_74 : ai_at ai_m26 74 = some (.iconst (-1), 1) := rfl
theorem at_26_75 : ai_at ai_m26 75 = some (.if_icmp .ne 9, 3) := rfl
theorem at_26_78 : ai_at ai_m26 78 = some (.aload_n 0, 1) := rfl
theorem at_26_79 : ai_at ai_m26 79 = some (.iconst 3, 1) := rfl
theorem at_26_80 : ai_at ai_m26 80 = some (.putfield 47, 3) := rfl
theorem at_26_83 : ai_at ai_m26 83 = some (.return_, 1) := rfl
theorem at_26_84 : ai_at ai_m26 84 = some (.aload_n 0, 1) := rfl
theorem at_26_85 : ai_at ai_m26 85 = some (.getfield 71, 3) := rfl
theorem at_26_88 : ai_at ai_m26 88 = some (.aload_n 0, 1) := rfl
theorem at_26_89 : ai_at ai_m26 89 = some (.getfield 33, 3) := rfl
theorem at_26_92 : ai_at ai_m26 92 = some (.getfield 107, 3) := rfl
theorem at_26_95 : ai_at ai_m26 95 = some (.aload_n 0, 1) := rfl
theorem at_26_96 : ai_at ai_m26 96 = some (.getfield 33, 3) := rfl
theorem at_26_99 : ai_at ai_m26 99 = some (.getfield 114, 3) := rfl
theorem at_26_102 : ai_at ai_m26 102 = some (.invokevirtual 117, 3) := rfl
theorem at_26_105 : ai_at ai_m26 105 = some (.istore_n 2, 1) := rfl
theorem at_26_106 : ai_at ai_m26 106 = some (.iload_n 2, 1) := rfl
theorem at_26_107 : ai_at ai_m26 107 = some (.ifCond .ne 4, 3) := rfl
theorem at_26_110 : ai_at ai_m26 110 = some (.return_, 1) := rfl
theorem at_26_111 : ai_at ai_m26 111 = some (.iload_n 2, 1) := rfl
theorem at_26_112 : ai_at ai_m26 112 = some (.iconst 2, 1) := rfl
theorem at_26_113 : ai_at ai_m26 113 = some (.if_icmp .ne 9, 3) := rfl
theorem at_26_116 : ai_at ai_m26 116 = some (.aload_n 0, 1) := rfl
theorem at_26_117 : ai_at ai_m26 117 = some (.iconst 2, 1) := rfl
theorem at_26_118 : ai_at ai_m26 118 = some (.putfield 47, 3) := rfl
theorem at_26_121 : ai_at ai_m26 121 = some (.return_, 1) := rfl
theorem at_26_122 : ai_at ai_m26 122 = some (.aload_n 0, 1) := rfl
theorem at_26_123 : ai_at ai_m26 123 = some (.getfield 54, 3) := rfl
theorem at_26_126 : ai_at ai_m26 126 = some (.invokevirtual 121, 3) := rfl
theorem at_26_129 : ai_at ai_m26 129 = some (.ifCond .eq 9, 3) := rfl
theorem at_26_132 : ai_at ai_m26 132 = some (.aload_n 0, 1) := rfl
theorem at_26_133 : ai_at ai_m26 133 = some (.iconst 3, 1) := rfl
theorem at_26_134 : ai_at ai_m26 134 = some (.putfield 47, 3) := rfl
theorem at_26_137 : ai_at ai_m26 137 = some (.return_, 1) := rfl
theorem at_26_138 : ai_at ai_m26 138 = some (.aload_n 0, 1) := rfl
theorem at_26_139 : ai_at ai_m26 139 = some (.iload_n 2, 1) := rfl
theorem at_26_140 : ai_at ai_m26 140 = some (.invokevirtual 125, 3) := rfl
theorem at_26_143 : ai_at ai_m26 143 = some (.aload_n 0, 1) := rfl
theorem at_26_144 : ai_at ai_m26 144 = some (.invokevirtual 128, 3) := rfl
theorem at_26_147 : ai_at ai_m26 147 = some (.ifCond .eq 17, 3) := rfl
theorem at_26_150 : ai_at ai_m26 150 = some (.aload_n 0, 1) := rfl
theorem at_26_151 : ai_at ai_m26 151 = some (.invokevirtual 131, 3) := rfl
theorem at_26_154 : ai_at ai_m26 154 = some (.ifCond .eq 10, 3) := rfl
theorem at_26_157 : ai_at ai_m26 157 = some (.aload_n 0, 1) := rfl
theorem at_26_158 : ai_at ai_m26 158 = some (.invokevirtual 134, 3) := rfl
theorem at_26_161 : ai_at ai_m26 161 = some (.ifCond .ne 8, 3) := rfl
theorem at_26_164 : ai_at ai_m26 164 = some (.aload_n 0, 1) := rfl
theorem at_26_165 : ai_at ai_m26 165 = some (.iconst 3, 1) := rfl
theorem at_26_166 : ai_at ai_m26 166 = some (.putfield 47, 3) := rfl
theorem at_26_169 : ai_at ai_m26 169 = some (.return_, 1) := rfl
theorem fl_2_71 : ai_fld 2 71 = some (5, 4, false) := by decide +kernel
theorem mt_2_93 : ai_mth 2 93 = some (0, 57, 0, 6) := by decide +kernel
theorem mt_2_117 : ai_mth 2 117 = some (0, 61, 2, 9) := by decide +kernel
theorem mt_2_125 : ai_mth 2 125 = some (0, 27, 1, 5) := by decide +kernel
theorem mt_2_128 : ai_mth 2 128 = some (0, 28, 0, 5) := by decide +kernel
theorem mt_2_131 : ai_mth 2 131 = some (0, 29, 0, 5) := by decide +kernel
theorem mt_2_134 : ai_mth 2 134 = some (0, 31, 0, 5) := by decide +kernel
set_option maxHeartbeats 40000000 in
theorem r_step (hk : syk P R) (h : egs S P R nn Rs Vs 0 sc) (hR : ∀ q, q ∈ Rs → okr (Ar P) P' q) (hV : ∀ q, q ∈ Vs → okv (Ar P) P' q) (h0 : 0 < Vs.length) : ai_rn L xs (d + 7) 26 [.ref 11] S (fun v S' => v = none ∧ fr 11 432 S S' ∧ egs S' P R nn (est (Ar P) (at256 R) Rs Vs (bst (wsz Vs) (Vs.length - 1))).1 (est (Ar P) (at256 R) Rs Vs (bst (wsz Vs) (Vs.length - 1))).2.1 (est (Ar P) (at256 R) Rs Vs (bst (wsz Vs) (Vs.length - 1))).2.2 (sc + 1) ∧ (∀ q, q ∈ (est (Ar P) (at256 R) Rs Vs (bst (wsz Vs) (Vs.length - 1))).1 → okr (Ar P) P' q) ∧ (∀ q, q ∈ (est (Ar P) (at256 R) Rs Vs (bst (wsz Vs) (Vs.length - 1))).2.1 → okv (Ar P) P' q) ∧ (0 ≤ (est (Ar P) (at256 R) Rs Vs (bst (wsz Vs) (Vs.length - 1))).2.2 ∧ (est (Ar P) (at256 R) Rs Vs (bst (wsz Vs) (Vs.length - 1))).2.2 ≤ 3)) := by
  obtain ⟨hP, hA, hRr⟩ := hk
  obtain ⟨hs, he, hp, hv, hks, hw, hx, ht, hg, ho⟩ := h
  have hl11 : 11 < S.1 := (ai_obj_inv he).1
  generalize hkk : bst (wsz Vs) (Vs.length - 1) = k at *
  have hkl : k < Vs.length := by rw [← hkk]; have := bst_le (wsz Vs) (Vs.length - 1); omega
  have hok : okv (Ar P) P' (Vs.getD k q_no) := hV _ (mem_getD.2 ⟨k, hkl, rfl⟩)
  refine ai_rn_of (M := ai_m26) rfl (by decide) (Nat.le_of_ble_eq_true rfl) ?_
  refine aw_loc at_26_0 rfl rfl ?_
  refine aw_pure at_26_1 rfl rfl ?_
  refine aw_get at_26_2 rfl fl_2_51 he rfl ?_
  refine aw_pure (st' := ax_i (1) :: _) at_26_5 rfl rfl ?_
  refine ax_add at_26_6 rfl ?_
  refine aw_put at_26_7 rfl fl_2_51 he (Nat.le_of_ble_eq_true rfl) rfl (by decide +kernel) ?_
  refine (show ai_aw L xs (d + 6) ai_m26 _ (10, _, _, ai_wr S 11 (.inr (5, ef 0 (sc + 1)))) from ?_)
  have f1 : fr 11 12 S (ai_wr S 11 (.inr (5, ef 0 (sc + 1)))) := fr_wr
  have he1 := en_wr (a := 0) (b := sc + 1) hl11
  generalize ai_wr S 11 (.inr (5, ef 0 (sc + 1))) = S1 at f1 he1 ⊢
  have p1 : frp (fun c => c = 11) S S1 := f1.pp (fun c a b => by omega)
  have hs1 := p1.sy hs (by omega) (by omega) (by omega)
  have hp1 := p1.plv hp (by omega)
  have hv1 := p1.plv hv (by omega)
  have hw1 := p1.wkh hw (by omega) (by omega) (by omega)
  obtain ⟨x0, y0, hx0⟩ := hx
  have hx1 := p1.pw hx0 (by omega)
  obtain ⟨ks0, hks0⟩ := hks
  have hks1 := p1.plv hks0 (by omega)
  obtain ⟨t0, ht0⟩ := ht
  have ht1 := p1.tw ht0 (by omega) (by omega)
  have hg1 := p1.pog hg (by omega)
  have ho1 := p1.ovg ho (by omega)
  obtain ⟨fa, ga, h84, j2, j3, j4, j5, j6, j7, j8⟩ := id hv1
  have ho4 := (pw_tw hx1).1
  refine aw_loc at_26_10 rfl rfl ?_
  refine aw_get at_26_11 rfl fl_2_14 he1 rfl ?_
  refine aw_cv (a := 84) [] [] at_26_14 mt_2_93 (Or.inl rfl) rfl rfl (Nat.le_of_ble_eq_true rfl) ⟨_, h84⟩ ((r_short hv1 (by decide) (wsh_ok hV)).mono ?_)
  rintro v S0 ⟨hS, rfl⟩
  have hS2 := hS.symm
  subst hS2
  rw [hkk]
  refine aw_loc at_26_17 rfl rfl ?_
  refine aw_loc at_26_18 rfl rfl ?_
  refine aw_get at_26_19 rfl fl_2_33 he1 rfl ?_
  refine aw_loc at_26_22 rfl rfl ?_
  refine aw_get at_26_23 rfl fl_2_14 he1 rfl ?_
  refine aw_get at_26_26 rfl fl_2_97 h84 rfl ?_
  refine aw_loc at_26_29 rfl rfl ?_
  refine ax_ald (k := k) at_26_30 rfl j2 rfl (by omega) (by decide) (j3 _ (by omega)) ?_
  have hgk := j4 k (by omega)
  refine aw_cv (a := 400) [.ref (ga k)] [] at_26_31 mt_2_101 (Or.inl rfl) rfl rfl (Nat.le_of_ble_eq_true rfl) ⟨_, ho4⟩ ((r_pcopy hx1 (j8 k hkl) (by omega)).mono ?_)
  rintro v S2 ⟨rfl, hpq⟩
  have f2 := fr_pq hpq
  have hx2 := pq_pw hpq hx1
  have p2 : frp (fun c => c = 11 ∨ (400 ≤ c ∧ c < 405)) S S2 := (p1.mn (fun c h => Or.inl h)).tr (f2.pp (fun c a b => by omega))
  have hv2 := f2.plv hv1 (by decide)
  have he2 : en S2 0 (sc + 1) := (f2.obj (by decide)).trans he1
  obtain ⟨fb, gb, h84, -⟩ := id hv2
  refine aw_loc at_26_34 rfl rfl ?_
  refine aw_get at_26_35 rfl fl_2_14 he2 rfl ?_
  refine aw_loc at_26_38 rfl rfl ?_
  refine aw_cv (a := 84) [ax_i (k : Nat)] [] at_26_39 mt_2_104 (Or.inl rfl) rfl rfl (Nat.le_of_ble_eq_true rfl) ⟨_, h84⟩ ((r_remove hv2 (by decide) hkl).mono ?_)
  rintro v S3 ⟨rfl, f3, hv3⟩
  have he3 : en S3 0 (sc + 1) := (f3.obj (by decide)).trans he2
  have hx3 := f3.pw hx2 (by decide)
  have q3 : frp (fun c => c = 11 ∨ (84 ≤ c ∧ c < 326) ∨ (400 ≤ c ∧ c < 405)) S S3 := (p2.mn (fun c h => by omega)).tr (f3.pp (fun c a b => by omega))
  have hs3 := q3.sy hs (by omega) (by omega) (by omega)
  have hp3 := q3.plv hp (by omega)
  have hw3 := q3.wkh hw (by omega) (by omega) (by omega)
  have hks3 := q3.plv hks0 (by omega)
  have ht3 := q3.tw ht0 (by omega) (by omega)
  have hg3 := q3.pog hg (by omega)
  have ho3 := q3.ovg ho (by omega)
  obtain ⟨⟨q0, wa1⟩, ⟨x5, y5, wa2⟩, E0, B0, pl0, wa3⟩ := id hw3
  have hRk := okr_rlk hR
  have hx3t := pw_tw hx3
  have ho4 := hx3t.1
  have hV3 : ∀ q, q ∈ Vs.eraseIdx k → okv (Ar P) P' q := fun q hq => hV q (List.mem_of_mem_eraseIdx hq)
  have hes : (est (Ar P) (at256 R) Rs Vs k) = _ := rfl
  have kfin : ∀ (S9 : ai_S) (x : Int), frp (fun c => c = 11 ∨ (84 ≤ c ∧ c < 326) ∨ (398 ≤ c ∧ c < 425)) S S9 → en S9 x (sc + 1) → plv S9 84 48 (Vs.eraseIdx k) → wkh S9 → (∃ x y, pw S9 400 x y) → (∃ x, tw S9 410 x) → pog S9 → est (Ar P) (at256 R) Rs Vs k = (Rs, Vs.eraseIdx k, x) → 0 ≤ x ∧ x ≤ 3 → (fun (o : ai_O) => ∃ v S', o = (.inl v, S') ∧ v = none ∧ fr 11 432 S S' ∧ egs S' P R nn (est (Ar P) (at256 R) Rs Vs k).1 (est (Ar P) (at256 R) Rs Vs k).2.1 (est (Ar P) (at256 R) Rs Vs k).2.2 (sc + 1) ∧ (∀ q, q ∈ (est (Ar P) (at256 R) Rs Vs k).1 → okr (Ar P) P' q) ∧ (∀ q, q ∈ (est (Ar P) (at256 R) Rs Vs k).2.1 → okv (Ar P) P' q) ∧ (0 ≤ (est (Ar P) (at256 R) Rs Vs k).2.2 ∧ (est (Ar P) (at256 R) Rs Vs k).2.2 ≤ 3)) (.inl none, S9) := by
    intro S9 x a1 a2 a3 a4 a5 a6 a7 a8 a9
    refine ⟨_, _, rfl, rfl, ⟨a1.1, a1.2.1, a1.2.2.1, fun c hc => a1.2.2.2 c (by omega)⟩, ?_⟩
    rw [a8]
    exact ⟨⟨a1.sy hs (by omega) (by omega) (by omega), a2, a1.plv hp (by omega), a3, ⟨_, a1.plv hks0 (by omega)⟩, a4, a5, a6, a7, a1.ovg ho (by omega)⟩, hR, hV3, a9⟩
  have kful : ∀ (S9 : ai_S), frp (fun c => c = 11 ∨ (84 ≤ c ∧ c < 326) ∨ (398 ≤ c ∧ c < 425)) S S9 → en S9 0 (sc + 1) → plv S9 84 48 (Vs.eraseIdx k) → wkh S9 → (∃ x y, pw S9 400 x y) → (∃ x, tw S9 410 x) → pog S9 → ∀ (x : Int), est (Ar P) (at256 R) Rs Vs k = (Rs, Vs.eraseIdx k, x) → 0 ≤ x ∧ x ≤ 3 → (fun (o : ai_O) => ∃ v S', o = (.inl v, S') ∧ v = none ∧ fr 11 432 S S' ∧ egs S' P R nn (est (Ar P) (at256 R) Rs Vs k).1 (est (Ar P) (at256 R) Rs Vs k).2.1 (est (Ar P) (at256 R) Rs Vs k).2.2 (sc + 1) ∧ (∀ q, q ∈ (est (Ar P) (at256 R) Rs Vs k).1 → okr (Ar P) P' q) ∧ (∀ q, q ∈ (est (Ar P) (at256 R) Rs Vs k).2.1 → okv (Ar P) P' q) ∧ (0 ≤ (est (Ar P) (at256 R) Rs Vs k).2.2 ∧ (est (Ar P) (at256 R) Rs Vs k).2.2 ≤ 3)) (.inl none, ai_wr S9 11 (.inr (5, ef x (sc + 1)))) := by
    intro S9 a1 a2 a3 a4 a5 a6 a7 x a8 a9
    have p9 : frp (fun c => c = 11) S9 (ai_wr S9 11 (.inr (5, ef x (sc + 1)))) := fr_wr.pp (fun c a b => by omega)
    exact kfin _ x (a1.tr (p9.mn (fun c h => Or.inl h))) (en_wr (ai_obj_inv a2).1) (p9.plv a3 (by omega)) (p9.wkh a4 (by omega) (by omega) (by omega)) (by obtain ⟨u, v, h⟩ := a5; exact ⟨u, v, p9.pw h (by omega)⟩) (by obtain ⟨u, h⟩ := a6; exact ⟨u, p9.tw h (by omega) (by omega)⟩) (p9.pog a7 (by omega)) a8 a9
  have k78 : ∀ (S9 : ai_S), frp (fun c => c = 11 ∨ (84 ≤ c ∧ c < 326) ∨ (398 ≤ c ∧ c < 425)) S S9 → en S9 0 (sc + 1) → plv S9 84 48 (Vs.eraseIdx k) → wkh S9 → (∃ x y, pw S9 400 x y) → (∃ x, tw S9 410 x) → pog S9 → est (Ar P) (at256 R) Rs Vs k = (Rs, Vs.eraseIdx k, 3) → ai_aw L xs (d + 6) ai_m26 (fun (o : ai_O) => ∃ v S', o = (.inl v, S') ∧ v = none ∧ fr 11 432 S S' ∧ egs S' P R nn (est (Ar P) (at256 R) Rs Vs k).1 (est (Ar P) (at256 R) Rs Vs k).2.1 (est (Ar P) (at256 R) Rs Vs k).2.2 (sc + 1) ∧ (∀ q, q ∈ (est (Ar P) (at256 R) Rs Vs k).1 → okr (Ar P) P' q) ∧ (∀ q, q ∈ (est (Ar P) (at256 R) Rs Vs k).2.1 → okv (Ar P) P' q) ∧ (0 ≤ (est (Ar P) (at256 R) Rs Vs k).2.2 ∧ (est (Ar P) (at256 R) Rs Vs k).2.2 ≤ 3)) (78, [some (.ref 11), some (ax_i (k : Nat)), none], [], S9) := by
    intro S9 a1 a2 a3 a4 a5 a6 a7 a8
    refine aw_loc at_26_78 rfl rfl ?_
    refine aw_pure (st' := ax_i (3) :: _) at_26_79 rfl rfl ?_
    refine aw_put at_26_80 rfl fl_2_47 a2 (Nat.le_of_ble_eq_true rfl) rfl (by decide +kernel) ?_
    exact aw_vret at_26_83 rfl (kful S9 a1 a2 a3 a4 a5 a6 a7 3 a8 (by decide))
  refine aw_loc at_26_42 rfl rfl ?_
  refine aw_get at_26_43 rfl fl_2_62 he3 rfl ?_
  refine aw_loc at_26_46 rfl rfl ?_
  refine aw_get at_26_47 rfl fl_2_33 he3 rfl ?_
  refine aw_get at_26_50 rfl fl_2_107 ho4 rfl ?_
  refine aw_cv (a := 412) [.ref 401] [] at_26_53 mt_2_110 (Or.inl rfl) rfl rfl (Nat.le_of_ble_eq_true rfl) ⟨_, wa3.1⟩ ((r_norm hs3 hP hA (by decide) hp3 hRk wa3 hx3t.2.1 hok.1.1).mono ?_)
  rintro v S4 ⟨f4, ⟨E4, B4, pl4, hr4⟩, z4, rfl, hz4⟩
  have q4 : frp (fun c => c = 11 ∨ (84 ≤ c ∧ c < 326) ∨ (398 ≤ c ∧ c < 425)) S S4 := (q3.mn (fun c h => by omega)).tr (f4.mn (fun c h => by rcases h with h | h | h <;> omega))
  have he4 := f4.en he3 (by omega)
  have hv4 := f4.plv hv3 (by omega)
  have ho5 := (f4.obj (c := 3) (show ¬ rgR 401 400 by omega)).trans ho4
  have tR4 := f4.tw hx3t.2.2 (show ¬ rgR 401 403 by omega) (show ¬ rgR 401 404 by omega)
  have hw4 : wkh S4 := ⟨⟨q0, f4.rv wa1 (by omega) (by omega)⟩, ⟨x5, y5, f4.pw wa2 (by omega)⟩, E4, B4, pl4, hr4⟩
  have ht4 := f4.tw ht3 (show ¬ rgR 401 410 by omega) (show ¬ rgR 401 411 by omega)
  have hg4 := f4.pog hg3 (by omega)
  refine aw_pure (st' := ax_i (-1) :: _) at_26_56 rfl rfl ?_
  rcases hz4 with ⟨n4, m4, w4, tw4⟩ | ⟨qa, n4, m4, tw4⟩
  · skip
    refine ax_icmp_eq at_26_57 ⟨by omega, by omega⟩ ⟨by decide, by decide⟩ (fun _ => ?_) (fun z => absurd m4 z)
    exact k78 S4 q4 he4 hv4 hw4 ⟨_, _, tw_pw ho5 tw4 tR4⟩ ⟨_, ht4⟩ hg4 (by unfold est; rw [n4])
  · skip
    have hba := nf_le hA (Rs := Rs) 40 _ n4
    have ka := nf_kn hA hR hok.1.1 hok.2.2.1.1 (show nf (Ar P) Rs 40 (Vs.getD k q_no).1 = some (qa.1, qa.2) from n4)
    refine ax_icmp_eq at_26_57 ⟨by omega, by omega⟩ ⟨by decide, by decide⟩ (fun z => absurd z (by omega)) (fun _ => ?_)
    have hs4 := q4.sy hs (by omega) (by omega) (by omega)
    have hp4 := q4.plv hp (by omega)
    refine aw_loc at_26_60 rfl rfl ?_
    refine aw_get at_26_61 rfl fl_2_62 he4 rfl ?_
    refine aw_loc at_26_64 rfl rfl ?_
    refine aw_get at_26_65 rfl fl_2_33 he4 rfl ?_
    refine aw_get at_26_68 rfl fl_2_114 ho5 rfl ?_
    refine aw_cv (a := 412) [.ref 403] [] at_26_71 mt_2_110 (Or.inl rfl) rfl rfl (Nat.le_of_ble_eq_true rfl) ⟨_, hr4.1⟩ ((r_norm hs4 hP hA (by decide) hp4 hRk hr4 tR4 hok.1.2).mono ?_)
    rintro v S5 ⟨f5, ⟨E5, B5, pl5, hr5⟩, z5, rfl, hz5⟩
    have q5 : frp (fun c => c = 11 ∨ (84 ≤ c ∧ c < 326) ∨ (398 ≤ c ∧ c < 425)) S S5 := q4.tr (f5.mn (fun c h => by rcases h with h | h | h <;> omega))
    have he5 := f5.en he4 (by omega)
    have hv5 := f5.plv hv4 (by omega)
    have ho6 := (f5.obj (c := 3) (show ¬ rgR 403 400 by omega)).trans ho5
    have tL5 := f5.tw tw4 (show ¬ rgR 403 401 by omega) (show ¬ rgR 403 402 by omega)
    have hw5 : wkh S5 := ⟨⟨q0, f5.rv (f4.rv wa1 (by omega) (by omega)) (by omega) (by omega)⟩, ⟨x5, y5, f5.pw (f4.pw wa2 (by omega)) (by omega)⟩, E5, B5, pl5, hr5⟩
    have ht5 := f5.tw ht4 (show ¬ rgR 403 410 by omega) (show ¬ rgR 403 411 by omega)
    have hg5 := f5.pog hg4 (by omega)
    refine aw_pure (st' := ax_i (-1) :: _) at_26_74 rfl rfl ?_
    rcases hz5 with ⟨n5, m5, w5, tw5⟩ | ⟨qb, n5, m5, tw5⟩
    · skip
      refine ax_icmp_ne at_26_75 ⟨by omega, by omega⟩ ⟨by decide, by decide⟩ (fun z => absurd m5 z) (fun _ => ?_)
      exact k78 S5 q5 he5 hv5 hw5 ⟨_, _, tw_pw ho6 tL5 tw5⟩ ⟨_, ht5⟩ hg5 (by unfold est; rw [n4, n5])
    · skip
      have hbb := nf_le hA (Rs := Rs) 40 _ n5
      have kb := nf_kn hA hR hok.1.2 hok.2.2.1.2 (show nf (Ar P) Rs 40 (Vs.getD k q_no).2 = some (qb.1, qb.2) from n5)
      refine ax_icmp_ne at_26_75 ⟨by omega, by omega⟩ ⟨by decide, by decide⟩ (fun _ => ?_) (fun z => absurd z (by omega))
      show ai_aw L xs (d + 6) ai_m26 _ (84, _, _, _)
      have hest : est (Ar P) (at256 R) Rs Vs k = (if qa.1 = qb.1 then (Rs, Vs.eraseIdx k, 0) else @ite _ (pgt (Ar P) (at256 R) qa.1 qb.1) (Classical.propDecidable _) (if 14 ≤ Rs.length then (Rs, Vs.eraseIdx k, 3) else ent (Ar P) Rs (Vs.eraseIdx k) (rnp qa.1 qb.1)) (@ite _ (pgt (Ar P) (at256 R) qb.1 qa.1) (Classical.propDecidable _) (if 14 ≤ Rs.length then (Rs, Vs.eraseIdx k, 3) else ent (Ar P) Rs (Vs.eraseIdx k) (rnp qb.1 qa.1)) (Rs, Vs.eraseIdx k, 2))) := by unfold est; rw [n4, n5]
      have hs5 := q5.sy hs (by omega) (by omega) (by omega)
      have hp5 := q5.plv hp (by omega)
      refine aw_loc at_26_84 rfl rfl ?_
      refine aw_get at_26_85 rfl fl_2_71 he5 rfl ?_
      refine aw_loc at_26_88 rfl rfl ?_
      refine aw_get at_26_89 rfl fl_2_33 he5 rfl ?_
      refine aw_get at_26_92 rfl fl_2_107 ho6 rfl ?_
      refine aw_loc at_26_95 rfl rfl ?_
      refine aw_get at_26_96 rfl fl_2_33 he5 rfl ?_
      refine aw_get at_26_99 rfl fl_2_114 ho6 rfl ?_
      refine aw_cv (a := 417) [.ref 401, .ref 403] [] at_26_102 mt_2_117 (Or.inl rfl) rfl rfl (Nat.le_of_ble_eq_true rfl) ⟨_, hg5.1⟩ ((r_between hs5 hP hRr hg5 tL5 tw5 ka.2.2 kb.2.2 ka.1 kb.1 (by decide) (by decide)).mono ?_)
      rintro v S6 ⟨f6, hg6, z6, rfl, hz6⟩
      have q6 : frp (fun c => c = 11 ∨ (84 ≤ c ∧ c < 326) ∨ (398 ≤ c ∧ c < 425)) S S6 := q5.tr (f6.pp (fun c a b => by omega))
      have he6 : en S6 0 (sc + 1) := (f6.obj (by decide)).trans he5
      have hv6 := f6.plv hv5 (by decide)
      have px6 := f6.pw (tw_pw ho6 tL5 tw5) (by decide)
      have ht6 := f6.tw ht5 (by decide)
      have g6 : frp (fun c => 417 ≤ c ∧ c < 425) S5 S6 := f6.pp (fun c a b => ⟨a, b⟩)
      have hw6 := g6.wkh hw5 (by omega) (by omega) (by omega)
      have hs6 := q6.sy hs (by omega) (by omega) (by omega)
      have hp6 := q6.plv hp (by omega)
      have hks6 := q6.plv hks0 (by omega)
      have ho7 := q6.ovg ho (by omega)
      have kdir : ∀ (a b : List Int), ((z6 = 1 ∧ a = qa.1 ∧ b = qb.1) ∨ (z6 = -1 ∧ a = qb.1 ∧ b = qa.1)) → pgt (Ar P) (at256 R) a b → est (Ar P) (at256 R) Rs Vs k = (if 14 ≤ Rs.length then (Rs, Vs.eraseIdx k, 3) else ent (Ar P) Rs (Vs.eraseIdx k) (rnp a b)) → ai_aw L xs (d + 6) ai_m26 (fun (o : ai_O) => ∃ v S', o = (.inl v, S') ∧ v = none ∧ fr 11 432 S S' ∧ egs S' P R nn (est (Ar P) (at256 R) Rs Vs k).1 (est (Ar P) (at256 R) Rs Vs k).2.1 (est (Ar P) (at256 R) Rs Vs k).2.2 (sc + 1) ∧ (∀ q, q ∈ (est (Ar P) (at256 R) Rs Vs k).1 → okr (Ar P) P' q) ∧ (∀ q, q ∈ (est (Ar P) (at256 R) Rs Vs k).2.1 → okv (Ar P) P' q) ∧ (0 ≤ (est (Ar P) (at256 R) Rs Vs k).2.2 ∧ (est (Ar P) (at256 R) Rs Vs k).2.2 ≤ 3)) (122, [some (.ref 11), some (ax_i (k : Nat)), some (ax_i z6)], [], S6) := by
        intro a b hab hgt hes
        have hab2 : (ts (Ar P) 1 a ∧ ts (Ar P) 1 b) ∧ (a.length ≤ 24 ∧ b.length ≤ 24) ∧ al (kn P' 123) a ∧ al (kn P' 123) b := by rcases hab with ⟨-, rfl, rfl⟩ | ⟨-, rfl, rfl⟩; exact ⟨⟨ka.1, kb.1⟩, ⟨ka.2.2, kb.2.2⟩, ka.2.1, kb.2.1⟩; exact ⟨⟨kb.1, ka.1⟩, ⟨kb.2.2, ka.2.2⟩, kb.2.1, ka.2.1⟩
        have hqo := new_okr hA hab2.1.1 hab2.1.2 hab2.2.1.1 hab2.2.1.2 hab2.2.2.1 hab2.2.2.2 hgt
        obtain ⟨fc, gc, h12, -⟩ := id hp6
        refine aw_loc at_26_122 rfl rfl ?_
        refine aw_get at_26_123 rfl fl_2_54 he6 rfl ?_
        refine aw_cv (a := 12) [] [] at_26_126 mt_2_121 (Or.inl rfl) rfl rfl (Nat.le_of_ble_eq_true rfl) ⟨_, h12⟩ ((r_full hp6 (by decide)).mono ?_)
        rintro v S0 ⟨hS, z7, rfl, hz7⟩
        have hS2 := hS.symm
        subst hS2
        have hz79 := hz7.le
        unfold bz at hz7
        refine ax_if_eq at_26_129 ⟨by omega, by omega⟩ (fun z => ?_) (fun z => ?_)
        · skip
          rw [if_neg (by omega)] at hes
          refine aw_loc at_26_138 rfl rfl ?_
          refine aw_loc at_26_139 rfl rfl ?_
          refine aw_cv (a := 11) [ax_i z6] [] at_26_140 mt_2_125 (Or.inl rfl) rfl rfl (Nat.le_of_ble_eq_true rfl) ⟨_, he6⟩ ((r_enterR (a := a) (b := b) hs6 hP hA he6 hp6 hR ⟨_, hks6⟩ hw6 px6 hab hab2.2.1.1 hab2.2.1.2 (al_kn (by decide) hab2.2.2.1) (al_kn (by decide) hab2.2.2.2) hqo (by omega)).mono ?_)
          rintro v S7 ⟨rfl, f7, hw7, hp7, hk7⟩
          have q7 : frp (fun c => c = 11 ∨ (12 ≤ c ∧ c < 432)) S S7 := (q6.mn (fun c h => by omega)).tr (f7.mn (fun c h => by omega))
          have hs7 := f7.sy hs6 (by omega) (by omega) (by omega)
          have he7 := f7.en he6 (by omega)
          have hv7 := f7.plv hv6 (by omega)
          have px7 := f7.pw px6 (by omega)
          have ht7 := f7.tw ht6 (by omega) (by omega)
          have hg7 := f7.pog hg6 (by omega)
          have ho8 := f7.ovg ho7 (by omega)
          generalize hW : (Rs.filter fun x => !hib (Ar P) (rnp a b).1 x.1) = W at *
          generalize hK : (Rs.filter fun x => hib (Ar P) (rnp a b).1 x.1) = K at *
          have hWo : ∀ q, q ∈ W ++ [rnp a b] → okr (Ar P) P' q := by intro q hq; rcases List.mem_append.1 hq with hq | hq; rw [← hW] at hq; exact hR q (List.mem_filter.1 hq).1; rw [List.mem_singleton.1 hq]; exact hqo
          have hKo : ∀ q, q ∈ K → okv (Ar P) P' q := by intro q hq; rw [← hK] at hq; exact (hR q (List.mem_filter.1 hq).1).1
          have hWl : (W ++ [rnp a b]).length - 1 = W.length := by rw [List.length_append, List.length_singleton]; omega
          have hso := stl_okr hA W.length 0 (W ++ [rnp a b]) (by rw [List.length_append, List.length_singleton]; omega) hWo
          have hent : ent (Ar P) Rs (Vs.eraseIdx k) (rnp a b) = (if (stl (Ar P) 0 W.length (W ++ [rnp a b])).2 = true then (if (ada (Ar P) (stl (Ar P) 0 W.length (W ++ [rnp a b])).1 (Vs.eraseIdx k) K).2 = true then ((stl (Ar P) 0 W.length (W ++ [rnp a b])).1, (ovi (Ar P) (stl (Ar P) 0 W.length (W ++ [rnp a b])).1 ((stl (Ar P) 0 W.length (W ++ [rnp a b])).1.length - 1) 0 (2 * ((stl (Ar P) 0 W.length (W ++ [rnp a b])).1.length - 1) + 1) (ada (Ar P) (stl (Ar P) 0 W.length (W ++ [rnp a b])).1 (Vs.eraseIdx k) K).1).1, if (ovi (Ar P) (stl (Ar P) 0 W.length (W ++ [rnp a b])).1 ((stl (Ar P) 0 W.length (W ++ [rnp a b])).1.length - 1) 0 (2 * ((stl (Ar P) 0 W.length (W ++ [rnp a b])).1.length - 1) + 1) (ada (Ar P) (stl (Ar P) 0 W.length (W ++ [rnp a b])).1 (Vs.eraseIdx k) K).1).2 = true then 0 else 3) else ((stl (Ar P) 0 W.length (W ++ [rnp a b])).1, (ada (Ar P) (stl (Ar P) 0 W.length (W ++ [rnp a b])).1 (Vs.eraseIdx k) K).1, 3)) else ((stl (Ar P) 0 W.length (W ++ [rnp a b])).1, Vs.eraseIdx k, 3)) := by rw [← hW, ← hK]; rfl
          rw [hent] at hes
          generalize hT : stl (Ar P) 0 W.length (W ++ [rnp a b]) = T at *
          have kfl : ∀ (S9 : ai_S) (V : rls) (x : Int), frp (fun c => c = 11 ∨ (12 ≤ c ∧ c < 432)) S S9 → egs S9 P R nn T.1 V 0 (sc + 1) → (∀ q, q ∈ V → okv (Ar P) P' q) → est (Ar P) (at256 R) Rs Vs k = (T.1, V, 3) → ai_aw L xs (d + 6) ai_m26 (fun (o : ai_O) => ∃ v S', o = (.inl v, S') ∧ v = none ∧ fr 11 432 S S' ∧ egs S' P R nn (est (Ar P) (at256 R) Rs Vs k).1 (est (Ar P) (at256 R) Rs Vs k).2.1 (est (Ar P) (at256 R) Rs Vs k).2.2 (sc + 1) ∧ (∀ q, q ∈ (est (Ar P) (at256 R) Rs Vs k).1 → okr (Ar P) P' q) ∧ (∀ q, q ∈ (est (Ar P) (at256 R) Rs Vs k).2.1 → okv (Ar P) P' q) ∧ (0 ≤ (est (Ar P) (at256 R) Rs Vs k).2.2 ∧ (est (Ar P) (at256 R) Rs Vs k).2.2 ≤ 3)) (164, [some (.ref 11), some (ax_i (k : Nat)), some (ax_i z6)], [], S9) := by
            intro S9 V x a1 a2 a3 a4
            obtain ⟨b1, b2, b3, b4, b5, b6, b7, b8, b9, b10⟩ := a2
            refine aw_loc at_26_164 rfl rfl ?_
            refine aw_pure (st' := ax_i (3) :: _) at_26_165 rfl rfl ?_
            refine aw_put at_26_166 rfl fl_2_47 b2 (Nat.le_of_ble_eq_true rfl) rfl (by decide +kernel) ?_
            have p9 : frp (fun c => c = 11) S9 (ai_wr S9 11 (.inr (5, ef 3 (sc + 1)))) := fr_wr.pp (fun c a b => by omega)
            have a5 := a1.tr (p9.mn (P' := (fun c => c = 11 ∨ (12 ≤ c ∧ c < 432))) (fun c h => Or.inl h))
            refine aw_vret at_26_169 rfl ⟨_, _, rfl, rfl, ⟨a5.1, a5.2.1, a5.2.2.1, fun c hc => a5.2.2.2 c (by omega)⟩, ?_⟩
            rw [a4]
            exact ⟨⟨p9.sy b1 (by omega) (by omega) (by omega), en_wr (ai_obj_inv b2).1, p9.plv b3 (by omega), p9.plv b4 (by omega), (by obtain ⟨u, h⟩ := b5; exact ⟨u, p9.plv h (by omega)⟩), p9.wkh b6 (by omega) (by omega) (by omega), (by obtain ⟨u, v, h⟩ := b7; exact ⟨u, v, p9.pw h (by omega)⟩), (by obtain ⟨u, h⟩ := b8; exact ⟨u, p9.tw h (by omega) (by omega)⟩), p9.pog b9 (by omega), p9.ovg b10 (by omega)⟩, hso.1, a3, by show (0 : Int) ≤ 3 ∧ (3 : Int) ≤ 3; decide⟩
          obtain ⟨⟨q7a, wb1⟩, ⟨x7, y7, wb2⟩, E7, B7, pl7, wb3⟩ := id hw7
          refine aw_loc at_26_143 rfl rfl ?_
          refine aw_cv (a := 11) [] [] at_26_144 mt_2_128 (Or.inl rfl) rfl rfl (Nat.le_of_ble_eq_true rfl) ⟨_, he7⟩ ((r_set (P' := P') hs7 hP hA he7 hp7 hWo ⟨_, _, _, wb3⟩ ⟨_, ht7⟩).mono ?_)
          rw [hWl, hT]
          rintro v S8 ⟨f8, hr8, ht8, hp8, z8, rfl, hz8⟩
          have hz89 := hz8.le
          have q8 : frp (fun c => c = 11 ∨ (12 ≤ c ∧ c < 432)) S S8 := q7.tr (f8.mn (fun c h => by omega))
          have hs8 := f8.sy hs7 (by omega) (by omega) (by omega)
          have he8 := f8.en he7 (by omega)
          have hv8 := f8.plv hv7 (by omega)
          have px8 := f8.pw px7 (by omega)
          have hg8 := f8.pog hg7 (by omega)
          have ho9 := f8.ovg ho8 (by omega)
          have hk8 := f8.plv hk7 (by omega)
          have hw8 : wkh S8 := ⟨⟨_, f8.rv wb1 (by omega) (by omega)⟩, ⟨_, _, f8.pw wb2 (by omega)⟩, hr8⟩
          have eg8 : egs S8 P R nn T.1 (Vs.eraseIdx k) 0 (sc + 1) := ⟨hs8, he8, hp8, hv8, ⟨_, hk8⟩, hw8, ⟨_, _, px8⟩, ht8, hg8, ho9⟩
          refine ax_if_eq at_26_147 ⟨by omega, by omega⟩ (fun z => ?_) (fun z8n => ?_)
          · have hb := (hz8.resolve_right (fun h => by have := h.1; omega)).2
            exact kfl S8 (Vs.eraseIdx k) 0 q8 eg8 hV3 (by rw [hes, if_neg hb])
          have hb8 := (hz8.resolve_left (fun h => z8n h.1)).2
          rw [if_pos hb8] at hes
          refine aw_loc at_26_150 rfl rfl ?_
          refine aw_cv (a := 11) [] [] at_26_151 mt_2_131 (Or.inl rfl) rfl rfl (Nat.le_of_ble_eq_true rfl) ⟨_, he8⟩ ((r_addK (P' := P') hs8 hP hA he8 hp8 hso.1 hk8 hKo hv8 hV3 hw8 ⟨_, _, px8⟩).mono ?_)
          rintro v S9 ⟨f9, hw9, hx9, hv9, z9, rfl, hz9⟩
          have hz99 := hz9.le
          have hao := ada_okv hA hso.1 K (Vs.eraseIdx k) hKo hV3 (by obtain ⟨_, _, _, _, _, _, _, _, h, _⟩ := hv8; exact h)
          generalize hU : ada (Ar P) T.1 (Vs.eraseIdx k) K = U at *
          have q9 : frp (fun c => c = 11 ∨ (12 ≤ c ∧ c < 432)) S S9 := q8.tr (f9.mn (fun c h => by omega))
          have hs9 := f9.sy hs8 (by omega) (by omega) (by omega)
          have he9 := f9.en he8 (by omega)
          have hp9 := f9.plv hp8 (by omega)
          have hk9 := f9.plv hk8 (by omega)
          have hg9 := f9.pog hg8 (by omega)
          have ho10 := f9.ovg ho9 (by omega)
          obtain ⟨t8, ht8⟩ := ht8
          have eg9 : egs S9 P R nn T.1 U.1 0 (sc + 1) := ⟨hs9, he9, hp9, hv9, ⟨_, hk9⟩, hw9, hx9, ⟨_, f9.tw ht8 (by omega) (by omega)⟩, hg9, ho10⟩
          refine ax_if_eq at_26_154 ⟨by omega, by omega⟩ (fun z => ?_) (fun z9n => ?_)
          · have hb := (hz9.resolve_right (fun h => by have := h.1; omega)).2
            exact kfl S9 U.1 0 q9 eg9 hao.1 (by rw [hes, if_neg hb])
          have hb9 := (hz9.resolve_left (fun h => z9n h.1)).2
          rw [if_pos hb9] at hes
          have hTl : 0 < T.1.length ∧ T.1.length ≤ 14 := by have h1 := hso.2; rw [List.length_append, List.length_singleton] at h1; obtain ⟨_, _, _, _, _, _, _, _, h, _⟩ := hp9; omega
          refine aw_loc at_26_157 rfl rfl ?_
          refine aw_cv (a := 11) [] [] at_26_158 mt_2_134 (Or.inl rfl) rfl rfl (Nat.le_of_ble_eq_true rfl) ⟨_, he9⟩ ((r_ovl (P' := P') hs9 hP hA he9 hp9 hso.1 hTl hv9 hao.1 hw9 hx9 ho10).mono ?_)
          rintro v T9 ⟨f10, hw10, ho11, hx10, hv10, hV10, z10, rfl, hz10⟩
          have hz109 := hz10.le
          generalize hO : ovi (Ar P) T.1 (T.1.length - 1) 0 (2 * (T.1.length - 1) + 1) U.1 = O at *
          have q10 : frp (fun c => c = 11 ∨ (12 ≤ c ∧ c < 432)) S T9 := q9.tr (f10.mn (fun c h => by omega))
          have eg10 : egs T9 P R nn T.1 O.1 0 (sc + 1) := ⟨f10.sy hs9 (by omega) (by omega) (by omega), f10.en he9 (by omega), f10.plv hp9 (by omega), hv10, ⟨_, f10.plv hk9 (by omega)⟩, hw10, hx10, ⟨_, f10.tw (f9.tw ht8 (by omega) (by omega)) (by omega) (by omega)⟩, f10.pog hg9 (by omega), ho11⟩
          refine ax_if_ne at_26_161 ⟨by omega, by omega⟩ (fun z => ?_) (fun z => ?_)
          · have hb := (hz10.resolve_left (fun h => z h.1)).2
            rw [if_pos hb] at hes
            refine aw_vret at_26_169 rfl ⟨_, _, rfl, rfl, ⟨q10.1, q10.2.1, q10.2.2.1, fun c hc => q10.2.2.2 c (by omega)⟩, ?_⟩
            rw [hes]
            exact ⟨eg10, hso.1, hV10, by show (0 : Int) ≤ 0 ∧ (0 : Int) ≤ 3; decide⟩
          · have hb := (hz10.resolve_right (fun h => by have := h.1; omega)).2
            exact kfl T9 O.1 0 q10 eg10 hV10 (by rw [hes, if_neg hb])
        · skip
          rw [if_pos (by omega)] at hes
          refine aw_loc at_26_132 rfl rfl ?_
          refine aw_pure (st' := ax_i (3) :: _) at_26_133 rfl rfl ?_
          refine aw_put at_26_134 rfl fl_2_47 he6 (Nat.le_of_ble_eq_true rfl) rfl (by decide +kernel) ?_
          exact aw_vret at_26_137 rfl (kful S6 q6 he6 hv6 hw6 ⟨_, _, px6⟩ ⟨_, ht6⟩ hg6 3 hes (by decide))
      refine aw_loc at_26_105 rfl rfl ?_
      refine aw_loc at_26_106 rfl rfl ?_
      rcases hz6 with ⟨a1, a2⟩ | ⟨a1, a2, a3⟩ | ⟨a1, a2, a3, a4⟩ | ⟨a1, a2, a3, a4⟩
      · skip
        subst a2
        refine ax_if_ne at_26_107 ⟨by decide, by decide⟩ (fun z => absurd rfl z) (fun _ => ?_)
        exact aw_vret at_26_110 rfl (kfin S6 0 q6 he6 hv6 hw6 ⟨_, _, px6⟩ ⟨_, ht6⟩ hg6 (by rw [hest, if_pos a1]) (by decide))
      · skip
        refine ax_if_ne at_26_107 ⟨by omega, by omega⟩ (fun _ => ?_) (fun z => absurd z (by omega))
        show ai_aw L xs (d + 6) ai_m26 _ (111, _, _, _)
        refine aw_loc at_26_111 rfl rfl ?_
        refine aw_pure (st' := ax_i (2) :: _) at_26_112 rfl rfl ?_
        refine ax_icmp_ne at_26_113 ⟨by omega, by omega⟩ ⟨by decide, by decide⟩ (fun _ => ?_) (fun z => absurd z (by omega))
        exact kdir qa.1 qb.1 (Or.inl ⟨a3, rfl, rfl⟩) a2 (by rw [hest, if_neg a1, if_pos a2])
      · skip
        refine ax_if_ne at_26_107 ⟨by omega, by omega⟩ (fun _ => ?_) (fun z => absurd z (by omega))
        show ai_aw L xs (d + 6) ai_m26 _ (111, _, _, _)
        refine aw_loc at_26_111 rfl rfl ?_
        refine aw_pure (st' := ax_i (2) :: _) at_26_112 rfl rfl ?_
        refine ax_icmp_ne at_26_113 ⟨by omega, by omega⟩ ⟨by decide, by decide⟩ (fun _ => ?_) (fun z => absurd z (by omega))
        exact kdir qb.1 qa.1 (Or.inr ⟨a4, rfl, rfl⟩) a3 (by rw [hest, if_neg a1, if_neg a2, if_pos a3])
      · skip
        subst a4
        refine ax_if_ne at_26_107 ⟨by decide, by decide⟩ (fun _ => ?_) (fun z => absurd z (by decide))
        show ai_aw L xs (d + 6) ai_m26 _ (111, _, _, _)
        refine aw_loc at_26_111 rfl rfl ?_
        refine aw_pure (st' := ax_i (2) :: _) at_26_112 rfl rfl ?_
        refine ax_icmp_ne at_26_113 ⟨by decide, by decide⟩ ⟨by decide, by decide⟩ (fun z => absurd rfl z) (fun _ => ?_)
        refine aw_loc at_26_116 rfl rfl ?_
        refine aw_pure (st' := ax_i (2) :: _) at_26_117 rfl rfl ?_
        refine aw_put at_26_118 rfl fl_2_47 he6 (Nat.le_of_ble_eq_true rfl) rfl (by decide +kernel) ?_
        exact aw_vret at_26_121 rfl (kful S6 q6 he6 hv6 hw6 ⟨_, _, px6⟩ ⟨_, ht6⟩ hg6 2 (by rw [hest, if_neg a1, if_neg a2, if_neg a3]) (by decide))
set_option maxHeartbeats 4000000 in
theorem r_accept {p : Nat} (h : egs S P R nn Rs Vs sx sc) (hpp : pw S p l r) (l1 : l.length ≤ 24) (l2 : r.length ≤ 24) (k1 : al (kn P' 129) l) (k2 : al (kn P' 129) r) (hl : Vs.length < 48) (hpr : 5 < p ∧ p + 4 < 11) : ai_rn L xs (d + 4) 24 [.ref 11, .ref p] S (fun v S' => v = none ∧ frp (fun c => c = 398 ∨ c = 399 ∨ (p ≤ c ∧ c < p + 5) ∨ (84 ≤ c ∧ c < 326)) S S' ∧ egs S' P R nn Rs (Vs ++ [rnp l r]) sx sc ∧ pw S' p (rnp l r).1 (rnp l r).2) := by
  obtain ⟨hs, he, hp, hv, hks, hw, hx, ht, hg, ho⟩ := h
  obtain ⟨⟨q0, wa1⟩, ⟨x5, y5, wa2⟩, E0, B0, pl0, wa3⟩ := id hw
  refine ai_rn_of (M := ai_m24) rfl (by decide) (Nat.le_of_ble_eq_true rfl) ?_
  refine aw_loc at_24_0 rfl rfl ?_
  refine aw_get at_24_1 rfl fl_2_26 he rfl ?_
  refine aw_loc at_24_4 rfl rfl ?_
  refine aw_cv (a := 398) [.ref p] [] at_24_5 mt_2_85 (Or.inl rfl) rfl rfl (Nat.le_of_ble_eq_true rfl) ⟨_, wa1.1⟩ ((r_rename2 hpp wa1 l1 l2 k1 k2 (by omega)).mono ?_)
  rintro v S1 ⟨rfl, f1, ⟨q1, hq1⟩, px1⟩
  have he1 := f1.en he (by omega)
  have hv1 := f1.plv hv (by omega)
  obtain ⟨fa, ga, h84, -⟩ := id hv1
  refine aw_pure at_24_8 rfl rfl ?_
  refine aw_loc at_24_9 rfl rfl ?_
  refine aw_get at_24_10 rfl fl_2_14 he1 rfl ?_
  refine aw_loc at_24_13 rfl rfl ?_
  refine aw_cv (a := 84) [.ref p] [] at_24_14 mt_2_89 (Or.inl rfl) rfl rfl (Nat.le_of_ble_eq_true rfl) ⟨_, h84⟩ ((r_add hv1 (by decide) px1 (by omega)).mono ?_)
  rintro v S2 ⟨rfl, hadd, -⟩
  obtain ⟨f2, hv2⟩ := hadd hl
  have g2 : frp (fun c => c = 398 ∨ c = 399 ∨ (p ≤ c ∧ c < p + 5) ∨ (84 ≤ c ∧ c < 326)) S S2 := (f1.mn (fun c h => by omega)).tr (f2.pp (fun c a b => by omega))
  obtain ⟨ks0, hks0⟩ := hks
  obtain ⟨x0, y0, hx0⟩ := hx
  obtain ⟨t0, ht0⟩ := ht
  exact aw_vret at_24_17 rfl ⟨_, _, rfl, rfl, g2, ⟨g2.sy hs (by omega) (by omega) (by omega), g2.en he (by omega), g2.plv hp (by omega), hv2, ⟨_, g2.plv hks0 (by omega)⟩, ⟨⟨q1, f2.rv hq1 (by decide)⟩, ⟨_, _, g2.pw wa2 (by omega)⟩, E0, B0, pl0, g2.rwo wa3 (by omega)⟩, ⟨_, _, g2.pw hx0 (by omega)⟩, ⟨_, g2.tw ht0 (by omega) (by omega)⟩, g2.pog hg (by omega), g2.ovg ho (by omega)⟩, f2.pw px1 (by omega)⟩
end ES

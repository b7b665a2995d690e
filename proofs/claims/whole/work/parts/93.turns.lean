/-! The turns. -/
section TU
variable {L : Nat} {xs : Nat → Int32} {S : ai_S} {t : Nat} {P R C : Nat → Int} {nn sx sc T D kp : Int} {n : Nat} {Rs Vs : rls} {F : Nat → Nat → Int} {B : Nat → Int}
theorem cg_wip (h : cg S P R nn C n Rs Vs sx sc) : cg (ai_wr S 4 (.inr (2, [.ref 5, ax_i 0]))) P R nn C 0 Rs Vs sx sc ∧ kpp S (ai_wr S 4 (.inr (2, [.ref 5, ax_i 0]))) := by
  have f : fr 4 5 S (ai_wr S 4 (.inr (2, [.ref 5, ax_i 0]))) := fr_wr
  obtain ⟨x, y, hp⟩ := h.2.2.2
  have hl : 5 < S.1 := (ai_arr_inv h.2.2.1.2).1
  exact ⟨⟨(f.obj (by omega)).trans h.1, egs_near h.2.1 f.1 (fun a ha => f.2.2.2 a (by omega)), ⟨ai_obj_wrS (by omega), (f.arr (by omega)).trans h.2.2.1.2⟩, x, y, f.pw hp (by omega)⟩, kpp_fr f (by omega)⟩
theorem cg_clr (h : cg S P R nn C n Rs Vs sx sc) : cg (ai_wr (ai_wr (ai_wr S 12 (.inr (6, [.ref 13, ax_i 0]))) 84 (.inr (6, [.ref 85, ax_i 0]))) 11 (.inr (5, ef 0 0))) P R nn C n [] [] 0 0 ∧ kpp S (ai_wr (ai_wr (ai_wr S 12 (.inr (6, [.ref 13, ax_i 0]))) 84 (.inr (6, [.ref 85, ax_i 0]))) 11 (.inr (5, ef 0 0))) := by
  obtain ⟨h1, h2, h3, h4, ⟨ks, h5⟩, h6, ⟨x, y, h7⟩, ⟨z, h8⟩, h9, h10⟩ := id h.2.1
  obtain ⟨x2, y2, hp⟩ := h.2.2.2
  have fa : fr 12 13 S (ai_wr S 12 (.inr (6, [.ref 13, ax_i 0]))) := fr_wr
  have p1 : plv (ai_wr S 12 (.inr (6, [.ref 13, ax_i 0]))) 12 14 [] := plv_none h3
  have p2 := fa.plv h4 (by omega)
  have l11 : 11 < S.1 := (ai_obj_inv h2).1
  generalize ha : ai_wr S 12 (.inr (6, [.ref 13, ax_i 0])) = Sa at fa p1 p2 ⊢
  have fb : fr 84 85 Sa (ai_wr Sa 84 (.inr (6, [.ref 85, ax_i 0]))) := fr_wr
  have p3 : plv (ai_wr Sa 84 (.inr (6, [.ref 85, ax_i 0]))) 84 48 [] := plv_none p2
  have p4 := fb.plv p1 (by omega)
  generalize hb : ai_wr Sa 84 (.inr (6, [.ref 85, ax_i 0])) = Sb at fb p3 p4 ⊢
  have fc : fr 11 12 Sb (ai_wr Sb 11 (.inr (5, ef 0 0))) := fr_wr
  have e3 : en (ai_wr Sb 11 (.inr (5, ef 0 0))) 0 0 := ai_obj_wrS (by rw [fb.1, fa.1]; exact l11)
  have p5 := fc.plv p3 (by omega)
  have p6 := fc.plv p4 (by omega)
  generalize hc : ai_wr Sb 11 (.inr (5, ef 0 0)) = Sc at fc e3 p5 p6 ⊢
  have hf : frp (fun c => c = 11 ∨ c = 12 ∨ c = 84) S Sc := ((fa.pp (fun c _ _ => by omega)).tr (fb.pp (fun c _ _ => by omega))).tr (fc.pp (fun c _ _ => by omega))
  refine ⟨⟨(hf.obj (by omega)).trans h.1, ⟨hf.sy h1 (by omega) (by omega) (by omega), e3, p6, p5, ⟨ks, hf.plv h5 (fun i _ _ => by omega)⟩, hf.wkh h6 (fun c _ _ => by omega) (fun c _ _ => by omega) (fun c _ _ => by omega), ⟨x, y, hf.pw h7 (fun i _ => by omega)⟩, ⟨z, hf.tw h8 (by omega) (by omega)⟩, hf.pog h9 (fun c _ _ => by omega), hf.ovg h10 (fun c _ _ => by omega)⟩, ⟨(hf.obj (by omega)).trans h.2.2.1.1, (hf.arr (by omega)).trans h.2.2.1.2⟩, x2, y2, hf.pw hp (fun i _ => by omega)⟩, kpp_frp hf (fun a ha => by omega)⟩
def mfr (rc wt kp sx sc : Int) : List Value := [ax_i rc, .ref 436, .ref 437, .ref 438, ax_i wt, ax_i kp, .ref 439, .ref 440, .ref 441, ax_i sx, ax_i sc, .ref 442, .ref 443, .ref 444, .ref 445, .ref 446, .ref 447, .ref 448, .ref 449, .ref 450, .ref 451]
theorem mf_r {T D rc wt kp sx sc : Int} {n : Nat} : mf T D (n : Int) rc wt kp sx sc = .int (Int32.ofInt T) :: .ref 433 :: .ref 434 :: .int (Int32.ofInt D) :: .int (Int32.ofNat n) :: .ref 435 :: mfr rc wt kp sx sc := by
  rw [← of_nat]
  rfl
set_option maxHeartbeats 1000000 in
theorem u_steps (h : ivt t S) : ai_opV L xs 12 3 148 [.ref 0] [.ref 432] (ivt (t + 1)) S := by
  obtain ⟨P, R, C, n, Rs, Vs, sx, sc, T, D, kp, F, B, hb, hJ, hc, hm, hk, hx, hD⟩ := id h
  refine (r_steps (d := 11) hc.1 hc.2.1.2.1).mono ?_
  rintro v S1 ⟨hS, rfl⟩
  rw [hS]
  refine ⟨ivt_prs h, (r_m_steps (d := 11) hm.1.1).mono ?_⟩
  rintro w S2 ⟨hS2, rfl⟩
  have m2 : mst S2 0 D (n : Int) (Rs.length : Int) (Vs.length : Int) kp sx sc F B := by rw [hS2]; exact mst_fl hm.1
  have f2 : fr 432 452 S S2 := by rw [hS2]; exact fr_md (by decide) (by decide)
  have i2 : ivt (t + 1) S2 := ivt_fin (aft_kpp hb hJ kpp_rf) hc f2 (mgg_T hm m2 (fun _ _ _ _ => rfl) hm.2.2.2.2.1 rfl) hk hx (by omega)
  exact ⟨ivt_prs i2, _, rfl, rfl, i2⟩
set_option maxHeartbeats 1000000 in
theorem u_rules (h : ivt t S) : ai_opV L xs 12 4 149 [.ref 0] [.ref 432] (ivt (t + 1)) S := by
  obtain ⟨P, R, C, n, Rs, Vs, sx, sc, T, D, kp, F, B, hb, hJ, hc, hm, hk, hx, hD⟩ := id h
  refine (r_rules (d := 11) hc.1 hc.2.1.2.1 hc.2.1.2.2.1).mono ?_
  rintro v S1 ⟨hS, rfl⟩
  rw [hS]
  refine ⟨ivt_prs h, (r_m_rules (d := 11) hm.1.1).mono ?_⟩
  rintro w S2 ⟨hS2, rfl⟩
  have m2 : mst S2 0 D (n : Int) (Rs.length : Int) (Vs.length : Int) kp sx sc F B := by rw [hS2]; exact mst_fl hm.1
  have f2 : fr 432 452 S S2 := by rw [hS2]; exact fr_md (by decide) (by decide)
  have i2 : ivt (t + 1) S2 := ivt_fin (aft_kpp hb hJ kpp_rf) hc f2 (mgg_T hm m2 (fun _ _ _ _ => rfl) hm.2.2.2.2.1 rfl) hk hx (by omega)
  exact ⟨ivt_prs i2, _, rfl, rfl, i2⟩
set_option maxHeartbeats 1000000 in
theorem u_waiting (h : ivt t S) : ai_opV L xs 12 5 150 [.ref 0] [.ref 432] (ivt (t + 1)) S := by
  obtain ⟨P, R, C, n, Rs, Vs, sx, sc, T, D, kp, F, B, hb, hJ, hc, hm, hk, hx, hD⟩ := id h
  refine (r_waiting (d := 11) hc.1 hc.2.1.2.1 hc.2.1.2.2.2.1).mono ?_
  rintro v S1 ⟨hS, rfl⟩
  rw [hS]
  refine ⟨ivt_prs h, (r_m_waiting (d := 11) hm.1.1).mono ?_⟩
  rintro w S2 ⟨hS2, rfl⟩
  have m2 : mst S2 0 D (n : Int) (Rs.length : Int) (Vs.length : Int) kp sx sc F B := by rw [hS2]; exact mst_fl hm.1
  have f2 : fr 432 452 S S2 := by rw [hS2]; exact fr_md (by decide) (by decide)
  have i2 : ivt (t + 1) S2 := ivt_fin (aft_kpp hb hJ kpp_rf) hc f2 (mgg_T hm m2 (fun _ _ _ _ => rfl) hm.2.2.2.2.1 rfl) hk hx (by omega)
  exact ⟨ivt_prs i2, _, rfl, rfl, i2⟩
set_option maxHeartbeats 1000000 in
theorem u_wipe (h : ivt t S) : ai_opN L xs 12 2 102 [.ref 0] [.ref 432] (ivt (t + 1)) S := by
  obtain ⟨P, R, C, n, Rs, Vs, sx, sc, T, D, kp, F, B, hb, hJ, hc, hm, hk, hx, hD⟩ := id h
  refine (r_wipe (d := 11) hc.1 hc.2.2.1).mono ?_
  rintro v S1 ⟨rfl, hS⟩
  obtain ⟨c1, k1⟩ := cg_wip hc
  rw [← hS] at c1 k1
  have a1 := aft_kpp hb hJ k1
  have g1 := mgg_near hm a1.2.2
  refine ⟨cg_prs c1 g1 a1.2.1, (r_m_wipe (d := 11) g1.1.1).mono ?_⟩
  rintro w S2 ⟨rfl, hS2⟩
  have m2 : mst S2 0 D ((0 : Nat) : Int) (Rs.length : Int) (Vs.length : Int) kp sx sc F B := by rw [hS2]; exact mst_fl g1.1
  have f2 : fr 432 452 S1 S2 := by rw [hS2]; exact fr_md (by decide) (by decide)
  have i2 : ivt (t + 1) S2 := ivt_fin a1 c1 f2 (mgg_T g1 m2 (fun _ _ _ _ => rfl) hm.2.2.2.2.1 rfl) (lnk_2 hk rfl rfl (by decide) hk.2.2.2.2.2.2.1 hk.2.2.2.2.2.2.2.1 (fun i hi => absurd hi (Nat.not_lt_zero i))) hx (by omega)
  exact ⟨ivt_prs i2, rfl, rfl, i2⟩
set_option maxHeartbeats 1000000 in
theorem u_clear (h : ivt t S) : ai_opN L xs 12 9 157 [.ref 0] [.ref 432] (ivt (t + 1)) S := by
  obtain ⟨P, R, C, n, Rs, Vs, sx, sc, T, D, kp, F, B, hb, hJ, hc, hm, hk, hx, hD⟩ := id h
  refine (r_clear (d := 10) hc.1 hc.2.1.2.1 hc.2.1.2.2.1 hc.2.1.2.2.2.1).mono ?_
  rintro v S1 ⟨rfl, hS⟩
  obtain ⟨c1, k1⟩ := cg_clr hc
  rw [← hS] at c1 k1
  have a1 := aft_kpp hb hJ k1
  have g1 := mgg_near hm a1.2.2
  refine ⟨cg_prs c1 g1 a1.2.1, (r_m_clear (d := 11) g1.1.1).mono ?_⟩
  rintro w S2 ⟨rfl, hS2⟩
  have m2 : mst S2 0 D (n : Int) (([] : rls).length : Int) (([] : rls).length : Int) kp 0 0 F B := by rw [hS2]; exact mst_fl g1.1
  have f2 : fr 432 452 S1 S2 := by rw [hS2]; exact fr_md (by decide) (by decide)
  have g2 : mgg S2 (Ar P) 0 D (n : Int) [] [] kp 0 0 F B := ⟨m2, hm.2.1, ⟨fun k hk => absurd hk (Nat.not_lt_zero k), by decide, fun q hq => absurd hq List.not_mem_nil⟩, ⟨fun k hk => absurd hk (Nat.not_lt_zero k), by decide, fun q hq => absurd hq List.not_mem_nil⟩, hm.2.2.2.2⟩
  have i2 : ivt (t + 1) S2 := ivt_fin a1 c1 f2 g2 hk ⟨by decide, by decide⟩ (by omega)
  exact ⟨ivt_prs i2, rfl, rfl, i2⟩
set_option maxHeartbeats 1000000 in
theorem u_draft (h : ivt t S) (A : Int32) : ai_opV L xs 12 8 103 [.ref 0, .int A] [.ref 432, .int A] (ivt (t + 1)) S := by
  obtain ⟨P, R, C, n, Rs, Vs, sx, sc, T, D, kp, F, B, hb, hJ, hc, hm, hk, hx, hD⟩ := id h
  rw [ax_back A]
  have hi := ax_Rx A
  generalize A.toInt = i at hi ⊢
  have hn := hk.2.2.2.2.2.1
  refine (r_draft (d := 11) hc hn hk.2.2.2.2.2.2.1 hi).mono ?_
  rintro v S1 ⟨hS, rfl⟩
  rw [hS]
  refine ⟨ivt_prs h, (r_m_draft (d := 11) hm.1 ⟨by omega, by omega⟩ hk.2.2.2.2.2.2.2.1 hi).mono ?_⟩
  rintro w S2 ⟨f2, m2, rfl⟩
  have i2 : ivt (t + 1) S2 := ivt_fin (aft_kpp hb hJ kpp_rf) hc f2 (mgg_T hm m2 (fun _ _ _ _ => rfl) hm.2.2.2.2.1 rfl) hk hx (by omega)
  have e : (if 0 ≤ i ∧ i < (n : Int) then F 2 i.toNat else 0) = if 0 ≤ i ∧ i < (n : Int) then C i.toNat else 0 := by
    split
    · exact hk.2.2.2.2.2.2.2.2 _ (by omega)
    · rfl
  exact ⟨ivt_prs i2, _, rfl, by rw [e], i2⟩
set_option maxHeartbeats 1000000 in
theorem u_rule (h : ivt t S) (A B9 : Int32) : ai_opV L xs 12 6 151 [.ref 0, .int A, .int B9] [.ref 432, .int A, .int B9] (ivt (t + 1)) S := by
  obtain ⟨P, R, C, n, Rs, Vs, sx, sc, T, D, kp, F, B, hb, hJ, hc, hm, hk, hx, hD⟩ := id h
  rw [ax_back A, ax_back B9]
  have hi := ax_Rx A
  have hj := ax_Rx B9
  generalize A.toInt = i at hi ⊢
  generalize B9.toInt = j at hj ⊢
  refine (r_rule (d := 8) hc (wsh_ok (fun q hq => (hm.2.2.1.2.2 q hq).1)) hi hj).mono ?_
  rintro v S1 ⟨hS, rfl⟩
  rw [hS]
  refine ⟨ivt_prs h, (r_m_rule (d := 9) hm hi hj).mono ?_⟩
  rintro w S2 ⟨f2, ⟨F2, q2, m2⟩, rfl⟩
  have i2 : ivt (t + 1) S2 := ivt_fin (aft_kpp hb hJ kpp_rf) hc f2 m2 (lnk_eq hk q2) hx (by omega)
  exact ⟨ivt_prs i2, _, rfl, rfl, i2⟩
set_option maxHeartbeats 1000000 in
theorem u_equationAt (h : ivt t S) (A B9 : Int32) : ai_opV L xs 12 7 154 [.ref 0, .int A, .int B9] [.ref 432, .int A, .int B9] (ivt (t + 1)) S := by
  obtain ⟨P, R, C, n, Rs, Vs, sx, sc, T, D, kp, F, B, hb, hJ, hc, hm, hk, hx, hD⟩ := id h
  rw [ax_back A, ax_back B9]
  have hi := ax_Rx A
  have hj := ax_Rx B9
  generalize A.toInt = i at hi ⊢
  generalize B9.toInt = j at hj ⊢
  refine (r_equationAt (d := 8) hc (wsh_ok hm.2.2.2.1.2.2) hi hj).mono ?_
  rintro v S1 ⟨hS, rfl⟩
  rw [hS]
  refine ⟨ivt_prs h, (r_m_equationAt (d := 9) hm hi hj).mono ?_⟩
  rintro w S2 ⟨f2, ⟨F2, q2, m2⟩, rfl⟩
  have i2 : ivt (t + 1) S2 := ivt_fin (aft_kpp hb hJ kpp_rf) hc f2 m2 (lnk_eq hk q2) hx (by omega)
  exact ⟨ivt_prs i2, _, rfl, rfl, i2⟩
set_option maxHeartbeats 4000000 in
theorem u_write (h : ivt t S) (J : Int64) : ai_opV L xs 12 1 100 [.ref 0, .long J] [.ref 432, .long J] (ivt (t + 1)) S := by
  obtain ⟨P, R, C, n, Rs, Vs, sx, sc, T, D, kp, F, B, hb, hJ, hc, hm, hk, hx, hD⟩ := id h
  have hn := hk.2.2.2.2.2.1
  have hC := hk.2.2.2.2.2.2.1
  have hF := hk.2.2.2.2.2.2.2.1
  have hCF := hk.2.2.2.2.2.2.2.2
  have hMC : ∀ j, j < 8 → by_M J j = by_C J j := fun j hj => (by_MC J j hj).1
  have hcc := wr_cc hMC 8 (Nat.le_refl 8)
  have ho : ai_obj S 4 2 = some [.ref 5, .int (Int32.ofNat n)] := by rw [← of_nat]; exact hc.2.2.1.1
  refine (r_write (d := 9) (J := J) hn hc.1 ho hc.2.2.1.2).mono ?_
  rintro v S1 ⟨w1, w2⟩
  by_cases hf : 60 < n + wr_c (by_C J) 8
  · obtain ⟨rfl, hS⟩ := w1 hf
    rw [hS]
    refine ⟨ivt_prs h, (r_m_write (d := 10) (J := J) (n := n) hn (hm.1.1.trans (by rw [mf_r])) (hm.1.2.1 2 (by decide))).mono ?_⟩
    rintro w S2 ⟨u1, -⟩
    obtain ⟨rfl, hS2⟩ := u1 (by rw [hcc]; exact hf)
    have m2 : mst S2 0 D (n : Int) (Rs.length : Int) (Vs.length : Int) kp sx sc (fup F 2 (F 2)) B := by
      rw [hS2]
      unfold md_put
      have := mst_fl (T' := 0) (D' := D) (n' := (n : Int)) (rc' := (Rs.length : Int)) (wt' := (Vs.length : Int)) (kp' := kp) (sx' := sx) (sc' := sc) (mst_wr (i := 2) (R := F 2) hm.1 (by decide))
      rw [mf_r] at this
      exact this
    rw [fup_self] at m2
    have f2 : fr 432 452 S S2 := by rw [hS2]; exact (fr_md (by decide) (by decide)).tr (fr_md (by decide) (by decide))
    have i2 : ivt (t + 1) S2 := ivt_fin (aft_kpp hb hJ kpp_rf) hc f2 (mgg_T hm m2 (fun _ _ _ _ => rfl) hm.2.2.2.2.1 rfl) hk hx (by omega)
    exact ⟨ivt_prs i2, _, rfl, rfl, i2⟩
  · obtain ⟨rfl, hS⟩ := w2 (by omega)
    have hS9 : S1 = dv_put S (rw_i (wr_f (by_C J) n (ax_f C) 8)) (n + wr_c (by_C J) 8) := by rw [hS]; unfold dr_put dv_put; rw [rw_f, ← of_nat]
    have c1 : cg S1 P R D (rw_i (wr_f (by_C J) n (ax_f C) 8)) (n + wr_c (by_C J) 8) Rs Vs sx sc := by rw [hS9]; exact cg_dv hc
    have a1 : aft t S S1 := aft_kpp hb hJ (by rw [hS9]; exact kpp_fr fr_dv (by omega))
    have g1 := mgg_near hm a1.2.2
    refine ⟨cg_prs c1 g1 a1.2.1, (r_m_write (d := 10) (J := J) (n := n) hn (g1.1.1.trans (by rw [mf_r])) (g1.1.2.1 2 (by decide))).mono ?_⟩
    rintro w S2 ⟨-, u2⟩
    obtain ⟨rfl, hS2⟩ := u2 (by rw [hcc]; omega)
    have m2 : mst S2 0 D ((n + wr_c (by_C J) 8 : Nat) : Int) (Rs.length : Int) (Vs.length : Int) kp sx sc (fup F 2 (rw_i (wr_f (by_M J) n (ax_f (F 2)) 8))) B := by
      rw [hS2, hcc]
      unfold md_put
      have := mst_fl (T' := 0) (D' := D) (n' := ((n + wr_c (by_C J) 8 : Nat) : Int)) (rc' := (Rs.length : Int)) (wt' := (Vs.length : Int)) (kp' := kp) (sx' := sx) (sc' := sc) (mst_wr (i := 2) (R := rw_i (wr_f (by_M J) n (ax_f (F 2)) 8)) g1.1 (by decide))
      rw [mf_r, rw_f] at this
      exact this
    have f2 : fr 432 452 S1 S2 := by rw [hS2]; exact (fr_md (by decide) (by decide)).tr (fr_md (by decide) (by decide))
    have hin : ∀ (E : Nat → Int), (∀ i, 0 ≤ E i ∧ E i < 65536) → ∀ i, 0 ≤ (ax_f E i).toInt ∧ (ax_f E i).toInt < 65536 := fun E hE i => by
      have h9 := hE i
      have e9 : (Int32.ofInt (E i)).toInt = E i := ax_toInt ⟨by omega, by omega⟩
      show 0 ≤ (Int32.ofInt (E i)).toInt ∧ (Int32.ofInt (E i)).toInt < 65536
      rw [e9]
      exact h9
    have i2 : ivt (t + 1) S2 := ivt_fin a1 c1 f2 (mgg_T g1 m2 (fun i _ h9 _ => fup_ne h9) (by rw [fup_ne (by decide)]; exact hm.2.2.2.2.1) (fup_ne (by decide))) (lnk_2 hk (fup_ne (by decide)) (fup_ne (by decide)) (by omega) (wr_in (fun j hj => by have := (by_MC J j hj).2; omega) (hin C hC) 8 (Nat.le_refl 8)) (by rw [fup_get]; exact wr_in (fun j hj => by rw [hMC j hj]; have := (by_MC J j hj).2; omega) (hin (F 2) hF) 8 (Nat.le_refl 8)) (fun i hi => by rw [fup_get]; show ((wr_f (by_M J) n (ax_f (F 2)) 8) i).toInt = ((wr_f (by_C J) n (ax_f C) 8) i).toInt; rw [wr_ff hMC (fun i hi => by show Int32.ofInt (F 2 i) = Int32.ofInt (C i); rw [hCF i hi]) 8 (Nat.le_refl 8) i hi])) hx (by omega)
    exact ⟨ivt_prs i2, _, rfl, rfl, i2⟩
set_option maxHeartbeats 8000000 in
theorem u_equation (h : ivt t S) : ai_opT L xs 12 92 104 [.ref 0, .ref 452] [.ref 432] (ivt (t + 1)) S := by
  obtain ⟨P, R, C, n, Rs, Vs, sx, sc, T, D, kp, F, B, hb, hJ, hc, hm, hk, hx, hD⟩ := id h
  have hCF := hk.2.2.2.2.2.2.2.2
  obtain ⟨o, hr, hq⟩ := r_equation (L := L) (xs := xs) (d := 5) hc hk hx
  refine (r_h_equation (d := 11) (X1 := fun S1 => (¬ ∃ l r, gp (Ar P) (F 0) C n l r) ∧ ∃ S0, S1 = ai_th S0 ∧ kpp S S0 ∧ cg S0 P R D C n Rs Vs sx sc) (X2 := fun S1 => ∃ l r, gp (Ar P) (F 0) C n l r ∧ (sx ≠ 0 ∨ 48 ≤ Vs.length) ∧ ∃ S0, S1 = ai_th S0 ∧ kpp S S0 ∧ cg S0 P R D C n Rs Vs sx sc) (X0 := fun b S0 => ∃ l r, gp (Ar P) (F 0) C n l r ∧ (sx = 0 ∧ ¬ 48 ≤ Vs.length) ∧ b = Int32.ofInt ((Vs ++ [rnp l r]).length : Nat) ∧ kpp S S0 ∧ cg S0 P R D C n Rs (Vs ++ [rnp l r]) sx sc) ⟨_, hc.1⟩ hr ?_ ?_).mono ?_
  · rcases hq with ⟨hn, S0, rfl, k1, c0⟩ | ⟨l, r, hg, hf, S0, rfl, k1, c0⟩ | ⟨l, r, hg, hf, S0, rfl, k1, c0⟩
    · exact Or.inl ⟨_, rfl, hn, S0, rfl, k1, c0⟩
    · exact Or.inr (Or.inl ⟨_, rfl, l, r, hg, hf, S0, rfl, k1, c0⟩)
    · exact Or.inr (Or.inr ⟨_, _, rfl, l, r, hg, hf, rfl, k1, c0⟩)
  · rintro b S0 ⟨l, r, -, -, -, k1, -⟩
    rw [nw_J k1.1]
    exact hJ
  rintro v S9 (⟨rfl, hn, S0, rfl, k1, c0⟩ | ⟨rfl, l, r, hg, hf, S0, rfl, k1, c0⟩ | ⟨rfl, b, S0, ⟨l, r, hg, hf, rfl, k1, c0⟩, how⟩)
  · have a1 := aft_th hb hJ k1
    have c1 := cg_th c0
    generalize ai_th S0 = S1 at a1 c1 ⊢
    have g1 := mgg_near hm a1.2.2
    refine ⟨cg_prs c1 g1 a1.2.1, (r_m_equation (d := 8) (N := n) g1 hk.2.2.2.2.2.1 hk.2.2.2.2.2.2.2.1 hx).mono ?_⟩
    rintro w S2 ⟨f2, F2, q2, ⟨hn2, rfl, m2⟩ | ⟨l2, r2, hg2, hf2, rfl, m2⟩ | ⟨l2, r2, hg2, hf2, rfl, m2⟩⟩
    · have i2 : ivt (t + 1) S2 := ivt_fin a1 c1 f2 m2 (lnk_eq hk q2) hx (by omega)
      refine ⟨ivt_prs i2, (r_m_thrown (d := 11) m2.1).mono ?_⟩
      rintro u S3 ⟨hS3, rfl⟩
      rw [hS3]
      exact ⟨ivt_prs i2, _, _, rfl, rfl, rfl, fun z => absurd z (by decide), i2⟩
    · exact absurd ⟨l2, r2, gp_cg hg2 (fun i hi => (hCF i hi).symm)⟩ hn
    · exact absurd ⟨l2, r2, gp_cg hg2 (fun i hi => (hCF i hi).symm)⟩ hn
  · have a1 := aft_th hb hJ k1
    have c1 := cg_th c0
    generalize ai_th S0 = S1 at a1 c1 ⊢
    have g1 := mgg_near hm a1.2.2
    refine ⟨cg_prs c1 g1 a1.2.1, (r_m_equation (d := 8) (N := n) g1 hk.2.2.2.2.2.1 hk.2.2.2.2.2.2.2.1 hx).mono ?_⟩
    rintro w S2 ⟨f2, F2, q2, ⟨hn2, rfl, m2⟩ | ⟨l2, r2, hg2, hf2, rfl, m2⟩ | ⟨l2, r2, hg2, hf2, rfl, m2⟩⟩
    · exact absurd ⟨l, r, gp_cg hg (fun i hi => hCF i hi)⟩ hn2
    · have i2 : ivt (t + 1) S2 := ivt_fin a1 c1 f2 m2 (lnk_eq hk q2) hx (by omega)
      refine ⟨ivt_prs i2, (r_m_thrown (d := 11) m2.1).mono ?_⟩
      rintro u S3 ⟨hS3, rfl⟩
      rw [hS3]
      exact ⟨ivt_prs i2, _, _, rfl, rfl, rfl, fun z => absurd z (by decide), i2⟩
    · exfalso
      omega
  · obtain ⟨a1, n1, hJo⟩ := aft_owr hb k1 how
    have c1 := cg_near c0 n1
    have g1 := mgg_near hm a1.2.2
    refine ⟨cg_prs c1 g1 a1.2.1, (r_m_equation (d := 8) (N := n) g1 hk.2.2.2.2.2.1 hk.2.2.2.2.2.2.2.1 hx).mono ?_⟩
    rintro w S2 ⟨f2, F2, q2, ⟨hn2, rfl, m2⟩ | ⟨l2, r2, hg2, hf2, rfl, m2⟩ | ⟨l2, r2, hg2, hf2, rfl, m2⟩⟩
    · exact absurd ⟨l, r, gp_cg hg (fun i hi => hCF i hi)⟩ hn2
    · exfalso
      omega
    · obtain ⟨rfl, rfl⟩ := gp_un hg hg2 (fun i hi => hCF i hi)
      have i2 : ivt (t + 1) S2 := ivt_fin a1 c1 f2 m2 (lnk_eq hk q2) hx (by omega)
      refine ⟨ivt_prs i2, (r_m_thrown (d := 11) m2.1).mono ?_⟩
      rintro u S3 ⟨hS3, rfl⟩
      rw [hS3]
      exact ⟨ivt_prs i2, _, _, rfl, rfl, rfl, fun _ => by obtain ⟨f, y1, y2⟩ := hJo; exact ⟨f, (f2.arrJ (by omega)).trans y1, y2⟩, i2⟩
theorem cmz_un {A : Int → Nat} {R : Int → Int} {l r : List Int} {y z : Int} (h1 : cmz A R l r y) (h2 : cmz A R l r z) : y = z := by
  rcases h1 with ⟨a, e⟩ | ⟨a, b, e⟩ | ⟨a, b, c, e⟩ | ⟨a, b, c, e⟩ <;> rcases h2 with ⟨a', e'⟩ | ⟨a', b', e'⟩ | ⟨a', b', c', e'⟩ | ⟨a', b', c', e'⟩
  all_goals first | exact e.trans e'.symm | exact absurd a a' | exact absurd a' a | exact absurd b b' | exact absurd b' b | exact absurd c c' | exact absurd c' c
set_option maxHeartbeats 8000000 in
theorem u_compare (h : ivt t S) (ht : t ≤ 600) : ai_opT L xs 12 95 156 [.ref 0, .ref 452] [.ref 432] (ivt (t + 1)) S := by
  obtain ⟨P, R, C, n, Rs, Vs, sx, sc, T, D, kp, F, B, hb, hJ, hc, hm, hk, hx, hD⟩ := id h
  have hCF := hk.2.2.2.2.2.2.2.2
  obtain ⟨o, hr, hq⟩ := r_compare (L := L) (xs := xs) (d := 4) hc hk
  refine (r_h_compare (d := 11) (X1 := fun S1 => (¬ ∃ l r, gp (Ar P) (F 0) C n l r) ∧ ∃ S0, S1 = ai_th S0 ∧ kpp S S0 ∧ cg S0 P R D C n Rs Vs sx sc) (X0 := fun b S0 => ∃ l r, gp (Ar P) (F 0) C n l r ∧ ∃ z, cmz (Ar P) (at256 R) l r z ∧ b = Int32.ofInt z ∧ kpp S S0 ∧ cg S0 P R D C n Rs Vs sx sc) ⟨_, hc.1⟩ hr ?_ ?_).mono ?_
  · rcases hq with ⟨hn, S0, rfl, k1, c0⟩ | ⟨l, r, hg, z, hz, S0, rfl, k1, c0⟩
    · exact Or.inl ⟨_, rfl, hn, S0, rfl, k1, c0⟩
    · exact Or.inr ⟨_, _, rfl, l, r, hg, z, hz, rfl, k1, c0⟩
  · rintro b S0 ⟨l, r, -, z, -, -, k1, -⟩
    rw [nw_J k1.1]
    exact hJ
  rintro v S9 (⟨rfl, hn, S0, rfl, k1, c0⟩ | ⟨rfl, b, S0, ⟨l, r, hg, z, hz, rfl, k1, c0⟩, how⟩)
  · have a1 := aft_th hb hJ k1
    have c1 := cg_th c0
    generalize ai_th S0 = S1 at a1 c1 ⊢
    have g1 := mgg_near hm a1.2.2
    refine ⟨cg_prs c1 g1 a1.2.1, (r_m_compare (d := 5) (N := n) (R := at256 R) g1 hk.2.2.2.2.2.1 hk.2.2.2.2.2.2.2.1 (lnk_mrk hk (by omega))).mono ?_⟩
    rintro w S2 ⟨f2, F2, B2, q2, ⟨hn2, rfl, m2⟩ | ⟨l2, r2, hg2, z2, hz2, rfl, m2⟩⟩
    · have i2 : ivt (t + 1) S2 := ivt_fin a1 c1 f2 m2 (lnk_eq hk q2) hx (by omega)
      refine ⟨ivt_prs i2, (r_m_thrown (d := 11) m2.1).mono ?_⟩
      rintro u S3 ⟨hS3, rfl⟩
      rw [hS3]
      exact ⟨ivt_prs i2, _, _, rfl, rfl, rfl, fun z => absurd z (by decide), i2⟩
    · exact absurd ⟨l2, r2, gp_cg hg2 (fun i hi => (hCF i hi).symm)⟩ hn
  · obtain ⟨a1, n1, hJo⟩ := aft_owr hb k1 how
    have c1 := cg_near c0 n1
    have g1 := mgg_near hm a1.2.2
    refine ⟨cg_prs c1 g1 a1.2.1, (r_m_compare (d := 5) (N := n) (R := at256 R) g1 hk.2.2.2.2.2.1 hk.2.2.2.2.2.2.2.1 (lnk_mrk hk (by omega))).mono ?_⟩
    rintro w S2 ⟨f2, F2, B2, q2, ⟨hn2, rfl, m2⟩ | ⟨l2, r2, hg2, z2, hz2, rfl, m2⟩⟩
    · exact absurd ⟨l, r, gp_cg hg (fun i hi => hCF i hi)⟩ hn2
    · obtain ⟨rfl, rfl⟩ := gp_un hg hg2 (fun i hi => hCF i hi)
      have ez := cmz_un hz hz2
      subst ez
      have i2 : ivt (t + 1) S2 := ivt_fin a1 c1 f2 m2 (lnk_eq hk q2) hx (by omega)
      refine ⟨ivt_prs i2, (r_m_thrown (d := 11) m2.1).mono ?_⟩
      rintro u S3 ⟨hS3, rfl⟩
      rw [hS3]
      exact ⟨ivt_prs i2, _, _, rfl, rfl, rfl, fun _ => by obtain ⟨f, y1, y2⟩ := hJo; exact ⟨f, (f2.arrJ (by omega)).trans y1, y2⟩, i2⟩
set_option maxHeartbeats 8000000 in
theorem u_normalize (h : ivt t S) : ai_opT L xs 12 94 155 [.ref 0, .ref 452] [.ref 432] (ivt (t + 1)) S := by
  obtain ⟨P, R, C, n, Rs, Vs, sx, sc, T, D, kp, F, B, hb, hJ, hc, hm, hk, hx, hD⟩ := id h
  have hCF := hk.2.2.2.2.2.2.2.2
  have hsl : sl (F 2) 0 n = sl C 0 n := sl_cg (fun i _ hi => hCF i (by omega))
  obtain ⟨o, hr, hq⟩ := r_normalize (L := L) (xs := xs) (d := 6) hc hk hm.2.2.1.2.2
  refine (r_h_normalize (d := 11) (X1 := fun S1 => ¬ okt (Ar P) (F 0) (sl C 0 n) ∧ ∃ S0, S1 = ai_th S0 ∧ kpp S S0 ∧ cg S0 P R D C n Rs Vs sx sc) (X2 := fun S1 => okt (Ar P) (F 0) (sl C 0 n) ∧ nf (Ar P) Rs 40 (sl C 0 n) = none ∧ ∃ S0, S1 = ai_th S0 ∧ kpp S S0 ∧ cg S0 P R D C n Rs Vs sx sc) (X0 := fun b S0 => okt (Ar P) (F 0) (sl C 0 n) ∧ ∃ q, nf (Ar P) Rs 40 (sl C 0 n) = some q ∧ q.1.length ≤ 24 ∧ b = Int32.ofInt (q.2 : Nat) ∧ ∃ C', kpp S S0 ∧ cg S0 P R D C' q.1.length Rs Vs sx sc ∧ (∀ i, 0 ≤ C' i ∧ C' i < 65536) ∧ ∀ i, i < q.1.length → C' i = q.1.getD i 0) ⟨_, hc.1⟩ hr ?_ ?_).mono ?_
  · rcases hq with ⟨hn, S0, rfl, k1, c0⟩ | ⟨hg, hf, S0, rfl, k1, c0⟩ | ⟨hg, q, hq, hl, S0, C', rfl, k1, c0, cb, ce⟩
    · exact Or.inl ⟨_, rfl, hn, S0, rfl, k1, c0⟩
    · exact Or.inr (Or.inl ⟨_, rfl, hg, hf, S0, rfl, k1, c0⟩)
    · exact Or.inr (Or.inr ⟨_, _, rfl, hg, q, hq, hl, rfl, C', k1, c0, cb, ce⟩)
  · rintro b S0 ⟨-, q, -, -, -, C', k1, -⟩
    rw [nw_J k1.1]
    exact hJ
  rintro v S9 (⟨rfl, hn, S0, rfl, k1, c0⟩ | ⟨rfl, hg, hf, S0, rfl, k1, c0⟩ | ⟨rfl, b, S0, ⟨hg, q, hq, hl, rfl, C', k1, c0, cb, ce⟩, how⟩)
  · have a1 := aft_th hb hJ k1
    have c1 := cg_th c0
    generalize ai_th S0 = S1 at a1 c1 ⊢
    have g1 := mgg_near hm a1.2.2
    refine ⟨cg_prs c1 g1 a1.2.1, (r_m_normalize (d := 6) (N := n) g1 hk.2.2.2.2.2.1 hk.2.2.2.2.2.2.2.1).mono ?_⟩
    rintro w S2 ⟨f2, F2, ⟨q20, q21⟩, hw⟩
    rw [hsl] at hw
    rcases hw with ⟨hn2, e2, rfl, m2⟩ | ⟨hn2, hf2, e2, rfl, m2⟩ | ⟨hn2, q2, hq2, rfl, b2, e2, m2⟩
    · have i2 : ivt (t + 1) S2 := ivt_fin a1 c1 f2 m2 (lnk_2 hk q20 q21 hk.2.2.2.2.2.1 hk.2.2.2.2.2.2.1 (by rw [e2]; exact hk.2.2.2.2.2.2.2.1) (by rw [e2]; exact hCF)) hx (by omega)
      refine ⟨ivt_prs i2, (r_m_thrown (d := 11) m2.1).mono ?_⟩
      rintro u S3 ⟨hS3, rfl⟩
      rw [hS3]
      exact ⟨ivt_prs i2, _, _, rfl, rfl, rfl, fun z => absurd z (by decide), i2⟩
    · exact absurd hn2 hn
    · exact absurd hn2 hn
  · have a1 := aft_th hb hJ k1
    have c1 := cg_th c0
    generalize ai_th S0 = S1 at a1 c1 ⊢
    have g1 := mgg_near hm a1.2.2
    refine ⟨cg_prs c1 g1 a1.2.1, (r_m_normalize (d := 6) (N := n) g1 hk.2.2.2.2.2.1 hk.2.2.2.2.2.2.2.1).mono ?_⟩
    rintro w S2 ⟨f2, F2, ⟨q20, q21⟩, hw⟩
    rw [hsl] at hw
    rcases hw with ⟨hn2, e2, rfl, m2⟩ | ⟨hn2, hf2, e2, rfl, m2⟩ | ⟨hn2, q2, hq2, rfl, b2, e2, m2⟩
    · exact absurd hg hn2
    · have i2 : ivt (t + 1) S2 := ivt_fin a1 c1 f2 m2 (lnk_2 hk q20 q21 hk.2.2.2.2.2.1 hk.2.2.2.2.2.2.1 (by rw [e2]; exact hk.2.2.2.2.2.2.2.1) (by rw [e2]; exact hCF)) hx (by omega)
      refine ⟨ivt_prs i2, (r_m_thrown (d := 11) m2.1).mono ?_⟩
      rintro u S3 ⟨hS3, rfl⟩
      rw [hS3]
      exact ⟨ivt_prs i2, _, _, rfl, rfl, rfl, fun z => absurd z (by decide), i2⟩
    · rw [hf] at hq2
      cases hq2
  · obtain ⟨a1, n1, hJo⟩ := aft_owr hb k1 how
    have c1 := cg_near c0 n1
    have g1 := mgg_near hm a1.2.2
    refine ⟨cg_prs c1 g1 a1.2.1, (r_m_normalize (d := 6) (N := n) g1 hk.2.2.2.2.2.1 hk.2.2.2.2.2.2.2.1).mono ?_⟩
    rintro w S2 ⟨f2, F2, ⟨q20, q21⟩, hw⟩
    rw [hsl] at hw
    rcases hw with ⟨hn2, e2, rfl, m2⟩ | ⟨hn2, hf2, e2, rfl, m2⟩ | ⟨hn2, q2, hq2, rfl, b2, e2, m2⟩
    · exact absurd hg hn2
    · rw [hq] at hf2
      cases hf2
    · have eq := Option.some.inj (hq.symm.trans hq2)
      subst eq
      have i2 : ivt (t + 1) S2 := ivt_fin a1 c1 f2 m2 (lnk_2 hk q20 q21 (by omega) cb b2 (fun i hi => (e2 i hi).trans (ce i hi).symm)) hx (by omega)
      refine ⟨ivt_prs i2, (r_m_thrown (d := 11) m2.1).mono ?_⟩
      rintro u S3 ⟨hS3, rfl⟩
      rw [hS3]
      exact ⟨ivt_prs i2, _, _, rfl, rfl, rfl, fun _ => by obtain ⟨f, y1, y2⟩ := hJo; exact ⟨f, (f2.arrJ (by omega)).trans y1, y2⟩, i2⟩
set_option maxHeartbeats 8000000 in
theorem u_complete (h : ivt t S) (ht : t ≤ 600) (A : Int32) : ai_opT L xs 12 93 112 [.ref 0, .int A, .ref 452] [.ref 432, .int A] (ivt (t + 1)) S := by
  obtain ⟨P, R, C, n, Rs, Vs, sx, sc, T, D, kp, F, B, hb, hJ, hc, hm, hk, hx, hD⟩ := id h
  rw [ax_back A]
  have hkr := ax_Rx A
  generalize A.toInt = k at hkr ⊢
  obtain ⟨o, hr, hq⟩ := r_complete (L := L) (xs := xs) (d := 3) hc hk.1 hm.2.2.1.2.2 hm.2.2.2.1.2.2 hx hkr
  refine (r_h_complete (d := 11) (X1 := fun S1 => (k < 0 ∨ 20 < k) ∧ S1 = ai_th S) (X0 := fun b S0 => ¬ (k < 0 ∨ 20 < k) ∧ b = Int32.ofInt (finz (cst (Ar P) (at256 R) k.toNat Rs Vs sx sc).2.1 (cst (Ar P) (at256 R) k.toNat Rs Vs sx sc).2.2.1) ∧ kpp S S0 ∧ cg S0 P R D C n (cst (Ar P) (at256 R) k.toNat Rs Vs sx sc).1 (cst (Ar P) (at256 R) k.toNat Rs Vs sx sc).2.1 (cst (Ar P) (at256 R) k.toNat Rs Vs sx sc).2.2.1 (cst (Ar P) (at256 R) k.toNat Rs Vs sx sc).2.2.2 ∧ 0 ≤ (cst (Ar P) (at256 R) k.toNat Rs Vs sx sc).2.2.1 ∧ (cst (Ar P) (at256 R) k.toNat Rs Vs sx sc).2.2.1 ≤ 3) ⟨_, hc.1⟩ hr ?_ ?_).mono ?_
  · rcases hq with ⟨hn, rfl⟩ | ⟨hn, S0, rfl, k1, c0⟩
    · exact Or.inl ⟨_, rfl, hn, rfl⟩
    · exact Or.inr ⟨_, _, rfl, hn, rfl, k1, c0⟩
  · rintro b S0 ⟨-, -, k1, -⟩
    rw [nw_J k1.1]
    exact hJ
  rintro v S9 (⟨rfl, hn, rfl⟩ | ⟨rfl, b, S0, ⟨hn, rfl, k1, c0, hx2⟩, how⟩)
  · have a1 := aft_th hb hJ (kpp_rf (S := S))
    have c1 := cg_th hc
    generalize ai_th S = S1 at a1 c1 ⊢
    have g1 := mgg_near hm a1.2.2
    refine ⟨cg_prs c1 g1 a1.2.1, (r_m_complete (d := 2) (R := at256 R) g1 (lnk_mrk hk (by omega)) hx hkr).mono ?_⟩
    rintro w S2 ⟨f2, ⟨hb2, rfl, m2⟩ | ⟨hb2, rfl, F2, B2, kp2, q2, m2⟩⟩
    · have i2 : ivt (t + 1) S2 := ivt_fin a1 c1 f2 m2 hk hx (by omega)
      refine ⟨ivt_prs i2, (r_m_thrown (d := 11) m2.1).mono ?_⟩
      rintro u S3 ⟨hS3, rfl⟩
      rw [hS3]
      exact ⟨ivt_prs i2, _, _, rfl, rfl, rfl, fun z => absurd z (by decide), i2⟩
    · exact absurd hn hb2
  · obtain ⟨a1, n1, hJo⟩ := aft_owr hb k1 how
    have c1 := cg_near c0 n1
    have g1 := mgg_near hm a1.2.2
    refine ⟨cg_prs c1 g1 a1.2.1, (r_m_complete (d := 2) (R := at256 R) g1 (lnk_mrk hk (by omega)) hx hkr).mono ?_⟩
    rintro w S2 ⟨f2, ⟨hb2, rfl, m2⟩ | ⟨hb2, rfl, F2, B2, kp2, q2, m2⟩⟩
    · exact absurd hb2 hn
    · have i2 : ivt (t + 1) S2 := ivt_fin a1 c1 f2 m2 (lnk_eq hk q2) hx2 (by omega)
      refine ⟨ivt_prs i2, (r_m_thrown (d := 11) m2.1).mono ?_⟩
      rintro u S3 ⟨hS3, rfl⟩
      rw [hS3]
      exact ⟨ivt_prs i2, _, _, rfl, rfl, rfl, fun _ => by obtain ⟨f, y1, y2⟩ := hJo; exact ⟨f, (f2.arrJ (by omega)).trans y1, y2⟩, i2⟩
set_option maxHeartbeats 8000000 in
theorem u_declare (h : ivt t S) (ht : t ≤ 600) (c9 p9 : Int32) (hc9 : 0 ≤ c9.toInt ∧ c9.toInt < 65536) : ai_opD L xs 12 [.ref 0, .int c9, .int p9] [.ref 432, .int c9, .int p9] (ivt (t + 1)) S := by
  obtain ⟨P, R, C, n, Rs, Vs, sx, sc, T, D, kp, F, B, hb, hJ, hc, hm, hk, hx, hD⟩ := id h
  rw [ax_back c9, ax_back p9]
  have hpr := ax_Rx p9
  generalize c9.toInt = c at hc9 ⊢
  generalize p9.toInt = p at hpr ⊢
  have hci := hc9
  obtain ⟨o, hr, hq⟩ := r_declare (L := L) (xs := xs) (d := 8) hc hk.1 hci hpr
  refine (r_h_declare (d := 11) ⟨_, hc.1⟩ hr hq).mono ?_
  rintro v S9 (⟨hn, rfl, rfl⟩ | ⟨hn, hd, rfl, rfl⟩ | ⟨hn, hd, rfl, hS9⟩)
  · have a1 := aft_th hb hJ (kpp_rf (S := S))
    have c1 := cg_th hc
    generalize ai_th S = S1 at a1 c1 ⊢
    have g1 := mgg_near hm a1.2.2
    refine ⟨cg_prs c1 g1 a1.2.1, (r_m_declare (d := 10) g1.1 g1.2.1.1.1 hci hpr).mono ?_⟩
    rintro w S2 ⟨rfl, f2, ⟨hb2, m2⟩ | ⟨hb2, hd2, m2⟩ | ⟨hb2, hd2, m2⟩⟩
    · have i2 : ivt (t + 1) S2 := ivt_fin a1 c1 f2 (mgg_T g1 m2 (fun _ _ _ _ => rfl) hm.2.2.2.2.1 rfl) hk hx (by omega)
      refine ⟨ivt_prs i2, (r_m_thrown (d := 11) m2).mono ?_⟩
      rintro u S3 ⟨hS3, rfl⟩
      rw [hS3]
      exact ⟨ivt_prs i2, _, rfl, rfl, rfl, i2⟩
    · exact absurd hn hb2
    · exact absurd hn hb2
  · have a1 := aft_th hb hJ (kpp_rf (S := S))
    have c1 := cg_th hc
    generalize ai_th S = S1 at a1 c1 ⊢
    have g1 := mgg_near hm a1.2.2
    refine ⟨cg_prs c1 g1 a1.2.1, (r_m_declare (d := 10) g1.1 g1.2.1.1.1 hci hpr).mono ?_⟩
    rintro w S2 ⟨rfl, f2, ⟨hb2, m2⟩ | ⟨hb2, hd2, m2⟩ | ⟨hb2, hd2, m2⟩⟩
    · exact absurd hb2 hn
    · have i2 : ivt (t + 1) S2 := ivt_fin a1 c1 f2 (mgg_T g1 m2 (fun _ _ _ _ => rfl) hm.2.2.2.2.1 rfl) hk hx (by omega)
      refine ⟨ivt_prs i2, (r_m_thrown (d := 11) m2).mono ?_⟩
      rintro u S3 ⟨hS3, rfl⟩
      rw [hS3]
      exact ⟨ivt_prs i2, _, rfl, rfl, rfl, i2⟩
    · exact absurd ((hk.2.2.1 c hci.1).mp hd).2.2 hd2
  · obtain ⟨c1, k1⟩ := cg_sy (P' := ax_up P c.toNat p) (R' := ax_up R c.toNat (D + 1)) (nn' := D + 1) hc
    rw [← hS9] at c1 k1
    have a1 := aft_kpp hb hJ k1
    have g1 := mgg_near hm a1.2.2
    refine ⟨cg_prs c1 g1 a1.2.1, (r_m_declare (d := 10) g1.1 g1.2.1.1.1 hci hpr).mono ?_⟩
    rintro w S2 ⟨rfl, f2, ⟨hb2, m2⟩ | ⟨hb2, hd2, m2⟩ | ⟨hb2, hd2, m2⟩⟩
    · exact absurd hb2 hn
    · exact absurd ((hk.2.2.1 c hci.1).mpr ⟨by omega, by omega, hd2⟩) hd
    · obtain ⟨m3, hk3⟩ := dec_both g1 hk ⟨by omega, by omega⟩ ⟨by omega, by omega⟩ hd2 (by omega) m2
      have i2 : ivt (t + 1) S2 := ivt_fin a1 c1 f2 m3 hk3 hx (by omega)
      refine ⟨ivt_prs i2, (r_m_thrown (d := 11) m2).mono ?_⟩
      rintro u S3 ⟨hS3, rfl⟩
      rw [hS3]
      exact ⟨ivt_prs i2, _, rfl, rfl, rfl, i2⟩
theorem ivt_up (h : ivt t S) : ivt (t + 1) S := by
  obtain ⟨P, R, C, n, Rs, Vs, sx, sc, T, D, kp, F, B, ⟨b1, b2, b3⟩, hJ, hc, hm, hk, hx, hD⟩ := h
  exact ⟨P, R, C, n, Rs, Vs, sx, sc, T, D, kp, F, B, ⟨b1, by omega, by omega⟩, hJ, hc, hm, hk, hx, by omega⟩
theorem u_all (h : ivt t S) (ht : t ≤ 600) (k A B : Int32) : ai_op L xs 12 k A B (ivt (t + 1)) S :=
  ⟨fun _ => u_declare h ht _ _ (chr_in A), fun _ => u_write h _, fun _ => u_wipe h, fun _ => u_equation h, fun _ => u_complete h ht _, fun _ => u_steps h, fun _ => u_rules h, fun _ => u_waiting h, fun _ => u_rule h _ _, fun _ => u_equationAt h _ _, fun _ => u_normalize h, fun _ => u_compare h ht, fun _ => u_draft h _, fun _ => u_clear h, fun _ => ivt_up h⟩
theorem u_law (L : Nat) (xs : Nat → Int32) (hL : L ≤ 1536) : ai_Law L xs := by
  refine lw_law (I := ivt) hL (fun q h1 h2 => ivt_0 h1 h2) (fun t S ht _ hI => u_all hI (by omega) _ _ _) (fun t S ht hI => ?_)
  obtain ⟨P, R, C, n, Rs, Vs, sx, sc, T, D, kp, F, B, ⟨b1, b2, b3⟩, -⟩ := hI
  omega
end TU

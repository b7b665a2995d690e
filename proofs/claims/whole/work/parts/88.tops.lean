/-! The calls of the object. -/
section CT
variable {L : Nat} {xs : Nat → Int32} {d : Nat} {S S' : ai_S} {P R C : Nat → Int} {nn sx sc D : Int} {n : Nat} {Rs Vs : rls} {F : Nat → Nat → Int}
def kpp (S S' : ai_S) : Prop := nw 432 453 S S' ∧ S'.2.1 = S.2.1 ∧ S'.2.2.1 = S.2.2.1
theorem kpp.tr {S'' : ai_S} (h : kpp S S') (h2 : kpp S' S'') : kpp S S'' := ⟨h.1.tr h2.1, h2.2.1.trans h.2.1, h2.2.2.trans h.2.2⟩
theorem kpp_rf : kpp S S := ⟨nw_rf, rfl, rfl⟩
theorem kpp_fr {lo hi : Nat} (h : fr lo hi S S') (hh : hi ≤ 432) : kpp S S' := ⟨nw_fr h (Or.inr hh), h.2.1, h.2.2.1⟩
theorem kpp_frp {Q : Nat → Prop} (h : frp Q S S') (hh : ∀ a, 432 ≤ a → ¬ Q a) : kpp S S' := ⟨⟨h.1, fun a h1 _ => h.2.2.2 a (hh a h1)⟩, h.2.1, h.2.2.1⟩
theorem cg_typed (h : cg S P R nn C n Rs Vs sx sc) (f : fr 6 11 S S') (hp : ∃ x y, pw S' 6 x y) : cg S' P R nn C n Rs Vs sx sc :=
  ⟨(f.obj (by omega)).trans h.1, egs_near h.2.1 f.1 (fun a ha => f.2.2.2 a (by omega)), ⟨(f.obj (by omega)).trans h.2.2.1.1, (f.arr (by omega)).trans h.2.2.1.2⟩, hp⟩
theorem cg_eng {Rs' Vs' : rls} {sx' sc' : Int} (h : cg S P R nn C n Rs Vs sx sc) (f : fr 11 432 S S') (he : egs S' P R nn Rs' Vs' sx' sc') : cg S' P R nn C n Rs' Vs' sx' sc' := by
  obtain ⟨x, y, hp⟩ := h.2.2.2
  exact ⟨(f.obj (by omega)).trans h.1, he, ⟨(f.obj (by omega)).trans h.2.2.1.1, (f.arr (by omega)).trans h.2.2.1.2⟩, x, y, f.pw hp (by omega)⟩
theorem cg_pog (h : cg S P R nn C n Rs Vs sx sc) (f : fr 417 425 S S') (hg : pog S') : cg S' P R nn C n Rs Vs sx sc := by
  have hf : frp (fun c => 417 ≤ c ∧ c < 425) S S' := f.pp (fun c h1 h2 => ⟨h1, h2⟩)
  obtain ⟨h1, h2, h3, h4, ⟨ks, h5⟩, h6, ⟨x, y, h7⟩, ⟨z, h8⟩, h9, h10⟩ := h.2.1
  exact cg_eng h (f.mn (by omega) (by omega)) ⟨hf.sy h1 (by omega) (by omega) (by omega), hf.en h2 (by omega), hf.plv h3 (fun i _ _ => by omega), hf.plv h4 (fun i _ _ => by omega), ⟨ks, hf.plv h5 (fun i _ _ => by omega)⟩, hf.wkh h6 (fun c _ _ => by omega) (fun c _ _ => by omega) (fun c _ _ => by omega), ⟨x, y, hf.pw h7 (fun i _ => by omega)⟩, ⟨z, hf.tw h8 (by omega) (by omega)⟩, hg, hf.ovg h10 (fun c _ _ => by omega)⟩
theorem cg_rw (h : cg S P R nn C n Rs Vs sx sc) (f : frp (rgR 7) S S') (hr : ∃ E B pl, rwo S' E B pl) (ht : ∃ w, tw S' 7 w) : cg S' P R nn C n Rs Vs sx sc := by
  have hf : frp (fun c => c = 7 ∨ c = 8 ∨ (412 ≤ c ∧ c < 417)) S S' := f.mn (fun a ha => by unfold rgR at ha; omega)
  obtain ⟨h1, h2, h3, h4, ⟨ks, h5⟩, ⟨⟨q, h6⟩, ⟨x1, y1, h61⟩, -⟩, ⟨x, y, h7⟩, ⟨z, h8⟩, h9, h10⟩ := h.2.1
  obtain ⟨x2, y2, hp⟩ := h.2.2.2
  obtain ⟨w, ht⟩ := ht
  obtain ⟨p1, p2, p3⟩ := pw_tw hp
  exact ⟨(hf.obj (by omega)).trans h.1, ⟨hf.sy h1 (by omega) (by omega) (by omega), hf.en h2 (by omega), hf.plv h3 (fun i _ _ => by omega), hf.plv h4 (fun i _ _ => by omega), ⟨ks, hf.plv h5 (fun i _ _ => by omega)⟩, ⟨⟨q, hf.rv h6 (by omega) (by omega)⟩, ⟨x1, y1, hf.pw h61 (fun i _ => by omega)⟩, hr⟩, ⟨x, y, hf.pw h7 (fun i _ => by omega)⟩, ⟨z, hf.tw h8 (by omega) (by omega)⟩, hf.pog h9 (fun c _ _ => by omega), hf.ovg h10 (fun c _ _ => by omega)⟩, ⟨(hf.obj (by omega)).trans h.2.2.1.1, (hf.arr (by omega)).trans h.2.2.1.2⟩, w, y2, tw_pw ((hf.obj (by omega)).trans p1) ht (hf.tw p3 (by omega) (by omega))⟩
theorem fr_dv {C' : Nat → Int} {m : Nat} : fr 4 6 S (dv_put S C' m) := (fr_wr.mn (by omega) (by omega)).tr (fr_wr.mn (by omega) (by omega))
theorem cg_dv {C' : Nat → Int} {m : Nat} (h : cg S P R nn C n Rs Vs sx sc) : cg (dv_put S C' m) P R nn C' m Rs Vs sx sc := by
  have f : fr 4 6 S (dv_put S C' m) := fr_dv
  obtain ⟨x, y, hp⟩ := h.2.2.2
  have hl : 5 < S.1 := (ai_arr_inv h.2.2.1.2).1
  exact ⟨(f.obj (by omega)).trans h.1, egs_near h.2.1 f.1 (fun a ha => f.2.2.2 a (by omega)), ⟨ai_obj_wrS (show 4 < S.1 by omega), (ai_arr_wr (by decide)).trans (ai_arr_wrS hl)⟩, x, y, f.pw hp (by omega)⟩
theorem gp_no {A : Int → Nat} {P0 : Nat → Int} {m : Nat} (hm : mid C n m) (h : ¬ gp A P0 C n (sl C 0 m) (sl C (m + 1) (n - (m + 1)))) : ¬ ∃ l r, gp A P0 C n l r := by
  rintro ⟨l, r, hg⟩
  obtain ⟨k, a1, a2, a3, a4, a5⟩ := hg
  have := mid_un hm a1 (fun _ _ => rfl)
  subst this
  exact h ⟨k, a1, a2, rfl, rfl, by rw [← a3, ← a4]; exact a5⟩
theorem at_8_15 : ai_at ai_m8 15 = some (.aload_n 0, 1) := rfl
theorem at_8_16 : ai_at ai_m8 16 = some (.getfield 19, 3) := rfl
theorem at_8_19 : ai_at ai_m8 19 = some (.getfield 158, 3) := rfl
theorem at_8_22 : ai_at ai_m8 22 = some (.iload_n 1, 1) := rfl
theorem at_8_23 : ai_at ai_m8 23 = some (.caload, 1) := rfl
theorem at_8_24 : ai_at ai_m8 24 = some (.goto 4, 3) := rfl
theorem at_10_31 : ai_at ai_m10 31 = some (.aload_n 0, 1) := rfl
theorem at_10_32 : ai_at ai_m10 32 = some (.getfield 12, 3) := rfl
theorem at_10_35 : ai_at ai_m10 35 = some (.iload_n 1, 1) := rfl
theorem at_10_36 : ai_at ai_m10 36 = some (.invokevirtual 51, 3) := rfl
theorem at_10_39 : ai_at ai_m10 39 = some (.ifCond .eq 13, 3) := rfl
theorem at_10_42 : ai_at ai_m10 42 = some (.new 55, 3) := rfl
theorem at_10_52 : ai_at ai_m10 52 = some (.aload_n 0, 1) := rfl
theorem at_10_53 : ai_at ai_m10 53 = some (.getfield 12, 3) := rfl
theorem at_10_56 : ai_at ai_m10 56 = some (.iload_n 1, 1) := rfl
theorem at_10_57 : ai_at ai_m10 57 = some (.iload_n 2, 1) := rfl
theorem at_10_58 : ai_at ai_m10 58 = some (.invokevirtual 60, 3) := rfl
theorem at_10_61 : ai_at ai_m10 61 = some (.return_, 1) := rfl
theorem at_11_0 : ai_at ai_m11 0 = some (.aload_n 0, 1) := rfl
theorem at_11_1 : ai_at ai_m11 1 = some (.getfield 19, 3) := rfl
theorem at_11_4 : ai_at ai_m11 4 = some (.aload_n 0, 1) := rfl
theorem at_11_5 : ai_at ai_m11 5 = some (.getfield 12, 3) := rfl
theorem at_11_8 : ai_at ai_m11 8 = some (.aload_n 0, 1) := rfl
theorem at_11_9 : ai_at ai_m11 9 = some (.getfield 26, 3) := rfl
theorem at_11_12 : ai_at ai_m11 12 = some (.invokevirtual 72, 3) := rfl
theorem at_11_15 : ai_at ai_m11 15 = some (.ifCond .ne 13, 3) := rfl
theorem at_11_18 : ai_at ai_m11 18 = some (.new 44, 3) := rfl
theorem at_11_28 : ai_at ai_m11 28 = some (.aload_n 0, 1) := rfl
theorem at_11_29 : ai_at ai_m11 29 = some (.getfield 40, 3) := rfl
theorem at_11_32 : ai_at ai_m11 32 = some (.getfield 78, 3) := rfl
theorem at_11_35 : ai_at ai_m11 35 = some (.ifCond .ne 16, 3) := rfl
theorem at_11_38 : ai_at ai_m11 38 = some (.aload_n 0, 1) := rfl
theorem at_11_39 : ai_at ai_m11 39 = some (.getfield 40, 3) := rfl
theorem at_11_42 : ai_at ai_m11 42 = some (.getfield 81, 3) := rfl
theorem at_11_45 : ai_at ai_m11 45 = some (.invokevirtual 85, 3) := rfl
theorem at_11_48 : ai_at ai_m11 48 = some (.ifCond .eq 13, 3) := rfl
theorem at_11_51 : ai_at ai_m11 51 = some (.new 55, 3) := rfl
theorem at_11_61 : ai_at ai_m11 61 = some (.aload_n 0, 1) := rfl
theorem at_11_62 : ai_at ai_m11 62 = some (.getfield 40, 3) := rfl
theorem at_11_65 : ai_at ai_m11 65 = some (.aload_n 0, 1) := rfl
theorem at_11_66 : ai_at ai_m11 66 = some (.getfield 26, 3) := rfl
theorem at_11_69 : ai_at ai_m11 69 = some (.invokevirtual 91, 3) := rfl
theorem at_11_72 : ai_at ai_m11 72 = some (.aload_n 0, 1) := rfl
theorem at_11_73 : ai_at ai_m11 73 = some (.getfield 40, 3) := rfl
theorem at_11_76 : ai_at ai_m11 76 = some (.getfield 81, 3) := rfl
theorem at_11_79 : ai_at ai_m11 79 = some (.getfield 95, 3) := rfl
theorem at_11_82 : ai_at ai_m11 82 = some (.ireturn, 1) := rfl
theorem at_13_20 : ai_at ai_m13 20 = some (.iconst 0, 1) := rfl
theorem at_13_21 : ai_at ai_m13 21 = some (.istore_n 2, 1) := rfl
theorem at_13_22 : ai_at ai_m13 22 = some (.iload_n 2, 1) := rfl
theorem at_13_23 : ai_at ai_m13 23 = some (.iload_n 1, 1) := rfl
theorem at_13_24 : ai_at ai_m13 24 = some (.if_icmp .ge 26, 3) := rfl
theorem at_13_27 : ai_at ai_m13 27 = some (.aload_n 0, 1) := rfl
theorem at_13_28 : ai_at ai_m13 28 = some (.getfield 40, 3) := rfl
theorem at_13_31 : ai_at ai_m13 31 = some (.invokevirtual 100, 3) := rfl
theorem at_13_34 : ai_at ai_m13 34 = some (.ifCond .eq 16, 3) := rfl
theorem at_13_37 : ai_at ai_m13 37 = some (.aload_n 0, 1) := rfl
theorem at_13_38 : ai_at ai_m13 38 = some (.getfield 40, 3) := rfl
theorem at_13_41 : ai_at ai_m13 41 = some (.invokevirtual 103, 3) := rfl
theorem at_13_44 : ai_at ai_m13 44 = some (.iinc 2 1, 3) := rfl
theorem at_13_47 : ai_at ai_m13 47 = some (.goto (-25), 3) := rfl
theorem at_13_50 : ai_at ai_m13 50 = some (.aload_n 0, 1) := rfl
theorem at_13_51 : ai_at ai_m13 51 = some (.getfield 40, 3) := rfl
theorem at_13_54 : ai_at ai_m13 54 = some (.getfield 78, 3) := rfl
theorem at_13_57 : ai_at ai_m13 57 = some (.ifCond .eq 11, 3) := rfl
theorem at_13_60 : ai_at ai_m13 60 = some (.aload_n 0, 1) := rfl
theorem at_13_61 : ai_at ai_m13 61 = some (.getfield 40, 3) := rfl
theorem at_13_64 : ai_at ai_m13 64 = some (.getfield 78, 3) := rfl
theorem at_13_67 : ai_at ai_m13 67 = some (.ireturn, 1) := rfl
theorem at_13_68 : ai_at ai_m13 68 = some (.aload_n 0, 1) := rfl
theorem at_13_69 : ai_at ai_m13 69 = some (.getfield 40, 3) := rfl
theorem at_13_72 : ai_at ai_m13 72 = some (.getfield 81, 3) := rfl
theorem at_13_75 : ai_at ai_m13 75 = some (.getfield 95, 3) := rfl
theorem at_13_78 : ai_at ai_m13 78 = some (.ifCond .le 7, 3) := rfl
theorem at_13_81 : ai_at ai_m13 81 = some (.iconst 0, 1) := rfl
theorem at_13_82 : ai_at ai_m13 82 = some (.goto 4, 3) := rfl
theorem at_13_85 : ai_at ai_m13 85 = some (.iconst 1, 1) := rfl
theorem at_13_86 : ai_at ai_m13 86 = some (.ireturn, 1) := rfl
theorem at_14_0 : ai_at ai_m14 0 = some (.aload_n 0, 1) := rfl
theorem at_14_1 : ai_at ai_m14 1 = some (.getfield 26, 3) := rfl
theorem at_14_4 : ai_at ai_m14 4 = some (.getfield 116, 3) := rfl
theorem at_14_7 : ai_at ai_m14 7 = some (.astore_n 1, 1) := rfl
theorem at_14_8 : ai_at ai_m14 8 = some (.aload_n 0, 1) := rfl
theorem at_14_9 : ai_at ai_m14 9 = some (.getfield 19, 3) := rfl
theorem at_14_12 : ai_at ai_m14 12 = some (.aload_n 0, 1) := rfl
theorem at_14_13 : ai_at ai_m14 13 = some (.getfield 12, 3) := rfl
theorem at_14_16 : ai_at ai_m14 16 = some (.iconst 0, 1) := rfl
theorem at_14_17 : ai_at ai_m14 17 = some (.aload_n 0, 1) := rfl
theorem at_14_18 : ai_at ai_m14 18 = some (.getfield 19, 3) := rfl
theorem at_14_21 : ai_at ai_m14 21 = some (.getfield 68, 3) := rfl
theorem at_14_24 : ai_at ai_m14 24 = some (.aload_n 1, 1) := rfl
theorem at_14_25 : ai_at ai_m14 25 = some (.invokevirtual 120, 3) := rfl
theorem at_14_28 : ai_at ai_m14 28 = some (.ifCond .ne 13, 3) := rfl
theorem at_14_31 : ai_at ai_m14 31 = some (.new 44, 3) := rfl
theorem at_14_41 : ai_at ai_m14 41 = some (.aload_n 0, 1) := rfl
theorem at_14_42 : ai_at ai_m14 42 = some (.getfield 40, 3) := rfl
theorem at_14_45 : ai_at ai_m14 45 = some (.getfield 126, 3) := rfl
theorem at_14_48 : ai_at ai_m14 48 = some (.aload_n 1, 1) := rfl
theorem at_14_49 : ai_at ai_m14 49 = some (.invokevirtual 130, 3) := rfl
theorem at_14_52 : ai_at ai_m14 52 = some (.istore_n 2, 1) := rfl
theorem at_14_53 : ai_at ai_m14 53 = some (.iload_n 2, 1) := rfl
theorem at_14_54 : ai_at ai_m14 54 = some (.iconst (-1), 1) := rfl
theorem at_14_55 : ai_at ai_m14 55 = some (.if_icmp .ne 13, 3) := rfl
theorem at_14_58 : ai_at ai_m14 58 = some (.new 136, 3) := rfl
theorem at_14_68 : ai_at ai_m14 68 = some (.aload_n 0, 1) := rfl
theorem at_14_69 : ai_at ai_m14 69 = some (.getfield 19, 3) := rfl
theorem at_14_72 : ai_at ai_m14 72 = some (.aload_n 1, 1) := rfl
theorem at_14_73 : ai_at ai_m14 73 = some (.invokevirtual 141, 3) := rfl
theorem at_14_76 : ai_at ai_m14 76 = some (.iload_n 2, 1) := rfl
theorem at_14_77 : ai_at ai_m14 77 = some (.ireturn, 1) := rfl
theorem at_15_0 : ai_at ai_m15 0 = some (.aload_n 0, 1) := rfl
theorem at_15_1 : ai_at ai_m15 1 = some (.getfield 19, 3) := rfl
theorem at_15_4 : ai_at ai_m15 4 = some (.aload_n 0, 1) := rfl
theorem at_15_5 : ai_at ai_m15 5 = some (.getfield 12, 3) := rfl
theorem at_15_8 : ai_at ai_m15 8 = some (.aload_n 0, 1) := rfl
theorem at_15_9 : ai_at ai_m15 9 = some (.getfield 26, 3) := rfl
theorem at_15_12 : ai_at ai_m15 12 = some (.invokevirtual 72, 3) := rfl
theorem at_15_15 : ai_at ai_m15 15 = some (.ifCond .ne 13, 3) := rfl
theorem at_15_18 : ai_at ai_m15 18 = some (.new 44, 3) := rfl
theorem at_15_28 : ai_at ai_m15 28 = some (.aload_n 0, 1) := rfl
theorem at_15_29 : ai_at ai_m15 29 = some (.getfield 40, 3) := rfl
theorem at_15_32 : ai_at ai_m15 32 = some (.getfield 145, 3) := rfl
theorem at_15_35 : ai_at ai_m15 35 = some (.aload_n 0, 1) := rfl
theorem at_15_36 : ai_at ai_m15 36 = some (.getfield 26, 3) := rfl
theorem at_15_39 : ai_at ai_m15 39 = some (.getfield 116, 3) := rfl
theorem at_15_42 : ai_at ai_m15 42 = some (.aload_n 0, 1) := rfl
theorem at_15_43 : ai_at ai_m15 43 = some (.getfield 26, 3) := rfl
theorem at_15_46 : ai_at ai_m15 46 = some (.getfield 149, 3) := rfl
theorem at_15_49 : ai_at ai_m15 49 = some (.invokevirtual 152, 3) := rfl
theorem at_15_52 : ai_at ai_m15 52 = some (.ireturn, 1) := rfl
theorem fl_0_12 : ai_fld 0 12 = some (0, 0, false) := by decide +kernel
theorem fl_0_26 : ai_fld 0 26 = some (0, 2, false) := by decide +kernel
theorem fl_0_78 : ai_fld 0 78 = some (5, 10, true) := by decide +kernel
theorem fl_0_116 : ai_fld 0 116 = some (3, 0, true) := by decide +kernel
theorem fl_0_126 : ai_fld 0 126 = some (5, 3, true) := by decide +kernel
theorem fl_0_145 : ai_fld 0 145 = some (5, 4, true) := by decide +kernel
theorem fl_0_149 : ai_fld 0 149 = some (3, 1, true) := by decide +kernel
theorem fl_0_158 : ai_fld 0 158 = some (2, 0, true) := by decide +kernel
theorem mt_0_51 : ai_mth 0 51 = some (0, 79, 1, 1) := by decide +kernel
theorem mt_0_60 : ai_mth 0 60 = some (0, 81, 2, 1) := by decide +kernel
theorem mt_0_72 : ai_mth 0 72 = some (0, 19, 2, 2) := by decide +kernel
theorem mt_0_85 : ai_mth 0 85 = some (0, 55, 0, 6) := by decide +kernel
theorem mt_0_91 : ai_mth 0 91 = some (0, 24, 1, 5) := by decide +kernel
theorem mt_0_100 : ai_mth 0 100 = some (0, 25, 0, 5) := by decide +kernel
theorem mt_0_103 : ai_mth 0 103 = some (0, 26, 0, 5) := by decide +kernel
theorem mt_0_120 : ai_mth 0 120 = some (0, 20, 4, 2) := by decide +kernel
theorem mt_0_130 : ai_mth 0 130 = some (0, 73, 1, 8) := by decide +kernel
theorem mt_0_141 : ai_mth 0 141 = some (0, 21, 1, 2) := by decide +kernel
theorem mt_0_152 : ai_mth 0 152 = some (0, 61, 2, 9) := by decide +kernel
set_option maxHeartbeats 1000000 in
theorem r_rule {k i : Int} (h : cg S P R nn C n Rs Vs sx sc) (hw : wsh Rs) (hk : ax_R k) (hi : ax_R i) : ai_rn L xs (d + 4) 6 [.ref 0, ax_i k, ax_i i] S (fun v S' => S' = S ∧ v = some (ax_i (if 0 ≤ k ∧ k < (Rs.length : Int) then tld (Rs.getD k.toNat ([], [])).1 (Rs.getD k.toNat ([], [])).2 62 i else 0))) := by
  have h0 := h.1
  have he := h.2.1.2.1
  have hp := h.2.1.2.2.1
  refine ai_rn_of (M := ai_m6) rfl (by decide) (Nat.le_of_ble_eq_true rfl) ?_
  refine aw_loc at_6_0 rfl rfl ?_
  refine aw_get at_6_1 rfl fl_0_40 h0 rfl ?_
  refine aw_get at_6_4 rfl fl_0_109 he rfl ?_
  refine aw_loc at_6_7 rfl rfl ?_
  refine aw_loc at_6_8 rfl rfl ?_
  refine aw_pure (st' := ax_i (62) :: _) at_6_9 rfl rfl ?_
  refine aw_cv (a := 12) [ax_i k, ax_i i, ax_i (62)] [] at_6_11 mt_0_112 (Or.inl rfl) rfl rfl (Nat.le_of_ble_eq_true rfl) (by obtain ⟨_, _, h1, -⟩ := hp; exact ⟨_, h1⟩) ((r_ltold (d := d) hp (by decide) hw hk hi ⟨by decide, by decide⟩).mono ?_)
  rintro v S0 ⟨hS, rfl⟩
  have hS2 := hS.symm
  subst hS2
  refine ax_retC at_6_14 rfl ?_ ⟨_, _, rfl, rfl, rfl⟩
  split
  · rename_i hb
    obtain ⟨_, _, -, -, -, -, -, -, -, h8⟩ := hp
    exact tld_in (h8 k.toNat (by omega)) (hw k.toNat (by omega)).1 (hw k.toNat (by omega)).2 ⟨by decide, by decide⟩
  · exact ⟨by decide, by decide⟩
set_option maxHeartbeats 1000000 in
theorem r_equationAt {k i : Int} (h : cg S P R nn C n Rs Vs sx sc) (hw : wsh Vs) (hk : ax_R k) (hi : ax_R i) : ai_rn L xs (d + 4) 7 [.ref 0, ax_i k, ax_i i] S (fun v S' => S' = S ∧ v = some (ax_i (if 0 ≤ k ∧ k < (Vs.length : Int) then tld (Vs.getD k.toNat ([], [])).1 (Vs.getD k.toNat ([], [])).2 61 i else 0))) := by
  have h0 := h.1
  have he := h.2.1.2.1
  have hp := h.2.1.2.2.2.1
  refine ai_rn_of (M := ai_m7) rfl (by decide) (Nat.le_of_ble_eq_true rfl) ?_
  refine aw_loc at_7_0 rfl rfl ?_
  refine aw_get at_7_1 rfl fl_0_40 h0 rfl ?_
  refine aw_get at_7_4 rfl fl_0_81 he rfl ?_
  refine aw_loc at_7_7 rfl rfl ?_
  refine aw_loc at_7_8 rfl rfl ?_
  refine aw_pure (st' := ax_i (61) :: _) at_7_9 rfl rfl ?_
  refine aw_cv (a := 84) [ax_i k, ax_i i, ax_i (61)] [] at_7_11 mt_0_112 (Or.inl rfl) rfl rfl (Nat.le_of_ble_eq_true rfl) (by obtain ⟨_, _, h1, -⟩ := hp; exact ⟨_, h1⟩) ((r_ltold (d := d) hp (by decide) hw hk hi ⟨by decide, by decide⟩).mono ?_)
  rintro v S0 ⟨hS, rfl⟩
  have hS2 := hS.symm
  subst hS2
  refine ax_retC at_7_14 rfl ?_ ⟨_, _, rfl, rfl, rfl⟩
  split
  · rename_i hb
    obtain ⟨_, _, -, -, -, -, -, -, -, h8⟩ := hp
    exact tld_in (h8 k.toNat (by omega)) (hw k.toNat (by omega)).1 (hw k.toNat (by omega)).2 ⟨by decide, by decide⟩
  · exact ⟨by decide, by decide⟩
set_option maxHeartbeats 1000000 in
theorem r_draft {i : Int} (h : cg S P R nn C n Rs Vs sx sc) (hn : n ≤ 60) (hC : ∀ i, 0 ≤ C i ∧ C i < 65536) (hi : ax_R i) : ai_rn L xs (d + 1) 8 [.ref 0, ax_i i] S (fun v S' => S' = S ∧ v = some (ax_i (if 0 ≤ i ∧ i < (n : Int) then C i.toNat else 0))) := by
  have h0 := h.1
  have hd1 := h.2.2.1.1
  have hd2 := h.2.2.1.2
  refine ai_rn_of (M := ai_m8) rfl (by decide) (Nat.le_of_ble_eq_true rfl) ?_
  refine aw_loc at_8_0 rfl rfl ?_
  refine ax_if_lt at_8_1 hi (fun z => ?_) (fun z => ?_)
  · skip
    refine aw_pure (st' := ax_i (0) :: _) at_8_27 rfl rfl ?_
    exact ax_retC at_8_28 rfl ⟨by decide, by decide⟩ ⟨_, _, rfl, rfl, by rw [if_neg (by omega)]⟩
  · skip
    refine aw_loc at_8_4 rfl rfl ?_
    refine aw_loc at_8_5 rfl rfl ?_
    refine aw_get at_8_6 rfl fl_0_19 h0 rfl ?_
    refine aw_get at_8_9 rfl fl_0_68 hd1 rfl ?_
    refine ax_icmp_ge at_8_12 hi ⟨by omega, by omega⟩ (fun z2 => ?_) (fun z2 => ?_)
    · skip
      refine aw_pure (st' := ax_i (0) :: _) at_8_27 rfl rfl ?_
      exact ax_retC at_8_28 rfl ⟨by decide, by decide⟩ ⟨_, _, rfl, rfl, by rw [if_neg (by omega)]⟩
    · skip
      refine aw_loc at_8_15 rfl rfl ?_
      refine aw_get at_8_16 rfl fl_0_19 h0 rfl ?_
      refine aw_get at_8_19 rfl fl_0_158 hd1 rfl ?_
      refine aw_loc at_8_22 rfl rfl ?_
      refine ax_cld at_8_23 rfl hd2 (k := i.toNat) (by omega) (by omega) (by decide) ?_
      refine aw_goto at_8_24 ?_
      exact ax_retC at_8_28 rfl (hC _) ⟨_, _, rfl, rfl, by rw [if_pos ⟨by omega, by omega⟩]⟩
def q_dec (S : ai_S) (P R : Nat → Int) (nn c p : Int) (o : ai_O) : Prop := ((c < 97 ∨ 104 < c ∨ p < 0 ∨ 2 < p) ∧ o = (.inr "java/lang/IllegalArgumentException", ai_th S)) ∨ (¬ (c < 97 ∨ 104 < c ∨ p < 0 ∨ 2 < p) ∧ 0 < at256 R c ∧ o = (.inr "java/lang/IllegalStateException", ai_th S)) ∨ (¬ (c < 97 ∨ 104 < c ∨ p < 0 ∨ 2 < p) ∧ ¬ 0 < at256 R c ∧ o = (.inl none, sy_put S (ax_up P c.toNat p) (ax_up R c.toNat (nn + 1)) (nn + 1)))
set_option maxHeartbeats 1000000 in
theorem r_declare {c p : Int} (h : cg S P R nn C n Rs Vs sx sc) (hk : syk P R) (hc : 0 ≤ c ∧ c < 65536) (hp : ax_R p) : ∃ o, ai_run L xs (d + 3) 10 [.ref 0, ax_i c, ax_i p] S o ∧ q_dec S P R nn c p o := by
  have h0 := h.1
  have hs := h.2.1.1
  refine ai_run_of (M := ai_m10) rfl (by decide) (Nat.le_of_ble_eq_true rfl) ?_
  have k21 : (c < 97 ∨ 104 < c ∨ p < 0 ∨ 2 < p) → ai_aw L xs (d + 2) ai_m10 (q_dec S P R nn c p) (21, ai_in ai_m10 [.ref 0, ax_i c, ax_i p], [], S) := fun hb => aw_throw at_10_21 rfl (Nat.le_of_ble_eq_true rfl) (Or.inl ⟨hb, rfl⟩)
  refine aw_loc at_10_0 rfl rfl ?_
  refine aw_pure (st' := ax_i (97) :: _) at_10_1 rfl rfl ?_
  refine ax_icmp_lt at_10_3 ⟨by omega, by omega⟩ ⟨by omega, by omega⟩ (fun z => k21 (by omega)) (fun z1 => ?_)
  refine aw_loc at_10_6 rfl rfl ?_
  refine aw_pure (st' := ax_i (104) :: _) at_10_7 rfl rfl ?_
  refine ax_icmp_gt at_10_9 ⟨by omega, by omega⟩ ⟨by omega, by omega⟩ (fun z => k21 (by omega)) (fun z2 => ?_)
  refine aw_loc at_10_12 rfl rfl ?_
  refine ax_if_lt at_10_13 hp (fun z => k21 (by omega)) (fun z3 => ?_)
  refine aw_loc at_10_16 rfl rfl ?_
  refine aw_pure (st' := ax_i (2) :: _) at_10_17 rfl rfl ?_
  refine ax_icmp_le at_10_18 hp ⟨by omega, by omega⟩ (fun z4 => ?_) (fun z => k21 (by omega))
  show ai_aw L xs (d + 2) ai_m10 _ (31, _, _, _)
  refine aw_loc at_10_31 rfl rfl ?_
  refine aw_get at_10_32 rfl fl_0_12 h0 rfl ?_
  refine aw_loc at_10_35 rfl rfl ?_
  refine aw_cv (a := 1) [ax_i c] [] at_10_36 mt_0_51 (Or.inl rfl) rfl rfl (Nat.le_of_ble_eq_true rfl) ⟨_, hs.1⟩ ((r_has (d := d) hs hc hk.2.2).mono ?_)
  rintro v S0 ⟨hS, r, rfl, hr⟩
  have hS2 := hS.symm
  subst hS2
  have hrl := hr.le
  refine ax_if_eq at_10_39 ⟨by omega, by omega⟩ (fun z => ?_) (fun z => ?_)
  · skip
    have hno : ¬ 0 < at256 R c := by rcases hr with ⟨-, h9⟩ | ⟨h9, -⟩; exact h9; omega
    refine aw_loc at_10_52 rfl rfl ?_
    refine aw_get at_10_53 rfl fl_0_12 h0 rfl ?_
    refine aw_loc at_10_56 rfl rfl ?_
    refine aw_loc at_10_57 rfl rfl ?_
    refine aw_cv (a := 1) [ax_i c, ax_i p] [] at_10_58 mt_0_60 (Or.inl rfl) rfl rfl (Nat.le_of_ble_eq_true rfl) ⟨_, hs.1⟩ ((r_enter (d := d + 1) hs ⟨by omega, by omega⟩).mono ?_)
    rintro v S0 ⟨rfl, rfl⟩
    exact aw_vret at_10_61 rfl (Or.inr (Or.inr ⟨by omega, hno, rfl⟩))
  · skip
    have hye : 0 < at256 R c := by rcases hr with ⟨h9, -⟩ | ⟨-, h9⟩; omega; exact h9
    exact aw_throw at_10_42 rfl (Nat.le_of_ble_eq_true rfl) (Or.inr (Or.inl ⟨by omega, hye, rfl⟩))
def q_equ (S : ai_S) (P R : Nat → Int) (nn : Int) (C : Nat → Int) (n : Nat) (Rs Vs : rls) (sx sc : Int) (P0 : Nat → Int) (o : ai_O) : Prop := ((¬ ∃ l r, gp (Ar P) P0 C n l r) ∧ ∃ S1, o = (.inr "java/lang/IllegalArgumentException", ai_th S1) ∧ kpp S S1 ∧ cg S1 P R nn C n Rs Vs sx sc) ∨ (∃ l r, gp (Ar P) P0 C n l r ∧ (sx ≠ 0 ∨ 48 ≤ Vs.length) ∧ ∃ S1, o = (.inr "java/lang/IllegalStateException", ai_th S1) ∧ kpp S S1 ∧ cg S1 P R nn C n Rs Vs sx sc) ∨ (∃ l r, gp (Ar P) P0 C n l r ∧ (sx = 0 ∧ ¬ 48 ≤ Vs.length) ∧ ∃ S1, o = (.inl (some (ax_i ((Vs ++ [rnp l r]).length : Nat))), S1) ∧ kpp S S1 ∧ cg S1 P R nn C n Rs (Vs ++ [rnp l r]) sx sc)
set_option maxHeartbeats 4000000 in
theorem r_equation (h : cg S P R nn C n Rs Vs sx sc) (hlk : lnk P R D C n F) (hx : 0 ≤ sx ∧ sx ≤ 3) : ∃ o, ai_run L xs (d + 6) 11 [.ref 0] S o ∧ q_equ S P R nn C n Rs Vs sx sc (F 0) o := by
  have h0 := h.1
  have hs := h.2.1.1
  have hd1 := h.2.2.1.1
  have hk := hlk.1
  have hC := hlk.2.2.2.2.2.2.1
  have hn := hlk.2.2.2.2.2.1
  obtain ⟨x0, y0, hp0⟩ := h.2.2.2
  refine ai_run_of (M := ai_m11) rfl (by decide) (Nat.le_of_ble_eq_true rfl) ?_
  refine aw_loc at_11_0 rfl rfl ?_
  refine aw_get at_11_1 rfl fl_0_19 h0 rfl ?_
  refine aw_loc at_11_4 rfl rfl ?_
  refine aw_get at_11_5 rfl fl_0_12 h0 rfl ?_
  refine aw_loc at_11_8 rfl rfl ?_
  refine aw_get at_11_9 rfl fl_0_26 h0 rfl ?_
  refine aw_cv (a := 4) [.ref 1, .ref 6] [] at_11_12 mt_0_72 (Or.inl rfl) rfl rfl (Nat.le_of_ble_eq_true rfl) ⟨_, hd1⟩ ((r_readPair (d := d) hs hk.1 hk.2.2 h.2.2.1 hC hn hp0 (by decide)).mono ?_)
  rintro v S1 ⟨m, z, l, r, hm, rfl, hz, hq, hlr⟩
  have f1 := fr_pq hq
  have hp1 : pw S1 6 l r := pq_pw hq hp0
  have c1 : cg S1 P R nn C n Rs Vs sx sc := cg_typed h f1 ⟨_, _, hp1⟩
  have k1 : kpp S S1 := kpp_fr f1 (by omega)
  rw [gp_C hlk hm] at hz hlr
  have hzl := hz.le
  refine ax_if_ne at_11_15 ⟨by omega, by omega⟩ (fun zz => ?_) (fun zz => ?_)
  · skip
    have hg := (show gp (Ar P) (F 0) C n (sl C 0 m) (sl C (m + 1) (n - (m + 1))) by rcases hz with ⟨h9, -⟩ | ⟨-, h9⟩; omega; exact h9)
    obtain ⟨e1, e2⟩ := hlr hg
    rw [← e1, ← e2] at hg
    clear e1 e2 hlr hz
    have h0 := c1.1
    have he := c1.2.1.2.1
    have hV := c1.2.1.2.2.2.1
    refine aw_loc at_11_28 rfl rfl ?_
    refine aw_get at_11_29 rfl fl_0_40 h0 rfl ?_
    refine aw_get at_11_32 rfl fl_0_78 he rfl ?_
    refine ax_if_ne at_11_35 ⟨by omega, by omega⟩ (fun z1 => ?_) (fun z1 => ?_)
    · skip
      exact aw_throw at_11_51 rfl (Nat.le_of_ble_eq_true rfl) (Or.inr (Or.inl ⟨l, r, hg, Or.inl z1, S1, rfl, k1, c1⟩))
    · skip
      refine aw_loc at_11_38 rfl rfl ?_
      refine aw_get at_11_39 rfl fl_0_40 h0 rfl ?_
      refine aw_get at_11_42 rfl fl_0_81 he rfl ?_
      refine aw_cv (a := 84) [] [] at_11_45 mt_0_85 (Or.inl rfl) rfl rfl (Nat.le_of_ble_eq_true rfl) (by obtain ⟨_, _, h1, -⟩ := hV; exact ⟨_, h1⟩) ((r_full (d := d + 4) hV (by decide)).mono ?_)
      rintro v S0 ⟨hS, q, rfl, hq2⟩
      have hS2 := hS.symm
      subst hS2
      have hql := hq2.le
      refine ax_if_eq at_11_48 ⟨by omega, by omega⟩ (fun z2 => ?_) (fun z2 => ?_)
      · skip
        have hl : ¬ 48 ≤ Vs.length := by rcases hq2 with ⟨-, h9⟩ | ⟨h9, -⟩; exact h9; omega
        obtain ⟨mm, -, -, -, -, ⟨o1, o2, o3⟩, ⟨o4, o5, o6⟩⟩ := id hg
        refine aw_loc at_11_61 rfl rfl ?_
        refine aw_get at_11_62 rfl fl_0_40 h0 rfl ?_
        refine aw_loc at_11_65 rfl rfl ?_
        refine aw_get at_11_66 rfl fl_0_26 h0 rfl ?_
        refine aw_cv (a := 11) [.ref 6] [] at_11_69 mt_0_91 (Or.inl rfl) rfl rfl (Nat.le_of_ble_eq_true rfl) ⟨_, he⟩ ((r_accept (d := d + 1) (P' := F 0) c1.2.1 hp1 o3 o6 (al_kn (by decide) o1) (al_kn (by decide) o4) (by omega) ⟨by decide, by decide⟩).mono ?_)
        rintro v S2 ⟨rfl, f2, g2, hp2⟩
        have c2 : cg S2 P R nn C n Rs (Vs ++ [rnp l r]) sx sc := ⟨(f2.obj (by rintro (h | h | h | h) <;> omega)).trans c1.1, g2, ⟨(f2.obj (by rintro (h | h | h | h) <;> omega)).trans c1.2.2.1.1, (f2.arr (by rintro (h | h | h | h) <;> omega)).trans c1.2.2.1.2⟩, _, _, hp2⟩
        have k2 : kpp S1 S2 := kpp_frp f2 (fun a ha => by rintro (h | h | h | h) <;> omega)
        have h0 := c2.1
        have he := c2.2.1.2.1
        obtain ⟨_, _, hw, -⟩ := id c2.2.1.2.2.2.1
        refine aw_loc at_11_72 rfl rfl ?_
        refine aw_get at_11_73 rfl fl_0_40 h0 rfl ?_
        refine aw_get at_11_76 rfl fl_0_81 he rfl ?_
        refine aw_get at_11_79 rfl fl_0_95 hw rfl ?_
        exact ax_ret at_11_82 rfl (Or.inr (Or.inr ⟨l, r, hg, ⟨z1, hl⟩, S2, rfl, k1.tr k2, c2⟩))
      · skip
        have hl : 48 ≤ Vs.length := by rcases hq2 with ⟨h9, -⟩ | ⟨-, h9⟩; omega; exact h9
        exact aw_throw at_11_51 rfl (Nat.le_of_ble_eq_true rfl) (Or.inr (Or.inl ⟨l, r, hg, Or.inr hl, _, rfl, k1, c1⟩))
  · skip
    have hno := gp_no hm (by rcases hz with ⟨-, h9⟩ | ⟨h9, -⟩; exact h9; omega)
    exact aw_throw at_11_18 rfl (Nat.le_of_ble_eq_true rfl) (Or.inl ⟨hno, S1, rfl, k1, c1⟩)
def cmz (A : Int → Nat) (R : Int → Int) (w1 w2 : List Int) (r : Int) : Prop := (w1 = w2 ∧ r = 0) ∨ (w1 ≠ w2 ∧ pgt A R w1 w2 ∧ r = 1) ∨ (w1 ≠ w2 ∧ ¬ pgt A R w1 w2 ∧ pgt A R w2 w1 ∧ r = -1) ∨ (w1 ≠ w2 ∧ ¬ pgt A R w1 w2 ∧ ¬ pgt A R w2 w1 ∧ r = 2)
def q_cmp (S : ai_S) (P R : Nat → Int) (nn : Int) (C : Nat → Int) (n : Nat) (Rs Vs : rls) (sx sc : Int) (P0 : Nat → Int) (o : ai_O) : Prop := ((¬ ∃ l r, gp (Ar P) P0 C n l r) ∧ ∃ S1, o = (.inr "java/lang/IllegalArgumentException", ai_th S1) ∧ kpp S S1 ∧ cg S1 P R nn C n Rs Vs sx sc) ∨ (∃ l r, gp (Ar P) P0 C n l r ∧ ∃ z, cmz (Ar P) (at256 R) l r z ∧ ∃ S1, o = (.inl (some (ax_i z)), S1) ∧ kpp S S1 ∧ cg S1 P R nn C n Rs Vs sx sc)
set_option maxHeartbeats 4000000 in
theorem r_compare (h : cg S P R nn C n Rs Vs sx sc) (hlk : lnk P R D C n F) : ∃ o, ai_run L xs (d + 7) 15 [.ref 0] S o ∧ q_cmp S P R nn C n Rs Vs sx sc (F 0) o := by
  have h0 := h.1
  have hs := h.2.1.1
  have hd1 := h.2.2.1.1
  have hk := hlk.1
  have hC := hlk.2.2.2.2.2.2.1
  have hn := hlk.2.2.2.2.2.1
  obtain ⟨x0, y0, hp0⟩ := h.2.2.2
  refine ai_run_of (M := ai_m15) rfl (by decide) (Nat.le_of_ble_eq_true rfl) ?_
  refine aw_loc at_15_0 rfl rfl ?_
  refine aw_get at_15_1 rfl fl_0_19 h0 rfl ?_
  refine aw_loc at_15_4 rfl rfl ?_
  refine aw_get at_15_5 rfl fl_0_12 h0 rfl ?_
  refine aw_loc at_15_8 rfl rfl ?_
  refine aw_get at_15_9 rfl fl_0_26 h0 rfl ?_
  refine aw_cv (a := 4) [.ref 1, .ref 6] [] at_15_12 mt_0_72 (Or.inl rfl) rfl rfl (Nat.le_of_ble_eq_true rfl) ⟨_, hd1⟩ ((r_readPair (d := d + 1) hs hk.1 hk.2.2 h.2.2.1 hC hn hp0 (by decide)).mono ?_)
  rintro v S1 ⟨m, z, l, r, hm, rfl, hz, hq, hlr⟩
  have f1 := fr_pq hq
  have hp1 : pw S1 6 l r := pq_pw hq hp0
  have c1 : cg S1 P R nn C n Rs Vs sx sc := cg_typed h f1 ⟨_, _, hp1⟩
  have k1 : kpp S S1 := kpp_fr f1 (by omega)
  rw [gp_C hlk hm] at hz hlr
  have hzl := hz.le
  refine ax_if_ne at_15_15 ⟨by omega, by omega⟩ (fun zz => ?_) (fun zz => ?_)
  · skip
    have hg := (show gp (Ar P) (F 0) C n (sl C 0 m) (sl C (m + 1) (n - (m + 1))) by rcases hz with ⟨h9, -⟩ | ⟨-, h9⟩; omega; exact h9)
    obtain ⟨e1, e2⟩ := hlr hg
    rw [← e1, ← e2] at hg
    clear e1 e2 hlr hz
    have h0 := c1.1
    have he := c1.2.1.2.1
    have hpo := c1.2.1.2.2.2.2.2.2.2.2.1
    obtain ⟨hp6, tw7, tw9⟩ := pw_tw hp1
    obtain ⟨mm, -, -, -, -, ⟨o1, o2, o3⟩, ⟨o4, o5, o6⟩⟩ := id hg
    refine aw_loc at_15_28 rfl rfl ?_
    refine aw_get at_15_29 rfl fl_0_40 h0 rfl ?_
    refine aw_get at_15_32 rfl fl_0_145 he rfl ?_
    refine aw_loc at_15_35 rfl rfl ?_
    refine aw_get at_15_36 rfl fl_0_26 h0 rfl ?_
    refine aw_get at_15_39 rfl fl_0_116 hp6 rfl ?_
    refine aw_loc at_15_42 rfl rfl ?_
    refine aw_get at_15_43 rfl fl_0_26 h0 rfl ?_
    refine aw_get at_15_46 rfl fl_0_149 hp6 rfl ?_
    refine aw_cv (a := 417) [.ref 7, .ref 9] [] at_15_49 mt_0_152 (Or.inl rfl) rfl rfl (Nat.le_of_ble_eq_true rfl) ⟨_, hpo.1⟩ ((r_between (d := d) (a := 7) (b := 9) c1.2.1.1 hk.1 hk.2.2 hpo tw7 tw9 o3 o6 o2 o5 (by omega) (by omega)).mono ?_)
    rintro v S2 ⟨f2, g2, y, rfl, hy⟩
    exact ax_ret at_15_52 rfl (Or.inr ⟨l, r, hg, y, hy, S2, rfl, k1.tr (kpp_fr f2 (by omega)), cg_pog c1 f2 g2⟩)
  · skip
    have hno := gp_no hm (by rcases hz with ⟨-, h9⟩ | ⟨h9, -⟩; exact h9; omega)
    exact aw_throw at_15_18 rfl (Nat.le_of_ble_eq_true rfl) (Or.inl ⟨hno, S1, rfl, k1, c1⟩)
def q_nor (S : ai_S) (P R : Nat → Int) (nn : Int) (C : Nat → Int) (n : Nat) (Rs Vs : rls) (sx sc : Int) (P0 : Nat → Int) (o : ai_O) : Prop := (¬ okt (Ar P) P0 (sl C 0 n) ∧ ∃ S1, o = (.inr "java/lang/IllegalArgumentException", ai_th S1) ∧ kpp S S1 ∧ cg S1 P R nn C n Rs Vs sx sc) ∨ (okt (Ar P) P0 (sl C 0 n) ∧ nf (Ar P) Rs 40 (sl C 0 n) = none ∧ ∃ S1, o = (.inr "java/lang/UnsupportedOperationException", ai_th S1) ∧ kpp S S1 ∧ cg S1 P R nn C n Rs Vs sx sc) ∨ (okt (Ar P) P0 (sl C 0 n) ∧ ∃ q, nf (Ar P) Rs 40 (sl C 0 n) = some q ∧ q.1.length ≤ 24 ∧ ∃ S1 C', o = (.inl (some (ax_i (q.2 : Nat))), S1) ∧ kpp S S1 ∧ cg S1 P R nn C' q.1.length Rs Vs sx sc ∧ (∀ i, 0 ≤ C' i ∧ C' i < 65536) ∧ ∀ i, i < q.1.length → C' i = q.1.getD i 0)
set_option maxHeartbeats 4000000 in
theorem r_normalize (h : cg S P R nn C n Rs Vs sx sc) (hlk : lnk P R D C n F) (hR : ∀ q, q ∈ Rs → okr (Ar P) (F 0) q) : ∃ o, ai_run L xs (d + 5) 14 [.ref 0] S o ∧ q_nor S P R nn C n Rs Vs sx sc (F 0) o := by
  have h0 := h.1
  have hs := h.2.1.1
  have hd1 := h.2.2.1.1
  have hk := hlk.1
  have hC := hlk.2.2.2.2.2.2.1
  have hn := hlk.2.2.2.2.2.1
  obtain ⟨x0, y0, hp0⟩ := h.2.2.2
  obtain ⟨hp6, ⟨T1, n1, t7, w7⟩, tw9⟩ := pw_tw hp0
  refine ai_run_of (M := ai_m14) rfl (by decide) (Nat.le_of_ble_eq_true rfl) ?_
  refine aw_loc at_14_0 rfl rfl ?_
  refine aw_get at_14_1 rfl fl_0_26 h0 rfl ?_
  refine aw_get at_14_4 rfl fl_0_116 hp6 rfl ?_
  refine aw_loc at_14_7 rfl rfl ?_
  refine aw_loc at_14_8 rfl rfl ?_
  refine aw_get at_14_9 rfl fl_0_19 h0 rfl ?_
  refine aw_loc at_14_12 rfl rfl ?_
  refine aw_get at_14_13 rfl fl_0_12 h0 rfl ?_
  refine aw_pure (st' := ax_i (0) :: _) at_14_16 rfl rfl ?_
  refine aw_loc at_14_17 rfl rfl ?_
  refine aw_get at_14_18 rfl fl_0_19 h0 rfl ?_
  refine aw_get at_14_21 rfl fl_0_68 hd1 rfl ?_
  refine aw_loc at_14_24 rfl rfl ?_
  refine aw_cv (a := 4) [.ref 1, ax_i ((0 : Nat) : Int), ax_i (n : Nat), .ref 7] [] at_14_25 mt_0_120 (Or.inl rfl) rfl rfl (Nat.le_of_ble_eq_true rfl) ⟨_, hd1⟩ ((r_read (d := d) (fr := 0) (to := n) (a := 7) hs hk.1 hk.2.2 h.2.2.1 hC (by decide) hn (by omega) t7 w7.2.2).mono ?_)
  rintro v S1 ⟨T2, m2, w2, z, hS1, hw2, rfl, hz, hlr⟩
  have f1 : fr 7 9 S S1 := by rw [hS1]; exact fr_tm
  have l8 : 8 < S.1 := (ai_arr_inv t7.2).1
  have t71 : tw S1 7 w2 := by rw [hS1]; exact tw_put (a := 7) l8 hw2
  have hp1 : pw S1 6 w2 y0 := tw_pw ((f1.obj (by omega)).trans hp6) t71 (f1.tw tw9 (by omega))
  have c1 : cg S1 P R nn C n Rs Vs sx sc := cg_typed h (f1.mn (by omega) (by omega)) ⟨_, _, hp1⟩
  have k1 : kpp S S1 := kpp_fr f1 (by omega)
  have hv : vt (kC R) (at256 P) (fun i => C (0 + i)) (n - 0) ↔ okt (Ar P) (F 0) (sl C 0 n) := by rw [vt_C hlk (fun i => (hC _).1), sl_sh]; exact Iff.rfl
  rw [hv] at hz hlr
  have hzl := hz.le
  clear hS1
  refine ax_if_ne at_14_28 ⟨by omega, by omega⟩ (fun zz => ?_) (fun zz => ?_)
  · skip
    have hg : okt (Ar P) (F 0) (sl C 0 n) := by rcases hz with ⟨h9, -⟩ | ⟨-, h9⟩; omega; exact h9
    have ew : w2 = sl C 0 n := hlr hg
    rw [ew] at t71
    clear ew hlr hz
    have h0 := c1.1
    have he := c1.2.1.2.1
    have hd1 := c1.2.2.1.1
    obtain ⟨E, B, pl, hrw⟩ := c1.2.1.2.2.2.2.2.1.2.2
    refine aw_loc at_14_41 rfl rfl ?_
    refine aw_get at_14_42 rfl fl_0_40 h0 rfl ?_
    refine aw_get at_14_45 rfl fl_0_126 he rfl ?_
    refine aw_loc at_14_48 rfl rfl ?_
    refine aw_cv (a := 412) [.ref 7] [] at_14_49 mt_0_130 (Or.inl rfl) rfl rfl (Nat.le_of_ble_eq_true rfl) ⟨_, hrw.1⟩ ((r_norm (d := d) (a := 7) (N := 1) c1.2.1.1 hk.1 hk.2.1 (by omega) c1.2.1.2.2.1 (okr_rlk hR) hrw t71 hg.2.1).mono ?_)
    rintro v S2 ⟨f2, r2, y, rfl, hy⟩
    have t72 : ∃ w, tw S2 7 w := by rcases hy with ⟨-, -, h9⟩ | ⟨q, -, -, h9⟩; exact h9; exact ⟨_, h9⟩
    have c2 := cg_rw c1 f2 r2 t72
    have k2 : kpp S S2 := k1.tr (kpp_frp f2 (fun a ha => by unfold rgR; omega))
    have hyb : -1 ≤ y ∧ y ≤ 40 := by rcases hy with ⟨-, h9, -⟩ | ⟨q, h8, h9, -⟩; omega; have := nf_le hk.2.1 40 _ h8; omega
    refine aw_loc at_14_52 rfl rfl ?_
    refine aw_loc at_14_53 rfl rfl ?_
    refine aw_pure (st' := ax_i (-1) :: _) at_14_54 rfl rfl ?_
    refine ax_icmp_ne at_14_55 ⟨by omega, by omega⟩ ⟨by omega, by omega⟩ (fun z3 => ?_) (fun z3 => ?_)
    · skip
      obtain ⟨q, hq1, hq2, ht3⟩ : ∃ q, nf (Ar P) Rs 40 (sl C 0 n) = some q ∧ y = (q.2 : Int) ∧ tw S2 7 q.1 := by rcases hy with ⟨-, h9, -⟩ | h9; omega; exact h9
      have hkn := nf_kn (x := q.1) (m := q.2) hk.2.1 hR hg.2.1 hg.1 hq1
      obtain ⟨T3, n3, t73, w73⟩ := ht3
      have en3 : n3 = q.1.length := by have := w73.1; have := hkn.2.2; omega
      have h0 := c2.1
      have hd1 := c2.2.2.1.1
      refine aw_loc at_14_68 rfl rfl ?_
      refine aw_get at_14_69 rfl fl_0_19 h0 rfl ?_
      refine aw_loc at_14_72 rfl rfl ?_
      refine aw_cv (a := 4) [.ref 7] [] at_14_73 mt_0_141 (Or.inl rfl) rfl rfl (Nat.le_of_ble_eq_true rfl) ⟨_, hd1⟩ ((r_become (d := d + 3) (a := 7) c2.2.2.1 t73 w73.2.2 (by have := hkn.2.2; omega) (by decide)).mono ?_)
      rintro v S3 ⟨rfl, hS3⟩
      have c3 : cg S3 P R nn (ow C 0 T3 q.1.length) q.1.length Rs Vs sx sc := by rw [hS3, en3]; exact cg_dv c2
      have k3 : kpp S2 S3 := by rw [hS3]; exact kpp_fr fr_dv (by omega)
      refine aw_loc at_14_76 rfl rfl ?_
      rw [hq2]
      refine ax_ret at_14_77 rfl (Or.inr (Or.inr ⟨hg, q, hq1, hkn.2.2, S3, ow C 0 T3 q.1.length, rfl, k2.tr k3, c3, fun i => ?_, fun i hi => ?_⟩))
      · unfold ow
        split
        · exact w73.2.2 _
        · exact hC i
      · unfold ow
        rw [if_pos ⟨by omega, by omega⟩]
        exact w73.2.1 i hi (by have := hkn.2.2; omega)
    · skip
      have hno : nf (Ar P) Rs 40 (sl C 0 n) = none := by rcases hy with ⟨h9, -, -⟩ | ⟨q, -, h9, -⟩; exact h9; omega
      exact aw_throw at_14_58 rfl (Nat.le_of_ble_eq_true rfl) (Or.inr (Or.inl ⟨hg, hno, S2, rfl, k2, c2⟩))
  · skip
    have hno : ¬ okt (Ar P) (F 0) (sl C 0 n) := by rcases hz with ⟨-, h9⟩ | ⟨h9, -⟩; exact h9; omega
    exact aw_throw at_14_31 rfl (Nat.le_of_ble_eq_true rfl) (Or.inl ⟨hno, S1, rfl, k1, c1⟩)
/-- so many steps, as far as they go -/
noncomputable def cst (A : Int → Nat) (R : Int → Int) : Nat → rls → rls → Int → Int → rls × rls × Int × Int
  | 0, Rs, Vs, sx, sc => (Rs, Vs, sx, sc)
  | m + 1, Rs, Vs, sx, sc => if sx = 0 ∧ 0 < Vs.length then cst A R m (est A R Rs Vs (bst (wsz Vs) (Vs.length - 1))).1 (est A R Rs Vs (bst (wsz Vs) (Vs.length - 1))).2.1 (est A R Rs Vs (bst (wsz Vs) (Vs.length - 1))).2.2 (sc + 1) else (Rs, Vs, sx, sc)
def finz (Vs : rls) (sx : Int) : Int := if sx = 0 then (if 0 < Vs.length then 0 else 1) else sx
theorem cst_no {A : Int → Nat} {R : Int → Int} {m : Nat} {sx sc : Int} (h : ¬ (sx = 0 ∧ 0 < Vs.length)) : cst A R m Rs Vs sx sc = (Rs, Vs, sx, sc) := by
  cases m with
  | zero => rfl
  | succ m => exact if_neg h
def q_com (S : ai_S) (P R : Nat → Int) (nn : Int) (C : Nat → Int) (n : Nat) (k : Int) (x : rls × rls × Int × Int) (o : ai_O) : Prop := ((k < 0 ∨ 20 < k) ∧ o = (.inr "java/lang/IllegalArgumentException", ai_th S)) ∨ (¬ (k < 0 ∨ 20 < k) ∧ ∃ S1, o = (.inl (some (ax_i (finz x.2.1 x.2.2.1))), S1) ∧ kpp S S1 ∧ cg S1 P R nn C n x.1 x.2.1 x.2.2.1 x.2.2.2 ∧ 0 ≤ x.2.2.1 ∧ x.2.2.1 ≤ 3)
set_option maxHeartbeats 4000000 in
theorem r_complete1 {k : Int} {P0 : Nat → Int} {x : rls × rls × Int × Int} (hk : syk P R) (hk20 : 0 ≤ k ∧ k ≤ 20) : ∀ (m j : Nat) (S1 : ai_S) (Rs1 Vs1 : rls) (sx1 sc1 : Int), (j : Int) + m = k → kpp S S1 → cg S1 P R nn C n Rs1 Vs1 sx1 sc1 → (∀ q, q ∈ Rs1 → okr (Ar P) P0 q) → (∀ q, q ∈ Vs1 → okv (Ar P) P0 q) → 0 ≤ sx1 ∧ sx1 ≤ 3 → cst (Ar P) (at256 R) m Rs1 Vs1 sx1 sc1 = x → ai_aw L xs (d + 7) ai_m13 (q_com S P R nn C n k x) (22, [some (.ref 0), some (ax_i k), some (ax_i (j : Nat))], [], S1) := by
  have kf : ∀ (S1 : ai_S) (Rs1 Vs1 : rls) (sx1 sc1 : Int) (j : Nat), x = (Rs1, Vs1, sx1, sc1) → kpp S S1 → cg S1 P R nn C n Rs1 Vs1 sx1 sc1 → 0 ≤ sx1 ∧ sx1 ≤ 3 → ai_aw L xs (d + 7) ai_m13 (q_com S P R nn C n k x) (50, [some (.ref 0), some (ax_i k), some (ax_i (j : Nat))], [], S1) := by
    intro S1 Rs1 Vs1 sx1 sc1 j hx k1 c1 hb
    subst hx
    have h0 := c1.1
    have he := c1.2.1.2.1
    obtain ⟨_, _, hw, -, -, -, -, -, hl48, -⟩ := id c1.2.1.2.2.2.1
    refine aw_loc at_13_50 rfl rfl ?_
    refine aw_get at_13_51 rfl fl_0_40 h0 rfl ?_
    refine aw_get at_13_54 rfl fl_0_78 he rfl ?_
    refine ax_if_eq at_13_57 ⟨by omega, by omega⟩ (fun z => ?_) (fun z => ?_)
    · skip
      refine aw_loc at_13_68 rfl rfl ?_
      refine aw_get at_13_69 rfl fl_0_40 h0 rfl ?_
      refine aw_get at_13_72 rfl fl_0_81 he rfl ?_
      refine aw_get at_13_75 rfl fl_0_95 hw rfl ?_
      refine ax_if_le at_13_78 ⟨by omega, by omega⟩ (fun z2 => ?_) (fun z2 => ?_)
      · skip
        refine aw_pure (st' := ax_i (1) :: _) at_13_85 rfl rfl ?_
        exact ax_ret at_13_86 rfl (Or.inr ⟨by omega, S1, by rw [show finz Vs1 sx1 = 1 by unfold finz; rw [if_pos z, if_neg (by omega)]], k1, c1, hb⟩)
      · skip
        refine aw_pure (st' := ax_i (0) :: _) at_13_81 rfl rfl ?_
        refine aw_goto at_13_82 ?_
        exact ax_ret at_13_86 rfl (Or.inr ⟨by omega, S1, by rw [show finz Vs1 sx1 = 0 by unfold finz; rw [if_pos z, if_pos (by omega)]], k1, c1, hb⟩)
    · skip
      refine aw_loc at_13_60 rfl rfl ?_
      refine aw_get at_13_61 rfl fl_0_40 h0 rfl ?_
      refine aw_get at_13_64 rfl fl_0_78 he rfl ?_
      exact ax_ret at_13_67 rfl (Or.inr ⟨by omega, S1, by rw [show finz Vs1 sx1 = sx1 by unfold finz; rw [if_neg z]], k1, c1, hb⟩)
  intro m
  induction m with
  | zero =>
    intro j S1 Rs1 Vs1 sx1 sc1 hj k1 c1 hR hV hb hx
    refine aw_loc at_13_22 rfl rfl ?_
    refine aw_loc at_13_23 rfl rfl ?_
    refine ax_icmp_ge at_13_24 ⟨by omega, by omega⟩ ⟨by omega, by omega⟩ (fun z => ?_) (fun z => absurd z (by omega))
    exact kf S1 Rs1 Vs1 sx1 sc1 j hx.symm k1 c1 hb
  | succ m ih =>
    intro j S1 Rs1 Vs1 sx1 sc1 hj k1 c1 hR hV hb hx
    have h0 := c1.1
    have he := c1.2.1.2.1
    refine aw_loc at_13_22 rfl rfl ?_
    refine aw_loc at_13_23 rfl rfl ?_
    refine ax_icmp_ge at_13_24 ⟨by omega, by omega⟩ ⟨by omega, by omega⟩ (fun z => absurd z (by omega)) (fun z => ?_)
    refine aw_loc at_13_27 rfl rfl ?_
    refine aw_get at_13_28 rfl fl_0_40 h0 rfl ?_
    refine aw_cv (a := 11) [] [] at_13_31 mt_0_100 (Or.inl rfl) rfl rfl (Nat.le_of_ble_eq_true rfl) ⟨_, he⟩ ((r_canStep (d := d + 6) he hb c1.2.1.2.2.2.1).mono ?_)
    rintro v S0 ⟨hS, r, rfl, hr⟩
    have hS2 := hS.symm
    subst hS2
    have hrl := hr.le
    refine ax_if_eq at_13_34 ⟨by omega, by omega⟩ (fun z2 => ?_) (fun z2 => ?_)
    · skip
      have hno : ¬ (sx1 = 0 ∧ 0 < Vs1.length) := by rcases hr with ⟨-, h9⟩ | ⟨h9, -⟩; exact h9; omega
      rw [cst_no hno] at hx
      exact kf _ Rs1 Vs1 sx1 sc1 j hx.symm k1 c1 hb
    · skip
      obtain ⟨hy1, hy2⟩ : sx1 = 0 ∧ 0 < Vs1.length := by rcases hr with ⟨h9, -⟩ | ⟨-, h9⟩; omega; exact h9
      subst hy1
      refine aw_loc at_13_37 rfl rfl ?_
      refine aw_get at_13_38 rfl fl_0_40 h0 rfl ?_
      refine aw_cv (a := 11) [] [] at_13_41 mt_0_103 (Or.inl rfl) rfl rfl (Nat.le_of_ble_eq_true rfl) ⟨_, he⟩ ((r_step (d := d) (P' := P0) hk c1.2.1 hR hV hy2).mono ?_)
      rintro v S2 ⟨rfl, f2, g2, hR2, hV2, hb2⟩
      have c2 := cg_eng c1 f2 g2
      have k2 := k1.tr (kpp_fr f2 (by omega))
      rw [show cst (Ar P) (at256 R) (m + 1) Rs1 Vs1 0 sc1 = _ from if_pos ⟨rfl, hy2⟩] at hx
      refine ax_inc at_13_44 rfl rfl rfl ?_
      refine aw_goto at_13_47 ?_
      have hih := ih (j + 1) S2 _ _ _ _ (by omega) k2 c2 hR2 hV2 hb2 hx
      rw [Int.natCast_add] at hih
      exact hih
set_option maxHeartbeats 2000000 in
theorem r_complete {k : Int} {P0 : Nat → Int} (h : cg S P R nn C n Rs Vs sx sc) (hk : syk P R) (hR : ∀ q, q ∈ Rs → okr (Ar P) P0 q) (hV : ∀ q, q ∈ Vs → okv (Ar P) P0 q) (hx : 0 ≤ sx ∧ sx ≤ 3) (hkr : ax_R k) : ∃ o, ai_run L xs (d + 8) 13 [.ref 0, ax_i k] S o ∧ q_com S P R nn C n k (cst (Ar P) (at256 R) k.toNat Rs Vs sx sc) o := by
  have h0 := h.1
  refine ai_run_of (M := ai_m13) rfl (by decide) (Nat.le_of_ble_eq_true rfl) ?_
  have k10 : (k < 0 ∨ 20 < k) → ai_aw L xs (d + 7) ai_m13 (q_com S P R nn C n k (cst (Ar P) (at256 R) k.toNat Rs Vs sx sc)) (10, ai_in ai_m13 [.ref 0, ax_i k], [], S) := fun hb => aw_throw at_13_10 rfl (Nat.le_of_ble_eq_true rfl) (Or.inl ⟨hb, rfl⟩)
  refine aw_loc at_13_0 rfl rfl ?_
  refine ax_if_lt at_13_1 hkr (fun z => k10 (by omega)) (fun z1 => ?_)
  refine aw_loc at_13_4 rfl rfl ?_
  refine aw_pure (st' := ax_i (20) :: _) at_13_5 rfl rfl ?_
  refine ax_icmp_le at_13_7 hkr ⟨by omega, by omega⟩ (fun z2 => ?_) (fun z => k10 (by omega))
  show ai_aw L xs (d + 7) ai_m13 _ (20, _, _, _)
  refine aw_pure (st' := ax_i (0) :: _) at_13_20 rfl rfl ?_
  refine aw_loc at_13_21 rfl rfl ?_
  exact r_complete1 hk ⟨z1, z2⟩ k.toNat 0 S Rs Vs sx sc (by omega) kpp_rf h hR hV hx rfl
end CT

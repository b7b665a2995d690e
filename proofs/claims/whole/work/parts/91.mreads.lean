/-! The calls of the reference that read the draft, and the steps. -/
section MD
variable {L : Nat} {xs : Nat → Int32} {d : Nat} {S S' : ai_S} {T D n rc wt kp sx sc : Int} {F : Nat → Nat → Int} {B : Nat → Int} {P : Nat → Int} {A : Int → Nat} {Rs Vs : rls} {R : Int → Int} {N : Nat}
theorem at_104_0 : ai_at ai_m104 0 = some (.aload_n 0, 1) := rfl
theorem at_104_1 : ai_at ai_m104 1 = some (.invokevirtual 235, 3) := rfl
theorem at_104_4 : ai_at ai_m104 4 = some (.istore_n 1, 1) := rfl
theorem at_104_5 : ai_at ai_m104 5 = some (.aload_n 0, 1) := rfl
theorem at_104_6 : ai_at ai_m104 6 = some (.iload_n 1, 1) := rfl
theorem at_104_7 : ai_at ai_m104 7 = some (.ifCond .ne 7, 3) := rfl
theorem at_104_10 : ai_at ai_m104 10 = some (.iconst 1, 1) := rfl
theorem at_104_11 : ai_at ai_m104 11 = some (.goto 4, 3) := rfl
theorem at_104_14 : ai_at ai_m104 14 = some (.iconst 0, 1) := rfl
theorem at_104_15 : ai_at ai_m104 15 = some (.aload_n 0, 1) := rfl
theorem at_104_16 : ai_at ai_m104 16 = some (.getfield 106, 3) := rfl
theorem at_104_19 : ai_at ai_m104 19 = some (.bipush 48, 2) := rfl
theorem at_104_21 : ai_at ai_m104 21 = some (.if_icmp .eq 10, 3) := rfl
theorem at_104_24 : ai_at ai_m104 24 = some (.aload_n 0, 1) := rfl
theorem at_104_25 : ai_at ai_m104 25 = some (.getfield 150, 3) := rfl
theorem at_104_28 : ai_at ai_m104 28 = some (.ifCond .eq 7, 3) := rfl
theorem at_104_31 : ai_at ai_m104 31 = some (.iconst 1, 1) := rfl
theorem at_104_32 : ai_at ai_m104 32 = some (.goto 4, 3) := rfl
theorem at_104_35 : ai_at ai_m104 35 = some (.iconst 0, 1) := rfl
theorem at_104_36 : ai_at ai_m104 36 = some (.invokevirtual 72, 3) := rfl
theorem at_104_39 : ai_at ai_m104 39 = some (.ifCond .eq 5, 3) := rfl
theorem at_104_42 : ai_at ai_m104 42 = some (.iconst 0, 1) := rfl
theorem at_104_43 : ai_at ai_m104 43 = some (.ireturn, 1) := rfl
theorem at_104_44 : ai_at ai_m104 44 = some (.aload_n 0, 1) := rfl
theorem at_104_45 : ai_at ai_m104 45 = some (.invokevirtual 157, 3) := rfl
theorem at_104_48 : ai_at ai_m104 48 = some (.istore_n 2, 1) := rfl
theorem at_104_49 : ai_at ai_m104 49 = some (.aload_n 0, 1) := rfl
theorem at_104_50 : ai_at ai_m104 50 = some (.aload_n 0, 1) := rfl
theorem at_104_51 : ai_at ai_m104 51 = some (.getfield 106, 3) := rfl
theorem at_104_54 : ai_at ai_m104 54 = some (.invokevirtual 168, 3) := rfl
theorem at_104_57 : ai_at ai_m104 57 = some (.aload_n 0, 1) := rfl
theorem at_104_58 : ai_at ai_m104 58 = some (.dup, 1) := rfl
theorem at_104_59 : ai_at ai_m104 59 = some (.getfield 106, 3) := rfl
theorem at_104_62 : ai_at ai_m104 62 = some (.iconst 1, 1) := rfl
theorem at_104_63 : ai_at ai_m104 63 = some (.iadd, 1) := rfl
theorem at_104_64 : ai_at ai_m104 64 = some (.putfield 106, 3) := rfl
theorem at_104_67 : ai_at ai_m104 67 = some (.aload_n 0, 1) := rfl
theorem at_104_68 : ai_at ai_m104 68 = some (.getfield 106, 3) := rfl
theorem at_104_71 : ai_at ai_m104 71 = some (.ireturn, 1) := rfl
theorem at_112_15 : ai_at ai_m112 15 = some (.iconst 0, 1) := rfl
theorem at_112_25 : ai_at ai_m112 25 = some (.iconst 0, 1) := rfl
theorem at_112_26 : ai_at ai_m112 26 = some (.istore_n 2, 1) := rfl
theorem at_112_27 : ai_at ai_m112 27 = some (.iload_n 2, 1) := rfl
theorem at_112_28 : ai_at ai_m112 28 = some (.iload_n 1, 1) := rfl
theorem at_112_29 : ai_at ai_m112 29 = some (.if_icmp .ge 27, 3) := rfl
theorem at_112_32 : ai_at ai_m112 32 = some (.aload_n 0, 1) := rfl
theorem at_112_33 : ai_at ai_m112 33 = some (.getfield 106, 3) := rfl
theorem at_112_36 : ai_at ai_m112 36 = some (.ifCond .le 20, 3) := rfl
theorem at_112_39 : ai_at ai_m112 39 = some (.aload_n 0, 1) := rfl
theorem at_112_40 : ai_at ai_m112 40 = some (.getfield 150, 3) := rfl
theorem at_112_43 : ai_at ai_m112 43 = some (.ifCond .ne 13, 3) := rfl
theorem at_112_46 : ai_at ai_m112 46 = some (.aload_n 0, 1) := rfl
theorem at_112_47 : ai_at ai_m112 47 = some (.invokevirtual 238, 3) := rfl
theorem at_112_50 : ai_at ai_m112 50 = some (.iinc 2 1, 3) := rfl
theorem at_112_53 : ai_at ai_m112 53 = some (.goto (-26), 3) := rfl
theorem at_112_56 : ai_at ai_m112 56 = some (.aload_n 0, 1) := rfl
theorem at_112_57 : ai_at ai_m112 57 = some (.getfield 150, 3) := rfl
theorem at_112_60 : ai_at ai_m112 60 = some (.ifCond .eq 10, 3) := rfl
theorem at_112_63 : ai_at ai_m112 63 = some (.aload_n 0, 1) := rfl
theorem at_112_64 : ai_at ai_m112 64 = some (.getfield 150, 3) := rfl
theorem at_112_67 : ai_at ai_m112 67 = some (.goto 15, 3) := rfl
theorem at_112_70 : ai_at ai_m112 70 = some (.aload_n 0, 1) := rfl
theorem at_112_71 : ai_at ai_m112 71 = some (.getfield 106, 3) := rfl
theorem at_112_74 : ai_at ai_m112 74 = some (.ifCond .le 7, 3) := rfl
theorem at_112_77 : ai_at ai_m112 77 = some (.iconst 0, 1) := rfl
theorem at_112_78 : ai_at ai_m112 78 = some (.goto 4, 3) := rfl
theorem at_112_81 : ai_at ai_m112 81 = some (.iconst 1, 1) := rfl
theorem at_112_82 : ai_at ai_m112 82 = some (.ireturn, 1) := rfl
theorem at_155_0 : ai_at ai_m155 0 = some (.aload_n 0, 1) := rfl
theorem at_155_1 : ai_at ai_m155 1 = some (.iconst 0, 1) := rfl
theorem at_155_2 : ai_at ai_m155 2 = some (.aload_n 0, 1) := rfl
theorem at_155_3 : ai_at ai_m155 3 = some (.getfield 85, 3) := rfl
theorem at_155_6 : ai_at ai_m155 6 = some (.iconst 0, 1) := rfl
theorem at_155_7 : ai_at ai_m155 7 = some (.invokevirtual 99, 3) := rfl
theorem at_155_10 : ai_at ai_m155 10 = some (.istore_n 1, 1) := rfl
theorem at_155_11 : ai_at ai_m155 11 = some (.iload_n 1, 1) := rfl
theorem at_155_12 : ai_at ai_m155 12 = some (.ifCond .eq 11, 3) := rfl
theorem at_155_15 : ai_at ai_m155 15 = some (.aload_n 0, 1) := rfl
theorem at_155_16 : ai_at ai_m155 16 = some (.iconst 0, 1) := rfl
theorem at_155_17 : ai_at ai_m155 17 = some (.invokevirtual 147, 3) := rfl
theorem at_155_20 : ai_at ai_m155 20 = some (.goto 4, 3) := rfl
theorem at_155_23 : ai_at ai_m155 23 = some (.iconst 0, 1) := rfl
theorem at_155_24 : ai_at ai_m155 24 = some (.istore_n 2, 1) := rfl
theorem at_155_25 : ai_at ai_m155 25 = some (.aload_n 0, 1) := rfl
theorem at_155_26 : ai_at ai_m155 26 = some (.iload_n 1, 1) := rfl
theorem at_155_27 : ai_at ai_m155 27 = some (.ifCond .ne 7, 3) := rfl
theorem at_155_30 : ai_at ai_m155 30 = some (.iconst 1, 1) := rfl
theorem at_155_31 : ai_at ai_m155 31 = some (.goto 4, 3) := rfl
theorem at_155_34 : ai_at ai_m155 34 = some (.iconst 0, 1) := rfl
theorem at_155_35 : ai_at ai_m155 35 = some (.iload_n 2, 1) := rfl
theorem at_155_36 : ai_at ai_m155 36 = some (.ifCond .ge 7, 3) := rfl
theorem at_155_39 : ai_at ai_m155 39 = some (.iconst 1, 1) := rfl
theorem at_155_40 : ai_at ai_m155 40 = some (.goto 4, 3) := rfl
theorem at_155_43 : ai_at ai_m155 43 = some (.iconst 0, 1) := rfl
theorem at_155_44 : ai_at ai_m155 44 = some (.invokevirtual 72, 3) := rfl
theorem at_155_47 : ai_at ai_m155 47 = some (.ifCond .eq 5, 3) := rfl
theorem at_155_50 : ai_at ai_m155 50 = some (.iconst 0, 1) := rfl
theorem at_155_51 : ai_at ai_m155 51 = some (.ireturn, 1) := rfl
theorem at_155_52 : ai_at ai_m155 52 = some (.aload_n 0, 1) := rfl
theorem at_155_53 : ai_at ai_m155 53 = some (.aload_n 0, 1) := rfl
theorem at_155_54 : ai_at ai_m155 54 = some (.getfield 40, 3) := rfl
theorem at_155_57 : ai_at ai_m155 57 = some (.iconst 0, 1) := rfl
theorem at_155_58 : ai_at ai_m155 58 = some (.iaload, 1) := rfl
theorem at_155_59 : ai_at ai_m155 59 = some (.putfield 85, 3) := rfl
theorem at_155_62 : ai_at ai_m155 62 = some (.iconst 0, 1) := rfl
theorem at_155_63 : ai_at ai_m155 63 = some (.istore_n 3, 1) := rfl
theorem at_155_64 : ai_at ai_m155 64 = some (.iload_n 3, 1) := rfl
theorem at_155_65 : ai_at ai_m155 65 = some (.aload_n 0, 1) := rfl
theorem at_155_66 : ai_at ai_m155 66 = some (.getfield 85, 3) := rfl
theorem at_155_69 : ai_at ai_m155 69 = some (.if_icmp .ge 24, 3) := rfl
theorem at_155_72 : ai_at ai_m155 72 = some (.aload_n 0, 1) := rfl
theorem at_155_73 : ai_at ai_m155 73 = some (.getfield 16, 3) := rfl
theorem at_155_76 : ai_at ai_m155 76 = some (.iload_n 3, 1) := rfl
theorem at_155_77 : ai_at ai_m155 77 = some (.aload_n 0, 1) := rfl
theorem at_155_78 : ai_at ai_m155 78 = some (.getfield 37, 3) := rfl
theorem at_155_81 : ai_at ai_m155 81 = some (.iload_n 3, 1) := rfl
theorem at_155_82 : ai_at ai_m155 82 = some (.iaload, 1) := rfl
theorem at_155_83 : ai_at ai_m155 83 = some (.invokestatic 241, 3) := rfl
theorem at_155_86 : ai_at ai_m155 86 = some (.iastore, 1) := rfl
theorem at_155_87 : ai_at ai_m155 87 = some (.iinc 3 1, 3) := rfl
theorem at_155_90 : ai_at ai_m155 90 = some (.goto (-26), 3) := rfl
theorem at_155_93 : ai_at ai_m155 93 = some (.iload_n 2, 1) := rfl
theorem at_155_94 : ai_at ai_m155 94 = some (.ireturn, 1) := rfl
theorem at_156_0 : ai_at ai_m156 0 = some (.aload_n 0, 1) := rfl
theorem at_156_1 : ai_at ai_m156 1 = some (.aload_n 0, 1) := rfl
theorem at_156_2 : ai_at ai_m156 2 = some (.invokevirtual 235, 3) := rfl
theorem at_156_5 : ai_at ai_m156 5 = some (.ifCond .ne 7, 3) := rfl
theorem at_156_8 : ai_at ai_m156 8 = some (.iconst 1, 1) := rfl
theorem at_156_9 : ai_at ai_m156 9 = some (.goto 4, 3) := rfl
theorem at_156_12 : ai_at ai_m156 12 = some (.iconst 0, 1) := rfl
theorem at_156_13 : ai_at ai_m156 13 = some (.iconst 0, 1) := rfl
theorem at_156_14 : ai_at ai_m156 14 = some (.invokevirtual 72, 3) := rfl
theorem at_156_17 : ai_at ai_m156 17 = some (.ifCond .eq 5, 3) := rfl
theorem at_156_20 : ai_at ai_m156 20 = some (.iconst 0, 1) := rfl
theorem at_156_21 : ai_at ai_m156 21 = some (.ireturn, 1) := rfl
theorem at_156_22 : ai_at ai_m156 22 = some (.aload_n 0, 1) := rfl
theorem at_156_23 : ai_at ai_m156 23 = some (.iconst 0, 1) := rfl
theorem at_156_24 : ai_at ai_m156 24 = some (.iconst 1, 1) := rfl
theorem at_156_25 : ai_at ai_m156 25 = some (.invokevirtual 153, 3) := rfl
theorem at_156_28 : ai_at ai_m156 28 = some (.ifCond .eq 5, 3) := rfl
theorem at_156_31 : ai_at ai_m156 31 = some (.iconst 0, 1) := rfl
theorem at_156_32 : ai_at ai_m156 32 = some (.ireturn, 1) := rfl
theorem at_156_33 : ai_at ai_m156 33 = some (.aload_n 0, 1) := rfl
theorem at_156_34 : ai_at ai_m156 34 = some (.iconst 0, 1) := rfl
theorem at_156_35 : ai_at ai_m156 35 = some (.iconst 1, 1) := rfl
theorem at_156_36 : ai_at ai_m156 36 = some (.invokevirtual 229, 3) := rfl
theorem at_156_39 : ai_at ai_m156 39 = some (.ifCond .eq 5, 3) := rfl
theorem at_156_42 : ai_at ai_m156 42 = some (.iconst 1, 1) := rfl
theorem at_156_43 : ai_at ai_m156 43 = some (.ireturn, 1) := rfl
theorem at_156_44 : ai_at ai_m156 44 = some (.aload_n 0, 1) := rfl
theorem at_156_45 : ai_at ai_m156 45 = some (.iconst 1, 1) := rfl
theorem at_156_46 : ai_at ai_m156 46 = some (.iconst 0, 1) := rfl
theorem at_156_47 : ai_at ai_m156 47 = some (.invokevirtual 229, 3) := rfl
theorem at_156_50 : ai_at ai_m156 50 = some (.ifCond .eq 7, 3) := rfl
theorem at_156_53 : ai_at ai_m156 53 = some (.iconst (-1), 1) := rfl
theorem at_156_54 : ai_at ai_m156 54 = some (.goto 4, 3) := rfl
theorem at_156_57 : ai_at ai_m156 57 = some (.iconst 2, 1) := rfl
theorem at_156_58 : ai_at ai_m156 58 = some (.ireturn, 1) := rfl
theorem mt_12_235 : ai_mth 12 235 = some (0, 105, 0, 11) := by decide +kernel
theorem mt_12_238 : ai_mth 12 238 = some (0, 113, 0, 11) := by decide +kernel
set_option maxHeartbeats 16000000 in
theorem r_m_equation (h : mgg S A T D (N : Int) Rs Vs kp sx sc F B) (hN : N ≤ 60) (hF2 : ∀ i, 0 ≤ F 2 i ∧ F 2 i < 65536) (hx : 0 ≤ sx ∧ sx ≤ 3) : ai_rn L xs (d + 4) 104 [.ref 432] S (fun v S' => fr 432 452 S S' ∧ ∃ F', eq3 F F' ∧ (((¬ ∃ l r, gp A (F 0) (F 2) N l r) ∧ v = some (ax_i 0) ∧ mgg S' A 1 D (N : Int) Rs Vs kp sx sc F' B) ∨ (∃ l r, gp A (F 0) (F 2) N l r ∧ (sx ≠ 0 ∨ 48 ≤ Vs.length) ∧ v = some (ax_i 0) ∧ mgg S' A 2 D (N : Int) Rs Vs kp sx sc F' B) ∨ (∃ l r, gp A (F 0) (F 2) N l r ∧ (sx = 0 ∧ ¬ 48 ≤ Vs.length) ∧ v = some (ax_i ((Vs ++ [rnp l r]).length : Nat)) ∧ mgg S' A 0 D (N : Int) Rs (Vs ++ [rnp l r]) kp sx sc F' B))) := by
  have ho := h.1.1
  have r0 : ai_arr S 433 0 = some (8, ax_f (F 0)) := h.1.2.1 0 (by decide)
  have r2 : ai_arr S 435 0 = some (60, ax_f (F 2)) := h.1.2.1 2 (by decide)
  have r9 : ai_arr S 442 0 = some (192, ax_f (F 9)) := h.1.2.1 9 (by decide)
  have r10 : ai_arr S 443 0 = some (3, ax_f (F 10)) := h.1.2.1 10 (by decide)
  have hPr := h.2.1.1.1
  have hsa := h.2.1.1.2
  have hl48 := h.2.2.2.1.2.1
  refine ai_rn_of (M := ai_m104) rfl (by decide) (Nat.le_of_ble_eq_true rfl) ?_
  refine aw_loc at_104_0 rfl rfl ?_
  refine aw_cv (a := 432) [] [] at_104_1 mt_12_235 (Or.inl rfl) rfl rfl (Nat.le_of_ble_eq_true rfl) ⟨_, ho⟩ ((r_m_readsPair (d := d) ho r0 hPr r2 hF2 hN r9 r10).mono ?_)
  rintro v S1 ⟨m, z, hm, rfl, hz, X, Z, hS1, hxz, hxx⟩
  have h1x : mst S1 T D (N : Int) (Rs.length : Int) (Vs.length : Int) kp sx sc (fup (fup F 9 X) 10 Z) B := by rw [hS1]; exact mst_mt h.1
  have f1 : fr 432 452 S S1 := by rw [hS1]; exact fr_mt
  clear hS1
  rw [gp_M hsa hm] at hz hxz
  have hzl := hz.le
  obtain ⟨F1, e1, rfl, rfl, h1⟩ : ∃ F1 : Nat → Nat → Int, (∀ i, i ≠ 9 → i ≠ 10 → F1 i = F i) ∧ F1 9 = X ∧ F1 10 = Z ∧ mst S1 T D (N : Int) (Rs.length : Int) (Vs.length : Int) kp sx sc F1 B := ⟨_, fun i a b => (fup_ne b).trans (fup_ne a), (fup_ne (by decide)).trans (fup_get _ _ _), fup_get _ _ _, h1x⟩
  have x19 := hxx h.2.2.2.2.1
  have m1 : mgg S1 A T D (N : Int) Rs Vs kp sx sc F1 B := mgg_T h h1 (fun i _ _ hi => e1 i (by omega) (by omega)) x19 (e1 13 (by decide) (by decide))
  have q1 : eq3 F F1 := fun i hi => e1 i (by omega) (by omega)
  have ho := h1.1
  refine aw_loc at_104_4 rfl rfl ?_
  refine aw_loc at_104_5 rfl rfl ?_
  refine aw_loc at_104_6 rfl rfl ?_
  refine ax_if_ne at_104_7 ⟨by omega, by omega⟩ (fun zz => ?_) (fun zz => ?_)
  · skip
    have hg : gp A (F 0) (F 2) N (sl (F 2) 0 m) (sl (F 2) (m + 1) (N - (m + 1))) := by rcases hz with ⟨h9, -⟩ | ⟨-, h9⟩; omega; exact h9
    obtain ⟨mm0, -, -, -, -, ⟨o1, o2, o3⟩, ⟨o4, o5, o6⟩⟩ := id hg
    have hmN : m < N := by have := hm.1; obtain ⟨mm, g1, g2, -⟩ := id hg; have := mid_un hm g1 (fun _ _ => rfl); omega
    have hl1 : m ≤ 24 := by rw [sl_len] at o3; exact o3
    have hl2 : N - (m + 1) ≤ 24 := by rw [sl_len] at o6; exact o6
    obtain ⟨eX, eZ⟩ := hxz hg
    have w0 : mwd (F1 9) (F1 10) 0 (sl (F 2) 0 m) := ow_mwd hl1 o1 (F 9) (fun i hi => by rw [eX]; unfold ow; rw [if_neg (by omega), if_pos ⟨by omega, by omega⟩]; exact congrArg (fun z => cd (F 0) (F 2 (0 + z))) (show 64 * 0 + i - 0 = i by omega)) (by rw [eZ]; exact (if_neg (by decide)).trans (if_pos rfl))
    have w1 : mwd (F1 9) (F1 10) 1 (sl (F 2) (m + 1) (N - (m + 1))) := ow_mwd hl2 o4 (F 9) (fun i hi => by rw [eX]; unfold ow; rw [if_pos ⟨by omega, by omega⟩]; exact congrArg (fun z => cd (F 0) (F 2 (m + 1 + z))) (show 64 * 1 + i - 64 = i by omega)) (by rw [eZ]; exact if_pos rfl)
    clear eX eZ hxz
    have e10 : F1 0 = F 0 := e1 0 (by decide) (by decide)
    have e12 : F1 2 = F 2 := e1 2 (by decide) (by decide)
    generalize hlL : sl (F 2) 0 m = l at hg o1 o2 o3 w0
    generalize hrL : sl (F 2) (m + 1) (N - (m + 1)) = r at hg o4 o5 o6 w1
    refine aw_pure (st' := ax_i (0) :: _) at_104_14 rfl rfl ?_
    refine aw_loc at_104_15 rfl rfl ?_
    refine aw_get at_104_16 rfl fl_12_106 ho rfl ?_
    refine aw_pure (st' := ax_i (48) :: _) at_104_19 rfl rfl ?_
    refine ax_icmp_eq at_104_21 ⟨by omega, by omega⟩ ⟨by omega, by omega⟩ (fun y1 => ?_) (fun y1 => ?_)
    · skip
      refine aw_pure (st' := ax_i (1) :: _) at_104_31 rfl rfl ?_
      refine aw_goto at_104_32 ?_
      refine aw_cv (a := 432) [ax_i 0, ax_i 1] [] at_104_36 mt_12_72 (Or.inl rfl) rfl rfl (Nat.le_of_ble_eq_true rfl) ⟨_, ho⟩ ((r_m_ref2 (d := d + 2) h1).mono ?_)
      rintro v S2 ⟨rfl, f2, h2⟩
      refine ax_if_eq at_104_39 ⟨by omega, by omega⟩ (fun z => absurd z (by decide)) (fun _ => ?_)
      refine aw_pure (st' := ax_i (0) :: _) at_104_42 rfl rfl ?_
      exact ax_ret at_104_43 rfl ⟨_, _, rfl, f1.tr f2, F1, q1, Or.inr (Or.inl ⟨l, r, hg, Or.inr (by omega), rfl, mgg_T m1 h2 (fun _ _ _ _ => rfl) m1.2.2.2.2.1 rfl⟩)⟩
    · skip
      refine aw_loc at_104_24 rfl rfl ?_
      refine aw_get at_104_25 rfl fl_12_150 ho rfl ?_
      refine ax_if_eq at_104_28 ⟨by omega, by omega⟩ (fun y2 => ?_) (fun y2 => ?_)
      · skip
        refine aw_pure (st' := ax_i (0) :: _) at_104_35 rfl rfl ?_
        refine aw_cv (a := 432) [ax_i 0, ax_i 0] [] at_104_36 mt_12_72 (Or.inl rfl) rfl rfl (Nat.le_of_ble_eq_true rfl) ⟨_, ho⟩ ((r_m_ref0 (d := d + 2) h1).mono ?_)
        rintro v S2 ⟨rfl, f2, h2⟩
        refine ax_if_eq at_104_39 ⟨by omega, by omega⟩ (fun _ => ?_) (fun z => absurd rfl z)
        show ai_aw L xs (d + 3) ai_m104 _ (44, _, _, _)
        have ho := h2.1
        refine aw_loc at_104_44 rfl rfl ?_
        refine aw_cv (a := 432) [] [] at_104_45 mt_12_157 (Or.inl rfl) rfl rfl (Nat.le_of_ble_eq_true rfl) ⟨_, ho⟩ ((r_m_ren (d := d + 2) h2 w0 w1 o3 o6 (by rw [e10]; exact al_kn (by decide) o1) (by rw [e10]; exact al_kn (by decide) o4) x19).mono ?_)
        rintro v S3 ⟨f3, rfl, X3, NA, h3x, u0, u1, x3⟩
        have u10 : fup (fup F1 9 X3) 17 NA 10 = F1 10 := (fup_ne (by decide)).trans (fup_ne (by decide))
        obtain ⟨F3, e3, rfl, h3⟩ : ∃ F3 : Nat → Nat → Int, (∀ i, i ≠ 9 → i ≠ 17 → F3 i = F1 i) ∧ F3 9 = X3 ∧ mst S3 0 D (N : Int) (Rs.length : Int) (Vs.length : Int) kp sx sc F3 B := ⟨_, fun i a b => (fup_ne b).trans (fup_ne a), (fup_ne (by decide)).trans (fup_get _ _ _), h3x⟩
        rw [← e3 10 (by decide) (by decide)] at u0 u1
        have ho := h3.1
        have hok : okv A (F 0) (rnp l r) := rnp_okv hsa.2 o2 o5 o3 o6 o1 o4 (kn_few o1 o4)
        refine aw_loc at_104_48 rfl rfl ?_
        refine aw_loc at_104_49 rfl rfl ?_
        refine aw_loc at_104_50 rfl rfl ?_
        refine aw_get at_104_51 rfl fl_12_106 ho rfl ?_
        refine aw_cv (a := 432) [ax_i (Vs.length : Nat)] [] at_104_54 mt_12_168 (Or.inl rfl) rfl rfl (Nat.le_of_ble_eq_true rfl) ⟨_, ho⟩ ((r_m_setP (d := d + 2) (P := F 0) (k := Vs.length) h3 u0 u1 hok.2.1.1 hok.2.1.2 (by omega)).mono ?_)
        rintro v S4 ⟨rfl, f4, F4, h4, e4, t4, p4, x4⟩
        have ho := h4.1
        refine aw_loc at_104_57 rfl rfl ?_
        refine aw_pure at_104_58 rfl rfl ?_
        refine aw_get at_104_59 rfl fl_12_106 ho rfl ?_
        refine aw_pure (st' := ax_i (1) :: _) at_104_62 rfl rfl ?_
        refine ax_add at_104_63 rfl ?_
        refine aw_put at_104_64 rfl fl_12_106 h4.1 (Nat.le_of_ble_eq_true rfl) rfl (by decide +kernel) ?_
        have h5 : mst (ai_wr S4 432 (.inr (11, mf 0 D (N : Int) (Rs.length : Int) ((Vs.length : Int) + 1) kp sx sc))) 0 D (N : Int) (Rs.length : Int) ((Vs.length : Int) + 1) kp sx sc F4 B := mst_fl h4
        have f5 : fr 432 452 S4 (ai_wr S4 432 (.inr (11, mf 0 D (N : Int) (Rs.length : Int) ((Vs.length : Int) + 1) kp sx sc))) := fr_md (by decide) (by decide)
        show ai_aw L xs (d + 3) ai_m104 _ (67, _, _, (ai_wr S4 432 (.inr (11, mf 0 D (N : Int) (Rs.length : Int) ((Vs.length : Int) + 1) kp sx sc))))
        generalize (ai_wr S4 432 (.inr (11, mf 0 D (N : Int) (Rs.length : Int) ((Vs.length : Int) + 1) kp sx sc))) = S5 at h5 f5 ⊢
        have ho := h5.1
        refine aw_loc at_104_67 rfl rfl ?_
        refine aw_get at_104_68 rfl fl_12_106 ho rfl ?_
        have hlen : (((Vs ++ [rnp l r]).length : Nat) : Int) = (Vs.length : Int) + 1 := by rw [List.length_append]; rfl
        have e40 : ∀ i, i < 6 → F4 i = F i := fun i hi => (e4 i (by omega) (by omega) (by omega)).trans ((e3 i (by omega) (by omega)).trans (e1 i (by omega) (by omega)))
        have z0 : F4 0 = F 0 := e40 0 (by decide)
        have z36 : F3 6 = F 6 := (e3 6 (by decide) (by decide)).trans (e1 6 (by decide) (by decide))
        have z37 : F3 7 = F 7 := (e3 7 (by decide) (by decide)).trans (e1 7 (by decide) (by decide))
        have z38 : F3 8 = F 8 := (e3 8 (by decide) (by decide)).trans (e1 8 (by decide) (by decide))
        have m5 : mgg S5 A 0 D (N : Int) Rs (Vs ++ [rnp l r]) kp sx sc F4 B := by
          refine ⟨by rw [hlen]; exact h5, ⟨by unfold mpk; rw [z0]; exact h.2.1.1, h.2.1.2⟩, ⟨fun k hk => ?_, h.2.2.1.2.1, by rw [z0]; exact h.2.2.1.2.2⟩, ⟨fun k hk => ?_, by rw [List.length_append]; show Vs.length + 1 ≤ 48; omega, fun q hq => ?_⟩, by rw [e4 9 (by decide) (by decide) (by decide)]; exact x3, x4 (by rw [z36]; exact h.2.2.2.2.2.1) (al_kn (by decide) hok.2.2.1.1) (al_kn (by decide) hok.2.2.1.2), ?_⟩
          · rw [e40 3 (by decide), e40 4 (by decide), e40 5 (by decide)]
            exact h.2.2.1.1 k hk
          · rw [List.length_append] at hk
            have hk : k < Vs.length + 1 := hk
            rw [snoc_get hk]
            by_cases hkv : k = Vs.length
            · rw [if_pos hkv, hkv]; exact t4
            · rw [if_neg hkv]; exact p4 k _ hkv (by rw [z36, z37, z38]; exact h.2.2.2.1.1 k (by omega))
          · rw [z0]
            rcases List.mem_append.mp hq with hq | hq
            · exact h.2.2.2.1.2.2 q hq
            · rw [List.mem_singleton.mp hq]; exact hok
          · rw [e4 13 (by decide) (by decide) (by decide), e3 13 (by decide) (by decide), e1 13 (by decide) (by decide)]
            exact h.2.2.2.2.2.2
        exact ax_ret at_104_71 rfl ⟨_, _, rfl, (((f1.tr f2).tr f3).tr f4).tr f5, F4, fun i hi => e40 i (by omega), Or.inr (Or.inr ⟨l, r, hg, ⟨y2, by omega⟩, by rw [hlen], m5⟩)⟩
      · skip
        refine aw_pure (st' := ax_i (1) :: _) at_104_31 rfl rfl ?_
        refine aw_goto at_104_32 ?_
        refine aw_cv (a := 432) [ax_i 0, ax_i 1] [] at_104_36 mt_12_72 (Or.inl rfl) rfl rfl (Nat.le_of_ble_eq_true rfl) ⟨_, ho⟩ ((r_m_ref2 (d := d + 2) h1).mono ?_)
        rintro v S2 ⟨rfl, f2, h2⟩
        refine ax_if_eq at_104_39 ⟨by omega, by omega⟩ (fun z => absurd z (by decide)) (fun _ => ?_)
        refine aw_pure (st' := ax_i (0) :: _) at_104_42 rfl rfl ?_
        exact ax_ret at_104_43 rfl ⟨_, _, rfl, f1.tr f2, F1, q1, Or.inr (Or.inl ⟨l, r, hg, Or.inl y2, rfl, mgg_T m1 h2 (fun _ _ _ _ => rfl) m1.2.2.2.2.1 rfl⟩)⟩
  · skip
    have hno := gp_no hm (by rcases hz with ⟨-, h9⟩ | ⟨h9, -⟩; exact h9; omega)
    refine aw_pure (st' := ax_i (1) :: _) at_104_10 rfl rfl ?_
    refine aw_goto at_104_11 ?_
    refine aw_loc at_104_15 rfl rfl ?_
    refine aw_get at_104_16 rfl fl_12_106 ho rfl ?_
    refine aw_pure (st' := ax_i (48) :: _) at_104_19 rfl rfl ?_
    refine ax_icmp_eq at_104_21 ⟨by omega, by omega⟩ ⟨by omega, by omega⟩ (fun y1 => ?_) (fun y1 => ?_)
    · skip
      refine aw_pure (st' := ax_i (1) :: _) at_104_31 rfl rfl ?_
      refine aw_goto at_104_32 ?_
      refine aw_cv (a := 432) [ax_i 1, ax_i 1] [] at_104_36 mt_12_72 (Or.inl rfl) rfl rfl (Nat.le_of_ble_eq_true rfl) ⟨_, ho⟩ ((r_m_ref1 (d := d + 2) h1).mono ?_)
      rintro v S2 ⟨rfl, f2, h2⟩
      refine ax_if_eq at_104_39 ⟨by omega, by omega⟩ (fun z => absurd z (by decide)) (fun _ => ?_)
      refine aw_pure (st' := ax_i (0) :: _) at_104_42 rfl rfl ?_
      exact ax_ret at_104_43 rfl ⟨_, _, rfl, f1.tr f2, F1, q1, Or.inl ⟨hno, rfl, mgg_T m1 h2 (fun _ _ _ _ => rfl) m1.2.2.2.2.1 rfl⟩⟩
    · skip
      refine aw_loc at_104_24 rfl rfl ?_
      refine aw_get at_104_25 rfl fl_12_150 ho rfl ?_
      refine ax_if_eq at_104_28 ⟨by omega, by omega⟩ (fun y2 => ?_) (fun y2 => ?_)
      · skip
        refine aw_pure (st' := ax_i (0) :: _) at_104_35 rfl rfl ?_
        refine aw_cv (a := 432) [ax_i 1, ax_i 0] [] at_104_36 mt_12_72 (Or.inl rfl) rfl rfl (Nat.le_of_ble_eq_true rfl) ⟨_, ho⟩ ((r_m_ref1 (d := d + 2) h1).mono ?_)
        rintro v S2 ⟨rfl, f2, h2⟩
        refine ax_if_eq at_104_39 ⟨by omega, by omega⟩ (fun z => absurd z (by decide)) (fun _ => ?_)
        refine aw_pure (st' := ax_i (0) :: _) at_104_42 rfl rfl ?_
        exact ax_ret at_104_43 rfl ⟨_, _, rfl, f1.tr f2, F1, q1, Or.inl ⟨hno, rfl, mgg_T m1 h2 (fun _ _ _ _ => rfl) m1.2.2.2.2.1 rfl⟩⟩
      · skip
        refine aw_pure (st' := ax_i (1) :: _) at_104_31 rfl rfl ?_
        refine aw_goto at_104_32 ?_
        refine aw_cv (a := 432) [ax_i 1, ax_i 1] [] at_104_36 mt_12_72 (Or.inl rfl) rfl rfl (Nat.le_of_ble_eq_true rfl) ⟨_, ho⟩ ((r_m_ref1 (d := d + 2) h1).mono ?_)
        rintro v S2 ⟨rfl, f2, h2⟩
        refine ax_if_eq at_104_39 ⟨by omega, by omega⟩ (fun z => absurd z (by decide)) (fun _ => ?_)
        refine aw_pure (st' := ax_i (0) :: _) at_104_42 rfl rfl ?_
        exact ax_ret at_104_43 rfl ⟨_, _, rfl, f1.tr f2, F1, q1, Or.inl ⟨hno, rfl, mgg_T m1 h2 (fun _ _ _ _ => rfl) m1.2.2.2.2.1 rfl⟩⟩
set_option maxHeartbeats 16000000 in
theorem r_m_compare (h : mgg S A T D (N : Int) Rs Vs kp sx sc F B) (hN : N ≤ 60) (hF2 : ∀ i, 0 ≤ F 2 i ∧ F 2 i < 65536) (hrk : mrk F R) : ai_rn L xs (d + 7) 156 [.ref 432] S (fun v S' => fr 432 452 S S' ∧ ∃ F' B', eq3 F F' ∧ (((¬ ∃ l r, gp A (F 0) (F 2) N l r) ∧ v = some (ax_i 0) ∧ mgg S' A 1 D (N : Int) Rs Vs kp sx sc F' B') ∨ (∃ l r, gp A (F 0) (F 2) N l r ∧ ∃ z, cmz A R l r z ∧ v = some (ax_i z) ∧ mgg S' A 0 D (N : Int) Rs Vs kp sx sc F' B'))) := by
  have ho := h.1.1
  have r0 : ai_arr S 433 0 = some (8, ax_f (F 0)) := h.1.2.1 0 (by decide)
  have r2 : ai_arr S 435 0 = some (60, ax_f (F 2)) := h.1.2.1 2 (by decide)
  have r9 : ai_arr S 442 0 = some (192, ax_f (F 9)) := h.1.2.1 9 (by decide)
  have r10 : ai_arr S 443 0 = some (3, ax_f (F 10)) := h.1.2.1 10 (by decide)
  have hPr := h.2.1.1.1
  have hsa := h.2.1.1.2
  have hl48 := h.2.2.2.1.2.1
  refine ai_rn_of (M := ai_m156) rfl (by decide) (Nat.le_of_ble_eq_true rfl) ?_
  refine aw_loc at_156_0 rfl rfl ?_
  refine aw_loc at_156_1 rfl rfl ?_
  refine aw_cv (a := 432) [] [.ref 432] at_156_2 mt_12_235 (Or.inl rfl) rfl rfl (Nat.le_of_ble_eq_true rfl) ⟨_, ho⟩ ((r_m_readsPair (d := d + 3) ho r0 hPr r2 hF2 hN r9 r10).mono ?_)
  rintro v S1 ⟨m, z, hm, rfl, hz, X, Z, hS1, hxz, hxx⟩
  have h1x : mst S1 T D (N : Int) (Rs.length : Int) (Vs.length : Int) kp sx sc (fup (fup F 9 X) 10 Z) B := by rw [hS1]; exact mst_mt h.1
  have f1 : fr 432 452 S S1 := by rw [hS1]; exact fr_mt
  clear hS1
  rw [gp_M hsa hm] at hz hxz
  have hzl := hz.le
  obtain ⟨F1, e1, rfl, rfl, h1⟩ : ∃ F1 : Nat → Nat → Int, (∀ i, i ≠ 9 → i ≠ 10 → F1 i = F i) ∧ F1 9 = X ∧ F1 10 = Z ∧ mst S1 T D (N : Int) (Rs.length : Int) (Vs.length : Int) kp sx sc F1 B := ⟨_, fun i a b => (fup_ne b).trans (fup_ne a), (fup_ne (by decide)).trans (fup_get _ _ _), fup_get _ _ _, h1x⟩
  have x19 := hxx h.2.2.2.2.1
  have m1 : mgg S1 A T D (N : Int) Rs Vs kp sx sc F1 B := mgg_T h h1 (fun i _ _ hi => e1 i (by omega) (by omega)) x19 (e1 13 (by decide) (by decide))
  have q1 : eq3 F F1 := fun i hi => e1 i (by omega) (by omega)
  have ho := h1.1
  refine ax_if_ne at_156_5 ⟨by omega, by omega⟩ (fun zz => ?_) (fun zz => ?_)
  · skip
    have hg : gp A (F 0) (F 2) N (sl (F 2) 0 m) (sl (F 2) (m + 1) (N - (m + 1))) := by rcases hz with ⟨h9, -⟩ | ⟨-, h9⟩; omega; exact h9
    obtain ⟨mm0, -, -, -, -, ⟨o1, o2, o3⟩, ⟨o4, o5, o6⟩⟩ := id hg
    have hmN : m < N := by have := hm.1; obtain ⟨mm, g1, g2, -⟩ := id hg; have := mid_un hm g1 (fun _ _ => rfl); omega
    have hl1 : m ≤ 24 := by rw [sl_len] at o3; exact o3
    have hl2 : N - (m + 1) ≤ 24 := by rw [sl_len] at o6; exact o6
    obtain ⟨eX, eZ⟩ := hxz hg
    have w0 : mwd (F1 9) (F1 10) 0 (sl (F 2) 0 m) := ow_mwd hl1 o1 (F 9) (fun i hi => by rw [eX]; unfold ow; rw [if_neg (by omega), if_pos ⟨by omega, by omega⟩]; exact congrArg (fun z => cd (F 0) (F 2 (0 + z))) (show 64 * 0 + i - 0 = i by omega)) (by rw [eZ]; exact (if_neg (by decide)).trans (if_pos rfl))
    have w1 : mwd (F1 9) (F1 10) 1 (sl (F 2) (m + 1) (N - (m + 1))) := ow_mwd hl2 o4 (F 9) (fun i hi => by rw [eX]; unfold ow; rw [if_pos ⟨by omega, by omega⟩]; exact congrArg (fun z => cd (F 0) (F 2 (m + 1 + z))) (show 64 * 1 + i - 64 = i by omega)) (by rw [eZ]; exact if_pos rfl)
    clear eX eZ hxz
    have e10 : F1 0 = F 0 := e1 0 (by decide) (by decide)
    have e12 : F1 2 = F 2 := e1 2 (by decide) (by decide)
    generalize hlL : sl (F 2) 0 m = l at hg o1 o2 o3 w0
    generalize hrL : sl (F 2) (m + 1) (N - (m + 1)) = r at hg o4 o5 o6 w1
    refine aw_pure (st' := ax_i (0) :: _) at_156_12 rfl rfl ?_
    refine aw_pure (st' := ax_i (0) :: _) at_156_13 rfl rfl ?_
    refine aw_cv (a := 432) [ax_i 0, ax_i 0] [] at_156_14 mt_12_72 (Or.inl rfl) rfl rfl (Nat.le_of_ble_eq_true rfl) ⟨_, ho⟩ ((r_m_ref0 (d := d + 5) h1).mono ?_)
    rintro v S2 ⟨rfl, f2, h2⟩
    refine ax_if_eq at_156_17 ⟨by omega, by omega⟩ (fun _ => ?_) (fun z => absurd rfl z)
    show ai_aw L xs (d + 6) ai_m156 _ (22, _, _, _)
    have ho := h2.1
    have r9 : ai_arr S2 442 0 = some (192, ax_f (F1 9)) := h2.2.1 9 (by decide)
    have r10 : ai_arr S2 443 0 = some (3, ax_f (F1 10)) := h2.2.1 10 (by decide)
    have z0 : F1 10 0 = (l.length : Int) := mwd_len w0 (by omega)
    have z1 : F1 10 1 = (r.length : Int) := mwd_len w1 (by omega)
    have m2 : ∀ B' S', mst S' 0 D (N : Int) (Rs.length : Int) (Vs.length : Int) kp sx sc F1 B' → mgg S' A 0 D (N : Int) Rs Vs kp sx sc F1 B' := fun B' S' h9 => mgg_T m1 h9 (fun _ _ _ _ => rfl) m1.2.2.2.2.1 rfl
    have hal : l = r ↔ (l.length = r.length ∧ ∀ i, i < l.length → F1 9 (64 * 0 + i) = F1 9 (64 * 1 + i)) := by have := cw_same (P := F 0) (mwd_cw w0 (by omega)) (mwd_cw w1 (by omega)) (al_kn (by decide) o1) (al_kn (by decide) o4); exact this.trans ⟨fun g => ⟨g.1, fun i hi => g.2 i (by omega)⟩, fun g => ⟨g.1, fun i hi => g.2 i (by omega)⟩⟩
    have hm1 : mow A F1 0 1 l r := ⟨m1.2.1.1, x19, ⟨w0, w1⟩, ⟨o3, o6⟩, ⟨by rw [e10]; exact al_kn (by decide) o1, by rw [e10]; exact al_kn (by decide) o4⟩, ⟨o2, o5⟩, ⟨by decide, by decide⟩, h.2.1.2⟩
    have hm2 : mow A F1 1 0 r l := ⟨m1.2.1.1, x19, ⟨w1, w0⟩, ⟨o6, o3⟩, ⟨by rw [e10]; exact al_kn (by decide) o4, by rw [e10]; exact al_kn (by decide) o1⟩, ⟨o5, o2⟩, ⟨by decide, by decide⟩, h.2.1.2⟩
    have hrk1 : mrk F1 R := by unfold mrk; rw [e10, e1 1 (by decide) (by decide)]; exact hrk
    refine aw_loc at_156_22 rfl rfl ?_
    refine aw_pure (st' := ax_i (0) :: _) at_156_23 rfl rfl ?_
    refine aw_pure (st' := ax_i (1) :: _) at_156_24 rfl rfl ?_
    refine aw_cv (a := 432) [ax_i ((0 : Nat) : Int), ax_i ((1 : Nat) : Int)] [] at_156_25 mt_12_153 (Or.inl rfl) rfl rfl (Nat.le_of_ble_eq_true rfl) ⟨_, ho⟩ ((r_m_alike (d := d + 5) (t := 0) (s := 1) ho r9 x19 r10 (by decide) (by decide) z0 z1 (by omega) (by omega)).mono ?_)
    rintro v S0 ⟨hS, y, rfl, hy⟩
    have hS2 := hS.symm
    subst hS2
    have hyl := hy.le
    rw [← hal] at hy
    refine ax_if_eq at_156_28 ⟨by omega, by omega⟩ (fun y1 => ?_) (fun y1 => ?_)
    · skip
      have hne : l ≠ r := by rcases hy with ⟨-, h9⟩ | ⟨h9, -⟩; exact h9; omega
      refine aw_loc at_156_33 rfl rfl ?_
      refine aw_pure (st' := ax_i (0) :: _) at_156_34 rfl rfl ?_
      refine aw_pure (st' := ax_i (1) :: _) at_156_35 rfl rfl ?_
      refine aw_cv (a := 432) [ax_i ((0 : Nat) : Int), ax_i ((1 : Nat) : Int)] [] at_156_36 mt_12_229 (Or.inl rfl) rfl rfl (Nat.le_of_ble_eq_true rfl) ⟨_, ho⟩ ((r_m_gt (d := d) (A := A) (R := R) (t := 0) (s := 1) h2 hm1 hrk1).mono ?_)
      rintro v S3 ⟨f3, B3, h3, y3, rfl, hy3⟩
      have hyl3 := hy3.le
      have ho := h3.1
      refine ax_if_eq at_156_39 ⟨by omega, by omega⟩ (fun y4 => ?_) (fun y4 => ?_)
      · skip
        have hn1 : ¬ pgt A R l r := by rcases hy3 with ⟨-, h9⟩ | ⟨h9, -⟩; exact h9; omega
        refine aw_loc at_156_44 rfl rfl ?_
        refine aw_pure (st' := ax_i (1) :: _) at_156_45 rfl rfl ?_
        refine aw_pure (st' := ax_i (0) :: _) at_156_46 rfl rfl ?_
        refine aw_cv (a := 432) [ax_i ((1 : Nat) : Int), ax_i ((0 : Nat) : Int)] [] at_156_47 mt_12_229 (Or.inl rfl) rfl rfl (Nat.le_of_ble_eq_true rfl) ⟨_, ho⟩ ((r_m_gt (d := d) (A := A) (R := R) (t := 1) (s := 0) h3 hm2 hrk1).mono ?_)
        rintro v S4 ⟨f4, B4, h4, y5, rfl, hy5⟩
        have hyl5 := hy5.le
        refine ax_if_eq at_156_50 ⟨by omega, by omega⟩ (fun y6 => ?_) (fun y6 => ?_)
        · skip
          have hn2 : ¬ pgt A R r l := by rcases hy5 with ⟨-, h9⟩ | ⟨h9, -⟩; exact h9; omega
          refine aw_pure (st' := ax_i (2) :: _) at_156_57 rfl rfl ?_
          exact ax_ret at_156_58 rfl ⟨_, _, rfl, ((f1.tr f2).tr f3).tr f4, F1, B4, q1, Or.inr ⟨l, r, hg, 2, Or.inr (Or.inr (Or.inr ⟨hne, hn1, hn2, rfl⟩)), rfl, m2 _ _ h4⟩⟩
        · skip
          have hn2 : pgt A R r l := by rcases hy5 with ⟨h9, -⟩ | ⟨-, h9⟩; omega; exact h9
          refine aw_pure (st' := ax_i (-1) :: _) at_156_53 rfl rfl ?_
          refine aw_goto at_156_54 ?_
          exact ax_ret at_156_58 rfl ⟨_, _, rfl, ((f1.tr f2).tr f3).tr f4, F1, B4, q1, Or.inr ⟨l, r, hg, -1, Or.inr (Or.inr (Or.inl ⟨hne, hn1, hn2, rfl⟩)), rfl, m2 _ _ h4⟩⟩
      · skip
        have hn1 : pgt A R l r := by rcases hy3 with ⟨h9, -⟩ | ⟨-, h9⟩; omega; exact h9
        refine aw_pure (st' := ax_i (1) :: _) at_156_42 rfl rfl ?_
        exact ax_ret at_156_43 rfl ⟨_, _, rfl, (f1.tr f2).tr f3, F1, B3, q1, Or.inr ⟨l, r, hg, 1, Or.inr (Or.inl ⟨hne, hn1, rfl⟩), rfl, m2 _ _ h3⟩⟩
    · skip
      have heq : l = r := by rcases hy with ⟨h9, -⟩ | ⟨-, h9⟩; omega; exact h9
      refine aw_pure (st' := ax_i (0) :: _) at_156_31 rfl rfl ?_
      exact ax_ret at_156_32 rfl ⟨_, _, rfl, f1.tr f2, F1, B, q1, Or.inr ⟨l, r, hg, 0, Or.inl ⟨heq, rfl⟩, rfl, m2 _ _ h2⟩⟩
  · skip
    have hno := gp_no hm (by rcases hz with ⟨-, h9⟩ | ⟨h9, -⟩; exact h9; omega)
    refine aw_pure (st' := ax_i (1) :: _) at_156_8 rfl rfl ?_
    refine aw_goto at_156_9 ?_
    refine aw_pure (st' := ax_i (0) :: _) at_156_13 rfl rfl ?_
    refine aw_cv (a := 432) [ax_i 1, ax_i 0] [] at_156_14 mt_12_72 (Or.inl rfl) rfl rfl (Nat.le_of_ble_eq_true rfl) ⟨_, ho⟩ ((r_m_ref1 (d := d + 5) h1).mono ?_)
    rintro v S2 ⟨rfl, f2, h2⟩
    refine ax_if_eq at_156_17 ⟨by omega, by omega⟩ (fun z => absurd z (by decide)) (fun _ => ?_)
    refine aw_pure (st' := ax_i (0) :: _) at_156_20 rfl rfl ?_
    exact ax_ret at_156_21 rfl ⟨_, _, rfl, f1.tr f2, F1, B, q1, Or.inl ⟨hno, rfl, mgg_T m1 h2 (fun _ _ _ _ => rfl) m1.2.2.2.2.1 rfl⟩⟩
set_option maxHeartbeats 4000000 in
theorem r_m_norml {w : List Int} {y : Int} {z1 : Option Value} (hw : mwd (F 9) (F 10) 0 w) (hl : w.length ≤ 24) (hk : al (kn P 129) w) : ∀ (m j : Nat) (S1 : ai_S), j + m = w.length → fr 432 452 S S1 → mst S1 0 D (w.length : Int) (Rs.length : Int) (Vs.length : Int) kp sx sc (fup F 2 (ow (F 2) 0 (fun i => w.getD i 0) j)) B → ai_aw L xs (d + 1) ai_m155 (fun (o : ai_O) => ∃ v S', o = (.inl v, S') ∧ v = some (ax_i y) ∧ fr 432 452 S S' ∧ mst S' 0 D (w.length : Int) (Rs.length : Int) (Vs.length : Int) kp sx sc (fup F 2 (ow (F 2) 0 (fun i => w.getD i 0) w.length)) B) (64, [some (.ref 432), z1, some (ax_i y), some (ax_i (j : Nat))], [], S1) := by
  intro m
  induction m with
  | zero =>
    intro j S1 hj f1 h1
    have ho := h1.1
    have hjl : j = w.length := by omega
    subst hjl
    refine aw_loc at_155_64 rfl rfl ?_
    refine aw_loc at_155_65 rfl rfl ?_
    refine aw_get at_155_66 rfl fl_12_85 ho rfl ?_
    refine ax_icmp_ge at_155_69 ⟨by omega, by omega⟩ ⟨by omega, by omega⟩ (fun _ => ?_) (fun z => absurd z (by omega))
    show ai_aw L xs (d + 1) ai_m155 _ (93, _, _, _)
    refine aw_loc at_155_93 rfl rfl ?_
    exact ax_ret at_155_94 rfl ⟨_, _, rfl, rfl, f1, h1⟩
  | succ m ih =>
    intro j S1 hj f1 h1
    have ho := h1.1
    have r2 : ai_arr S1 435 0 = some (60, ax_f ((fup F 2 (ow (F 2) 0 (fun i => w.getD i 0) j)) 2)) := h1.2.1 2 (by decide)
    rw [fup_get] at r2
    have r9 : ai_arr S1 442 0 = some (192, ax_f ((fup F 2 (ow (F 2) 0 (fun i => w.getD i 0) j)) 9)) := h1.2.1 9 (by decide)
    rw [fup_ne (by decide)] at r9
    have hk9 := al_get hk (j := j) (by omega)
    refine aw_loc at_155_64 rfl rfl ?_
    refine aw_loc at_155_65 rfl rfl ?_
    refine aw_get at_155_66 rfl fl_12_85 ho rfl ?_
    refine ax_icmp_ge at_155_69 ⟨by omega, by omega⟩ ⟨by omega, by omega⟩ (fun z => absurd z (by omega)) (fun _ => ?_)
    refine aw_loc at_155_72 rfl rfl ?_
    refine aw_get at_155_73 rfl fl_12_16 ho rfl ?_
    refine aw_loc at_155_76 rfl rfl ?_
    refine aw_loc at_155_77 rfl rfl ?_
    refine aw_get at_155_78 rfl fl_12_37 ho rfl ?_
    refine aw_loc at_155_81 rfl rfl ?_
    refine ax_ild at_155_82 rfl r9 (k := j) rfl (by omega) (by decide) ?_
    rw [show F 9 j = co (w.getD j 0) from by have := hw.2 j (by omega) (by omega); rw [Nat.mul_zero, Nat.zero_add] at this; exact this]
    refine aw_cs [ax_i (co (w.getD j 0))] [ax_i (j : Nat), .ref 435] at_155_83 rfl mt_12_241 (Or.inl rfl) rfl rfl (Nat.le_of_ble_eq_true rfl) ((r_m_letter (d := d) ⟨(co_in hk9).1, by have := (co_in hk9).2.1; omega⟩).mono ?_)
    rintro v S0 ⟨hS, rfl⟩
    have hS2 := hS.symm
    subst hS2
    rw [lt_co hk9]
    refine ax_ist (k := j) at_155_86 rfl r2 rfl (by omega) (by decide) ?_
    have h2 : mst (ai_wr S1 435 (.inl (0, ai_I 60 (ax_f (ax_up (ow (F 2) 0 (fun i => w.getD i 0) j) j (w.getD j 0)))))) 0 D (w.length : Int) (Rs.length : Int) (Vs.length : Int) kp sx sc (fup (fup F 2 (ow (F 2) 0 (fun i => w.getD i 0) j)) 2 (ax_up (ow (F 2) 0 (fun i => w.getD i 0) j) j (w.getD j 0))) B := mst_wr (i := 2) h1 (by decide)
    rw [fup_two] at h2
    have e9 : ax_up (ow (F 2) 0 (fun i => w.getD i 0) j) j (w.getD j 0) = ow (F 2) 0 (fun i => w.getD i 0) (j + 1) := by have := ow_succ (F 2) 0 (fun i => w.getD i 0) j; rw [Nat.zero_add] at this; exact this
    rw [e9] at h2 ⊢
    have f2 : fr 432 452 S1 (ai_wr S1 435 (.inl (0, ai_I 60 (ax_f (ow (F 2) 0 (fun i => w.getD i 0) (j + 1)))))) := fr_md (by decide) (by decide)
    generalize (ai_wr S1 435 (.inl (0, ai_I 60 (ax_f (ow (F 2) 0 (fun i => w.getD i 0) (j + 1)))))) = S2 at h2 f2 ⊢
    refine ax_inc at_155_87 rfl rfl rfl ?_
    refine aw_goto at_155_90 ?_
    have hih := ih (j + 1) S2 (by omega) (f1.tr f2) h2
    rw [Int.natCast_add] at hih
    exact hih
set_option maxHeartbeats 16000000 in
theorem r_m_normalize (h : mgg S A T D (N : Int) Rs Vs kp sx sc F B) (hN : N ≤ 60) (hF2 : ∀ i, 0 ≤ F 2 i ∧ F 2 i < 65536) : ai_rn L xs (d + 6) 155 [.ref 432] S (fun v S' => fr 432 452 S S' ∧ ∃ F', (F' 0 = F 0 ∧ F' 1 = F 1) ∧ ((¬ okt A (F 0) (sl (F 2) 0 N) ∧ F' 2 = F 2 ∧ v = some (ax_i 0) ∧ mgg S' A 1 D (N : Int) Rs Vs kp sx sc F' B) ∨ (okt A (F 0) (sl (F 2) 0 N) ∧ nf A Rs 40 (sl (F 2) 0 N) = none ∧ F' 2 = F 2 ∧ v = some (ax_i 0) ∧ mgg S' A 2 D (N : Int) Rs Vs kp sx sc F' B) ∨ (okt A (F 0) (sl (F 2) 0 N) ∧ ∃ q, nf A Rs 40 (sl (F 2) 0 N) = some q ∧ v = some (ax_i (q.2 : Nat)) ∧ (∀ i, 0 ≤ F' 2 i ∧ F' 2 i < 65536) ∧ (∀ i, i < q.1.length → F' 2 i = q.1.getD i 0) ∧ mgg S' A 0 D (q.1.length : Int) Rs Vs kp sx sc F' B))) := by
  have ho := h.1.1
  have r0 : ai_arr S 433 0 = some (8, ax_f (F 0)) := h.1.2.1 0 (by decide)
  have r2 : ai_arr S 435 0 = some (60, ax_f (F 2)) := h.1.2.1 2 (by decide)
  have r9 : ai_arr S 442 0 = some (192, ax_f (F 9)) := h.1.2.1 9 (by decide)
  have r10 : ai_arr S 443 0 = some (3, ax_f (F 10)) := h.1.2.1 10 (by decide)
  have hPr := h.2.1.1.1
  have hsa := h.2.1.1.2
  refine ai_rn_of (M := ai_m155) rfl (by decide) (Nat.le_of_ble_eq_true rfl) ?_
  refine aw_loc at_155_0 rfl rfl ?_
  refine aw_pure (st' := ax_i (0) :: _) at_155_1 rfl rfl ?_
  refine aw_loc at_155_2 rfl rfl ?_
  refine aw_get at_155_3 rfl fl_12_85 ho rfl ?_
  refine aw_pure (st' := ax_i (0) :: _) at_155_6 rfl rfl ?_
  refine aw_cv (a := 432) [ax_i ((0 : Nat) : Int), ax_i (N : Nat), ax_i ((0 : Nat) : Int)] [] at_155_7 mt_12_99 (Or.inl rfl) rfl rfl (Nat.le_of_ble_eq_true rfl) ⟨_, ho⟩ ((r_m_reads (d := d + 3) (fr := 0) (to := N) (t := 0) ho r0 hPr r2 hF2 (by decide) hN (by omega) r9 r10).mono ?_)
  rintro v S1 ⟨jj, z, hj, hS1, rfl, hz, hzj, hjk⟩
  obtain ⟨X, hX⟩ : ∃ X, X = ow (F 9) (64 * 0) (fun i => cd (F 0) (F 2 (0 + i))) jj := ⟨_, rfl⟩
  obtain ⟨Z, hZ⟩ : ∃ Z, Z = ax_up (F 10) 0 (jj : Nat) := ⟨_, rfl⟩
  rw [← hX, ← hZ] at hS1
  have h1x : mst S1 T D (N : Int) (Rs.length : Int) (Vs.length : Int) kp sx sc (fup (fup F 9 X) 10 Z) B := by rw [hS1]; exact mst_mt h.1
  have f1 : fr 432 452 S S1 := by rw [hS1]; exact fr_mt
  clear hS1
  have x19 : xr X := by rw [hX]; exact ow_xr h.2.2.2.2.1 hjk
  have hv : vt (fun c => 0 ≤ cd (F 0) c) (fun c => ar (F 0) (cd (F 0) c)) (fun i => F 2 (0 + i)) (N - 0) ↔ okt A (F 0) (sl (F 2) 0 N) := by rw [vt_M hsa, sl_sh]; exact Iff.rfl
  rw [hv] at hz hzj
  have hzl := hz.le
  obtain ⟨F1, e1, rfl, rfl, h1⟩ : ∃ F1 : Nat → Nat → Int, (∀ i, i ≠ 9 → i ≠ 10 → F1 i = F i) ∧ F1 9 = X ∧ F1 10 = Z ∧ mst S1 T D (N : Int) (Rs.length : Int) (Vs.length : Int) kp sx sc F1 B := ⟨_, fun i a b => (fup_ne b).trans (fup_ne a), (fup_ne (by decide)).trans (fup_get _ _ _), fup_get _ _ _, h1x⟩
  have m1 : mgg S1 A T D (N : Int) Rs Vs kp sx sc F1 B := mgg_T h h1 (fun i _ _ hi => e1 i (by omega) (by omega)) x19 (e1 13 (by decide) (by decide))
  have ho := h1.1
  have e10 : F1 0 = F 0 := e1 0 (by decide) (by decide)
  have e11 : F1 1 = F 1 := e1 1 (by decide) (by decide)
  have e12 : F1 2 = F 2 := e1 2 (by decide) (by decide)
  refine aw_loc at_155_10 rfl rfl ?_
  refine aw_loc at_155_11 rfl rfl ?_
  refine ax_if_eq at_155_12 ⟨by omega, by omega⟩ (fun zz => ?_) (fun zz => ?_)
  · skip
    have hno : ¬ okt A (F 0) (sl (F 2) 0 N) := by rcases hz with ⟨-, h9⟩ | ⟨h9, -⟩; exact h9; omega
    refine aw_pure (st' := ax_i (0) :: _) at_155_23 rfl rfl ?_
    refine aw_loc at_155_24 rfl rfl ?_
    refine aw_loc at_155_25 rfl rfl ?_
    refine aw_loc at_155_26 rfl rfl ?_
    refine ax_if_ne at_155_27 ⟨by omega, by omega⟩ (fun z9 => absurd zz z9) (fun _ => ?_)
    refine aw_pure (st' := ax_i (1) :: _) at_155_30 rfl rfl ?_
    refine aw_goto at_155_31 ?_
    refine aw_loc at_155_35 rfl rfl ?_
    refine ax_if_ge at_155_36 ⟨by omega, by omega⟩ (fun _ => ?_) (fun z9 => absurd z9 (by decide))
    show ai_aw L xs (d + 5) ai_m155 _ (43, _, _, _)
    refine aw_pure (st' := ax_i (0) :: _) at_155_43 rfl rfl ?_
    refine aw_cv (a := 432) [ax_i 1, ax_i 0] [] at_155_44 mt_12_72 (Or.inl rfl) rfl rfl (Nat.le_of_ble_eq_true rfl) ⟨_, ho⟩ ((r_m_ref1 (d := d + 4) h1).mono ?_)
    rintro v S2 ⟨rfl, f2, h2⟩
    refine ax_if_eq at_155_47 ⟨by omega, by omega⟩ (fun z => absurd z (by decide)) (fun _ => ?_)
    refine aw_pure (st' := ax_i (0) :: _) at_155_50 rfl rfl ?_
    exact ax_ret at_155_51 rfl ⟨_, _, rfl, f1.tr f2, F1, ⟨e10, e11⟩, Or.inl ⟨hno, e12, rfl, mgg_T m1 h2 (fun _ _ _ _ => rfl) m1.2.2.2.2.1 rfl⟩⟩
  · skip
    have hg : okt A (F 0) (sl (F 2) 0 N) := by rcases hz with ⟨h9, -⟩ | ⟨-, h9⟩; omega; exact h9
    have hN24 : N ≤ 24 := by have := hg.2.2; rw [sl_len] at this; exact this
    have hjN : jj = N := hzj hg
    have w0 : mwd (F1 9) (F1 10) 0 (sl (F 2) 0 N) := ow_mwd hN24 hg.1 (F 9) (fun i hi => by rw [hX]; unfold ow; rw [if_pos ⟨by omega, by omega⟩]; exact congrArg (fun z => cd (F 0) (F 2 (0 + z))) (show 64 * 0 + i - 64 * 0 = i by omega)) (by rw [hZ, hjN]; exact if_pos rfl)
    have hR1 : ∀ q, q ∈ Rs → okr A (F1 0) q := by rw [e10]; exact h.2.2.1.2.2
    have hk1 : al (kn (F1 0) 129) (sl (F 2) 0 N) := by rw [e10]; exact al_kn (by decide) hg.1
    refine aw_loc at_155_15 rfl rfl ?_
    refine aw_pure (st' := ax_i (0) :: _) at_155_16 rfl rfl ?_
    refine aw_cv (a := 432) [ax_i ((0 : Nat) : Int)] [] at_155_17 mt_12_147 (Or.inl rfl) rfl rfl (Nat.le_of_ble_eq_true rfl) ⟨_, ho⟩ ((r_m_norm (d := d) (t := 0) h1 m1.2.1.1 (by decide) rfl h.2.2.1.2.1 m1.2.2.1.1 hR1 x19 (mwd_mwl w0) hk1 hg.2.1).mono ?_)
    rintro v S2 ⟨f2, F2, h2, e2, x2, -, y, rfl, hy⟩
    have ho := h2.1
    have e20 : F2 0 = F 0 := (e2 0 (by decide) (by decide) (by decide) (by decide)).trans e10
    have e21 : F2 1 = F 1 := (e2 1 (by decide) (by decide) (by decide) (by decide)).trans e11
    have e22 : F2 2 = F 2 := (e2 2 (by decide) (by decide) (by decide) (by decide)).trans e12
    have m2 : mgg S2 A T D (N : Int) Rs Vs kp sx sc F2 B := mgg_T m1 h2 (fun i _ _ hi => e2 i (by omega) (by omega) (by omega) (by omega)) x2 (e2 13 (by decide) (by decide) (by decide) (by decide))
    have hyb : -1 ≤ y ∧ y ≤ 40 := by rcases hy with ⟨-, h9, -⟩ | ⟨q, h8, h9, -⟩; omega; have := nf_le hsa.2 40 _ h8; omega
    refine aw_goto at_155_20 ?_
    refine aw_loc at_155_24 rfl rfl ?_
    refine aw_loc at_155_25 rfl rfl ?_
    refine aw_loc at_155_26 rfl rfl ?_
    refine ax_if_ne at_155_27 ⟨by omega, by omega⟩ (fun _ => ?_) (fun z9 => absurd z9 zz)
    show ai_aw L xs (d + 5) ai_m155 _ (34, _, _, _)
    refine aw_pure (st' := ax_i (0) :: _) at_155_34 rfl rfl ?_
    refine aw_loc at_155_35 rfl rfl ?_
    refine ax_if_ge at_155_36 ⟨by omega, by omega⟩ (fun z5 => ?_) (fun z5 => ?_)
    · skip
      obtain ⟨q, hq1, hq2, w2⟩ : ∃ q, nf A Rs 40 (sl (F 2) 0 N) = some q ∧ y = (q.2 : Int) ∧ mwd (F2 9) (F2 10) 0 q.1 := by rcases hy with ⟨-, h9, -⟩ | h9; omega; exact h9
      have hkn := nf_kn (x := q.1) (m := q.2) hsa.2 h.2.2.1.2.2 hg.2.1 hg.1 hq1
      refine aw_pure (st' := ax_i (0) :: _) at_155_43 rfl rfl ?_
      refine aw_cv (a := 432) [ax_i 0, ax_i 0] [] at_155_44 mt_12_72 (Or.inl rfl) rfl rfl (Nat.le_of_ble_eq_true rfl) ⟨_, ho⟩ ((r_m_ref0 (d := d + 4) h2).mono ?_)
      rintro v S3 ⟨rfl, f3, h3⟩
      refine ax_if_eq at_155_47 ⟨by omega, by omega⟩ (fun _ => ?_) (fun z => absurd rfl z)
      show ai_aw L xs (d + 5) ai_m155 _ (52, _, _, _)
      have ho := h3.1
      have r10 : ai_arr S3 443 0 = some (3, ax_f (F2 10)) := h3.2.1 10 (by decide)
      have z10 : F2 10 0 = (q.1.length : Int) := mwd_len w2 (by have := hkn.2.2; omega)
      refine aw_loc at_155_52 rfl rfl ?_
      refine aw_loc at_155_53 rfl rfl ?_
      refine aw_get at_155_54 rfl fl_12_40 ho rfl ?_
      refine aw_pure (st' := ax_i (0) :: _) at_155_57 rfl rfl ?_
      refine ax_ild at_155_58 rfl r10 (k := 0) rfl (by decide) (by decide) ?_
      rw [z10]
      refine aw_put at_155_59 rfl fl_12_85 h3.1 (Nat.le_of_ble_eq_true rfl) rfl (by decide +kernel) ?_
      have h4 : mst (ai_wr S3 432 (.inr (11, mf 0 D (q.1.length : Int) (Rs.length : Int) (Vs.length : Int) kp sx sc))) 0 D (q.1.length : Int) (Rs.length : Int) (Vs.length : Int) kp sx sc F2 B := mst_fl h3
      have f4 : fr 432 452 S3 (ai_wr S3 432 (.inr (11, mf 0 D (q.1.length : Int) (Rs.length : Int) (Vs.length : Int) kp sx sc))) := fr_md (by decide) (by decide)
      show ai_aw L xs (d + 5) ai_m155 _ (62, _, _, (ai_wr S3 432 (.inr (11, mf 0 D (q.1.length : Int) (Rs.length : Int) (Vs.length : Int) kp sx sc))))
      generalize (ai_wr S3 432 (.inr (11, mf 0 D (q.1.length : Int) (Rs.length : Int) (Vs.length : Int) kp sx sc))) = S4 at h4 f4 ⊢
      have ho := h4.1
      refine aw_pure (st' := ax_i (0) :: _) at_155_62 rfl rfl ?_
      refine aw_loc at_155_63 rfl rfl ?_
      have e9 : fup F2 2 (ow (F2 2) 0 (fun i => q.1.getD i 0) 0) = F2 := by rw [ow_zero, fup_self]
      refine ai_aw_mono (r_m_norml (d := d + 4) (S := S4) (F := F2) (B := B) (P := F 0) (w := q.1) w2 hkn.2.2 (al_kn (by decide) hkn.2.1) q.1.length 0 S4 (by omega) fr.rf (by rw [e9]; exact h4)) ?_
      rintro o ⟨v, S5, rfl, rfl, f5, h5⟩
      refine ⟨_, _, rfl, (((f1.tr f2).tr f3).tr f4).tr f5, fup F2 2 (ow (F2 2) 0 (fun i => q.1.getD i 0) q.1.length), ⟨(fup_ne (by decide)).trans e20, (fup_ne (by decide)).trans e21⟩, Or.inr (Or.inr ⟨hg, q, hq1, by rw [hq2], fun i => ?_, fun i hi => ?_, mgg_T m2 h5 (fun i _ h9 _ => fup_ne h9) (by rw [fup_ne (by decide)]; exact x2) (fup_ne (by decide))⟩)⟩
      · rw [fup_get]
        unfold ow
        split
        · rename_i hb
          have := kn_lt (al_get hkn.2.1 (j := i - 0) (by omega))
          dsimp only
          omega
        · rw [e22]; exact hF2 i
      · rw [fup_get]
        unfold ow
        rw [if_pos ⟨by omega, by omega⟩]
        rfl
    · skip
      have hno : nf A Rs 40 (sl (F 2) 0 N) = none := by rcases hy with ⟨h9, -, -⟩ | ⟨q, -, h9, -⟩; exact h9; omega
      refine aw_pure (st' := ax_i (1) :: _) at_155_39 rfl rfl ?_
      refine aw_goto at_155_40 ?_
      refine aw_cv (a := 432) [ax_i 0, ax_i 1] [] at_155_44 mt_12_72 (Or.inl rfl) rfl rfl (Nat.le_of_ble_eq_true rfl) ⟨_, ho⟩ ((r_m_ref2 (d := d + 4) h2).mono ?_)
      rintro v S3 ⟨rfl, f3, h3⟩
      refine ax_if_eq at_155_47 ⟨by omega, by omega⟩ (fun z => absurd z (by decide)) (fun _ => ?_)
      refine aw_pure (st' := ax_i (0) :: _) at_155_50 rfl rfl ?_
      exact ax_ret at_155_51 rfl ⟨_, _, rfl, (f1.tr f2).tr f3, F2, ⟨e20, e21⟩, Or.inr (Or.inl ⟨hg, hno, e22, rfl, mgg_T m2 h3 (fun _ _ _ _ => rfl) x2 rfl⟩)⟩
set_option maxHeartbeats 4000000 in
theorem r_m_complete1 {k : Int} {x : rls × rls × Int × Int} (hrk : mrk F R) (hk20 : 0 ≤ k ∧ k ≤ 20) : ∀ (m j : Nat) (S1 : ai_S) (Rs1 Vs1 : rls) (kp1 sx1 sc1 : Int) (F1 : Nat → Nat → Int) (B1 : Nat → Int), (j : Int) + m = k → fr 432 452 S S1 → eq3 F F1 → mgg S1 A 0 D n Rs1 Vs1 kp1 sx1 sc1 F1 B1 → 0 ≤ sx1 ∧ sx1 ≤ 3 → cst A R m Rs1 Vs1 sx1 sc1 = x → ai_aw L xs (d + 9) ai_m112 (fun (o : ai_O) => ∃ v S', o = (.inl v, S') ∧ v = some (ax_i (finz x.2.1 x.2.2.1)) ∧ fr 432 452 S S' ∧ ∃ F' B' kp', eq3 F F' ∧ mgg S' A 0 D n x.1 x.2.1 kp' x.2.2.1 x.2.2.2 F' B') (27, [some (.ref 432), some (ax_i k), some (ax_i (j : Nat))], [], S1) := by
  have kf : ∀ (S1 : ai_S) (Rs1 Vs1 : rls) (kp1 sx1 sc1 : Int) (F1 : Nat → Nat → Int) (B1 : Nat → Int) (j : Nat), x = (Rs1, Vs1, sx1, sc1) → fr 432 452 S S1 → eq3 F F1 → mgg S1 A 0 D n Rs1 Vs1 kp1 sx1 sc1 F1 B1 → 0 ≤ sx1 ∧ sx1 ≤ 3 → ai_aw L xs (d + 9) ai_m112 (fun (o : ai_O) => ∃ v S', o = (.inl v, S') ∧ v = some (ax_i (finz x.2.1 x.2.2.1)) ∧ fr 432 452 S S' ∧ ∃ F' B' kp', eq3 F F' ∧ mgg S' A 0 D n x.1 x.2.1 kp' x.2.2.1 x.2.2.2 F' B') (56, [some (.ref 432), some (ax_i k), some (ax_i (j : Nat))], [], S1) := by
    intro S1 Rs1 Vs1 kp1 sx1 sc1 F1 B1 j hx f1 q1 m1 hb
    subst hx
    have ho := m1.1.1
    have hl48 := m1.2.2.2.1.2.1
    refine aw_loc at_112_56 rfl rfl ?_
    refine aw_get at_112_57 rfl fl_12_150 ho rfl ?_
    refine ax_if_eq at_112_60 ⟨by omega, by omega⟩ (fun z => ?_) (fun z => ?_)
    · skip
      refine aw_loc at_112_70 rfl rfl ?_
      refine aw_get at_112_71 rfl fl_12_106 ho rfl ?_
      refine ax_if_le at_112_74 ⟨by omega, by omega⟩ (fun z2 => ?_) (fun z2 => ?_)
      · skip
        refine aw_pure (st' := ax_i (1) :: _) at_112_81 rfl rfl ?_
        exact ax_ret at_112_82 rfl ⟨_, _, rfl, by rw [show finz Vs1 sx1 = 1 by unfold finz; rw [if_pos z, if_neg (by omega)]], f1, F1, B1, kp1, q1, m1⟩
      · skip
        refine aw_pure (st' := ax_i (0) :: _) at_112_77 rfl rfl ?_
        refine aw_goto at_112_78 ?_
        exact ax_ret at_112_82 rfl ⟨_, _, rfl, by rw [show finz Vs1 sx1 = 0 by unfold finz; rw [if_pos z, if_pos (by omega)]], f1, F1, B1, kp1, q1, m1⟩
    · skip
      refine aw_loc at_112_63 rfl rfl ?_
      refine aw_get at_112_64 rfl fl_12_150 ho rfl ?_
      refine aw_goto at_112_67 ?_
      exact ax_ret at_112_82 rfl ⟨_, _, rfl, by rw [show finz Vs1 sx1 = sx1 by unfold finz; rw [if_neg z]], f1, F1, B1, kp1, q1, m1⟩
  intro m
  induction m with
  | zero =>
    intro j S1 Rs1 Vs1 kp1 sx1 sc1 F1 B1 hj f1 q1 m1 hb hx
    refine aw_loc at_112_27 rfl rfl ?_
    refine aw_loc at_112_28 rfl rfl ?_
    refine ax_icmp_ge at_112_29 ⟨by omega, by omega⟩ ⟨by omega, by omega⟩ (fun z => ?_) (fun z => absurd z (by omega))
    exact kf S1 Rs1 Vs1 kp1 sx1 sc1 F1 B1 j hx.symm f1 q1 m1 hb
  | succ m ih =>
    intro j S1 Rs1 Vs1 kp1 sx1 sc1 F1 B1 hj f1 q1 m1 hb hx
    have ho := m1.1.1
    have hl48 := m1.2.2.2.1.2.1
    refine aw_loc at_112_27 rfl rfl ?_
    refine aw_loc at_112_28 rfl rfl ?_
    refine ax_icmp_ge at_112_29 ⟨by omega, by omega⟩ ⟨by omega, by omega⟩ (fun z => absurd z (by omega)) (fun z => ?_)
    refine aw_loc at_112_32 rfl rfl ?_
    refine aw_get at_112_33 rfl fl_12_106 ho rfl ?_
    refine ax_if_le at_112_36 ⟨by omega, by omega⟩ (fun z2 => (by rw [cst_no (fun h9 => by have := h9.1; have := h9.2; omega)] at hx; exact kf S1 Rs1 Vs1 kp1 sx1 sc1 F1 B1 j hx.symm f1 q1 m1 hb)) (fun z2 => ?_)
    refine aw_loc at_112_39 rfl rfl ?_
    refine aw_get at_112_40 rfl fl_12_150 ho rfl ?_
    refine ax_if_ne at_112_43 ⟨by omega, by omega⟩ (fun z3 => (by rw [cst_no (fun h9 => by have := h9.1; have := h9.2; omega)] at hx; exact kf S1 Rs1 Vs1 kp1 sx1 sc1 F1 B1 j hx.symm f1 q1 m1 hb)) (fun z3 => ?_)
    subst z3
    have hrk1 : mrk F1 R := by unfold mrk; rw [q1 0 (by decide), q1 1 (by decide)]; exact hrk
    refine aw_loc at_112_46 rfl rfl ?_
    refine aw_cv (a := 432) [] [] at_112_47 mt_12_238 (Or.inl rfl) rfl rfl (Nat.le_of_ble_eq_true rfl) ⟨_, ho⟩ ((r_m_step (d := d) (R := R) m1 hrk1 (by omega)).mono ?_)
    rintro v S2 ⟨rfl, f2, F2, B2, kp2, q2, m2⟩
    rw [show cst A R (m + 1) Rs1 Vs1 0 sc1 = _ from if_pos ⟨rfl, by omega⟩] at hx
    refine ax_inc at_112_50 rfl rfl rfl ?_
    refine aw_goto at_112_53 ?_
    have hih := ih (j + 1) S2 _ _ kp2 _ _ F2 B2 (by omega) (f1.tr f2) (q1.tr q2) m2 (est_in _ _ _ _ _) hx
    rw [Int.natCast_add] at hih
    exact hih
set_option maxHeartbeats 4000000 in
theorem r_m_complete {k : Int} (h : mgg S A T D n Rs Vs kp sx sc F B) (hrk : mrk F R) (hx : 0 ≤ sx ∧ sx ≤ 3) (hkr : ax_R k) : ai_rn L xs (d + 10) 112 [.ref 432, ax_i k] S (fun v S' => fr 432 452 S S' ∧ (((k < 0 ∨ 20 < k) ∧ v = some (ax_i 0) ∧ mgg S' A 1 D n Rs Vs kp sx sc F B) ∨ (¬ (k < 0 ∨ 20 < k) ∧ v = some (ax_i (finz (cst A R k.toNat Rs Vs sx sc).2.1 (cst A R k.toNat Rs Vs sx sc).2.2.1)) ∧ ∃ F' B' kp', eq3 F F' ∧ mgg S' A 0 D n (cst A R k.toNat Rs Vs sx sc).1 (cst A R k.toNat Rs Vs sx sc).2.1 kp' (cst A R k.toNat Rs Vs sx sc).2.2.1 (cst A R k.toNat Rs Vs sx sc).2.2.2 F' B'))) := by
  have ho := h.1.1
  refine ai_rn_of (M := ai_m112) rfl (by decide) (Nat.le_of_ble_eq_true rfl) ?_
  have k11 : (k < 0 ∨ 20 < k) → ai_aw L xs (d + 9) ai_m112 (fun (o : ai_O) => ∃ v S', o = (.inl v, S') ∧ fr 432 452 S S' ∧ (((k < 0 ∨ 20 < k) ∧ v = some (ax_i 0) ∧ mgg S' A 1 D n Rs Vs kp sx sc F B) ∨ (¬ (k < 0 ∨ 20 < k) ∧ v = some (ax_i (finz (cst A R k.toNat Rs Vs sx sc).2.1 (cst A R k.toNat Rs Vs sx sc).2.2.1)) ∧ ∃ F' B' kp', eq3 F F' ∧ mgg S' A 0 D n (cst A R k.toNat Rs Vs sx sc).1 (cst A R k.toNat Rs Vs sx sc).2.1 kp' (cst A R k.toNat Rs Vs sx sc).2.2.1 (cst A R k.toNat Rs Vs sx sc).2.2.2 F' B'))) (11, ai_in ai_m112 [.ref 432, ax_i k], [.ref 432], S) := by
    intro hb
    refine aw_pure (st' := ax_i (1) :: _) at_112_11 rfl rfl ?_
    refine aw_goto at_112_12 ?_
    refine aw_pure (st' := ax_i (0) :: _) at_112_16 rfl rfl ?_
    refine aw_cv (a := 432) [ax_i 1, ax_i 0] [] at_112_17 mt_12_72 (Or.inl rfl) rfl rfl (Nat.le_of_ble_eq_true rfl) ⟨_, ho⟩ ((r_m_ref1 (d := d + 8) h.1).mono ?_)
    rintro v S1 ⟨rfl, f1, h1⟩
    refine ax_if_eq at_112_20 ⟨by omega, by omega⟩ (fun z => absurd z (by decide)) (fun _ => ?_)
    refine aw_pure (st' := ax_i (0) :: _) at_112_23 rfl rfl ?_
    exact ax_ret at_112_24 rfl ⟨_, _, rfl, f1, Or.inl ⟨hb, rfl, mgg_T h h1 (fun _ _ _ _ => rfl) h.2.2.2.2.1 rfl⟩⟩
  refine aw_loc at_112_0 rfl rfl ?_
  refine aw_loc at_112_1 rfl rfl ?_
  refine ax_if_lt at_112_2 hkr (fun z => k11 (by omega)) (fun z1 => ?_)
  refine aw_loc at_112_5 rfl rfl ?_
  refine aw_pure (st' := ax_i (20) :: _) at_112_6 rfl rfl ?_
  refine ax_icmp_le at_112_8 hkr ⟨by omega, by omega⟩ (fun z2 => ?_) (fun z => k11 (by omega))
  show ai_aw L xs (d + 9) ai_m112 _ (15, _, _, _)
  refine aw_pure (st' := ax_i (0) :: _) at_112_15 rfl rfl ?_
  refine aw_pure (st' := ax_i (0) :: _) at_112_16 rfl rfl ?_
  refine aw_cv (a := 432) [ax_i 0, ax_i 0] [] at_112_17 mt_12_72 (Or.inl rfl) rfl rfl (Nat.le_of_ble_eq_true rfl) ⟨_, ho⟩ ((r_m_ref0 (d := d + 8) h.1).mono ?_)
  rintro v S1 ⟨rfl, f1, h1⟩
  refine ax_if_eq at_112_20 ⟨by omega, by omega⟩ (fun _ => ?_) (fun z => absurd rfl z)
  show ai_aw L xs (d + 9) ai_m112 _ (25, _, _, _)
  refine aw_pure (st' := ax_i (0) :: _) at_112_25 rfl rfl ?_
  refine aw_loc at_112_26 rfl rfl ?_
  have m1 : mgg S1 A 0 D n Rs Vs kp sx sc F B := mgg_T h h1 (fun _ _ _ _ => rfl) h.2.2.2.2.1 rfl
  refine ai_aw_mono (r_m_complete1 (d := d) (S := S1) (F := F) (R := R) (x := (cst A R k.toNat Rs Vs sx sc)) hrk ⟨z1, z2⟩ k.toNat 0 S1 Rs Vs kp sx sc F B (by omega) fr.rf (fun _ _ => rfl) m1 hx rfl) ?_
  rintro o ⟨v, S5, rfl, rfl, f5, F5, B5, kp5, q5, m5⟩
  exact ⟨_, _, rfl, f1.tr f5, Or.inr ⟨by omega, rfl, F5, B5, kp5, q5, m5⟩⟩
end MD

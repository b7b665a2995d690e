/-! The reference: a new rule. -/
section ME
variable {L : Nat} {xs : Nat → Int32} {d : Nat} {S S' : ai_S} {T D n rc wt kp sx sc : Int} {F : Nat → Nat → Int} {B : Nat → Int} {P : Nat → Int} {A : Int → Nat} {Rs Vs : rls}
theorem mkl_kpt {F F' : Nat → Nat → Int} {ks : rls} (h : mkl F ks) (hk : kpt F F') : mkl F' ks := fun j hj => hk _ _ (by omega) (h j hj)
theorem eqo.e3 {F F' : Nat → Nat → Int} (h : eqo F F') : eq3 F F' := fun i hi => h i (by omega)
theorem at_131_0 : ai_at ai_m131 0 = some (.aload_n 0, 1) := rfl
theorem at_131_1 : ai_at ai_m131 1 = some (.bipush 14, 2) := rfl
theorem at_131_3 : ai_at ai_m131 3 = some (.invokevirtual 205, 3) := rfl
theorem at_131_6 : ai_at ai_m131 6 = some (.aload_n 0, 1) := rfl
theorem at_131_7 : ai_at ai_m131 7 = some (.invokevirtual 208, 3) := rfl
theorem at_131_10 : ai_at ai_m131 10 = some (.aload_n 0, 1) := rfl
theorem at_131_11 : ai_at ai_m131 11 = some (.getfield 113, 3) := rfl
theorem at_131_14 : ai_at ai_m131 14 = some (.istore_n 1, 1) := rfl
theorem at_131_15 : ai_at ai_m131 15 = some (.aload_n 0, 1) := rfl
theorem at_131_16 : ai_at ai_m131 16 = some (.bipush 14, 2) := rfl
theorem at_131_18 : ai_at ai_m131 18 = some (.invokevirtual 199, 3) := rfl
theorem at_131_21 : ai_at ai_m131 21 = some (.aload_n 0, 1) := rfl
theorem at_131_22 : ai_at ai_m131 22 = some (.iload_n 1, 1) := rfl
theorem at_131_23 : ai_at ai_m131 23 = some (.invokevirtual 205, 3) := rfl
theorem at_131_26 : ai_at ai_m131 26 = some (.aload_n 0, 1) := rfl
theorem at_131_27 : ai_at ai_m131 27 = some (.dup, 1) := rfl
theorem at_131_28 : ai_at ai_m131 28 = some (.getfield 113, 3) := rfl
theorem at_131_31 : ai_at ai_m131 31 = some (.iconst 1, 1) := rfl
theorem at_131_32 : ai_at ai_m131 32 = some (.iadd, 1) := rfl
theorem at_131_33 : ai_at ai_m131 33 = some (.putfield 113, 3) := rfl
theorem at_131_36 : ai_at ai_m131 36 = some (.aload_n 0, 1) := rfl
theorem at_131_37 : ai_at ai_m131 37 = some (.invokevirtual 211, 3) := rfl
theorem at_131_40 : ai_at ai_m131 40 = some (.iconst 0, 1) := rfl
theorem at_131_41 : ai_at ai_m131 41 = some (.istore_n 2, 1) := rfl
theorem at_131_42 : ai_at ai_m131 42 = some (.iload_n 2, 1) := rfl
theorem at_131_43 : ai_at ai_m131 43 = some (.aload_n 0, 1) := rfl
theorem at_131_44 : ai_at ai_m131 44 = some (.getfield 196, 3) := rfl
theorem at_131_47 : ai_at ai_m131 47 = some (.if_icmp .ge 28, 3) := rfl
theorem at_131_50 : ai_at ai_m131 50 = some (.aload_n 0, 1) := rfl
theorem at_131_51 : ai_at ai_m131 51 = some (.getfield 150, 3) := rfl
theorem at_131_54 : ai_at ai_m131 54 = some (.ifCond .ne 21, 3) := rfl
theorem at_131_57 : ai_at ai_m131 57 = some (.aload_n 0, 1) := rfl
theorem at_131_58 : ai_at ai_m131 58 = some (.bipush 48, 2) := rfl
theorem at_131_60 : ai_at ai_m131 60 = some (.iload_n 2, 1) := rfl
theorem at_131_61 : ai_at ai_m131 61 = some (.iadd, 1) := rfl
theorem at_131_62 : ai_at ai_m131 62 = some (.invokevirtual 214, 3) := rfl
theorem at_131_65 : ai_at ai_m131 65 = some (.aload_n 0, 1) := rfl
theorem at_131_66 : ai_at ai_m131 66 = some (.invokevirtual 193, 3) := rfl
theorem at_131_69 : ai_at ai_m131 69 = some (.iinc 2 1, 3) := rfl
theorem at_131_72 : ai_at ai_m131 72 = some (.goto (-30), 3) := rfl
theorem at_131_75 : ai_at ai_m131 75 = some (.iconst 0, 1) := rfl
theorem at_131_76 : ai_at ai_m131 76 = some (.istore_n 2, 1) := rfl
theorem at_131_77 : ai_at ai_m131 77 = some (.iload_n 2, 1) := rfl
theorem at_131_78 : ai_at ai_m131 78 = some (.aload_n 0, 1) := rfl
theorem at_131_79 : ai_at ai_m131 79 = some (.getfield 113, 3) := rfl
theorem at_131_82 : ai_at ai_m131 82 = some (.if_icmp .ge 40, 3) := rfl
theorem at_131_85 : ai_at ai_m131 85 = some (.aload_n 0, 1) := rfl
theorem at_131_86 : ai_at ai_m131 86 = some (.getfield 150, 3) := rfl
theorem at_131_89 : ai_at ai_m131 89 = some (.ifCond .ne 33, 3) := rfl
theorem at_131_92 : ai_at ai_m131 92 = some (.aload_n 0, 1) := rfl
theorem at_131_93 : ai_at ai_m131 93 = some (.iload_n 1, 1) := rfl
theorem at_131_94 : ai_at ai_m131 94 = some (.iload_n 2, 1) := rfl
theorem at_131_95 : ai_at ai_m131 95 = some (.invokevirtual 217, 3) := rfl
theorem at_131_98 : ai_at ai_m131 98 = some (.iload_n 2, 1) := rfl
theorem at_131_99 : ai_at ai_m131 99 = some (.iload_n 1, 1) := rfl
theorem at_131_100 : ai_at ai_m131 100 = some (.if_icmp .eq 16, 3) := rfl
theorem at_131_103 : ai_at ai_m131 103 = some (.aload_n 0, 1) := rfl
theorem at_131_104 : ai_at ai_m131 104 = some (.getfield 150, 3) := rfl
theorem at_131_107 : ai_at ai_m131 107 = some (.ifCond .ne 9, 3) := rfl
theorem at_131_110 : ai_at ai_m131 110 = some (.aload_n 0, 1) := rfl
theorem at_131_111 : ai_at ai_m131 111 = some (.iload_n 2, 1) := rfl
theorem at_131_112 : ai_at ai_m131 112 = some (.iload_n 1, 1) := rfl
theorem at_131_113 : ai_at ai_m131 113 = some (.invokevirtual 217, 3) := rfl
theorem at_131_116 : ai_at ai_m131 116 = some (.iinc 2 1, 3) := rfl
theorem at_131_119 : ai_at ai_m131 119 = some (.goto (-42), 3) := rfl
theorem at_131_122 : ai_at ai_m131 122 = some (.return_, 1) := rfl
theorem mt_12_208 : ai_mth 12 208 = some (0, 133, 0, 11) := by decide +kernel
theorem mt_12_211 : ai_mth 12 211 = some (0, 136, 0, 11) := by decide +kernel
theorem mt_12_214 : ai_mth 12 214 = some (0, 115, 1, 11) := by decide +kernel
theorem mt_12_217 : ai_mth 12 217 = some (0, 140, 2, 11) := by decide +kernel
set_option maxHeartbeats 16000000 in
theorem r_m_ent2 {R : rls} {last : Nat} {res : rls × Int} (hR : R.length = last + 1) : ∀ (j k : Nat) (S1 : ai_S) (F1 : Nat → Nat → Int) (V : rls), k + j = last → fr 432 452 S S1 → eq3 F F1 → mgg S1 A T D n R V kp 0 sc F1 B → ((ovi A R last (2 * k) (2 * j + 1) V).1, if (ovi A R last (2 * k) (2 * j + 1) V).2 = true then (0 : Int) else 3) = res → ai_aw L xs (d + 7) ai_m131 (fun (o : ai_O) => ∃ v S', o = (.inl v, S') ∧ v = none ∧ fr 432 452 S S' ∧ ∃ F', eq3 F F' ∧ mgg S' A T D n R res.1 kp res.2 sc F' B) (77, [some (.ref 432), some (ax_i (last : Nat)), some (ax_i (k : Nat))], [], S1) := by
  have kfull : ∀ (S1 : ai_S) (F1 : Nat → Nat → Int) (V : rls) (k : Nat), k ≤ 15 → fr 432 452 S S1 → eq3 F F1 → mgg S1 A T D n R V kp 3 sc F1 B → res = (V, 3) → ai_aw L xs (d + 7) ai_m131 (fun (o : ai_O) => ∃ v S', o = (.inl v, S') ∧ v = none ∧ fr 432 452 S S' ∧ ∃ F', eq3 F F' ∧ mgg S' A T D n R res.1 kp res.2 sc F' B) (77, [some (.ref 432), some (ax_i (last : Nat)), some (ax_i (k : Nat))], [], S1) := by
    intro S1 F1 V k hk f1 e1 h1 hres
    have hl := h1.2.2.1.2.1
    have ho := h1.1.1
    have ko : ai_aw L xs (d + 7) ai_m131 (fun (o : ai_O) => ∃ v S', o = (.inl v, S') ∧ v = none ∧ fr 432 452 S S' ∧ ∃ F', eq3 F F' ∧ mgg S' A T D n R res.1 kp res.2 sc F' B) (122, [some (.ref 432), some (ax_i (last : Nat)), some (ax_i (k : Nat))], [], S1) := aw_vret at_131_122 rfl ⟨_, _, rfl, rfl, f1, F1, e1, by rw [hres]; exact h1⟩
    refine aw_loc at_131_77 rfl rfl ?_
    refine aw_loc at_131_78 rfl rfl ?_
    refine aw_get at_131_79 rfl fl_12_113 ho rfl ?_
    refine ax_icmp_ge at_131_82 ⟨by omega, by omega⟩ ⟨by omega, by omega⟩ (fun _ => ko) (fun _ => ?_)
    refine aw_loc at_131_85 rfl rfl ?_
    refine aw_get at_131_86 rfl fl_12_150 ho rfl ?_
    refine ax_if_ne at_131_89 ⟨by decide, by decide⟩ (fun _ => ko) (fun z => absurd z (by decide))
  intro j
  induction j with
  | zero =>
    intro k S1 F1 V hk f1 e1 h1 hres
    have hl := h1.2.2.1.2.1
    have ho := h1.1.1
    refine aw_loc at_131_77 rfl rfl ?_
    refine aw_loc at_131_78 rfl rfl ?_
    refine aw_get at_131_79 rfl fl_12_113 ho rfl ?_
    refine ax_icmp_ge at_131_82 ⟨by omega, by omega⟩ ⟨by omega, by omega⟩ (fun z => absurd z (by omega)) (fun _ => ?_)
    refine aw_loc at_131_85 rfl rfl ?_
    refine aw_get at_131_86 rfl fl_12_150 ho rfl ?_
    refine ax_if_ne at_131_89 ⟨by decide, by decide⟩ (fun z => absurd rfl z) (fun _ => ?_)
    refine aw_loc at_131_92 rfl rfl ?_
    refine aw_loc at_131_93 rfl rfl ?_
    refine aw_loc at_131_94 rfl rfl ?_
    refine aw_cv (a := 432) [ax_i (last : Nat), ax_i (k : Nat)] [] at_131_95 mt_12_217 (Or.inl rfl) rfl rfl (Nat.le_of_ble_eq_true rfl) ⟨_, ho⟩ ((r_m_ovl (d := d) h1 (by omega) (by omega)).mono ?_)
    rintro v S2 ⟨rfl, f2, F2, e2, -, h2⟩
    have ho := h2.1.1
    obtain rfl : k = last := by omega
    have hov : ovi A R k (2 * k) 1 V = (if (ovr A R k k V).2 = true then ((ovr A R k k V).1, true) else ((ovr A R k k V).1, false)) := by
      unfold ovi
      rw [if_pos (show 2 * k % 2 = 0 by omega), if_pos (show 2 * k % 2 = 0 by omega), show 2 * k / 2 = k by omega]
      rfl
    have hr1 : res = ((ovr A R k k V).1, if (ovr A R k k V).2 = true then 0 else 3) := by
      rw [← hres, hov]
      split <;> rfl
    have sxr : (if (ovr A R k k V).2 = true then (0 : Int) else 3) = 0 ∨ (if (ovr A R k k V).2 = true then (0 : Int) else 3) = 3 := by split; exact Or.inl rfl; exact Or.inr rfl
    refine aw_loc at_131_98 rfl rfl ?_
    refine aw_loc at_131_99 rfl rfl ?_
    refine ax_icmp_eq at_131_100 ⟨by omega, by omega⟩ ⟨by omega, by omega⟩ (fun _ => ?_) (fun z => absurd rfl z)
    show ai_aw L xs (d + 7) ai_m131 _ (116, _, _, _)
    refine ax_inc at_131_116 rfl rfl rfl ?_
    refine aw_goto at_131_119 ?_
    refine aw_loc at_131_77 rfl rfl ?_
    refine aw_loc at_131_78 rfl rfl ?_
    refine aw_get at_131_79 rfl fl_12_113 ho rfl ?_
    refine ax_icmp_ge at_131_82 ⟨by omega, by omega⟩ ⟨by omega, by omega⟩ (fun _ => ?_) (fun z => absurd z (by omega))
    show ai_aw L xs (d + 7) ai_m131 _ (122, _, _, _)
    exact aw_vret at_131_122 rfl ⟨_, _, rfl, rfl, f1.tr f2, F2, e1.tr e2.e3, by rw [hr1]; exact h2⟩
  | succ j ih =>
    intro k S1 F1 V hk f1 e1 h1 hres
    have hl := h1.2.2.1.2.1
    have ho := h1.1.1
    refine aw_loc at_131_77 rfl rfl ?_
    refine aw_loc at_131_78 rfl rfl ?_
    refine aw_get at_131_79 rfl fl_12_113 ho rfl ?_
    refine ax_icmp_ge at_131_82 ⟨by omega, by omega⟩ ⟨by omega, by omega⟩ (fun z => absurd z (by omega)) (fun _ => ?_)
    refine aw_loc at_131_85 rfl rfl ?_
    refine aw_get at_131_86 rfl fl_12_150 ho rfl ?_
    refine ax_if_ne at_131_89 ⟨by decide, by decide⟩ (fun z => absurd rfl z) (fun _ => ?_)
    refine aw_loc at_131_92 rfl rfl ?_
    refine aw_loc at_131_93 rfl rfl ?_
    refine aw_loc at_131_94 rfl rfl ?_
    refine aw_cv (a := 432) [ax_i (last : Nat), ax_i (k : Nat)] [] at_131_95 mt_12_217 (Or.inl rfl) rfl rfl (Nat.le_of_ble_eq_true rfl) ⟨_, ho⟩ ((r_m_ovl (d := d) h1 (by omega) (by omega)).mono ?_)
    rintro v S2 ⟨rfl, f2, F2, e2, -, h2⟩
    have ho := h2.1.1
    have hov : ovi A R last (2 * k) (2 * (j + 1) + 1) V = (if (ovr A R last k V).2 = true then ovi A R last (2 * k + 1) (2 * (j + 1)) (ovr A R last k V).1 else ((ovr A R last k V).1, false)) := by
      conv => lhs; unfold ovi
      rw [if_pos (show 2 * k % 2 = 0 by omega), if_pos (show 2 * k % 2 = 0 by omega), show 2 * k / 2 = k by omega]
    rw [hov] at hres
    have kdone : ∀ (S3 : ai_S) (F3 : Nat → Nat → Int) (V3 : rls), fr 432 452 S S3 → eq3 F F3 → mgg S3 A T D n R V3 kp 3 sc F3 B → res = (V3, 3) → ai_aw L xs (d + 7) ai_m131 (fun (o : ai_O) => ∃ v S', o = (.inl v, S') ∧ v = none ∧ fr 432 452 S S' ∧ ∃ F', eq3 F F' ∧ mgg S' A T D n R res.1 kp res.2 sc F' B) (116, [some (.ref 432), some (ax_i (last : Nat)), some (ax_i (k : Nat))], [], S3) := by
      intro S3 F3 V3 g1 g2 g3 g4
      refine ax_inc at_131_116 rfl rfl rfl ?_
      refine aw_goto at_131_119 ?_
      rw [show (k : Int) + 1 = ((k + 1 : Nat) : Int) by omega]
      exact kfull S3 F3 V3 (k + 1) (by omega) g1 g2 g3 g4
    refine aw_loc at_131_98 rfl rfl ?_
    refine aw_loc at_131_99 rfl rfl ?_
    refine ax_icmp_eq at_131_100 ⟨by omega, by omega⟩ ⟨by omega, by omega⟩ (fun z => absurd z (by omega)) (fun _ => ?_)
    by_cases hb : (ovr A R last k V).2 = true
    · skip
      rw [if_pos hb] at hres h2
      have ho := h2.1.1
      refine aw_loc at_131_103 rfl rfl ?_
      refine aw_get at_131_104 rfl fl_12_150 ho rfl ?_
      refine ax_if_ne at_131_107 ⟨by decide, by decide⟩ (fun z => absurd rfl z) (fun _ => ?_)
      refine aw_loc at_131_110 rfl rfl ?_
      refine aw_loc at_131_111 rfl rfl ?_
      refine aw_loc at_131_112 rfl rfl ?_
      refine aw_cv (a := 432) [ax_i (k : Nat), ax_i (last : Nat)] [] at_131_113 mt_12_217 (Or.inl rfl) rfl rfl (Nat.le_of_ble_eq_true rfl) ⟨_, ho⟩ ((r_m_ovl (d := d) h2 (by omega) (by omega)).mono ?_)
      rintro v S3 ⟨rfl, f3, F3, e3, -, h3⟩
      generalize hV2 : (ovr A R last k V).1 = V2 at h2 h3 hres
      have hov2 : ovi A R last (2 * k + 1) (2 * (j + 1)) V2 = (if (ovr A R k last V2).2 = true then ovi A R last (2 * (k + 1)) (2 * j + 1) (ovr A R k last V2).1 else ((ovr A R k last V2).1, false)) := by
        show ovi A R last (2 * k + 1) (2 * j + 1 + 1) V2 = _
        conv => lhs; unfold ovi
        rw [if_neg (show ¬ (2 * k + 1) % 2 = 0 by omega), if_neg (show ¬ (2 * k + 1) % 2 = 0 by omega), show (2 * k + 1) / 2 = k by omega, show 2 * k + 1 + 1 = 2 * (k + 1) by omega]
      rw [hov2] at hres
      by_cases hb2 : (ovr A R k last V2).2 = true
      · rw [if_pos hb2] at hres h3
        refine ax_inc at_131_116 rfl rfl rfl ?_
        refine aw_goto at_131_119 ?_
        rw [show (k : Int) + 1 = ((k + 1 : Nat) : Int) by omega]
        exact ih (k + 1) S3 F3 _ (by omega) ((f1.tr f2).tr f3) ((e1.tr e2.e3).tr e3.e3) h3 hres
      · rw [if_neg hb2] at hres h3
        exact kdone S3 F3 _ ((f1.tr f2).tr f3) ((e1.tr e2.e3).tr e3.e3) h3 hres.symm
    · skip
      rw [if_neg hb] at hres h2
      have ho := h2.1.1
      refine aw_loc at_131_103 rfl rfl ?_
      refine aw_get at_131_104 rfl fl_12_150 ho rfl ?_
      refine ax_if_ne at_131_107 ⟨by decide, by decide⟩ (fun _ => ?_) (fun z => absurd z (by decide))
      exact kdone S2 F2 _ (f1.tr f2) (e1.tr e2.e3) h2 hres.symm
set_option maxHeartbeats 16000000 in
theorem r_m_ent1 {R ks : rls} {last : Nat} {res : rls × Int} (hR : R.length = last + 1) (hkl14 : ks.length < 14) (hks : ∀ q, q ∈ ks → okv A (F 0) q) : ∀ (m k : Nat) (S1 : ai_S) (F1 : Nat → Nat → Int) (V : rls), k + m = ks.length → fr 432 452 S S1 → eq3 F F1 → mkl F1 ks → mgg S1 A T D n R V (ks.length : Int) 0 sc F1 B → (if (ada A R V (ks.drop k)).2 = true then ((ovi A R last 0 (2 * last + 1) (ada A R V (ks.drop k)).1).1, if (ovi A R last 0 (2 * last + 1) (ada A R V (ks.drop k)).1).2 = true then (0 : Int) else 3) else ((ada A R V (ks.drop k)).1, 3)) = res → ai_aw L xs (d + 7) ai_m131 (fun (o : ai_O) => ∃ v S', o = (.inl v, S') ∧ v = none ∧ fr 432 452 S S' ∧ ∃ F', eq3 F F' ∧ mgg S' A T D n R res.1 (ks.length : Int) res.2 sc F' B) (42, [some (.ref 432), some (ax_i (last : Nat)), some (ax_i (k : Nat))], [], S1) := by
  have kfull : ∀ (S1 : ai_S) (F1 : Nat → Nat → Int) (V : rls) (k : Nat), k ≤ 15 → fr 432 452 S S1 → eq3 F F1 → mgg S1 A T D n R V (ks.length : Int) 3 sc F1 B → res = (V, 3) → ai_aw L xs (d + 7) ai_m131 (fun (o : ai_O) => ∃ v S', o = (.inl v, S') ∧ v = none ∧ fr 432 452 S S' ∧ ∃ F', eq3 F F' ∧ mgg S' A T D n R res.1 (ks.length : Int) res.2 sc F' B) (42, [some (.ref 432), some (ax_i (last : Nat)), some (ax_i (k : Nat))], [], S1) := by
    intro S1 F1 V k hk f1 e1 h1 hres
    have hl := h1.2.2.1.2.1
    have ho := h1.1.1
    have ko2 : ∀ k : Nat, ai_aw L xs (d + 7) ai_m131 (fun (o : ai_O) => ∃ v S', o = (.inl v, S') ∧ v = none ∧ fr 432 452 S S' ∧ ∃ F', eq3 F F' ∧ mgg S' A T D n R res.1 (ks.length : Int) res.2 sc F' B) (122, [some (.ref 432), some (ax_i (last : Nat)), some (ax_i (k : Nat))], [], S1) := fun k => aw_vret at_131_122 rfl ⟨_, _, rfl, rfl, f1, F1, e1, by rw [hres]; exact h1⟩
    have ko : ai_aw L xs (d + 7) ai_m131 (fun (o : ai_O) => ∃ v S', o = (.inl v, S') ∧ v = none ∧ fr 432 452 S S' ∧ ∃ F', eq3 F F' ∧ mgg S' A T D n R res.1 (ks.length : Int) res.2 sc F' B) (75, [some (.ref 432), some (ax_i (last : Nat)), some (ax_i (k : Nat))], [], S1) := by
      refine aw_pure (st' := ax_i (0) :: _) at_131_75 rfl rfl ?_
      refine aw_loc at_131_76 rfl rfl ?_
      refine aw_loc at_131_77 rfl rfl ?_
      refine aw_loc at_131_78 rfl rfl ?_
      refine aw_get at_131_79 rfl fl_12_113 ho rfl ?_
      refine ax_icmp_ge at_131_82 ⟨by decide, by decide⟩ ⟨by omega, by omega⟩ (fun _ => ko2 0) (fun _ => ?_)
      refine aw_loc at_131_85 rfl rfl ?_
      refine aw_get at_131_86 rfl fl_12_150 ho rfl ?_
      refine ax_if_ne at_131_89 ⟨by decide, by decide⟩ (fun _ => ko2 0) (fun z => absurd z (by decide))
    refine aw_loc at_131_42 rfl rfl ?_
    refine aw_loc at_131_43 rfl rfl ?_
    refine aw_get at_131_44 rfl fl_12_196 ho rfl ?_
    refine ax_icmp_ge at_131_47 ⟨by omega, by omega⟩ ⟨by omega, by omega⟩ (fun _ => ko) (fun _ => ?_)
    refine aw_loc at_131_50 rfl rfl ?_
    refine aw_get at_131_51 rfl fl_12_150 ho rfl ?_
    refine ax_if_ne at_131_54 ⟨by decide, by decide⟩ (fun _ => ko) (fun z => absurd z (by decide))
  intro m
  induction m with
  | zero =>
    intro k S1 F1 V hk f1 e1 hkl h1 hres
    have ho := h1.1.1
    obtain rfl : k = ks.length := by omega
    rw [List.drop_length] at hres
    have hr2 := hres
    refine aw_loc at_131_42 rfl rfl ?_
    refine aw_loc at_131_43 rfl rfl ?_
    refine aw_get at_131_44 rfl fl_12_196 ho rfl ?_
    refine ax_icmp_ge at_131_47 ⟨by omega, by omega⟩ ⟨by omega, by omega⟩ (fun _ => ?_) (fun z => absurd z (by omega))
    show ai_aw L xs (d + 7) ai_m131 _ (75, _, _, _)
    refine aw_pure (st' := ax_i (0) :: _) at_131_75 rfl rfl ?_
    refine aw_loc at_131_76 rfl rfl ?_
    exact r_m_ent2 hR last 0 S1 F1 V (by omega) f1 e1 h1 hr2
  | succ m ih =>
    intro k S1 F1 V hk f1 e1 hkl h1 hres
    have ho := h1.1.1
    have hd : ks.drop k = ks.getD k q_no :: ks.drop (k + 1) := by rw [List.getD_eq_getElem?_getD, List.getElem?_eq_getElem (show k < ks.length by omega)]; exact List.drop_eq_getElem_cons (by omega)
    have hqx := hkl k (by omega)
    have hxo := hks _ (ind_mem (show k < ks.length by omega))
    have z0 : F1 0 = F 0 := e1 0 (by decide)
    rw [hd] at hres
    generalize ks.getD k q_no = x at hqx hxo hres
    rw [← z0] at hxo
    have hA := h1.2.1.1.2.2
    refine aw_loc at_131_42 rfl rfl ?_
    refine aw_loc at_131_43 rfl rfl ?_
    refine aw_get at_131_44 rfl fl_12_196 ho rfl ?_
    refine ax_icmp_ge at_131_47 ⟨by omega, by omega⟩ ⟨by omega, by omega⟩ (fun z => absurd z (by omega)) (fun _ => ?_)
    refine aw_loc at_131_50 rfl rfl ?_
    refine aw_get at_131_51 rfl fl_12_150 ho rfl ?_
    refine ax_if_ne at_131_54 ⟨by decide, by decide⟩ (fun z => absurd rfl z) (fun _ => ?_)
    refine aw_loc at_131_57 rfl rfl ?_
    refine aw_pure (st' := ax_i (48) :: _) at_131_58 rfl rfl ?_
    refine aw_loc at_131_60 rfl rfl ?_
    refine ax_add at_131_61 rfl ?_
    rw [show (48 : Int) + (k : Int) = ((48 + k : Nat) : Int) by omega]
    refine aw_cv (a := 432) [ax_i ((48 + k : Nat) : Int)] [] at_131_62 mt_12_214 (Or.inl rfl) rfl rfl (Nat.le_of_ble_eq_true rfl) ⟨_, ho⟩ ((r_m_getP (d := d + 6) (P := F1 0) h1.1 hqx (by omega) h1.2.2.2.2.1 (al_kn (by decide) hxo.2.2.1.1) (al_kn (by decide) hxo.2.2.1.2)).mono ?_)
    rintro v S2 ⟨rfl, f2, X, Z, h2x, w0, w1, hxX⟩
    obtain ⟨F2, e2, rfl, rfl, h2⟩ : ∃ F2 : Nat → Nat → Int, (∀ i, i ≠ 9 → i ≠ 10 → F2 i = F1 i) ∧ F2 9 = X ∧ F2 10 = Z ∧ mst S2 T D n (R.length : Int) (V.length : Int) (ks.length : Int) 0 sc F2 B := ⟨_, fun i a b => (fup_ne b).trans (fup_ne a), (fup_ne (by decide)).trans (fup_get _ _ _), fup_get _ _ _, h2x⟩
    have e29 : ∀ i, i < 9 → F2 i = F1 i := fun i hi => e2 i (by omega) (by omega)
    have m2 : mgg S2 A T D n R V (ks.length : Int) 0 sc F2 B := mgg_st h1 h2 e29 hxX (e2 13 (by decide) (by decide))
    have z2 : F2 0 = F1 0 := e29 0 (by decide)
    have ho := h2.1
    have k1 : al (kn (F2 0) 129) x.1 := by rw [z2]; exact al_kn (by decide) hxo.2.2.1.1
    have k2 : al (kn (F2 0) 129) x.2 := by rw [z2]; exact al_kn (by decide) hxo.2.2.1.2
    refine aw_loc at_131_65 rfl rfl ?_
    refine aw_cv (a := 432) [] [] at_131_66 mt_12_193 (Or.inl rfl) rfl rfl (Nat.le_of_ble_eq_true rfl) ⟨_, ho⟩ ((r_m_add (d := d + 1) h2 m2.2.1.1 rfl m2.2.2.1.2.1 m2.2.2.1.1 m2.2.2.1.2.2 m2.2.2.2.1.1 rfl m2.2.2.2.1.2.1 m2.2.2.2.1.2.2 hxX m2.2.2.2.2.2.1 (mwd_mwl w0) (mwd_mwl w1) hxo.1.1 hxo.1.2 k1 k2).mono ?_)
    rintro v S3 ⟨rfl, f3, F3, e3, x39, x36, kp3, h3⟩
    have eo := e3.o
    have b0 : F3 0 = F2 0 := eo 0 (by decide)
    have x313 : xr (F3 13) := by rw [show F3 13 = F2 13 from e3 13 (by decide) (by decide) (by decide) (by decide) (by decide) (by decide) (by decide) (by decide)]; exact m2.2.2.2.2.2.2
    have f13 := (f1.tr f2).tr f3
    have e13 : eq3 F F3 := (e1.tr (fun i hi => e29 i (by omega))).tr eo.e3
    have kl3 := mkl_kpt hkl ((kpt.eq e29).tr kp3)
    refine ax_inc at_131_69 rfl rfl rfl ?_
    refine aw_goto at_131_72 ?_
    rw [show (k : Int) + 1 = ((k + 1 : Nat) : Int) by omega]
    rcases h3 with ⟨h8, hm8, hv8⟩ | ⟨V', h8, hm8, hv8⟩
    · refine kfull S3 F3 V (k + 1) (by omega) f13 e13 ⟨hm8, ⟨mpk_eqo eo m2.2.1.1, m2.2.1.2⟩, ⟨mrl_eqo eo m2.2.2.1.1, m2.2.2.1.2.1, by rw [b0]; exact m2.2.2.1.2.2⟩, ⟨hv8, m2.2.2.2.1.2.1, by rw [b0]; exact m2.2.2.2.1.2.2⟩, x39, x36, x313⟩ ?_
      have ha : ada A R V (x :: ks.drop (k + 1)) = (V, false) := by unfold ada; rw [h8]
      rw [ha] at hres
      exact hres.symm
    · have hk8 := ah_okv hA m2.2.2.1.2.2 m2.2.2.2.1.2.2 hxo.1.1 hxo.1.2 k1 k2 h8
      have ha : ada A R V (x :: ks.drop (k + 1)) = ada A R V' (ks.drop (k + 1)) := by conv => lhs; unfold ada; rw [h8]
      rw [ha] at hres
      exact ih (k + 1) S3 F3 V' (by omega) f13 e13 kl3 ⟨hm8, ⟨mpk_eqo eo m2.2.1.1, m2.2.1.2⟩, ⟨mrl_eqo eo m2.2.2.1.1, m2.2.2.1.2.1, by rw [b0]; exact m2.2.2.1.2.2⟩, ⟨hv8, hk8.2 m2.2.2.2.1.2.1, by rw [b0]; exact hk8.1⟩, x39, x36, x313⟩ hres
set_option maxHeartbeats 16000000 in
theorem r_m_enter {q : List Int × List Int} (h : mgg S A T D n Rs Vs kp 0 sc F B) (w0 : mwd (F 9) (F 10) 0 q.1) (w1 : mwd (F 9) (F 10) 1 q.2) (hqo : okr A (F 0) q) (hlR : Rs.length < 14) : ai_rn L xs (d + 8) 131 [.ref 432] S (fun v S' => v = none ∧ fr 432 452 S S' ∧ ∃ F', eq3 F F' ∧ ∃ kp', mgg S' A T D n (ent A Rs Vs q).1 (ent A Rs Vs q).2.1 kp' (ent A Rs Vs q).2.2 sc F' B) := by
  have ho := h.1.1
  have hA := h.2.1.1.2.2
  have hks : ∀ x, x ∈ (Rs.filter fun x => hib A q.1 x.1) → okv A (F 0) x := fun x hx => (h.2.2.1.2.2 x (List.mem_filter.1 hx).1).1
  have hkl14 : (Rs.filter fun x => hib A q.1 x.1).length < 14 := by have := List.length_filter_le (fun x : List Int × List Int => hib A q.1 x.1) Rs; omega
  have hWl : (Rs.filter fun x => !hib A q.1 x.1).length < 14 := by have := List.length_filter_le (fun x : List Int × List Int => !hib A q.1 x.1) Rs; omega
  refine ai_rn_of (M := ai_m131) rfl (by decide) (Nat.le_of_ble_eq_true rfl) ?_
  refine aw_loc at_131_0 rfl rfl ?_
  refine aw_pure (st' := ax_i (14) :: _) at_131_1 rfl rfl ?_
  refine aw_cv (a := 432) [ax_i ((14 : Nat) : Int)] [] at_131_3 mt_12_205 (Or.inl rfl) rfl rfl (Nat.le_of_ble_eq_true rfl) ⟨_, ho⟩ ((r_m_setR (d := d + 6) (P := F 0) (k := 14) h.1 w0 w1 hqo.1.2.1.1 hqo.1.2.1.2 (by decide)).mono ?_)
  rintro v S1 ⟨rfl, f1, F1, h1x, e1, s1, t1, -⟩
  have z10 : F1 0 = F 0 := e1 0 (by decide) (by decide) (by decide)
  have z16 : F1 6 = F 6 := e1 6 (by decide) (by decide) (by decide)
  have z17 : F1 7 = F 7 := e1 7 (by decide) (by decide) (by decide)
  have z18 : F1 8 = F 8 := e1 8 (by decide) (by decide) (by decide)
  have z19 : F1 9 = F 9 := e1 9 (by decide) (by decide) (by decide)
  have z113 : F1 13 = F 13 := e1 13 (by decide) (by decide) (by decide)
  have m1 : mgg S1 A T D n Rs Vs kp 0 sc F1 B := ⟨h1x, ⟨by unfold mpk; rw [z10]; exact h.2.1.1, h.2.1.2⟩, ⟨fun j hj => t1 j _ (by omega) (h.2.2.1.1 j hj), h.2.2.1.2.1, by rw [z10]; exact h.2.2.1.2.2⟩, ⟨fun j hj => by rw [z16, z17, z18]; exact h.2.2.2.1.1 j hj, h.2.2.2.1.2.1, by rw [z10]; exact h.2.2.2.1.2.2⟩, by rw [z19]; exact h.2.2.2.2.1, by rw [z16]; exact h.2.2.2.2.2.1, by rw [z113]; exact h.2.2.2.2.2.2⟩
  have ho := m1.1.1
  refine aw_loc at_131_6 rfl rfl ?_
  refine aw_cv (a := 432) [] [] at_131_7 mt_12_208 (Or.inl rfl) rfl rfl (Nat.le_of_ble_eq_true rfl) ⟨_, ho⟩ ((r_m_prune (d := d + 3) m1 (by rw [z10]; exact hqo) s1 hlR).mono ?_)
  rintro v S2 ⟨rfl, f2, F2, e2, q2, kl2, m2⟩
  generalize hks9 : (Rs.filter fun x => hib A q.1 x.1) = ks at hks hkl14 kl2 m2
  generalize hW9 : (Rs.filter fun x => !hib A q.1 x.1) = W at hWl m2
  have z20 : F2 0 = F 0 := (e2 0 (by decide)).trans z10
  have ho := m2.1.1
  refine aw_loc at_131_10 rfl rfl ?_
  refine aw_get at_131_11 rfl fl_12_113 ho rfl ?_
  refine aw_loc at_131_14 rfl rfl ?_
  refine aw_loc at_131_15 rfl rfl ?_
  refine aw_pure (st' := ax_i (14) :: _) at_131_16 rfl rfl ?_
  refine aw_cv (a := 432) [ax_i ((14 : Nat) : Int)] [] at_131_18 mt_12_199 (Or.inl rfl) rfl rfl (Nat.le_of_ble_eq_true rfl) ⟨_, ho⟩ ((r_m_getR (d := d + 6) (P := F 0) (k := 14) m2.1 q2 (by decide) m2.2.2.2.2.1 (al_kn (by decide) hqo.1.2.2.1.1) (al_kn (by decide) hqo.1.2.2.1.2)).mono ?_)
  rintro v S3 ⟨rfl, f3, X, Z, h3x, w03, w13, hxX⟩
  obtain ⟨F3, e3, rfl, rfl, h3⟩ : ∃ F3 : Nat → Nat → Int, (∀ i, i ≠ 9 → i ≠ 10 → F3 i = F2 i) ∧ F3 9 = X ∧ F3 10 = Z ∧ mst S3 T D n (W.length : Int) (Vs.length : Int) (ks.length : Int) 0 sc F3 B := ⟨_, fun i a b => (fup_ne b).trans (fup_ne a), (fup_ne (by decide)).trans (fup_get _ _ _), fup_get _ _ _, h3x⟩
  have ho := h3.1
  refine aw_loc at_131_21 rfl rfl ?_
  refine aw_loc at_131_22 rfl rfl ?_
  refine aw_cv (a := 432) [ax_i (W.length : Nat)] [] at_131_23 mt_12_205 (Or.inl rfl) rfl rfl (Nat.le_of_ble_eq_true rfl) ⟨_, ho⟩ ((r_m_setR (d := d + 6) (P := F 0) (k := W.length) h3 w03 w13 hqo.1.2.1.1 hqo.1.2.1.2 (by omega)).mono ?_)
  rintro v S4 ⟨rfl, f4, F4, h4, e4, s4, t4, -⟩
  have ho := h4.1
  refine aw_loc at_131_26 rfl rfl ?_
  refine aw_pure at_131_27 rfl rfl ?_
  refine aw_get at_131_28 rfl fl_12_113 ho rfl ?_
  refine aw_pure (st' := ax_i (1) :: _) at_131_31 rfl rfl ?_
  refine ax_add at_131_32 rfl ?_
  refine aw_put at_131_33 rfl fl_12_113 ho (Nat.le_of_ble_eq_true rfl) rfl (by decide +kernel) ?_
  have h5 : mst (ai_wr S4 432 (.inr (11, mf T D n ((W.length : Int) + 1) (Vs.length : Int) (ks.length : Int) 0 sc))) T D n ((W.length : Int) + 1) (Vs.length : Int) (ks.length : Int) 0 sc F4 B := mst_fl h4
  have f5 : fr 432 452 S (ai_wr S4 432 (.inr (11, mf T D n ((W.length : Int) + 1) (Vs.length : Int) (ks.length : Int) 0 sc))) := ((((f1.tr f2).tr f3).tr f4)).tr (fr_md (by decide) (by decide))
  show ai_aw L xs (d + 7) ai_m131 _ (36, _, _, (ai_wr S4 432 (.inr (11, mf T D n ((W.length : Int) + 1) (Vs.length : Int) (ks.length : Int) 0 sc))))
  generalize (ai_wr S4 432 (.inr (11, mf T D n ((W.length : Int) + 1) (Vs.length : Int) (ks.length : Int) 0 sc))) = S5 at h5 f5 ⊢
  have z40 : F4 0 = F2 0 := (e4 0 (by decide) (by decide) (by decide)).trans (e3 0 (by decide) (by decide))
  have z46 : F4 6 = F2 6 := (e4 6 (by decide) (by decide) (by decide)).trans (e3 6 (by decide) (by decide))
  have z47 : F4 7 = F2 7 := (e4 7 (by decide) (by decide) (by decide)).trans (e3 7 (by decide) (by decide))
  have z48 : F4 8 = F2 8 := (e4 8 (by decide) (by decide) (by decide)).trans (e3 8 (by decide) (by decide))
  have z413 : F4 13 = F2 13 := (e4 13 (by decide) (by decide) (by decide)).trans (e3 13 (by decide) (by decide))
  have z49 : F4 9 = F3 9 := e4 9 (by decide) (by decide) (by decide)
  have hl9 : (W ++ [q]).length = W.length + 1 := by rw [List.length_append, List.length_singleton]
  have m5 : mgg S5 A T D n (W ++ [q]) Vs (ks.length : Int) 0 sc F4 B := by
    refine ⟨by rw [hl9, Int.natCast_add]; exact h5, ⟨by unfold mpk; rw [z40]; exact m2.2.1.1, m2.2.1.2⟩, ⟨fun j hj => ?_, by omega, fun x hx => ?_⟩, ⟨fun j hj => by rw [z46, z47, z48]; exact m2.2.2.2.1.1 j hj, m2.2.2.2.1.2.1, by rw [z40]; exact m2.2.2.2.1.2.2⟩, by rw [z49]; exact hxX, by rw [z46]; exact m2.2.2.2.2.2.1, by rw [z413]; exact m2.2.2.2.2.2.2⟩
    · rw [hl9] at hj
      rw [snoc_get hj]
      by_cases hjk : j = W.length
      · rw [if_pos hjk, hjk]; exact s4
      · rw [if_neg hjk]; exact t4 j _ hjk (by rw [e3 3 (by decide) (by decide), e3 4 (by decide) (by decide), e3 5 (by decide) (by decide)]; exact m2.2.2.1.1 j (by omega))
    · rw [z40]
      rcases List.mem_append.1 hx with g | g
      · exact m2.2.2.1.2.2 x g
      · rw [List.mem_singleton.1 g, z20]; exact hqo
  have e35 : eq3 F F4 := fun i hi => ((e4 i (by omega) (by omega) (by omega)).trans (e3 i (by omega) (by omega))).trans ((e2 i hi).trans (e1 i (by omega) (by omega) (by omega)))
  have kl4 : mkl F4 ks := fun j hj => by rw [z46, z47, z48]; exact kl2 j hj
  have ho := m5.1.1
  refine aw_loc at_131_36 rfl rfl ?_
  refine aw_cv (a := 432) [] [] at_131_37 mt_12_211 (Or.inl rfl) rfl rfl (Nat.le_of_ble_eq_true rfl) ⟨_, ho⟩ ((r_m_red (d := d + 1) m5 (by omega)).mono ?_)
  rintro v S6 ⟨rfl, f6, F6, e6, k6, m6⟩
  have hent : ent A Rs Vs q = (if (stl A 0 W.length (W ++ [q])).2 = true then (if (ada A (stl A 0 W.length (W ++ [q])).1 Vs ks).2 = true then ((stl A 0 W.length (W ++ [q])).1, (ovi A (stl A 0 W.length (W ++ [q])).1 ((stl A 0 W.length (W ++ [q])).1.length - 1) 0 (2 * ((stl A 0 W.length (W ++ [q])).1.length - 1) + 1) (ada A (stl A 0 W.length (W ++ [q])).1 Vs ks).1).1, if (ovi A (stl A 0 W.length (W ++ [q])).1 ((stl A 0 W.length (W ++ [q])).1.length - 1) 0 (2 * ((stl A 0 W.length (W ++ [q])).1.length - 1) + 1) (ada A (stl A 0 W.length (W ++ [q])).1 Vs ks).1).2 = true then 0 else 3) else ((stl A 0 W.length (W ++ [q])).1, (ada A (stl A 0 W.length (W ++ [q])).1 Vs ks).1, 3)) else ((stl A 0 W.length (W ++ [q])).1, Vs, 3)) := by rw [← hks9, ← hW9]; rfl
  rw [show (W ++ [q]).length - 1 = W.length by omega] at m6
  have hsl := (stl_okr (P := F4 0) hA W.length 0 (W ++ [q]) (by omega) m5.2.2.1.2.2).2
  generalize stl A 0 W.length (W ++ [q]) = s at m6 hent hsl
  have hsl2 : s.1.length = W.length + 1 := hsl.trans hl9
  rw [hsl2, Nat.add_sub_cancel] at hent
  have f56 := f5.tr f6
  have e36 := e35.tr e6
  have ho := m6.1.1
  refine aw_pure (st' := ax_i (0) :: _) at_131_40 rfl rfl ?_
  refine aw_loc at_131_41 rfl rfl ?_
  by_cases hb : s.2 = true
  · skip
    rw [if_pos hb] at m6 hent
    refine ai_aw_mono (r_m_ent1 (res := (if (ada A s.1 Vs (ks.drop 0)).2 = true then ((ovi A s.1 W.length 0 (2 * W.length + 1) (ada A s.1 Vs (ks.drop 0)).1).1, if (ovi A s.1 W.length 0 (2 * W.length + 1) (ada A s.1 Vs (ks.drop 0)).1).2 = true then (0 : Int) else 3) else ((ada A s.1 Vs (ks.drop 0)).1, 3))) hsl2 hkl14 hks ks.length 0 S6 F6 Vs (by omega) f56 e36 (mkl_kpt kl4 k6) m6 rfl) ?_
    rintro o ⟨v, S7, rfl, rfl, f7, F7, e7, m7⟩
    refine ⟨_, _, rfl, rfl, f7, F7, e7, (ks.length : Int), ?_⟩
    rw [hent]
    rw [List.drop_zero] at m7
    by_cases hb2 : (ada A s.1 Vs ks).2 = true
    · rw [if_pos hb2] at m7 ⊢; exact m7
    · rw [if_neg hb2] at m7 ⊢; exact m7
  · skip
    rw [if_neg hb] at m6 hent
    have ho := m6.1.1
    have hl := m6.2.2.1.2.1
    have ko : ∀ k : Nat, ai_aw L xs (d + 7) ai_m131 (fun (o : ai_O) => ∃ v S', o = (.inl v, S') ∧ v = none ∧ fr 432 452 S S' ∧ ∃ F', eq3 F F' ∧ ∃ kp', mgg S' A T D n (ent A Rs Vs q).1 (ent A Rs Vs q).2.1 kp' (ent A Rs Vs q).2.2 sc F' B) (122, [some (.ref 432), some (ax_i (W.length : Nat)), some (ax_i (k : Nat))], [], S6) := fun k => aw_vret at_131_122 rfl ⟨_, _, rfl, rfl, f56, F6, e36, _, by rw [hent]; exact m6⟩
    have k75 : ∀ k : Nat, ai_aw L xs (d + 7) ai_m131 (fun (o : ai_O) => ∃ v S', o = (.inl v, S') ∧ v = none ∧ fr 432 452 S S' ∧ ∃ F', eq3 F F' ∧ ∃ kp', mgg S' A T D n (ent A Rs Vs q).1 (ent A Rs Vs q).2.1 kp' (ent A Rs Vs q).2.2 sc F' B) (75, [some (.ref 432), some (ax_i (W.length : Nat)), some (ax_i (k : Nat))], [], S6) := by
      intro k
      refine aw_pure (st' := ax_i (0) :: _) at_131_75 rfl rfl ?_
      refine aw_loc at_131_76 rfl rfl ?_
      refine aw_loc at_131_77 rfl rfl ?_
      refine aw_loc at_131_78 rfl rfl ?_
      refine aw_get at_131_79 rfl fl_12_113 ho rfl ?_
      refine ax_icmp_ge at_131_82 ⟨by decide, by decide⟩ ⟨by omega, by omega⟩ (fun _ => ko 0) (fun _ => ?_)
      refine aw_loc at_131_85 rfl rfl ?_
      refine aw_get at_131_86 rfl fl_12_150 ho rfl ?_
      refine ax_if_ne at_131_89 ⟨by decide, by decide⟩ (fun _ => ko 0) (fun z => absurd z (by decide))
    refine aw_loc at_131_42 rfl rfl ?_
    refine aw_loc at_131_43 rfl rfl ?_
    refine aw_get at_131_44 rfl fl_12_196 ho rfl ?_
    refine ax_icmp_ge at_131_47 ⟨by decide, by decide⟩ ⟨by omega, by omega⟩ (fun _ => k75 0) (fun _ => ?_)
    refine aw_loc at_131_50 rfl rfl ?_
    refine aw_get at_131_51 rfl fl_12_150 ho rfl ?_
    refine ax_if_ne at_131_54 ⟨by decide, by decide⟩ (fun _ => k75 0) (fun z => absurd z (by decide))
end ME

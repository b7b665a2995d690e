/-! The reference: a step. -/
section MX
variable {L : Nat} {xs : Nat → Int32} {d : Nat} {S S' : ai_S} {T D n rc wt kp sx sc : Int} {F : Nat → Nat → Int} {B : Nat → Int} {P : Nat → Int} {A : Int → Nat} {Rs Vs : rls} {R : Int → Int}
theorem mgg_b {S1 : ai_S} {F' : Nat → Nat → Int} {B' : Nat → Int} {kp' sx' sc' : Int} (h : mgg S A T D n Rs Vs kp sx sc F B) (h1 : mst S1 T D n (Rs.length : Int) (Vs.length : Int) kp' sx' sc' F' B') (he : ∀ i, i < 9 → F' i = F i) (x9 : xr (F' 9)) (x13 : F' 13 = F 13) : mgg S1 A T D n Rs Vs kp' sx' sc' F' B' :=
  ⟨h1, ⟨mpk_eqo (eqo_9 he) h.2.1.1, h.2.1.2⟩, ⟨mrl_eqo (eqo_9 he) h.2.2.1.1, h.2.2.1.2.1, by rw [he 0 (by decide)]; exact h.2.2.1.2.2⟩, ⟨mpl_eq he h.2.2.2.1.1, h.2.2.2.1.2.1, by rw [he 0 (by decide)]; exact h.2.2.2.1.2.2⟩, x9, by rw [he 6 (by decide)]; exact h.2.2.2.2.2.1, by rw [x13]; exact h.2.2.2.2.2.2⟩
theorem at_113_0 : ai_at ai_m113 0 = some (.aload_n 0, 1) := rfl
theorem at_113_1 : ai_at ai_m113 1 = some (.dup, 1) := rfl
theorem at_113_2 : ai_at ai_m113 2 = some (.getfield 220, 3) := rfl
theorem at_113_5 : ai_at ai_m113 5 = some (.iconst 1, 1) := rfl
theorem at_113_6 : ai_at ai_m113 6 = some (.iadd, 1) := rfl
theorem at_113_7 : ai_at ai_m113 7 = some (.putfield 220, 3) := rfl
theorem at_113_10 : ai_at ai_m113 10 = some (.aload_n 0, 1) := rfl
theorem at_113_11 : ai_at ai_m113 11 = some (.invokevirtual 223, 3) := rfl
theorem at_113_14 : ai_at ai_m113 14 = some (.istore_n 1, 1) := rfl
theorem at_113_15 : ai_at ai_m113 15 = some (.aload_n 0, 1) := rfl
theorem at_113_16 : ai_at ai_m113 16 = some (.iload_n 1, 1) := rfl
theorem at_113_17 : ai_at ai_m113 17 = some (.invokevirtual 214, 3) := rfl
theorem at_113_20 : ai_at ai_m113 20 = some (.aload_n 0, 1) := rfl
theorem at_113_21 : ai_at ai_m113 21 = some (.iload_n 1, 1) := rfl
theorem at_113_22 : ai_at ai_m113 22 = some (.invokevirtual 226, 3) := rfl
theorem at_113_25 : ai_at ai_m113 25 = some (.aload_n 0, 1) := rfl
theorem at_113_26 : ai_at ai_m113 26 = some (.iconst 0, 1) := rfl
theorem at_113_27 : ai_at ai_m113 27 = some (.invokevirtual 147, 3) := rfl
theorem at_113_30 : ai_at ai_m113 30 = some (.ifCond .lt 11, 3) := rfl
theorem at_113_33 : ai_at ai_m113 33 = some (.aload_n 0, 1) := rfl
theorem at_113_34 : ai_at ai_m113 34 = some (.iconst 1, 1) := rfl
theorem at_113_35 : ai_at ai_m113 35 = some (.invokevirtual 147, 3) := rfl
theorem at_113_38 : ai_at ai_m113 38 = some (.ifCond .ge 9, 3) := rfl
theorem at_113_41 : ai_at ai_m113 41 = some (.aload_n 0, 1) := rfl
theorem at_113_42 : ai_at ai_m113 42 = some (.iconst 3, 1) := rfl
theorem at_113_43 : ai_at ai_m113 43 = some (.putfield 150, 3) := rfl
theorem at_113_46 : ai_at ai_m113 46 = some (.return_, 1) := rfl
theorem at_113_47 : ai_at ai_m113 47 = some (.aload_n 0, 1) := rfl
theorem at_113_48 : ai_at ai_m113 48 = some (.iconst 0, 1) := rfl
theorem at_113_49 : ai_at ai_m113 49 = some (.iconst 1, 1) := rfl
theorem at_113_50 : ai_at ai_m113 50 = some (.invokevirtual 153, 3) := rfl
theorem at_113_53 : ai_at ai_m113 53 = some (.ifCond .eq 4, 3) := rfl
theorem at_113_56 : ai_at ai_m113 56 = some (.return_, 1) := rfl
theorem at_113_57 : ai_at ai_m113 57 = some (.aload_n 0, 1) := rfl
theorem at_113_58 : ai_at ai_m113 58 = some (.iconst 0, 1) := rfl
theorem at_113_59 : ai_at ai_m113 59 = some (.iconst 1, 1) := rfl
theorem at_113_60 : ai_at ai_m113 60 = some (.invokevirtual 229, 3) := rfl
theorem at_113_63 : ai_at ai_m113 63 = some (.istore_n 2, 1) := rfl
theorem at_113_64 : ai_at ai_m113 64 = some (.iload_n 2, 1) := rfl
theorem at_113_65 : ai_at ai_m113 65 = some (.ifCond .ne 18, 3) := rfl
theorem at_113_68 : ai_at ai_m113 68 = some (.aload_n 0, 1) := rfl
theorem at_113_69 : ai_at ai_m113 69 = some (.iconst 1, 1) := rfl
theorem at_113_70 : ai_at ai_m113 70 = some (.iconst 0, 1) := rfl
theorem at_113_71 : ai_at ai_m113 71 = some (.invokevirtual 229, 3) := rfl
theorem at_113_74 : ai_at ai_m113 74 = some (.ifCond .ne 9, 3) := rfl
theorem at_113_77 : ai_at ai_m113 77 = some (.aload_n 0, 1) := rfl
theorem at_113_78 : ai_at ai_m113 78 = some (.iconst 2, 1) := rfl
theorem at_113_79 : ai_at ai_m113 79 = some (.putfield 150, 3) := rfl
theorem at_113_82 : ai_at ai_m113 82 = some (.return_, 1) := rfl
theorem at_113_83 : ai_at ai_m113 83 = some (.iload_n 2, 1) := rfl
theorem at_113_84 : ai_at ai_m113 84 = some (.ifCond .ne 7, 3) := rfl
theorem at_113_87 : ai_at ai_m113 87 = some (.aload_n 0, 1) := rfl
theorem at_113_88 : ai_at ai_m113 88 = some (.invokevirtual 165, 3) := rfl
theorem at_113_91 : ai_at ai_m113 91 = some (.aload_n 0, 1) := rfl
theorem at_113_92 : ai_at ai_m113 92 = some (.invokevirtual 157, 3) := rfl
theorem at_113_95 : ai_at ai_m113 95 = some (.istore_n 3, 1) := rfl
theorem at_113_96 : ai_at ai_m113 96 = some (.aload_n 0, 1) := rfl
theorem at_113_97 : ai_at ai_m113 97 = some (.getfield 113, 3) := rfl
theorem at_113_100 : ai_at ai_m113 100 = some (.bipush 14, 2) := rfl
theorem at_113_102 : ai_at ai_m113 102 = some (.if_icmp .ne 9, 3) := rfl
theorem at_113_105 : ai_at ai_m113 105 = some (.aload_n 0, 1) := rfl
theorem at_113_106 : ai_at ai_m113 106 = some (.iconst 3, 1) := rfl
theorem at_113_107 : ai_at ai_m113 107 = some (.putfield 150, 3) := rfl
theorem at_113_110 : ai_at ai_m113 110 = some (.return_, 1) := rfl
theorem at_113_111 : ai_at ai_m113 111 = some (.aload_n 0, 1) := rfl
theorem at_113_112 : ai_at ai_m113 112 = some (.invokevirtual 232, 3) := rfl
theorem at_113_115 : ai_at ai_m113 115 = some (.return_, 1) := rfl
theorem mt_12_223 : ai_mth 12 223 = some (0, 114, 0, 11) := by decide +kernel
theorem mt_12_226 : ai_mth 12 226 = some (0, 116, 1, 11) := by decide +kernel
theorem mt_12_229 : ai_mth 12 229 = some (0, 125, 2, 11) := by decide +kernel
theorem mt_12_232 : ai_mth 12 232 = some (0, 131, 0, 11) := by decide +kernel
set_option maxHeartbeats 8000000 in
theorem r_m_dropX {k c : Nat} (h : mst S T D n rc wt kp sx sc F B) (hcc : wt = ((c + 1 : Nat) : Int)) (hk : k ≤ c) (hc : c + 1 ≤ 62) : ai_rn L xs (d + 1) 116 [.ref 432, ax_i (k : Nat)] S (fun v S' => v = none ∧ fr 432 452 S S' ∧ ∃ F', mst S' T D n rc (c : Nat) kp sx sc F' B ∧ (∀ i, i ≠ 6 → i ≠ 7 → i ≠ 8 → F' i = F i) ∧ (∀ j q, (k ≤ j ∧ j < c ∧ qsl (F 6) (F 7) (F 8) (j + 1) q ∨ (j < k ∨ c ≤ j) ∧ qsl (F 6) (F 7) (F 8) j q) → qsl (F' 6) (F' 7) (F' 8) j q) ∧ (xr (F 6) → xr (F' 6))) := by
  have ho := h.1
  subst hcc
  refine ai_rn_of (M := ai_m116) rfl (by decide) (Nat.le_of_ble_eq_true rfl) ?_
  refine aw_loc at_116_0 rfl rfl ?_
  refine aw_pure at_116_1 rfl rfl ?_
  refine aw_get at_116_2 rfl fl_12_106 ho rfl ?_
  refine aw_pure (st' := ax_i (1) :: _) at_116_5 rfl rfl ?_
  refine ax_sub at_116_6 rfl ?_
  refine aw_put at_116_7 rfl fl_12_106 ho (Nat.le_of_ble_eq_true rfl) rfl (by decide +kernel) ?_
  refine (show ai_aw L xs d ai_m116 _ (10, _, _, ai_wr S 432 (.inr (11, mf T D n rc (((c + 1 : Nat) : Int) - 1) kp sx sc))) from ?_)
  rw [show ((c + 1 : Nat) : Int) - 1 = (c : Int) by omega]
  have h1 : mst (ai_wr S 432 (.inr (11, mf T D n rc (c : Int) kp sx sc))) T D n rc (c : Nat) kp sx sc F B := mst_fl h
  refine aw_loc at_116_10 rfl rfl ?_
  refine aw_loc at_116_11 rfl rfl ?_
  refine ai_aw_mono (r_m_dropW2 (c := c) (by omega) (by omega) (c - k) k _ _ ⟨by omega, Nat.le_refl _⟩ (fr_md (by decide) (by decide)) (by rw [show shf (F 6) k (48 * k) = F 6 by funext x; unfold shf; rw [if_neg (by omega)], show gsh (F 7) k k = F 7 by funext x; unfold gsh; rw [if_neg (by omega)], show gsh (F 8) k k = F 8 by funext x; unfold gsh; rw [if_neg (by omega)], fup_self, fup_self, fup_self]; exact h1)) ?_
  rintro o ⟨v, S9, rfl, rfl, f9, h9⟩
  refine ⟨_, _, rfl, rfl, f9, _, h9, fun i a b e => (fup_ne e).trans ((fup_ne b).trans (fup_ne a)), fun j q hj => ?_, fun hx6 => ?_⟩
  · rw [show (fup (fup (fup F 6 (shf (F 6) k (48 * c))) 7 (gsh (F 7) k c)) 8 (gsh (F 8) k c)) 6 = (shf (F 6) k (48 * c)) from (fup_ne (by decide)).trans ((fup_ne (by decide)).trans (fup_get _ _ _)), show (fup (fup (fup F 6 (shf (F 6) k (48 * c))) 7 (gsh (F 7) k c)) 8 (gsh (F 8) k c)) 7 = (gsh (F 7) k c) from (fup_ne (by decide)).trans (fup_get _ _ _), show (fup (fup (fup F 6 (shf (F 6) k (48 * c))) 7 (gsh (F 7) k c)) 8 (gsh (F 8) k c)) 8 = (gsh (F 8) k c) from fup_get _ _ _]
    exact qsl_shift hj
  · rw [show (fup (fup (fup F 6 (shf (F 6) k (48 * c))) 7 (gsh (F 7) k c)) 8 (gsh (F 8) k c)) 6 = shf (F 6) k (48 * c) from (fup_ne (by decide)).trans ((fup_ne (by decide)).trans (fup_get _ _ _))]
    intro x
    unfold shf
    split
    · exact hx6 _
    · exact hx6 _
set_option maxHeartbeats 80000000 in
theorem r_m_step (h : mgg S A T D n Rs Vs kp 0 sc F B) (hrk : mrk F R) (h0 : 0 < Vs.length) : ai_rn L xs (d + 9) 113 [.ref 432] S (fun v S' => v = none ∧ fr 432 452 S S' ∧ ∃ F' B' kp', eq3 F F' ∧ mgg S' A T D n (est A R Rs Vs (bst (wsz Vs) (Vs.length - 1))).1 (est A R Rs Vs (bst (wsz Vs) (Vs.length - 1))).2.1 kp' (est A R Rs Vs (bst (wsz Vs) (Vs.length - 1))).2.2 (sc + 1) F' B') := by
  have ho := h.1.1
  have hA := h.2.1.1.2.2
  have h48 := h.2.2.2.1.2.1
  have hl14 := h.2.2.1.2.1
  refine ai_rn_of (M := ai_m113) rfl (by decide) (Nat.le_of_ble_eq_true rfl) ?_
  refine aw_loc at_113_0 rfl rfl ?_
  refine aw_pure at_113_1 rfl rfl ?_
  refine aw_get at_113_2 rfl fl_12_220 ho rfl ?_
  refine aw_pure (st' := ax_i (1) :: _) at_113_5 rfl rfl ?_
  refine ax_add at_113_6 rfl ?_
  refine aw_put at_113_7 rfl fl_12_220 ho (Nat.le_of_ble_eq_true rfl) rfl (by decide +kernel) ?_
  have h1 : mst (ai_wr S 432 (.inr (11, mf T D n (Rs.length : Int) (Vs.length : Int) kp 0 (sc + 1)))) T D n (Rs.length : Int) (Vs.length : Int) kp 0 (sc + 1) F B := mst_fl h.1
  have f1 : fr 432 452 S (ai_wr S 432 (.inr (11, mf T D n (Rs.length : Int) (Vs.length : Int) kp 0 (sc + 1)))) := fr_md (by decide) (by decide)
  show ai_aw L xs (d + 8) ai_m113 _ (10, _, _, (ai_wr S 432 (.inr (11, mf T D n (Rs.length : Int) (Vs.length : Int) kp 0 (sc + 1)))))
  generalize (ai_wr S 432 (.inr (11, mf T D n (Rs.length : Int) (Vs.length : Int) kp 0 (sc + 1)))) = S1 at h1 f1 ⊢
  have ho := h1.1
  refine aw_loc at_113_10 rfl rfl ?_
  refine aw_cv (a := 432) [] [] at_113_11 mt_12_223 (Or.inl rfl) rfl rfl (Nat.le_of_ble_eq_true rfl) ⟨_, ho⟩ ((r_m_light (d := d + 7) h1 h.2.2.2.1.1 rfl h0 h48).mono ?_)
  rintro v S0 ⟨hS, rfl⟩
  have hS2 := hS.symm
  subst hS2
  have hkl : bst (wsz Vs) (Vs.length - 1) < Vs.length := by have := bst_le (wsz Vs) (Vs.length - 1); omega
  generalize hk9 : bst (wsz Vs) (Vs.length - 1) = k at hkl ⊢
  have hqx := h.2.2.2.1.1 k hkl
  have hxo := h.2.2.2.1.2.2 _ (ind_mem hkl)
  have hest : est A R Rs Vs k = (match nf A Rs 40 (Vs.getD k q_no).1, nf A Rs 40 (Vs.getD k q_no).2 with | some a, some b => if a.1 = b.1 then (Rs, Vs.eraseIdx k, 0) else @ite _ (pgt A R a.1 b.1) (Classical.propDecidable _) (if 14 ≤ Rs.length then (Rs, Vs.eraseIdx k, 3) else ent A Rs (Vs.eraseIdx k) (rnp a.1 b.1)) (@ite _ (pgt A R b.1 a.1) (Classical.propDecidable _) (if 14 ≤ Rs.length then (Rs, Vs.eraseIdx k, 3) else ent A Rs (Vs.eraseIdx k) (rnp b.1 a.1)) (Rs, Vs.eraseIdx k, 2)) | _, _ => (Rs, Vs.eraseIdx k, 3)) := rfl
  generalize hx9 : Vs.getD k q_no = x at hqx hxo hest
  refine aw_loc at_113_14 rfl rfl ?_
  refine aw_loc at_113_15 rfl rfl ?_
  refine aw_loc at_113_16 rfl rfl ?_
  refine aw_cv (a := 432) [ax_i (k : Nat)] [] at_113_17 mt_12_214 (Or.inl rfl) rfl rfl (Nat.le_of_ble_eq_true rfl) ⟨_, ho⟩ ((r_m_getP (d := d + 7) (P := F 0) h1 hqx (by omega) h.2.2.2.2.1 (al_kn (by decide) hxo.2.2.1.1) (al_kn (by decide) hxo.2.2.1.2)).mono ?_)
  rintro v S2 ⟨rfl, f2, X, Z, h2x, w0, w1, hxX⟩
  obtain ⟨F2, e2, rfl, rfl, h2⟩ : ∃ F2 : Nat → Nat → Int, (∀ i, i ≠ 9 → i ≠ 10 → F2 i = F i) ∧ F2 9 = X ∧ F2 10 = Z ∧ mst S2 T D n (Rs.length : Int) (Vs.length : Int) kp 0 (sc + 1) F2 B := ⟨_, fun i a b => (fup_ne b).trans (fup_ne a), (fup_ne (by decide)).trans (fup_get _ _ _), fup_get _ _ _, h2x⟩
  have ho := h2.1
  refine aw_loc at_113_20 rfl rfl ?_
  refine aw_loc at_113_21 rfl rfl ?_
  refine aw_cv (a := 432) [ax_i (k : Nat)] [] at_113_22 mt_12_226 (Or.inl rfl) rfl rfl (Nat.le_of_ble_eq_true rfl) ⟨_, ho⟩ ((r_m_dropX (d := d + 7) (k := k) (c := Vs.length - 1) h2 (by omega) (by omega) (by omega)).mono ?_)
  rintro v S3 ⟨rfl, f3, F3, h3, e3, t3, x36⟩
  have hel : (Vs.eraseIdx k).length = Vs.length - 1 := List.length_eraseIdx_of_lt hkl
  have e30 : ∀ i, i < 6 → F3 i = F i := fun i hi => (e3 i (by omega) (by omega) (by omega)).trans (e2 i (by omega) (by omega))
  have z30 : F3 0 = F 0 := e30 0 (by decide)
  have z39 : F3 9 = F2 9 := e3 9 (by decide) (by decide) (by decide)
  have z310 : F3 10 = F2 10 := e3 10 (by decide) (by decide) (by decide)
  have z313 : F3 13 = F 13 := (e3 13 (by decide) (by decide) (by decide)).trans (e2 13 (by decide) (by decide))
  have z26 : F2 6 = F 6 := e2 6 (by decide) (by decide)
  have z27 : F2 7 = F 7 := e2 7 (by decide) (by decide)
  have z28 : F2 8 = F 8 := e2 8 (by decide) (by decide)
  have m3 : mgg S3 A T D n Rs (Vs.eraseIdx k) kp 0 (sc + 1) F3 B := by
    refine ⟨by rw [hel]; exact h3, ⟨by unfold mpk; rw [z30]; exact h.2.1.1, h.2.1.2⟩, ⟨mrl_eqo e30 h.2.2.1.1, hl14, by rw [z30]; exact h.2.2.1.2.2⟩, ⟨fun j hj => ?_, by rw [hel]; omega, fun q hq => by rw [z30]; exact h.2.2.2.1.2.2 q (List.mem_of_mem_eraseIdx hq)⟩, by rw [z39]; exact hxX, x36 (by rw [z26]; exact h.2.2.2.2.2.1), by rw [z313]; exact h.2.2.2.2.2.2⟩
    rw [hel] at hj
    rw [erase_get]
    refine t3 j _ ?_
    rw [z26, z27, z28]
    by_cases hjk : j < k
    · rw [if_pos hjk]; exact Or.inr ⟨Or.inl hjk, h.2.2.2.1.1 j (by omega)⟩
    · rw [if_neg hjk]; exact Or.inl ⟨by omega, by omega, h.2.2.2.1.1 (j + 1) (by omega)⟩
  rw [← z39, ← z310] at w0 w1
  have f13 := (f1.tr f2).tr f3
  generalize Vs.eraseIdx k = V at m3 hest
  clear t3 x36 hel
  have k1 : al (kn (F3 0) 123) x.1 := by rw [z30]; exact hxo.2.2.1.1
  have k2 : al (kn (F3 0) 123) x.2 := by rw [z30]; exact hxo.2.2.1.2
  have e33 : eq3 F F3 := fun i hi => e30 i (by omega)
  have kend : ∀ (S9 : ai_S) (F9 : Nat → Nat → Int) (B9 : Nat → Int) (kp9 : Int), fr 432 452 S S9 → eq3 F F9 → (∃ S8 s8, mgg S8 A T D n Rs V kp9 s8 (sc + 1) F9 B9) → ∀ (s9 : Int), est A R Rs Vs k = (Rs, V, s9) → mst S9 T D n (Rs.length : Int) (V.length : Int) kp9 s9 (sc + 1) F9 B9 → (fun (o : ai_O) => ∃ v S', o = (.inl v, S') ∧ v = none ∧ fr 432 452 S S' ∧ ∃ F' B' kp', eq3 F F' ∧ mgg S' A T D n (est A R Rs Vs k).1 (est A R Rs Vs k).2.1 kp' (est A R Rs Vs k).2.2 (sc + 1) F' B') (.inl none, S9) := by
    intro S9 F9 B9 kp9 g1 g2 ⟨S8, s8, g3⟩ s9 g4 g5
    refine ⟨_, _, rfl, rfl, g1, F9, B9, kp9, g2, ?_⟩
    rw [g4]
    exact mgg_b g3 g5 (fun i _ => rfl) g3.2.2.2.2.1 rfl
  have ho := m3.1.1
  refine aw_loc at_113_25 rfl rfl ?_
  refine aw_pure (st' := ax_i (0) :: _) at_113_26 rfl rfl ?_
  refine aw_cv (a := 432) [ax_i ((0 : Nat) : Int)] [] at_113_27 mt_12_147 (Or.inl rfl) rfl rfl (Nat.le_of_ble_eq_true rfl) ⟨_, ho⟩ ((r_m_norm (d := d + 3) (t := 0) m3.1 m3.2.1.1 (by decide) rfl m3.2.2.1.2.1 m3.2.2.1.1 m3.2.2.1.2.2 m3.2.2.2.2.1 (mwd_mwl w0) (al_kn (by decide) k1) hxo.1.1).mono ?_)
  rintro v S4 ⟨f4, F4, h4, e4, xr4, o4, z4, rfl, hz4⟩
  have e49 : ∀ i, i < 9 → F4 i = F3 i := fun i hi => e4 i (by omega) (by omega) (by omega) (by omega)
  have m4 := mgg_b m3 h4 e49 xr4 (e4 13 (by decide) (by decide) (by decide) (by decide))
  have e34 : eq3 F F4 := e33.tr (fun i hi => e49 i (by omega))
  have f14 := f13.tr f4
  have ho := h4.1
  have kbad : ∀ (S9 : ai_S) (F9 : Nat → Nat → Int), fr 432 452 S S9 → eq3 F F9 → mgg S9 A T D n Rs V kp 0 (sc + 1) F9 B → est A R Rs Vs k = (Rs, V, 3) → ai_aw L xs (d + 8) ai_m113 (fun (o : ai_O) => ∃ v S', o = (.inl v, S') ∧ v = none ∧ fr 432 452 S S' ∧ ∃ F' B' kp', eq3 F F' ∧ mgg S' A T D n (est A R Rs Vs k).1 (est A R Rs Vs k).2.1 kp' (est A R Rs Vs k).2.2 (sc + 1) F' B') (41, [some (.ref 432), some (ax_i (k : Nat)), none, none], [], S9) := by
    intro S9 F9 g1 g2 g3 g4
    have ho := g3.1.1
    refine aw_loc at_113_41 rfl rfl ?_
    refine aw_pure (st' := ax_i (3) :: _) at_113_42 rfl rfl ?_
    refine aw_put at_113_43 rfl fl_12_150 ho (Nat.le_of_ble_eq_true rfl) rfl (by decide +kernel) ?_
    exact aw_vret at_113_46 rfl (kend _ F9 B kp (g1.tr (fr_md (by decide) (by decide))) g2 ⟨S9, 0, g3⟩ 3 g4 (mst_fl g3.1))
  rcases hz4 with ⟨n1, hz1, -⟩ | ⟨a, n1, hz1, wa⟩
  · skip
    rw [n1] at hest
    refine ax_if_lt at_113_30 ⟨by omega, by omega⟩ (fun _ => kbad S4 F4 f14 e34 m4 hest) (fun z => absurd z (by omega))
  · skip
    rw [n1] at hest
    have la := nf_le hA (Rs := Rs) 40 x.1 n1
    have ka := nf_kn hA m3.2.2.1.2.2 hxo.1.1 k1 (show nf A Rs 40 x.1 = some (a.1, a.2) from n1)
    refine ax_if_lt at_113_30 ⟨by omega, by omega⟩ (fun z => absurd z (by omega)) (fun _ => ?_)
    have z40 : F4 0 = F3 0 := e49 0 (by decide)
    have w14 := (o4 1 (by decide) (by decide)).2 _ w1
    refine aw_loc at_113_33 rfl rfl ?_
    refine aw_pure (st' := ax_i (1) :: _) at_113_34 rfl rfl ?_
    refine aw_cv (a := 432) [ax_i ((1 : Nat) : Int)] [] at_113_35 mt_12_147 (Or.inl rfl) rfl rfl (Nat.le_of_ble_eq_true rfl) ⟨_, ho⟩ ((r_m_norm (d := d + 3) (t := 1) m4.1 m4.2.1.1 (by decide) rfl m4.2.2.1.2.1 m4.2.2.1.1 m4.2.2.1.2.2 m4.2.2.2.2.1 (mwd_mwl w14) (by rw [z40]; exact al_kn (by decide) k2) hxo.1.2).mono ?_)
    rintro v S5 ⟨f5, F5, h5, e5, xr5, o5, z5, rfl, hz5⟩
    have e59 : ∀ i, i < 9 → F5 i = F4 i := fun i hi => e5 i (by omega) (by omega) (by omega) (by omega)
    have m5 := mgg_b m4 h5 e59 xr5 (e5 13 (by decide) (by decide) (by decide) (by decide))
    have e35 : eq3 F F5 := e34.tr (fun i hi => e59 i (by omega))
    have f15 := f14.tr f5
    have ho := h5.1
    rcases hz5 with ⟨n2, hz2, -⟩ | ⟨b, n2, hz2, wb⟩
    · skip
      rw [n2] at hest
      refine ax_if_ge at_113_38 ⟨by omega, by omega⟩ (fun z => absurd z (by omega)) (fun _ => kbad S5 F5 f15 e35 m5 hest)
    · skip
      rw [n2] at hest
      have lb := nf_le hA (Rs := Rs) 40 x.2 n2
      have kb := nf_kn hA m3.2.2.1.2.2 hxo.1.2 k2 (show nf A Rs 40 x.2 = some (b.1, b.2) from n2)
      have hes : est A R Rs Vs k = (if a.1 = b.1 then (Rs, V, 0) else @ite _ (pgt A R a.1 b.1) (Classical.propDecidable _) (if 14 ≤ Rs.length then (Rs, V, 3) else ent A Rs V (rnp a.1 b.1)) (@ite _ (pgt A R b.1 a.1) (Classical.propDecidable _) (if 14 ≤ Rs.length then (Rs, V, 3) else ent A Rs V (rnp b.1 a.1)) (Rs, V, 2))) := hest
      refine ax_if_ge at_113_38 ⟨by omega, by omega⟩ (fun _ => ?_) (fun z => absurd z (by omega))
      show ai_aw L xs (d + 8) ai_m113 _ (47, _, _, _)
      have z50 : F5 0 = F3 0 := (e59 0 (by decide)).trans z40
      have wa5 := (o5 0 (by decide) (by decide)).2 _ wa
      have ka1 : al (kn (F5 0) 123) a.1 := by rw [z50]; exact ka.2.1
      have kb1 : al (kn (F5 0) 123) b.1 := by rw [z50]; exact kb.2.1
      have r9 : ai_arr S5 442 0 = some (192, ax_f (F5 9)) := h5.2.1 9 (by decide)
      have r10 : ai_arr S5 443 0 = some (3, ax_f (F5 10)) := h5.2.1 10 (by decide)
      have la24 := ka.2.2
      have lb24 := kb.2.2
      have za := mwd_len wa5 (by omega)
      have zb := mwd_len wb (by omega)
      refine aw_loc at_113_47 rfl rfl ?_
      refine aw_pure (st' := ax_i (0) :: _) at_113_48 rfl rfl ?_
      refine aw_pure (st' := ax_i (1) :: _) at_113_49 rfl rfl ?_
      refine aw_cv (a := 432) [ax_i ((0 : Nat) : Int), ax_i ((1 : Nat) : Int)] [] at_113_50 mt_12_153 (Or.inl rfl) rfl rfl (Nat.le_of_ble_eq_true rfl) ⟨_, ho⟩ ((r_m_alike ho r9 xr5 r10 (by decide) (by decide) za zb (by omega) (by omega)).mono ?_)
      rintro v S0 ⟨hS, z3, rfl, hz3⟩
      have hS2 := hS.symm
      subst hS2
      have hz39 := hz3.le
      have hal : a.1 = b.1 ↔ (a.1.length = b.1.length ∧ ∀ i, i < a.1.length → F5 9 (64 * 0 + i) = F5 9 (64 * 1 + i)) := by have := cw_same (P := F5 0) (mwd_cw wa5 (by omega)) (mwd_cw wb (by omega)) (al_kn (by decide) ka1) (al_kn (by decide) kb1); exact this.trans ⟨fun g => ⟨g.1, fun i hi => g.2 i (by omega)⟩, fun g => ⟨g.1, fun i hi => g.2 i (by omega)⟩⟩
      refine ax_if_eq at_113_53 ⟨by omega, by omega⟩ (fun y => ?_) (fun y => ?_)
      · skip
        have hne : ¬ a.1 = b.1 := fun g => (hz3.resolve_right (fun g => by have := g.1; omega)).2 (hal.1 g)
        rw [if_neg hne] at hes
        show ai_aw L xs (d + 8) ai_m113 _ (57, _, _, _)
        have hrk5 : mrk F5 R := by unfold mrk; rw [e35 0 (by decide), e35 1 (by decide)]; exact hrk
        have mw1 : mow A F5 0 1 a.1 b.1 := ⟨m5.2.1.1, xr5, ⟨wa5, wb⟩, ⟨la24, lb24⟩, ⟨al_kn (by decide) ka1, al_kn (by decide) kb1⟩, ⟨ka.1, kb.1⟩, ⟨by decide, by decide⟩, m5.2.1.2⟩
        have mw2 : mow A F5 1 0 b.1 a.1 := ⟨m5.2.1.1, xr5, ⟨wb, wa5⟩, ⟨lb24, la24⟩, ⟨al_kn (by decide) kb1, al_kn (by decide) ka1⟩, ⟨kb.1, ka.1⟩, ⟨by decide, by decide⟩, m5.2.1.2⟩
        have kren : ∀ (u v : List Int) (S9 : ai_S) (F9 : Nat → Nat → Int) (B9 : Nat → Int) (f9 : Int), fr 432 452 S S9 → eq3 F F9 → mgg S9 A T D n Rs V kp 0 (sc + 1) F9 B9 → mwd (F9 9) (F9 10) 0 u → mwd (F9 9) (F9 10) 1 v → (u.length ≤ 24 ∧ v.length ≤ 24) → (al (kn (F9 0) 123) u ∧ al (kn (F9 0) 123) v) → okr A (F9 0) (rnp u v) → est A R Rs Vs k = (if 14 ≤ Rs.length then (Rs, V, 3) else ent A Rs V (rnp u v)) → ai_aw L xs (d + 8) ai_m113 (fun (o : ai_O) => ∃ v S', o = (.inl v, S') ∧ v = none ∧ fr 432 452 S S' ∧ ∃ F' B' kp', eq3 F F' ∧ mgg S' A T D n (est A R Rs Vs k).1 (est A R Rs Vs k).2.1 kp' (est A R Rs Vs k).2.2 (sc + 1) F' B') (91, [some (.ref 432), some (ax_i (k : Nat)), some (ax_i f9), none], [], S9) := by
          intro u v S9 F9 B9 f9 g1 g2 g3 g4 g5 g6 g7 g8 g9
          have ho := g3.1.1
          refine aw_loc at_113_91 rfl rfl ?_
          refine aw_cv (a := 432) [] [] at_113_92 mt_12_157 (Or.inl rfl) rfl rfl (Nat.le_of_ble_eq_true rfl) ⟨_, ho⟩ ((r_m_ren (d := d + 7) g3.1 g4 g5 g6.1 g6.2 (al_kn (by decide) g7.1) (al_kn (by decide) g7.2) g3.2.2.2.2.1).mono ?_)
          rintro v9 Sa ⟨fa, rfl, Xa, NA, hax, wa0, wa1, hxa⟩
          obtain ⟨Fa, ea, rfl, ta, ha⟩ : ∃ Fa : Nat → Nat → Int, (∀ i, i ≠ 9 → i ≠ 17 → Fa i = F9 i) ∧ Fa 9 = Xa ∧ Fa 10 = F9 10 ∧ mst Sa T D n (Rs.length : Int) (V.length : Int) kp 0 (sc + 1) Fa B9 := ⟨_, fun i a b => (fup_ne b).trans (fup_ne a), (fup_ne (by decide)).trans (fup_get _ _ _), (fup_ne (by decide)).trans (fup_ne (by decide)), hax⟩
          rw [← ta] at wa0 wa1
          have ma := mgg_b g3 ha (fun i hi => ea i (by omega) (by omega)) hxa (ea 13 (by decide) (by decide))
          have e3a : eq3 F Fa := g2.tr (fun i hi => ea i (by omega) (by omega))
          have ho := ha.1
          refine aw_loc at_113_95 rfl rfl ?_
          refine aw_loc at_113_96 rfl rfl ?_
          refine aw_get at_113_97 rfl fl_12_113 ho rfl ?_
          refine aw_pure (st' := ax_i (14) :: _) at_113_100 rfl rfl ?_
          refine ax_icmp_ne at_113_102 ⟨by omega, by omega⟩ ⟨by omega, by omega⟩ (fun y => ?_) (fun y => ?_)
          · skip
            rw [if_neg (by omega)] at g9
            show ai_aw L xs (d + 8) ai_m113 _ (111, _, _, _)
            refine aw_loc at_113_111 rfl rfl ?_
            refine aw_cv (a := 432) [] [] at_113_112 mt_12_232 (Or.inl rfl) rfl rfl (Nat.le_of_ble_eq_true rfl) ⟨_, ho⟩ ((r_m_enter (d := d) ma wa0 wa1 (by rw [ea 0 (by decide) (by decide)]; exact g8) (by omega)).mono ?_)
            rintro v9 Sb ⟨rfl, fb, Fb, eb, kpb, mb⟩
            exact aw_vret at_113_115 rfl ⟨_, _, rfl, rfl, (g1.tr fa).tr fb, Fb, B9, kpb, e3a.tr eb, by rw [g9]; exact mb⟩
          · skip
            rw [if_pos (by omega)] at g9
            refine aw_loc at_113_105 rfl rfl ?_
            refine aw_pure (st' := ax_i (3) :: _) at_113_106 rfl rfl ?_
            refine aw_put at_113_107 rfl fl_12_150 ho (Nat.le_of_ble_eq_true rfl) rfl (by decide +kernel) ?_
            exact aw_vret at_113_110 rfl (kend _ Fa B9 kp ((g1.tr fa).tr (fr_md (by decide) (by decide))) e3a ⟨Sa, 0, ma⟩ 3 g9 (mst_fl ha))
        refine aw_loc at_113_57 rfl rfl ?_
        refine aw_pure (st' := ax_i (0) :: _) at_113_58 rfl rfl ?_
        refine aw_pure (st' := ax_i (1) :: _) at_113_59 rfl rfl ?_
        refine aw_cv (a := 432) [ax_i ((0 : Nat) : Int), ax_i ((1 : Nat) : Int)] [] at_113_60 mt_12_229 (Or.inl rfl) rfl rfl (Nat.le_of_ble_eq_true rfl) ⟨_, ho⟩ ((r_m_gt (d := d + 2) h5 mw1 hrk5).mono ?_)
        rintro v S6 ⟨f6, B6, h6, g6, rfl, hg6⟩
        have hg69 := hg6.le
        have m6 := mgg_b m5 h6 (fun i _ => rfl) xr5 rfl
        have f16 := f15.tr f6
        have ho := h6.1
        refine aw_loc at_113_63 rfl rfl ?_
        refine aw_loc at_113_64 rfl rfl ?_
        refine ax_if_ne at_113_65 ⟨by omega, by omega⟩ (fun y => ?_) (fun y => ?_)
        · skip
          have hp := (hg6.resolve_left (fun g => y g.1)).2
          rw [if_pos hp] at hes
          show ai_aw L xs (d + 8) ai_m113 _ (83, _, _, _)
          refine aw_loc at_113_83 rfl rfl ?_
          refine ax_if_ne at_113_84 ⟨by omega, by omega⟩ (fun _ => ?_) (fun z => absurd z y)
          exact kren a.1 b.1 S6 F5 B6 g6 f16 e35 m6 wa5 wb ⟨la24, lb24⟩ ⟨ka1, kb1⟩ (new_okr hA ka.1 kb.1 la24 lb24 ka1 kb1 hp) hes
        · skip
          have hp := (hg6.resolve_right (fun g => by have := g.1; omega)).2
          rw [if_neg hp] at hes
          refine aw_loc at_113_68 rfl rfl ?_
          refine aw_pure (st' := ax_i (1) :: _) at_113_69 rfl rfl ?_
          refine aw_pure (st' := ax_i (0) :: _) at_113_70 rfl rfl ?_
          refine aw_cv (a := 432) [ax_i ((1 : Nat) : Int), ax_i ((0 : Nat) : Int)] [] at_113_71 mt_12_229 (Or.inl rfl) rfl rfl (Nat.le_of_ble_eq_true rfl) ⟨_, ho⟩ ((r_m_gt (d := d + 2) h6 mw2 hrk5).mono ?_)
          rintro v S7 ⟨f7, B7, h7, g7, rfl, hg7⟩
          have hg79 := hg7.le
          have m7 := mgg_b m6 h7 (fun i _ => rfl) xr5 rfl
          have f17 := f16.tr f7
          have ho := h7.1
          refine ax_if_ne at_113_74 ⟨by omega, by omega⟩ (fun y2 => ?_) (fun y2 => ?_)
          · skip
            have hp2 := (hg7.resolve_left (fun g => y2 g.1)).2
            rw [if_pos hp2] at hes
            show ai_aw L xs (d + 8) ai_m113 _ (83, _, _, _)
            refine aw_loc at_113_83 rfl rfl ?_
            refine ax_if_ne at_113_84 ⟨by omega, by omega⟩ (fun z => absurd (by omega) z) (fun _ => ?_)
            refine aw_loc at_113_87 rfl rfl ?_
            refine aw_cv (a := 432) [] [] at_113_88 mt_12_165 (Or.inl rfl) rfl rfl (Nat.le_of_ble_eq_true rfl) ⟨_, ho⟩ ((r_m_exch (d := d + 6) h7 wa5 wb la24 lb24 xr5).mono ?_)
            rintro v S8 ⟨rfl, f8, X8, Z8, h8x, w08, w18, x8⟩
            obtain ⟨F8, e8, rfl, rfl, h8⟩ : ∃ F8 : Nat → Nat → Int, (∀ i, i ≠ 9 → i ≠ 10 → F8 i = F5 i) ∧ F8 9 = X8 ∧ F8 10 = Z8 ∧ mst S8 T D n (Rs.length : Int) (V.length : Int) kp 0 (sc + 1) F8 B7 := ⟨_, fun i a b => (fup_ne b).trans (fup_ne a), (fup_ne (by decide)).trans (fup_get _ _ _), fup_get _ _ _, h8x⟩
            have m8 := mgg_b m7 h8 (fun i hi => e8 i (by omega) (by omega)) x8 (e8 13 (by decide) (by decide))
            have z8 : F8 0 = F5 0 := e8 0 (by decide) (by decide)
            exact kren b.1 a.1 S8 F8 B7 g6 (f17.tr f8) (e35.tr (fun i hi => e8 i (by omega) (by omega))) m8 w08 w18 ⟨lb24, la24⟩ ⟨by rw [z8]; exact kb1, by rw [z8]; exact ka1⟩ (by rw [z8]; exact new_okr hA kb.1 ka.1 lb24 la24 kb1 ka1 hp2) hes
          · skip
            have hp2 := (hg7.resolve_right (fun g => by have := g.1; omega)).2
            rw [if_neg hp2] at hes
            refine aw_loc at_113_77 rfl rfl ?_
            refine aw_pure (st' := ax_i (2) :: _) at_113_78 rfl rfl ?_
            refine aw_put at_113_79 rfl fl_12_150 ho (Nat.le_of_ble_eq_true rfl) rfl (by decide +kernel) ?_
            exact aw_vret at_113_82 rfl (kend _ F5 B7 kp (f17.tr (fr_md (by decide) (by decide))) e35 ⟨S7, 0, m7⟩ 2 hes (mst_fl h7))
      · skip
        have heq := hal.2 (hz3.resolve_left (fun g => y g.1)).2
        exact aw_vret at_113_56 rfl (kend S5 F5 B kp f15 e35 ⟨S5, 0, m5⟩ 0 (by rw [hes, if_pos heq]) m5.1)
end MX

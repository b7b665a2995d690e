/-! The calls of the reference. -/
section MC
variable {L : Nat} {xs : Nat → Int32} {d : Nat} {S S' : ai_S} {T D n rc wt kp sx sc : Int} {F : Nat → Nat → Int} {B : Nat → Int} {P : Nat → Int} {A : Int → Nat} {Rs Vs : rls} {R : Int → Int} {N : Nat}
theorem mgg_T {S1 : ai_S} {F' : Nat → Nat → Int} {B' : Nat → Int} {T' D' n' kp' sx' sc' : Int} (h : mgg S A T D n Rs Vs kp sx sc F B) (h1 : mst S1 T' D' n' (Rs.length : Int) (Vs.length : Int) kp' sx' sc' F' B') (he : ∀ i, i ≠ 1 → i ≠ 2 → i < 9 → F' i = F i) (x9 : xr (F' 9)) (x13 : F' 13 = F 13) : mgg S1 A T' D' n' Rs Vs kp' sx' sc' F' B' := by
  have e0 : F' 0 = F 0 := he 0 (by decide) (by decide) (by decide)
  refine ⟨h1, ⟨by unfold mpk; rw [e0]; exact h.2.1.1, h.2.1.2⟩, ⟨fun k hk => ?_, h.2.2.1.2.1, by rw [e0]; exact h.2.2.1.2.2⟩, ⟨fun k hk => ?_, h.2.2.2.1.2.1, by rw [e0]; exact h.2.2.2.1.2.2⟩, x9, by rw [he 6 (by decide) (by decide) (by decide)]; exact h.2.2.2.2.2.1, by rw [x13]; exact h.2.2.2.2.2.2⟩
  · rw [he 3 (by decide) (by decide) (by decide), he 4 (by decide) (by decide) (by decide), he 5 (by decide) (by decide) (by decide)]
    exact h.2.2.1.1 k hk
  · rw [he 6 (by decide) (by decide) (by decide), he 7 (by decide) (by decide) (by decide), he 8 (by decide) (by decide) (by decide)]
    exact h.2.2.2.1.1 k hk
theorem ent_in (A : Int → Nat) (Rs V : rls) (q : List Int × List Int) : 0 ≤ (ent A Rs V q).2.2 ∧ (ent A Rs V q).2.2 ≤ 3 := by
  unfold ent
  dsimp only
  repeat' split
  all_goals (first | omega | (dsimp only; omega) | simp)
theorem est_in (A : Int → Nat) (R : Int → Int) (Rs Vs : rls) (k : Nat) : 0 ≤ (est A R Rs Vs k).2.2 ∧ (est A R Rs Vs k).2.2 ≤ 3 := by
  unfold est
  repeat' split
  all_goals (first | exact ent_in _ _ _ _ | omega | (dsimp only; omega) | simp)
theorem tld_kn {l r : List Int} {bt i : Int} (k1 : al (kn P 129) l) (k2 : al (kn P 129) r) (hb : 0 ≤ bt ∧ bt < 65536) : 0 ≤ tld l r bt i ∧ tld l r bt i < 65536 := by
  have g : ∀ (w : List Int), al (kn P 129) w → ∀ j, 0 ≤ w.getD j 0 ∧ w.getD j 0 < 65536 := fun w hw j => by
    by_cases hj : j < w.length
    · have hm : w.getD j 0 ∈ w := by rw [List.getD_eq_getElem?_getD, List.getElem?_eq_getElem hj]; exact List.getElem_mem hj
      have := kn_lt (hw _ hm)
      omega
    · rw [List.getD_eq_getElem?_getD, List.getElem?_eq_none (by omega)]; exact ⟨by decide, by decide⟩
  unfold tld
  split
  · omega
  · split
    · exact hb
    · split
      · exact g l k1 _
      · exact g r k2 _
theorem al_get {w : List Int} {K : Int → Prop} (hw : al K w) {j : Nat} (hj : j < w.length) : K (w.getD j 0) := by
  refine hw _ ?_
  rw [List.getD_eq_getElem?_getD, List.getElem?_eq_getElem hj]
  exact List.getElem_mem hj
theorem gp_M {P C : Nat → Int} {n m : Nat} (hs : sam A P) (hm : mid C n m) : (m < n ∧ vt (fun c => 0 ≤ cd P c) (fun c => ar P (cd P c)) (fun i => C (0 + i)) (m - 0) ∧ vt (fun c => 0 ≤ cd P c) (fun c => ar P (cd P c)) (fun i => C (m + 1 + i)) (n - (m + 1))) ↔ gp A P C n (sl C 0 m) (sl C (m + 1) (n - (m + 1))) := by
  rw [vt_M hs, vt_M hs, sl_sh, sl_sh]
  constructor
  · rintro ⟨h0, h1, h2⟩
    exact ⟨m, hm, h0, rfl, rfl, h1, h2⟩
  · rintro ⟨k, h1, h4, -, -, h2, h3⟩
    have := mid_un hm h1 (fun _ _ => rfl)
    exact ⟨by omega, h2, h3⟩
theorem ow_mwd {X Z C P : Nat → Int} {t a k : Nat} (hk : k ≤ 24) (ha : al (kn P 123) (sl C a k)) (X0 : Nat → Int) (hX : ∀ i, i < k → X (64 * t + i) = cd P (C (a + i))) (hZ : Z t = (k : Int)) : mwd X Z t (sl C a k) := by
  refine ⟨by rw [sl_len, hZ, Nat.min_eq_left (by omega)], fun i hi _ => ?_⟩
  rw [sl_len] at hi
  have h1 := al_get ha (j := i) (by rw [sl_len]; exact hi)
  rw [sl_get C a k i hi] at h1 ⊢
  rw [hX i hi, cd_co h1]
theorem at_98_28 : ai_at ai_m98 28 = some (.iconst 0, 1) := rfl
theorem at_98_39 : ai_at ai_m98 39 = some (.aload_n 0, 1) := rfl
theorem at_98_40 : ai_at ai_m98 40 = some (.getfield 7, 3) := rfl
theorem at_98_43 : ai_at ai_m98 43 = some (.iload_n 3, 1) := rfl
theorem at_98_44 : ai_at ai_m98 44 = some (.iaload, 1) := rfl
theorem at_98_45 : ai_at ai_m98 45 = some (.ifCond .lt 7, 3) := rfl
theorem at_98_48 : ai_at ai_m98 48 = some (.iconst 1, 1) := rfl
theorem at_98_49 : ai_at ai_m98 49 = some (.goto 4, 3) := rfl
theorem at_98_60 : ai_at ai_m98 60 = some (.aload_n 0, 1) := rfl
theorem at_98_61 : ai_at ai_m98 61 = some (.getfield 7, 3) := rfl
theorem at_98_64 : ai_at ai_m98 64 = some (.iload_n 3, 1) := rfl
theorem at_98_65 : ai_at ai_m98 65 = some (.iload_n 2, 1) := rfl
theorem at_98_66 : ai_at ai_m98 66 = some (.iastore, 1) := rfl
theorem at_98_67 : ai_at ai_m98 67 = some (.aload_n 0, 1) := rfl
theorem at_98_68 : ai_at ai_m98 68 = some (.getfield 13, 3) := rfl
theorem at_98_71 : ai_at ai_m98 71 = some (.iload_n 3, 1) := rfl
theorem at_98_72 : ai_at ai_m98 72 = some (.aload_n 0, 1) := rfl
theorem at_98_73 : ai_at ai_m98 73 = some (.getfield 76, 3) := rfl
theorem at_98_76 : ai_at ai_m98 76 = some (.iastore, 1) := rfl
theorem at_98_77 : ai_at ai_m98 77 = some (.aload_n 0, 1) := rfl
theorem at_98_78 : ai_at ai_m98 78 = some (.dup, 1) := rfl
theorem at_98_79 : ai_at ai_m98 79 = some (.getfield 76, 3) := rfl
theorem at_98_82 : ai_at ai_m98 82 = some (.iconst 1, 1) := rfl
theorem at_98_83 : ai_at ai_m98 83 = some (.iadd, 1) := rfl
theorem at_98_84 : ai_at ai_m98 84 = some (.putfield 76, 3) := rfl
theorem at_98_87 : ai_at ai_m98 87 = some (.return_, 1) := rfl
theorem at_99_9 : ai_at ai_m99 9 = some (.iload_n 2, 1) := rfl
theorem at_99_10 : ai_at ai_m99 10 = some (.ifCond .eq 7, 3) := rfl
theorem at_99_13 : ai_at ai_m99 13 = some (.iconst 2, 1) := rfl
theorem at_99_14 : ai_at ai_m99 14 = some (.goto 4, 3) := rfl
theorem at_99_17 : ai_at ai_m99 17 = some (.iconst 0, 1) := rfl
theorem at_99_32 : ai_at ai_m99 32 = some (.iconst 0, 1) := rfl
theorem at_103_17 : ai_at ai_m103 17 = some (.aload_n 0, 1) := rfl
theorem at_103_18 : ai_at ai_m103 18 = some (.getfield 16, 3) := rfl
theorem at_103_21 : ai_at ai_m103 21 = some (.iload_n 1, 1) := rfl
theorem at_103_22 : ai_at ai_m103 22 = some (.iaload, 1) := rfl
theorem at_103_23 : ai_at ai_m103 23 = some (.i2c, 1) := rfl
theorem at_103_24 : ai_at ai_m103 24 = some (.goto 4, 3) := rfl
theorem at_151_19 : ai_at ai_m151 19 = some (.aload_n 0, 1) := rfl
theorem at_151_20 : ai_at ai_m151 20 = some (.iload_n 1, 1) := rfl
theorem at_151_21 : ai_at ai_m151 21 = some (.invokevirtual 199, 3) := rfl
theorem at_151_24 : ai_at ai_m151 24 = some (.aload_n 0, 1) := rfl
theorem at_151_25 : ai_at ai_m151 25 = some (.iload_n 2, 1) := rfl
theorem at_151_26 : ai_at ai_m151 26 = some (.bipush 62, 2) := rfl
theorem at_151_28 : ai_at ai_m151 28 = some (.invokevirtual 245, 3) := rfl
theorem at_151_31 : ai_at ai_m151 31 = some (.ireturn, 1) := rfl
theorem at_152_0 : ai_at ai_m152 0 = some (.iload_n 1, 1) := rfl
theorem at_152_1 : ai_at ai_m152 1 = some (.ifCond .lt 20, 3) := rfl
theorem at_152_4 : ai_at ai_m152 4 = some (.iload_n 1, 1) := rfl
theorem at_152_5 : ai_at ai_m152 5 = some (.aload_n 0, 1) := rfl
theorem at_152_6 : ai_at ai_m152 6 = some (.getfield 40, 3) := rfl
theorem at_152_9 : ai_at ai_m152 9 = some (.iconst 0, 1) := rfl
theorem at_152_10 : ai_at ai_m152 10 = some (.iaload, 1) := rfl
theorem at_152_11 : ai_at ai_m152 11 = some (.aload_n 0, 1) := rfl
theorem at_152_12 : ai_at ai_m152 12 = some (.getfield 40, 3) := rfl
theorem at_152_15 : ai_at ai_m152 15 = some (.iconst 1, 1) := rfl
theorem at_152_16 : ai_at ai_m152 16 = some (.iaload, 1) := rfl
theorem at_152_17 : ai_at ai_m152 17 = some (.iadd, 1) := rfl
theorem at_152_18 : ai_at ai_m152 18 = some (.if_icmp .le 5, 3) := rfl
theorem at_152_21 : ai_at ai_m152 21 = some (.iconst 0, 1) := rfl
theorem at_152_22 : ai_at ai_m152 22 = some (.ireturn, 1) := rfl
theorem at_152_23 : ai_at ai_m152 23 = some (.iload_n 1, 1) := rfl
theorem at_152_24 : ai_at ai_m152 24 = some (.aload_n 0, 1) := rfl
theorem at_152_25 : ai_at ai_m152 25 = some (.getfield 40, 3) := rfl
theorem at_152_28 : ai_at ai_m152 28 = some (.iconst 0, 1) := rfl
theorem at_152_29 : ai_at ai_m152 29 = some (.iaload, 1) := rfl
theorem at_152_30 : ai_at ai_m152 30 = some (.if_icmp .ne 7, 3) := rfl
theorem at_152_33 : ai_at ai_m152 33 = some (.iload_n 2, 1) := rfl
theorem at_152_34 : ai_at ai_m152 34 = some (.goto 43, 3) := rfl
theorem at_152_37 : ai_at ai_m152 37 = some (.iload_n 1, 1) := rfl
theorem at_152_38 : ai_at ai_m152 38 = some (.aload_n 0, 1) := rfl
theorem at_152_39 : ai_at ai_m152 39 = some (.getfield 40, 3) := rfl
theorem at_152_42 : ai_at ai_m152 42 = some (.iconst 0, 1) := rfl
theorem at_152_43 : ai_at ai_m152 43 = some (.iaload, 1) := rfl
theorem at_152_44 : ai_at ai_m152 44 = some (.if_icmp .ge 12, 3) := rfl
theorem at_152_47 : ai_at ai_m152 47 = some (.aload_n 0, 1) := rfl
theorem at_152_48 : ai_at ai_m152 48 = some (.getfield 37, 3) := rfl
theorem at_152_51 : ai_at ai_m152 51 = some (.iload_n 1, 1) := rfl
theorem at_152_52 : ai_at ai_m152 52 = some (.iaload, 1) := rfl
theorem at_152_53 : ai_at ai_m152 53 = some (.goto 21, 3) := rfl
theorem at_152_56 : ai_at ai_m152 56 = some (.aload_n 0, 1) := rfl
theorem at_152_57 : ai_at ai_m152 57 = some (.getfield 37, 3) := rfl
theorem at_152_60 : ai_at ai_m152 60 = some (.bipush 64, 2) := rfl
theorem at_152_62 : ai_at ai_m152 62 = some (.iload_n 1, 1) := rfl
theorem at_152_63 : ai_at ai_m152 63 = some (.iadd, 1) := rfl
theorem at_152_64 : ai_at ai_m152 64 = some (.aload_n 0, 1) := rfl
theorem at_152_65 : ai_at ai_m152 65 = some (.getfield 40, 3) := rfl
theorem at_152_68 : ai_at ai_m152 68 = some (.iconst 0, 1) := rfl
theorem at_152_69 : ai_at ai_m152 69 = some (.iaload, 1) := rfl
theorem at_152_70 : ai_at ai_m152 70 = some (.isub, 1) := rfl
theorem at_152_71 : ai_at ai_m152 71 = some (.iconst 1, 1) := rfl
theorem at_152_72 : ai_at ai_m152 72 = some (.isub, 1) := rfl
theorem at_152_73 : ai_at ai_m152 73 = some (.iaload, 1) := rfl
theorem at_152_74 : ai_at ai_m152 74 = some (.invokestatic 241, 3) := rfl
theorem at_152_77 : ai_at ai_m152 77 = some (.ireturn, 1) := rfl
theorem at_154_19 : ai_at ai_m154 19 = some (.aload_n 0, 1) := rfl
theorem at_154_20 : ai_at ai_m154 20 = some (.iload_n 1, 1) := rfl
theorem at_154_21 : ai_at ai_m154 21 = some (.invokevirtual 214, 3) := rfl
theorem at_154_24 : ai_at ai_m154 24 = some (.aload_n 0, 1) := rfl
theorem at_154_25 : ai_at ai_m154 25 = some (.iload_n 2, 1) := rfl
theorem at_154_26 : ai_at ai_m154 26 = some (.bipush 61, 2) := rfl
theorem at_154_28 : ai_at ai_m154 28 = some (.invokevirtual 245, 3) := rfl
theorem at_154_31 : ai_at ai_m154 31 = some (.ireturn, 1) := rfl
theorem fl_12_76 : ai_fld 12 76 = some (11, 3, false) := by decide +kernel
theorem mt_12_241 : ai_mth 12 241 = some (2, 153, 1, 11) := by decide +kernel
theorem mt_12_245 : ai_mth 12 245 = some (0, 152, 2, 11) := by decide +kernel
set_option maxHeartbeats 1000000 in
theorem r_m_ref1 {b : Int} (h : mst S T D n rc wt kp sx sc F B) : ai_rn L xs (d + 1) 99 [.ref 432, ax_i 1, ax_i b] S (fun v S' => v = some (ax_i 1) ∧ fr 432 452 S S' ∧ mst S' 1 D n rc wt kp sx sc F B) := by
  have ho := h.1
  refine ai_rn_of (M := ai_m99) rfl (by decide) (Nat.le_of_ble_eq_true rfl) ?_
  refine aw_loc at_99_0 rfl rfl ?_
  refine aw_loc at_99_1 rfl rfl ?_
  refine ax_if_eq at_99_2 ⟨by omega, by omega⟩ (fun z => absurd z (by decide)) (fun _ => ?_)
  refine aw_pure (st' := ax_i (1) :: _) at_99_5 rfl rfl ?_
  refine aw_goto at_99_6 ?_
  refine aw_put at_99_18 rfl fl_12_68 h.1 (Nat.le_of_ble_eq_true rfl) rfl (by decide +kernel) ?_
  have h1 : mst (ai_wr S 432 (.inr (11, mf 1 D n rc wt kp sx sc))) 1 D n rc wt kp sx sc F B := mst_fl h
  have f1 : fr 432 452 S (ai_wr S 432 (.inr (11, mf 1 D n rc wt kp sx sc))) := fr_md (by decide) (by decide)
  show ai_aw L xs d ai_m99 _ (21, _, _, (ai_wr S 432 (.inr (11, mf 1 D n rc wt kp sx sc))))
  generalize (ai_wr S 432 (.inr (11, mf 1 D n rc wt kp sx sc))) = S1 at h1 f1 ⊢
  have ho := h1.1
  refine aw_loc at_99_21 rfl rfl ?_
  refine aw_get at_99_22 rfl fl_12_68 ho rfl ?_
  refine ax_if_le at_99_25 ⟨by omega, by omega⟩ (fun z => absurd z (by decide)) (fun _ => ?_)
  refine aw_pure (st' := ax_i (1) :: _) at_99_28 rfl rfl ?_
  refine aw_goto at_99_29 ?_
  exact ax_retZ at_99_33 rfl (Or.inr rfl) ⟨_, _, rfl, rfl, f1, h1⟩
set_option maxHeartbeats 1000000 in
theorem r_m_ref2 (h : mst S T D n rc wt kp sx sc F B) : ai_rn L xs (d + 1) 99 [.ref 432, ax_i 0, ax_i 1] S (fun v S' => v = some (ax_i 1) ∧ fr 432 452 S S' ∧ mst S' 2 D n rc wt kp sx sc F B) := by
  have ho := h.1
  refine ai_rn_of (M := ai_m99) rfl (by decide) (Nat.le_of_ble_eq_true rfl) ?_
  refine aw_loc at_99_0 rfl rfl ?_
  refine aw_loc at_99_1 rfl rfl ?_
  refine ax_if_eq at_99_2 ⟨by omega, by omega⟩ (fun _ => ?_) (fun z => absurd rfl z)
  show ai_aw L xs d ai_m99 _ (9, _, _, _)
  refine aw_loc at_99_9 rfl rfl ?_
  refine ax_if_eq at_99_10 ⟨by omega, by omega⟩ (fun z => absurd z (by decide)) (fun _ => ?_)
  refine aw_pure (st' := ax_i (2) :: _) at_99_13 rfl rfl ?_
  refine aw_goto at_99_14 ?_
  refine aw_put at_99_18 rfl fl_12_68 h.1 (Nat.le_of_ble_eq_true rfl) rfl (by decide +kernel) ?_
  have h1 : mst (ai_wr S 432 (.inr (11, mf 2 D n rc wt kp sx sc))) 2 D n rc wt kp sx sc F B := mst_fl h
  have f1 : fr 432 452 S (ai_wr S 432 (.inr (11, mf 2 D n rc wt kp sx sc))) := fr_md (by decide) (by decide)
  show ai_aw L xs d ai_m99 _ (21, _, _, (ai_wr S 432 (.inr (11, mf 2 D n rc wt kp sx sc))))
  generalize (ai_wr S 432 (.inr (11, mf 2 D n rc wt kp sx sc))) = S1 at h1 f1 ⊢
  have ho := h1.1
  refine aw_loc at_99_21 rfl rfl ?_
  refine aw_get at_99_22 rfl fl_12_68 ho rfl ?_
  refine ax_if_le at_99_25 ⟨by omega, by omega⟩ (fun z => absurd z (by decide)) (fun _ => ?_)
  refine aw_pure (st' := ax_i (1) :: _) at_99_28 rfl rfl ?_
  refine aw_goto at_99_29 ?_
  exact ax_retZ at_99_33 rfl (Or.inr rfl) ⟨_, _, rfl, rfl, f1, h1⟩
set_option maxHeartbeats 1000000 in
theorem r_m_ref0 (h : mst S T D n rc wt kp sx sc F B) : ai_rn L xs (d + 1) 99 [.ref 432, ax_i 0, ax_i 0] S (fun v S' => v = some (ax_i 0) ∧ fr 432 452 S S' ∧ mst S' 0 D n rc wt kp sx sc F B) := by
  have ho := h.1
  refine ai_rn_of (M := ai_m99) rfl (by decide) (Nat.le_of_ble_eq_true rfl) ?_
  refine aw_loc at_99_0 rfl rfl ?_
  refine aw_loc at_99_1 rfl rfl ?_
  refine ax_if_eq at_99_2 ⟨by omega, by omega⟩ (fun _ => ?_) (fun z => absurd rfl z)
  show ai_aw L xs d ai_m99 _ (9, _, _, _)
  refine aw_loc at_99_9 rfl rfl ?_
  refine ax_if_eq at_99_10 ⟨by omega, by omega⟩ (fun _ => ?_) (fun z => absurd rfl z)
  show ai_aw L xs d ai_m99 _ (17, _, _, _)
  refine aw_pure (st' := ax_i (0) :: _) at_99_17 rfl rfl ?_
  refine aw_put at_99_18 rfl fl_12_68 h.1 (Nat.le_of_ble_eq_true rfl) rfl (by decide +kernel) ?_
  have h1 : mst (ai_wr S 432 (.inr (11, mf 0 D n rc wt kp sx sc))) 0 D n rc wt kp sx sc F B := mst_fl h
  have f1 : fr 432 452 S (ai_wr S 432 (.inr (11, mf 0 D n rc wt kp sx sc))) := fr_md (by decide) (by decide)
  show ai_aw L xs d ai_m99 _ (21, _, _, (ai_wr S 432 (.inr (11, mf 0 D n rc wt kp sx sc))))
  generalize (ai_wr S 432 (.inr (11, mf 0 D n rc wt kp sx sc))) = S1 at h1 f1 ⊢
  have ho := h1.1
  refine aw_loc at_99_21 rfl rfl ?_
  refine aw_get at_99_22 rfl fl_12_68 ho rfl ?_
  refine ax_if_le at_99_25 ⟨by omega, by omega⟩ (fun _ => ?_) (fun z => absurd z (by decide))
  show ai_aw L xs d ai_m99 _ (32, _, _, _)
  refine aw_pure (st' := ax_i (0) :: _) at_99_32 rfl rfl ?_
  exact ax_retZ at_99_33 rfl (Or.inl rfl) ⟨_, _, rfl, rfl, f1, h1⟩
theorem r_m_thrown (h : mst S T D n rc wt kp sx sc F B) : ai_rn L xs (d + 1) 97 [.ref 432] S (fun v S' => S' = S ∧ v = some (ax_i T)) := by
  have ho := h.1
  refine ai_rn_of (M := ai_m97) rfl (by decide) (Nat.le_of_ble_eq_true rfl) ?_
  refine aw_loc at_97_0 rfl rfl ?_
  refine aw_get at_97_1 rfl fl_12_68 ho rfl ?_
  exact ax_ret at_97_4 rfl ⟨_, _, rfl, rfl, rfl⟩
set_option maxHeartbeats 4000000 in
theorem r_m_declare {c p : Int} (h : mst S T D n rc wt kp sx sc F B) (hPr : ∀ i, -1 ≤ F 0 i ∧ F 0 i ≤ 2) (hc : 0 ≤ c ∧ c < 65536) (hp : ax_R p) : ai_rn L xs (d + 2) 98 [.ref 432, ax_i c, ax_i p] S (fun v S' => v = none ∧ fr 432 452 S S' ∧ (((c < 97 ∨ 104 < c ∨ p < 0 ∨ 2 < p) ∧ mst S' 1 D n rc wt kp sx sc F B) ∨ (¬ (c < 97 ∨ 104 < c ∨ p < 0 ∨ 2 < p) ∧ 0 ≤ F 0 (c - 97).toNat ∧ mst S' 2 D n rc wt kp sx sc F B) ∨ (¬ (c < 97 ∨ 104 < c ∨ p < 0 ∨ 2 < p) ∧ ¬ 0 ≤ F 0 (c - 97).toNat ∧ mst S' 0 (D + 1) n rc wt kp sx sc (fup (fup F 0 (ax_up (F 0) (c - 97).toNat p)) 1 (ax_up (F 1) (c - 97).toNat D)) B))) := by
  have ho := h.1
  have r0 : ai_arr S 433 0 = some (8, ax_f (F 0)) := h.2.1 0 (by decide)
  have r1 : ai_arr S 434 0 = some (8, ax_f (F 1)) := h.2.1 1 (by decide)
  have hPk := hPr (c - 97).toNat
  refine ai_rn_of (M := ai_m98) rfl (by decide) (Nat.le_of_ble_eq_true rfl) ?_
  refine aw_loc at_98_0 rfl rfl ?_
  refine aw_pure (st' := ax_i (97) :: _) at_98_1 rfl rfl ?_
  refine ax_sub at_98_3 rfl ?_
  refine aw_loc at_98_4 rfl rfl ?_
  have k24 : (c < 97 ∨ 104 < c ∨ p < 0 ∨ 2 < p) → ai_aw L xs (d + 1) ai_m98 (fun (o : ai_O) => ∃ v S', o = (.inl v, S') ∧ v = none ∧ fr 432 452 S S' ∧ (((c < 97 ∨ 104 < c ∨ p < 0 ∨ 2 < p) ∧ mst S' 1 D n rc wt kp sx sc F B) ∨ (¬ (c < 97 ∨ 104 < c ∨ p < 0 ∨ 2 < p) ∧ 0 ≤ F 0 (c - 97).toNat ∧ mst S' 2 D n rc wt kp sx sc F B) ∨ (¬ (c < 97 ∨ 104 < c ∨ p < 0 ∨ 2 < p) ∧ ¬ 0 ≤ F 0 (c - 97).toNat ∧ mst S' 0 (D + 1) n rc wt kp sx sc (fup (fup F 0 (ax_up (F 0) (c - 97).toNat p)) 1 (ax_up (F 1) (c - 97).toNat D)) B))) (24, [some (.ref 432), some (ax_i c), some (ax_i p), some (ax_i (c - 97)), none], [], S) := by
    intro hb
    refine aw_pure (st' := ax_i (1) :: _) at_98_24 rfl rfl ?_
    refine aw_goto at_98_25 ?_
    refine aw_loc at_98_29 rfl rfl ?_
    refine aw_loc at_98_31 rfl rfl ?_
    refine aw_loc at_98_32 rfl rfl ?_
    refine aw_loc at_98_34 rfl rfl ?_
    refine ax_if_ne at_98_36 ⟨by omega, by omega⟩ (fun _ => ?_) (fun z => absurd z (by decide))
    show ai_aw L xs (d + 1) ai_m98 _ (52, _, _, _)
    refine aw_pure (st' := ax_i (0) :: _) at_98_52 rfl rfl ?_
    refine aw_cv (a := 432) [ax_i 1, ax_i 0] [] at_98_53 mt_12_72 (Or.inl rfl) rfl rfl (Nat.le_of_ble_eq_true rfl) ⟨_, ho⟩ ((r_m_ref1 (d := d) h).mono ?_)
    rintro v S1 ⟨rfl, f1, h1⟩
    refine ax_if_eq at_98_56 ⟨by omega, by omega⟩ (fun z => absurd z (by decide)) (fun _ => ?_)
    exact aw_vret at_98_59 rfl ⟨_, _, rfl, rfl, f1, Or.inl ⟨hb, h1⟩⟩
  refine aw_loc at_98_5 rfl rfl ?_
  refine ax_if_lt at_98_6 ⟨by omega, by omega⟩ (fun z => k24 (by omega)) (fun z1 => ?_)
  refine aw_loc at_98_9 rfl rfl ?_
  refine aw_pure (st' := ax_i (7) :: _) at_98_10 rfl rfl ?_
  refine ax_icmp_gt at_98_12 ⟨by omega, by omega⟩ ⟨by omega, by omega⟩ (fun z => k24 (by omega)) (fun z2 => ?_)
  refine aw_loc at_98_15 rfl rfl ?_
  refine ax_if_lt at_98_16 hp (fun z => k24 (by omega)) (fun z3 => ?_)
  refine aw_loc at_98_19 rfl rfl ?_
  refine aw_pure (st' := ax_i (2) :: _) at_98_20 rfl rfl ?_
  refine ax_icmp_le at_98_21 hp ⟨by omega, by omega⟩ (fun z4 => ?_) (fun z => k24 (by omega))
  show ai_aw L xs (d + 1) ai_m98 _ (28, _, _, _)
  refine aw_pure (st' := ax_i (0) :: _) at_98_28 rfl rfl ?_
  refine aw_loc at_98_29 rfl rfl ?_
  refine aw_loc at_98_31 rfl rfl ?_
  refine aw_loc at_98_32 rfl rfl ?_
  refine aw_loc at_98_34 rfl rfl ?_
  refine ax_if_ne at_98_36 ⟨by omega, by omega⟩ (fun z => absurd rfl z) (fun _ => ?_)
  refine aw_loc at_98_39 rfl rfl ?_
  refine aw_get at_98_40 rfl fl_12_7 ho rfl ?_
  refine aw_loc at_98_43 rfl rfl ?_
  refine ax_ild at_98_44 rfl r0 (k := (c - 97).toNat) (by omega) (by omega) (by decide) ?_
  refine ax_if_lt at_98_45 ⟨by omega, by omega⟩ (fun z5 => ?_) (fun z5 => ?_)
  · skip
    refine aw_pure (st' := ax_i (0) :: _) at_98_52 rfl rfl ?_
    refine aw_cv (a := 432) [ax_i 0, ax_i 0] [] at_98_53 mt_12_72 (Or.inl rfl) rfl rfl (Nat.le_of_ble_eq_true rfl) ⟨_, ho⟩ ((r_m_ref0 (d := d) h).mono ?_)
    rintro v S1 ⟨rfl, f1, h1⟩
    refine ax_if_eq at_98_56 ⟨by omega, by omega⟩ (fun _ => ?_) (fun z => absurd rfl z)
    show ai_aw L xs (d + 1) ai_m98 _ (60, _, _, _)
    have ho := h1.1
    have r0 : ai_arr S1 433 0 = some (8, ax_f (F 0)) := h1.2.1 0 (by decide)
    have r1 : ai_arr S1 434 0 = some (8, ax_f (F 1)) := h1.2.1 1 (by decide)
    refine aw_loc at_98_60 rfl rfl ?_
    refine aw_get at_98_61 rfl fl_12_7 ho rfl ?_
    refine aw_loc at_98_64 rfl rfl ?_
    refine aw_loc at_98_65 rfl rfl ?_
    refine ax_ist (k := (c - 97).toNat) at_98_66 rfl r0 (by omega) (by omega) (by decide) ?_
    have h2 : mst (ai_wr S1 433 (.inl (0, ai_I 8 (ax_f (ax_up (F 0) (c - 97).toNat p))))) 0 D n rc wt kp sx sc (fup F 0 (ax_up (F 0) (c - 97).toNat p)) B := mst_wr (i := 0) h1 (by decide)
    have f2 : fr 432 452 S1 (ai_wr S1 433 (.inl (0, ai_I 8 (ax_f (ax_up (F 0) (c - 97).toNat p))))) := fr_md (by decide) (by decide)
    generalize (ai_wr S1 433 (.inl (0, ai_I 8 (ax_f (ax_up (F 0) (c - 97).toNat p))))) = S2 at h2 f2 ⊢
    have ho := h2.1
    have r1 : ai_arr S2 434 0 = some (8, ax_f (F 1)) := h2.2.1 1 (by decide)
    refine aw_loc at_98_67 rfl rfl ?_
    refine aw_get at_98_68 rfl fl_12_13 ho rfl ?_
    refine aw_loc at_98_71 rfl rfl ?_
    refine aw_loc at_98_72 rfl rfl ?_
    refine aw_get at_98_73 rfl fl_12_76 ho rfl ?_
    refine ax_ist (k := (c - 97).toNat) at_98_76 rfl r1 (by omega) (by omega) (by decide) ?_
    have h3 : mst (ai_wr S2 434 (.inl (0, ai_I 8 (ax_f (ax_up (F 1) (c - 97).toNat D))))) 0 D n rc wt kp sx sc (fup (fup F 0 (ax_up (F 0) (c - 97).toNat p)) 1 (ax_up (F 1) (c - 97).toNat D)) B := mst_wr (i := 1) h2 (by decide)
    have f3 : fr 432 452 S2 (ai_wr S2 434 (.inl (0, ai_I 8 (ax_f (ax_up (F 1) (c - 97).toNat D))))) := fr_md (by decide) (by decide)
    generalize (ai_wr S2 434 (.inl (0, ai_I 8 (ax_f (ax_up (F 1) (c - 97).toNat D))))) = S3 at h3 f3 ⊢
    have ho := h3.1
    refine aw_loc at_98_77 rfl rfl ?_
    refine aw_pure at_98_78 rfl rfl ?_
    refine aw_get at_98_79 rfl fl_12_76 ho rfl ?_
    refine aw_pure (st' := ax_i (1) :: _) at_98_82 rfl rfl ?_
    refine ax_add at_98_83 rfl ?_
    refine aw_put at_98_84 rfl fl_12_76 h3.1 (Nat.le_of_ble_eq_true rfl) rfl (by decide +kernel) ?_
    have h4 : mst (ai_wr S3 432 (.inr (11, mf 0 (D + 1) n rc wt kp sx sc))) 0 (D + 1) n rc wt kp sx sc (fup (fup F 0 (ax_up (F 0) (c - 97).toNat p)) 1 (ax_up (F 1) (c - 97).toNat D)) B := mst_fl h3
    have f4 : fr 432 452 S3 (ai_wr S3 432 (.inr (11, mf 0 (D + 1) n rc wt kp sx sc))) := fr_md (by decide) (by decide)
    show ai_aw L xs (d + 1) ai_m98 _ (87, _, _, (ai_wr S3 432 (.inr (11, mf 0 (D + 1) n rc wt kp sx sc))))
    generalize (ai_wr S3 432 (.inr (11, mf 0 (D + 1) n rc wt kp sx sc))) = S4 at h4 f4 ⊢
    have ho := h4.1
    exact aw_vret at_98_87 rfl ⟨_, _, rfl, rfl, ((f1.tr f2).tr f3).tr f4, Or.inr (Or.inr ⟨by omega, by omega, h4⟩)⟩
  · skip
    refine aw_pure (st' := ax_i (1) :: _) at_98_48 rfl rfl ?_
    refine aw_goto at_98_49 ?_
    refine aw_cv (a := 432) [ax_i 0, ax_i 1] [] at_98_53 mt_12_72 (Or.inl rfl) rfl rfl (Nat.le_of_ble_eq_true rfl) ⟨_, ho⟩ ((r_m_ref2 (d := d) h).mono ?_)
    rintro v S1 ⟨rfl, f1, h1⟩
    refine ax_if_eq at_98_56 ⟨by omega, by omega⟩ (fun z => absurd z (by decide)) (fun _ => ?_)
    exact aw_vret at_98_59 rfl ⟨_, _, rfl, rfl, f1, Or.inr (Or.inl ⟨by omega, z5, h1⟩)⟩
set_option maxHeartbeats 1000000 in
theorem r_m_draft {i : Int} (h : mst S T D n rc wt kp sx sc F B) (hn : 0 ≤ n ∧ n ≤ 60) (hF : ∀ i, 0 ≤ F 2 i ∧ F 2 i < 65536) (hi : ax_R i) : ai_rn L xs (d + 1) 103 [.ref 432, ax_i i] S (fun v S' => fr 432 452 S S' ∧ mst S' 0 D n rc wt kp sx sc F B ∧ v = some (ax_i (if 0 ≤ i ∧ i < n then F 2 i.toNat else 0))) := by
  refine ai_rn_of (M := ai_m103) rfl (by decide) (Nat.le_of_ble_eq_true rfl) ?_
  have ho := h.1
  refine aw_loc at_103_0 rfl rfl ?_
  refine aw_pure (st' := ax_i (0) :: _) at_103_1 rfl rfl ?_
  refine aw_put at_103_2 rfl fl_12_68 h.1 (Nat.le_of_ble_eq_true rfl) rfl (by decide +kernel) ?_
  have h1 : mst (ai_wr S 432 (.inr (11, mf 0 D n rc wt kp sx sc))) 0 D n rc wt kp sx sc F B := mst_fl h
  have f1 : fr 432 452 S (ai_wr S 432 (.inr (11, mf 0 D n rc wt kp sx sc))) := fr_md (by decide) (by decide)
  show ai_aw L xs d ai_m103 _ (5, _, _, (ai_wr S 432 (.inr (11, mf 0 D n rc wt kp sx sc))))
  generalize (ai_wr S 432 (.inr (11, mf 0 D n rc wt kp sx sc))) = S1 at h1 f1 ⊢
  have ho := h1.1
  have r2 : ai_arr S1 435 0 = some (60, ax_f (F 2)) := h1.2.1 2 (by decide)
  refine aw_loc at_103_5 rfl rfl ?_
  refine ax_if_lt at_103_6 hi (fun z => ?_) (fun z => ?_)
  · skip
    refine aw_pure (st' := ax_i (0) :: _) at_103_27 rfl rfl ?_
    exact ax_retC at_103_28 rfl ⟨by decide, by decide⟩ ⟨_, _, rfl, f1, h1, by rw [if_neg (by omega)]⟩
  · skip
    refine aw_loc at_103_9 rfl rfl ?_
    refine aw_loc at_103_10 rfl rfl ?_
    refine aw_get at_103_11 rfl fl_12_85 ho rfl ?_
    refine ax_icmp_ge at_103_14 hi ⟨by omega, by omega⟩ (fun z2 => ?_) (fun z2 => ?_)
    · skip
      refine aw_pure (st' := ax_i (0) :: _) at_103_27 rfl rfl ?_
      exact ax_retC at_103_28 rfl ⟨by decide, by decide⟩ ⟨_, _, rfl, f1, h1, by rw [if_neg (by omega)]⟩
    · skip
      refine aw_loc at_103_17 rfl rfl ?_
      refine aw_get at_103_18 rfl fl_12_16 ho rfl ?_
      refine aw_loc at_103_21 rfl rfl ?_
      refine ax_ild at_103_22 rfl r2 (k := i.toNat) (by omega) (by omega) (by decide) ?_
      refine ax_chrI at_103_23 rfl (hF _) ?_
      refine aw_goto at_103_24 ?_
      exact ax_retC at_103_28 rfl (hF _) ⟨_, _, rfl, f1, h1, by rw [if_pos ⟨by omega, by omega⟩]⟩
set_option maxHeartbeats 4000000 in
theorem r_m_told {l r : List Int} {i bt : Int} (h : mst S T D n rc wt kp sx sc F B) (w0 : mwd (F 9) (F 10) 0 l) (w1 : mwd (F 9) (F 10) 1 r) (hl : l.length ≤ 24) (hr : r.length ≤ 24) (k1 : al (kn P 129) l) (k2 : al (kn P 129) r) (hi : ax_R i) (hbt : 0 ≤ bt ∧ bt < 65536) : ai_rn L xs (d + 2) 152 [.ref 432, ax_i i, ax_i bt] S (fun v S' => S' = S ∧ v = some (ax_i (tld l r bt i))) := by
  have ho := h.1
  have r9 : ai_arr S 442 0 = some (192, ax_f (F 9)) := h.2.1 9 (by decide)
  have r10 : ai_arr S 443 0 = some (3, ax_f (F 10)) := h.2.1 10 (by decide)
  have e0 : F 10 0 = (l.length : Int) := mwd_len w0 (by omega)
  have e1 : F 10 1 = (r.length : Int) := mwd_len w1 (by omega)
  refine ai_rn_of (M := ai_m152) rfl (by decide) (Nat.le_of_ble_eq_true rfl) ?_
  refine aw_loc at_152_0 rfl rfl ?_
  refine ax_if_lt at_152_1 hi (fun z => ?_) (fun z => ?_)
  · skip
    refine aw_pure (st' := ax_i (0) :: _) at_152_21 rfl rfl ?_
    exact ax_retC at_152_22 rfl ⟨by decide, by decide⟩ ⟨_, _, rfl, rfl, by unfold tld; rw [if_pos (Or.inl z)]⟩
  · skip
    refine aw_loc at_152_4 rfl rfl ?_
    refine aw_loc at_152_5 rfl rfl ?_
    refine aw_get at_152_6 rfl fl_12_40 ho rfl ?_
    refine aw_pure (st' := ax_i (0) :: _) at_152_9 rfl rfl ?_
    refine ax_ild at_152_10 rfl r10 (k := 0) rfl (by decide) (by decide) ?_
    rw [e0]
    refine aw_loc at_152_11 rfl rfl ?_
    refine aw_get at_152_12 rfl fl_12_40 ho rfl ?_
    refine aw_pure (st' := ax_i (1) :: _) at_152_15 rfl rfl ?_
    refine ax_ild at_152_16 rfl r10 (k := 1) rfl (by decide) (by decide) ?_
    rw [e1]
    refine ax_add at_152_17 rfl ?_
    refine ax_icmp_le at_152_18 hi ⟨by omega, by omega⟩ (fun z2 => ?_) (fun z2 => ?_)
    · skip
      have hnn : ¬ (i < 0 ∨ (l.length : Int) + r.length < i) := by omega
      refine aw_loc at_152_23 rfl rfl ?_
      refine aw_loc at_152_24 rfl rfl ?_
      refine aw_get at_152_25 rfl fl_12_40 ho rfl ?_
      refine aw_pure (st' := ax_i (0) :: _) at_152_28 rfl rfl ?_
      refine ax_ild at_152_29 rfl r10 (k := 0) rfl (by decide) (by decide) ?_
      rw [e0]
      refine ax_icmp_ne at_152_30 hi ⟨by omega, by omega⟩ (fun z3 => ?_) (fun z3 => ?_)
      · skip
        refine aw_loc at_152_37 rfl rfl ?_
        refine aw_loc at_152_38 rfl rfl ?_
        refine aw_get at_152_39 rfl fl_12_40 ho rfl ?_
        refine aw_pure (st' := ax_i (0) :: _) at_152_42 rfl rfl ?_
        refine ax_ild at_152_43 rfl r10 (k := 0) rfl (by decide) (by decide) ?_
        rw [e0]
        refine ax_icmp_ge at_152_44 hi ⟨by omega, by omega⟩ (fun z4 => ?_) (fun z4 => ?_)
        · skip
          refine aw_loc at_152_56 rfl rfl ?_
          refine aw_get at_152_57 rfl fl_12_37 ho rfl ?_
          refine aw_pure (st' := ax_i (64) :: _) at_152_60 rfl rfl ?_
          refine aw_loc at_152_62 rfl rfl ?_
          refine ax_add at_152_63 rfl ?_
          refine aw_loc at_152_64 rfl rfl ?_
          refine aw_get at_152_65 rfl fl_12_40 ho rfl ?_
          refine aw_pure (st' := ax_i (0) :: _) at_152_68 rfl rfl ?_
          refine ax_ild at_152_69 rfl r10 (k := 0) rfl (by decide) (by decide) ?_
          rw [e0]
          refine ax_sub at_152_70 rfl ?_
          refine aw_pure (st' := ax_i (1) :: _) at_152_71 rfl rfl ?_
          refine ax_sub at_152_72 rfl ?_
          refine ax_ild at_152_73 rfl r9 (k := 64 + (i - l.length - 1).toNat) (by omega) (by omega) (by decide) ?_
          have hk9 := al_get k2 (j := (i - l.length - 1).toNat) (by omega)
          rw [show F 9 (64 + (i - l.length - 1).toNat) = co (r.getD (i - l.length - 1).toNat 0) from w1.2 _ (by omega) (by omega)]
          refine aw_cs [ax_i (co (r.getD (i - l.length - 1).toNat 0))] [] at_152_74 rfl mt_12_241 (Or.inl rfl) rfl rfl (Nat.le_of_ble_eq_true rfl) ((r_m_letter (d := d) ⟨(co_in hk9).1, by have := (co_in hk9).2.1; omega⟩).mono ?_)
          rintro v S0 ⟨hS, rfl⟩
          have hS2 := hS.symm
          subst hS2
          rw [lt_co hk9]
          refine ax_retC at_152_77 rfl (by have := kn_lt hk9; omega) ⟨_, _, rfl, rfl, by unfold tld; rw [if_neg hnn, if_neg z3, if_neg (by omega)]⟩
        · skip
          refine aw_loc at_152_47 rfl rfl ?_
          refine aw_get at_152_48 rfl fl_12_37 ho rfl ?_
          refine aw_loc at_152_51 rfl rfl ?_
          refine ax_ild at_152_52 rfl r9 (k := i.toNat) (by omega) (by omega) (by decide) ?_
          refine aw_goto at_152_53 ?_
          have hk9 := al_get k1 (j := i.toNat) (by omega)
          rw [show F 9 i.toNat = co (l.getD i.toNat 0) from by have := w0.2 i.toNat (by omega) (by omega); rw [Nat.mul_zero, Nat.zero_add] at this; exact this]
          refine aw_cs [ax_i (co (l.getD i.toNat 0))] [] at_152_74 rfl mt_12_241 (Or.inl rfl) rfl rfl (Nat.le_of_ble_eq_true rfl) ((r_m_letter (d := d) ⟨(co_in hk9).1, by have := (co_in hk9).2.1; omega⟩).mono ?_)
          rintro v S0 ⟨hS, rfl⟩
          have hS2 := hS.symm
          subst hS2
          rw [lt_co hk9]
          refine ax_retC at_152_77 rfl (by have := kn_lt hk9; omega) ⟨_, _, rfl, rfl, by unfold tld; rw [if_neg hnn, if_neg z3, if_pos (by omega)]⟩
      · skip
        refine aw_loc at_152_33 rfl rfl ?_
        refine aw_goto at_152_34 ?_
        exact ax_retC at_152_77 rfl hbt ⟨_, _, rfl, rfl, by unfold tld; rw [if_neg hnn, if_pos z3]⟩
    · skip
      refine aw_pure (st' := ax_i (0) :: _) at_152_21 rfl rfl ?_
      exact ax_retC at_152_22 rfl ⟨by decide, by decide⟩ ⟨_, _, rfl, rfl, by unfold tld; rw [if_pos (Or.inr (by omega))]⟩
set_option maxHeartbeats 4000000 in
theorem r_m_rule {k i : Int} (h : mgg S A T D n Rs Vs kp sx sc F B) (hk : ax_R k) (hi : ax_R i) : ai_rn L xs (d + 3) 151 [.ref 432, ax_i k, ax_i i] S (fun v S' => fr 432 452 S S' ∧ (∃ F', eq3 F F' ∧ mgg S' A 0 D n Rs Vs kp sx sc F' B) ∧ v = some (ax_i (if 0 ≤ k ∧ k < (Rs.length : Int) then tld (Rs.getD k.toNat ([], [])).1 (Rs.getD k.toNat ([], [])).2 62 i else 0))) := by
  have ho := h.1.1
  have hl14 := h.2.2.1.2.1
  have hl48 := h.2.2.2.1.2.1
  refine ai_rn_of (M := ai_m151) rfl (by decide) (Nat.le_of_ble_eq_true rfl) ?_
  refine aw_loc at_151_0 rfl rfl ?_
  refine aw_pure (st' := ax_i (0) :: _) at_151_1 rfl rfl ?_
  refine aw_put at_151_2 rfl fl_12_68 h.1.1 (Nat.le_of_ble_eq_true rfl) rfl (by decide +kernel) ?_
  have h1 : mst (ai_wr S 432 (.inr (11, mf 0 D n (Rs.length : Int) (Vs.length : Int) kp sx sc))) 0 D n (Rs.length : Int) (Vs.length : Int) kp sx sc F B := mst_fl h.1
  have f1 : fr 432 452 S (ai_wr S 432 (.inr (11, mf 0 D n (Rs.length : Int) (Vs.length : Int) kp sx sc))) := fr_md (by decide) (by decide)
  show ai_aw L xs (d + 2) ai_m151 _ (5, _, _, (ai_wr S 432 (.inr (11, mf 0 D n (Rs.length : Int) (Vs.length : Int) kp sx sc))))
  generalize (ai_wr S 432 (.inr (11, mf 0 D n (Rs.length : Int) (Vs.length : Int) kp sx sc))) = S1 at h1 f1 ⊢
  have ho := h1.1
  refine aw_loc at_151_5 rfl rfl ?_
  refine ax_if_lt at_151_6 hk (fun z => ?_) (fun z => ?_)
  · skip
    refine aw_pure (st' := ax_i (0) :: _) at_151_17 rfl rfl ?_
    exact ax_retC at_151_18 rfl ⟨by decide, by decide⟩ ⟨_, _, rfl, f1, ⟨F, fun _ _ => rfl, mgg_T h h1 (fun _ _ _ _ => rfl) h.2.2.2.2.1 rfl⟩, by rw [if_neg (by omega)]⟩
  · skip
    refine aw_loc at_151_9 rfl rfl ?_
    refine aw_loc at_151_10 rfl rfl ?_
    refine aw_get at_151_11 rfl fl_12_113 ho rfl ?_
    refine ax_icmp_lt at_151_14 hk ⟨by omega, by omega⟩ (fun z2 => ?_) (fun z2 => ?_)
    · skip
      obtain ⟨m, rfl⟩ : ∃ m : Nat, k = (m : Int) := ⟨k.toNat, by omega⟩
      have hlt : m < Rs.length := by omega
      have hqx := h.2.2.1.1 m hlt
      have hxo := (h.2.2.1.2.2 _ (ind_mem hlt)).1
      refine aw_loc at_151_19 rfl rfl ?_
      refine aw_loc at_151_20 rfl rfl ?_
      refine aw_cv (a := 432) [ax_i (m : Nat)] [] at_151_21 mt_12_199 (Or.inl rfl) rfl rfl (Nat.le_of_ble_eq_true rfl) ⟨_, ho⟩ ((r_m_getR (d := d + 1) (P := F 0) h1 hqx (by omega) h.2.2.2.2.1 (al_kn (by decide) hxo.2.2.1.1) (al_kn (by decide) hxo.2.2.1.2)).mono ?_)
      rintro v S2 ⟨rfl, f2, X, Z, h2x, w0, w1, hxX⟩
      obtain ⟨F2, e2, rfl, rfl, h2⟩ : ∃ F2 : Nat → Nat → Int, (∀ i, i ≠ 9 → i ≠ 10 → F2 i = F i) ∧ F2 9 = X ∧ F2 10 = Z ∧ mst S2 0 D n (Rs.length : Int) (Vs.length : Int) kp sx sc F2 B := ⟨_, fun i a b => (fup_ne b).trans (fup_ne a), (fup_ne (by decide)).trans (fup_get _ _ _), fup_get _ _ _, h2x⟩
      have ho := h2.1
      refine aw_loc at_151_24 rfl rfl ?_
      refine aw_loc at_151_25 rfl rfl ?_
      refine aw_pure (st' := ax_i (62) :: _) at_151_26 rfl rfl ?_
      refine aw_cv (a := 432) [ax_i i, ax_i (62)] [] at_151_28 mt_12_245 (Or.inl rfl) rfl rfl (Nat.le_of_ble_eq_true rfl) ⟨_, ho⟩ ((r_m_told (d := d) (P := F 0) h2 w0 w1 hxo.2.1.1 hxo.2.1.2 (al_kn (by decide) hxo.2.2.1.1) (al_kn (by decide) hxo.2.2.1.2) hi ⟨by decide, by decide⟩).mono ?_)
      rintro v S0 ⟨hS, rfl⟩
      have hS2 := hS.symm
      subst hS2
      exact ax_retC at_151_31 rfl (tld_kn (P := F 0) (al_kn (by decide) hxo.2.2.1.1) (al_kn (by decide) hxo.2.2.1.2) ⟨by decide, by decide⟩) ⟨_, _, rfl, f1.tr f2, ⟨F2, fun i hi => e2 i (by omega) (by omega), mgg_T h h2 (fun i _ _ hi => e2 i (by omega) (by omega)) hxX (e2 13 (by decide) (by decide))⟩, by rw [if_pos ⟨by omega, by omega⟩, Int.toNat_natCast]⟩
    · skip
      refine aw_pure (st' := ax_i (0) :: _) at_151_17 rfl rfl ?_
      exact ax_retC at_151_18 rfl ⟨by decide, by decide⟩ ⟨_, _, rfl, f1, ⟨F, fun _ _ => rfl, mgg_T h h1 (fun _ _ _ _ => rfl) h.2.2.2.2.1 rfl⟩, by rw [if_neg (by omega)]⟩
set_option maxHeartbeats 4000000 in
theorem r_m_equationAt {k i : Int} (h : mgg S A T D n Rs Vs kp sx sc F B) (hk : ax_R k) (hi : ax_R i) : ai_rn L xs (d + 3) 154 [.ref 432, ax_i k, ax_i i] S (fun v S' => fr 432 452 S S' ∧ (∃ F', eq3 F F' ∧ mgg S' A 0 D n Rs Vs kp sx sc F' B) ∧ v = some (ax_i (if 0 ≤ k ∧ k < (Vs.length : Int) then tld (Vs.getD k.toNat ([], [])).1 (Vs.getD k.toNat ([], [])).2 61 i else 0))) := by
  have ho := h.1.1
  have hl14 := h.2.2.1.2.1
  have hl48 := h.2.2.2.1.2.1
  refine ai_rn_of (M := ai_m154) rfl (by decide) (Nat.le_of_ble_eq_true rfl) ?_
  refine aw_loc at_154_0 rfl rfl ?_
  refine aw_pure (st' := ax_i (0) :: _) at_154_1 rfl rfl ?_
  refine aw_put at_154_2 rfl fl_12_68 h.1.1 (Nat.le_of_ble_eq_true rfl) rfl (by decide +kernel) ?_
  have h1 : mst (ai_wr S 432 (.inr (11, mf 0 D n (Rs.length : Int) (Vs.length : Int) kp sx sc))) 0 D n (Rs.length : Int) (Vs.length : Int) kp sx sc F B := mst_fl h.1
  have f1 : fr 432 452 S (ai_wr S 432 (.inr (11, mf 0 D n (Rs.length : Int) (Vs.length : Int) kp sx sc))) := fr_md (by decide) (by decide)
  show ai_aw L xs (d + 2) ai_m154 _ (5, _, _, (ai_wr S 432 (.inr (11, mf 0 D n (Rs.length : Int) (Vs.length : Int) kp sx sc))))
  generalize (ai_wr S 432 (.inr (11, mf 0 D n (Rs.length : Int) (Vs.length : Int) kp sx sc))) = S1 at h1 f1 ⊢
  have ho := h1.1
  refine aw_loc at_154_5 rfl rfl ?_
  refine ax_if_lt at_154_6 hk (fun z => ?_) (fun z => ?_)
  · skip
    refine aw_pure (st' := ax_i (0) :: _) at_154_17 rfl rfl ?_
    exact ax_retC at_154_18 rfl ⟨by decide, by decide⟩ ⟨_, _, rfl, f1, ⟨F, fun _ _ => rfl, mgg_T h h1 (fun _ _ _ _ => rfl) h.2.2.2.2.1 rfl⟩, by rw [if_neg (by omega)]⟩
  · skip
    refine aw_loc at_154_9 rfl rfl ?_
    refine aw_loc at_154_10 rfl rfl ?_
    refine aw_get at_154_11 rfl fl_12_106 ho rfl ?_
    refine ax_icmp_lt at_154_14 hk ⟨by omega, by omega⟩ (fun z2 => ?_) (fun z2 => ?_)
    · skip
      obtain ⟨m, rfl⟩ : ∃ m : Nat, k = (m : Int) := ⟨k.toNat, by omega⟩
      have hlt : m < Vs.length := by omega
      have hqx := h.2.2.2.1.1 m hlt
      have hxo := h.2.2.2.1.2.2 _ (ind_mem hlt)
      refine aw_loc at_154_19 rfl rfl ?_
      refine aw_loc at_154_20 rfl rfl ?_
      refine aw_cv (a := 432) [ax_i (m : Nat)] [] at_154_21 mt_12_214 (Or.inl rfl) rfl rfl (Nat.le_of_ble_eq_true rfl) ⟨_, ho⟩ ((r_m_getP (d := d + 1) (P := F 0) h1 hqx (by omega) h.2.2.2.2.1 (al_kn (by decide) hxo.2.2.1.1) (al_kn (by decide) hxo.2.2.1.2)).mono ?_)
      rintro v S2 ⟨rfl, f2, X, Z, h2x, w0, w1, hxX⟩
      obtain ⟨F2, e2, rfl, rfl, h2⟩ : ∃ F2 : Nat → Nat → Int, (∀ i, i ≠ 9 → i ≠ 10 → F2 i = F i) ∧ F2 9 = X ∧ F2 10 = Z ∧ mst S2 0 D n (Rs.length : Int) (Vs.length : Int) kp sx sc F2 B := ⟨_, fun i a b => (fup_ne b).trans (fup_ne a), (fup_ne (by decide)).trans (fup_get _ _ _), fup_get _ _ _, h2x⟩
      have ho := h2.1
      refine aw_loc at_154_24 rfl rfl ?_
      refine aw_loc at_154_25 rfl rfl ?_
      refine aw_pure (st' := ax_i (61) :: _) at_154_26 rfl rfl ?_
      refine aw_cv (a := 432) [ax_i i, ax_i (61)] [] at_154_28 mt_12_245 (Or.inl rfl) rfl rfl (Nat.le_of_ble_eq_true rfl) ⟨_, ho⟩ ((r_m_told (d := d) (P := F 0) h2 w0 w1 hxo.2.1.1 hxo.2.1.2 (al_kn (by decide) hxo.2.2.1.1) (al_kn (by decide) hxo.2.2.1.2) hi ⟨by decide, by decide⟩).mono ?_)
      rintro v S0 ⟨hS, rfl⟩
      have hS2 := hS.symm
      subst hS2
      exact ax_retC at_154_31 rfl (tld_kn (P := F 0) (al_kn (by decide) hxo.2.2.1.1) (al_kn (by decide) hxo.2.2.1.2) ⟨by decide, by decide⟩) ⟨_, _, rfl, f1.tr f2, ⟨F2, fun i hi => e2 i (by omega) (by omega), mgg_T h h2 (fun i _ _ hi => e2 i (by omega) (by omega)) hxX (e2 13 (by decide) (by decide))⟩, by rw [if_pos ⟨by omega, by omega⟩, Int.toNat_natCast]⟩
    · skip
      refine aw_pure (st' := ax_i (0) :: _) at_154_17 rfl rfl ?_
      exact ax_retC at_154_18 rfl ⟨by decide, by decide⟩ ⟨_, _, rfl, f1, ⟨F, fun _ _ => rfl, mgg_T h h1 (fun _ _ _ _ => rfl) h.2.2.2.2.1 rfl⟩, by rw [if_neg (by omega)]⟩
end MC

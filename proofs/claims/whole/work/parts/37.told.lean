/-! What is told of a pair and of a list. -/
section TL
variable {L : Nat} {xs : Nat → Int32} {d : Nat} {S : ai_S}
theorem at_48_0 : ai_at ai_m48 0 = some (.iload_n 1, 1) := rfl
theorem at_48_1 : ai_at ai_m48 1 = some (.ifCond .lt 11, 3) := rfl
theorem at_48_4 : ai_at ai_m48 4 = some (.iload_n 1, 1) := rfl
theorem at_48_5 : ai_at ai_m48 5 = some (.aload_n 0, 1) := rfl
theorem at_48_6 : ai_at ai_m48 6 = some (.invokevirtual 33, 3) := rfl
theorem at_48_9 : ai_at ai_m48 9 = some (.if_icmp .le 5, 3) := rfl
theorem at_48_12 : ai_at ai_m48 12 = some (.iconst 0, 1) := rfl
theorem at_48_13 : ai_at ai_m48 13 = some (.ireturn, 1) := rfl
theorem at_48_14 : ai_at ai_m48 14 = some (.iload_n 1, 1) := rfl
theorem at_48_15 : ai_at ai_m48 15 = some (.aload_n 0, 1) := rfl
theorem at_48_16 : ai_at ai_m48 16 = some (.getfield 12, 3) := rfl
theorem at_48_19 : ai_at ai_m48 19 = some (.getfield 29, 3) := rfl
theorem at_48_22 : ai_at ai_m48 22 = some (.if_icmp .ne 5, 3) := rfl
theorem at_48_25 : ai_at ai_m48 25 = some (.iload_n 2, 1) := rfl
theorem at_48_26 : ai_at ai_m48 26 = some (.ireturn, 1) := rfl
theorem at_48_27 : ai_at ai_m48 27 = some (.iload_n 1, 1) := rfl
theorem at_48_28 : ai_at ai_m48 28 = some (.aload_n 0, 1) := rfl
theorem at_48_29 : ai_at ai_m48 29 = some (.getfield 12, 3) := rfl
theorem at_48_32 : ai_at ai_m48 32 = some (.getfield 29, 3) := rfl
theorem at_48_35 : ai_at ai_m48 35 = some (.if_icmp .ge 15, 3) := rfl
theorem at_48_38 : ai_at ai_m48 38 = some (.aload_n 0, 1) := rfl
theorem at_48_39 : ai_at ai_m48 39 = some (.getfield 12, 3) := rfl
theorem at_48_42 : ai_at ai_m48 42 = some (.getfield 36, 3) := rfl
theorem at_48_45 : ai_at ai_m48 45 = some (.iload_n 1, 1) := rfl
theorem at_48_46 : ai_at ai_m48 46 = some (.caload, 1) := rfl
theorem at_48_47 : ai_at ai_m48 47 = some (.goto 22, 3) := rfl
theorem at_48_50 : ai_at ai_m48 50 = some (.aload_n 0, 1) := rfl
theorem at_48_51 : ai_at ai_m48 51 = some (.getfield 18, 3) := rfl
theorem at_48_54 : ai_at ai_m48 54 = some (.getfield 36, 3) := rfl
theorem at_48_57 : ai_at ai_m48 57 = some (.iload_n 1, 1) := rfl
theorem at_48_58 : ai_at ai_m48 58 = some (.aload_n 0, 1) := rfl
theorem at_48_59 : ai_at ai_m48 59 = some (.getfield 12, 3) := rfl
theorem at_48_62 : ai_at ai_m48 62 = some (.getfield 29, 3) := rfl
theorem at_48_65 : ai_at ai_m48 65 = some (.isub, 1) := rfl
theorem at_48_66 : ai_at ai_m48 66 = some (.iconst 1, 1) := rfl
theorem at_48_67 : ai_at ai_m48 67 = some (.isub, 1) := rfl
theorem at_48_68 : ai_at ai_m48 68 = some (.caload, 1) := rfl
theorem at_48_69 : ai_at ai_m48 69 = some (.ireturn, 1) := rfl
theorem at_54_12 : ai_at ai_m54 12 = some (.aload_n 0, 1) := rfl
theorem at_54_13 : ai_at ai_m54 13 = some (.getfield 17, 3) := rfl
theorem at_54_16 : ai_at ai_m54 16 = some (.iload_n 1, 1) := rfl
theorem at_54_17 : ai_at ai_m54 17 = some (.aaload, 1) := rfl
theorem at_54_18 : ai_at ai_m54 18 = some (.iload_n 2, 1) := rfl
theorem at_54_19 : ai_at ai_m54 19 = some (.iload_n 3, 1) := rfl
theorem at_54_20 : ai_at ai_m54 20 = some (.invokevirtual 38, 3) := rfl
theorem at_54_23 : ai_at ai_m54 23 = some (.goto 4, 3) := rfl
theorem fl_4_36 : ai_fld 4 36 = some (4, 0, true) := by decide +kernel
theorem mt_4_33 : ai_mth 4 33 = some (0, 49, 0, 3) := by decide +kernel
theorem mt_5_38 : ai_mth 5 38 = some (0, 48, 2, 3) := by decide +kernel
set_option maxHeartbeats 2000000 in
theorem r_ptold {p : Nat} {l r : List Int} {i bt : Int} (hp : pw S p l r) (hll : l.length ≤ 24) (hrl : r.length ≤ 24) (hi : ax_R i) (hbt : 0 ≤ bt ∧ bt < 65536) : ai_rn L xs (d + 2) 48 [.ref p, ax_i i, ax_i bt] S (fun v S' => S' = S ∧ v = some (ax_i (tld l r bt i))) := by
  have hsz := r_psize2 (L := L) (xs := xs) (d := d) hp hll hrl
  obtain ⟨T, n, U, m, h, hT, hU⟩ := hp
  have e1 : n = l.length := by rw [hT.1]; omega
  have e2 : m = r.length := by rw [hU.1]; omega
  subst e1
  subst e2
  unfold ax_R at hi
  refine ai_rn_of (M := ai_m48) rfl (by decide) (Nat.le_of_ble_eq_true rfl) ?_
  have k12 : (i < 0 ∨ (l.length : Int) + r.length < i) → ai_aw L xs (d + 1) ai_m48 (fun o => ∃ v S', o = (.inl v, S') ∧ S' = S ∧ v = some (ax_i (tld l r bt i))) (12, ai_in ai_m48 [.ref p, ax_i i, ax_i bt], [], S) := by
    intro hout
    refine aw_pure (st' := ax_i (0) :: _) at_48_12 rfl rfl ?_
    exact ax_retC at_48_13 rfl (by omega) ⟨_, _, rfl, rfl, by unfold tld; rw [if_pos hout]⟩
  refine aw_loc at_48_0 rfl rfl ?_
  refine ax_if_lt at_48_1 ⟨by omega, by omega⟩ (fun z => k12 (Or.inl z)) (fun z1 => ?_)
  refine aw_loc at_48_4 rfl rfl ?_
  refine aw_loc at_48_5 rfl rfl ?_
  refine aw_cv (a := p) [] [ax_i i] at_48_6 mt_4_33 (Or.inl rfl) rfl rfl (Nat.le_of_ble_eq_true rfl) ⟨_, h.1⟩ (hsz.mono ?_)
  rintro v S0 ⟨hS, rfl⟩
  have hS2 := hS.symm
  subst hS2
  refine ax_icmp_le at_48_9 ⟨by omega, by omega⟩ ⟨by omega, by omega⟩ (fun z2 => ?_) (fun z2 => k12 (Or.inr z2))
  show ai_aw L xs (d + 1) ai_m48 _ (14, _, _, _)
  refine aw_loc at_48_14 rfl rfl ?_
  refine aw_loc at_48_15 rfl rfl ?_
  refine aw_get at_48_16 rfl fl_4_12 h.1 rfl ?_
  refine aw_get at_48_19 rfl fl_4_29 h.2.1.1 rfl ?_
  refine ax_icmp_ne at_48_22 ⟨by omega, by omega⟩ ⟨by omega, by omega⟩ (fun z3 => ?_) (fun z3 => ?_)
  · skip
    refine aw_loc at_48_27 rfl rfl ?_
    refine aw_loc at_48_28 rfl rfl ?_
    refine aw_get at_48_29 rfl fl_4_12 h.1 rfl ?_
    refine aw_get at_48_32 rfl fl_4_29 h.2.1.1 rfl ?_
    refine ax_icmp_ge at_48_35 ⟨by omega, by omega⟩ ⟨by omega, by omega⟩ (fun z4 => ?_) (fun z4 => ?_)
    · skip
      have hk : i - l.length - 1 = (((i - l.length - 1).toNat : Nat) : Int) := by omega
      have hu := hU.2.1 (i - l.length - 1).toNat (by omega) (by omega)
      have hu2 := hU.2.2 (i - l.length - 1).toNat
      refine aw_loc at_48_50 rfl rfl ?_
      refine aw_get at_48_51 rfl fl_4_18 h.1 rfl ?_
      refine aw_get at_48_54 rfl fl_4_36 h.2.2.1 rfl ?_
      refine aw_loc at_48_57 rfl rfl ?_
      refine aw_loc at_48_58 rfl rfl ?_
      refine aw_get at_48_59 rfl fl_4_12 h.1 rfl ?_
      refine aw_get at_48_62 rfl fl_4_29 h.2.1.1 rfl ?_
      refine ax_sub at_48_65 rfl ?_
      refine aw_pure (st' := ax_i (1) :: _) at_48_66 rfl rfl ?_
      refine ax_sub at_48_67 rfl ?_
      refine ax_cld at_48_68 rfl h.2.2.2 (k := (i - l.length - 1).toNat) hk (by omega) (by decide) ?_
      exact ax_retC at_48_69 rfl hu2 ⟨_, _, rfl, rfl, by unfold tld; rw [if_neg (by omega), if_neg z3, if_neg (by omega), hu]⟩
    · skip
      have ht := hT.2.1 i.toNat (by omega) (by omega)
      have ht2 := hT.2.2 i.toNat
      refine aw_loc at_48_38 rfl rfl ?_
      refine aw_get at_48_39 rfl fl_4_12 h.1 rfl ?_
      refine aw_get at_48_42 rfl fl_4_36 h.2.1.1 rfl ?_
      refine aw_loc at_48_45 rfl rfl ?_
      refine ax_cld at_48_46 rfl h.2.1.2 (k := i.toNat) (by omega) (by omega) (by decide) ?_
      refine aw_goto at_48_47 ?_
      exact ax_retC at_48_69 rfl ht2 ⟨_, _, rfl, rfl, by unfold tld; rw [if_neg (by omega), if_neg z3, if_pos (by omega), ht]⟩
  · skip
    refine aw_loc at_48_25 rfl rfl ?_
    exact ax_retC at_48_26 rfl hbt ⟨_, _, rfl, rfl, by unfold tld; rw [if_neg (by omega), if_pos z3]⟩
theorem wd_in {T : Nat → Int} {n : Nat} {w : List Int} (h : wd T n w) (hl : w.length ≤ 24) (i : Nat) : 0 ≤ w.getD i 0 ∧ w.getD i 0 < 65536 := by
  by_cases hi : i < w.length
  · rw [← h.2.1 i hi (by omega)]; exact h.2.2 i
  · rw [List.getD_eq_getElem?_getD, List.getElem?_eq_none (by omega)]; exact ⟨by decide, by decide⟩
theorem tld_in {p : Nat} {l r : List Int} {i bt : Int} (hp : pw S p l r) (hll : l.length ≤ 24) (hrl : r.length ≤ 24) (hbt : 0 ≤ bt ∧ bt < 65536) : 0 ≤ tld l r bt i ∧ tld l r bt i < 65536 := by
  obtain ⟨T, n, U, m, -, hT, hU⟩ := hp
  unfold tld
  split
  · omega
  · split
    · exact hbt
    · split
      · exact wd_in hT hll _
      · exact wd_in hU hrl _
set_option maxHeartbeats 2000000 in
theorem r_ltold {b N : Nat} {ws : List (List Int × List Int)} {k i bt : Int} (h : plv S b N ws) (hN : N ≤ 1000) (hw : wsh ws) (hk : ax_R k) (hi : ax_R i) (hbt : 0 ≤ bt ∧ bt < 65536) : ai_rn L xs (d + 3) 54 [.ref b, ax_i k, ax_i i, ax_i bt] S (fun v S' => S' = S ∧ v = some (ax_i (if 0 ≤ k ∧ k < ws.length then tld (ws.getD k.toNat ([], [])).1 (ws.getD k.toNat ([], [])).2 bt i else 0))) := by
  obtain ⟨f, g, h1, h2, h3, h4, h5, h6, h7, h8⟩ := h
  have hk9 := hk
  unfold ax_R at hk9
  refine ai_rn_of (M := ai_m54) rfl (by decide) (Nat.le_of_ble_eq_true rfl) ?_
  have k26 : ¬ (0 ≤ k ∧ k < ws.length) → ai_aw L xs (d + 2) ai_m54 (fun o => ∃ v S', o = (.inl v, S') ∧ S' = S ∧ v = some (ax_i (if 0 ≤ k ∧ k < ws.length then tld (ws.getD k.toNat ([], [])).1 (ws.getD k.toNat ([], [])).2 bt i else 0))) (26, ai_in ai_m54 [.ref b, ax_i k, ax_i i, ax_i bt], [], S) := by
    intro hout
    refine aw_pure (st' := ax_i (0) :: _) at_54_26 rfl rfl ?_
    exact ax_retC at_54_27 rfl (by omega) ⟨_, _, rfl, rfl, by rw [if_neg hout]⟩
  refine aw_loc at_54_0 rfl rfl ?_
  refine ax_if_lt at_54_1 ⟨by omega, by omega⟩ (fun z => k26 (by omega)) (fun z1 => ?_)
  refine aw_loc at_54_4 rfl rfl ?_
  refine aw_loc at_54_5 rfl rfl ?_
  refine aw_get at_54_6 rfl fl_5_9 h1 rfl ?_
  refine ax_icmp_ge at_54_9 ⟨by omega, by omega⟩ ⟨by omega, by omega⟩ (fun z => k26 (by omega)) (fun z2 => ?_)
  have hw2 := hw k.toNat (by omega)
  have hpk := h8 k.toNat (by omega)
  refine aw_loc at_54_12 rfl rfl ?_
  refine aw_get at_54_13 rfl fl_5_17 h1 rfl ?_
  refine aw_loc at_54_16 rfl rfl ?_
  refine ax_ald (k := k.toNat) at_54_17 rfl h2 (by omega) (by omega) (by omega) (h3 _ (by omega)) ?_
  refine aw_loc at_54_18 rfl rfl ?_
  refine aw_loc at_54_19 rfl rfl ?_
  refine aw_cv (a := g k.toNat) [ax_i i, ax_i bt] [] at_54_20 mt_5_38 (Or.inl rfl) rfl rfl (Nat.le_of_ble_eq_true rfl) (by obtain ⟨_, _, _, _, h, -, -⟩ := hpk; exact ⟨_, h.1⟩) ((r_ptold hpk hw2.1 hw2.2 hi hbt).mono ?_)
  rintro v S0 ⟨hS, rfl⟩
  have hS2 := hS.symm
  subst hS2
  refine aw_goto at_54_23 ?_
  refine ax_retC at_54_27 rfl ?_ ⟨_, _, rfl, rfl, by rw [if_pos ⟨z1, z2⟩]⟩
  exact tld_in hpk hw2.1 hw2.2 hbt
end TL

/-! The law's helpers: what a call throws, or its answer in the row for answers. -/
section HP
variable {L : Nat} {xs : Nat → Int32} {d : Nat} {S S' : ai_S} {P R : Nat → Int} {nn : Int}
/-- the answer is put into the row for answers -/
def owr (S1 S' : ai_S) (b : Int32) : Prop := ∃ f, S' = ai_wr S1 452 (.inl (3, ai_J 1 f)) ∧ f 0 = b.toInt64
theorem heap_lst {f : Nat → Int64} {x : Int64} {r : List Value} (h : ai_arrJ S 452 3 = some (1, f)) : ai_heap .lastore (.long x :: ax_i 0 :: .ref 452 :: r) S = some (r, ai_wr S 452 (.inl (3, ai_J 1 (vp_updL f 0 x)))) := by
  show (ai_arrJ S 452 3).bind _ = _
  rw [h]
  rfl
theorem at_91_6 : ai_at ai_m91 6 = some (.goto 9, 3) := rfl
theorem at_91_12 : ai_at ai_m91 12 = some (.astore_n 3, 1) := rfl
theorem at_91_13 : ai_at ai_m91 13 = some (.iconst 2, 1) := rfl
theorem at_91_14 : ai_at ai_m91 14 = some (.ireturn, 1) := rfl
theorem at_91_15 : ai_at ai_m91 15 = some (.iconst 0, 1) := rfl
theorem at_91_16 : ai_at ai_m91 16 = some (.ireturn, 1) := rfl
theorem at_92_0 : ai_at ai_m92 0 = some (.aload_n 1, 1) := rfl
theorem at_92_1 : ai_at ai_m92 1 = some (.iconst 0, 1) := rfl
theorem at_92_2 : ai_at ai_m92 2 = some (.aload_n 0, 1) := rfl
theorem at_92_3 : ai_at ai_m92 3 = some (.invokevirtual 17, 3) := rfl
theorem at_92_6 : ai_at ai_m92 6 = some (.i2l, 1) := rfl
theorem at_92_7 : ai_at ai_m92 7 = some (.lastore, 1) := rfl
theorem at_92_8 : ai_at ai_m92 8 = some (.goto 9, 3) := rfl
theorem at_92_11 : ai_at ai_m92 11 = some (.astore_n 2, 1) := rfl
theorem at_92_12 : ai_at ai_m92 12 = some (.iconst 1, 1) := rfl
theorem at_92_13 : ai_at ai_m92 13 = some (.ireturn, 1) := rfl
theorem at_92_14 : ai_at ai_m92 14 = some (.astore_n 2, 1) := rfl
theorem at_92_15 : ai_at ai_m92 15 = some (.iconst 2, 1) := rfl
theorem at_92_16 : ai_at ai_m92 16 = some (.ireturn, 1) := rfl
theorem at_92_17 : ai_at ai_m92 17 = some (.iconst 0, 1) := rfl
theorem at_92_18 : ai_at ai_m92 18 = some (.ireturn, 1) := rfl
theorem at_93_7 : ai_at ai_m93 7 = some (.i2l, 1) := rfl
theorem at_93_8 : ai_at ai_m93 8 = some (.lastore, 1) := rfl
theorem at_93_9 : ai_at ai_m93 9 = some (.goto 6, 3) := rfl
theorem at_93_15 : ai_at ai_m93 15 = some (.iconst 0, 1) := rfl
theorem at_93_16 : ai_at ai_m93 16 = some (.ireturn, 1) := rfl
theorem at_94_0 : ai_at ai_m94 0 = some (.aload_n 1, 1) := rfl
theorem at_94_1 : ai_at ai_m94 1 = some (.iconst 0, 1) := rfl
theorem at_94_2 : ai_at ai_m94 2 = some (.aload_n 0, 1) := rfl
theorem at_94_3 : ai_at ai_m94 3 = some (.invokevirtual 25, 3) := rfl
theorem at_94_6 : ai_at ai_m94 6 = some (.i2l, 1) := rfl
theorem at_94_7 : ai_at ai_m94 7 = some (.lastore, 1) := rfl
theorem at_94_8 : ai_at ai_m94 8 = some (.goto 9, 3) := rfl
theorem at_94_11 : ai_at ai_m94 11 = some (.astore_n 2, 1) := rfl
theorem at_94_12 : ai_at ai_m94 12 = some (.iconst 1, 1) := rfl
theorem at_94_13 : ai_at ai_m94 13 = some (.ireturn, 1) := rfl
theorem at_94_14 : ai_at ai_m94 14 = some (.astore_n 2, 1) := rfl
theorem at_94_15 : ai_at ai_m94 15 = some (.iconst 2, 1) := rfl
theorem at_94_16 : ai_at ai_m94 16 = some (.ireturn, 1) := rfl
theorem at_94_17 : ai_at ai_m94 17 = some (.iconst 0, 1) := rfl
theorem at_94_18 : ai_at ai_m94 18 = some (.ireturn, 1) := rfl
theorem at_95_0 : ai_at ai_m95 0 = some (.aload_n 1, 1) := rfl
theorem at_95_1 : ai_at ai_m95 1 = some (.iconst 0, 1) := rfl
theorem at_95_2 : ai_at ai_m95 2 = some (.aload_n 0, 1) := rfl
theorem at_95_3 : ai_at ai_m95 3 = some (.invokevirtual 30, 3) := rfl
theorem at_95_6 : ai_at ai_m95 6 = some (.i2l, 1) := rfl
theorem at_95_7 : ai_at ai_m95 7 = some (.lastore, 1) := rfl
theorem at_95_8 : ai_at ai_m95 8 = some (.goto 6, 3) := rfl
theorem at_95_11 : ai_at ai_m95 11 = some (.astore_n 2, 1) := rfl
theorem at_95_12 : ai_at ai_m95 12 = some (.iconst 1, 1) := rfl
theorem at_95_13 : ai_at ai_m95 13 = some (.ireturn, 1) := rfl
theorem at_95_14 : ai_at ai_m95 14 = some (.iconst 0, 1) := rfl
theorem at_95_15 : ai_at ai_m95 15 = some (.ireturn, 1) := rfl
theorem mt_11_17 : ai_mth 11 17 = some (0, 11, 0, 0) := by decide +kernel
theorem mt_11_25 : ai_mth 11 25 = some (0, 14, 0, 0) := by decide +kernel
theorem mt_11_30 : ai_mth 11 30 = some (0, 15, 0, 0) := by decide +kernel
theorem hh_91_9 : ai_hand ai_m91 3 "java/lang/IllegalArgumentException" = some 9 := by decide +kernel
theorem hh_91_12 : ai_hand ai_m91 3 "java/lang/IllegalStateException" = some 12 := by decide +kernel
theorem hh_92_11 : ai_hand ai_m92 3 "java/lang/IllegalArgumentException" = some 11 := by decide +kernel
theorem hh_92_14 : ai_hand ai_m92 3 "java/lang/IllegalStateException" = some 14 := by decide +kernel
theorem hh_94_11 : ai_hand ai_m94 3 "java/lang/IllegalArgumentException" = some 11 := by decide +kernel
theorem hh_94_14 : ai_hand ai_m94 3 "java/lang/UnsupportedOperationException" = some 14 := by decide +kernel
theorem hh_95_11 : ai_hand ai_m95 3 "java/lang/IllegalArgumentException" = some 11 := by decide +kernel
theorem hh_93_12 : ai_hand ai_m93 4 "java/lang/IllegalArgumentException" = some 12 := by decide +kernel
set_option maxHeartbeats 1000000 in
theorem r_h_declare {c p : Int} {o : ai_O} (ho : ∃ fs, ai_obj S 0 0 = some fs) (hr : ai_run L xs d 10 [.ref 0, ax_i c, ax_i p] S o) (hq : q_dec S P R nn c p o) : ai_rn L xs (d + 1) 91 [.ref 0, ax_i c, ax_i p] S (fun v S' => ((c < 97 ∨ 104 < c ∨ p < 0 ∨ 2 < p) ∧ v = some (ax_i 1) ∧ S' = ai_th S) ∨ (¬ (c < 97 ∨ 104 < c ∨ p < 0 ∨ 2 < p) ∧ 0 < at256 R c ∧ v = some (ax_i 2) ∧ S' = ai_th S) ∨ (¬ (c < 97 ∨ 104 < c ∨ p < 0 ∨ 2 < p) ∧ ¬ 0 < at256 R c ∧ v = some (ax_i 0) ∧ S' = sy_put S (ax_up P c.toNat p) (ax_up R c.toNat (nn + 1)) (nn + 1))) := by
  refine ai_rn_of (M := ai_m91) rfl (by decide) (Nat.le_of_ble_eq_true rfl) ?_
  refine aw_loc at_91_0 rfl rfl ?_
  refine aw_loc at_91_1 rfl rfl ?_
  refine aw_loc at_91_2 rfl rfl ?_
  rcases hq with ⟨hb, rfl⟩ | ⟨hb, h2, rfl⟩ | ⟨hb, h2, rfl⟩
  · skip
    refine aw_cx (a := 0) [ax_i c, ax_i p] [] at_91_3 mt_11_7 rfl rfl (Nat.le_of_ble_eq_true rfl) ho hr hh_91_9 at_91_9 (show (3 : Nat) < 4 by decide) rfl ?_
    refine aw_pure (st' := ax_i (1) :: _) at_91_10 rfl rfl ?_
    exact aw_ret at_91_11 rfl rfl ⟨_, _, rfl, Or.inl ⟨hb, rfl, rfl⟩⟩
  · skip
    refine aw_cx (a := 0) [ax_i c, ax_i p] [] at_91_3 mt_11_7 rfl rfl (Nat.le_of_ble_eq_true rfl) ho hr hh_91_12 at_91_12 (show (3 : Nat) < 4 by decide) rfl ?_
    refine aw_pure (st' := ax_i (2) :: _) at_91_13 rfl rfl ?_
    exact aw_ret at_91_14 rfl rfl ⟨_, _, rfl, Or.inr (Or.inl ⟨hb, h2, rfl, rfl⟩)⟩
  · skip
    refine aw_cv (a := 0) [ax_i c, ax_i p] [] at_91_3 mt_11_7 (Or.inl rfl) rfl rfl (Nat.le_of_ble_eq_true rfl) ho ⟨none, _, hr, ?_⟩
    refine aw_goto at_91_6 ?_
    refine aw_pure (st' := ax_i (0) :: _) at_91_15 rfl rfl ?_
    exact aw_ret at_91_16 rfl rfl ⟨_, _, rfl, Or.inr (Or.inr ⟨hb, h2, rfl, rfl⟩)⟩
set_option maxHeartbeats 1000000 in
theorem r_h_equation {o : ai_O} {X1 X2 : ai_S → Prop} {X0 : Int32 → ai_S → Prop} (ho : ∃ fs, ai_obj S 0 0 = some fs) (hr : ai_run L xs d 11 [.ref 0] S o) (hq : (∃ S1, o = (.inr "java/lang/IllegalArgumentException", S1) ∧ X1 S1) ∨ (∃ S1, o = (.inr "java/lang/IllegalStateException", S1) ∧ X2 S1) ∨ (∃ b S1, o = (.inl (some (.int b)), S1) ∧ X0 b S1)) (hJ : ∀ b S1, X0 b S1 → ∃ f, ai_arrJ S1 452 3 = some (1, f)) : ai_rn L xs (d + 1) 92 [.ref 0, .ref 452] S (fun v S' => (v = some (ax_i 1) ∧ X1 S') ∨ (v = some (ax_i 2) ∧ X2 S') ∨ (v = some (ax_i 0) ∧ ∃ b S1, X0 b S1 ∧ owr S1 S' b)) := by
  refine ai_rn_of (M := ai_m92) rfl (by decide) (Nat.le_of_ble_eq_true rfl) ?_
  refine aw_loc at_92_0 rfl rfl ?_
  refine aw_pure (st' := ax_i (0) :: _) at_92_1 rfl rfl ?_
  refine aw_loc at_92_2 rfl rfl ?_
  rcases hq with ⟨S1, rfl, hx⟩ | ⟨S1, rfl, hx⟩ | ⟨b, S1, rfl, hx⟩
  · skip
    refine aw_cx (a := 0) [] [ax_i 0, .ref 452] at_92_3 mt_11_17 rfl rfl (Nat.le_of_ble_eq_true rfl) ho hr hh_92_11 at_92_11 (show (2 : Nat) < 3 by decide) rfl ?_
    refine aw_pure (st' := ax_i (1) :: _) at_92_12 rfl rfl ?_
    exact aw_ret at_92_13 rfl rfl ⟨_, _, rfl, Or.inl ⟨rfl, hx⟩⟩
  · skip
    refine aw_cx (a := 0) [] [ax_i 0, .ref 452] at_92_3 mt_11_17 rfl rfl (Nat.le_of_ble_eq_true rfl) ho hr hh_92_14 at_92_14 (show (2 : Nat) < 3 by decide) rfl ?_
    refine aw_pure (st' := ax_i (2) :: _) at_92_15 rfl rfl ?_
    exact aw_ret at_92_16 rfl rfl ⟨_, _, rfl, Or.inr (Or.inl ⟨rfl, hx⟩)⟩
  · skip
    obtain ⟨f, hf⟩ := hJ b S1 hx
    refine aw_cv (a := 0) [] [ax_i 0, .ref 452] at_92_3 mt_11_17 (Or.inl rfl) rfl rfl (Nat.le_of_ble_eq_true rfl) ho ⟨some (.int b), S1, hr, ?_⟩
    refine aw_pure (st' := .long b.toInt64 :: ax_i 0 :: .ref 452 :: []) at_92_6 rfl rfl ?_
    refine aw_heap at_92_7 rfl (heap_lst hf) ?_
    refine aw_goto at_92_8 ?_
    refine aw_pure (st' := ax_i (0) :: _) at_92_17 rfl rfl ?_
    exact aw_ret at_92_18 rfl rfl ⟨_, _, rfl, Or.inr (Or.inr ⟨rfl, b, S1, hx, vp_updL f 0 b.toInt64, rfl, if_pos rfl⟩)⟩
set_option maxHeartbeats 1000000 in
theorem r_h_normalize {o : ai_O} {X1 X2 : ai_S → Prop} {X0 : Int32 → ai_S → Prop} (ho : ∃ fs, ai_obj S 0 0 = some fs) (hr : ai_run L xs d 14 [.ref 0] S o) (hq : (∃ S1, o = (.inr "java/lang/IllegalArgumentException", S1) ∧ X1 S1) ∨ (∃ S1, o = (.inr "java/lang/UnsupportedOperationException", S1) ∧ X2 S1) ∨ (∃ b S1, o = (.inl (some (.int b)), S1) ∧ X0 b S1)) (hJ : ∀ b S1, X0 b S1 → ∃ f, ai_arrJ S1 452 3 = some (1, f)) : ai_rn L xs (d + 1) 94 [.ref 0, .ref 452] S (fun v S' => (v = some (ax_i 1) ∧ X1 S') ∨ (v = some (ax_i 2) ∧ X2 S') ∨ (v = some (ax_i 0) ∧ ∃ b S1, X0 b S1 ∧ owr S1 S' b)) := by
  refine ai_rn_of (M := ai_m94) rfl (by decide) (Nat.le_of_ble_eq_true rfl) ?_
  refine aw_loc at_94_0 rfl rfl ?_
  refine aw_pure (st' := ax_i (0) :: _) at_94_1 rfl rfl ?_
  refine aw_loc at_94_2 rfl rfl ?_
  rcases hq with ⟨S1, rfl, hx⟩ | ⟨S1, rfl, hx⟩ | ⟨b, S1, rfl, hx⟩
  · skip
    refine aw_cx (a := 0) [] [ax_i 0, .ref 452] at_94_3 mt_11_25 rfl rfl (Nat.le_of_ble_eq_true rfl) ho hr hh_94_11 at_94_11 (show (2 : Nat) < 3 by decide) rfl ?_
    refine aw_pure (st' := ax_i (1) :: _) at_94_12 rfl rfl ?_
    exact aw_ret at_94_13 rfl rfl ⟨_, _, rfl, Or.inl ⟨rfl, hx⟩⟩
  · skip
    refine aw_cx (a := 0) [] [ax_i 0, .ref 452] at_94_3 mt_11_25 rfl rfl (Nat.le_of_ble_eq_true rfl) ho hr hh_94_14 at_94_14 (show (2 : Nat) < 3 by decide) rfl ?_
    refine aw_pure (st' := ax_i (2) :: _) at_94_15 rfl rfl ?_
    exact aw_ret at_94_16 rfl rfl ⟨_, _, rfl, Or.inr (Or.inl ⟨rfl, hx⟩)⟩
  · skip
    obtain ⟨f, hf⟩ := hJ b S1 hx
    refine aw_cv (a := 0) [] [ax_i 0, .ref 452] at_94_3 mt_11_25 (Or.inl rfl) rfl rfl (Nat.le_of_ble_eq_true rfl) ho ⟨some (.int b), S1, hr, ?_⟩
    refine aw_pure (st' := .long b.toInt64 :: ax_i 0 :: .ref 452 :: []) at_94_6 rfl rfl ?_
    refine aw_heap at_94_7 rfl (heap_lst hf) ?_
    refine aw_goto at_94_8 ?_
    refine aw_pure (st' := ax_i (0) :: _) at_94_17 rfl rfl ?_
    exact aw_ret at_94_18 rfl rfl ⟨_, _, rfl, Or.inr (Or.inr ⟨rfl, b, S1, hx, vp_updL f 0 b.toInt64, rfl, if_pos rfl⟩)⟩
set_option maxHeartbeats 1000000 in
theorem r_h_compare {o : ai_O} {X1 : ai_S → Prop} {X0 : Int32 → ai_S → Prop} (ho : ∃ fs, ai_obj S 0 0 = some fs) (hr : ai_run L xs d 15 [.ref 0] S o) (hq : (∃ S1, o = (.inr "java/lang/IllegalArgumentException", S1) ∧ X1 S1) ∨ (∃ b S1, o = (.inl (some (.int b)), S1) ∧ X0 b S1)) (hJ : ∀ b S1, X0 b S1 → ∃ f, ai_arrJ S1 452 3 = some (1, f)) : ai_rn L xs (d + 1) 95 [.ref 0, .ref 452] S (fun v S' => (v = some (ax_i 1) ∧ X1 S') ∨ (v = some (ax_i 0) ∧ ∃ b S1, X0 b S1 ∧ owr S1 S' b)) := by
  refine ai_rn_of (M := ai_m95) rfl (by decide) (Nat.le_of_ble_eq_true rfl) ?_
  refine aw_loc at_95_0 rfl rfl ?_
  refine aw_pure (st' := ax_i (0) :: _) at_95_1 rfl rfl ?_
  refine aw_loc at_95_2 rfl rfl ?_
  rcases hq with ⟨S1, rfl, hx⟩ | ⟨b, S1, rfl, hx⟩
  · skip
    refine aw_cx (a := 0) [] [ax_i 0, .ref 452] at_95_3 mt_11_30 rfl rfl (Nat.le_of_ble_eq_true rfl) ho hr hh_95_11 at_95_11 (show (2 : Nat) < 3 by decide) rfl ?_
    refine aw_pure (st' := ax_i (1) :: _) at_95_12 rfl rfl ?_
    exact aw_ret at_95_13 rfl rfl ⟨_, _, rfl, Or.inl ⟨rfl, hx⟩⟩
  · skip
    obtain ⟨f, hf⟩ := hJ b S1 hx
    refine aw_cv (a := 0) [] [ax_i 0, .ref 452] at_95_3 mt_11_30 (Or.inl rfl) rfl rfl (Nat.le_of_ble_eq_true rfl) ho ⟨some (.int b), S1, hr, ?_⟩
    refine aw_pure (st' := .long b.toInt64 :: ax_i 0 :: .ref 452 :: []) at_95_6 rfl rfl ?_
    refine aw_heap at_95_7 rfl (heap_lst hf) ?_
    refine aw_goto at_95_8 ?_
    refine aw_pure (st' := ax_i (0) :: _) at_95_14 rfl rfl ?_
    exact aw_ret at_95_15 rfl rfl ⟨_, _, rfl, Or.inr ⟨rfl, b, S1, hx, vp_updL f 0 b.toInt64, rfl, if_pos rfl⟩⟩
set_option maxHeartbeats 1000000 in
theorem r_h_complete {o : ai_O} {k : Int} {X1 : ai_S → Prop} {X0 : Int32 → ai_S → Prop} (ho : ∃ fs, ai_obj S 0 0 = some fs) (hr : ai_run L xs d 13 [.ref 0, ax_i k] S o) (hq : (∃ S1, o = (.inr "java/lang/IllegalArgumentException", S1) ∧ X1 S1) ∨ (∃ b S1, o = (.inl (some (.int b)), S1) ∧ X0 b S1)) (hJ : ∀ b S1, X0 b S1 → ∃ f, ai_arrJ S1 452 3 = some (1, f)) : ai_rn L xs (d + 1) 93 [.ref 0, ax_i k, .ref 452] S (fun v S' => (v = some (ax_i 1) ∧ X1 S') ∨ (v = some (ax_i 0) ∧ ∃ b S1, X0 b S1 ∧ owr S1 S' b)) := by
  refine ai_rn_of (M := ai_m93) rfl (by decide) (Nat.le_of_ble_eq_true rfl) ?_
  refine aw_loc at_93_0 rfl rfl ?_
  refine aw_pure (st' := ax_i (0) :: _) at_93_1 rfl rfl ?_
  refine aw_loc at_93_2 rfl rfl ?_
  refine aw_loc at_93_3 rfl rfl ?_
  rcases hq with ⟨S1, rfl, hx⟩ | ⟨b, S1, rfl, hx⟩
  · skip
    refine aw_cx (a := 0) [ax_i k] [ax_i 0, .ref 452] at_93_4 mt_11_21 rfl rfl (Nat.le_of_ble_eq_true rfl) ho hr hh_93_12 at_93_12 (show (3 : Nat) < 4 by decide) rfl ?_
    refine aw_pure (st' := ax_i (1) :: _) at_93_13 rfl rfl ?_
    exact aw_ret at_93_14 rfl rfl ⟨_, _, rfl, Or.inl ⟨rfl, hx⟩⟩
  · skip
    obtain ⟨f, hf⟩ := hJ b S1 hx
    refine aw_cv (a := 0) [ax_i k] [ax_i 0, .ref 452] at_93_4 mt_11_21 (Or.inl rfl) rfl rfl (Nat.le_of_ble_eq_true rfl) ho ⟨some (.int b), S1, hr, ?_⟩
    refine aw_pure (st' := .long b.toInt64 :: ax_i 0 :: .ref 452 :: []) at_93_7 rfl rfl ?_
    refine aw_heap at_93_8 rfl (heap_lst hf) ?_
    refine aw_goto at_93_9 ?_
    refine aw_pure (st' := ax_i (0) :: _) at_93_15 rfl rfl ?_
    exact aw_ret at_93_16 rfl rfl ⟨_, _, rfl, Or.inr ⟨rfl, b, S1, hx, vp_updL f 0 b.toInt64, rfl, if_pos rfl⟩⟩
end HP

/-! Lists of pairs: one taken out, the shortest, what is told. -/
section PM
variable {L : Nat} {xs : Nat → Int32} {d : Nat} {S S' : ai_S}
theorem ax_ast {M : ai_M} {Q : ai_O → Prop} {pc len a n v k : Nat} {e : Int} {lv : ai_L} {st : List Value} {f : Nat → Option Nat} {fs : List Value} (ha : ai_at M pc = some (.aastore, len)) (ht : ai_thr M pc = none) (hA : ai_arrA S a 4 = some (n, f)) (hv : ai_obj S v 3 = some fs) (he : e = (k : Int)) (hk : k < n) (hn : n < 2147483648) (kk : ai_aw L xs d M Q (pc + len, lv, st, ai_wr S a (.inl (4, ai_A n (va_up f k (some v)))))) : ai_aw L xs d M Q (pc, lv, .ref v :: ax_i e :: .ref a :: st, S) := by
  subst he
  refine aw_fop ha ht (st' := st) (S' := ai_wr S a (.inl (4, ai_A n (va_up f k (some v))))) ?_ kk
  have hp : ai_obj S v ai_pair = some fs := hv
  simp only [ai_fop, hA, Option.bind_some, hp, if_neg (ax_inb hk hn)]
  rw [ax_nat (by omega)]
/-- a row moved by one, from k to i -/
def mvr (f : Nat → Option Nat) (k i : Nat) : Nat → Option Nat := fun j => if k ≤ j ∧ j < i then f (j + 1) else f j
theorem mvr_succ {f : Nat → Option Nat} {k i : Nat} {x : Option Nat} (hk : k ≤ i) (hx : x = f (i + 1)) : va_up (mvr f k i) i x = mvr f k (i + 1) := by
  subst hx
  funext j
  unfold va_up mvr
  by_cases h : j = i
  · subst h
    rw [if_pos rfl, if_pos ⟨hk, by omega⟩]
  · rw [if_neg h]
    by_cases h2 : k ≤ j ∧ j < i
    · rw [if_pos h2, if_pos ⟨h2.1, by omega⟩]
    · rw [if_neg h2, if_neg (by omega)]
theorem ai_arrA_wrS {a t n : Nat} {f : Nat → Option Nat} (h : a < S.1) : ai_arrA (ai_wr S a (.inl (t, ai_A n f))) a t = some (n, f) := by
  simp only [ai_arrA, ai_wr, if_pos h, va_up_self, if_true]
def pmv (k c j : Nat) : Nat := if k ≤ j ∧ j + 1 < c then j + 1 else if j + 1 = c then k else j
theorem pmv_lt {k c j N : Nat} (hk : k < c) (hc : c ≤ N) (hj : j < N) : pmv k c j < N := by
  unfold pmv
  split
  · omega
  · split <;> omega
theorem pmv_ne {k c i j : Nat} (hk : k < c) (h : i ≠ j) : pmv k c i ≠ pmv k c j := by
  unfold pmv
  split
  · split
    · omega
    · split <;> omega
  · split
    · split
      · omega
      · split <;> omega
    · split
      · omega
      · split <;> omega
/-- the first of the least, among the first i + 1 -/
def bst (z : Nat → Int) : Nat → Nat
  | 0 => 0
  | i + 1 => if z (i + 1) < z (bst z i) then i + 1 else bst z i
theorem bst_le (z : Nat → Int) : ∀ i, bst z i ≤ i
  | 0 => Nat.le_refl _
  | i + 1 => by
    have := bst_le z i
    unfold bst
    split <;> omega
def wsz (ws : List (List Int × List Int)) (j : Nat) : Int := ((ws.getD j ([], [])).1.length : Int) + ((ws.getD j ([], [])).2.length : Int)
/-- every word is in reach of a row -/
def wsh (ws : List (List Int × List Int)) : Prop := ∀ j, j < ws.length → (ws.getD j ([], [])).1.length ≤ 24 ∧ (ws.getD j ([], [])).2.length ≤ 24
theorem r_psize2 {p : Nat} {l r : List Int} (hp : pw S p l r) (hl : l.length ≤ 24) (hr : r.length ≤ 24) : ai_rn L xs (d + 1) 49 [.ref p] S (fun v S' => S' = S ∧ v = some (ax_i ((l.length : Int) + (r.length : Int)))) := by
  obtain ⟨T, n, U, m, h, h1, h2⟩ := hp
  have e1 : n = l.length := by rw [h1.1]; omega
  have e2 : m = r.length := by rw [h2.1]; omega
  subst e1
  subst e2
  exact r_psize h
/-- what is told of a pair -/
def tld (l r : List Int) (bt i : Int) : Int := if i < 0 ∨ (l.length : Int) + r.length < i then 0 else if i = l.length then bt else if i < l.length then l.getD i.toNat 0 else r.getD (i - l.length - 1).toNat 0
theorem at_57_0 : ai_at ai_m57 0 = some (.iconst 0, 1) := rfl
theorem at_57_1 : ai_at ai_m57 1 = some (.istore_n 1, 1) := rfl
theorem at_57_2 : ai_at ai_m57 2 = some (.iconst 1, 1) := rfl
theorem at_57_3 : ai_at ai_m57 3 = some (.istore_n 2, 1) := rfl
theorem at_57_4 : ai_at ai_m57 4 = some (.iload_n 2, 1) := rfl
theorem at_57_5 : ai_at ai_m57 5 = some (.aload_n 0, 1) := rfl
theorem at_57_6 : ai_at ai_m57 6 = some (.getfield 9, 3) := rfl
theorem at_57_9 : ai_at ai_m57 9 = some (.if_icmp .ge 32, 3) := rfl
theorem at_57_12 : ai_at ai_m57 12 = some (.aload_n 0, 1) := rfl
theorem at_57_13 : ai_at ai_m57 13 = some (.getfield 17, 3) := rfl
theorem at_57_16 : ai_at ai_m57 16 = some (.iload_n 2, 1) := rfl
theorem at_57_17 : ai_at ai_m57 17 = some (.aaload, 1) := rfl
theorem at_57_18 : ai_at ai_m57 18 = some (.invokevirtual 34, 3) := rfl
theorem at_57_21 : ai_at ai_m57 21 = some (.aload_n 0, 1) := rfl
theorem at_57_22 : ai_at ai_m57 22 = some (.getfield 17, 3) := rfl
theorem at_57_25 : ai_at ai_m57 25 = some (.iload_n 1, 1) := rfl
theorem at_57_26 : ai_at ai_m57 26 = some (.aaload, 1) := rfl
theorem at_57_27 : ai_at ai_m57 27 = some (.invokevirtual 34, 3) := rfl
theorem at_57_30 : ai_at ai_m57 30 = some (.if_icmp .ge 5, 3) := rfl
theorem at_57_33 : ai_at ai_m57 33 = some (.iload_n 2, 1) := rfl
theorem at_57_34 : ai_at ai_m57 34 = some (.istore_n 1, 1) := rfl
theorem at_57_35 : ai_at ai_m57 35 = some (.iinc 2 1, 3) := rfl
theorem at_57_38 : ai_at ai_m57 38 = some (.goto (-34), 3) := rfl
theorem at_57_41 : ai_at ai_m57 41 = some (.iload_n 1, 1) := rfl
theorem at_57_42 : ai_at ai_m57 42 = some (.ireturn, 1) := rfl
theorem at_58_0 : ai_at ai_m58 0 = some (.iload_n 1, 1) := rfl
theorem at_58_1 : ai_at ai_m58 1 = some (.ifCond .lt 11, 3) := rfl
theorem at_58_4 : ai_at ai_m58 4 = some (.iload_n 1, 1) := rfl
theorem at_58_5 : ai_at ai_m58 5 = some (.aload_n 0, 1) := rfl
theorem at_58_6 : ai_at ai_m58 6 = some (.getfield 9, 3) := rfl
theorem at_58_9 : ai_at ai_m58 9 = some (.if_icmp .lt 4, 3) := rfl
theorem at_58_13 : ai_at ai_m58 13 = some (.aload_n 0, 1) := rfl
theorem at_58_14 : ai_at ai_m58 14 = some (.getfield 17, 3) := rfl
theorem at_58_17 : ai_at ai_m58 17 = some (.iload_n 1, 1) := rfl
theorem at_58_18 : ai_at ai_m58 18 = some (.aaload, 1) := rfl
theorem at_58_19 : ai_at ai_m58 19 = some (.astore_n 2, 1) := rfl
theorem at_58_20 : ai_at ai_m58 20 = some (.iload_n 1, 1) := rfl
theorem at_58_21 : ai_at ai_m58 21 = some (.istore_n 3, 1) := rfl
theorem at_58_22 : ai_at ai_m58 22 = some (.iload_n 3, 1) := rfl
theorem at_58_23 : ai_at ai_m58 23 = some (.aload_n 0, 1) := rfl
theorem at_58_24 : ai_at ai_m58 24 = some (.getfield 9, 3) := rfl
theorem at_58_27 : ai_at ai_m58 27 = some (.iconst 1, 1) := rfl
theorem at_58_28 : ai_at ai_m58 28 = some (.isub, 1) := rfl
theorem at_58_29 : ai_at ai_m58 29 = some (.if_icmp .ge 23, 3) := rfl
theorem at_58_32 : ai_at ai_m58 32 = some (.aload_n 0, 1) := rfl
theorem at_58_33 : ai_at ai_m58 33 = some (.getfield 17, 3) := rfl
theorem at_58_36 : ai_at ai_m58 36 = some (.iload_n 3, 1) := rfl
theorem at_58_37 : ai_at ai_m58 37 = some (.aload_n 0, 1) := rfl
theorem at_58_38 : ai_at ai_m58 38 = some (.getfield 17, 3) := rfl
theorem at_58_41 : ai_at ai_m58 41 = some (.iload_n 3, 1) := rfl
theorem at_58_42 : ai_at ai_m58 42 = some (.iconst 1, 1) := rfl
theorem at_58_43 : ai_at ai_m58 43 = some (.iadd, 1) := rfl
theorem at_58_44 : ai_at ai_m58 44 = some (.aaload, 1) := rfl
theorem at_58_45 : ai_at ai_m58 45 = some (.aastore, 1) := rfl
theorem at_58_46 : ai_at ai_m58 46 = some (.iinc 3 1, 3) := rfl
theorem at_58_49 : ai_at ai_m58 49 = some (.goto (-27), 3) := rfl
theorem at_58_52 : ai_at ai_m58 52 = some (.aload_n 0, 1) := rfl
theorem at_58_53 : ai_at ai_m58 53 = some (.dup, 1) := rfl
theorem at_58_54 : ai_at ai_m58 54 = some (.getfield 9, 3) := rfl
theorem at_58_57 : ai_at ai_m58 57 = some (.iconst 1, 1) := rfl
theorem at_58_58 : ai_at ai_m58 58 = some (.isub, 1) := rfl
theorem at_58_59 : ai_at ai_m58 59 = some (.putfield 9, 3) := rfl
theorem at_58_62 : ai_at ai_m58 62 = some (.aload_n 0, 1) := rfl
theorem at_58_63 : ai_at ai_m58 63 = some (.getfield 17, 3) := rfl
theorem at_58_66 : ai_at ai_m58 66 = some (.aload_n 0, 1) := rfl
theorem at_58_67 : ai_at ai_m58 67 = some (.getfield 9, 3) := rfl
theorem at_58_70 : ai_at ai_m58 70 = some (.aload_n 2, 1) := rfl
theorem at_58_71 : ai_at ai_m58 71 = some (.aastore, 1) := rfl
theorem at_58_72 : ai_at ai_m58 72 = some (.return_, 1) := rfl
theorem mt_5_34 : ai_mth 5 34 = some (0, 49, 0, 3) := by decide +kernel
set_option maxHeartbeats 2000000 in
theorem r_short1 {b N : Nat} {ws : List (List Int × List Int)} (h : plv S b N ws) (hN : N ≤ 1000) (hw : wsh ws) : ∀ (k j : Nat), max 1 ws.length = j + 1 + k → ai_aw L xs (d + 1) ai_m57 (fun o => ∃ v S', o = (.inl v, S') ∧ S' = S ∧ v = some (ax_i (bst (wsz ws) (ws.length - 1) : Nat))) (4, [some (.ref b), some (ax_i (bst (wsz ws) (j) : Nat)), some (ax_i (j + 1 : Nat))], [], S) := by
  obtain ⟨f, g, h1, h2, h3, h4, h5, h6, h7, h8⟩ := h
  intro k
  induction k with
  | zero =>
    intro j hj
    have hb9 := bst_le (wsz ws) j
    refine aw_loc at_57_4 rfl rfl ?_
    refine aw_loc at_57_5 rfl rfl ?_
    refine aw_get at_57_6 rfl fl_5_9 h1 rfl ?_
    refine ax_icmp_ge at_57_9 ⟨by omega, by omega⟩ ⟨by omega, by omega⟩ (fun _ => ?_) (fun z => absurd z (by omega))
    refine aw_loc at_57_41 rfl rfl ?_
    exact ax_ret at_57_42 rfl ⟨_, _, rfl, rfl, by rw [show j = ws.length - 1 by omega]⟩
  | succ k ih =>
    intro j hj
    have hb9 := bst_le (wsz ws) j
    have hw1 := hw (j + 1) (by omega)
    have hw2 := hw (bst (wsz ws) j) (by omega)
    refine aw_loc at_57_4 rfl rfl ?_
    refine aw_loc at_57_5 rfl rfl ?_
    refine aw_get at_57_6 rfl fl_5_9 h1 rfl ?_
    refine ax_icmp_ge at_57_9 ⟨by omega, by omega⟩ ⟨by omega, by omega⟩ (fun z => absurd z (by omega)) (fun _ => ?_)
    refine aw_loc at_57_12 rfl rfl ?_
    refine aw_get at_57_13 rfl fl_5_17 h1 rfl ?_
    refine aw_loc at_57_16 rfl rfl ?_
    refine ax_ald (k := j + 1) at_57_17 rfl h2 rfl (by omega) (by omega) (h3 _ (by omega)) ?_
    refine aw_cv (a := g (j + 1)) [] [] at_57_18 mt_5_34 (Or.inl rfl) rfl rfl (Nat.le_of_ble_eq_true rfl) (by obtain ⟨_, _, _, _, h, -, -⟩ := h8 (j + 1) (by omega); exact ⟨_, h.1⟩) ((r_psize2 (h8 (j + 1) (by omega)) hw1.1 hw1.2).mono ?_)
    rintro v S0 ⟨hS, rfl⟩
    have hS2 := hS.symm
    subst hS2
    refine aw_loc at_57_21 rfl rfl ?_
    refine aw_get at_57_22 rfl fl_5_17 h1 rfl ?_
    refine aw_loc at_57_25 rfl rfl ?_
    refine ax_ald (k := bst (wsz ws) j) at_57_26 rfl h2 rfl (by omega) (by omega) (h3 _ (by omega)) ?_
    refine aw_cv (a := g (bst (wsz ws) j)) [] [ax_i (((ws.getD (j + 1) ([], [])).1.length : Int) + ((ws.getD (j + 1) ([], [])).2.length : Int))] at_57_27 mt_5_34 (Or.inl rfl) rfl rfl (Nat.le_of_ble_eq_true rfl) (by obtain ⟨_, _, _, _, h, -, -⟩ := h8 (bst (wsz ws) j) (by omega); exact ⟨_, h.1⟩) ((r_psize2 (h8 (bst (wsz ws) j) (by omega)) hw2.1 hw2.2).mono ?_)
    rintro v S0 ⟨hS, rfl⟩
    have hS2 := hS.symm
    subst hS2
    have e1 : wsz ws (j + 1) = ((ws.getD (j + 1) ([], [])).1.length : Int) + ((ws.getD (j + 1) ([], [])).2.length : Int) := rfl
    have e2 : wsz ws (bst (wsz ws) j) = ((ws.getD (bst (wsz ws) j) ([], [])).1.length : Int) + ((ws.getD (bst (wsz ws) j) ([], [])).2.length : Int) := rfl
    refine ax_icmp_ge at_57_30 ⟨by omega, by omega⟩ ⟨by omega, by omega⟩ (fun z => ?_) (fun z => ?_)
    · skip
      have hbs : bst (wsz ws) (j + 1) = bst (wsz ws) j := if_neg (by rw [e1, e2]; omega)
      refine ax_inc at_57_35 rfl rfl rfl ?_
      refine aw_goto at_57_38 ?_
      have := ih (j + 1) (by omega)
      rw [hbs, Int.natCast_add (j + 1) 1] at this
      exact this
    · skip
      have hbs : bst (wsz ws) (j + 1) = j + 1 := if_pos (by rw [e1, e2]; omega)
      refine aw_loc at_57_33 rfl rfl ?_
      refine aw_loc at_57_34 rfl rfl ?_
      refine ax_inc at_57_35 rfl rfl rfl ?_
      refine aw_goto at_57_38 ?_
      have := ih (j + 1) (by omega)
      rw [hbs, Int.natCast_add (j + 1) 1] at this
      exact this
theorem r_short {b N : Nat} {ws : List (List Int × List Int)} (h : plv S b N ws) (hN : N ≤ 1000) (hw : wsh ws) : ai_rn L xs (d + 2) 57 [.ref b] S (fun v S' => S' = S ∧ v = some (ax_i (bst (wsz ws) (ws.length - 1) : Nat))) := by
  refine ai_rn_of (M := ai_m57) rfl (by decide) (Nat.le_of_ble_eq_true rfl) ?_
  refine aw_pure (st' := ax_i (0) :: _) at_57_0 rfl rfl ?_
  refine aw_loc at_57_1 rfl rfl ?_
  refine aw_pure (st' := ax_i (1) :: _) at_57_2 rfl rfl ?_
  refine aw_loc at_57_3 rfl rfl ?_
  exact r_short1 h hN hw (max 1 ws.length - 1) 0 (by omega)
set_option maxHeartbeats 2000000 in
theorem r_remove1 {b N k c : Nat} {f : Nat → Option Nat} {g : Nat → Nat} {Q : ai_O → Prop} (hN : N ≤ 1000) (h1 : ai_obj S b 6 = some [.ref (b + 1), ax_i c]) (hl : b + 1 < S.1) (h3 : ∀ j, j < N → f j = some (g j)) (h4 : ∀ j, j < N → b + 2 ≤ g j ∧ g j + 5 ≤ b + 2 + 5 * N) (ho : ∀ j, j < N → ∃ fs, ai_obj S (g j) 3 = some fs) (hc : c ≤ N) (hc0 : 0 < c) : ∀ (m i : Nat), i + m = c - 1 → k ≤ i → ai_aw L xs d ai_m58 Q (52, [some (.ref b), some (ax_i (k : Nat)), some (.ref (g k)), some (ax_i (c - 1 : Nat))], [], ai_wr S (b + 1) (.inl (4, ai_A N (mvr f k (c - 1))))) → ai_aw L xs d ai_m58 Q (22, [some (.ref b), some (ax_i (k : Nat)), some (.ref (g k)), some (ax_i (i : Nat))], [], ai_wr S (b + 1) (.inl (4, ai_A N (mvr f k i)))) := by
  intro m
  induction m with
  | zero =>
    intro i hi hki hK
    have hic : i = c - 1 := by omega
    subst hic
    have h1 := (ai_obj_wr (a := b + 1) (x := .inl (4, ai_A N (mvr f k (c - 1)))) (show b ≠ b + 1 by omega)).trans h1
    refine aw_loc at_58_22 rfl rfl ?_
    refine aw_loc at_58_23 rfl rfl ?_
    refine aw_get at_58_24 rfl fl_5_9 h1 rfl ?_
    refine aw_pure (st' := ax_i (1) :: _) at_58_27 rfl rfl ?_
    refine ax_sub at_58_28 rfl ?_
    refine ax_icmp_ge at_58_29 ⟨by omega, by omega⟩ ⟨by omega, by omega⟩ (fun _ => hK) (fun z => absurd z (by omega))
  | succ m ih =>
    intro i hi hki hK
    have h1 := (ai_obj_wr (a := b + 1) (x := .inl (4, ai_A N (mvr f k i))) (show b ≠ b + 1 by omega)).trans h1
    have h2 : ai_arrA (ai_wr S (b + 1) (.inl (4, ai_A N (mvr f k i)))) (b + 1) 4 = some (N, mvr f k i) := ai_arrA_wrS hl
    obtain ⟨fs, hfs⟩ := ho (i + 1) (by omega)
    have hg4 := h4 (i + 1) (by omega)
    have hfs := (ai_obj_wr (a := b + 1) (x := .inl (4, ai_A N (mvr f k i))) (show g (i + 1) ≠ b + 1 by omega)).trans hfs
    refine aw_loc at_58_22 rfl rfl ?_
    refine aw_loc at_58_23 rfl rfl ?_
    refine aw_get at_58_24 rfl fl_5_9 h1 rfl ?_
    refine aw_pure (st' := ax_i (1) :: _) at_58_27 rfl rfl ?_
    refine ax_sub at_58_28 rfl ?_
    refine ax_icmp_ge at_58_29 ⟨by omega, by omega⟩ ⟨by omega, by omega⟩ (fun z => absurd z (by omega)) (fun _ => ?_)
    refine aw_loc at_58_32 rfl rfl ?_
    refine aw_get at_58_33 rfl fl_5_17 h1 rfl ?_
    refine aw_loc at_58_36 rfl rfl ?_
    refine aw_loc at_58_37 rfl rfl ?_
    refine aw_get at_58_38 rfl fl_5_17 h1 rfl ?_
    refine aw_loc at_58_41 rfl rfl ?_
    refine aw_pure (st' := ax_i (1) :: _) at_58_42 rfl rfl ?_
    refine ax_add at_58_43 rfl ?_
    refine ax_ald (k := i + 1) (y := g (i + 1)) at_58_44 rfl h2 (by omega) (by omega) (by omega) ?_ ?_
    · unfold mvr
      rw [if_neg (by omega)]
      exact h3 (i + 1) (by omega)
    refine ax_ast (k := i) at_58_45 rfl h2 hfs rfl (by omega) (by omega) ?_
    rw [ai_wr_wr, mvr_succ hki (h3 (i + 1) (by omega)).symm]
    refine ax_inc at_58_46 rfl rfl rfl ?_
    refine aw_goto at_58_49 ?_
    have := ih (i + 1) (by omega) (by omega) hK
    rw [Int.natCast_add] at this
    exact this
set_option maxHeartbeats 2000000 in
theorem r_remove {b N k : Nat} {ws : List (List Int × List Int)} (h : plv S b N ws) (hN : N ≤ 1000) (hk : k < ws.length) : ai_rn L xs (d + 1) 58 [.ref b, ax_i (k : Nat)] S (fun v S' => v = none ∧ fr b (b + 2 + 5 * N) S S' ∧ plv S' b N (ws.eraseIdx k)) := by
  obtain ⟨f, g, h1, h2, h3, h4, h5, h6, h7, h8⟩ := h
  have hl : b + 1 < S.1 := (ai_arrA_inv' h2).1
  have ho : ∀ j, j < N → ∃ fs, ai_obj S (g j) 3 = some fs := fun j hj => by obtain ⟨_, _, _, _, _, _, h, -, -⟩ := h6 j hj; exact ⟨_, h.1⟩
  refine ai_rn_of (M := ai_m58) rfl (by decide) (Nat.le_of_ble_eq_true rfl) ?_
  refine aw_loc at_58_0 rfl rfl ?_
  refine ax_if_lt at_58_1 ⟨by omega, by omega⟩ (fun z => absurd z (by omega)) (fun _ => ?_)
  refine aw_loc at_58_4 rfl rfl ?_
  refine aw_loc at_58_5 rfl rfl ?_
  refine aw_get at_58_6 rfl fl_5_9 h1 rfl ?_
  refine ax_icmp_lt at_58_9 ⟨by omega, by omega⟩ ⟨by omega, by omega⟩ (fun _ => ?_) (fun z => absurd z (by omega))
  refine aw_loc at_58_13 rfl rfl ?_
  refine aw_get at_58_14 rfl fl_5_17 h1 rfl ?_
  refine aw_loc at_58_17 rfl rfl ?_
  refine ax_ald (k := k) at_58_18 rfl h2 rfl (by omega) (by omega) (h3 k (by omega)) ?_
  refine aw_loc at_58_19 rfl rfl ?_
  refine aw_loc at_58_20 rfl rfl ?_
  refine aw_loc at_58_21 rfl rfl ?_
  have hmv0 : mvr f k k = f := by funext j; unfold mvr; exact if_neg (by omega)
  have hrun := r_remove1 (L := L) (xs := xs) (d := d) (S := S) (k := k) (f := f) (g := g) (Q := fun o => ∃ v S', o = (.inl v, S') ∧ v = none ∧ fr b (b + 2 + 5 * N) S S' ∧ plv S' b N (ws.eraseIdx k)) hN h1 hl h3 h4 ho h7 (by omega) (ws.length - 1 - k) k (by omega) (Nat.le_refl _) ?_
  · rw [hmv0, ai_wr_id (ai_arrA_inv' h2).2] at hrun; exact hrun
  have h1b := (ai_obj_wr (a := b + 1) (x := .inl (4, ai_A N (mvr f k (ws.length - 1)))) (show b ≠ b + 1 by omega)).trans h1
  refine aw_loc at_58_52 rfl rfl ?_
  refine aw_pure at_58_53 rfl rfl ?_
  refine aw_get at_58_54 rfl fl_5_9 h1b rfl ?_
  refine aw_pure (st' := ax_i (1) :: _) at_58_57 rfl rfl ?_
  refine ax_sub at_58_58 rfl ?_
  refine aw_put at_58_59 rfl fl_5_9 h1b (Nat.le_of_ble_eq_true rfl) rfl (by decide +kernel) ?_
  have hlb : b < S.1 := by omega
  have h1c : ai_obj (ai_wr (ai_wr S (b + 1) (.inl (4, ai_A N (mvr f k (ws.length - 1))))) b (.inr (6, [.ref (b + 1), ax_i ((ws.length : Int) - 1)]))) b 6 = some [.ref (b + 1), ax_i ((ws.length : Int) - 1)] := ai_obj_wrS hlb
  have h2c : ai_arrA (ai_wr (ai_wr S (b + 1) (.inl (4, ai_A N (mvr f k (ws.length - 1))))) b (.inr (6, [.ref (b + 1), ax_i ((ws.length : Int) - 1)]))) (b + 1) 4 = some (N, mvr f k (ws.length - 1)) := (ai_arrA_wr (show b + 1 ≠ b by omega)).trans (ai_arrA_wrS hl)
  obtain ⟨fs, hfs⟩ := ho k (by omega)
  have hgk := h4 k (by omega)
  have hfsc : ai_obj (ai_wr (ai_wr S (b + 1) (.inl (4, ai_A N (mvr f k (ws.length - 1))))) b (.inr (6, [.ref (b + 1), ax_i ((ws.length : Int) - 1)]))) (g k) 3 = some fs := (ai_obj_wr (show g k ≠ b by omega)).trans ((ai_obj_wr (show g k ≠ b + 1 by omega)).trans hfs)
  refine aw_loc at_58_62 rfl rfl ?_
  refine aw_get at_58_63 rfl fl_5_17 h1c rfl ?_
  refine aw_loc at_58_66 rfl rfl ?_
  refine aw_get at_58_67 rfl fl_5_9 h1c rfl ?_
  refine aw_loc at_58_70 rfl rfl ?_
  refine ax_ast (k := ws.length - 1) at_58_71 rfl h2c hfsc (by omega) (by omega) (by omega) ?_
  refine aw_vret at_58_72 rfl ⟨_, _, rfl, rfl, ?_⟩
  have hfr : fr b (b + 2) S (ai_wr (ai_wr (ai_wr S (b + 1) (.inl (4, ai_A N (mvr f k (ws.length - 1))))) b (.inr (6, [.ref (b + 1), ax_i ((ws.length : Int) - 1)]))) (b + 1) (.inl (4, ai_A N (va_up (mvr f k (ws.length - 1)) (ws.length - 1) (some (g k)))))) := ((fr_wr.mn (by omega) (by omega)).tr (fr_wr.mn (by omega) (by omega))).tr (fr_wr.mn (by omega) (by omega))
  have hlen : (ws.eraseIdx k).length = ws.length - 1 := List.length_eraseIdx_of_lt hk
  refine ⟨hfr.mn (Nat.le_refl _) (by omega), va_up (mvr f k (ws.length - 1)) (ws.length - 1) (some (g k)), fun j => g (pmv k ws.length j), ?_, ai_arrA_wrS hl, fun j hj => ?_, fun j hj => h4 _ (pmv_lt hk h7 hj), fun i j hi hj hij => h5 _ _ (pmv_lt hk h7 hi) (pmv_lt hk h7 hj) (pmv_ne hk hij), fun j hj => ?_, by omega, fun j hj => ?_⟩
  · rw [hlen, show ((ws.length - 1 : Nat) : Int) = (ws.length : Int) - 1 by omega]
    exact (ai_obj_wr (show b ≠ b + 1 by omega)).trans h1c
  · show va_up (mvr f k (ws.length - 1)) (ws.length - 1) (some (g k)) j = some (g (pmv k ws.length j))
    unfold va_up mvr pmv
    by_cases e1 : j = ws.length - 1
    · rw [if_pos e1, if_neg (by omega), if_pos (by omega)]
    · rw [if_neg e1]
      by_cases e2 : k ≤ j ∧ j < ws.length - 1
      · rw [if_pos e2, if_pos (by omega)]; exact h3 _ (by omega)
      · rw [if_neg e2, if_neg (by omega), if_neg (by omega)]; exact h3 _ hj
  · show ∃ l r, pw _ (g (pmv k ws.length j)) l r
    obtain ⟨l, r, hw⟩ := h6 _ (pmv_lt hk h7 hj)
    have hg9 := h4 _ (pmv_lt hk h7 hj)
    exact ⟨l, r, hfr.pw hw (by omega)⟩
  · rw [hlen] at hj
    have hg9 := h4 _ (pmv_lt (j := j) hk h7 (by omega))
    have he : (ws.eraseIdx k).getD j ([], []) = ws.getD (pmv k ws.length j) ([], []) := by
      rw [List.getD_eq_getElem?_getD, List.getD_eq_getElem?_getD, List.getElem?_eraseIdx]
      unfold pmv
      by_cases e2 : j < k
      · rw [if_pos e2, if_neg (by omega), if_neg (by omega)]
      · rw [if_neg e2, if_pos (by omega)]
    rw [he]
    show pw _ (g (pmv k ws.length j)) _ _
    refine hfr.pw (h8 _ ?_) (by omega)
    unfold pmv
    split
    · omega
    · split <;> omega
end PM

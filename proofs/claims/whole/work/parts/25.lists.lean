/-! Frames, and lists of pairs of the landed code. -/
section PL
variable {L : Nat} {xs : Nat → Int32} {d : Nat} {S S' S'' : ai_S}
/-- nothing outside the cells lo .. hi - 1 is another, and none is made -/
def fr (lo hi : Nat) (S S' : ai_S) : Prop := S'.1 = S.1 ∧ S'.2.1 = S.2.1 ∧ S'.2.2.1 = S.2.2.1 ∧ ∀ a, a < lo ∨ hi ≤ a → S'.2.2.2 a = S.2.2.2 a
theorem fr.rf {lo hi : Nat} : fr lo hi S S := ⟨rfl, rfl, rfl, fun _ _ => rfl⟩
theorem fr.tr {lo hi : Nat} (h1 : fr lo hi S S') (h2 : fr lo hi S' S'') : fr lo hi S S'' := ⟨h2.1.trans h1.1, h2.2.1.trans h1.2.1, h2.2.2.1.trans h1.2.2.1, fun a ha => (h2.2.2.2 a ha).trans (h1.2.2.2 a ha)⟩
theorem fr.mn {lo hi lo' hi' : Nat} (h : fr lo hi S S') (h1 : lo' ≤ lo) (h2 : hi ≤ hi') : fr lo' hi' S S' := ⟨h.1, h.2.1, h.2.2.1, fun a ha => h.2.2.2 a (by omega)⟩
theorem fr_wr {a : Nat} {x : ai_C} : fr a (a + 1) S (ai_wr S a x) := ⟨rfl, rfl, rfl, fun b hb => va_up_ne _ _ (by omega)⟩
theorem fr_tm {a n : Nat} {T : Nat → Int} : fr a (a + 2) S (tm_put S a T n) := (fr_wr.mn (by omega) (by omega)).tr (fr_wr.mn (by omega) (by omega))
theorem fr_pr {p n m : Nat} {T U : Nat → Int} : fr p (p + 5) S (pr_put S p T n U m) := (fr_tm.mn (by omega) (by omega)).tr (fr_tm.mn (by omega) (by omega))
theorem fr_pq {p : Nat} {l r : List Int} (h : pq S S' p l r) : fr p (p + 5) S S' := by
  obtain ⟨T, n, U, m, rfl, -, -⟩ := h
  exact fr_pr
theorem fr.obj {lo hi a c : Nat} (h : fr lo hi S S') (ha : a < lo ∨ hi ≤ a) : ai_obj S' a c = ai_obj S a c := by
  unfold ai_obj
  rw [h.1, h.2.2.2 a ha]
theorem fr.arr {lo hi a c : Nat} (h : fr lo hi S S') (ha : a < lo ∨ hi ≤ a) : ai_arr S' a c = ai_arr S a c := by
  unfold ai_arr
  rw [h.1, h.2.2.2 a ha]
theorem fr.arrA {lo hi a c : Nat} (h : fr lo hi S S') (ha : a < lo ∨ hi ≤ a) : ai_arrA S' a c = ai_arrA S a c := by
  unfold ai_arrA
  rw [h.1, h.2.2.2 a ha]
theorem fr.arrJ {lo hi a c : Nat} (h : fr lo hi S S') (ha : a < lo ∨ hi ≤ a) : ai_arrJ S' a c = ai_arrJ S a c := by
  unfold ai_arrJ
  rw [h.1, h.2.2.2 a ha]
theorem fr.tm {lo hi a n : Nat} {T : Nat → Int} (h : fr lo hi S S') (ht : tm S a T n) (ha : a + 1 < lo ∨ hi ≤ a) : tm S' a T n := ⟨(h.obj (by omega)).trans ht.1, (h.arr (by omega)).trans ht.2⟩
theorem fr.pr {lo hi p n m : Nat} {T U : Nat → Int} (h : fr lo hi S S') (ht : pr S p T n U m) (ha : p + 4 < lo ∨ hi ≤ p) : pr S' p T n U m := ⟨(h.obj (by omega)).trans ht.1, h.tm ht.2.1 (by omega), h.tm ht.2.2 (by omega)⟩
theorem fr.pw {lo hi p : Nat} {l r : List Int} (h : fr lo hi S S') (hp : pw S p l r) (ha : p + 4 < lo ∨ hi ≤ p) : pw S' p l r := by
  obtain ⟨T, n, U, m, h1, h2, h3⟩ := hp
  exact ⟨T, n, U, m, h.pr h1 ha, h2, h3⟩
theorem fr.rv {lo hi : Nat} {q : (Nat → Int) × Int} (h : fr lo hi S S') (hr : rv S q) (ha : 399 < lo ∨ hi ≤ 398) : rv S' q := ⟨(h.obj (by omega)).trans hr.1, (h.arr (by omega)).trans hr.2⟩
theorem fr.sy {lo hi : Nat} {P R : Nat → Int} {n : Int} (h : fr lo hi S S') (hr : sy S P R n) (ha : 3 < lo ∨ hi ≤ 1) : sy S' P R n := ⟨(h.obj (by omega)).trans hr.1, (h.arr (by omega)).trans hr.2.1, (h.arr (by omega)).trans hr.2.2⟩
/-- the pair after its words were put -/
theorem pq_pw {p : Nat} {l r l0 r0 : List Int} (h : pq S S' p l r) (h0 : pw S p l0 r0) : pw S' p l r := by
  obtain ⟨T, n, U, m, rfl, h1, h2⟩ := h
  obtain ⟨T0, n0, U0, m0, h3, -, -⟩ := h0
  exact ⟨T, n, U, m, pr_get (pr_lt h3) h3.1, h1, h2⟩
/-- a list of pairs at b: its row at b + 1, its N pairs behind that; the pairs in it are ws -/
def plv (S : ai_S) (b N : Nat) (ws : List (List Int × List Int)) : Prop := ∃ (f : Nat → Option Nat) (g : Nat → Nat), ai_obj S b 6 = some [.ref (b + 1), ax_i ws.length] ∧ ai_arrA S (b + 1) 4 = some (N, f) ∧ (∀ j, j < N → f j = some (g j)) ∧ (∀ j, j < N → b + 2 ≤ g j ∧ g j + 5 ≤ b + 2 + 5 * N) ∧ (∀ i j, i < N → j < N → i ≠ j → g i + 5 ≤ g j ∨ g j + 5 ≤ g i) ∧ (∀ j, j < N → ∃ l r, pw S (g j) l r) ∧ ws.length ≤ N ∧ ∀ j, j < ws.length → pw S (g j) (ws.getD j ([], [])).1 (ws.getD j ([], [])).2
theorem fr.plv {lo hi b N : Nat} {ws : List (List Int × List Int)} (h : fr lo hi S S') (hp : plv S b N ws) (ha : b + 2 + 5 * N ≤ lo ∨ hi ≤ b) : plv S' b N ws := by
  obtain ⟨f, g, h1, h2, h3, h4, h5, h6, h7, h8⟩ := hp
  refine ⟨f, g, (h.obj (by omega)).trans h1, (h.arrA (by omega)).trans h2, h3, h4, h5, fun j hj => ?_, h7, fun j hj => ?_⟩
  · obtain ⟨l, r, hw⟩ := h6 j hj
    have := h4 j hj
    exact ⟨l, r, h.pw hw (by omega)⟩
  · have := h4 j (by omega)
    exact h.pw (h8 j hj) (by omega)
theorem ai_arrA_inv' {a t n : Nat} {f : Nat → Option Nat} (h : ai_arrA S a t = some (n, f)) : a < S.1 ∧ S.2.2.2 a = .inl (t, ai_A n f) := by
  unfold ai_arrA at h
  split at h
  · rename_i hl
    split at h
    · rename_i t' n' f' he
      split at h
      · rename_i hc
        cases h
        subst hc
        exact ⟨hl, he⟩
      · cases h
    · cases h
  · cases h
theorem ax_lenA {M : ai_M} {Q : ai_O → Prop} {pc len a n : Nat} {lv : ai_L} {st : List Value} {f : Nat → Option Nat} (ha : ai_at M pc = some (.arraylength, len)) (ht : ai_thr M pc = none) (hA : ai_arrA S a 4 = some (n, f)) (k : ai_aw L xs d M Q (pc + len, lv, ax_i n :: st, S)) : ai_aw L xs d M Q (pc, lv, .ref a :: st, S) := by
  obtain ⟨h1, h2⟩ := ai_arrA_inv' hA
  refine aw_heap (st' := ax_i n :: st) (S' := S) ha ht ?_ k
  simp only [ai_heap, if_pos h1, h2]
  rfl
theorem ax_ald {M : ai_M} {Q : ai_O → Prop} {pc len a n y k : Nat} {e : Int} {lv : ai_L} {st : List Value} {f : Nat → Option Nat} (ha : ai_at M pc = some (.aaload, len)) (ht : ai_thr M pc = none) (hA : ai_arrA S a 4 = some (n, f)) (he : e = (k : Int)) (hk : k < n) (hn : n < 2147483648) (hy : f k = some y) (kk : ai_aw L xs d M Q (pc + len, lv, .ref y :: st, S)) : ai_aw L xs d M Q (pc, lv, ax_i e :: .ref a :: st, S) := by
  subst he
  exact aw_aald ha ht hA (ax_inb hk hn) (by rw [ax_nat (by omega)]; exact hy) kk
theorem at_55_0 : ai_at ai_m55 0 = some (.aload_n 0, 1) := rfl
theorem at_55_1 : ai_at ai_m55 1 = some (.getfield 9, 3) := rfl
theorem at_55_4 : ai_at ai_m55 4 = some (.aload_n 0, 1) := rfl
theorem at_55_5 : ai_at ai_m55 5 = some (.getfield 17, 3) := rfl
theorem at_55_8 : ai_at ai_m55 8 = some (.arraylength, 1) := rfl
theorem at_55_9 : ai_at ai_m55 9 = some (.if_icmp .lt 7, 3) := rfl
theorem at_55_12 : ai_at ai_m55 12 = some (.iconst 1, 1) := rfl
theorem at_55_13 : ai_at ai_m55 13 = some (.goto 4, 3) := rfl
theorem at_55_16 : ai_at ai_m55 16 = some (.iconst 0, 1) := rfl
theorem at_55_17 : ai_at ai_m55 17 = some (.ireturn, 1) := rfl
theorem at_56_0 : ai_at ai_m56 0 = some (.aload_n 0, 1) := rfl
theorem at_56_1 : ai_at ai_m56 1 = some (.invokevirtual 22, 3) := rfl
theorem at_56_4 : ai_at ai_m56 4 = some (.ifCond .ne 26, 3) := rfl
theorem at_56_7 : ai_at ai_m56 7 = some (.aload_n 0, 1) := rfl
theorem at_56_8 : ai_at ai_m56 8 = some (.getfield 17, 3) := rfl
theorem at_56_11 : ai_at ai_m56 11 = some (.aload_n 0, 1) := rfl
theorem at_56_12 : ai_at ai_m56 12 = some (.getfield 9, 3) := rfl
theorem at_56_15 : ai_at ai_m56 15 = some (.aaload, 1) := rfl
theorem at_56_16 : ai_at ai_m56 16 = some (.aload_n 1, 1) := rfl
theorem at_56_17 : ai_at ai_m56 17 = some (.invokevirtual 26, 3) := rfl
theorem at_56_20 : ai_at ai_m56 20 = some (.aload_n 0, 1) := rfl
theorem at_56_21 : ai_at ai_m56 21 = some (.dup, 1) := rfl
theorem at_56_22 : ai_at ai_m56 22 = some (.getfield 9, 3) := rfl
theorem at_56_25 : ai_at ai_m56 25 = some (.iconst 1, 1) := rfl
theorem at_56_26 : ai_at ai_m56 26 = some (.iadd, 1) := rfl
theorem at_56_27 : ai_at ai_m56 27 = some (.putfield 9, 3) := rfl
theorem at_56_30 : ai_at ai_m56 30 = some (.return_, 1) := rfl
theorem at_59_0 : ai_at ai_m59 0 = some (.iconst 0, 1) := rfl
theorem at_59_1 : ai_at ai_m59 1 = some (.istore_n 2, 1) := rfl
theorem at_59_2 : ai_at ai_m59 2 = some (.iload_n 2, 1) := rfl
theorem at_59_3 : ai_at ai_m59 3 = some (.aload_n 0, 1) := rfl
theorem at_59_4 : ai_at ai_m59 4 = some (.getfield 9, 3) := rfl
theorem at_59_7 : ai_at ai_m59 7 = some (.if_icmp .ge 24, 3) := rfl
theorem at_59_10 : ai_at ai_m59 10 = some (.aload_n 0, 1) := rfl
theorem at_59_11 : ai_at ai_m59 11 = some (.getfield 17, 3) := rfl
theorem at_59_14 : ai_at ai_m59 14 = some (.iload_n 2, 1) := rfl
theorem at_59_15 : ai_at ai_m59 15 = some (.aaload, 1) := rfl
theorem at_59_16 : ai_at ai_m59 16 = some (.aload_n 1, 1) := rfl
theorem at_59_17 : ai_at ai_m59 17 = some (.invokevirtual 30, 3) := rfl
theorem at_59_20 : ai_at ai_m59 20 = some (.ifCond .eq 5, 3) := rfl
theorem at_59_23 : ai_at ai_m59 23 = some (.iconst 1, 1) := rfl
theorem at_59_24 : ai_at ai_m59 24 = some (.ireturn, 1) := rfl
theorem at_59_25 : ai_at ai_m59 25 = some (.iinc 2 1, 3) := rfl
theorem at_59_28 : ai_at ai_m59 28 = some (.goto (-26), 3) := rfl
theorem at_59_31 : ai_at ai_m59 31 = some (.iconst 0, 1) := rfl
theorem at_59_32 : ai_at ai_m59 32 = some (.ireturn, 1) := rfl
theorem fl_5_17 : ai_fld 5 17 = some (6, 0, false) := by decide +kernel
theorem mt_5_22 : ai_mth 5 22 = some (0, 55, 0, 6) := by decide +kernel
theorem mt_5_26 : ai_mth 5 26 = some (0, 50, 1, 3) := by decide +kernel
theorem mt_5_30 : ai_mth 5 30 = some (0, 52, 1, 3) := by decide +kernel
theorem r_full {b N : Nat} {ws : List (List Int × List Int)} (h : plv S b N ws) (hN : N ≤ 1000) : ai_rn L xs (d + 1) 55 [.ref b] S (fun v S' => S' = S ∧ ∃ r, v = some (ax_i r) ∧ bz r (N ≤ ws.length)) := by
  obtain ⟨f, g, h1, h2, h3, h4, h5, h6, h7, h8⟩ := h
  refine ai_rn_of (M := ai_m55) rfl (by decide) (Nat.le_of_ble_eq_true rfl) ?_
  refine aw_loc at_55_0 rfl rfl ?_
  refine aw_get at_55_1 rfl fl_5_9 h1 rfl ?_
  refine aw_loc at_55_4 rfl rfl ?_
  refine aw_get at_55_5 rfl fl_5_17 h1 rfl ?_
  refine ax_lenA at_55_8 rfl h2 ?_
  refine ax_icmp_lt at_55_9 ⟨by omega, by omega⟩ ⟨by omega, by omega⟩ (fun z => ?_) (fun z => ?_)
  · skip
    refine aw_pure (st' := ax_i (0) :: _) at_55_16 rfl rfl ?_
    exact ax_retZ at_55_17 rfl (Or.inl rfl) ⟨_, _, rfl, rfl, 0, rfl, Or.inl ⟨rfl, by omega⟩⟩
  · skip
    refine aw_pure (st' := ax_i (1) :: _) at_55_12 rfl rfl ?_
    refine aw_goto at_55_13 ?_
    exact ax_retZ at_55_17 rfl (Or.inr rfl) ⟨_, _, rfl, rfl, 1, rfl, Or.inr ⟨rfl, by omega⟩⟩
set_option maxHeartbeats 2000000 in
theorem r_add {b N p : Nat} {ws : List (List Int × List Int)} {l r : List Int} (h : plv S b N ws) (hN : N ≤ 1000) (hp : pw S p l r) (hs : p + 4 < b ∨ b + 2 + 5 * N ≤ p) : ai_rn L xs (d + 3) 56 [.ref b, .ref p] S (fun v S' => v = none ∧ (ws.length < N → fr b (b + 2 + 5 * N) S S' ∧ plv S' b N (ws ++ [(l, r)])) ∧ (N ≤ ws.length → S' = S)) := by
  have hF := r_full (L := L) (xs := xs) (d := d + 1) h hN
  obtain ⟨f, g, h1, h2, h3, h4, h5, h6, h7, h8⟩ := h
  refine ai_rn_of (M := ai_m56) rfl (by decide) (Nat.le_of_ble_eq_true rfl) ?_
  refine aw_loc at_56_0 rfl rfl ?_
  refine aw_cv (a := b) [] [] at_56_1 mt_5_22 (Or.inl rfl) rfl rfl (Nat.le_of_ble_eq_true rfl) ⟨_, h1⟩ (hF.mono ?_)
  rintro v S0 ⟨hS, z, rfl, hz⟩
  have hS2 := hS.symm
  subst hS2
  have hzl := hz.le
  refine ax_if_ne at_56_4 ⟨by omega, by omega⟩ (fun z => ?_) (fun z => ?_)
  · skip
    have hfull : N ≤ ws.length := by rcases hz with ⟨h, -⟩ | ⟨-, h⟩; omega; exact h
    exact aw_vret at_56_30 rfl ⟨_, _, rfl, rfl, fun hh => absurd hh (by omega), fun _ => rfl⟩
  · skip
    have hfree : ws.length < N := by rcases hz with ⟨-, h⟩ | ⟨h, -⟩; omega; omega
    have hg := h4 ws.length hfree
    obtain ⟨l0, r0, hw0⟩ := h6 ws.length hfree
    refine aw_loc at_56_7 rfl rfl ?_
    refine aw_get at_56_8 rfl fl_5_17 h1 rfl ?_
    refine aw_loc at_56_11 rfl rfl ?_
    refine aw_get at_56_12 rfl fl_5_9 h1 rfl ?_
    refine ax_ald (k := ws.length) at_56_15 rfl h2 rfl hfree (by omega) (h3 _ hfree) ?_
    refine aw_loc at_56_16 rfl rfl ?_
    refine aw_cv (a := g ws.length) [.ref p] [] at_56_17 mt_5_26 (Or.inl rfl) rfl rfl (Nat.le_of_ble_eq_true rfl) (by obtain ⟨_, _, _, _, h, -, -⟩ := hw0; exact ⟨_, h.1⟩) ((r_pcopy hw0 hp (by omega)).mono ?_)
    rintro v S1 ⟨rfl, hq⟩
    have hfr := fr_pq hq
    have h1b := (hfr.obj (c := 6) (a := b) (by omega)).trans h1
    refine aw_loc at_56_20 rfl rfl ?_
    refine aw_pure at_56_21 rfl rfl ?_
    refine aw_get at_56_22 rfl fl_5_9 h1b rfl ?_
    refine aw_pure (st' := ax_i (1) :: _) at_56_25 rfl rfl ?_
    refine ax_add at_56_26 rfl ?_
    refine aw_put at_56_27 rfl fl_5_9 h1b (Nat.le_of_ble_eq_true rfl) rfl (by decide +kernel) ?_
    refine aw_vret at_56_30 rfl ⟨_, _, rfl, rfl, fun _ => ?_, fun hh => absurd hh (by omega)⟩
    have hf2 : fr b (b + 2 + 5 * N) S (ai_wr S1 b (.inr (6, [.ref (b + 1), ax_i ((ws.length : Int) + 1)]))) := (hfr.mn (by omega) (by omega)).tr (fr_wr.mn (by omega) (by omega))
    have hw1 : fr b (b + 1) S1 (ai_wr S1 b (.inr (6, [.ref (b + 1), ax_i ((ws.length : Int) + 1)]))) := fr_wr
    refine ⟨hf2, f, g, ?_, ?_, h3, h4, h5, fun j hj => ?_, ?_, fun j hj => ?_⟩
    · rw [List.length_append, List.length_singleton, Int.natCast_add]
      exact ai_obj_wrS (ai_obj_inv h1b).1
    · exact (hw1.arrA (by omega)).trans ((hfr.arrA (by omega)).trans h2)
    · by_cases hj2 : j = ws.length
      · subst hj2; exact ⟨l, r, hw1.pw (pq_pw hq hw0) (by omega)⟩
      · obtain ⟨l9, r9, h9⟩ := h6 j hj
        have h10 := h4 j hj
        have h11 := h5 j ws.length hj hfree hj2
        exact ⟨l9, r9, hw1.pw (hfr.pw h9 (by omega)) (by omega)⟩
    · rw [List.length_append, List.length_singleton]; omega
    · rw [List.length_append, List.length_singleton] at hj
      have h10 := h4 j (by omega)
      by_cases hj2 : j = ws.length
      · have hgd : (ws ++ [(l, r)]).getD j ([], []) = (l, r) := by rw [hj2]; simp
        rw [hgd]
        subst hj2
        exact hw1.pw (pq_pw hq hw0) (by omega)
      · rw [List.getD_eq_getElem?_getD, List.getElem?_append_left (by omega), ← List.getD_eq_getElem?_getD]
        have h11 := h5 j ws.length (by omega) hfree hj2
        exact hw1.pw (hfr.pw (h8 j (by omega)) (by omega)) (by omega)
set_option maxHeartbeats 2000000 in
theorem r_has1 {b N p : Nat} {ws : List (List Int × List Int)} {l r : List Int} (h : plv S b N ws) (hN : N ≤ 1000) (hp : pw S p l r) : ∀ (k j : Nat), j + k = ws.length → (∀ i, i < j → ¬ (ws.getD i ([], []) = (l, r) ∧ l.length ≤ 24 ∧ r.length ≤ 24)) → ai_aw L xs (d + 3) ai_m59 (fun o => ∃ v S', o = (.inl v, S') ∧ S' = S ∧ ∃ z, v = some (ax_i z) ∧ bz z (∃ i, i < ws.length ∧ ws.getD i ([], []) = (l, r) ∧ l.length ≤ 24 ∧ r.length ≤ 24)) (2, [some (.ref b), some (.ref p), some (ax_i (j : Nat))], [], S) := by
  obtain ⟨f, g, h1, h2, h3, h4, h5, h6, h7, h8⟩ := h
  intro k
  induction k with
  | zero =>
    intro j hj hno
    refine aw_loc at_59_2 rfl rfl ?_
    refine aw_loc at_59_3 rfl rfl ?_
    refine aw_get at_59_4 rfl fl_5_9 h1 rfl ?_
    refine ax_icmp_ge at_59_7 ⟨by omega, by omega⟩ ⟨by omega, by omega⟩ (fun _ => ?_) (fun z => absurd z (by omega))
    refine aw_pure (st' := ax_i (0) :: _) at_59_31 rfl rfl ?_
    exact ax_retZ at_59_32 rfl (Or.inl rfl) ⟨_, _, rfl, rfl, 0, rfl, Or.inl ⟨rfl, fun hh => by obtain ⟨i, hi, hx⟩ := hh; exact hno i (by omega) hx⟩⟩
  | succ k ih =>
    intro j hj hno
    refine aw_loc at_59_2 rfl rfl ?_
    refine aw_loc at_59_3 rfl rfl ?_
    refine aw_get at_59_4 rfl fl_5_9 h1 rfl ?_
    refine ax_icmp_ge at_59_7 ⟨by omega, by omega⟩ ⟨by omega, by omega⟩ (fun z => absurd z (by omega)) (fun _ => ?_)
    refine aw_loc at_59_10 rfl rfl ?_
    refine aw_get at_59_11 rfl fl_5_17 h1 rfl ?_
    refine aw_loc at_59_14 rfl rfl ?_
    refine ax_ald (k := j) at_59_15 rfl h2 rfl (by omega) (by omega) (h3 j (by omega)) ?_
    refine aw_loc at_59_16 rfl rfl ?_
    refine aw_cv (a := g j) [.ref p] [] at_59_17 mt_5_30 (Or.inl rfl) rfl rfl (Nat.le_of_ble_eq_true rfl) (by obtain ⟨_, _, _, _, h, -, -⟩ := h8 j (by omega); exact ⟨_, h.1⟩) ((r_psame (h8 j (by omega)) hp).mono ?_)
    rintro v S1 ⟨rfl, z, rfl, hz⟩
    have hzl := hz.le
    refine ax_if_eq at_59_20 ⟨by omega, by omega⟩ (fun z => ?_) (fun z => ?_)
    · skip
      have hne : ¬ (ws.getD j ([], []) = (l, r) ∧ l.length ≤ 24 ∧ r.length ≤ 24) := by
        rintro ⟨he, h9⟩
        rcases hz with ⟨-, h⟩ | ⟨h, -⟩
        · rw [he] at h; exact h ⟨rfl, rfl, h9⟩
        · omega
      refine ax_inc at_59_25 rfl rfl rfl ?_
      refine aw_goto at_59_28 ?_
      have := ih (j + 1) (by omega) (fun i hi => ?_)
      · rw [Int.natCast_add] at this; exact this
      · by_cases hij : i = j
        · subst hij; exact hne
        · exact hno i (by omega)
    · skip
      have hye : (ws.getD j ([], [])).1 = l ∧ (ws.getD j ([], [])).2 = r ∧ l.length ≤ 24 ∧ r.length ≤ 24 := by
        rcases hz with ⟨h, -⟩ | ⟨-, h⟩
        · omega
        · obtain ⟨e1, e2, e3, e4⟩ := h; exact ⟨e1, e2, by rw [← e1]; exact e3, by rw [← e2]; exact e4⟩
      refine aw_pure (st' := ax_i (1) :: _) at_59_23 rfl rfl ?_
      exact ax_retZ at_59_24 rfl (Or.inr rfl) ⟨_, _, rfl, rfl, 1, rfl, Or.inr ⟨rfl, j, by omega, Prod.ext hye.1 hye.2.1, hye.2.2⟩⟩
theorem r_contains {b N p : Nat} {ws : List (List Int × List Int)} {l r : List Int} (h : plv S b N ws) (hN : N ≤ 1000) (hp : pw S p l r) : ai_rn L xs (d + 4) 59 [.ref b, .ref p] S (fun v S' => S' = S ∧ ∃ z, v = some (ax_i z) ∧ bz z (∃ i, i < ws.length ∧ ws.getD i ([], []) = (l, r) ∧ l.length ≤ 24 ∧ r.length ≤ 24)) := by
  refine ai_rn_of (M := ai_m59) rfl (by decide) (Nat.le_of_ble_eq_true rfl) ?_
  refine aw_pure (st' := ax_i (0) :: _) at_59_0 rfl rfl ?_
  refine aw_loc at_59_1 rfl rfl ?_
  exact r_has1 h hN hp ws.length 0 (by omega) (fun i hi => absurd hi (Nat.not_lt_zero i))
end PL

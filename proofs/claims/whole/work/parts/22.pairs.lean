/-! Pairs of terms of the landed code. -/
section PR
variable {L : Nat} {xs : Nat → Int32} {d : Nat} {S : ai_S}
theorem ax_fitC {v : Int} (h : 0 ≤ v ∧ v < 65536) : fits .char (.int (Int32.ofInt v)) = true := by
  rw [← ax_nchr h]
  exact fits_narrow_char _
/-- System.arraycopy, of a whole row of letters -/
theorem ax_cpy {M : ai_M} {Q : ai_O → Prop} {pc len x a b : Nat} {lv : ai_L} {T U : Nat → Int} (ha : ai_at M pc = some (.invokestatic x, len)) (hx : ai_isCpy (ai_oi M) x = true) (hb : ai_arr S b 1 = some (24, ax_f U)) (hA : ai_arr S a 1 = some (24, ax_f T)) (hU : ∀ i, 0 ≤ U i ∧ U i < 65536)
    (k : ai_aw L xs d M Q (pc + 3, lv, [], ai_wr S a (.inl (1, ai_I 24 (ax_f (fun i => if i < 24 then U i else T i)))))) : ai_aw L xs d M Q (pc, lv, [ax_i 24, ax_i 0, .ref a, ax_i 0, .ref b], S) := by
  apply ai_aw_one
  unfold ai_one
  simp only [ha, if_pos hx, ai_cpy]
  refine ⟨24, ax_f U, 24, ax_f T, hb, hA, by decide, by decide, by decide, by decide, by decide, by decide, fun i hi => ?_, ?_⟩
  · exact ax_fitC (hU _)
  · have : va_cpy (ax_f U) (ax_f T) (Int32.ofInt 0).toNatClampNeg (Int32.ofInt 0).toNatClampNeg (Int32.ofInt 24).toNatClampNeg = ax_f (fun i => if i < 24 then U i else T i) := by
      funext j
      show (if 0 ≤ j ∧ j < 0 + 24 then Int32.ofInt (U (0 + (j - 0))) else Int32.ofInt (T j)) = Int32.ofInt (if j < 24 then U j else T j)
      by_cases h : j < 24
      · rw [if_pos ⟨Nat.zero_le _, by omega⟩, if_pos h, Nat.zero_add, Nat.sub_zero]
      · rw [if_neg (by omega), if_neg h]
    rw [this]
    exact k
theorem wd_cpy {T U : Nat → Int} {m : Nat} {w : List Int} (h : wd U m w) (hT : ∀ i, 0 ≤ T i ∧ T i < 65536) : wd (fun i => if i < 24 then U i else T i) m w := by
  obtain ⟨h1, h2, h3⟩ := h
  refine ⟨h1, fun i hi hi2 => ?_, fun i => ?_⟩
  · show (if i < 24 then U i else T i) = _
    rw [if_pos hi2]; exact h2 i hi hi2
  · show 0 ≤ (if i < 24 then U i else T i) ∧ (if i < 24 then U i else T i) < 65536
    split
    · exact h3 i
    · exact hT i
theorem wd_same {T U : Nat → Int} {m1 m2 : Nat} {w1 w2 : List Int} (h1 : wd T m1 w1) (h2 : wd U m2 w2) : (m1 = m2 ∧ m1 ≤ 24 ∧ ∀ i, i < m1 → T i = U i) ↔ (w1 = w2 ∧ w1.length ≤ 24) := by
  obtain ⟨a1, a2, -⟩ := h1
  obtain ⟨b1, b2, -⟩ := h2
  constructor
  · rintro ⟨h3, h4, h5⟩
    have hl : w1.length = w2.length := by omega
    refine ⟨List.ext_getElem hl (fun i hi1 hi2 => ?_), by omega⟩
    have := h5 i (by omega)
    rw [a2 i hi1 (by omega), b2 i hi2 (by omega)] at this
    rw [List.getD_eq_getElem?_getD, List.getD_eq_getElem?_getD, List.getElem?_eq_getElem hi1, List.getElem?_eq_getElem hi2] at this
    exact this
  · rintro ⟨rfl, h4⟩
    refine ⟨by omega, by omega, fun i hi => ?_⟩
    rw [a2 i (by omega) (by omega), b2 i (by omega) (by omega)]
/-- a pair at p: its terms stand at p + 1 and p + 3 -/
def pr (S : ai_S) (p : Nat) (T : Nat → Int) (n : Nat) (U : Nat → Int) (m : Nat) : Prop := ai_obj S p 3 = some [.ref (p + 1), .ref (p + 3)] ∧ tm S (p + 1) T n ∧ tm S (p + 3) U m
def pr_put (S : ai_S) (p : Nat) (T : Nat → Int) (n : Nat) (U : Nat → Int) (m : Nat) : ai_S := tm_put (tm_put S (p + 1) T n) (p + 3) U m
/-- the pair's words -/
def pw (S : ai_S) (p : Nat) (l r : List Int) : Prop := ∃ T n U m, pr S p T n U m ∧ wd T n l ∧ wd U m r
/-- S' is S with that pair's words put -/
def pq (S S' : ai_S) (p : Nat) (l r : List Int) : Prop := ∃ T n U m, S' = pr_put S p T n U m ∧ wd T n l ∧ wd U m r
theorem tm_obj {a b c n : Nat} {T : Nat → Int} (h1 : b ≠ a) (h2 : b ≠ a + 1) : ai_obj (tm_put S a T n) b c = ai_obj S b c := (ai_obj_wr h1).trans (ai_obj_wr h2)
theorem tm_arr {a b c n : Nat} {T : Nat → Int} (h1 : b ≠ a) (h2 : b ≠ a + 1) : ai_arr (tm_put S a T n) b c = ai_arr S b c := (ai_arr_wr h1).trans (ai_arr_wr h2)
theorem pr_obj {p b c n m : Nat} {T U : Nat → Int} (h : b ≤ p ∨ p + 4 < b) : ai_obj (pr_put S p T n U m) b c = ai_obj S b c := (tm_obj (by omega) (by omega)).trans (tm_obj (by omega) (by omega))
theorem pr_arr {p b c n m : Nat} {T U : Nat → Int} (h : b ≤ p ∨ p + 4 < b) : ai_arr (pr_put S p T n U m) b c = ai_arr S b c := (tm_arr (by omega) (by omega)).trans (tm_arr (by omega) (by omega))
theorem pr_get {p n m : Nat} {T U : Nat → Int} (h : p + 4 < S.1) (ho : ai_obj S p 3 = some [.ref (p + 1), .ref (p + 3)]) : pr (pr_put S p T n U m) p T n U m :=
  ⟨(pr_obj (Or.inl (Nat.le_refl _))).trans ho, tm_off (tm_get (show p + 1 + 1 < S.1 by omega)) (by omega) (by omega) (by omega), tm_get (show p + 3 + 1 < S.1 by omega)⟩
theorem pr_lt {p n m : Nat} {T U : Nat → Int} (h : pr S p T n U m) : p + 4 < S.1 := tm_lt h.2.2
theorem tm_comm {X : ai_S} {a b x y : Nat} {A B : Nat → Int} (h1 : b ≠ a) (h2 : b ≠ a + 1) (h3 : b + 1 ≠ a) : tm_put (tm_put X b A x) a B y = tm_put (tm_put X a B y) b A x := by
  unfold tm_put
  rw [ai_wr_comm (ai_wr X (b + 1) _) h2, ai_wr_comm (ai_wr (ai_wr X (b + 1) _) (a + 1) _) h1, ai_wr_comm X (show b + 1 ≠ a + 1 by omega), ai_wr_comm (ai_wr X (a + 1) _) h3]
theorem pr_two {p n m n' m' : Nat} {T U T' U' : Nat → Int} : pr_put (pr_put S p T n U m) p T' n' U' m' = pr_put S p T' n' U' m' := by
  unfold pr_put
  rw [tm_comm (show p + 3 ≠ p + 1 by omega) (by omega) (by omega), tm_two, tm_two]
theorem pr_self {p n m : Nat} {T U : Nat → Int} (h : pr S p T n U m) : pr_put S p T n U m = S := by
  unfold pr_put
  rw [tm_self h.2.1, tm_self h.2.2]
theorem pr_off {p q n m n' m' : Nat} {T U T' U' : Nat → Int} (h : pr S q T' n' U' m') (hs : q + 4 < p ∨ p + 4 < q) : pr (pr_put S p T n U m) q T' n' U' m' := by
  refine ⟨(pr_obj (by omega)).trans h.1, ?_, ?_⟩
  · exact tm_off (tm_off h.2.1 (by omega) (by omega) (by omega)) (by omega) (by omega) (by omega)
  · exact tm_off (tm_off h.2.2 (by omega) (by omega) (by omega)) (by omega) (by omega) (by omega)
theorem at_49_0 : ai_at ai_m49 0 = some (.aload_n 0, 1) := rfl
theorem at_49_1 : ai_at ai_m49 1 = some (.getfield 12, 3) := rfl
theorem at_49_4 : ai_at ai_m49 4 = some (.getfield 29, 3) := rfl
theorem at_49_7 : ai_at ai_m49 7 = some (.aload_n 0, 1) := rfl
theorem at_49_8 : ai_at ai_m49 8 = some (.getfield 18, 3) := rfl
theorem at_49_11 : ai_at ai_m49 11 = some (.getfield 29, 3) := rfl
theorem at_49_14 : ai_at ai_m49 14 = some (.iadd, 1) := rfl
theorem at_49_15 : ai_at ai_m49 15 = some (.ireturn, 1) := rfl
theorem at_50_0 : ai_at ai_m50 0 = some (.aload_n 0, 1) := rfl
theorem at_50_1 : ai_at ai_m50 1 = some (.getfield 12, 3) := rfl
theorem at_50_4 : ai_at ai_m50 4 = some (.aload_n 1, 1) := rfl
theorem at_50_5 : ai_at ai_m50 5 = some (.getfield 12, 3) := rfl
theorem at_50_8 : ai_at ai_m50 8 = some (.invokevirtual 21, 3) := rfl
theorem at_50_11 : ai_at ai_m50 11 = some (.aload_n 0, 1) := rfl
theorem at_50_12 : ai_at ai_m50 12 = some (.getfield 18, 3) := rfl
theorem at_50_15 : ai_at ai_m50 15 = some (.aload_n 1, 1) := rfl
theorem at_50_16 : ai_at ai_m50 16 = some (.getfield 18, 3) := rfl
theorem at_50_19 : ai_at ai_m50 19 = some (.invokevirtual 21, 3) := rfl
theorem at_50_22 : ai_at ai_m50 22 = some (.return_, 1) := rfl
theorem at_51_0 : ai_at ai_m51 0 = some (.aload_n 0, 1) := rfl
theorem at_51_1 : ai_at ai_m51 1 = some (.getfield 12, 3) := rfl
theorem at_51_4 : ai_at ai_m51 4 = some (.aload_n 1, 1) := rfl
theorem at_51_5 : ai_at ai_m51 5 = some (.getfield 18, 3) := rfl
theorem at_51_8 : ai_at ai_m51 8 = some (.invokevirtual 21, 3) := rfl
theorem at_51_11 : ai_at ai_m51 11 = some (.aload_n 0, 1) := rfl
theorem at_51_12 : ai_at ai_m51 12 = some (.getfield 18, 3) := rfl
theorem at_51_15 : ai_at ai_m51 15 = some (.aload_n 1, 1) := rfl
theorem at_51_16 : ai_at ai_m51 16 = some (.getfield 12, 3) := rfl
theorem at_51_19 : ai_at ai_m51 19 = some (.invokevirtual 21, 3) := rfl
theorem at_51_22 : ai_at ai_m51 22 = some (.return_, 1) := rfl
theorem at_52_0 : ai_at ai_m52 0 = some (.aload_n 0, 1) := rfl
theorem at_52_1 : ai_at ai_m52 1 = some (.getfield 12, 3) := rfl
theorem at_52_4 : ai_at ai_m52 4 = some (.aload_n 1, 1) := rfl
theorem at_52_5 : ai_at ai_m52 5 = some (.getfield 12, 3) := rfl
theorem at_52_8 : ai_at ai_m52 8 = some (.invokevirtual 25, 3) := rfl
theorem at_52_11 : ai_at ai_m52 11 = some (.ifCond .eq 21, 3) := rfl
theorem at_52_14 : ai_at ai_m52 14 = some (.aload_n 0, 1) := rfl
theorem at_52_15 : ai_at ai_m52 15 = some (.getfield 18, 3) := rfl
theorem at_52_18 : ai_at ai_m52 18 = some (.aload_n 1, 1) := rfl
theorem at_52_19 : ai_at ai_m52 19 = some (.getfield 18, 3) := rfl
theorem at_52_22 : ai_at ai_m52 22 = some (.invokevirtual 25, 3) := rfl
theorem at_52_25 : ai_at ai_m52 25 = some (.ifCond .eq 7, 3) := rfl
theorem at_52_28 : ai_at ai_m52 28 = some (.iconst 1, 1) := rfl
theorem at_52_29 : ai_at ai_m52 29 = some (.goto 4, 3) := rfl
theorem at_52_32 : ai_at ai_m52 32 = some (.iconst 0, 1) := rfl
theorem at_52_33 : ai_at ai_m52 33 = some (.ireturn, 1) := rfl
theorem at_87_0 : ai_at ai_m87 0 = some (.aload_n 1, 1) := rfl
theorem at_87_1 : ai_at ai_m87 1 = some (.getfield 9, 3) := rfl
theorem at_87_4 : ai_at ai_m87 4 = some (.iconst 0, 1) := rfl
theorem at_87_5 : ai_at ai_m87 5 = some (.aload_n 0, 1) := rfl
theorem at_87_6 : ai_at ai_m87 6 = some (.getfield 9, 3) := rfl
theorem at_87_9 : ai_at ai_m87 9 = some (.iconst 0, 1) := rfl
theorem at_87_10 : ai_at ai_m87 10 = some (.bipush 24, 2) := rfl
theorem at_87_12 : ai_at ai_m87 12 = some (.invokestatic 23, 3) := rfl
theorem at_87_15 : ai_at ai_m87 15 = some (.aload_n 0, 1) := rfl
theorem at_87_16 : ai_at ai_m87 16 = some (.aload_n 1, 1) := rfl
theorem at_87_17 : ai_at ai_m87 17 = some (.getfield 15, 3) := rfl
theorem at_87_20 : ai_at ai_m87 20 = some (.putfield 15, 3) := rfl
theorem at_87_23 : ai_at ai_m87 23 = some (.return_, 1) := rfl
theorem fl_4_12 : ai_fld 4 12 = some (3, 0, false) := by decide +kernel
theorem fl_4_18 : ai_fld 4 18 = some (3, 1, false) := by decide +kernel
theorem fl_4_29 : ai_fld 4 29 = some (4, 1, true) := by decide +kernel
theorem mt_4_21 : ai_mth 4 21 = some (0, 87, 1, 4) := by decide +kernel
theorem mt_4_25 : ai_mth 4 25 = some (0, 90, 1, 4) := by decide +kernel
set_option maxHeartbeats 1000000 in
theorem r_tcopy {a b n m : Nat} {T U : Nat → Int} {w : List Int} (ha : tm S a T n) (hT : ∀ i, 0 ≤ T i ∧ T i < 65536) (hb : tm S b U m) (hw : wd U m w) (h2 : b ≠ a + 1) : ai_rn L xs (d + 1) 87 [.ref a, .ref b] S (fun v S' => v = none ∧ ∃ T' n', S' = tm_put S a T' n' ∧ wd T' n' w) := by
  refine ai_rn_of (M := ai_m87) rfl (by decide) (Nat.le_of_ble_eq_true rfl) ?_
  refine aw_loc at_87_0 rfl rfl ?_
  refine aw_get at_87_1 rfl fl_10_9 hb.1 rfl ?_
  refine aw_pure (st' := ax_i (0) :: _) at_87_4 rfl rfl ?_
  refine aw_loc at_87_5 rfl rfl ?_
  refine aw_get at_87_6 rfl fl_10_9 ha.1 rfl ?_
  refine aw_pure (st' := ax_i (0) :: _) at_87_9 rfl rfl ?_
  refine aw_pure (st' := ax_i (24) :: _) at_87_10 rfl rfl ?_
  refine ax_cpy at_87_12 rfl hb.2 ha.2 hw.2.2 ?_
  have ho1 := (ai_obj_wr (x := .inl (1, ai_I 24 (ax_f (fun i => if i < 24 then U i else T i)))) (show a ≠ a + 1 by omega)).trans ha.1
  have ho2 := (ai_obj_wr (x := .inl (1, ai_I 24 (ax_f (fun i => if i < 24 then U i else T i)))) (show b ≠ a + 1 by omega)).trans hb.1
  refine aw_loc at_87_15 rfl rfl ?_
  refine aw_loc at_87_16 rfl rfl ?_
  refine aw_get at_87_17 rfl fl_10_15 ho2 rfl ?_
  refine aw_put at_87_20 rfl fl_10_15 ho1 (Nat.le_of_ble_eq_true rfl) rfl (by decide +kernel) ?_
  exact aw_vret at_87_23 rfl ⟨_, _, rfl, rfl, (fun i => if i < 24 then U i else T i), m, rfl, wd_cpy hw hT⟩
set_option maxHeartbeats 1000000 in
theorem r_pcopy {p q : Nat} {l r l0 r0 : List Int} (hp : pw S p l0 r0) (hq : pw S q l r) (hs : q + 4 < p ∨ p + 4 < q) : ai_rn L xs (d + 2) 50 [.ref p, .ref q] S (fun v S' => v = none ∧ pq S S' p l r) := by
  obtain ⟨T, n, U, m, hp, hT, hU⟩ := hp
  obtain ⟨T', n', U', m', hq, hT', hU'⟩ := hq
  refine ai_rn_of (M := ai_m50) rfl (by decide) (Nat.le_of_ble_eq_true rfl) ?_
  refine aw_loc at_50_0 rfl rfl ?_
  refine aw_get at_50_1 rfl fl_4_12 hp.1 rfl ?_
  refine aw_loc at_50_4 rfl rfl ?_
  refine aw_get at_50_5 rfl fl_4_12 hq.1 rfl ?_
  refine aw_cv (a := p + 1) [.ref (q + 1)] [] at_50_8 mt_4_21 (Or.inl rfl) rfl rfl (Nat.le_of_ble_eq_true rfl) ⟨_, hp.2.1.1⟩ ((r_tcopy hp.2.1 hT.2.2 hq.2.1 hT' (by omega)).mono ?_)
  rintro v S1 ⟨rfl, T1, n1, rfl, hw1⟩
  have hp2 : pr (tm_put S (p + 1) T1 n1) p T1 n1 U m := ⟨(tm_obj (by omega) (by omega)).trans hp.1, tm_get (tm_lt hp.2.1), tm_off hp.2.2 (by omega) (by omega) (by omega)⟩
  have hq2 : pr (tm_put S (p + 1) T1 n1) q T' n' U' m' := ⟨(tm_obj (by omega) (by omega)).trans hq.1, tm_off hq.2.1 (by omega) (by omega) (by omega), tm_off hq.2.2 (by omega) (by omega) (by omega)⟩
  refine aw_loc at_50_11 rfl rfl ?_
  refine aw_get at_50_12 rfl fl_4_18 hp2.1 rfl ?_
  refine aw_loc at_50_15 rfl rfl ?_
  refine aw_get at_50_16 rfl fl_4_18 hq2.1 rfl ?_
  refine aw_cv (a := p + 3) [.ref (q + 3)] [] at_50_19 mt_4_21 (Or.inl rfl) rfl rfl (Nat.le_of_ble_eq_true rfl) ⟨_, hp2.2.2.1⟩ ((r_tcopy hp2.2.2 hU.2.2 hq2.2.2 hU' (by omega)).mono ?_)
  rintro v S1 ⟨rfl, T2, n2, rfl, hw2⟩
  exact aw_vret at_50_22 rfl ⟨_, _, rfl, rfl, T1, n1, T2, n2, rfl, hw1, hw2⟩
set_option maxHeartbeats 1000000 in
theorem r_pxcopy {p q : Nat} {l r l0 r0 : List Int} (hp : pw S p l0 r0) (hq : pw S q l r) (hs : q + 4 < p ∨ p + 4 < q) : ai_rn L xs (d + 2) 51 [.ref p, .ref q] S (fun v S' => v = none ∧ pq S S' p r l) := by
  obtain ⟨T, n, U, m, hp, hT, hU⟩ := hp
  obtain ⟨T', n', U', m', hq, hT', hU'⟩ := hq
  refine ai_rn_of (M := ai_m51) rfl (by decide) (Nat.le_of_ble_eq_true rfl) ?_
  refine aw_loc at_51_0 rfl rfl ?_
  refine aw_get at_51_1 rfl fl_4_12 hp.1 rfl ?_
  refine aw_loc at_51_4 rfl rfl ?_
  refine aw_get at_51_5 rfl fl_4_18 hq.1 rfl ?_
  refine aw_cv (a := p + 1) [.ref (q + 3)] [] at_51_8 mt_4_21 (Or.inl rfl) rfl rfl (Nat.le_of_ble_eq_true rfl) ⟨_, hp.2.1.1⟩ ((r_tcopy hp.2.1 hT.2.2 hq.2.2 hU' (by omega)).mono ?_)
  rintro v S1 ⟨rfl, T1, n1, rfl, hw1⟩
  have hp2 : pr (tm_put S (p + 1) T1 n1) p T1 n1 U m := ⟨(tm_obj (by omega) (by omega)).trans hp.1, tm_get (tm_lt hp.2.1), tm_off hp.2.2 (by omega) (by omega) (by omega)⟩
  have hq2 : pr (tm_put S (p + 1) T1 n1) q T' n' U' m' := ⟨(tm_obj (by omega) (by omega)).trans hq.1, tm_off hq.2.1 (by omega) (by omega) (by omega), tm_off hq.2.2 (by omega) (by omega) (by omega)⟩
  refine aw_loc at_51_11 rfl rfl ?_
  refine aw_get at_51_12 rfl fl_4_18 hp2.1 rfl ?_
  refine aw_loc at_51_15 rfl rfl ?_
  refine aw_get at_51_16 rfl fl_4_12 hq2.1 rfl ?_
  refine aw_cv (a := p + 3) [.ref (q + 1)] [] at_51_19 mt_4_21 (Or.inl rfl) rfl rfl (Nat.le_of_ble_eq_true rfl) ⟨_, hp2.2.2.1⟩ ((r_tcopy hp2.2.2 hU.2.2 hq2.2.1 hT' (by omega)).mono ?_)
  rintro v S1 ⟨rfl, T2, n2, rfl, hw2⟩
  exact aw_vret at_51_22 rfl ⟨_, _, rfl, rfl, T1, n1, T2, n2, rfl, hw1, hw2⟩
set_option maxHeartbeats 1000000 in
theorem r_psame {p q : Nat} {l r l0 r0 : List Int} (hp : pw S p l0 r0) (hq : pw S q l r) : ai_rn L xs (d + 3) 52 [.ref p, .ref q] S (fun v S' => S' = S ∧ ∃ z, v = some (ax_i z) ∧ bz z (l0 = l ∧ r0 = r ∧ l0.length ≤ 24 ∧ r0.length ≤ 24)) := by
  obtain ⟨T, n, U, m, hp, hT, hU⟩ := hp
  obtain ⟨T', n', U', m', hq, hT', hU'⟩ := hq
  refine ai_rn_of (M := ai_m52) rfl (by decide) (Nat.le_of_ble_eq_true rfl) ?_
  have k32 : ¬ (l0 = l ∧ r0 = r ∧ l0.length ≤ 24 ∧ r0.length ≤ 24) → ai_aw L xs (d + 2) ai_m52 (fun o => ∃ v S', o = (.inl v, S') ∧ S' = S ∧ ∃ z, v = some (ax_i z) ∧ bz z (l0 = l ∧ r0 = r ∧ l0.length ≤ 24 ∧ r0.length ≤ 24)) (32, ai_in ai_m52 [.ref p, .ref q], [], S) := by
    intro hno
    refine aw_pure (st' := ax_i (0) :: _) at_52_32 rfl rfl ?_
    exact ax_retZ at_52_33 rfl (Or.inl rfl) ⟨_, _, rfl, rfl, 0, rfl, Or.inl ⟨rfl, hno⟩⟩
  refine aw_loc at_52_0 rfl rfl ?_
  refine aw_get at_52_1 rfl fl_4_12 hp.1 rfl ?_
  refine aw_loc at_52_4 rfl rfl ?_
  refine aw_get at_52_5 rfl fl_4_12 hq.1 rfl ?_
  refine aw_cv (a := p + 1) [.ref (q + 1)] [] at_52_8 mt_4_25 (Or.inl rfl) rfl rfl (Nat.le_of_ble_eq_true rfl) ⟨_, hp.2.1.1⟩ ((r_tsame hp.2.1 hq.2.1 hT.2.2 hT'.2.2 (wd_le hT) (wd_le hT')).mono ?_)
  rintro v S1 ⟨rfl, z1, rfl, hz1⟩
  rw [wd_same hT hT'] at hz1
  have hr1 := hz1.le
  refine ax_if_eq at_52_11 ⟨by omega, by omega⟩ (fun z => ?_) (fun z => ?_)
  · skip
    refine k32 (fun h => ?_)
    rcases hz1 with ⟨-, h2⟩ | ⟨h1, -⟩
    · exact h2 ⟨h.1, h.2.2.1⟩
    · omega
  · skip
    rcases hz1 with ⟨h1, -⟩ | ⟨-, hl⟩
    · omega
    refine aw_loc at_52_14 rfl rfl ?_
    refine aw_get at_52_15 rfl fl_4_18 hp.1 rfl ?_
    refine aw_loc at_52_18 rfl rfl ?_
    refine aw_get at_52_19 rfl fl_4_18 hq.1 rfl ?_
    refine aw_cv (a := p + 3) [.ref (q + 3)] [] at_52_22 mt_4_25 (Or.inl rfl) rfl rfl (Nat.le_of_ble_eq_true rfl) ⟨_, hp.2.2.1⟩ ((r_tsame hp.2.2 hq.2.2 hU.2.2 hU'.2.2 (wd_le hU) (wd_le hU')).mono ?_)
    rintro v S2 ⟨rfl, z2, rfl, hz2⟩
    rw [wd_same hU hU'] at hz2
    have hr2 := hz2.le
    refine ax_if_eq at_52_25 ⟨by omega, by omega⟩ (fun z => ?_) (fun z => ?_)
    · skip
      refine k32 (fun h => ?_)
      rcases hz2 with ⟨-, h2⟩ | ⟨h1, -⟩
      · exact h2 ⟨h.2.1, h.2.2.2⟩
      · omega
    · skip
      rcases hz2 with ⟨h1, -⟩ | ⟨-, hr⟩
      · omega
      refine aw_pure (st' := ax_i (1) :: _) at_52_28 rfl rfl ?_
      refine aw_goto at_52_29 ?_
      exact ax_retZ at_52_33 rfl (Or.inr rfl) ⟨_, _, rfl, rfl, 1, rfl, Or.inr ⟨rfl, hl.1, hr.1, hl.2, hr.2⟩⟩
theorem r_psize {p n m : Nat} {T U : Nat → Int} (hp : pr S p T n U m) : ai_rn L xs (d + 1) 49 [.ref p] S (fun v S' => S' = S ∧ v = some (ax_i ((n : Int) + (m : Int)))) := by
  refine ai_rn_of (M := ai_m49) rfl (by decide) (Nat.le_of_ble_eq_true rfl) ?_
  refine aw_loc at_49_0 rfl rfl ?_
  refine aw_get at_49_1 rfl fl_4_12 hp.1 rfl ?_
  refine aw_get at_49_4 rfl fl_4_29 hp.2.1.1 rfl ?_
  refine aw_loc at_49_7 rfl rfl ?_
  refine aw_get at_49_8 rfl fl_4_18 hp.1 rfl ?_
  refine aw_get at_49_11 rfl fl_4_29 hp.2.2.1 rfl ?_
  refine ax_add at_49_14 rfl ?_
  exact ax_ret at_49_15 rfl ⟨_, _, rfl, rfl, rfl⟩
end PR

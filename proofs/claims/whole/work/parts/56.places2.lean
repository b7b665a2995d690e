/-! Two words at two places of one row. -/
section PW
variable {A : Int → Nat}
theorem ts_pre {x y : List Int} {m : Nat} (h : ts A (1 + m) x) : tl A 1 (x ++ y) = tl A 1 x := by
  have h1 := (ts_split x 1 m h).1
  have e1 : x ++ y = x.take (tl A 1 x) ++ (x.drop (tl A 1 x) ++ y) := by rw [← List.append_assoc, List.take_append_drop]
  have h2 := ts_tl _ 1 (x.drop (tl A 1 x) ++ y) h1
  rw [← e1, List.length_take, Nat.min_eq_left (tl_le _ _)] at h2
  exact h2
theorem sb_pre {w : List Int} {N p : Nat} (hw : ts A N w) (hp : p < w.length) {j : Nat} (hj : j < (sb A w p).length) : tl A 1 ((sb A w p).drop j) = tl A 1 (w.drop (p + j)) ∧ sb A (sb A w p) j = sb A w (p + j) := by
  obtain ⟨m, hm⟩ := ts_drop _ 1 (sb_ts hw hp) j hj
  have e : w.drop (p + j) = (sb A w p).drop j ++ (w.drop p).drop (tl A 1 (w.drop p)) := by
    rw [← List.drop_drop]
    conv => lhs; rw [← List.take_append_drop (tl A 1 (w.drop p)) (w.drop p)]
    rw [List.drop_append_of_le_length]
    · rfl
    · exact Nat.le_of_lt hj
  have h1 := ts_pre (y := (w.drop p).drop (tl A 1 (w.drop p))) hm
  rw [← e] at h1
  refine ⟨h1.symm, ?_⟩
  have hle := tl_le (A := A) ((sb A w p).drop j) 1
  have e2 : sb A w (p + j) = (w.drop (p + j)).take (tl A 1 (w.drop (p + j))) := rfl
  have e3 : sb A (sb A w p) j = ((sb A w p).drop j).take (tl A 1 ((sb A w p).drop j)) := rfl
  rw [e2, e3, h1, e, List.take_append_of_le_length hle]
/-- where the k-th term of the term at i begins -/
def chp (en : Nat → Nat) (i k : Nat) : Nat := if k = 0 then i + 1 else en (i + 1)
theorem word_ch (hA2 : ∀ c, A c ≤ 2) {w : List Int} {N i : Nat} (hw : ts A N w) (hi : i < w.length) : (∀ k, k < A (w.getD i 0) → chp (fun j => j + tl A 1 (w.drop j)) i k < w.length) ∧ sb A w i = w.getD i 0 :: (List.range (A (w.getD i 0))).flatMap fun k => sb A w (chp (fun j => j + tl A 1 (w.drop j)) i k) := by
  obtain ⟨m, hm⟩ := ts_drop w N hw i hi
  rw [Nat.add_comm] at hm
  have h1 := ts_next hi hm
  have h2 := hA2 (w.getD i 0)
  have e0 : sb A w i = w.getD i 0 :: (sp A (A (w.getD i 0)) (w.drop (i + 1))).flatten := by
    rw [sp_flat, sb_cons hi, getD_eq hi]
  rw [e0]
  generalize A (w.getD i 0) = n at h1 h2
  obtain rfl | rfl | rfl : n = 0 ∨ n = 1 ∨ n = 2 := by omega
  · exact ⟨fun k hk => by omega, rfl⟩
  · have l1 := ts_lt (A := A) (w := w) (i := i + 1) (m := m) h1
    refine ⟨fun k hk => ?_, ?_⟩
    · obtain rfl : k = 0 := by omega
      exact l1
    · rw [sp_at]
      rfl
  · have l1 := ts_lt (A := A) (w := w) (i := i + 1) (m := m + 1) h1
    have h3 : ts A (m + 1) (w.drop (i + 1 + tl A 1 (w.drop (i + 1)))) := ts_skip (by rw [show 1 + (m + 1) = m + 2 by omega]; exact h1)
    have l2 := ts_lt h3
    refine ⟨fun k hk => ?_, ?_⟩
    · obtain rfl | rfl : k = 0 ∨ k = 1 := by omega
      · exact l1
      · exact l2
    · rw [sp_at, sp_at]
      rfl
/-- the two words' places -/
def D2 (u v : List Int) (b i : Nat) : Prop := i < u.length ∨ (b ≤ i ∧ i < b + v.length)
def T2 (A : Int → Nat) (u v : List Int) (b i : Nat) : List Int := if i < u.length then sb A u i else sb A v (i - b)
theorem tps_two (hA2 : ∀ c, A c ≤ 2) {u v : List Int} {b N M : Nat} {Y : Nat → Int} {en : Nat → Nat} (hu : ts A N u) (hv : ts A M v) (hb : u.length ≤ b)
    (hY1 : ∀ i, i < u.length → Y i = u.getD i 0) (hY2 : ∀ i, i < v.length → Y (b + i) = v.getD i 0) (hE1 : ∀ i, i < u.length → en i = i + tl A 1 (u.drop i)) (hE2 : ∀ i, i < v.length → en (b + i) = b + i + tl A 1 (v.drop i)) : tps A (D2 u v b) Y (chp en) (T2 A u v b) := by
  have c1 : ∀ i, i < u.length → ∀ k, k < A (Y i) → chp en i k = chp (fun j => j + tl A 1 (u.drop j)) i k ∧ chp en i k < u.length := by
    intro i hi k hk
    rw [hY1 i hi] at hk
    have h1 := (word_ch hA2 hu hi).1 k hk
    have e : chp en i k = chp (fun j => j + tl A 1 (u.drop j)) i k := by
      unfold chp
      by_cases h0 : k = 0
      · rw [if_pos h0, if_pos h0]
      · rw [if_neg h0, if_neg h0]
        have h2 := (word_ch hA2 hu hi).1 0 (by omega)
        exact hE1 _ h2
    exact ⟨e, by rw [e]; exact h1⟩
  have c2 : ∀ i, i < v.length → ∀ k, k < A (Y (b + i)) → chp en (b + i) k = b + chp (fun j => j + tl A 1 (v.drop j)) i k ∧ chp (fun j => j + tl A 1 (v.drop j)) i k < v.length := by
    intro i hi k hk
    rw [hY2 i hi] at hk
    have h1 := (word_ch hA2 hv hi).1 k hk
    refine ⟨?_, h1⟩
    unfold chp
    by_cases h0 : k = 0
    · rw [if_pos h0, if_pos h0]; omega
    · rw [if_neg h0, if_neg h0]
      have h2 : chp (fun j => j + tl A 1 (v.drop j)) i 0 < v.length := (word_ch hA2 hv hi).1 0 (by omega)
      have h3 := hE2 (i + 1) h2
      rw [show b + i + 1 = b + (i + 1) by omega, h3]
      show b + (i + 1) + tl A 1 (v.drop (i + 1)) = b + (i + 1 + tl A 1 (v.drop (i + 1)))
      omega
  have t1 : ∀ i, i < u.length → T2 A u v b i = sb A u i := fun i hi => if_pos hi
  have t2 : ∀ i, i < v.length → T2 A u v b (b + i) = sb A v i := fun i hi => by
    unfold T2
    rw [if_neg (by omega), Nat.add_sub_cancel_left]
  refine ⟨fun i hi k hk => ?_, fun i hi => ?_, fun i hi => ?_⟩
  · rcases hi with hi | ⟨hi1, hi2⟩
    · exact .inl (c1 i hi k hk).2
    · obtain ⟨j, rfl⟩ : ∃ j, i = b + j := ⟨i - b, by omega⟩
      have h1 := c2 j (by omega) k hk
      exact .inr ⟨by omega, by omega⟩
  · rcases hi with hi | ⟨hi1, hi2⟩
    · rw [t1 i hi, (word_ch hA2 hu hi).2, hY1 i hi]
      refine congrArg (_ :: ·) (nflat_congr _ fun k hk => ?_)
      have h1 := c1 i hi k (by rw [hY1 i hi]; exact List.mem_range.1 hk)
      rw [t1 _ h1.2, h1.1]
    · obtain ⟨j, rfl⟩ : ∃ j, i = b + j := ⟨i - b, by omega⟩
      have hj : j < v.length := by omega
      rw [t2 j hj, (word_ch hA2 hv hj).2, hY2 j hj]
      refine congrArg (_ :: ·) (nflat_congr _ fun k hk => ?_)
      have h1 := c2 j hj k (by rw [hY2 j hj]; exact List.mem_range.1 hk)
      rw [h1.1, t2 _ h1.2]
  · rcases hi with hi | ⟨hi1, hi2⟩
    · rw [t1 i hi]; exact sb_ts hu hi
    · obtain ⟨j, rfl⟩ : ∃ j, i = b + j := ⟨i - b, by omega⟩
      rw [t2 j (by omega)]
      exact sb_ts hv (by omega)
end PW

/-! The fresh objects keep the invariant. -/
section F0
variable {q : ai_S × ai_S}
theorem fz0 (h : ai_pre = some q) (hf : ai_frc (ai_last q.2) = true) {a t n : Nat} (hm : (a, t, n, (0 : Int32)) ∈ ai_fa) (hl : a < 453) : ai_arr (ai_last q.2) a t = some (n, ax_f fun _ => 0) := by
  obtain ⟨f, h1, h2, h3⟩ := fz_row h hf hm hl
  have : f = ax_f fun _ => 0 := by
    funext j
    by_cases hj : j < n
    · exact h2 j hj
    · exact h3 j (by omega)
  rw [h1, this]
theorem fz_tm (h : ai_pre = some q) (hf : ai_frc (ai_last q.2) = true) {a : Nat} (h1 : (a, 4, [Value.ref (a + 1), .int 0]) ∈ ai_fo) (h2 : (a + 1, 1, 24, (0 : Int32)) ∈ ai_fa) (hl : a + 1 < 453) : tm (ai_last q.2) a (fun _ => 0) 0 := ⟨fz_obj hf h1 (by omega), fz0 h hf h2 hl⟩
theorem zb0 : (0 : Int) ≤ 0 ∧ (0 : Int) < 65536 := by decide
theorem zb1 : (0 : Int) ≤ 0 ∧ (0 : Int) ≤ 2 := by decide
theorem zb2 : (0 : Int) ≤ 0 ∧ (0 : Int) ≤ 1000 := by decide
theorem wd_nil : wd (fun _ => 0) 0 [] := ⟨rfl, fun i h => absurd h (Nat.not_lt_zero _), fun i => zb0⟩
def fz_k (p : Nat) : Bool := decide ((p, 3, [Value.ref (p + 1), .ref (p + 3)]) ∈ ai_fo) && decide ((p + 1, 4, [Value.ref (p + 1 + 1), .int 0]) ∈ ai_fo) && decide ((p + 1 + 1, 1, 24, (0 : Int32)) ∈ ai_fa) && decide ((p + 3, 4, [Value.ref (p + 3 + 1), .int 0]) ∈ ai_fo) && decide ((p + 3 + 1, 1, 24, (0 : Int32)) ∈ ai_fa) && decide (p + 4 < 453)
theorem fz_pw (h : ai_pre = some q) (hf : ai_frc (ai_last q.2) = true) {p : Nat} (hk : fz_k p = true) : pw (ai_last q.2) p [] [] := by
  unfold fz_k at hk
  simp only [Bool.and_eq_true, decide_eq_true_eq] at hk
  obtain ⟨⟨⟨⟨⟨h1, h2⟩, h3⟩, h4⟩, h5⟩, h6⟩ := hk
  exact ⟨_, _, _, _, ⟨fz_obj hf h1 (by omega), fz_tm h hf h2 h3 (by omega), fz_tm h hf h4 h5 (by omega)⟩, wd_nil, wd_nil⟩
theorem fz_plv (h : ai_pre = some q) (hf : ai_frc (ai_last q.2) = true) {b N : Nat} (ho : (b, 6, [Value.ref (b + 1), .int 0]) ∈ ai_fo) (hp : (b + 1, N, b + 2) ∈ ai_fp) (hk : (List.range N).all (fun j => fz_k (b + 2 + 5 * j)) = true) (hl : b + 1 < 453) : plv (ai_last q.2) b N [] := by
  obtain ⟨e1, -, -, -, -, h6, -⟩ := ai_frc_all hf
  obtain ⟨f, f1, f2⟩ := h6 _ hp
  refine ⟨f, fun j => b + 2 + 5 * j, fz_obj hf ho (by omega), ai_arrA_of f1 (by rw [e1]; exact hl), f2, fun j hj => ⟨by show b + 2 ≤ b + 2 + 5 * j; omega, by show b + 2 + 5 * j + 5 ≤ b + 2 + 5 * N; omega⟩, fun i j hi hj hij => by show b + 2 + 5 * i + 5 ≤ b + 2 + 5 * j ∨ b + 2 + 5 * j + 5 ≤ b + 2 + 5 * i; omega, fun j hj => ⟨[], [], fz_pw h hf (List.all_eq_true.mp hk j (List.mem_range.mpr hj))⟩, Nat.zero_le _, fun j hj => absurd hj (Nat.not_lt_zero _)⟩
theorem fz_12 : (List.range 14).all (fun j => fz_k (12 + 2 + 5 * j)) = true := by decide +kernel
theorem fz_84 : (List.range 48).all (fun j => fz_k (84 + 2 + 5 * j)) = true := by decide +kernel
theorem fz_326 : (List.range 14).all (fun j => fz_k (326 + 2 + 5 * j)) = true := by decide +kernel
theorem fz_m : (List.range 17).all (fun i => decide ((433 + (i + 1), 0, msz (i + 1), (0 : Int32)) ∈ ai_fa)) = true := by decide +kernel
def F_0 : Nat → Nat → Int := fun i j => if i = 0 ∧ j < 8 then -1 else 0
theorem z_at (c : Int) : at256 (fun _ => 0) c = 0 := by
  unfold at256
  split <;> rfl
theorem z_Ar (c : Int) : Ar (fun _ => 0) c = 0 := by
  unfold Ar
  rw [z_at]
  rfl
theorem F0_0 {j : Nat} (h : j < 8) : F_0 0 j = -1 := if_pos ⟨rfl, h⟩
theorem F0_r (i j : Nat) : -1 ≤ F_0 i j ∧ F_0 i j ≤ 0 := by
  unfold F_0
  split <;> omega
theorem F0_s {i : Nat} (h : i ≠ 0) (j : Nat) : F_0 i j = 0 := if_neg (fun z => h z.1)
set_option maxHeartbeats 4000000 in
theorem ivt_0 (h : ai_pre = some q) (hf : ai_frc (ai_last q.2) = true) : ivt 0 (ai_last q.2) := by
  obtain ⟨e1, e2, e3, -, -, -, fJ, hJ, -⟩ := ai_frc_all hf
  have hx : ∀ i, i ≠ 0 → xr (F_0 i) := fun i hi j => by rw [F0_s hi]; exact ⟨by decide, by decide⟩
  refine ⟨fun _ => 0, fun _ => 0, fun _ => 0, 0, [], [], 0, 0, 0, 0, 0, F_0, fun _ => 0, ⟨e1, by omega, by omega⟩, ⟨fJ, ai_arrJ_of hJ (by rw [e1]; decide)⟩, ?_, ?_, ?_, ⟨by decide, by decide⟩, by decide⟩
  · refine ⟨fz_obj hf (by decide +kernel) (by decide), ⟨⟨fz_obj hf (by decide +kernel) (by decide), fz0 h hf (by decide +kernel) (by decide), fz0 h hf (by decide +kernel) (by decide)⟩, fz_obj hf (by decide +kernel) (by decide), fz_plv h hf (by decide +kernel) (by decide +kernel) fz_12 (by decide), fz_plv h hf (by decide +kernel) (by decide +kernel) fz_84 (by decide), ⟨[], fz_plv h hf (by decide +kernel) (by decide +kernel) fz_326 (by decide)⟩, ⟨⟨(fun _ => 0, 0), fz_obj hf (by decide +kernel) (by decide), fz0 h hf (by decide +kernel) (by decide)⟩, ⟨[], [], fz_pw h hf (by decide +kernel)⟩, ⟨fun _ => 0, fun _ => 0, 0, fz_obj hf (by decide +kernel) (by decide), fz0 h hf (by decide +kernel) (by decide), fz0 h hf (by decide +kernel) (by decide), fun _ => 0, 0, fz_tm h hf (by decide +kernel) (by decide +kernel) (by decide), fun i => zb0⟩⟩, ⟨[], [], fz_pw h hf (by decide +kernel)⟩, ⟨[], fun _ => 0, 0, fz_tm h hf (by decide +kernel) (by decide +kernel) (by decide), wd_nil⟩, ⟨fz_obj hf (by decide +kernel) (by decide), ⟨fun _ => 0, 0, fz_tm h hf (by decide +kernel) (by decide +kernel) (by decide), fun i => zb0⟩, ⟨fun _ => 0, 0, fz_tm h hf (by decide +kernel) (by decide +kernel) (by decide), fun i => zb0⟩, ⟨fun _ => 0, fz0 h hf (by decide +kernel) (by decide)⟩, ⟨fun _ => 0, fz0 h hf (by decide +kernel) (by decide)⟩, fun _ => 0, fz0 h hf (by decide +kernel) (by decide), fun i => Or.inl rfl⟩, ?_⟩, ⟨fz_obj hf (by decide +kernel) (by decide), fz0 h hf (by decide +kernel) (by decide)⟩, [], [], fz_pw h hf (by decide +kernel)⟩
    refine ⟨fun _ => 0, fun _ => 0, fun _ => 0, fun _ => 0, fun _ => 0, fun _ => 0, 0, fun _ => 0, ⟨fz_obj hf (by decide +kernel) (by decide), fz0 h hf (by decide +kernel) (by decide), fz0 h hf (by decide +kernel) (by decide), fz0 h hf (by decide +kernel) (by decide), fz0 h hf (by decide +kernel) (by decide), fz0 h hf (by decide +kernel) (by decide), fz0 h hf (by decide +kernel) (by decide)⟩, fun i => zb0, fun i => Or.inl rfl⟩
  · refine ⟨⟨fz_obj hf (by decide +kernel) (by decide), fun i hi => ?_, fz0 h hf (by decide +kernel) (by decide), fun i => Or.inl rfl⟩, ⟨⟨fun i => ⟨(F0_r 0 i).1, by have := (F0_r 0 i).2; omega⟩, fun c h1 h2 h3 => ?_, fun c _ => z_Ar c⟩, fun c => by rw [z_Ar]; decide⟩, ⟨fun k hk => absurd hk (Nat.not_lt_zero _), by decide, fun x hx => absurd hx List.not_mem_nil⟩, ⟨fun k hk => absurd hk (Nat.not_lt_zero _), by decide, fun x hx => absurd hx List.not_mem_nil⟩, hx 9 (by decide), hx 6 (by decide), hx 13 (by decide)⟩
    · cases i with
      | zero =>
        obtain ⟨f, f1, f2, f3⟩ := fz_row h hf (a := 433) (t := 0) (n := 8) (v := -1) (by decide +kernel) (by decide)
        have : f = ax_f (F_0 0) := by
          funext j
          by_cases hj : j < 8
          · rw [f2 j hj]
            show _ = Int32.ofInt (F_0 0 j)
            rw [F0_0 hj]
            rfl
          · rw [f3 j (by omega)]
            show _ = Int32.ofInt (F_0 0 j)
            rw [show F_0 0 j = 0 from if_neg (fun z => hj z.2)]
            rfl
        rw [← this]
        exact f1
      | succ i =>
        have := List.all_eq_true.mp fz_m i (List.mem_range.mpr (by omega))
        rw [show F_0 (i + 1) = fun _ => 0 from funext (F0_s (Nat.succ_ne_zero i))]
        exact fz0 h hf (of_decide_eq_true this) (by omega)
    · rw [F0_0 (by omega)] at h3
      exact absurd h3 (by decide)
  · refine ⟨⟨fun i => zb1, fun c _ => z_Ar c, fun i => zb2⟩, by decide, fun c hc => ?_, fun c h1 h2 h3 => ?_, fun i => ?_, by decide, fun i => zb0, fun i => ?_, fun i hi => absurd hi (Nat.not_lt_zero _)⟩
    · rw [z_at]
      constructor
      · intro z; exact absurd z (by decide)
      · rintro ⟨h1, h2, h3⟩
        rw [F0_0 (by omega)] at h3
        exact absurd h3 (by decide)
    · rw [F0_0 (by omega)] at h3
      exact absurd h3 (by decide)
    · rw [F0_s (by decide)]; decide
    · rw [F0_s (by decide)]; decide
end F0

/-! Behind the end of a row nothing was ever written: it is zero there. -/
section TZ
def tz (S : ai_S) : Prop := ∀ a t n f, S.2.2.2 a = .inl (t, ai_I n f) → ∀ j, n ≤ j → f j = 0
def tzc (x : ai_C) : Prop := ∀ t n f, x = .inl (t, ai_I n f) → ∀ j, n ≤ j → f j = 0
theorem tz_up {g : Nat → ai_C} {a : Nat} {x : ai_C} (h : ∀ b, tzc (g b)) (hx : tzc x) : ∀ b, tzc (va_up g a x b) := by
  intro b
  by_cases e : b = a
  · subst e; rw [va_up_self]; exact hx
  · rw [va_up_ne _ _ e]; exact h b
theorem tz_wr {S : ai_S} {a : Nat} {x : ai_C} (h : ∀ b, tzc (S.2.2.2 b)) (hx : tzc x) : ∀ b, tzc ((ai_wr S a x).2.2.2 b) := tz_up h hx
theorem tz_mk {S : ai_S} {w : Nat} {x : ai_C} (h : ∀ b, tzc (S.2.2.2 b)) (hx : tzc x) : ∀ b, tzc ((ai_mk S w x).2.2.2 b) := tz_up h hx
theorem tzc_r {c : Nat × List Value} : tzc (.inr c) := fun t n f h => by cases h
theorem tzc_J {t n : Nat} {f : Nat → Int64} : tzc (.inl (t, ai_J n f)) := fun t n f h => by cases h
theorem tzc_A {t n : Nat} {f : Nat → Option Nat} : tzc (.inl (t, ai_A n f)) := fun t n f h => by cases h
theorem tzc_0 {t n k : Nat} : tzc (.inl (t, ai_zero k n)) := by
  unfold ai_zero
  split
  · exact tzc_J
  · intro t n f h
    cases h
    intros; rfl
theorem tz_ldx {t : Nat} {st : List Value} {S : ai_S} {q : List Value × ai_S} (h : ai_ldx t st S = some q) : q.2 = S := by
  unfold ai_ldx at h
  split at h
  · obtain ⟨y, -, h2⟩ := Option.bind_eq_some_iff.mp h
    split at h2
    · cases h2
    · cases h2; rfl
  · cases h
theorem tz_stx {t : Nat} {nar : Int32 → Int32} {st : List Value} {S : ai_S} {q : List Value × ai_S} (hz : ∀ b, tzc (S.2.2.2 b)) (h : ai_stx t nar st S = some q) : ∀ b, tzc (q.2.2.2.2 b) := by
  unfold ai_stx at h
  split at h
  · rename_i x i a r
    obtain ⟨⟨n, f⟩, h1, h2⟩ := Option.bind_eq_some_iff.mp h
    obtain ⟨-, h1⟩ := ai_arr_inv h1
    split at h2
    · cases h2
    · rename_i hb
      cases h2
      refine tz_wr hz ?_
      intro t' n' f' e j hj
      cases e
      have := hz a t n f h1 j hj
      have hlt : ¬ n ≤ i.toNatClampNeg := fun z => hb (Or.inr z)
      have hj' : n ≤ j := hj
      show (if j = i.toNatClampNeg then _ else f j) = 0
      rw [if_neg (by omega)]
      exact this
  · cases h
theorem tz_heap {i : Instr} {st : List Value} {S : ai_S} {q : List Value × ai_S} (hz : ∀ b, tzc (S.2.2.2 b)) (h : ai_heap i st S = some q) : ∀ b, tzc (q.2.2.2.2 b) := by
  unfold ai_heap at h
  split at h
  · rw [tz_ldx h]; exact hz
  · rw [tz_ldx h]; exact hz
  · rw [tz_ldx h]; exact hz
  · exact tz_stx hz h
  · exact tz_stx hz h
  · exact tz_stx hz h
  · split at h
    · obtain ⟨y, -, h2⟩ := Option.bind_eq_some_iff.mp h
      split at h2
      · cases h2
      · cases h2; exact hz
    · cases h
  · split at h
    · obtain ⟨y, -, h2⟩ := Option.bind_eq_some_iff.mp h
      split at h2
      · cases h2
      · cases h2; exact tz_wr hz tzc_J
    · cases h
  · split at h
    · obtain ⟨y, -, h2⟩ := Option.bind_eq_some_iff.mp h
      split at h2
      · cases h2
      · obtain ⟨z, -, h3⟩ := Option.map_eq_some_iff.mp h2
        cases h3; exact hz
    · cases h
  · split at h
    · split at h
      · split at h
        · split at h
          · cases h; exact hz
          · cases h
        · cases h
      · cases h
    · cases h
  · split at h
    · obtain ⟨y, -, h2⟩ := Option.bind_eq_some_iff.mp h
      split at h2
      · cases h2
      · cases h2; exact tz_mk hz tzc_0
    · cases h
  · cases h
theorem tz_fop {M : ai_M} {i : Instr} {st : List Value} {S : ai_S} {q : List Value × ai_S} (hz : ∀ b, tzc (S.2.2.2 b)) (h : ai_fop M i st S = some q) : ∀ b, tzc (q.2.2.2.2 b) := by
  unfold ai_fop at h
  split at h
  · obtain ⟨y, -, h2⟩ := Option.bind_eq_some_iff.mp h
    split at h2
    · obtain ⟨z, -, h3⟩ := Option.bind_eq_some_iff.mp h2
      obtain ⟨u, -, h4⟩ := Option.map_eq_some_iff.mp h3
      cases h4; exact hz
    · cases h2
  · obtain ⟨y, -, h2⟩ := Option.bind_eq_some_iff.mp h
    split at h2
    · obtain ⟨z, -, h3⟩ := Option.bind_eq_some_iff.mp h2
      split at h3
      · cases h3; exact tz_wr hz tzc_r
      · cases h3
    · cases h2
  · obtain ⟨y, -, h2⟩ := Option.bind_eq_some_iff.mp h
    split at h2
    · cases h2; exact tz_mk hz tzc_r
    · cases h2
  · split at h
    · split at h
      · split at h
        · cases h
        · cases h; exact tz_mk hz tzc_A
      · cases h
    · cases h
  · split at h
    · obtain ⟨y, -, h2⟩ := Option.bind_eq_some_iff.mp h
      obtain ⟨z, -, h3⟩ := Option.bind_eq_some_iff.mp h2
      split at h3
      · cases h3
      · cases h3; exact tz_wr hz tzc_A
    · cases h
  · obtain ⟨u, -, h4⟩ := Option.map_eq_some_iff.mp h
    cases h4; exact hz
  · obtain ⟨u, -, h4⟩ := Option.map_eq_some_iff.mp h
    cases h4; exact hz
  · cases h
theorem tz_step {L : Nat} {xs : Nat → Int32} {M : ai_M} {i : Instr} {len : Nat} {F G : ai_F} (hz : ∀ b, tzc (F.2.2.2.2.2.2 b)) (h : ai_step L xs M i len F = some G) : ∀ b, tzc (G.2.2.2.2.2.2 b) := by
  unfold ai_step at h
  split at h
  · cases h; exact hz
  · split at h
    · cases h; exact hz
    · split at h
      · rename_i q hq
        cases h; exact tz_heap hz hq
      · split at h
        · rename_i q hq
          cases h; exact tz_fop hz hq
        · split at h
          · cases h; exact hz
          · cases h
def tzr (r : ai_F ⊕ ai_O) : Prop := match r with
  | .inl G => ∀ b, tzc (G.2.2.2.2.2.2 b)
  | .inr o => ∀ b, tzc (o.2.2.2.2 b)
def tzf (rF : ai_rF) : Prop := ∀ mi as S o, (∀ b, tzc (S.2.2.2 b)) → rF mi as S = some o → ∀ b, tzc (o.2.2.2.2 b)
theorem tz_back {M : ai_M} {kd pc : Nat} {lv : ai_L} {rest : List Value} {o : Option ai_O} {r : ai_F ⊕ ai_O} (ho : ∀ q, o = some q → ∀ b, tzc (q.2.2.2.2 b)) (h : ai_backF M kd pc lv rest o = some r) : tzr r := by
  unfold ai_backF at h
  split at h
  · cases h; exact ho _ rfl
  · split at h
    · split at h
      · split at h
        · split at h
          · cases h; exact ho _ rfl
          · cases h
        · cases h
      · cases h
    · cases h
  · cases h
theorem tz_inv {M : ai_M} {rF : ai_rF} (hr : tzf rF) {ks : List Nat} {x : Nat} {F : ai_F} {r : ai_F ⊕ ai_O} (hz : ∀ b, tzc (F.2.2.2.2.2.2 b)) (h : ai_invF rF M ks x F = some r) : tzr r := by
  unfold ai_invF at h
  split at h
  · split at h
    · split at h
      · split at h
        · exact tz_back (fun q hq => hr _ _ _ _ hz hq) h
        · cases h
      · split at h
        · split at h
          · exact tz_back (fun q hq => hr _ _ _ _ hz hq) h
          · cases h
        · cases h
    · cases h
  · cases h
theorem tz_one {M : ai_M} {rF : ai_rF} (hr : tzf rF) {F : ai_F} {r : ai_F ⊕ ai_O} (hz : ∀ b, tzc (F.2.2.2.2.2.2 b)) (h : ai_oneF M rF F = some r) : tzr r := by
  unfold ai_oneF at h
  split at h
  · cases h
  · split at h
    · cases h; exact hz
    · split at h
      · split at h
        · cases h; exact hz
        · cases h; exact hz
      · cases h
    · split at h
      · split at h
        · cases h; exact hz
        · cases h; exact hz
      · cases h
    · cases h
    · exact tz_inv hr hz h
    · split at h
      · cases h
      · exact tz_inv hr hz h
    · split at h
      · split at h
        · split at h
          · cases h; exact hz
          · cases h
        · cases h
      · exact tz_inv hr hz h
    · split at h
      · split at h
        · split at h
          · cases h; exact hz
          · cases h
        · cases h
      · cases h
    · split at h
      · split at h
        · cases h; exact hz
        · cases h
      · cases h
    · split at h
      · split at h
        · cases h; exact hz
        · cases h
      · split at h
        · rename_i G hG
          cases h; exact tz_step hz hG
        · cases h
theorem tz_loop {M : ai_M} {rF : ai_rF} (hr : tzf rF) : ∀ (n : Nat) (F : ai_F) (o : ai_O), (∀ b, tzc (F.2.2.2.2.2.2 b)) → ai_loopF M rF n F = some o → ∀ b, tzc (o.2.2.2.2 b)
  | 0, _, _, _, h => by cases h
  | n + 1, F, o, hz, h => by
    unfold ai_loopF at h
    split at h
    · cases h
    · rename_i G hG
      have h1 : tzr (.inl G) := tz_one hr hz hG
      exact tz_loop hr n G o h1 h
    · rename_i o' hG
      cases h
      have h1 : tzr (.inr o) := tz_one hr hz hG
      exact h1
theorem tz_run (f : Nat) : ∀ d, tzf (ai_runF f d)
  | 0 => fun mi as S o hz h => by cases h
  | d + 1 => fun mi as S o hz h => by
    unfold ai_runF at h
    split at h
    · cases h
    · split at h
      · cases h
      · exact tz_loop (tz_run f d) _ _ _ hz h
theorem tz_pre {q : ai_S × ai_S} (h : ai_pre = some q) : ∀ b, tzc ((ai_last q.2).2.2.2 b) := by
  have z0 : ∀ b, tzc (ai_S0.2.2.2 b) := fun b => tzc_r
  unfold ai_pre at h
  split at h
  · rename_i Sa ha
    split at h
    · rename_i Sb hb
      cases h
      unfold ai_pre1 at ha
      have h1 := tz_run _ _ _ _ _ _ (tz_mk z0 tzc_r) ha
      have h2 := tz_run _ _ _ _ _ _ (tz_mk h1 tzc_r) hb
      exact tz_mk h2 tzc_0
    · cases h
  · cases h
/-- a fresh row, also behind its end -/
theorem fz_row {q : ai_S × ai_S} (h : ai_pre = some q) (hf : ai_frc (ai_last q.2) = true) {a t n : Nat} {v : Int32} (hm : (a, t, n, v) ∈ ai_fa) (hl : a < 453) : ∃ f, ai_arr (ai_last q.2) a t = some (n, f) ∧ (∀ j, j < n → f j = v) ∧ ∀ j, n ≤ j → f j = 0 := by
  obtain ⟨h1, -, -, -, h5, -⟩ := ai_frc_all hf
  obtain ⟨f, e1, e2⟩ := h5 _ hm
  exact ⟨f, ai_arr_of e1 (by rw [h1]; exact hl), e2, tz_pre h a t n f e1⟩
theorem fz_obj {S : ai_S} (hf : ai_frc S = true) {a c : Nat} {fs : List Value} (hm : (a, c, fs) ∈ ai_fo) (hl : a < 453) : ai_obj S a c = some fs := by
  obtain ⟨h1, -, -, h4, -⟩ := ai_frc_all hf
  exact ai_obj_of (h4 _ hm) (by rw [h1]; exact hl)
end TZ

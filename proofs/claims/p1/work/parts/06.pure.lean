/-! The abstract machine by itself: it goes one way; it takes no cell back. -/
section AIP
variable {L : Nat} {xs : Nat → Int32} {M : ai_M} {run : Nat → List Value → ai_S → ai_O → Prop} {go : ai_F → Prop} {Q : ai_O → Prop}
/-- cells and slots have not become fewer -/
def ai_le (S T : ai_S) : Prop := S.2.1 ≤ T.2.1 ∧ S.2.2.1 ≤ T.2.2.1
theorem ai_le.rf (S : ai_S) : ai_le S S := ⟨Nat.le_refl _, Nat.le_refl _⟩
theorem ai_le.tr {S T U : ai_S} (h : ai_le S T) (g : ai_le T U) : ai_le S U := ⟨Nat.le_trans h.1 g.1, Nat.le_trans h.2 g.2⟩
theorem ai_le_wr (S : ai_S) (a : Nat) (x : ai_C) : ai_le S (ai_wr S a x) := ⟨Nat.le_refl _, Nat.le_refl _⟩
theorem ai_le_mk (S : ai_S) (w : Nat) (x : ai_C) : ai_le S (ai_mk S w x) := ⟨Nat.le_succ _, Nat.le_add_right _ _⟩
theorem ai_heap_le {i : Instr} {st st' : List Value} {S S' : ai_S} (h : ai_heap i st S = some (st', S')) : ai_le S S' := by
  cases i with
  | iaload => obtain ⟨_, _, _, _, _, _, _, _, _, rfl⟩ := ai_ldx_inv h; exact ai_le.rf _
  | caload => obtain ⟨_, _, _, _, _, _, _, _, _, rfl⟩ := ai_ldx_inv h; exact ai_le.rf _
  | baload => obtain ⟨_, _, _, _, _, _, _, _, _, rfl⟩ := ai_ldx_inv h; exact ai_le.rf _
  | iastore => obtain ⟨_, _, _, _, _, _, _, _, rfl⟩ := ai_stx_inv h; exact ai_le_wr _ _ _
  | castore => obtain ⟨_, _, _, _, _, _, _, _, rfl⟩ := ai_stx_inv h; exact ai_le_wr _ _ _
  | bastore => obtain ⟨_, _, _, _, _, _, _, _, rfl⟩ := ai_stx_inv h; exact ai_le_wr _ _ _
  | laload =>
    simp only [ai_heap] at h
    split at h
    · obtain ⟨q, _, h2⟩ := Option.bind_eq_some_iff.mp h
      split at h2
      · cases h2
      · cases h2; exact ai_le.rf _
    · cases h
  | lastore =>
    simp only [ai_heap] at h
    split at h
    · obtain ⟨q, _, h2⟩ := Option.bind_eq_some_iff.mp h
      split at h2
      · cases h2
      · cases h2; exact ai_le_wr _ _ _
    · cases h
  | aaload =>
    simp only [ai_heap] at h
    split at h
    · obtain ⟨q, _, h2⟩ := Option.bind_eq_some_iff.mp h
      split at h2
      · cases h2
      · obtain ⟨y, _, h3⟩ := Option.map_eq_some_iff.mp h2
        cases h3; exact ai_le.rf _
    · cases h
  | arraylength =>
    simp only [ai_heap] at h
    split at h
    · split at h
      · split at h
        · split at h
          · cases h; exact ai_le.rf _
          · cases h
        · cases h
      · cases h
    · cases h
  | newarray ty =>
    simp only [ai_heap] at h
    split at h
    · obtain ⟨q, _, h2⟩ := Option.bind_eq_some_iff.mp h
      split at h2
      · cases h2
      · cases h2; exact ai_le_mk _ _ _
    · cases h
  | _ => exact absurd h (by simp [ai_heap])
theorem ai_fop_le {i : Instr} {st st' : List Value} {S S' : ai_S} (h : ai_fop M i st S = some (st', S')) : ai_le S S' := by
  cases i with
  | getfield x =>
    simp only [ai_fop] at h
    obtain ⟨q, _, h2⟩ := Option.bind_eq_some_iff.mp h
    split at h2
    · obtain ⟨fs, _, h3⟩ := Option.bind_eq_some_iff.mp h2
      obtain ⟨v, _, h4⟩ := Option.map_eq_some_iff.mp h3
      cases h4; exact ai_le.rf _
    · cases h2
  | putfield x =>
    simp only [ai_fop] at h
    obtain ⟨q, _, h2⟩ := Option.bind_eq_some_iff.mp h
    split at h2
    · obtain ⟨fs, _, h3⟩ := Option.bind_eq_some_iff.mp h2
      split at h3
      · cases h3; exact ai_le_wr _ _ _
      · cases h3
    · cases h2
  | new x =>
    simp only [ai_fop] at h
    obtain ⟨q, _, h2⟩ := Option.bind_eq_some_iff.mp h
    split at h2
    · cases h2; exact ai_le_mk _ _ _
    · cases h2
  | anewarray x =>
    simp only [ai_fop] at h
    split at h
    · split at h
      · split at h
        · cases h
        · cases h; exact ai_le_mk _ _ _
      · cases h
    · cases h
  | aastore =>
    simp only [ai_fop] at h
    split at h
    · obtain ⟨q, _, h2⟩ := Option.bind_eq_some_iff.mp h
      obtain ⟨fs, _, h3⟩ := Option.bind_eq_some_iff.mp h2
      split at h3
      · cases h3
      · cases h3; exact ai_le_wr _ _ _
    · cases h
  | ldc x =>
    simp only [ai_fop] at h
    obtain ⟨v, _, h4⟩ := Option.map_eq_some_iff.mp h
    cases h4; exact ai_le.rf _
  | ldc2_w x =>
    simp only [ai_fop] at h
    obtain ⟨v, _, h4⟩ := Option.map_eq_some_iff.mp h
    cases h4; exact ai_le.rf _
  | _ => exact absurd h (by simp [ai_fop])
theorem ai_step_le {i : Instr} {len : Nat} {F G : ai_F} (h : ai_step L xs M i len F = some G) : ai_le F.2.2.2 G.2.2.2 := by
  unfold ai_step at h
  split at h
  · cases h; exact ai_le.rf _
  · split at h
    · cases h; exact ai_le.rf _
    · split at h
      · rename_i q hq; cases h; exact ai_heap_le hq
      · split at h
        · rename_i q hq; cases h; exact ai_fop_le hq
        · split at h
          · cases h; exact ai_le.rf _
          · cases h
/-- what an instruction comes to: one frame, or one end -/
def ai_path (L : Nat) (xs : Nat → Int32) (M : ai_M) (call : ai_call) (go : ai_F → Prop) (Q : ai_O → Prop) (F : ai_F) : Prop :=
  (∃ G, go G ∧ ai_le F.2.2.2 G.2.2.2 ∧ ∀ (go' : ai_F → Prop) (Q' : ai_O → Prop), go' G → ai_one L xs M call go' Q' F) ∨ (∃ o, Q o ∧ ai_le F.2.2.2 o.2 ∧ ∀ (go' : ai_F → Prop) (Q' : ai_O → Prop), Q' o → ai_one L xs M call go' Q' F)
theorem ai_back_path {kd pc : Nat} {lv : ai_L} {rest : List Value} {o : ai_O} (h : ai_back M go kd pc lv rest o) : ∃ G, go G ∧ G.2.2.2 = o.2 ∧ ∀ go' : ai_F → Prop, go' G → ai_back M go' kd pc lv rest o := by
  obtain ⟨v, S⟩ := o
  cases v with
  | inl v => exact ⟨_, h, rfl, fun go' h' => h'⟩
  | inr E =>
    simp only [ai_back] at h ⊢
    obtain ⟨hkd, h⟩ := h
    cases hh : ai_hand M pc E with
    | none => rw [hh] at h; exact h.elim
    | some hp =>
      rw [hh] at h
      simp only at h ⊢
      cases ha : ai_at M hp with
      | none => rw [ha] at h; exact h.elim
      | some q =>
        rw [ha] at h
        split at h
        · rename_i k hk
          cases hk
          exact ⟨_, h.2.2, rfl, fun go' h' => ⟨hkd, h.1, h.2.1, h'⟩⟩
        · exact h.elim
theorem ai_inv_path {ks : List Nat} {x : Nat} {F : ai_F} (hr : ∀ mi as S o, run mi as S o → ai_le S o.2) (h : ai_inv (fun mi as S Q => ∃ o, run mi as S o ∧ Q o) M go ks x F) :
    ∃ G, go G ∧ ai_le F.2.2.2 G.2.2.2 ∧ ∀ go' : ai_F → Prop, go' G → ai_inv (fun mi as S Q => ∃ o, run mi as S o ∧ Q o) M go' ks x F := by
  unfold ai_inv at h ⊢
  cases he : ai_mth (ai_oi M) x with
  | none => rw [he] at h; exact h.elim
  | some q =>
    obtain ⟨kd, mi, na, ci⟩ := q
    rw [he] at h
    simp only at h ⊢
    obtain ⟨h1, h2⟩ := h
    by_cases hk : kd = 2 ∨ kd = 3 ∨ kd = 6
    · simp only [if_pos hk] at h2 ⊢
      obtain ⟨g1, g2, o, g3, g4⟩ := h2
      obtain ⟨G, q1, q2, q3⟩ := ai_back_path g4
      exact ⟨G, q1, by rw [q2]; exact hr _ _ _ _ g3, fun go' h' => ⟨h1, g1, g2, o, g3, q3 go' h'⟩⟩
    · simp only [if_neg hk] at h2 ⊢
      split at h2
      · rename_i a rest hs
        obtain ⟨g1, g2, g5, o, g3, g4⟩ := h2
        obtain ⟨G, q1, q2, q3⟩ := ai_back_path g4
        exact ⟨G, q1, by rw [q2]; exact hr _ _ _ _ g3, fun go' h' => ⟨h1, g1, g2, g5, o, g3, q3 go' h'⟩⟩
      · exact h2.elim
set_option maxHeartbeats 2000000 in
theorem ai_one_path {F : ai_F} (hr : ∀ mi as S o, run mi as S o → ai_le S o.2) (h : ai_one L xs M (fun mi as S Q => ∃ o, run mi as S o ∧ Q o) go Q F) : ai_path L xs M (fun mi as S Q => ∃ o, run mi as S o ∧ Q o) go Q F := by
  unfold ai_path
  unfold ai_one at h ⊢
  cases ha : ai_at M F.1 with
  | none => rw [ha] at h; exact h.elim
  | some q =>
    obtain ⟨i, len⟩ := q
    rw [ha] at h
    cases i
    case goto off => exact Or.inl ⟨_, h, ai_le.rf _, fun go' Q' h' => h'⟩
    case ifCond c off =>
      simp only at h ⊢
      split at h
      · rename_i x r hs
        by_cases hc : ai_cmp c x 0
        · exact Or.inl ⟨_, h.1 hc, ai_le.rf _, fun go' Q' h' => ⟨fun _ => h', fun z => absurd hc z⟩⟩
        · exact Or.inl ⟨_, h.2 hc, ai_le.rf _, fun go' Q' h' => ⟨fun z => absurd z hc, fun _ => h'⟩⟩
      · exact h.elim
    case if_icmp c off =>
      simp only at h ⊢
      split at h
      · rename_i y x r hs
        by_cases hc : ai_cmp c x y
        · exact Or.inl ⟨_, h.1 hc, ai_le.rf _, fun go' Q' h' => ⟨fun _ => h', fun z => absurd hc z⟩⟩
        · exact Or.inl ⟨_, h.2 hc, ai_le.rf _, fun go' Q' h' => ⟨fun z => absurd z hc, fun _ => h'⟩⟩
      · exact h.elim
    case tableswitch dflt lo hi offs =>
      simp only at h ⊢
      split at h
      · rename_i x r hs
        by_cases hc : x.toInt < lo ∨ hi < x.toInt
        · exact Or.inl ⟨_, h.1 hc, ai_le.rf _, fun go' Q' h' => ⟨fun _ => h', fun z => absurd hc z⟩⟩
        · obtain ⟨off, h1, h2⟩ := h.2 hc
          exact Or.inl ⟨_, h2, ai_le.rf _, fun go' Q' h' => ⟨fun z => absurd z hc, fun _ => ⟨off, h1, h'⟩⟩⟩
      · exact h.elim
    case invokevirtual x =>
      obtain ⟨G, g1, g2, g3⟩ := ai_inv_path hr h
      exact Or.inl ⟨G, g1, g2, fun go' Q' h' => g3 go' h'⟩
    case invokestatic x =>
      simp only at h ⊢
      by_cases hx : ai_isCpy (ai_oi M) x = true
      · simp only [if_pos hx] at h ⊢
        unfold ai_cpy at h ⊢
        split at h
        · obtain ⟨n0, f, n1, g, h1, h2, h3, h4, h5, h6, h7, h8, h9, h10⟩ := h
          exact Or.inl ⟨_, h10, ai_le_wr _ _ _, fun go' Q' h' => ⟨n0, f, n1, g, h1, h2, h3, h4, h5, h6, h7, h8, h9, h'⟩⟩
        · exact h.elim
      · simp only [if_neg hx] at h ⊢
        obtain ⟨G, g1, g2, g3⟩ := ai_inv_path hr h
        exact Or.inl ⟨G, g1, g2, fun go' Q' h' => g3 go' h'⟩
    case invokespecial x =>
      simp only at h ⊢
      by_cases hx : ai_isObj (ai_oi M) x = true
      · simp only [if_pos hx] at h ⊢
        split at h
        · exact Or.inl ⟨_, h.2, ai_le.rf _, fun go' Q' h' => ⟨h.1, h'⟩⟩
        · exact h.elim
      · simp only [if_neg hx] at h ⊢
        obtain ⟨G, g1, g2, g3⟩ := ai_inv_path hr h
        exact Or.inl ⟨G, g1, g2, fun go' Q' h' => g3 go' h'⟩
    case ireturn =>
      simp only at h ⊢
      split at h
      · exact Or.inr ⟨_, h.2, ai_le.rf _, fun go' Q' h' => ⟨h.1, h'⟩⟩
      · exact h.elim
    case return_ => exact Or.inr ⟨_, h.2.2, ai_le.rf _, fun go' Q' h' => ⟨h.1, h.2.1, h'⟩⟩
    all_goals
      simp only at h ⊢
      split at h
      · exact Or.inr ⟨_, h.2, ⟨Nat.le_succ _, Nat.le_add_right _ _⟩, fun go' Q' h' => ⟨h.1, h'⟩⟩
      · split at h
        · rename_i G hG
          exact Or.inl ⟨G, h, ai_step_le hG, fun go' Q' h' => h'⟩
        · exact h.elim
theorem ai_wp_det {n : Nat} {F : ai_F} (hr : ∀ mi as S o, run mi as S o → ai_le S o.2) (h : ai_wp L xs M (fun mi as S Q => ∃ o, run mi as S o ∧ Q o) Q n F) :
    ∃ o, ai_wp L xs M (fun mi as S Q => ∃ o, run mi as S o ∧ Q o) (fun x => x = o) n F ∧ Q o ∧ ai_le F.2.2.2 o.2 := by
  induction n generalizing F with
  | zero => exact h.elim
  | succ n ih =>
    rcases ai_one_path hr h with ⟨G, g1, g2, g3⟩ | ⟨o, g1, g2, g3⟩
    · obtain ⟨o, q1, q2, q3⟩ := ih g1
      exact ⟨o, g3 _ _ q1, q2, g2.tr q3⟩
    · exact ⟨o, g3 _ _ rfl, g1, g2⟩
theorem ai_run_le {d : Nat} : ∀ mi as S o, ai_run L xs d mi as S o → ai_le S o.2 := by
  induction d with
  | zero => intro mi as S o h; exact h.elim
  | succ d ih =>
    intro mi as S o h
    obtain ⟨M, n, -, -, -, h4⟩ := h
    obtain ⟨o', -, rfl, q3⟩ := ai_wp_det ih h4
    exact q3
end AIP

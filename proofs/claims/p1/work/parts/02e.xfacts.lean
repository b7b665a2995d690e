/-! The tables' facts about exceptions. -/
/-- the texts: owner, entry, text -/
def ai_txt : List (String × Nat × String) := ai_MT.flatMap fun M => (ai_thrL M).map fun q => (ai_own (ai_oi M), q.2.2.2.1, q.2.2.2.2.2)
def ai_tck (M : ai_M) : Bool := (ai_thrL M).all fun q => decide (6 ≤ ai_Fr M) && decide (90 ≤ ai_Lc M) && (ai_ex M).isEmpty && decide (ai_oi M ≠ 99) && decide (ai_own (ai_oi M) = "RuleCompletion") && decide ((q.2.1, q.2.2.1, q.2.2.2.2.1) ∈ ai_exL) && decide (decode (ai_cc M) q.1 = .ok (.new q.2.2.1, 3)) && decide (decode (ai_cc M) (q.1 + 3) = .ok (.dup, 1)) && decide (decode (ai_cc M) (q.1 + 4) = .ok (.ldc q.2.2.2.1, 2)) && decide (decode (ai_cc M) (q.1 + 6) = .ok (.invokespecial q.2.2.2.2.1, 3)) && decide (decode (ai_cc M) (q.1 + 9) = .ok (.athrow, 1)) && Bundle.fit q.2.1
set_option maxRecDepth 100000 in
theorem ai_tcks : ai_MT.all ai_tck = true := by decide +kernel
theorem ai_thr_ok {M : ai_M} {pc : Nat} {E : String} (hM : M ∈ ai_MT) (ht : ai_thr M pc = some E) : ∃ ik is ic text, 6 ≤ ai_Fr M ∧ 90 ≤ ai_Lc M ∧ ai_ex M = [] ∧ ai_oi M ≠ 99 ∧ decode (ai_cc M) pc = .ok (.new ik, 3) ∧ decode (ai_cc M) (pc + 3) = .ok (.dup, 1) ∧ decode (ai_cc M) (pc + 4) = .ok (.ldc is, 2) ∧ decode (ai_cc M) (pc + 6) = .ok (.invokespecial ic, 3) ∧ decode (ai_cc M) (pc + 9) = .ok (.athrow, 1) ∧ Bundle.fit E = true ∧ (∀ n ∈ ai_sup, Bundle.fit n = true) ∧ (ai_own (ai_oi M), is, text) ∈ ai_txt ∧ Cond.classLink (ai_own (ai_oi M)) ik E ∈ ai_ws ∧ Cond.initialized E ∈ ai_ws ∧ E ∈ ai_ca ∧ ∀ w ∈ (Bundle.ownAtoms (ai_own (ai_oi M)) ic E ai_sup).filter (ai_no E), w ∈ ai_ws := by
  unfold ai_thr at ht
  cases hq : (ai_thrL M).lookup pc with
  | none => rw [hq] at ht; cases ht
  | some q =>
    rw [hq] at ht
    cases ht
    obtain ⟨E, ik, is, ic, text⟩ := q
    have hm := ai_lookN hq
    have h1 := List.all_eq_true.mp (List.all_eq_true.mp ai_tcks M hM) _ hm
    simp only [Bool.and_eq_true, decide_eq_true_eq] at h1
    obtain ⟨⟨⟨⟨⟨⟨⟨⟨⟨⟨⟨g1, g2⟩, g3⟩, g4⟩, g5⟩, g6⟩, g7⟩, g8⟩, g9⟩, g10⟩, g11⟩, g12⟩ := h1
    have hin : ∀ w ∈ (Cond.classLink "RuleCompletion" ik E :: .initialized E :: (Bundle.ownAtoms "RuleCompletion" ic E ai_sup).filter (ai_no E)), w ∈ ai_ws := fun w hw => ai_ws7 (List.mem_flatMap.mpr ⟨(E, ik, ic), g6, hw⟩)
    refine ⟨ik, is, ic, text, g1, g2, List.isEmpty_iff.mp g3, g4, g7, g8, g9, g10, g11, g12, by decide +kernel, ?_, ?_, ?_, List.mem_map.mpr ⟨_, g6, rfl⟩, ?_⟩
    · exact List.mem_flatMap.mpr ⟨M, hM, List.mem_map.mpr ⟨_, hm, rfl⟩⟩
    · rw [g5]; exact hin _ List.mem_cons_self
    · exact hin _ (List.mem_cons_of_mem _ List.mem_cons_self)
    · rw [g5]; exact fun w hw => hin _ (List.mem_cons_of_mem _ (List.mem_cons_of_mem _ hw))
theorem ai_hand_ok {M : ai_M} {pc hp : Nat} {E : String} (h : ai_hand M pc E = some hp) : ∃ pre x suf, ai_ex M = pre ++ x :: suf ∧ x.2.2.1 = hp ∧ (x.1 ≤ pc ∧ pc < x.2.1) ∧ x.2.2.2.2 = E ∧ ∀ z ∈ pre, ¬ (z.1 ≤ pc ∧ pc < z.2.1 ∧ z.2.2.2.2 = E) := by
  unfold ai_hand at h
  cases hf : (ai_ex M).find? fun h => decide (h.1 ≤ pc) && decide (pc < h.2.1) && decide (h.2.2.2.2 = E) with
  | none => rw [hf] at h; cases h
  | some x =>
    rw [hf] at h
    cases h
    obtain ⟨h1, pre, suf, h2, h3⟩ := List.find?_eq_some_iff_append.mp hf
    simp only [Bool.and_eq_true, decide_eq_true_eq] at h1
    refine ⟨pre, x, suf, h2, rfl, h1.1, h1.2, fun z hz hn => ?_⟩
    have := h3 z hz
    simp [hn.1, hn.2.1, hn.2.2] at this
set_option maxRecDepth 100000 in
theorem ai_lawck : ai_MT.all (fun M => !(ai_oi M == 99) || (ai_ex M).isEmpty) = true := by decide +kernel
theorem ai_law_ex {M : ai_M} (hM : M ∈ ai_MT) (h : ai_oi M = 99) : ai_ex M = [] := by
  have h1 := List.all_eq_true.mp ai_lawck M hM
  simp only [h, beq_self_eq_true, Bool.not_true, Bool.false_or] at h1
  exact List.isEmpty_iff.mp h1
set_option maxRecDepth 100000 in
theorem ai_rowck : ai_MT.all (fun M => (ai_ex M).all fun z => decide (z.2.2.2.1 ≠ 0) && decide (z.2.2.2.2 ∈ ai_ca)) = true := by decide +kernel
theorem ai_row_ok {M : ai_M} {z : Nat × Nat × Nat × Nat × String} (hM : M ∈ ai_MT) (hz : z ∈ ai_ex M) : z.2.2.2.1 ≠ 0 ∧ Cond.classLink (ai_own (ai_oi M)) z.2.2.2.1 z.2.2.2.2 ∈ ai_ws ∧ z.2.2.2.2 ∈ ai_ca := by
  have h1 := List.all_eq_true.mp (List.all_eq_true.mp ai_rowck M hM) _ hz
  have hin : ∀ w ∈ ([.classLink (ai_own (ai_oi M)) z.2.2.2.1 z.2.2.2.2] : List Cond), w ∈ ai_ws := fun w hw => ai_ws8 (List.mem_flatMap.mpr ⟨M, hM, List.mem_flatMap.mpr ⟨z, hz, hw⟩⟩)
  simp only [Bool.and_eq_true, decide_eq_true_eq] at h1
  exact ⟨h1.1, hin _ (by simp), h1.2⟩
set_option maxRecDepth 100000 in
theorem ai_passck : ai_MT.all (fun M => decide ((ai_ex M).Pairwise (fun z y => z.2.2.2.2 ≠ y.2.2.2.2 → (y.2.2.2.2, z.2.2.2.2) ∈ ai_ncL))) = true := by decide +kernel
theorem ai_pass_ok {M : ai_M} {pre suf : List (Nat × Nat × Nat × Nat × String)} {x w : Nat × Nat × Nat × Nat × String} (hM : M ∈ ai_MT) (hs : ai_ex M = pre ++ x :: suf) (hw : w ∈ pre) (hn : w.2.2.2.2 ≠ x.2.2.2.2) : (x.2.2.2.2, w.2.2.2.2) ∈ ai_ncL := by
  have h1 := List.all_eq_true.mp ai_passck M hM
  simp only [decide_eq_true_eq] at h1
  rw [hs, List.pairwise_append] at h1
  exact h1.2.2 w hw x List.mem_cons_self hn
set_option maxRecDepth 100000 in
theorem ai_ownck : ai_MT.all (fun M => decide (ai_own (ai_oi M) = (ai_y M).cls)) = true := by decide +kernel
theorem ai_own_ok {M : ai_M} (hM : M ∈ ai_MT) : ai_own (ai_oi M) = (ai_y M).cls := by
  have h1 := List.all_eq_true.mp ai_ownck M hM
  simpa using h1

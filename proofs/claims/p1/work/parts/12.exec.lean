/-! The abstract machine as a program, for runs that are closed. -/
def ai_cmpB (c : ClassFile.Cond) (x y : Int32) : Bool := match c with
  | .eq => decide (x = y)
  | .ne => decide (¬ x = y)
  | .lt => decide (x < y)
  | .ge => decide (y ≤ x)
  | .gt => decide (y < x)
  | .le => decide (x ≤ y)
theorem ai_cmpB_ok (c : ClassFile.Cond) (x y : Int32) : ai_cmpB c x y = true ↔ ai_cmp c x y := by
  cases c <;> simp [ai_cmpB, ai_cmp]
abbrev ai_rF : Type := Nat → List Value → ai_S → Option ai_O
/-- behind a call -/
def ai_backF (M : ai_M) (kd pc : Nat) (lv : ai_L) (rest : List Value) (o : Option ai_O) : Option (ai_F ⊕ ai_O) := match o with
  | some (.inl v, S) => some (.inl (pc + 3, lv, v.toList ++ rest, S))
  | some (.inr E, S) => if kd = 0 then (match ai_hand M pc E with
      | some h => (match ai_at M h with
        | some (.astore_n k, 1) => if (k : Nat) < lv.length ∧ ((k : Nat) = 0 ∨ ai_isl (lv.getD ((k : Nat) - 1) none) = false) then some (.inl (h + 1, lv.set k none, [], S)) else none
        | _ => none)
      | none => none) else none
  | none => none
def ai_invF (run : ai_rF) (M : ai_M) (ks : List Nat) (x : Nat) (F : ai_F) : Option (ai_F ⊕ ai_O) := match ai_mth (ai_oi M) x with
  | some (kd, mi, na, ci) => if kd ∈ ks then
      (if kd = 2 ∨ kd = 3 ∨ kd = 6 then (if na ≤ F.2.2.1.length ∧ ai_sum (F.2.2.1.drop na) ≤ 8 then ai_backF M kd F.1 F.2.1 (F.2.2.1.drop na) (run mi (F.2.2.1.take na).reverse F.2.2.2) else none)
       else match F.2.2.1.drop na with
         | .ref a :: rest => if na ≤ F.2.2.1.length ∧ ai_sum rest ≤ 8 ∧ (ai_obj F.2.2.2 a ci).isSome = true then ai_backF M kd F.1 F.2.1 rest (run mi (.ref a :: (F.2.2.1.take na).reverse) F.2.2.2) else none
         | _ => none)
      else none
  | none => none
def ai_oneF (M : ai_M) (run : ai_rF) (F : ai_F) : Option (ai_F ⊕ ai_O) := match ai_at M F.1 with
  | none => none
  | some (i, len) => match i with
    | .goto off => some (.inl (ai_to F.1 off, F.2))
    | .ifCond c off => match F.2.2.1 with
      | .int x :: r => if ai_cmpB c x 0 = true then some (.inl (ai_to F.1 off, F.2.1, r, F.2.2.2)) else some (.inl (F.1 + 3, F.2.1, r, F.2.2.2))
      | _ => none
    | .if_icmp c off => match F.2.2.1 with
      | .int y :: .int x :: r => if ai_cmpB c x y = true then some (.inl (ai_to F.1 off, F.2.1, r, F.2.2.2)) else some (.inl (F.1 + 3, F.2.1, r, F.2.2.2))
      | _ => none
    | .tableswitch _ _ _ _ => none
    | .invokevirtual x => ai_invF run M [0, 1] x F
    | .invokestatic x => if ai_isCpy (ai_oi M) x = true then none else ai_invF run M [2, 3, 6] x F
    | .invokespecial x => if ai_isObj (ai_oi M) x = true then (match F.2.2.1 with
        | .ref _ :: r => if ai_sum r ≤ 8 then some (.inl (F.1 + 3, F.2.1, r, F.2.2.2)) else none
        | _ => none) else ai_invF run M [4, 5] x F
    | .ireturn => match F.2.2.1 with
      | [.int v] => match ai_ret M with
        | some ty => if narrow ty (.int v) = .int v then some (.inr (ai_ok (some (.int v)) F.2.2.2)) else none
        | none => none
      | _ => none
    | .return_ => match F.2.2.1 with
      | [] => match ai_ret M with
        | none => some (.inr (ai_ok none F.2.2.2))
        | some _ => none
      | _ => none
    | i => match ai_thr M F.1 with
      | some E => if ai_sum F.2.2.1 ≤ 8 then some (.inr (.inr E, (F.2.2.2.1, F.2.2.2.2.1 + 1, F.2.2.2.2.2.1 + 6, F.2.2.2.2.2.2))) else none
      | none => match ai_step 0 (fun _ => 0) M i len F with
        | some G => some (.inl G)
        | none => none
def ai_loopF (M : ai_M) (run : ai_rF) : Nat → ai_F → Option ai_O
  | 0, _ => none
  | n + 1, F => match ai_oneF M run F with
    | none => none
    | some (.inl G) => ai_loopF M run n G
    | some (.inr o) => some o
def ai_runF (f : Nat) : Nat → ai_rF
  | 0 => fun _ _ _ => none
  | d + 1 => fun mi as S => match ai_MT[mi]? with
    | none => none
    | some M => if ai_oi M = 99 ∨ ¬ (ai_ent as).length ≤ ai_nL M then none else ai_loopF M (ai_runF f d) f (0, ai_in M as, [], S)
section AIR
variable {M : ai_M} {L : Nat} {xs : Nat → Int32} {rF : ai_rF} {run : Nat → List Value → ai_S → ai_O → Prop}
theorem ai_step_free {i : Instr} {len : Nat} {F : ai_F} (h : ai_oi M ≠ 99) : ai_step 0 (fun _ => 0) M i len F = ai_step L xs M i len F := by
  unfold ai_step ai_scr
  simp only [if_neg h]
theorem ai_invF_ok {ks : List Nat} {x : Nat} {F : ai_F} {r : ai_F ⊕ ai_O} (hr : ∀ mi as S o, rF mi as S = some o → run mi as S o) (h : ai_invF rF M ks x F = some r) : ∃ G, r = .inl G ∧ ∀ go : ai_F → Prop, go G → ai_inv (fun mi as S Q => ∃ o, run mi as S o ∧ Q o) M go ks x F := by
  have hb : ∀ (mi : Nat) (as : List Value) (pc : Nat) (lv : ai_L) (rest : List Value) (kd : Nat), ai_backF M kd pc lv rest (rF mi as F.2.2.2) = some r → ∃ G, r = .inl G ∧ ∀ go : ai_F → Prop, go G → ∃ o, run mi as F.2.2.2 o ∧ ai_back M go kd pc lv rest o := by
    intro mi as pc lv rest kd h
    unfold ai_backF at h
    split at h
    · rename_i v S' he
      cases h
      exact ⟨_, rfl, fun go hg => ⟨_, hr _ _ _ _ he, hg⟩⟩
    · rename_i E S' he
      by_cases hkd : kd = 0
      · rw [if_pos hkd] at h
        split at h
        · rename_i hh hhe
          split at h
          · rename_i k hka
            by_cases hc : (k : Nat) < lv.length ∧ ((k : Nat) = 0 ∨ ai_isl (lv.getD ((k : Nat) - 1) none) = false)
            · rw [if_pos hc] at h
              cases h
              refine ⟨_, rfl, fun go hg => ⟨_, hr _ _ _ _ he, ?_⟩⟩
              simp only [ai_back, hhe, hka]
              exact ⟨hkd, hc.1, hc.2, hg⟩
            · rw [if_neg hc] at h; cases h
          · cases h
        · cases h
      · rw [if_neg hkd] at h; cases h
    · cases h
  unfold ai_invF at h
  unfold ai_inv
  cases he : ai_mth (ai_oi M) x with
  | none => rw [he] at h; cases h
  | some q =>
    obtain ⟨kd, mi, na, ci⟩ := q
    rw [he] at h
    simp only at h ⊢
    by_cases hk : kd ∈ ks
    · rw [if_pos hk] at h
      by_cases h23 : kd = 2 ∨ kd = 3 ∨ kd = 6
      · rw [if_pos h23] at h
        simp only [if_pos h23]
        by_cases hc : na ≤ F.2.2.1.length ∧ ai_sum (F.2.2.1.drop na) ≤ 8
        · rw [if_pos hc] at h
          obtain ⟨G, e1, e2⟩ := hb _ _ _ _ _ kd h
          exact ⟨G, e1, fun go hg => ⟨hk, hc.1, hc.2, e2 go hg⟩⟩
        · rw [if_neg hc] at h; cases h
      · rw [if_neg h23] at h
        simp only [if_neg h23]
        split at h
        · rename_i a rest hs
          by_cases hc : na ≤ F.2.2.1.length ∧ ai_sum rest ≤ 8 ∧ (ai_obj F.2.2.2 a ci).isSome = true
          · rw [if_pos hc] at h
            obtain ⟨G, e1, e2⟩ := hb _ _ _ _ _ kd h
            obtain ⟨fs, hfs⟩ := Option.isSome_iff_exists.mp hc.2.2
            exact ⟨G, e1, fun go hg => ⟨hk, by (try simp only [hs]); exact ⟨hc.1, hc.2.1, ⟨fs, hfs⟩, e2 go hg⟩⟩⟩
          · rw [if_neg hc] at h; cases h
        · cases h
    · rw [if_neg hk] at h; cases h
set_option maxHeartbeats 2000000 in
theorem ai_oneF_ok {F : ai_F} {r : ai_F ⊕ ai_O} (h99 : ai_oi M ≠ 99) (hr : ∀ mi as S o, rF mi as S = some o → run mi as S o) (h : ai_oneF M rF F = some r) : (∃ G, r = .inl G ∧ ∀ (go : ai_F → Prop) (Q : ai_O → Prop), go G → ai_one L xs M (fun mi as S Q => ∃ o, run mi as S o ∧ Q o) go Q F) ∨ (∃ o, r = .inr o ∧ ∀ (go : ai_F → Prop) (Q : ai_O → Prop), Q o → ai_one L xs M (fun mi as S Q => ∃ o, run mi as S o ∧ Q o) go Q F) := by
  unfold ai_oneF at h
  unfold ai_one
  cases ha : ai_at M F.1 with
  | none => rw [ha] at h; cases h
  | some q =>
    obtain ⟨i, len⟩ := q
    rw [ha] at h
    cases i
    case goto off => cases h; exact Or.inl ⟨_, rfl, fun go Q hg => hg⟩
    case ifCond c off =>
      simp only at h ⊢
      split at h
      · rename_i x rr hs
        by_cases hc : ai_cmpB c x 0 = true
        · rw [if_pos hc] at h; cases h
          exact Or.inl ⟨_, rfl, fun go Q hg => by (try simp only [hs]); exact ⟨fun _ => hg, fun z => absurd ((ai_cmpB_ok ..).mp hc) z⟩⟩
        · rw [if_neg hc] at h; cases h
          exact Or.inl ⟨_, rfl, fun go Q hg => by (try simp only [hs]); exact ⟨fun z => absurd ((ai_cmpB_ok ..).mpr z) hc, fun _ => hg⟩⟩
      · cases h
    case if_icmp c off =>
      simp only at h ⊢
      split at h
      · rename_i y x rr hs
        by_cases hc : ai_cmpB c x y = true
        · rw [if_pos hc] at h; cases h
          exact Or.inl ⟨_, rfl, fun go Q hg => by (try simp only [hs]); exact ⟨fun _ => hg, fun z => absurd ((ai_cmpB_ok ..).mp hc) z⟩⟩
        · rw [if_neg hc] at h; cases h
          exact Or.inl ⟨_, rfl, fun go Q hg => by (try simp only [hs]); exact ⟨fun z => absurd ((ai_cmpB_ok ..).mpr z) hc, fun _ => hg⟩⟩
      · cases h
    case tableswitch => cases h
    case invokevirtual x =>
      obtain ⟨G, e1, e2⟩ := ai_invF_ok hr h
      exact Or.inl ⟨G, e1, fun go Q hg => e2 go hg⟩
    case invokestatic x =>
      simp only at h ⊢
      by_cases hx : ai_isCpy (ai_oi M) x = true
      · rw [if_pos hx] at h; cases h
      · rw [if_neg hx] at h
        simp only [if_neg hx]
        obtain ⟨G, e1, e2⟩ := ai_invF_ok hr h
        exact Or.inl ⟨G, e1, fun go Q hg => e2 go hg⟩
    case invokespecial x =>
      simp only at h ⊢
      by_cases hx : ai_isObj (ai_oi M) x = true
      · rw [if_pos hx] at h
        simp only [if_pos hx]
        split at h
        · rename_i a rr hs
          by_cases hc : ai_sum rr ≤ 8
          · rw [if_pos hc] at h; cases h
            exact Or.inl ⟨_, rfl, fun go Q hg => by (try simp only [hs]); exact ⟨hc, hg⟩⟩
          · rw [if_neg hc] at h; cases h
        · cases h
      · rw [if_neg hx] at h
        simp only [if_neg hx]
        obtain ⟨G, e1, e2⟩ := ai_invF_ok hr h
        exact Or.inl ⟨G, e1, fun go Q hg => e2 go hg⟩
    case ireturn =>
      simp only at h ⊢
      split at h
      · rename_i v hs
        split at h
        · rename_i ty hty
          by_cases hc : narrow ty (.int v) = .int v
          · rw [if_pos hc] at h; cases h
            exact Or.inr ⟨_, rfl, fun go Q hq => by (try simp only [hs]); exact ⟨⟨ty, hty, hc⟩, hq⟩⟩
          · rw [if_neg hc] at h; cases h
        · cases h
      · cases h
    case return_ =>
      simp only at h ⊢
      split at h
      · rename_i hs
        split at h
        · rename_i hty
          cases h
          exact Or.inr ⟨_, rfl, fun go Q hq => ⟨hs, hty, hq⟩⟩
        · cases h
      · cases h
    all_goals
      simp only at h ⊢
      split at h
      · rename_i E hE
        by_cases hc : ai_sum F.2.2.1 ≤ 8
        · rw [if_pos hc] at h
          cases h
          exact Or.inr ⟨_, rfl, fun go Q hq => by (try simp only [hE]); exact ⟨hc, hq⟩⟩
        · rw [if_neg hc] at h; cases h
      · rename_i hE
        split at h
        · rename_i G hG
          cases h
          rw [ai_step_free (L := L) (xs := xs) h99] at hG
          refine Or.inl ⟨G, rfl, fun go Q hg => ?_⟩
          try simp only [hE, hG]
          exact hg
        · cases h
theorem ai_loopF_ok (h99 : ai_oi M ≠ 99) (hr : ∀ mi as S o, rF mi as S = some o → run mi as S o) : ∀ (n : Nat) (F : ai_F) (o : ai_O), ai_loopF M rF n F = some o → ai_wp L xs M (fun mi as S Q => ∃ o, run mi as S o ∧ Q o) (fun x => x = o) n F := by
  intro n
  induction n with
  | zero => intro F o h; cases h
  | succ n ih =>
    intro F o h
    unfold ai_loopF at h
    cases ho : ai_oneF M rF F with
    | none => rw [ho] at h; cases h
    | some r =>
      rw [ho] at h
      rcases ai_oneF_ok (L := L) (xs := xs) h99 hr ho with ⟨G, rfl, e2⟩ | ⟨o', rfl, e2⟩
      · exact e2 _ _ (ih G o h)
      · cases h
        exact e2 _ _ rfl
theorem ai_runF_ok {f : Nat} : ∀ (d mi : Nat) (as : List Value) (S : ai_S) (o : ai_O), ai_runF f d mi as S = some o → ai_run L xs d mi as S o := by
  intro d
  induction d with
  | zero => intro mi as S o h; cases h
  | succ d ih =>
    intro mi as S o h
    unfold ai_runF at h
    cases hM : ai_MT[mi]? with
    | none => rw [hM] at h; cases h
    | some M =>
      rw [hM] at h
      simp only at h
      by_cases hc : ai_oi M = 99 ∨ ¬ (ai_ent as).length ≤ ai_nL M
      · rw [if_pos hc] at h; cases h
      · rw [if_neg hc] at h
        have h99 : ai_oi M ≠ 99 := fun z => hc (Or.inl z)
        have hle : (ai_ent as).length ≤ ai_nL M := Classical.byContradiction fun z => hc (Or.inr z)
        exact ⟨M, f, hM, h99, hle, ai_loopF_ok h99 ih f _ o h⟩
end AIR

/-! Closed calls, by computation. -/
section CK
variable {L : Nat} {xs : Nat → Int32}
def ck_rn (mi : Nat) (as : List Value) (S : ai_S) (k : Option Value → ai_S → Bool) : Bool := match ai_runF 4000 12 mi as S with
  | some (.inl v, S') => k v S'
  | _ => false
theorem ck_rn_ok {mi : Nat} {as : List Value} {S : ai_S} {k : Option Value → ai_S → Bool} (h : ck_rn mi as S k = true) : ai_rn L xs 12 mi as S (fun v S' => k v S' = true) := by
  unfold ck_rn at h
  split at h
  · rename_i v S' he
    exact ⟨v, S', ai_runF_ok 12 mi as S _ he, h⟩
  · cases h
def ck_prs (S : ai_S) : Bool := (ai_obj S 0 0).isSome && (ai_obj S 432 11).isSome && (match ai_arrJ S 452 3 with
  | some q => decide (q.1 = 1)
  | none => false)
theorem ck_prs_ok {S : ai_S} (h : ck_prs S = true) : ai_prs S := by
  unfold ck_prs at h
  simp only [Bool.and_eq_true] at h
  obtain ⟨⟨h1, h2⟩, h3⟩ := h
  refine ⟨Option.isSome_iff_exists.mp h1, Option.isSome_iff_exists.mp h2, ?_⟩
  split at h3
  · rename_i q hq
    obtain ⟨n, f⟩ := q
    have : n = 1 := by simpa using h3
    subst this
    exact ⟨f, hq⟩
  · cases h3
def ck_rm (S : ai_S) : Bool := decide (S.2.1 ≤ 600000) && decide (S.2.2.1 ≤ 7200000)
def p1_rm (S : ai_S) : Prop := S.2.1 ≤ 600000 ∧ S.2.2.1 ≤ 7200000
theorem ck_rm_ok {S : ai_S} (h : ck_rm S = true) : p1_rm S := by
  unfold ck_rm at h
  unfold p1_rm
  simpa using h
def ck_out (S : ai_S) (k b : Int32) : Bool := !decide (k = 0) || (match ai_arrJ S 452 3 with
  | some q => decide (q.1 = 1) && decide (q.2 0 = b.toInt64)
  | none => false)
theorem ck_out_ok {S : ai_S} {k b : Int32} (h : ck_out S k b = true) : k = 0 → ∃ f, ai_arrJ S 452 3 = some (1, f) ∧ f 0 = b.toInt64 := by
  intro hk
  unfold ck_out at h
  rw [hk] at h
  simp only [decide_true, Bool.not_true, Bool.false_or] at h
  split at h
  · rename_i q hq
    obtain ⟨n, f⟩ := q
    simp only [Bool.and_eq_true, decide_eq_true_eq] at h
    obtain ⟨h1, h2⟩ := h
    subst h1
    exact ⟨f, hq, h2⟩
  · cases h
def ck_eT (v w u : Option Value) (S : ai_S) : Bool := match v, w, u with
  | some (.int k), some (.int b), some (.int k') => decide (k' = k) && ck_out S k b && ck_rm S
  | _, _, _ => false
def ck_eD (v w u : Option Value) (S : ai_S) : Bool := match v, w, u with
  | some (.int k), none, some (.int k') => decide (k' = k) && ck_rm S
  | _, _, _ => false
def ck_eV (v w : Option Value) (S : ai_S) : Bool := match v, w with
  | some (.int k), some (.int k') => decide (k' = k) && ck_rm S
  | _, _ => false
def ck_eN (v w : Option Value) (S : ai_S) : Bool := match v, w with
  | none, none => ck_rm S
  | _, _ => false
def ck_opT (h m : Nat) (ha ma : List Value) (S : ai_S) : Bool := ck_rn h ha S fun v S1 => ck_prs S1 && ck_rn m ma S1 fun w S2 => ck_prs S2 && ck_rn 97 [.ref 432] S2 fun u S3 => ck_prs S3 && ck_eT v w u S3
def ck_opD (ha ma : List Value) (S : ai_S) : Bool := ck_rn 91 ha S fun v S1 => ck_prs S1 && ck_rn 98 ma S1 fun w S2 => ck_prs S2 && ck_rn 97 [.ref 432] S2 fun u S3 => ck_prs S3 && ck_eD v w u S3
def ck_opV (c m : Nat) (ca ma : List Value) (S : ai_S) : Bool := ck_rn c ca S fun v S1 => ck_prs S1 && ck_rn m ma S1 fun w S2 => ck_prs S2 && ck_eV v w S2
def ck_opN (c m : Nat) (ca ma : List Value) (S : ai_S) : Bool := ck_rn c ca S fun v S1 => ck_prs S1 && ck_rn m ma S1 fun w S2 => ck_prs S2 && ck_eN v w S2
theorem ck_opT_ok {h m : Nat} {ha ma : List Value} {S : ai_S} (hc : ck_opT h m ha ma S = true) : ai_opT L xs 12 h m ha ma p1_rm S := by
  refine (ck_rn_ok hc).mono fun v S1 h1 => ?_
  simp only [Bool.and_eq_true] at h1
  refine ⟨ck_prs_ok h1.1, (ck_rn_ok h1.2).mono fun w S2 h2 => ?_⟩
  simp only [Bool.and_eq_true] at h2
  refine ⟨ck_prs_ok h2.1, (ck_rn_ok h2.2).mono fun u S3 h3 => ?_⟩
  simp only [Bool.and_eq_true] at h3
  refine ⟨ck_prs_ok h3.1, ?_⟩
  have h4 := h3.2
  unfold ck_eT at h4
  split at h4
  · rename_i k b k'
    simp only [Bool.and_eq_true, decide_eq_true_eq] at h4
    exact ⟨k, b, rfl, rfl, by rw [h4.1.1], ck_out_ok h4.1.2, ck_rm_ok h4.2⟩
  · cases h4
theorem ck_opD_ok {ha ma : List Value} {S : ai_S} (hc : ck_opD ha ma S = true) : ai_opD L xs 12 ha ma p1_rm S := by
  refine (ck_rn_ok hc).mono fun v S1 h1 => ?_
  simp only [Bool.and_eq_true] at h1
  refine ⟨ck_prs_ok h1.1, (ck_rn_ok h1.2).mono fun w S2 h2 => ?_⟩
  simp only [Bool.and_eq_true] at h2
  refine ⟨ck_prs_ok h2.1, (ck_rn_ok h2.2).mono fun u S3 h3 => ?_⟩
  simp only [Bool.and_eq_true] at h3
  refine ⟨ck_prs_ok h3.1, ?_⟩
  have h4 := h3.2
  unfold ck_eD at h4
  split at h4
  · rename_i k k'
    simp only [Bool.and_eq_true, decide_eq_true_eq] at h4
    exact ⟨k, rfl, rfl, by rw [h4.1], ck_rm_ok h4.2⟩
  · cases h4
theorem ck_opV_ok {c m : Nat} {ca ma : List Value} {S : ai_S} (hc : ck_opV c m ca ma S = true) : ai_opV L xs 12 c m ca ma p1_rm S := by
  refine (ck_rn_ok hc).mono fun v S1 h1 => ?_
  simp only [Bool.and_eq_true] at h1
  refine ⟨ck_prs_ok h1.1, (ck_rn_ok h1.2).mono fun w S2 h2 => ?_⟩
  simp only [Bool.and_eq_true] at h2
  refine ⟨ck_prs_ok h2.1, ?_⟩
  have h4 := h2.2
  unfold ck_eV at h4
  split at h4
  · rename_i k k'
    simp only [Bool.and_eq_true, decide_eq_true_eq] at h4
    exact ⟨k, rfl, by rw [h4.1], ck_rm_ok h4.2⟩
  · cases h4
theorem ck_opN_ok {c m : Nat} {ca ma : List Value} {S : ai_S} (hc : ck_opN c m ca ma S = true) : ai_opN L xs 12 c m ca ma p1_rm S := by
  refine (ck_rn_ok hc).mono fun v S1 h1 => ?_
  simp only [Bool.and_eq_true] at h1
  refine ⟨ck_prs_ok h1.1, (ck_rn_ok h1.2).mono fun w S2 h2 => ?_⟩
  simp only [Bool.and_eq_true] at h2
  refine ⟨ck_prs_ok h2.1, ?_⟩
  have h4 := h2.2
  unfold ck_eN at h4
  split at h4
  · exact ⟨rfl, rfl, ck_rm_ok h4⟩
  · cases h4
/-- the calls on a fresh object whose arguments are closed -/
def ck_all (S : ai_S) : Bool := ck_opN 2 102 [.ref 0] [.ref 432] S && ck_opT 92 104 [.ref 0, .ref 452] [.ref 432] S && ((List.range 21).all fun n => ck_opT 93 112 [.ref 0, .int (Int32.ofNat n), .ref 452] [.ref 432, .int (Int32.ofNat n)] S) && ck_opV 3 148 [.ref 0] [.ref 432] S && ck_opV 4 149 [.ref 0] [.ref 432] S && ck_opV 5 150 [.ref 0] [.ref 432] S && ck_opT 94 155 [.ref 0, .ref 452] [.ref 432] S && ck_opT 95 156 [.ref 0, .ref 452] [.ref 432] S && ck_opN 9 157 [.ref 0] [.ref 432] S && ((List.range 8).all fun i => (List.range 3).all fun j => ck_opD [.ref 0, .int (Int32.ofNat (97 + i)), .int (Int32.ofNat j)] [.ref 432, .int (Int32.ofNat (97 + i)), .int (Int32.ofNat j)] S)
set_option maxRecDepth 1000000 in
set_option maxHeartbeats 0 in
theorem ck_fresh : (match ai_pre with
  | some q => ck_all (ai_last q.2)
  | none => false) = true := by decide +kernel
end CK

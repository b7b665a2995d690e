/-! The abstract machine's steps are steps of the real one. -/
def ai_tys (dA : Nat → ClassId) : List (ClassId × FieldType) := [(dA 0, .int), (dA 1, .char), (dA 2, .boolean), (dA 3, .long), (dA 4, .object ai_pairN)]
/-- what the tables say: the kinds, the arrays, the links between nest mates -/
def ai_K (D : va_G) (dA : Nat → ClassId) (U : State) : Prop := va_K D ai_cl (ai_tys dA) U ∧ (∀ w ∈ ai_nw, va_Nw w U) ∧ va_AO ai_pairN U
section AIS
variable {p : Program} {l : Launch} {e : Env} {R : Room} {s : State} {m : MethodId} {args : Array Value} {below : List Frame} {meth : Method} {c : Code} {Q : State → Prop}
variable {D : va_G} {dA : Nat → ClassId} {sc b k0 s0 : Nat} {M : ai_M} {pc : Nat} {lv lv' : ai_L} {st st' : List Value} {S S' : ai_S} {i : Instr}
/-- the method that runs -/
def ai_X (p : Program) (s : State) (m : MethodId) (args : Array Value) (meth : Method) (c : Code) (M : ai_M) : Prop :=
  p.tables.exec = Jvm.exec ∧ c.code = ai_cc M ∧ c.maxLocals = ai_nL M ∧ s.vm.findClass (ai_own (ai_oi M)) = some m.cls ∧ (∀ w ∈ ai_ws, w.before args s = true) ∧ meth.sig.returnType = ai_ret M ∧ meth.locks = false ∧ (ai_oi M ≠ 99 → meth.name = (ai_y M).name) ∧ (ai_oi M ≠ 99 → c.exceptionTable.toList.map (fun h => (h.startPc, h.endPc, h.handlerPc, h.catchType)) = (ai_ex M).map (fun h => (h.1, h.2.1, h.2.2.1, h.2.2.2.1)))
/-- from that frame, in every heap that holds its cells, the real machine comes to Q -/
def ai_G (p : Program) (l : Launch) (e : Env) (R : Room) (s : State) (m : MethodId) (args : Array Value) (below : List Frame) (meth : Method) (c : Code) (Q : State → Prop) (D : va_G) (dA : Nat → ClassId) (sc b k0 s0 : Nat) (M : ai_M) (F : ai_F) : Prop :=
  ∀ (H : Heap) (ls : Array Slot) (locs : List Loc), ai_LH sc b ls (ai_nL M) F.2.1 → va_P D ai_cl (ai_W dA sc b F.2.2.2.1 F.2.2.2.2.2.2) H → va_S (fun q => b ≤ q) s.heap H locs →
    W p l e R s m args below meth c H locs (F.2.2.2.2.1 - k0) (F.2.2.2.2.2.1 - s0) Q (F0 m F.1 ls (F.2.2.1.map (ai_v sc b)))
theorem ai_1_inv {f : Int32 → Option Value} (h : ai_1 f st = some st') : ∃ x r v, st = .int x :: r ∧ f x = some v ∧ st' = v :: r := by
  unfold ai_1 at h
  split at h
  · rename_i x r
    cases hv : f x with
    | none => rw [hv] at h; cases h
    | some v => rw [hv] at h; cases h; exact ⟨x, r, v, rfl, hv, rfl⟩
  · cases h
theorem ai_1j_inv {f : Int64 → Option Value} (h : ai_1j f st = some st') : ∃ x r v, st = .long x :: r ∧ f x = some v ∧ st' = v :: r := by
  unfold ai_1j at h
  split at h
  · rename_i x r
    cases hv : f x with
    | none => rw [hv] at h; cases h
    | some v => rw [hv] at h; cases h; exact ⟨x, r, v, rfl, hv, rfl⟩
  · cases h
theorem ai_2_inv {f : Int32 → Int32 → Option Value} (h : ai_2 f st = some st') : ∃ x y r v, st = .int y :: .int x :: r ∧ f x y = some v ∧ st' = v :: r := by
  unfold ai_2 at h
  split at h
  · rename_i y x r
    cases hv : f x y with
    | none => rw [hv] at h; cases h
    | some v => rw [hv] at h; cases h; exact ⟨x, y, r, v, rfl, hv, rfl⟩
  · cases h
theorem ai_2j_inv {f : Int64 → Int64 → Option Value} (h : ai_2j f st = some st') : ∃ x y r v, st = .long y :: .long x :: r ∧ f x y = some v ∧ st' = v :: r := by
  unfold ai_2j at h
  split at h
  · rename_i y x r
    cases hv : f x y with
    | none => rw [hv] at h; cases h
    | some v => rw [hv] at h; cases h; exact ⟨x, y, r, v, rfl, hv, rfl⟩
  · cases h
theorem ai_2ji_inv {f : Int64 → Int32 → Option Value} (h : ai_2ji f st = some st') : ∃ x y r v, st = .int y :: .long x :: r ∧ f x y = some v ∧ st' = v :: r := by
  unfold ai_2ji at h
  split at h
  · rename_i y x r
    cases hv : f x y with
    | none => rw [hv] at h; cases h
    | some v => rw [hv] at h; cases h; exact ⟨x, y, r, v, rfl, hv, rfl⟩
  · cases h
theorem ai_pure_W (X : ai_X p s m args meth c M) (hd : decode (ai_cc M) pc = .ok (i, ai_len i)) (h : ai_pure i st = some st')
    (k : ai_G p l e R s m args below meth c Q D dA sc b k0 s0 M (pc + ai_len i, lv, st', S)) : ai_G p l e R s m args below meth c Q D dA sc b k0 s0 M (pc, lv, st, S) := by
  obtain ⟨hx, hb, -⟩ := X
  intro H ls locs hl hP hS
  have kk := k H ls locs hl hP hS
  clear k
  cases i with
  | iconst n => cases h; exact lv_iconst hx hb hd rfl kk
  | bipush n => cases h; exact lv_bipush hx hb hd rfl kk
  | sipush n => cases h; exact lv_sipush hx hb hd rfl kk
  | lconst n => cases h; exact lv_lconst hx hb hd rfl kk
  | iadd => obtain ⟨x, y, r, v, rfl, hv, rfl⟩ := ai_2_inv h; cases hv; exact lv_iadd hx hb hd kk
  | isub => obtain ⟨x, y, r, v, rfl, hv, rfl⟩ := ai_2_inv h; cases hv; exact lv_isub hx hb hd kk
  | imul => obtain ⟨x, y, r, v, rfl, hv, rfl⟩ := ai_2_inv h; cases hv; exact lv_imul hx hb hd kk
  | iand => obtain ⟨x, y, r, v, rfl, hv, rfl⟩ := ai_2_inv h; cases hv; exact lv_iand hx hb hd kk
  | idiv =>
    obtain ⟨x, y, r, v, rfl, hv, rfl⟩ := ai_2_inv h
    by_cases hy : y = 0
    · rw [if_pos hy] at hv; cases hv
    · rw [if_neg hy] at hv; cases hv; exact lv_idiv hx hb hd hy kk
  | irem =>
    obtain ⟨x, y, r, v, rfl, hv, rfl⟩ := ai_2_inv h
    by_cases hy : y = 0
    · rw [if_pos hy] at hv; cases hv
    · rw [if_neg hy] at hv; cases hv; exact lv_irem hx hb hd hy kk
  | ineg => obtain ⟨x, r, v, rfl, hv, rfl⟩ := ai_1_inv h; cases hv; exact lv_ineg hx hb hd kk
  | land => obtain ⟨x, y, r, v, rfl, hv, rfl⟩ := ai_2j_inv h; cases hv; exact lv_land hx hb hd kk
  | lor => obtain ⟨x, y, r, v, rfl, hv, rfl⟩ := ai_2j_inv h; cases hv; exact lv_lor hx hb hd kk
  | lcmp => obtain ⟨x, y, r, v, rfl, hv, rfl⟩ := ai_2j_inv h; cases hv; exact W.lcmp hx hb hd kk
  | lshl => obtain ⟨x, y, r, v, rfl, hv, rfl⟩ := ai_2ji_inv h; cases hv; exact lv_lshl hx hb hd rfl kk
  | lshr => obtain ⟨x, y, r, v, rfl, hv, rfl⟩ := ai_2ji_inv h; cases hv; exact lv_lshr hx hb hd rfl kk
  | lushr => obtain ⟨x, y, r, v, rfl, hv, rfl⟩ := ai_2ji_inv h; cases hv; exact lv_lushr hx hb hd rfl kk
  | i2l => obtain ⟨x, r, v, rfl, hv, rfl⟩ := ai_1_inv h; cases hv; exact lv_i2l hx hb hd rfl kk
  | l2i => obtain ⟨x, r, v, rfl, hv, rfl⟩ := ai_1j_inv h; cases hv; exact lv_l2i hx hb hd rfl kk
  | i2c => obtain ⟨x, r, v, rfl, hv, rfl⟩ := ai_1_inv h; cases hv; exact lv_i2c hx hb hd rfl kk
  | dup =>
    simp only [ai_pure] at h
    split at h
    · rename_i v r
      by_cases hc : v.category = 1
      · rw [if_pos hc] at h; cases h
        exact lv_dup hx hb hd (by rw [ai_v_cat]; exact hc) kk
      · rw [if_neg hc] at h; cases h
    · cases h
  | dup_x1 =>
    simp only [ai_pure] at h
    split at h
    · rename_i v w r
      by_cases hc : v.category = 1 ∧ w.category = 1
      · rw [if_pos hc] at h; cases h
        exact lv_dup_x1 hx hb hd (by rw [ai_v_cat]; exact hc.1) (by rw [ai_v_cat]; exact hc.2) kk
      · rw [if_neg hc] at h; cases h
    · cases h
  | dup2 =>
    simp only [ai_pure] at h
    split at h
    · rename_i v w r
      by_cases hc : v.category = 1 ∧ w.category = 1
      · rw [if_pos hc] at h; cases h
        exact lv_dup2_11 hx hb hd (by rw [ai_v_cat]; exact hc.1) (by rw [ai_v_cat]; exact hc.2) kk
      · rw [if_neg hc] at h; cases h
    · cases h
  | pop =>
    simp only [ai_pure] at h
    split at h
    · rename_i v r
      by_cases hc : v.category = 1
      · rw [if_pos hc] at h; cases h
        exact lv_pop hx hb hd (by rw [ai_v_cat]; exact hc) kk
      · rw [if_neg hc] at h; cases h
    · cases h
  | _ => exact absurd h (by simp [ai_pure])
theorem ai_st1_inv {j : Nat} {v : Value} (h : ai_st1 lv j v = some lv') : j < lv.length ∧ (j = 0 ∨ ai_isl (lv.getD (j - 1) none) = false) ∧ lv' = lv.set j (some v) := by
  unfold ai_st1 at h
  by_cases hc : j < lv.length ∧ (j = 0 ∨ ai_isl (lv.getD (j - 1) none) = false)
  · rw [if_pos hc] at h; cases h; exact ⟨hc.1, hc.2, rfl⟩
  · rw [if_neg hc] at h; cases h
theorem ai_ldI {j : Nat} (h : ((ai_ld lv j).bind fun v => if ai_isI v then some (lv, v :: st) else none) = some (lv', st')) : ∃ x, ai_ld lv j = some (.int x) ∧ lv' = lv ∧ st' = .int x :: st := by
  cases hv : ai_ld lv j with
  | none => rw [hv] at h; cases h
  | some v =>
    rw [hv] at h
    cases v <;> simp [ai_isI] at h
    obtain ⟨rfl, rfl⟩ := h
    exact ⟨_, rfl, rfl, rfl⟩
theorem ai_ldJ {j : Nat} (h : ((ai_ld lv j).bind fun v => if ai_isJ v then some (lv, v :: st) else none) = some (lv', st')) : ∃ x, ai_ld lv j = some (.long x) ∧ lv' = lv ∧ st' = .long x :: st := by
  cases hv : ai_ld lv j with
  | none => rw [hv] at h; cases h
  | some v =>
    rw [hv] at h
    cases v <;> simp [ai_isJ] at h
    obtain ⟨rfl, rfl⟩ := h
    exact ⟨_, rfl, rfl, rfl⟩
theorem ai_ldA {j : Nat} (h : ((ai_ld lv j).bind fun v => if ai_isA v then some (lv, v :: st) else none) = some (lv', st')) : ∃ v, ai_ld lv j = some v ∧ ((∃ x, v = .ref x) ∨ v = .null ∨ ∃ x, v = .retAddr x) ∧ lv' = lv ∧ st' = v :: st := by
  cases hv : ai_ld lv j with
  | none => rw [hv] at h; cases h
  | some v =>
    rw [hv] at h
    cases v <;> simp [ai_isA] at h
    · obtain ⟨rfl, rfl⟩ := h
      exact ⟨_, rfl, Or.inr (Or.inl rfl), rfl, rfl⟩
    · obtain ⟨rfl, rfl⟩ := h
      exact ⟨_, rfl, Or.inl ⟨_, rfl⟩, rfl, rfl⟩
    · obtain ⟨rfl, rfl⟩ := h
      exact ⟨_, rfl, Or.inr (Or.inr ⟨_, rfl⟩), rfl, rfl⟩
theorem ai_loc_W (X : ai_X p s m args meth c M) (hd : decode (ai_cc M) pc = .ok (i, ai_len i)) (h : ai_loc i lv st = some (lv', st'))
    (k : ai_G p l e R s m args below meth c Q D dA sc b k0 s0 M (pc + ai_len i, lv', st', S)) : ai_G p l e R s m args below meth c Q D dA sc b k0 s0 M (pc, lv, st, S) := by
  obtain ⟨hx, hb, -⟩ := X
  intro H ls locs hl hP hS
  have hn : lv.length = ai_nL M := hl.2.2.1
  cases i with
  | iload_n j => obtain ⟨x, h1, rfl, rfl⟩ := ai_ldI h; exact lv_iload_n hx hb hd rfl (hl.at h1) (k H ls locs hl hP hS)
  | iload j => obtain ⟨x, h1, rfl, rfl⟩ := ai_ldI h; exact lv_iload hx hb hd (hl.at h1) (k H ls locs hl hP hS)
  | lload_n j => obtain ⟨x, h1, rfl, rfl⟩ := ai_ldJ h; exact lv_lload_n hx hb hd rfl (hl.at h1) (k H ls locs hl hP hS)
  | lload j => obtain ⟨x, h1, rfl, rfl⟩ := ai_ldJ h; exact lv_lload hx hb hd (hl.at h1) (k H ls locs hl hP hS)
  | aload_n j =>
    obtain ⟨v, h1, hv, rfl, rfl⟩ := ai_ldA h
    rcases hv with ⟨x, rfl⟩ | rfl | ⟨x, rfl⟩
    · exact lv_aload_n hx hb hd rfl (hl.at h1) (k H ls locs hl hP hS)
    · exact lv_aload_nN hx hb hd rfl (hl.at h1) (k H ls locs hl hP hS)
    · exact lv_aload_n hx hb hd rfl (hl.at h1) (k H ls locs hl hP hS)
  | aload j =>
    obtain ⟨v, h1, hv, rfl, rfl⟩ := ai_ldA h
    rcases hv with ⟨x, rfl⟩ | rfl | ⟨x, rfl⟩
    · exact lv_aload hx hb hd (hl.at h1) (k H ls locs hl hP hS)
    · exact lv_aloadN hx hb hd (hl.at h1) (k H ls locs hl hP hS)
    · exact lv_aload hx hb hd (hl.at h1) (k H ls locs hl hP hS)
  | istore_n j =>
    simp only [ai_loc] at h
    split at h
    · rename_i x r
      cases hs : ai_st1 lv j (.int x) with
      | none => rw [hs] at h; cases h
      | some q =>
        rw [hs] at h; cases h
        obtain ⟨g1, g2, rfl⟩ := ai_st1_inv hs
        exact lv_istore_n hx hb hd rfl hl.has (by omega) rfl (fun ls' hl' => k H ls' locs (ai_LH.st hn (by omega) g2 (fun v hv => by cases hv; rfl) hl') hP hS)
    · cases h
  | istore j =>
    simp only [ai_loc] at h
    split at h
    · rename_i x r
      cases hs : ai_st1 lv j (.int x) with
      | none => rw [hs] at h; cases h
      | some q =>
        rw [hs] at h; cases h
        obtain ⟨g1, g2, rfl⟩ := ai_st1_inv hs
        exact lv_istore hx hb hd hl.has (by omega) rfl (fun ls' hl' => k H ls' locs (ai_LH.st hn (by omega) g2 (fun v hv => by cases hv; rfl) hl') hP hS)
    · cases h
  | astore_n j =>
    simp only [ai_loc] at h
    split at h
    · rename_i x r
      cases hs : ai_st1 lv j (.ref x) with
      | none => rw [hs] at h; cases h
      | some q =>
        rw [hs] at h; cases h
        obtain ⟨g1, g2, rfl⟩ := ai_st1_inv hs
        exact lv_astore_n hx hb hd rfl hl.has (by omega) rfl (fun ls' hl' => k H ls' locs (ai_LH.st hn (by omega) g2 (fun v hv => by cases hv; rfl) hl') hP hS)
    · cases h
  | astore j =>
    simp only [ai_loc] at h
    split at h
    · rename_i x r
      cases hs : ai_st1 lv j (.ref x) with
      | none => rw [hs] at h; cases h
      | some q =>
        rw [hs] at h; cases h
        obtain ⟨g1, g2, rfl⟩ := ai_st1_inv hs
        exact lv_astore hx hb hd hl.has (by omega) rfl (fun ls' hl' => k H ls' locs (ai_LH.st hn (by omega) g2 (fun v hv => by cases hv; rfl) hl') hP hS)
    · cases h
  | iinc j n =>
    simp only [ai_loc] at h
    split at h
    · rename_i x hx1
      cases hs : ai_st1 lv j (.int (x + Int32.ofInt n)) with
      | none => rw [hs] at h; cases h
      | some q =>
        rw [hs] at h; cases h
        obtain ⟨g1, g2, rfl⟩ := ai_st1_inv hs
        have hm : (j, Value.int x) ∈ ai_ll sc b lv := ai_ll_mem.mpr ⟨.int x, by
          unfold ai_ld at hx1
          rw [List.getD_eq_getElem?_getD, List.getElem?_eq_getElem g1] at hx1
          rw [List.getElem?_eq_getElem g1]
          exact congrArg some hx1, rfl⟩
        obtain ⟨kk, hkk⟩ := List.getElem?_of_mem hm
        exact lv_iinc hx hb hd hl.has hkk rfl (by omega) rfl (fun ls' hl' => k H ls' locs (ai_LH.st hn (by omega) g2 (fun v hv => by cases hv; rfl) hl') hP hS)
    · cases h
  | _ => exact absurd h (by simp [ai_loc])
theorem ai_arr_inv {a t n : Nat} {f : Nat → Int32} (h : ai_arr S a t = some (n, f)) : a < S.1 ∧ S.2.2.2 a = .inl (t, n, .inl f) := by
  unfold ai_arr at h
  split at h
  · rename_i ha
    split at h
    · rename_i t' n' f' he
      by_cases ht : t' = t
      · rw [if_pos ht] at h; cases h; rw [← ht]; exact ⟨ha, he⟩
      · rw [if_neg ht] at h; cases h
    · cases h
  · cases h
theorem ai_arrJ_inv {a t n : Nat} {f : Nat → Int64} (h : ai_arrJ S a t = some (n, f)) : a < S.1 ∧ S.2.2.2 a = .inl (t, n, .inr (.inl f)) := by
  unfold ai_arrJ at h
  split at h
  · rename_i ha
    split at h
    · rename_i t' n' f' he
      by_cases ht : t' = t
      · rw [if_pos ht] at h; cases h; rw [← ht]; exact ⟨ha, he⟩
      · rw [if_neg ht] at h; cases h
    · cases h
  · cases h
theorem ai_arrA_inv {a t n : Nat} {f : Nat → Option Nat} (h : ai_arrA S a t = some (n, f)) : a < S.1 ∧ S.2.2.2 a = .inl (t, n, .inr (.inr (.inr (.inr f)))) := by
  unfold ai_arrA at h
  split at h
  · rename_i ha
    split at h
    · rename_i t' n' f' he
      by_cases ht : t' = t
      · rw [if_pos ht] at h; cases h; rw [← ht]; exact ⟨ha, he⟩
      · rw [if_neg ht] at h; cases h
    · cases h
  · cases h
theorem ai_obj_inv {a t : Nat} {fs : List Value} (h : ai_obj S a t = some fs) : a < S.1 ∧ S.2.2.2 a = .inr (t, fs) := by
  unfold ai_obj at h
  split at h
  · rename_i ha
    split at h
    · rename_i t' fs' he
      by_cases ht : t' = t
      · rw [if_pos ht] at h; cases h; rw [← ht]; exact ⟨ha, he⟩
      · rw [if_neg ht] at h; cases h
    · cases h
  · cases h
theorem ai_ws_at {a n : Nat} {h : Nat → ai_C} {x : ai_C} (ha : a < n) (hx : h a = x) : (ai_W dA sc b n h)[a]? = some (b + a, ai_e dA sc b x) := by
  rw [ai_W_get ha, hx]
/-- the size of the heap, as the room has it -/
theorem ai_size {H : Heap} {locs : List Loc} {cells slots : Nat} {g : JFrame} (h : H.size ≤ s.heap.size + cells → W p l e R s m args below meth c H locs cells slots Q g) : W p l e R s m args below meth c H locs cells slots Q g := by
  intro T hT Y
  exact h (by rw [← hT]; exact Y.heapSize) T hT Y
theorem ai_ldx_inv {t : Nat} (h : ai_ldx t st S = some (st', S')) : ∃ j a r n f, st = .int j :: .ref a :: r ∧ ai_arr S a t = some (n, f) ∧ vp_in j n ∧ st' = .int (f j.toNatClampNeg) :: r ∧ S' = S := by
  unfold ai_ldx at h
  split at h
  · rename_i j a r
    cases ha : ai_arr S a t with
    | none => rw [ha] at h; cases h
    | some q =>
      rw [ha] at h
      simp only [Option.bind_some] at h
      by_cases hc : j < 0 ∨ q.1 ≤ j.toNatClampNeg
      · rw [if_pos hc] at h; cases h
      · rw [if_neg hc] at h; cases h
        exact ⟨j, a, r, q.1, q.2, rfl, ha, hc, rfl, rfl⟩
  · cases h
theorem ai_stx_inv {t : Nat} {nar : Int32 → Int32} (h : ai_stx t nar st S = some (st', S')) : ∃ x j a n f, st = .int x :: .int j :: .ref a :: st' ∧ ai_arr S a t = some (n, f) ∧ vp_in j n ∧ S' = ai_wr S a (.inl (t, ai_I n (upd f j.toNatClampNeg (nar x)))) := by
  unfold ai_stx at h
  split at h
  · rename_i x j a r
    cases ha : ai_arr S a t with
    | none => rw [ha] at h; cases h
    | some q =>
      rw [ha] at h
      simp only [Option.bind_some] at h
      by_cases hc : j < 0 ∨ q.1 ≤ j.toNatClampNeg
      · rw [if_pos hc] at h; cases h
      · rw [if_neg hc] at h; cases h
        exact ⟨x, j, a, q.1, q.2, rfl, ha, hc, rfl⟩
  · cases h
theorem ai_up_A {f : Nat → Option Nat} {j v : Nat} : (fun q => (va_up f j (some v) q).map (b + ·)) = va_up (fun q => (f q).map (b + ·)) j (some (b + v)) := by
  funext q
  by_cases hq : q = j
  · subst hq; simp [va_up]
  · simp [va_up, hq]
theorem ai_tys_get {t : Nat} (ht : t < 5) : ∃ ty, (ai_tys dA)[t]? = some (dA t, ty) := by
  match t, ht with
  | 0, _ => exact ⟨_, rfl⟩
  | 1, _ => exact ⟨_, rfl⟩
  | 2, _ => exact ⟨_, rfl⟩
  | 3, _ => exact ⟨_, rfl⟩
  | 4, _ => exact ⟨_, rfl⟩
theorem ai_va_len {a : vp_A} : (ai_va b a).1 = a.1 := by
  obtain ⟨n, f⟩ := a
  rcases f with f | f | f | f | f <;> rfl
/-- a new cell, at the heap's end -/
theorem ai_grow {H H' : Heap} {locs : List Loc} {x : ai_C} (hP : va_P D ai_cl (ai_W dA sc b S.1 S.2.2.2) H) (hS : va_S (fun q => b ≤ q) s.heap H locs) (hz : H.size = b + S.1) (z1 : H'.size = b + S.1 + 1) (o1 : ∀ q, q < b + S.1 → H'[q]? = H[q]?) (hx : va_at D ai_cl (b + S.1, ai_e dA sc b x) H') (w : Nat) :
    va_P D ai_cl (ai_W dA sc b (ai_mk S w x).1 (ai_mk S w x).2.2.2) H' ∧ va_S (fun q => b ≤ q) s.heap H' locs := by
  constructor
  · show va_P D ai_cl (ai_W dA sc b (S.1 + 1) (va_up S.2.2.2 S.1 x)) H'
    rw [← ai_W_push]
    have hk : ∀ (k : Nat) (q : Nat × va_E), (ai_W dA sc b S.1 S.2.2.2)[k]? = some q → H'[q.1]? = H[q.1]? := fun k q hq => o1 q.1 (by have := (hP k q hq).lt; omega)
    refine (hP.kept hk).app (fun k q hq => ?_)
    have hz : k < 1 := (List.getElem?_eq_some_iff.mp hq).1
    rw [show k = 0 by omega] at hq
    cases hq
    exact hx
  · exact ⟨Nat.le_trans hS.1 (by omega), fun q h1 h2 => (o1 q (by have := hS.1; omega)).trans (hS.2.1 q h1 h2), hS.2.2⟩
/-- where a cell may be made, the heap ends behind our cells -/
theorem ai_end {H : Heap} {locs : List Loc} (hb0 : b ≤ s.heap.size) (hs0 : s.heap.size ≤ b + k0) (hk : k0 ≤ S.2.1) (he : S.1 = S.2.1) (hP : va_P D ai_cl (ai_W dA sc b S.1 S.2.2.2) H) (hS : va_S (fun q => b ≤ q) s.heap H locs) (hz : H.size ≤ s.heap.size + (S.2.1 - k0)) : H.size = b + S.1 := by
  by_cases hn : 0 < S.1
  · have := ai_P_lt hP hn
    omega
  · have := hS.1
    omega
set_option maxHeartbeats 1000000 in
theorem ai_heap_W (X : ai_X p s m args meth c M) (hK : ai_K D dA s) (hb0 : b ≤ s.heap.size) (hs0 : s.heap.size ≤ b + k0) (hk : k0 ≤ S.2.1) (hsl : s0 ≤ S.2.2.1) (hR : S'.2.1 - k0 ≤ R.cells ∧ S'.2.2.1 - s0 ≤ R.slots)
    (hd : decode (ai_cc M) pc = .ok (i, ai_len i)) (h : ai_heap i st S = some (st', S'))
    (k : ai_G p l e R s m args below meth c Q D dA sc b k0 s0 M (pc + ai_len i, lv, st', S')) : ai_G p l e R s m args below meth c Q D dA sc b k0 s0 M (pc, lv, st, S) := by
  obtain ⟨hx, hb, -, -, hts, -⟩ := X
  intro H ls locs hl hP hS
  have hKv := hK.1
  cases i with
  | iaload =>
    obtain ⟨j, a, r, n, f, rfl, h1, h2, rfl, rfl⟩ := ai_ldx_inv h
    obtain ⟨g1, g2⟩ := ai_arr_inv h1
    exact va_iald hx hb hKv hP a 0 (ai_ws_at g1 g2) rfl h2 hd (k H ls locs hl hP hS)
  | caload =>
    obtain ⟨j, a, r, n, f, rfl, h1, h2, rfl, rfl⟩ := ai_ldx_inv h
    obtain ⟨g1, g2⟩ := ai_arr_inv h1
    exact va_cald hx hb hKv hP a 1 (ai_ws_at g1 g2) rfl h2 hd (k H ls locs hl hP hS)
  | baload =>
    obtain ⟨j, a, r, n, f, rfl, h1, h2, rfl, rfl⟩ := ai_ldx_inv h
    obtain ⟨g1, g2⟩ := ai_arr_inv h1
    exact va_zald hx hb hKv hP a 2 (ai_ws_at g1 g2) rfl h2 hd (k H ls locs hl hP hS)
  | iastore =>
    obtain ⟨x, j, a, n, f, rfl, h1, h2, rfl⟩ := ai_stx_inv h
    obtain ⟨g1, g2⟩ := ai_arr_inv h1
    refine va_iast hx hb hKv hP ai_W_D hS a 0 (ai_ws_at g1 g2) rfl h2 hd (fun H1 locs1 hP1 hD1 hS1 => k H1 ls locs1 hl ?_ hS1)
    have := ai_W_set (dA := dA) (sc := sc) (b := b) (n := S.1) (i := a) (h := S.2.2.2) (x := .inl (0, ai_I n (upd f j.toNatClampNeg x)))
    show va_P D ai_cl (ai_W dA sc b S.1 (va_up S.2.2.2 a _)) H1
    rw [← this]
    exact hP1
  | castore =>
    obtain ⟨x, j, a, n, f, rfl, h1, h2, rfl⟩ := ai_stx_inv h
    obtain ⟨g1, g2⟩ := ai_arr_inv h1
    refine va_cast hx hb hKv hP ai_W_D hS a 1 (ai_ws_at g1 g2) rfl h2 hd (fun H1 locs1 hP1 hD1 hS1 => k H1 ls locs1 hl ?_ hS1)
    have := ai_W_set (dA := dA) (sc := sc) (b := b) (n := S.1) (i := a) (h := S.2.2.2) (x := .inl (1, ai_I n (upd f j.toNatClampNeg (vp_nar .char x))))
    show va_P D ai_cl (ai_W dA sc b S.1 (va_up S.2.2.2 a _)) H1
    rw [← this]
    exact hP1
  | bastore =>
    obtain ⟨x, j, a, n, f, rfl, h1, h2, rfl⟩ := ai_stx_inv h
    obtain ⟨g1, g2⟩ := ai_arr_inv h1
    refine va_zast hx hb hKv hP ai_W_D hS a 2 (ai_ws_at g1 g2) rfl h2 hd (fun H1 locs1 hP1 hD1 hS1 => k H1 ls locs1 hl ?_ hS1)
    have := ai_W_set (dA := dA) (sc := sc) (b := b) (n := S.1) (i := a) (h := S.2.2.2) (x := .inl (2, ai_I n (upd f j.toNatClampNeg (vp_nar .boolean x))))
    show va_P D ai_cl (ai_W dA sc b S.1 (va_up S.2.2.2 a _)) H1
    rw [← this]
    exact hP1
  | laload =>
    simp only [ai_heap] at h
    split at h
    · rename_i j a r
      cases ha : ai_arrJ S a 3 with
      | none => rw [ha] at h; cases h
      | some q =>
        rw [ha] at h
        simp only [Option.bind_some] at h
        by_cases hc : j < 0 ∨ q.1 ≤ j.toNatClampNeg
        · rw [if_pos hc] at h; cases h
        · rw [if_neg hc] at h; cases h
          obtain ⟨g1, g2⟩ := ai_arrJ_inv (n := q.1) (f := q.2) ha
          exact va_lald hx hb hKv hP a 3 (ai_ws_at g1 g2) rfl hc hd (k H ls locs hl hP hS)
    · cases h
  | lastore =>
    simp only [ai_heap] at h
    split at h
    · rename_i x j a r
      cases ha : ai_arrJ S a 3 with
      | none => rw [ha] at h; cases h
      | some q =>
        rw [ha] at h
        simp only [Option.bind_some] at h
        by_cases hc : j < 0 ∨ q.1 ≤ j.toNatClampNeg
        · rw [if_pos hc] at h; cases h
        · rw [if_neg hc] at h; cases h
          obtain ⟨g1, g2⟩ := ai_arrJ_inv (n := q.1) (f := q.2) ha
          refine va_last hx hb hKv hP ai_W_D hS a 3 (ai_ws_at g1 g2) rfl hc hd (fun H1 locs1 hP1 hD1 hS1 => k H1 ls locs1 hl ?_ hS1)
          have := ai_W_set (dA := dA) (sc := sc) (b := b) (n := S.1) (i := a) (h := S.2.2.2) (x := .inl (3, ai_J q.1 (vp_updL q.2 j.toNatClampNeg x)))
          show va_P D ai_cl (ai_W dA sc b S.1 (va_up S.2.2.2 a _)) H1
          rw [← this]
          exact hP1
    · cases h
  | aaload =>
    simp only [ai_heap] at h
    split at h
    · rename_i j a r
      cases ha : ai_arrA S a 4 with
      | none => rw [ha] at h; cases h
      | some q =>
        rw [ha] at h
        simp only [Option.bind_some] at h
        by_cases hc : j < 0 ∨ q.1 ≤ j.toNatClampNeg
        · rw [if_pos hc] at h; cases h
        · rw [if_neg hc] at h
          cases hv : q.2 j.toNatClampNeg with
          | none => rw [hv] at h; cases h
          | some y =>
            rw [hv] at h; cases h
            obtain ⟨g1, g2⟩ := ai_arrA_inv (n := q.1) (f := q.2) ha
            refine va_aldq hx hb hKv hP a 4 (ai_ws_at g1 g2) rfl hc hd ?_
            show W p l e R s m args below meth c H locs _ _ Q (F0 m (pc + 1) ls (va_rf ((q.2 j.toNatClampNeg).map (b + ·)) :: r.map (ai_v sc b)))
            rw [hv]
            exact k H ls locs hl hP hS
    · cases h
  | arraylength =>
    simp only [ai_heap] at h
    split at h
    · rename_i a r
      by_cases ha : a < S.1
      · rw [if_pos ha] at h
        split at h
        · rename_i t q he
          by_cases ht : t < 5
          · rw [if_pos ht] at h; cases h
            obtain ⟨ty, hty⟩ := ai_tys_get (dA := dA) ht
            exact va_alen hx hb hKv hP a t (ai_ws_at ha he) hty (by rw [ai_va_len]) hd (k H ls locs hl hP hS)
          · rw [if_neg ht] at h; cases h
        · cases h
      · rw [if_neg ha] at h; cases h
    · cases h
  | newarray ty =>
    simp only [ai_heap] at h
    split at h
    · rename_i n r
      cases hkd : ai_kind ty with
      | none => rw [hkd] at h; cases h
      | some t =>
        rw [hkd] at h
        simp only [Option.bind_some] at h
        by_cases hc : n < 0 ∨ ¬ S.1 = S.2.1 ∨ 65536 < n.toNatClampNeg
        · rw [if_pos hc] at h; cases h
        · rw [if_neg hc] at h; cases h
          have hc1 : ¬ n < 0 := fun q => hc (Or.inl q)
          have hc2 : S.1 = S.2.1 := Classical.byContradiction fun q => hc (Or.inr (Or.inl q))
          have hc3 : n.toNatClampNeg ≤ 65536 := Nat.not_lt.mp fun q => hc (Or.inr (Or.inr q))
          refine ai_size fun hz => ?_
          have hend := ai_end hb0 hs0 hk hc2 hP hS hz
          have hr1 : S.2.1 + 1 - k0 ≤ R.cells := hR.1
          have hr2 : S.2.2.1 + n.toNatClampNeg - s0 ≤ R.slots := hR.2
          have hby : n.toNatClampNeg * componentBytes (newarray.typeOf ty) ≤ 536870912 := by
            have : componentBytes (newarray.typeOf ty) ≤ 8 := by cases ty <;> decide
            calc n.toNatClampNeg * componentBytes (newarray.typeOf ty) ≤ 65536 * 8 := Nat.mul_le_mul hc3 this
              _ ≤ 536870912 := by decide
          refine va_newaK hx hb (hts _ (ai_arr_ok hkd)) rfl hd rfl hc1 rfl hby (show S.2.1 - k0 + 1 ≤ R.cells by omega) (show S.2.2.1 - s0 + n.toNatClampNeg ≤ R.slots by omega) hend (fun H' cA e1 z1 o1 hAr hNm => ?_)
          have hcA : dA t = cA ∧ vp_cell (dA t) (ai_va b (ai_zero t n.toNatClampNeg)) = arrV (dA t) n.toNatClampNeg (fun _ => defaultValue (newarray.typeOf ty)) := by
            cases ty <;> simp only [ai_kind, Option.some.injEq, reduceCtorEq] at hkd <;> subst hkd
            · exact ⟨Option.some.inj ((hKv.2 2 (dA 2, .boolean) rfl).2.symm.trans hNm), rfl⟩
            · exact ⟨Option.some.inj ((hKv.2 1 (dA 1, .char) rfl).2.symm.trans hNm), rfl⟩
            · exact ⟨Option.some.inj ((hKv.2 0 (dA 0, .int) rfl).2.symm.trans hNm), rfl⟩
            · exact ⟨Option.some.inj ((hKv.2 3 (dA 3, .long) rfl).2.symm.trans hNm), rfl⟩
          obtain ⟨hP1, hS1⟩ := ai_grow (x := .inl (t, ai_zero t n.toNatClampNeg)) hP hS hend z1 (fun q hq => o1 q hq) (by
            show H'[b + S.1]? = some (vp_cell (dA t) (ai_va b (ai_zero t n.toNatClampNeg)))
            rw [hcA.2, hcA.1]
            exact e1) n.toNatClampNeg
          have := k H' ls locs hl hP1 hS1
          have e2 : (ai_mk S n.toNatClampNeg (.inl (t, ai_zero t n.toNatClampNeg))).2.1 - k0 = S.2.1 - k0 + 1 := by
            show S.2.1 + 1 - k0 = _
            omega
          have e3 : (ai_mk S n.toNatClampNeg (.inl (t, ai_zero t n.toNatClampNeg))).2.2.1 - s0 = S.2.2.1 - s0 + n.toNatClampNeg := by
            show S.2.2.1 + n.toNatClampNeg - s0 = _
            omega
          simp only [e2, e3] at this
          exact this
    · cases h
  | _ => exact absurd h (by simp [ai_heap])
theorem ai_fits_ok {ty : FieldType} {v : Value} (h : ai_fits ty v = true) : narrow ty (ai_v sc b v) = ai_v sc b v ∧ fits ty (ai_v sc b v) = true := by
  cases ty <;> cases v <;> simp_all [ai_fits, ai_isI, ai_v, narrow, fits]
theorem ai_dv (ty : FieldType) : ai_v sc b (defaultValue ty) = defaultValue ty := by
  cases ty <;> rfl
theorem ai_blank_ok {ci : Nat} {C : String} {T : u_T} {N : Nat} (hc : ai_cl[ci]? = some (C, T, N)) : ∀ j, j < N → defaultValue (ai_ty ci j) = vp_V ((ai_blank ci).map (ai_v sc b)) j := by
  intro j hj
  have hN : ai_N ci = N := by simp [ai_N, hc]
  simp only [vp_V, ai_blank, hN, List.map_map, List.getD_eq_getElem?_getD, List.getElem?_map, List.getElem?_range hj, Option.map_some, Option.getD_some, Function.comp]
  exact (ai_dv _).symm
set_option maxHeartbeats 1000000 in
theorem ai_fop_W (X : ai_X p s m args meth c M) (hK : ai_K D dA s) (hb0 : b ≤ s.heap.size) (hs0 : s.heap.size ≤ b + k0) (hk : k0 ≤ S.2.1) (hsl : s0 ≤ S.2.2.1) (hR : S'.2.1 - k0 ≤ R.cells ∧ S'.2.2.1 - s0 ≤ R.slots)
    (hd : decode (ai_cc M) pc = .ok (i, ai_len i)) (h : ai_fop M i st S = some (st', S'))
    (k : ai_G p l e R s m args below meth c Q D dA sc b k0 s0 M (pc + ai_len i, lv, st', S')) : ai_G p l e R s m args below meth c Q D dA sc b k0 s0 M (pc, lv, st, S) := by
  obtain ⟨hx, hb, -, hown, hts, -, -, hnm, -⟩ := X
  intro H ls locs hl hP hS
  have hKv := hK.1
  cases i with
  | getfield x =>
    simp only [ai_fop] at h
    cases hf : ai_fld (ai_oi M) x with
    | none => rw [hf] at h; cases h
    | some q =>
      rw [hf] at h
      simp only [Option.bind_some] at h
      split at h
      · rename_i a r
        cases ho : ai_obj S a q.1 with
        | none => rw [ho] at h; cases h
        | some fs =>
          rw [ho] at h
          simp only [Option.bind_some] at h
          cases hv : fs[q.2.1]? with
          | none => rw [hv] at h; cases h
          | some v =>
            rw [hv] at h; cases h
            obtain ⟨g1, g2⟩ := ai_obj_inv ho
            obtain ⟨C, T, N, hc, hkN, hT, hin, hlink⟩ := ai_fld_ok hf
            have hv' : (fs.map (ai_v sc b))[q.2.1]? = some (ai_v sc b v) := by rw [List.getElem?_map, hv]; rfl
            cases hn : q.2.2 with
            | false =>
              rw [hn] at hlink
              exact va_get hx hb hts hin hown hKv hP a (ai_ws_at g1 g2) hc q.2.1 hkN (hts _ hlink) (fun y hy => by rw [hT] at hy; exact hy) hv' hd (k H ls locs hl hP hS)
            | true =>
              rw [hn] at hlink
              exact va_getN hx hb hts hin hown hKv hP a (ai_ws_at g1 g2) hc q.2.1 hkN (va_Nw.use rfl (hK.2.1 _ hlink)) (fun y hy => by rw [hT] at hy; exact hy) hv' hd (k H ls locs hl hP hS)
      · cases h
  | putfield x =>
    simp only [ai_fop] at h
    cases hf : ai_fld (ai_oi M) x with
    | none => rw [hf] at h; cases h
    | some q =>
      rw [hf] at h
      simp only [Option.bind_some] at h
      split at h
      · rename_i v a r
        cases ho : ai_obj S a q.1 with
        | none => rw [ho] at h; cases h
        | some fs =>
          rw [ho] at h
          simp only [Option.bind_some] at h
          by_cases hc3 : q.2.1 < fs.length ∧ ai_fits (ai_ty q.1 q.2.1) v = true ∧ ai_may M q.1 q.2.1 q.2.2 = true
          · rw [if_pos hc3] at h; cases h
            obtain ⟨hlen, hfit, hmay⟩ := hc3
            obtain ⟨g1, g2⟩ := ai_obj_inv ho
            obtain ⟨C, T, N, hc, hkN, hT, hin, hlink⟩ := ai_fld_ok hf
            obtain ⟨hty, hnd⟩ := ai_cl_ok hc
            obtain ⟨f1, f2⟩ := ai_fits_ok (sc := sc) (b := b) hfit
            have hset : (fs.map (ai_v sc b)).set q.2.1 (ai_v sc b v) = (fs.set q.2.1 v).map (ai_v sc b) := by rw [List.map_set]
            have fin : ∀ (H1 : Heap) (locs1 : List Loc), va_P D ai_cl ((ai_W dA sc b S.1 S.2.2.2).set a (b + a, .inr (q.1, (fs.map (ai_v sc b)).set q.2.1 (ai_v sc b v)))) H1 → va_S (fun q => b ≤ q) s.heap H1 locs1 → W p l e R s m args below meth c H1 locs1 (S.2.1 - k0) (S.2.2.1 - s0) Q (F0 m (pc + 3) ls (st'.map (ai_v sc b))) := by
              intro H1 locs1 hP1 hS1
              refine k H1 ls locs1 hl ?_ hS1
              have := ai_W_set (dA := dA) (sc := sc) (b := b) (n := S.1) (i := a) (h := S.2.2.2) (x := .inr (q.1, fs.set q.2.1 v))
              show va_P D ai_cl (ai_W dA sc b S.1 (va_up S.2.2.2 a _)) H1
              rw [← this]
              show va_P D ai_cl ((ai_W dA sc b S.1 S.2.2.2).set a (b + a, .inr (q.1, (fs.set q.2.1 v).map (ai_v sc b)))) H1
              rw [← hset]
              exact hP1
            cases hn : q.2.2 with
            | false =>
              rw [hn] at hlink hmay
              cases hfn : (T q.2.1).2.2.2 with
              | false =>
                exact va_put hx hb hts hin (ai_ty q.1) hty hnd hown hKv hP ai_W_D hS a (ai_ws_at g1 g2) hc q.2.1 hkN (hts _ hlink) (fun y hy => by rw [hT] at hy; exact hy) hfn (hty _ hkN) f1 f2 (by rw [List.length_map]; exact hlen) hd (fun H1 locs1 hP1 _ hS1 => fin H1 locs1 hP1 hS1)
              | true =>
                simp only [ai_may, hc, hfn, if_true, Bool.not_false, Bool.true_and, Bool.and_eq_true, decide_eq_true_eq] at hmay
                exact va_putF hx hb hts hin (ai_ty q.1) hty hnd hown hKv hP ai_W_D hS a (ai_ws_at g1 g2) hc q.2.1 hkN (hts _ hlink) (fun y hy => by rw [hT] at hy; exact hy) hfn ((hnm hmay.2).trans hmay.1.1) (by rw [hT]; exact hmay.1.2.symm) (hty _ hkN) f1 f2 (by rw [List.length_map]; exact hlen) hd (fun H1 locs1 hP1 _ hS1 => fin H1 locs1 hP1 hS1)
            | true =>
              rw [hn] at hlink hmay
              cases hfn : (T q.2.1).2.2.2 with
              | false =>
                exact va_putN hx hb hts hin (ai_ty q.1) hty hnd hown hKv hP ai_W_D hS a (ai_ws_at g1 g2) hc q.2.1 hkN (va_Nw.use rfl (hK.2.1 _ hlink)) (fun y hy => by rw [hT] at hy; exact hy) hfn (hty _ hkN) f1 f2 (by rw [List.length_map]; exact hlen) hd (fun H1 locs1 hP1 _ hS1 => fin H1 locs1 hP1 hS1)
              | true => simp [ai_may, hc, hfn] at hmay
          · rw [if_neg hc3] at h; cases h
      · cases h
  | new x =>
    simp only [ai_fop] at h
    cases hf : ai_new (ai_oi M) x with
    | none => rw [hf] at h; cases h
    | some ci =>
      rw [hf] at h
      simp only [Option.bind_some] at h
      by_cases hc2 : S.1 = S.2.1
      · rw [if_pos hc2] at h; cases h
        obtain ⟨C, T, N, hc, hl1, hl2, hl3⟩ := ai_new_ok hf
        obtain ⟨hty, hnd⟩ := ai_cl_ok hc
        have hin := ai_cl_in hc
        have hN : ai_N ci = N := by simp [ai_N, hc]
        rw [hN] at k hR
        refine ai_size fun hz => ?_
        have hend := ai_end hb0 hs0 hk hc2 hP hS hz
        have hr1 : S.2.1 + 1 - k0 ≤ R.cells := hR.1
        have hr2 : S.2.2.1 + N - s0 ≤ R.slots := hR.2
        have hKn := hKv.1 ci _ hc
        refine W.newcK hx hb hown (hts _ hl1) (hts _ hl2) (hts _ hl3) rfl hd (show S.2.1 - k0 + 1 ≤ R.cells by omega) (show S.2.2.1 - s0 + N ≤ R.slots by omega) hKn.2.1 hend (fun H1 kC hkC e1 z1 o1 => ?_)
        obtain ⟨hP1, hS1⟩ := ai_grow (x := .inr (ci, ai_blank ci)) hP hS hend z1 (fun q hq => o1 q hq) ⟨_, hc, (u_born (ai_ty ci) hts hin hKn hkC e1 hty).to (ai_blank_ok hc)⟩ N
        have := k H1 ls locs hl hP1 hS1
        have e2 : (ai_mk S N (.inr (ci, ai_blank ci))).2.1 - k0 = S.2.1 - k0 + 1 := by
          show S.2.1 + 1 - k0 = _
          omega
        have e3 : (ai_mk S N (.inr (ci, ai_blank ci))).2.2.1 - s0 = S.2.2.1 - s0 + N := by
          show S.2.2.1 + N - s0 = _
          omega
        simp only [e2, e3] at this
        exact this
      · rw [if_neg hc2] at h; cases h
  | anewarray x =>
    simp only [ai_fop] at h
    by_cases hf : ai_anw (ai_oi M) x = true
    · rw [if_pos hf] at h
      split at h
      · rename_i n r
        by_cases hc : n < 0 ∨ ¬ S.1 = S.2.1 ∨ 65536 < n.toNatClampNeg
        · rw [if_pos hc] at h; cases h
        · rw [if_neg hc] at h; cases h
          have hc1 : ¬ n < 0 := fun q => hc (Or.inl q)
          have hc2 : S.1 = S.2.1 := Classical.byContradiction fun q => hc (Or.inr (Or.inl q))
          have hc3 : n.toNatClampNeg ≤ 65536 := Nat.not_lt.mp fun q => hc (Or.inr (Or.inr q))
          refine ai_size fun hz => ?_
          have hend := ai_end hb0 hs0 hk hc2 hP hS hz
          have hr1 : S.2.1 + 1 - k0 ≤ R.cells := hR.1
          have hr2 : S.2.2.1 + n.toNatClampNeg - s0 ≤ R.slots := hR.2
          refine W.anew hx hb hown (hts _ (ai_anw_ok hf)) (va_AO.use hK.2.2) rfl hd rfl hc1 (by omega) (show S.2.1 - k0 + 1 ≤ R.cells by omega) (show S.2.2.1 - s0 + n.toNatClampNeg ≤ R.slots by omega) (fun cA kA comp f1 f2 f3 f4 => ?_)
          have hcA : dA 4 = cA := by
            obtain ⟨kA', comp', -, -, -, q4⟩ := (hKv.2 4 (dA 4, .object ai_pairN) rfl).2
            exact Option.some.inj (q4.symm.trans f1)
          generalize hH1 : H.push ({ cls := cA, slots := Array.replicate n.toNatClampNeg .null, vm := .none } : Cell) = H1
          have z1 : H1.size = b + S.1 + 1 := by rw [← hH1, Array.size_push, hend]
          have e1 : H1[b + S.1]? = some (arrV cA n.toNatClampNeg (fun _ => .null)) := by rw [← hH1, ← hend, Array.getElem?_push_size, ← arrV_new]
          have o1 : ∀ q : Nat, q < b + S.1 → H1[q]? = H[q]? := fun q hq => by rw [← hH1, Array.getElem?_push, if_neg (by omega)]
          obtain ⟨hP1, hS1⟩ := ai_grow (x := .inl (4, ai_A n.toNatClampNeg (fun _ => none))) hP hS hend z1 o1 (by
            show H1[b + S.1]? = some (vp_cell (dA 4) (ai_va b (ai_A n.toNatClampNeg (fun _ => none))))
            rw [hcA, e1]
            rfl) n.toNatClampNeg
          have := k H1 ls locs hl hP1 hS1
          have e2 : (ai_mk S n.toNatClampNeg (.inl (4, ai_A n.toNatClampNeg (fun _ => none)))).2.1 - k0 = S.2.1 - k0 + 1 := by
            show S.2.1 + 1 - k0 = _
            omega
          have e3 : (ai_mk S n.toNatClampNeg (.inl (4, ai_A n.toNatClampNeg (fun _ => none)))).2.2.1 - s0 = S.2.2.1 - s0 + n.toNatClampNeg := by
            show S.2.2.1 + n.toNatClampNeg - s0 = _
            omega
          simp only [e2, e3] at this
          rw [hend]
          exact this
      · cases h
    · rw [if_neg hf] at h; cases h
  | aastore =>
    simp only [ai_fop] at h
    split at h
    · rename_i v j a r
      cases ha : ai_arrA S a 4 with
      | none => rw [ha] at h; cases h
      | some q =>
        rw [ha] at h
        simp only [Option.bind_some] at h
        cases ho : ai_obj S v ai_pair with
        | none => rw [ho] at h; cases h
        | some fs =>
          rw [ho] at h
          simp only [Option.bind_some] at h
          by_cases hc : j < 0 ∨ q.1 ≤ j.toNatClampNeg
          · rw [if_pos hc] at h; cases h
          · rw [if_neg hc] at h; cases h
            obtain ⟨g1, g2⟩ := ai_arrA_inv (n := q.1) (f := q.2) ha
            obtain ⟨g3, g4⟩ := ai_obj_inv ho
            obtain ⟨T, N, hpr⟩ := ai_pair_ok
            refine va_astq (r := (ai_pairN, T, N)) hx hb hKv hP ai_W_D hS a 4 v ai_pair (ai_ws_at g1 g2) rfl (ai_ws_at g3 g4) hpr hc hd (fun H1 locs1 hP1 _ hS1 => k H1 ls locs1 hl ?_ hS1)
            have := ai_W_set (dA := dA) (sc := sc) (b := b) (n := S.1) (i := a) (h := S.2.2.2) (x := .inl (4, ai_A q.1 (va_up q.2 j.toNatClampNeg (some v))))
            show va_P D ai_cl (ai_W dA sc b S.1 (va_up S.2.2.2 a _)) H1
            rw [← this]
            show va_P D ai_cl ((ai_W dA sc b S.1 S.2.2.2).set a (b + a, .inl (dA 4, (q.1, .inr (.inr (.inr (.inr (fun y => (va_up q.2 j.toNatClampNeg (some v) y).map (b + ·))))))))) H1
            rw [ai_up_A]
            exact hP1
    · cases h
  | ldc x =>
    simp only [ai_fop] at h
    cases hf : ai_ldc (ai_oi M) x with
    | none => rw [hf] at h; cases h
    | some v =>
      rw [hf] at h; cases h
      exact lv_ldc hx hb hown (hts _ (ai_ldc_ok hf)) hd (k H ls locs hl hP hS)
  | ldc2_w x =>
    simp only [ai_fop] at h
    cases hf : ai_ldcJ (ai_oi M) x with
    | none => rw [hf] at h; cases h
    | some v =>
      rw [hf] at h; cases h
      exact lv_ldc2 hx hb hown (hts _ (ai_ldcJ_ok hf)) hd (k H ls locs hl hP hS)
  | _ => exact absurd h (by simp [ai_fop])
theorem ai_scr_W {L : Nat} {xs : Nat → Int32} (X : ai_X p s m args meth c M) (hX : ai_oi M = 99 → va_X sc L xs s s.heap ∧ sc < s.heap.size ∧ sc < b)
    (hd : decode (ai_cc M) pc = .ok (i, ai_len i)) (h : ai_scr L xs M i st = some st')
    (k : ai_G p l e R s m args below meth c Q D dA sc b k0 s0 M (pc + ai_len i, lv, st', S)) : ai_G p l e R s m args below meth c Q D dA sc b k0 s0 M (pc, lv, st, S) := by
  obtain ⟨hx, hb, -⟩ := X
  intro H ls locs hl hP hS
  have kk := k H ls locs hl hP hS
  clear k
  unfold ai_scr at h
  by_cases ho : ai_oi M = 99
  · rw [if_pos ho] at h
    obtain ⟨hX1, hX2, hX3⟩ := hX ho
    cases i with
    | iaload =>
      simp only at h
      split at h
      · rename_i j a r
        by_cases hc : j < 0 ∨ L ≤ j.toNatClampNeg
        · rw [if_pos hc] at h; cases h
        · rw [if_neg hc] at h; cases h
          exact va_sld hx hb hX1 hX2 (by show ¬ b ≤ sc; omega) hS hc hd kk
      · cases h
    | arraylength =>
      simp only at h
      split at h
      · cases h
        exact va_slen hx hb hX1 hX2 (by show ¬ b ≤ sc; omega) hS hd kk
      · cases h
    | _ => exact absurd h (by simp)
  · rw [if_neg ho] at h; cases h
/-- one step -/
theorem ai_step_W {L : Nat} {xs : Nat → Int32} {F G : ai_F} (X : ai_X p s m args meth c M) (hK : ai_K D dA s) (hX : ai_oi M = 99 → va_X sc L xs s s.heap ∧ sc < s.heap.size ∧ sc < b) (hb0 : b ≤ s.heap.size) (hs0 : s.heap.size ≤ b + k0) (hk : k0 ≤ F.2.2.2.2.1) (hsl : s0 ≤ F.2.2.2.2.2.1) (hR : G.2.2.2.2.1 - k0 ≤ R.cells ∧ G.2.2.2.2.2.1 - s0 ≤ R.slots)
    (hd : decode (ai_cc M) F.1 = .ok (i, ai_len i)) (h : ai_step L xs M i (ai_len i) F = some G)
    (k : ai_G p l e R s m args below meth c Q D dA sc b k0 s0 M G) : ai_G p l e R s m args below meth c Q D dA sc b k0 s0 M F := by
  obtain ⟨pc, lv, st, S⟩ := F
  unfold ai_step at h
  split at h
  · rename_i st' h1
    cases h
    exact ai_pure_W X hd h1 k
  · split at h
    · rename_i q h1
      cases h
      exact ai_loc_W X hd h1 k
    · split at h
      · rename_i q h1
        cases h
        exact ai_heap_W X hK hb0 hs0 hk hsl hR hd h1 k
      · split at h
        · rename_i q h1
          cases h
          exact ai_fop_W X hK hb0 hs0 hk hsl hR hd h1 k
        · split at h
          · rename_i st' h1
            cases h
            exact ai_scr_W X hX hd h1 k
          · cases h
end AIS

/-! What the abstract machine's words mean on the real one: addresses, cells, locals. -/
def ai_v (sc b : Nat) (v : Value) : Value := match v with
  | .ref i => .ref (b + i)
  | .retAddr _ => .ref sc
  | .int x => .int x
  | .long x => .long x
  | .float x => .float x
  | .double x => .double x
  | .null => .null
theorem ai_v_cat (sc b : Nat) (v : Value) : (ai_v sc b v).category = v.category := by cases v <;> rfl
def ai_va (b : Nat) (a : vp_A) : vp_A := match a with
  | (n, .inl f) => (n, .inl f)
  | (n, .inr (.inl f)) => (n, .inr (.inl f))
  | (n, .inr (.inr (.inl f))) => (n, .inr (.inr (.inl f)))
  | (n, .inr (.inr (.inr (.inl f)))) => (n, .inr (.inr (.inr (.inl f))))
  | (n, .inr (.inr (.inr (.inr f)))) => (n, .inr (.inr (.inr (.inr (fun j => (f j).map (b + ·))))))
def ai_e (dA : Nat → ClassId) (sc b : Nat) (x : ai_C) : va_E := match x with
  | .inl (t, a) => .inl (dA t, ai_va b a)
  | .inr (c, fs) => .inr (c, fs.map (ai_v sc b))
def ai_W (dA : Nat → ClassId) (sc b n : Nat) (h : Nat → ai_C) : va_W := (List.range n).map fun i => (b + i, ai_e dA sc b (h i))
theorem ai_W_get {dA : Nat → ClassId} {sc b n i : Nat} {h : Nat → ai_C} (hi : i < n) : (ai_W dA sc b n h)[i]? = some (b + i, ai_e dA sc b (h i)) := by
  simp [ai_W, hi]
theorem ai_W_len {dA : Nat → ClassId} {sc b n : Nat} {h : Nat → ai_C} : (ai_W dA sc b n h).length = n := by
  simp [ai_W]
theorem ai_W_set {dA : Nat → ClassId} {sc b n i : Nat} {h : Nat → ai_C} {x : ai_C} : (ai_W dA sc b n h).set i (b + i, ai_e dA sc b x) = ai_W dA sc b n (va_up h i x) := by
  apply List.ext_getElem?
  intro j
  by_cases hj : j < n
  · rw [ai_W_get hj]
    by_cases hij : j = i
    · subst hij
      rw [List.getElem?_set_self (by rw [ai_W_len]; exact hj), va_up_self]
    · rw [List.getElem?_set_ne (Ne.symm hij), ai_W_get hj, va_up_ne _ _ hij]
  · rw [List.getElem?_eq_none (by rw [List.length_set, ai_W_len]; omega), List.getElem?_eq_none (by rw [ai_W_len]; omega)]
theorem ai_W_push {dA : Nat → ClassId} {sc b n : Nat} {h : Nat → ai_C} {x : ai_C} : ai_W dA sc b n h ++ [(b + n, ai_e dA sc b x)] = ai_W dA sc b (n + 1) (va_up h n x) := by
  simp only [ai_W, List.range_succ, List.map_append, List.map_cons, List.map_nil, va_up_self]
  congr 1
  apply List.map_congr_left
  intro i hi
  have : i ≠ n := Nat.ne_of_lt (List.mem_range.mp hi)
  rw [va_up_ne _ _ this]
theorem ai_W_D {dA : Nat → ClassId} {sc b n : Nat} {h : Nat → ai_C} : va_D (fun q => b ≤ q) (ai_W dA sc b n h) := by
  have key : ∀ (i : Nat) (p : Nat × va_E), (ai_W dA sc b n h)[i]? = some p → p.1 = b + i := fun i p hp => by
    have hi : i < n := by
      have := (List.getElem?_eq_some_iff.mp hp).1
      rwa [ai_W_len] at this
    rw [ai_W_get hi] at hp
    cases hp
    rfl
  refine ⟨fun i j p q hp hq e => ?_, fun k q hq => ?_⟩
  · have h1 := key i p hp
    have h2 := key j q hq
    omega
  · show b ≤ q.1
    rw [key k q hq]
    omega
/-- the cells of ours lie in the heap -/
theorem ai_P_lt {D : va_G} {cl : List vw_C} {dA : Nat → ClassId} {sc b n : Nat} {h : Nat → ai_C} {H : Heap} (hP : va_P D cl (ai_W dA sc b n h) H) (hn : 0 < n) : b + n ≤ H.size := by
  have := (hP (n - 1) _ (ai_W_get (by omega))).lt
  simp only at this
  omega
/-- locals -/
def ai_LH (sc b : Nat) (ls : Array Slot) (nL : Nat) (lv : ai_L) : Prop := ls.size = nL ∧ lv_wf ls ∧ lv.length = nL ∧ ∀ (i : Nat) (v : Value), lv[i]? = some (some v) → ls[i]? = some (.val (ai_v sc b v))
def ai_ll (sc b : Nat) (lv : ai_L) : List (Nat × Value) := (List.range lv.length).filterMap fun i => (lv.getD i none).map fun v => (i, ai_v sc b v)
theorem ai_ll_mem {sc b : Nat} {lv : ai_L} {q : Nat × Value} : q ∈ ai_ll sc b lv ↔ ∃ v, lv[q.1]? = some (some v) ∧ q.2 = ai_v sc b v := by
  obtain ⟨i, w⟩ := q
  simp only [ai_ll, List.mem_filterMap, List.mem_range]
  constructor
  · rintro ⟨j, hj, hm⟩
    rw [List.getD_eq_getElem?_getD, List.getElem?_eq_getElem hj] at hm
    cases hx : lv[j] with
    | none => simp [hx] at hm
    | some v =>
      simp only [hx, Option.getD_some, Option.map_some, Option.some.injEq, Prod.mk.injEq] at hm
      obtain ⟨rfl, rfl⟩ := hm
      exact ⟨v, by rw [List.getElem?_eq_getElem hj, hx], rfl⟩
  · rintro ⟨v, h1, rfl⟩
    have hj : i < lv.length := (List.getElem?_eq_some_iff.mp h1).1
    exact ⟨i, hj, by rw [List.getD_eq_getElem?_getD, h1]; rfl⟩
theorem ai_LH.has {sc b : Nat} {ls : Array Slot} {nL : Nat} {lv : ai_L} (h : ai_LH sc b ls nL lv) : lv_has ls nL (ai_ll sc b lv) := by
  refine ⟨h.1, h.2.1, fun q hq => ?_⟩
  obtain ⟨v, h1, h2⟩ := ai_ll_mem.mp hq
  rw [h2]
  exact h.2.2.2 q.1 v h1
theorem ai_LH.at {sc b : Nat} {ls : Array Slot} {nL : Nat} {lv : ai_L} (h : ai_LH sc b ls nL lv) {i : Nat} {v : Value} (hv : ai_ld lv i = some v) : ls[i]? = some (.val (ai_v sc b v)) := by
  refine h.2.2.2 i v ?_
  unfold ai_ld at hv
  rw [List.getD_eq_getElem?_getD] at hv
  cases hx : lv[i]? with
  | none => rw [hx] at hv; cases hv
  | some z => rw [hx] at hv; exact congrArg some hv
/-- behind a store at i -/
theorem ai_LH.st {sc b : Nat} {ls' : Array Slot} {nL i : Nat} {lv : ai_L} {w : Value} {x : Option Value} (hn : lv.length = nL) (hi : i < nL) (ho : i = 0 ∨ ai_isl (lv.getD (i - 1) none) = false) (hx : ∀ v, x = some v → w = ai_v sc b v)
    (h : lv_has ls' nL ((i, w) :: (ai_ll sc b lv).filter (fun q => !(q.1 == i) && !(q.1 + 1 == i && q.2.category == 2)))) : ai_LH sc b ls' nL (lv.set i x) := by
  refine ⟨h.1, h.2.1, by rw [List.length_set]; exact hn, fun j v hv => ?_⟩
  by_cases hj : j = i
  · subst hj
    rw [List.getElem?_set_self (by omega)] at hv
    have := hx v (Option.some.inj hv)
    rw [← this]
    exact h.2.2 (j, w) List.mem_cons_self
  · rw [List.getElem?_set_ne (Ne.symm hj)] at hv
    refine h.2.2 (j, ai_v sc b v) (List.mem_cons_of_mem _ (List.mem_filter.mpr ⟨ai_ll_mem.mpr ⟨v, hv, rfl⟩, ?_⟩))
    have h1 : (j == i) = false := by simpa using hj
    have h2 : (j + 1 == i && (ai_v sc b v).category == 2) = false := by
      by_cases hji : j + 1 = i
      · subst hji
        rcases ho with ho | ho
        · omega
        · simp only [Nat.add_sub_cancel, List.getD_eq_getElem?_getD, hv, Option.getD_some] at ho
          simp only [ai_isl] at ho
          rw [ai_v_cat, ho]
          simp
      · have : (j + 1 == i) = false := by simpa using hji
        rw [this]
        rfl
    simp [h1, h2]
theorem ai_ent_mem {sc b : Nat} (as : List Value) : ∀ (o i : Nat) (v : Value), (ai_ent as)[i]? = some (some v) → (o + i, ai_v sc b v) ∈ lv_args o (as.map (ai_v sc b)) := by
  induction as with
  | nil => intro o i v h; simp [ai_ent] at h
  | cons a as ih =>
    intro o i v h
    simp only [List.map_cons, lv_args, ai_v_cat]
    by_cases hc : a.category = 2
    · rw [ai_ent, if_pos hc] at h
      rw [if_pos hc]
      match i, h with
      | 0, h =>
        simp only [List.getElem?_cons_zero, Option.some.injEq] at h
        subst h
        exact List.mem_cons_self
      | 1, h => simp at h
      | i + 2, h =>
        simp only [List.getElem?_cons_succ] at h
        have := ih (o + 2) i v h
        rw [show o + 2 + i = o + (i + 2) by omega] at this
        exact List.mem_cons_of_mem _ this
    · rw [ai_ent, if_neg hc] at h
      rw [if_neg hc]
      match i, h with
      | 0, h =>
        simp only [List.getElem?_cons_zero, Option.some.injEq] at h
        subst h
        exact List.mem_cons_self
      | i + 1, h =>
        simp only [List.getElem?_cons_succ] at h
        have := ih (o + 1) i v h
        rw [show o + 1 + i = o + (i + 1) by omega] at this
        exact List.mem_cons_of_mem _ this
theorem ai_ent_len {sc b : Nat} (as : List Value) : (lg_sl (as.map (ai_v sc b))).length = (ai_ent as).length := by
  induction as with
  | nil => rfl
  | cons a as ih =>
    simp only [lg_sl, List.map_cons, List.flatMap_cons, List.length_append, ai_v_cat] at ih ⊢
    rw [ih, ai_ent]
    by_cases hc : a.category = 2
    · simp [hc]; omega
    · simp [hc]; omega
theorem ai_entry {sc b nL : Nat} (as : List Value) (h : (ai_ent as).length ≤ nL) : ai_LH sc b ((lg_sl (as.map (ai_v sc b)) ++ List.replicate (nL - (lg_sl (as.map (ai_v sc b))).length) Slot.unset).toArray) nL (ai_ent as ++ List.replicate (nL - (ai_ent as).length) none) := by
  have hl := lv_entry (as.map (ai_v sc b)) (n := nL) (by rw [ai_ent_len]; exact h)
  refine ⟨hl.1, hl.2.1, by simp; omega, fun i v hv => ?_⟩
  refine hl.2.2 (i, ai_v sc b v) ?_
  by_cases hi : i < (ai_ent as).length
  · rw [List.getElem?_append_left hi] at hv
    have := ai_ent_mem (sc := sc) (b := b) as 0 i v hv
    rwa [Nat.zero_add] at this
  · rw [List.getElem?_append_right (by omega)] at hv
    have := List.mem_of_getElem? hv
    have := List.eq_of_mem_replicate this
    cases this

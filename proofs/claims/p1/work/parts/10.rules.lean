/-! Rules for walking a method on the abstract machine. -/
/-- from F the method M, with d calls left below it, comes to an end with Q -/
def ai_aw (L : Nat) (xs : Nat → Int32) (d : Nat) (M : ai_M) (Q : ai_O → Prop) (F : ai_F) : Prop := ∃ n, ai_wp L xs M (fun mi as S Q => ∃ o, ai_run L xs d mi as S o ∧ Q o) Q n F
section AW
variable {L : Nat} {xs : Nat → Int32} {d : Nat} {M : ai_M} {Q : ai_O → Prop} {pc len : Nat} {lv lv' : ai_L} {st st' : List Value} {S S' : ai_S} {i : Instr}
theorem ai_aw_one {F : ai_F} (h : ai_one L xs M (fun mi as S Q => ∃ o, ai_run L xs d mi as S o ∧ Q o) (ai_aw L xs d M Q) Q F) : ai_aw L xs d M Q F := by
  rcases ai_one_path ai_run_le h with ⟨G, ⟨n, g1⟩, -, g3⟩ | ⟨o, g1, -, g3⟩
  · exact ⟨n + 1, g3 _ _ g1⟩
  · exact ⟨1, g3 _ _ g1⟩
/-- a run of the method, for a call -/
theorem ai_run_of {mi : Nat} {as : List Value} (hM : ai_MT[mi]? = some M) (ho : ai_oi M ≠ 99) (he : (ai_ent as).length ≤ ai_nL M) (h : ai_aw L xs d M Q (0, ai_in M as, [], S)) : ∃ o, ai_run L xs (d + 1) mi as S o ∧ Q o := by
  obtain ⟨n, h⟩ := h
  obtain ⟨o, q1, q2, -⟩ := ai_wp_det ai_run_le h
  exact ⟨o, ⟨M, n, hM, ho, he, q1⟩, q2⟩
theorem aw_pure (ha : ai_at M pc = some (i, len)) (ht : ai_thr M pc = none) (hp : ai_pure i st = some st') (k : ai_aw L xs d M Q (pc + len, lv, st', S)) : ai_aw L xs d M Q (pc, lv, st, S) := by
  apply ai_aw_one
  unfold ai_one
  simp only [ha]
  cases i <;> first | (simp only [ht, ai_step, hp]; exact k; done) | (simp [ai_pure] at hp; done)
theorem aw_loc (ha : ai_at M pc = some (i, len)) (ht : ai_thr M pc = none) (hp : ai_loc i lv st = some (lv', st')) (k : ai_aw L xs d M Q (pc + len, lv', st', S)) : ai_aw L xs d M Q (pc, lv, st, S) := by
  apply ai_aw_one
  unfold ai_one
  simp only [ha]
  cases i <;> first | (simp only [ht, ai_step, ai_pure, hp]; exact k; done) | (simp [ai_loc] at hp; done)
theorem aw_heap (ha : ai_at M pc = some (i, len)) (ht : ai_thr M pc = none) (hp : ai_heap i st S = some (st', S')) (k : ai_aw L xs d M Q (pc + len, lv, st', S')) : ai_aw L xs d M Q (pc, lv, st, S) := by
  apply ai_aw_one
  unfold ai_one
  simp only [ha]
  cases i <;> first | (simp only [ht, ai_step, ai_pure, ai_loc, hp]; exact k; done) | (simp [ai_heap] at hp; done)
theorem aw_fop (ha : ai_at M pc = some (i, len)) (ht : ai_thr M pc = none) (hp : ai_fop M i st S = some (st', S')) (k : ai_aw L xs d M Q (pc + len, lv, st', S')) : ai_aw L xs d M Q (pc, lv, st, S) := by
  apply ai_aw_one
  unfold ai_one
  simp only [ha]
  cases i <;> first | (simp only [ht, ai_step, ai_pure, ai_loc, ai_heap, hp]; exact k; done) | (simp [ai_fop] at hp; done)
theorem aw_goto {off : Int} (ha : ai_at M pc = some (.goto off, len)) (k : ai_aw L xs d M Q (ai_to pc off, lv, st, S)) : ai_aw L xs d M Q (pc, lv, st, S) := by
  apply ai_aw_one
  unfold ai_one
  simp only [ha]
  exact k
theorem aw_if {cd : ClassFile.Cond} {off : Int} {x : Int32} (ha : ai_at M pc = some (.ifCond cd off, len)) (kt : ai_cmp cd x 0 → ai_aw L xs d M Q (ai_to pc off, lv, st, S)) (kf : ¬ ai_cmp cd x 0 → ai_aw L xs d M Q (pc + 3, lv, st, S)) : ai_aw L xs d M Q (pc, lv, .int x :: st, S) := by
  apply ai_aw_one
  unfold ai_one
  simp only [ha]
  exact ⟨kt, kf⟩
theorem aw_icmp {cd : ClassFile.Cond} {off : Int} {x y : Int32} (ha : ai_at M pc = some (.if_icmp cd off, len)) (kt : ai_cmp cd x y → ai_aw L xs d M Q (ai_to pc off, lv, st, S)) (kf : ¬ ai_cmp cd x y → ai_aw L xs d M Q (pc + 3, lv, st, S)) : ai_aw L xs d M Q (pc, lv, .int y :: .int x :: st, S) := by
  apply ai_aw_one
  unfold ai_one
  simp only [ha]
  exact ⟨kt, kf⟩
theorem aw_obj {x : Nat} {a : Nat} (ha : ai_at M pc = some (.invokespecial x, len)) (hx : ai_isObj (ai_oi M) x = true) (hs : ai_sum st ≤ 8) (k : ai_aw L xs d M Q (pc + 3, lv, st, S)) : ai_aw L xs d M Q (pc, lv, .ref a :: st, S) := by
  apply ai_aw_one
  unfold ai_one
  simp only [ha, if_pos hx]
  exact ⟨hs, k⟩
theorem aw_ret {v : Int32} {ty : FieldType} (ha : ai_at M pc = some (.ireturn, len)) (hr : ai_ret M = some ty) (hn : narrow ty (.int v) = .int v) (k : Q (ai_ok (some (.int v)) S)) : ai_aw L xs d M Q (pc, lv, [.int v], S) := by
  apply ai_aw_one
  unfold ai_one
  simp only [ha]
  exact ⟨⟨ty, hr, hn⟩, k⟩
theorem aw_vret (ha : ai_at M pc = some (.return_, len)) (hr : ai_ret M = none) (k : Q (ai_ok none S)) : ai_aw L xs d M Q (pc, lv, [], S) := by
  apply ai_aw_one
  unfold ai_one
  simp only [ha]
  exact ⟨trivial, hr, k⟩
theorem aw_throw {E : String} {x : Nat} (ha : ai_at M pc = some (.new x, len)) (ht : ai_thr M pc = some E) (hs : ai_sum st ≤ 8) (k : Q (.inr E, (S.1, S.2.1 + 1, S.2.2.1 + 6, S.2.2.2))) : ai_aw L xs d M Q (pc, lv, st, S) := by
  apply ai_aw_one
  unfold ai_one
  simp only [ha, ht]
  exact ⟨hs, k⟩
/-- a call of a method on an object -/
theorem aw_callV {x kd mi na ci a : Nat} {as rest : List Value} {fs : List Value} (ha : ai_at M pc = some (.invokevirtual x, len)) (hm : ai_mth (ai_oi M) x = some (kd, mi, na, ci)) (hk : kd = 0 ∨ kd = 1) (hd : st.drop na = .ref a :: rest) (hl : na ≤ st.length) (hs : ai_sum rest ≤ 8) (ho : ai_obj S a ci = some fs) (has : as = .ref a :: (st.take na).reverse)
    (k : ∃ o, ai_run L xs d mi as S o ∧ ai_back M (ai_aw L xs d M Q) kd pc lv rest o) : ai_aw L xs d M Q (pc, lv, st, S) := by
  apply ai_aw_one
  unfold ai_one
  simp only [ha, ai_inv, hm]
  refine ⟨by rcases hk with rfl | rfl <;> simp, ?_⟩
  rw [if_neg (by omega), hd]
  subst has
  exact ⟨hl, hs, ⟨fs, ho⟩, k⟩
theorem aw_callI {x kd mi na ci a : Nat} {as rest : List Value} {fs : List Value} (ha : ai_at M pc = some (.invokespecial x, len)) (hx : ai_isObj (ai_oi M) x = false) (hm : ai_mth (ai_oi M) x = some (kd, mi, na, ci)) (hk : kd = 4 ∨ kd = 5) (hd : st.drop na = .ref a :: rest) (hl : na ≤ st.length) (hs : ai_sum rest ≤ 8) (ho : ai_obj S a ci = some fs) (has : as = .ref a :: (st.take na).reverse)
    (k : ∃ o, ai_run L xs d mi as S o ∧ ai_back M (ai_aw L xs d M Q) kd pc lv rest o) : ai_aw L xs d M Q (pc, lv, st, S) := by
  apply ai_aw_one
  unfold ai_one
  simp only [ha, hx, ai_inv, hm]
  rw [if_neg (by simp)]
  refine ⟨by rcases hk with rfl | rfl <;> simp, ?_⟩
  rw [if_neg (by omega), hd]
  subst has
  exact ⟨hl, hs, ⟨fs, ho⟩, k⟩
theorem aw_callS {x kd mi na ci : Nat} {as rest : List Value} (ha : ai_at M pc = some (.invokestatic x, len)) (hx : ai_isCpy (ai_oi M) x = false) (hm : ai_mth (ai_oi M) x = some (kd, mi, na, ci)) (hk : kd = 2 ∨ kd = 3 ∨ kd = 6) (hd : st.drop na = rest) (hl : na ≤ st.length) (hs : ai_sum rest ≤ 8) (has : as = (st.take na).reverse)
    (k : ∃ o, ai_run L xs d mi as S o ∧ ai_back M (ai_aw L xs d M Q) kd pc lv rest o) : ai_aw L xs d M Q (pc, lv, st, S) := by
  apply ai_aw_one
  unfold ai_one
  simp only [ha, hx, ai_inv, hm]
  rw [if_neg (by simp)]
  refine ⟨by rcases hk with rfl | rfl | rfl <;> simp, ?_⟩
  rw [if_pos hk]
  subst has
  subst hd
  exact ⟨hl, hs, k⟩
/-- the call's run, and what it says, out of the callee's walk -/
theorem aw_of {mi : Nat} {as : List Value} {P P' : ai_O → Prop} (h : ∃ o, ai_run L xs d mi as S o ∧ P o) (k : ∀ o, P o → P' o) : ∃ o, ai_run L xs d mi as S o ∧ P' o := by
  obtain ⟨o, h1, h2⟩ := h
  exact ⟨o, h1, k o h2⟩
end AW
section AW2
variable {L : Nat} {xs : Nat → Int32} {d : Nat} {M : ai_M} {Q : ai_O → Prop} {pc len : Nat} {lv lv' : ai_L} {st st' : List Value} {S S' : ai_S} {i : Instr}
theorem aw_get {x c k a : Nat} {ne : Bool} {fs : List Value} {v : Value} (ha : ai_at M pc = some (.getfield x, len)) (ht : ai_thr M pc = none) (hf : ai_fld (ai_oi M) x = some (c, k, ne)) (ho : ai_obj S a c = some fs) (hv : fs[k]? = some v) (kk : ai_aw L xs d M Q (pc + len, lv, v :: st, S)) : ai_aw L xs d M Q (pc, lv, .ref a :: st, S) :=
  aw_fop ha ht (by simp only [ai_fop, hf, Option.bind_some, ho, hv, Option.map_some]) kk
theorem aw_put {x c k a : Nat} {ne : Bool} {fs : List Value} {v : Value} (ha : ai_at M pc = some (.putfield x, len)) (ht : ai_thr M pc = none) (hf : ai_fld (ai_oi M) x = some (c, k, ne)) (ho : ai_obj S a c = some fs) (hk : k < fs.length) (hfit : ai_fits (ai_ty c k) v = true) (hm : ai_may M c k ne = true) (kk : ai_aw L xs d M Q (pc + len, lv, st, ai_wr S a (.inr (c, fs.set k v)))) : ai_aw L xs d M Q (pc, lv, v :: .ref a :: st, S) :=
  aw_fop ha ht (by simp only [ai_fop, hf, Option.bind_some, ho, hk, hfit, hm, and_self, if_true]) kk
theorem aw_iald {a n : Nat} {f : Nat → Int32} {j : Int32} (ha : ai_at M pc = some (.iaload, len)) (ht : ai_thr M pc = none) (hA : ai_arr S a 0 = some (n, f)) (hj : ¬ (j < 0 ∨ n ≤ j.toNatClampNeg)) (kk : ai_aw L xs d M Q (pc + len, lv, .int (f j.toNatClampNeg) :: st, S)) : ai_aw L xs d M Q (pc, lv, .int j :: .ref a :: st, S) :=
  aw_heap ha ht (by simp only [ai_heap, ai_ldx, hA, Option.bind_some, if_neg hj]) kk
theorem aw_cald {a n : Nat} {f : Nat → Int32} {j : Int32} (ha : ai_at M pc = some (.caload, len)) (ht : ai_thr M pc = none) (hA : ai_arr S a 1 = some (n, f)) (hj : ¬ (j < 0 ∨ n ≤ j.toNatClampNeg)) (kk : ai_aw L xs d M Q (pc + len, lv, .int (f j.toNatClampNeg) :: st, S)) : ai_aw L xs d M Q (pc, lv, .int j :: .ref a :: st, S) :=
  aw_heap ha ht (by simp only [ai_heap, ai_ldx, hA, Option.bind_some, if_neg hj]) kk
theorem aw_zald {a n : Nat} {f : Nat → Int32} {j : Int32} (ha : ai_at M pc = some (.baload, len)) (ht : ai_thr M pc = none) (hA : ai_arr S a 2 = some (n, f)) (hj : ¬ (j < 0 ∨ n ≤ j.toNatClampNeg)) (kk : ai_aw L xs d M Q (pc + len, lv, .int (f j.toNatClampNeg) :: st, S)) : ai_aw L xs d M Q (pc, lv, .int j :: .ref a :: st, S) :=
  aw_heap ha ht (by simp only [ai_heap, ai_ldx, hA, Option.bind_some, if_neg hj]) kk
theorem aw_iast {a n : Nat} {f : Nat → Int32} {j x : Int32} (ha : ai_at M pc = some (.iastore, len)) (ht : ai_thr M pc = none) (hA : ai_arr S a 0 = some (n, f)) (hj : ¬ (j < 0 ∨ n ≤ j.toNatClampNeg)) (kk : ai_aw L xs d M Q (pc + len, lv, st, ai_wr S a (.inl (0, ai_I n (upd f j.toNatClampNeg x))))) : ai_aw L xs d M Q (pc, lv, .int x :: .int j :: .ref a :: st, S) :=
  aw_heap ha ht (by simp only [ai_heap, ai_stx, hA, Option.bind_some, if_neg hj]) kk
theorem aw_cast {a n : Nat} {f : Nat → Int32} {j x : Int32} (ha : ai_at M pc = some (.castore, len)) (ht : ai_thr M pc = none) (hA : ai_arr S a 1 = some (n, f)) (hj : ¬ (j < 0 ∨ n ≤ j.toNatClampNeg)) (kk : ai_aw L xs d M Q (pc + len, lv, st, ai_wr S a (.inl (1, ai_I n (upd f j.toNatClampNeg (vp_nar .char x)))))) : ai_aw L xs d M Q (pc, lv, .int x :: .int j :: .ref a :: st, S) :=
  aw_heap ha ht (by simp only [ai_heap, ai_stx, hA, Option.bind_some, if_neg hj]) kk
theorem aw_zast {a n : Nat} {f : Nat → Int32} {j x : Int32} (ha : ai_at M pc = some (.bastore, len)) (ht : ai_thr M pc = none) (hA : ai_arr S a 2 = some (n, f)) (hj : ¬ (j < 0 ∨ n ≤ j.toNatClampNeg)) (kk : ai_aw L xs d M Q (pc + len, lv, st, ai_wr S a (.inl (2, ai_I n (upd f j.toNatClampNeg (vp_nar .boolean x)))))) : ai_aw L xs d M Q (pc, lv, .int x :: .int j :: .ref a :: st, S) :=
  aw_heap ha ht (by simp only [ai_heap, ai_stx, hA, Option.bind_some, if_neg hj]) kk
theorem aw_lald {a n : Nat} {f : Nat → Int64} {j : Int32} (ha : ai_at M pc = some (.laload, len)) (ht : ai_thr M pc = none) (hA : ai_arrJ S a 3 = some (n, f)) (hj : ¬ (j < 0 ∨ n ≤ j.toNatClampNeg)) (kk : ai_aw L xs d M Q (pc + len, lv, .long (f j.toNatClampNeg) :: st, S)) : ai_aw L xs d M Q (pc, lv, .int j :: .ref a :: st, S) :=
  aw_heap ha ht (by simp only [ai_heap, hA, Option.bind_some, if_neg hj]) kk
theorem aw_last {a n : Nat} {f : Nat → Int64} {j : Int32} {x : Int64} (ha : ai_at M pc = some (.lastore, len)) (ht : ai_thr M pc = none) (hA : ai_arrJ S a 3 = some (n, f)) (hj : ¬ (j < 0 ∨ n ≤ j.toNatClampNeg)) (kk : ai_aw L xs d M Q (pc + len, lv, st, ai_wr S a (.inl (3, ai_J n (vp_updL f j.toNatClampNeg x))))) : ai_aw L xs d M Q (pc, lv, .long x :: .int j :: .ref a :: st, S) :=
  aw_heap ha ht (by simp only [ai_heap, hA, Option.bind_some, if_neg hj]) kk
theorem aw_aald {a n y : Nat} {f : Nat → Option Nat} {j : Int32} (ha : ai_at M pc = some (.aaload, len)) (ht : ai_thr M pc = none) (hA : ai_arrA S a 4 = some (n, f)) (hj : ¬ (j < 0 ∨ n ≤ j.toNatClampNeg)) (hy : f j.toNatClampNeg = some y) (kk : ai_aw L xs d M Q (pc + len, lv, .ref y :: st, S)) : ai_aw L xs d M Q (pc, lv, .int j :: .ref a :: st, S) :=
  aw_heap ha ht (by simp only [ai_heap, hA, Option.bind_some, if_neg hj, hy, Option.map_some]) kk
/-- the law's script -/
theorem aw_scr (ha : ai_at M pc = some (i, len)) (ht : ai_thr M pc = none) (hi : i = .iaload ∨ i = .arraylength) (hn : ∀ j a r, st ≠ .int j :: .ref a :: r) (hn2 : ∀ a r, st ≠ .ref a :: r) (hp : ai_scr L xs M i st = some st') (k : ai_aw L xs d M Q (pc + len, lv, st', S)) : ai_aw L xs d M Q (pc, lv, st, S) := by
  apply ai_aw_one
  unfold ai_one
  simp only [ha]
  rcases hi with rfl | rfl
  · have h1 : ai_heap .iaload st S = none := by
      simp only [ai_heap, ai_ldx]
    simp only [ht, ai_step, ai_pure, ai_loc, h1, ai_fop, hp]
    exact k
  · have h1 : ai_heap .arraylength st S = none := by
      simp only [ai_heap]
    simp only [ht, ai_step, ai_pure, ai_loc, h1, ai_fop, hp]
    exact k
theorem aw_switch {dflt lo hi : Int} {offs : Array Int} {x : Int32} (ha : ai_at M pc = some (.tableswitch dflt lo hi offs, len)) (k1 : (x.toInt < lo ∨ hi < x.toInt) → ai_aw L xs d M Q (ai_to pc dflt, lv, st, S)) (k2 : ¬ (x.toInt < lo ∨ hi < x.toInt) → ∃ off, offs[(x.toInt - lo).toNat]? = some off ∧ ai_aw L xs d M Q (ai_to pc off, lv, st, S)) : ai_aw L xs d M Q (pc, lv, .int x :: st, S) := by
  apply ai_aw_one
  unfold ai_one
  simp only [ha]
  exact ⟨k1, k2⟩
theorem ai_obj_wr {a a' c : Nat} {x : ai_C} (h : a' ≠ a) : ai_obj (ai_wr S a x) a' c = ai_obj S a' c := by
  simp only [ai_obj, ai_wr, va_up_ne _ _ h]
theorem ai_arr_wr {a a' c : Nat} {x : ai_C} (h : a' ≠ a) : ai_arr (ai_wr S a x) a' c = ai_arr S a' c := by
  simp only [ai_arr, ai_wr, va_up_ne _ _ h]
theorem ai_arrJ_wr {a a' c : Nat} {x : ai_C} (h : a' ≠ a) : ai_arrJ (ai_wr S a x) a' c = ai_arrJ S a' c := by
  simp only [ai_arrJ, ai_wr, va_up_ne _ _ h]
theorem ai_arrA_wr {a a' c : Nat} {x : ai_C} (h : a' ≠ a) : ai_arrA (ai_wr S a x) a' c = ai_arrA S a' c := by
  simp only [ai_arrA, ai_wr, va_up_ne _ _ h]
theorem ai_obj_wrS {a c : Nat} {fs : List Value} (h : a < S.1) : ai_obj (ai_wr S a (.inr (c, fs))) a c = some fs := by
  simp only [ai_obj, ai_wr, if_pos h, va_up_self, if_true]
theorem ai_arr_wrS {a t n : Nat} {f : Nat → Int32} (h : a < S.1) : ai_arr (ai_wr S a (.inl (t, ai_I n f))) a t = some (n, f) := by
  simp only [ai_arr, ai_wr, if_pos h, va_up_self, if_true]
theorem ai_arrJ_wrS {a t n : Nat} {f : Nat → Int64} (h : a < S.1) : ai_arrJ (ai_wr S a (.inl (t, ai_J n f))) a t = some (n, f) := by
  simp only [ai_arrJ, ai_wr, if_pos h, va_up_self, if_true]
end AW2

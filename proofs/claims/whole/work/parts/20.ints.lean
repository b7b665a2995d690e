/-! Rules for walking over whole numbers: every int on the stack is Int32.ofInt of one, in reach. -/
def ax_R (a : Int) : Prop := -2147483648 ≤ a ∧ a < 2147483648
abbrev ax_i (a : Int) : Value := .int (Int32.ofInt a)
theorem ax_toInt {a : Int} (h : ax_R a) : (Int32.ofInt a).toInt = a := by
  unfold ax_R at h
  rw [Int32.toInt_ofInt, show Int32.size = 4294967296 from rfl]
  exact Int.bmod_eq_of_le (by omega) (by omega)
theorem ax_inj {a b : Int} (ha : ax_R a) (hb : ax_R b) (h : Int32.ofInt a = Int32.ofInt b) : a = b := by
  have := congrArg Int32.toInt h
  rwa [ax_toInt ha, ax_toInt hb] at this
theorem ax_eq {a b : Int} (ha : ax_R a) (hb : ax_R b) : Int32.ofInt a = Int32.ofInt b ↔ a = b := ⟨ax_inj ha hb, fun h => by rw [h]⟩
theorem ax_lt {a b : Int} (ha : ax_R a) (hb : ax_R b) : Int32.ofInt a < Int32.ofInt b ↔ a < b := by
  rw [Int32.lt_iff_toInt_lt, ax_toInt ha, ax_toInt hb]
theorem ax_le {a b : Int} (ha : ax_R a) (hb : ax_R b) : Int32.ofInt a ≤ Int32.ofInt b ↔ a ≤ b := by
  rw [Int32.le_iff_toInt_le, ax_toInt ha, ax_toInt hb]
theorem ax_nat {k : Nat} (h : k < 2147483648) : (Int32.ofInt (k : Int)).toNatClampNeg = k := by
  have h1 : (Int32.ofInt (k : Int)).toInt = k := ax_toInt ⟨by omega, by omega⟩
  show (Int32.ofInt (k : Int)).toInt.toNat = k
  rw [h1]
  exact Int.toNat_natCast k
theorem ax_inb {k n : Nat} (h : k < n) (hn : n < 2147483648) : ¬ (Int32.ofInt (k : Int) < 0 ∨ n ≤ (Int32.ofInt (k : Int)).toNatClampNeg) := by
  rw [ax_nat (by omega), show (0 : Int32) = Int32.ofInt 0 from rfl, ax_lt ⟨by omega, by omega⟩ ⟨by decide, by decide⟩]
  omega
theorem ax_0 : (0 : Int32) = Int32.ofInt 0 := rfl
theorem ax_R0 : ax_R 0 := ⟨by decide, by decide⟩
/-- a row of whole numbers, written at one place -/
def ax_up (F : Nat → Int) (k : Nat) (v : Int) : Nat → Int := fun j => if j = k then v else F j
abbrev ax_f (F : Nat → Int) : Nat → Int32 := fun j => Int32.ofInt (F j)
theorem ax_upd (F : Nat → Int) (k : Nat) (v : Int) : upd (ax_f F) k (Int32.ofInt v) = ax_f (ax_up F k v) := by
  funext j
  unfold upd ax_f ax_up
  split <;> rfl
theorem ax_of (f : Nat → Int32) : f = ax_f (fun j => (f j).toInt) := by
  funext j
  exact (Int32.ofInt_toInt _).symm
theorem ax_chr {v : Int} (h : 0 ≤ v ∧ v < 65536) : vp_nar .char (Int32.ofInt v) = Int32.ofInt v := by
  have h0 : ai_chr (Int32.ofInt v) = Int32.ofInt v := by
    apply Int32.toInt_inj.mp
    have h2 : (ai_chr (Int32.ofInt v)).toInt = ((Int32.ofInt v).toUInt32 % 65536).toNat := by
      unfold ai_chr
      have h9 : ((Int32.ofInt v).toUInt32 % 65536).toNat < 65536 := by
        rw [UInt32.toNat_mod]
        exact Nat.mod_lt _ (by decide)
      rw [← Int32.toInt_toBitVec, UInt32.toBitVec_toInt32, BitVec.toInt_eq_toNat_of_lt (by rw [UInt32.toNat_toBitVec]; omega), UInt32.toNat_toBitVec]
    have h3 : (Int32.ofInt v).toInt = v := ax_toInt ⟨by omega, by omega⟩
    have h4 : ((Int32.ofInt v).toUInt32.toNat : Int) = v := by
      have h5 : (Int32.ofInt v).toBitVec.toInt = v := by rw [Int32.toInt_toBitVec, h3]
      have h6 := BitVec.toInt_eq_toNat_cond (Int32.ofInt v).toBitVec
      rw [h5] at h6
      have h7 : (Int32.ofInt v).toUInt32.toNat = (Int32.ofInt v).toBitVec.toNat := rfl
      have h8 := (Int32.ofInt v).toBitVec.isLt
      rw [h7]
      split at h6 <;> omega
    rw [h2, h3, UInt32.toNat_mod, show (65536 : UInt32).toNat = 65536 from rfl]
    omega
  have := pk_vc (Int32.ofInt v)
  rw [show ((Int32.ofInt v).toUInt32 % 65536).toInt32 = Int32.ofInt v from h0] at this
  exact this
theorem ax_nchr {v : Int} (h : 0 ≤ v ∧ v < 65536) : narrow .char (.int (Int32.ofInt v)) = .int (Int32.ofInt v) := by
  have h1 : vp_nar .char (Int32.ofInt v) = Int32.ofInt v := ax_chr h
  have h2 : narrow .char (.int (Int32.ofInt v)) = .int (vp_nar .char (Int32.ofInt v)) := rfl
  rw [h2, h1]
section AX
variable {L : Nat} {xs : Nat → Int32} {d : Nat} {M : ai_M} {Q : ai_O → Prop} {pc len : Nat} {lv lv' : ai_L} {st st' : List Value} {S S' : ai_S}
theorem ax_add {a b : Int} (ha : ai_at M pc = some (.iadd, len)) (ht : ai_thr M pc = none) (k : ai_aw L xs d M Q (pc + len, lv, ax_i (a + b) :: st, S)) : ai_aw L xs d M Q (pc, lv, ax_i b :: ax_i a :: st, S) := by
  refine aw_pure ha ht rfl ?_
  rw [← Int32.ofInt_add]; exact k
theorem ax_sub {a b : Int} (ha : ai_at M pc = some (.isub, len)) (ht : ai_thr M pc = none) (k : ai_aw L xs d M Q (pc + len, lv, ax_i (a - b) :: st, S)) : ai_aw L xs d M Q (pc, lv, ax_i b :: ax_i a :: st, S) := by
  refine aw_pure ha ht rfl ?_
  rw [← Int32.ofInt_sub]; exact k
theorem ax_mul {a b : Int} (ha : ai_at M pc = some (.imul, len)) (ht : ai_thr M pc = none) (k : ai_aw L xs d M Q (pc + len, lv, ax_i (a * b) :: st, S)) : ai_aw L xs d M Q (pc, lv, ax_i b :: ax_i a :: st, S) := by
  refine aw_pure ha ht rfl ?_
  rw [← Int32.ofInt_mul]; exact k
theorem ax_chrI {a : Int} (ha : ai_at M pc = some (.i2c, len)) (ht : ai_thr M pc = none) (h : 0 ≤ a ∧ a < 65536) (k : ai_aw L xs d M Q (pc + len, lv, ax_i a :: st, S)) : ai_aw L xs d M Q (pc, lv, ax_i a :: st, S) := by
  refine aw_pure ha ht rfl ?_
  have h1 : ((Int32.ofInt a).toUInt32 % 65536).toInt32 = Int32.ofInt a := by
    have h2 := pk_vc (Int32.ofInt a)
    have h3 : vp_nar .char (Int32.ofInt a) = Int32.ofInt a := ax_chr h
    have h4 : vp_nar .char (Int32.ofInt a) = ((Int32.ofInt a).toUInt32 % 65536).toInt32 := by
      rw [vp_nar_char]
      apply congrArg UInt32.toInt32
      apply UInt32.toNat_inj.mp
      rw [UInt32.toNat_mod]
      simp
    rw [← h4, h3]
  rw [h1]; exact k
theorem ax_inc {a : Int} {kk : Nat} {n : Int} (ha : ai_at M pc = some (.iinc kk n, len)) (ht : ai_thr M pc = none) (hv : ai_ld lv kk = some (ax_i a)) (hs : ai_st1 lv kk (ax_i (a + n)) = some lv') (k : ai_aw L xs d M Q (pc + len, lv', st, S)) : ai_aw L xs d M Q (pc, lv, st, S) := by
  refine aw_loc (lv' := lv') (st' := st) ha ht ?_ k
  simp only [ai_loc, hv]
  rw [← Int32.ofInt_add, hs]; rfl
theorem ax_ild {a n k : Nat} {F : Nat → Int} {e : Int} (ha : ai_at M pc = some (.iaload, len)) (ht : ai_thr M pc = none) (hA : ai_arr S a 0 = some (n, ax_f F)) (he : e = (k : Int)) (hk : k < n) (hn : n < 2147483648) (kk : ai_aw L xs d M Q (pc + len, lv, ax_i (F k) :: st, S)) : ai_aw L xs d M Q (pc, lv, ax_i e :: .ref a :: st, S) := by
  subst he
  refine aw_iald ha ht hA (ax_inb hk hn) ?_
  rw [ax_nat (by omega)]; exact kk
theorem ax_cld {a n k : Nat} {F : Nat → Int} {e : Int} (ha : ai_at M pc = some (.caload, len)) (ht : ai_thr M pc = none) (hA : ai_arr S a 1 = some (n, ax_f F)) (he : e = (k : Int)) (hk : k < n) (hn : n < 2147483648) (kk : ai_aw L xs d M Q (pc + len, lv, ax_i (F k) :: st, S)) : ai_aw L xs d M Q (pc, lv, ax_i e :: .ref a :: st, S) := by
  subst he
  refine aw_cald ha ht hA (ax_inb hk hn) ?_
  rw [ax_nat (by omega)]; exact kk
theorem ax_zld {a n k : Nat} {F : Nat → Int} {e : Int} (ha : ai_at M pc = some (.baload, len)) (ht : ai_thr M pc = none) (hA : ai_arr S a 2 = some (n, ax_f F)) (he : e = (k : Int)) (hk : k < n) (hn : n < 2147483648) (kk : ai_aw L xs d M Q (pc + len, lv, ax_i (F k) :: st, S)) : ai_aw L xs d M Q (pc, lv, ax_i e :: .ref a :: st, S) := by
  subst he
  refine aw_zald ha ht hA (ax_inb hk hn) ?_
  rw [ax_nat (by omega)]; exact kk
theorem ax_ist {a n k : Nat} {F : Nat → Int} {e v : Int} (ha : ai_at M pc = some (.iastore, len)) (ht : ai_thr M pc = none) (hA : ai_arr S a 0 = some (n, ax_f F)) (he : e = (k : Int)) (hk : k < n) (hn : n < 2147483648) (kk : ai_aw L xs d M Q (pc + len, lv, st, ai_wr S a (.inl (0, ai_I n (ax_f (ax_up F k v)))))) : ai_aw L xs d M Q (pc, lv, ax_i v :: ax_i e :: .ref a :: st, S) := by
  subst he
  refine aw_iast ha ht hA (ax_inb hk hn) ?_
  rw [ax_nat (by omega), ax_upd]; exact kk
theorem ax_cst {a n k : Nat} {F : Nat → Int} {e v : Int} (ha : ai_at M pc = some (.castore, len)) (ht : ai_thr M pc = none) (hA : ai_arr S a 1 = some (n, ax_f F)) (he : e = (k : Int)) (hk : k < n) (hn : n < 2147483648) (hv : 0 ≤ v ∧ v < 65536) (kk : ai_aw L xs d M Q (pc + len, lv, st, ai_wr S a (.inl (1, ai_I n (ax_f (ax_up F k v)))))) : ai_aw L xs d M Q (pc, lv, ax_i v :: ax_i e :: .ref a :: st, S) := by
  subst he
  refine aw_cast ha ht hA (ax_inb hk hn) ?_
  rw [ax_nat (by omega), ax_chr hv, ax_upd]; exact kk
theorem ax_zst {a n k : Nat} {F : Nat → Int} {e v : Int} (ha : ai_at M pc = some (.bastore, len)) (ht : ai_thr M pc = none) (hA : ai_arr S a 2 = some (n, ax_f F)) (he : e = (k : Int)) (hk : k < n) (hn : n < 2147483648) (hv : v = 0 ∨ v = 1) (kk : ai_aw L xs d M Q (pc + len, lv, st, ai_wr S a (.inl (2, ai_I n (ax_f (ax_up F k v)))))) : ai_aw L xs d M Q (pc, lv, ax_i v :: ax_i e :: .ref a :: st, S) := by
  subst he
  refine aw_zast ha ht hA (ax_inb hk hn) ?_
  have : vp_nar .boolean (Int32.ofInt v) = Int32.ofInt v := by rcases hv with rfl | rfl <;> rfl
  rw [ax_nat (by omega), this, ax_upd]; exact kk
theorem ax_icmp_lt {a b off : Int} (ha : ai_at M pc = some (.if_icmp .lt off, len)) (hra : ax_R a) (hrb : ax_R b) (kt : a < b → ai_aw L xs d M Q (ai_to pc off, lv, st, S)) (kf : b ≤ a → ai_aw L xs d M Q (pc + 3, lv, st, S)) : ai_aw L xs d M Q (pc, lv, ax_i b :: ax_i a :: st, S) :=
  aw_icmp ha (fun z => kt ((ax_lt hra hrb).mp z)) (fun z => kf (Int.not_lt.mp (mt (ax_lt hra hrb).mpr z)))
theorem ax_if_lt {a off : Int} (ha : ai_at M pc = some (.ifCond .lt off, len)) (hra : ax_R a) (kt : a < 0 → ai_aw L xs d M Q (ai_to pc off, lv, st, S)) (kf : 0 ≤ a → ai_aw L xs d M Q (pc + 3, lv, st, S)) : ai_aw L xs d M Q (pc, lv, ax_i a :: st, S) :=
  aw_if ha (fun z => kt ((ax_lt hra ax_R0).mp z)) (fun z => kf (Int.not_lt.mp (mt (ax_lt hra ax_R0).mpr z)))
theorem ax_icmp_ge {a b off : Int} (ha : ai_at M pc = some (.if_icmp .ge off, len)) (hra : ax_R a) (hrb : ax_R b) (kt : b ≤ a → ai_aw L xs d M Q (ai_to pc off, lv, st, S)) (kf : a < b → ai_aw L xs d M Q (pc + 3, lv, st, S)) : ai_aw L xs d M Q (pc, lv, ax_i b :: ax_i a :: st, S) :=
  aw_icmp ha (fun z => kt ((ax_le hrb hra).mp z)) (fun z => kf (Int.not_le.mp (mt (ax_le hrb hra).mpr z)))
theorem ax_if_ge {a off : Int} (ha : ai_at M pc = some (.ifCond .ge off, len)) (hra : ax_R a) (kt : 0 ≤ a → ai_aw L xs d M Q (ai_to pc off, lv, st, S)) (kf : a < 0 → ai_aw L xs d M Q (pc + 3, lv, st, S)) : ai_aw L xs d M Q (pc, lv, ax_i a :: st, S) :=
  aw_if ha (fun z => kt ((ax_le ax_R0 hra).mp z)) (fun z => kf (Int.not_le.mp (mt (ax_le ax_R0 hra).mpr z)))
theorem ax_icmp_gt {a b off : Int} (ha : ai_at M pc = some (.if_icmp .gt off, len)) (hra : ax_R a) (hrb : ax_R b) (kt : b < a → ai_aw L xs d M Q (ai_to pc off, lv, st, S)) (kf : a ≤ b → ai_aw L xs d M Q (pc + 3, lv, st, S)) : ai_aw L xs d M Q (pc, lv, ax_i b :: ax_i a :: st, S) :=
  aw_icmp ha (fun z => kt ((ax_lt hrb hra).mp z)) (fun z => kf (Int.not_lt.mp (mt (ax_lt hrb hra).mpr z)))
theorem ax_if_gt {a off : Int} (ha : ai_at M pc = some (.ifCond .gt off, len)) (hra : ax_R a) (kt : 0 < a → ai_aw L xs d M Q (ai_to pc off, lv, st, S)) (kf : a ≤ 0 → ai_aw L xs d M Q (pc + 3, lv, st, S)) : ai_aw L xs d M Q (pc, lv, ax_i a :: st, S) :=
  aw_if ha (fun z => kt ((ax_lt ax_R0 hra).mp z)) (fun z => kf (Int.not_lt.mp (mt (ax_lt ax_R0 hra).mpr z)))
theorem ax_icmp_le {a b off : Int} (ha : ai_at M pc = some (.if_icmp .le off, len)) (hra : ax_R a) (hrb : ax_R b) (kt : a ≤ b → ai_aw L xs d M Q (ai_to pc off, lv, st, S)) (kf : b < a → ai_aw L xs d M Q (pc + 3, lv, st, S)) : ai_aw L xs d M Q (pc, lv, ax_i b :: ax_i a :: st, S) :=
  aw_icmp ha (fun z => kt ((ax_le hra hrb).mp z)) (fun z => kf (Int.not_le.mp (mt (ax_le hra hrb).mpr z)))
theorem ax_if_le {a off : Int} (ha : ai_at M pc = some (.ifCond .le off, len)) (hra : ax_R a) (kt : a ≤ 0 → ai_aw L xs d M Q (ai_to pc off, lv, st, S)) (kf : 0 < a → ai_aw L xs d M Q (pc + 3, lv, st, S)) : ai_aw L xs d M Q (pc, lv, ax_i a :: st, S) :=
  aw_if ha (fun z => kt ((ax_le hra ax_R0).mp z)) (fun z => kf (Int.not_le.mp (mt (ax_le hra ax_R0).mpr z)))
theorem ax_icmp_eq {a b off : Int} (ha : ai_at M pc = some (.if_icmp .eq off, len)) (hra : ax_R a) (hrb : ax_R b) (kt : a = b → ai_aw L xs d M Q (ai_to pc off, lv, st, S)) (kf : ¬ a = b → ai_aw L xs d M Q (pc + 3, lv, st, S)) : ai_aw L xs d M Q (pc, lv, ax_i b :: ax_i a :: st, S) :=
  aw_icmp ha (fun z => kt ((ax_eq hra hrb).mp z)) (fun z => kf (mt (ax_eq hra hrb).mpr z))
theorem ax_if_eq {a off : Int} (ha : ai_at M pc = some (.ifCond .eq off, len)) (hra : ax_R a) (kt : a = 0 → ai_aw L xs d M Q (ai_to pc off, lv, st, S)) (kf : ¬ a = 0 → ai_aw L xs d M Q (pc + 3, lv, st, S)) : ai_aw L xs d M Q (pc, lv, ax_i a :: st, S) :=
  aw_if ha (fun z => kt ((ax_eq hra ax_R0).mp z)) (fun z => kf (mt (ax_eq hra ax_R0).mpr z))
theorem ax_icmp_ne {a b off : Int} (ha : ai_at M pc = some (.if_icmp .ne off, len)) (hra : ax_R a) (hrb : ax_R b) (kt : ¬ a = b → ai_aw L xs d M Q (ai_to pc off, lv, st, S)) (kf : a = b → ai_aw L xs d M Q (pc + 3, lv, st, S)) : ai_aw L xs d M Q (pc, lv, ax_i b :: ax_i a :: st, S) :=
  aw_icmp ha (fun z => kt (mt (ax_eq hra hrb).mpr z)) (fun z => kf ((ax_eq hra hrb).mp (Classical.byContradiction z)))
theorem ax_if_ne {a off : Int} (ha : ai_at M pc = some (.ifCond .ne off, len)) (hra : ax_R a) (kt : ¬ a = 0 → ai_aw L xs d M Q (ai_to pc off, lv, st, S)) (kf : a = 0 → ai_aw L xs d M Q (pc + 3, lv, st, S)) : ai_aw L xs d M Q (pc, lv, ax_i a :: st, S) :=
  aw_if ha (fun z => kt (mt (ax_eq hra ax_R0).mpr z)) (fun z => kf ((ax_eq hra ax_R0).mp (Classical.byContradiction z)))
theorem ax_ret {v : Int} (ha : ai_at M pc = some (.ireturn, len)) (hr : ai_ret M = some .int) (k : Q (ai_ok (some (ax_i v)) S)) : ai_aw L xs d M Q (pc, lv, [ax_i v], S) := aw_ret ha hr rfl k
theorem ax_retC {v : Int} (ha : ai_at M pc = some (.ireturn, len)) (hr : ai_ret M = some .char) (h : 0 ≤ v ∧ v < 65536) (k : Q (ai_ok (some (ax_i v)) S)) : ai_aw L xs d M Q (pc, lv, [ax_i v], S) := aw_ret ha hr (ax_nchr h) k
theorem ax_retZ {v : Int} (ha : ai_at M pc = some (.ireturn, len)) (hr : ai_ret M = some .boolean) (h : v = 0 ∨ v = 1) (k : Q (ai_ok (some (ax_i v)) S)) : ai_aw L xs d M Q (pc, lv, [ax_i v], S) := aw_ret ha hr (by rcases h with rfl | rfl <;> rfl) k
end AX

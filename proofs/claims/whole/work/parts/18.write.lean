/-! write: the draft grows by the bytes of a long that aren't 0. -/
section WR
variable {L : Nat} {xs : Nat → Int32} {d : Nat} {S : ai_S}
theorem ai_wr_wr (S : ai_S) (a : Nat) (x y : ai_C) : ai_wr (ai_wr S a x) a y = ai_wr S a y := by
  unfold ai_wr
  have : va_up (va_up S.2.2.2 a x) a y = va_up S.2.2.2 a y := by
    funext j; unfold va_up; by_cases h : j = a <;> simp [h]
  simp only [this]
theorem ai_wr_comm (S : ai_S) {a b : Nat} (h : a ≠ b) (x y : ai_C) : ai_wr (ai_wr S a x) b y = ai_wr (ai_wr S b y) a x := by
  unfold ai_wr
  have : va_up (va_up S.2.2.2 a x) b y = va_up (va_up S.2.2.2 b y) a x := by
    funext j; unfold va_up
    by_cases h1 : j = a
    · subst h1; simp [h]
    · simp [h1]
  simp only [this]
theorem ai_wr_id {S : ai_S} {a : Nat} {x : ai_C} (h : S.2.2.2 a = x) : ai_wr S a x = S := by
  unfold ai_wr
  have : va_up S.2.2.2 a x = S.2.2.2 := by
    funext j; unfold va_up
    by_cases h1 : j = a
    · subst h1; simp [h]
    · simp [h1]
  simp only [this]
/-- how many of the first j bytes aren't 0; what they make of a row -/
def wr_c (b : Nat → Int32) : Nat → Nat
  | 0 => 0
  | j + 1 => wr_c b j + (if b j = 0 then 0 else 1)
def wr_f (b : Nat → Int32) (n : Nat) (f : Nat → Int32) : Nat → Nat → Int32
  | 0 => f
  | j + 1 => if b j = 0 then wr_f b n f j else upd (wr_f b n f j) (n + wr_c b j) (b j)
theorem wr_c_le (b : Nat → Int32) : ∀ j, wr_c b j ≤ j
  | 0 => Nat.le_refl _
  | j + 1 => by
    have := wr_c_le b j
    unfold wr_c
    split <;> omega
theorem wr_c_mono (b : Nat → Int32) (j : Nat) : ∀ k, wr_c b j ≤ wr_c b (j + k)
  | 0 => Nat.le_refl _
  | k + 1 => Nat.le_trans (wr_c_mono b j k) (Nat.le_add_right _ _)
theorem i32_succ (m : Nat) : Int32.ofNat m + Int32.ofInt 1 = Int32.ofNat (m + 1) := by rw [Int32.ofNat_add]; rfl
theorem i32_zero (m : Nat) : Int32.ofNat m + Int32.ofInt 0 = Int32.ofNat m := by rw [show Int32.ofInt 0 = Int32.ofNat 0 from rfl, ← Int32.ofNat_add]; rfl
theorem i32_8 (j : Nat) : Int32.ofNat (8 * j) + Int32.ofInt 8 = Int32.ofNat (8 * (j + 1)) := by
  rw [show 8 * (j + 1) = 8 * j + 8 from rfl, Int32.ofNat_add]; rfl
theorem i32_le {a b : Nat} (ha : a < 2 ^ 31) (hb : b < 2 ^ 31) : Int32.ofNat a ≤ Int32.ofNat b ↔ a ≤ b := by
  rw [Int32.le_iff_toInt_le, Int32.toInt_ofNat_of_lt ha, Int32.toInt_ofNat_of_lt hb]; omega
theorem i32_lt {a b : Nat} (ha : a < 2 ^ 31) (hb : b < 2 ^ 31) : Int32.ofNat a < Int32.ofNat b ↔ a < b := by
  rw [Int32.lt_iff_toInt_lt, Int32.toInt_ofNat_of_lt ha, Int32.toInt_ofNat_of_lt hb]; omega
def by_C (J : Int64) (j : Nat) : Int32 := ((((J.toUInt64 >>> ((Int32.ofNat (8 * j)).toInt64.toUInt64 &&& Int64.toUInt64 63)).toInt64 &&& 255).toInt32).toUInt32 % 65536).toInt32
def by_M (J : Int64) (j : Nat) : Int32 := ((J >>> (((Int8.ofInt 8).toInt32 * Int32.ofNat j).toInt64 &&& 63)) &&& 255).toInt32
/-- the kind's draft -/
def dr_put (S : ai_S) (n : Nat) (f : Nat → Int32) : ai_S := ai_wr (ai_wr S 5 (.inl (1, ai_I 60 f))) 4 (.inr (2, [.ref 5, .int (Int32.ofNat n)]))
theorem dr_obj {n : Nat} {f : Nat → Int32} (h : 5 < S.1) : ai_obj (dr_put S n f) 4 2 = some [.ref 5, .int (Int32.ofNat n)] := ai_obj_wrS (Nat.lt_of_succ_lt h)
theorem dr_arr {n : Nat} {f : Nat → Int32} (h : 5 < S.1) : ai_arr (dr_put S n f) 5 1 = some (60, f) := (ai_arr_wr (by decide)).trans (ai_arr_wrS h)
theorem dr_self {n : Nat} {f : Nat → Int32} (ho : ai_obj S 4 2 = some [.ref 5, .int (Int32.ofNat n)]) (hc : ai_arr S 5 1 = some (60, f)) : dr_put S n f = S := by
  unfold dr_put
  rw [ai_wr_id (ai_arr_inv hc).2, ai_wr_id (ai_obj_inv ho).2]
theorem dr_step {n : Nat} {f g : Nat → Int32} {x : Value} (h : x = .int (Int32.ofNat (n + 1))) : ai_wr (ai_wr (dr_put S n f) 5 (.inl (1, ai_I 60 g))) 4 (.inr (2, [.ref 5, x])) = dr_put S (n + 1) g := by
  subst h
  unfold dr_put
  rw [ai_wr_comm _ (show 4 ≠ 5 by decide), ai_wr_wr, ai_wr_wr]
/-- the reference's -/
def md_put (S : ai_S) (x1 x2 : Nat) (D : Int32) (r : List Value) (n : Nat) (f : Nat → Int32) : ai_S := ai_wr (ai_wr S 435 (.inl (0, ai_I 60 f))) 432 (.inr (11, .int 0 :: .ref x1 :: .ref x2 :: .int D :: .int (Int32.ofNat n) :: .ref 435 :: r))
theorem md_obj {x1 x2 n : Nat} {D : Int32} {r : List Value} {f : Nat → Int32} (h : 435 < S.1) : ai_obj (md_put S x1 x2 D r n f) 432 11 = some (.int 0 :: .ref x1 :: .ref x2 :: .int D :: .int (Int32.ofNat n) :: .ref 435 :: r) := ai_obj_wrS (show 432 < S.1 by omega)
theorem md_arr {x1 x2 n : Nat} {D : Int32} {r : List Value} {f : Nat → Int32} (h : 435 < S.1) : ai_arr (md_put S x1 x2 D r n f) 435 0 = some (60, f) := (ai_arr_wr (by decide)).trans (ai_arr_wrS h)
theorem md_self {x1 x2 n : Nat} {D T : Int32} {r : List Value} {f : Nat → Int32} (hc : ai_arr S 435 0 = some (60, f)) : ai_wr S 432 (.inr (11, .int 0 :: .ref x1 :: .ref x2 :: .int D :: .int (Int32.ofNat n) :: .ref 435 :: r)) = md_put S x1 x2 D r n f := by
  unfold md_put
  rw [ai_wr_id (ai_arr_inv hc).2]
theorem md_step {x1 x2 n : Nat} {D : Int32} {r : List Value} {f g : Nat → Int32} {x : Value} (h : x = .int (Int32.ofNat (n + 1))) : ai_wr (ai_wr (md_put S x1 x2 D r n f) 435 (.inl (0, ai_I 60 g))) 432 (.inr (11, .int 0 :: .ref x1 :: .ref x2 :: .int D :: x :: .ref 435 :: r)) = md_put S x1 x2 D r (n + 1) g := by
  subst h
  unfold md_put
  rw [ai_wr_comm _ (show 432 ≠ 435 by decide), ai_wr_wr, ai_wr_wr]
theorem at_1_0 : ai_at ai_m1 0 = some (.aload_n 0, 1) := rfl
theorem at_1_1 : ai_at ai_m1 1 = some (.getfield 19, 3) := rfl
theorem at_1_4 : ai_at ai_m1 4 = some (.lload_n 1, 1) := rfl
theorem at_1_5 : ai_at ai_m1 5 = some (.invokevirtual 64, 3) := rfl
theorem at_1_8 : ai_at ai_m1 8 = some (.ireturn, 1) := rfl
theorem at_17_0 : ai_at ai_m17 0 = some (.iconst 0, 1) := rfl
theorem at_17_1 : ai_at ai_m17 1 = some (.istore_n 3, 1) := rfl
theorem at_17_2 : ai_at ai_m17 2 = some (.iconst 0, 1) := rfl
theorem at_17_3 : ai_at ai_m17 3 = some (.istore 4, 2) := rfl
theorem at_17_5 : ai_at ai_m17 5 = some (.iload 4, 2) := rfl
theorem at_17_7 : ai_at ai_m17 7 = some (.bipush 64, 2) := rfl
theorem at_17_9 : ai_at ai_m17 9 = some (.if_icmp .ge 26, 3) := rfl
theorem at_17_12 : ai_at ai_m17 12 = some (.iload_n 3, 1) := rfl
theorem at_17_13 : ai_at ai_m17 13 = some (.lload_n 1, 1) := rfl
theorem at_17_14 : ai_at ai_m17 14 = some (.iload 4, 2) := rfl
theorem at_17_16 : ai_at ai_m17 16 = some (.invokestatic 19, 3) := rfl
theorem at_17_19 : ai_at ai_m17 19 = some (.ifCond .eq 7, 3) := rfl
theorem at_17_22 : ai_at ai_m17 22 = some (.iconst 1, 1) := rfl
theorem at_17_23 : ai_at ai_m17 23 = some (.goto 4, 3) := rfl
theorem at_17_26 : ai_at ai_m17 26 = some (.iconst 0, 1) := rfl
theorem at_17_27 : ai_at ai_m17 27 = some (.iadd, 1) := rfl
theorem at_17_28 : ai_at ai_m17 28 = some (.istore_n 3, 1) := rfl
theorem at_17_29 : ai_at ai_m17 29 = some (.iinc 4 8, 3) := rfl
theorem at_17_32 : ai_at ai_m17 32 = some (.goto (-27), 3) := rfl
theorem at_17_35 : ai_at ai_m17 35 = some (.aload_n 0, 1) := rfl
theorem at_17_36 : ai_at ai_m17 36 = some (.getfield 15, 3) := rfl
theorem at_17_39 : ai_at ai_m17 39 = some (.iload_n 3, 1) := rfl
theorem at_17_40 : ai_at ai_m17 40 = some (.iadd, 1) := rfl
theorem at_17_41 : ai_at ai_m17 41 = some (.bipush 60, 2) := rfl
theorem at_17_43 : ai_at ai_m17 43 = some (.if_icmp .le 5, 3) := rfl
theorem at_17_46 : ai_at ai_m17 46 = some (.iconst 0, 1) := rfl
theorem at_17_47 : ai_at ai_m17 47 = some (.ireturn, 1) := rfl
theorem at_17_48 : ai_at ai_m17 48 = some (.iconst 0, 1) := rfl
theorem at_17_49 : ai_at ai_m17 49 = some (.istore 4, 2) := rfl
theorem at_17_51 : ai_at ai_m17 51 = some (.iload 4, 2) := rfl
theorem at_17_53 : ai_at ai_m17 53 = some (.bipush 64, 2) := rfl
theorem at_17_55 : ai_at ai_m17 55 = some (.if_icmp .ge 43, 3) := rfl
theorem at_17_58 : ai_at ai_m17 58 = some (.lload_n 1, 1) := rfl
theorem at_17_59 : ai_at ai_m17 59 = some (.iload 4, 2) := rfl
theorem at_17_61 : ai_at ai_m17 61 = some (.invokestatic 19, 3) := rfl
theorem at_17_64 : ai_at ai_m17 64 = some (.ifCond .eq 28, 3) := rfl
theorem at_17_67 : ai_at ai_m17 67 = some (.aload_n 0, 1) := rfl
theorem at_17_68 : ai_at ai_m17 68 = some (.getfield 9, 3) := rfl
theorem at_17_71 : ai_at ai_m17 71 = some (.aload_n 0, 1) := rfl
theorem at_17_72 : ai_at ai_m17 72 = some (.getfield 15, 3) := rfl
theorem at_17_75 : ai_at ai_m17 75 = some (.lload_n 1, 1) := rfl
theorem at_17_76 : ai_at ai_m17 76 = some (.iload 4, 2) := rfl
theorem at_17_78 : ai_at ai_m17 78 = some (.invokestatic 19, 3) := rfl
theorem at_17_81 : ai_at ai_m17 81 = some (.castore, 1) := rfl
theorem at_17_82 : ai_at ai_m17 82 = some (.aload_n 0, 1) := rfl
theorem at_17_83 : ai_at ai_m17 83 = some (.dup, 1) := rfl
theorem at_17_84 : ai_at ai_m17 84 = some (.getfield 15, 3) := rfl
theorem at_17_87 : ai_at ai_m17 87 = some (.iconst 1, 1) := rfl
theorem at_17_88 : ai_at ai_m17 88 = some (.iadd, 1) := rfl
theorem at_17_89 : ai_at ai_m17 89 = some (.putfield 15, 3) := rfl
theorem at_17_92 : ai_at ai_m17 92 = some (.iinc 4 8, 3) := rfl
theorem at_17_95 : ai_at ai_m17 95 = some (.goto (-44), 3) := rfl
theorem at_17_98 : ai_at ai_m17 98 = some (.iconst 1, 1) := rfl
theorem at_17_99 : ai_at ai_m17 99 = some (.ireturn, 1) := rfl
theorem at_18_0 : ai_at ai_m18 0 = some (.lload_n 0, 1) := rfl
theorem at_18_1 : ai_at ai_m18 1 = some (.iload_n 2, 1) := rfl
theorem at_18_2 : ai_at ai_m18 2 = some (.lushr, 1) := rfl
theorem at_18_3 : ai_at ai_m18 3 = some (.ldc2_w 23, 3) := rfl
theorem at_18_6 : ai_at ai_m18 6 = some (.land, 1) := rfl
theorem at_18_7 : ai_at ai_m18 7 = some (.l2i, 1) := rfl
theorem at_18_8 : ai_at ai_m18 8 = some (.i2c, 1) := rfl
theorem at_18_9 : ai_at ai_m18 9 = some (.ireturn, 1) := rfl
theorem at_100_0 : ai_at ai_m100 0 = some (.aload_n 0, 1) := rfl
theorem at_100_1 : ai_at ai_m100 1 = some (.iconst 0, 1) := rfl
theorem at_100_2 : ai_at ai_m100 2 = some (.putfield 68, 3) := rfl
theorem at_100_5 : ai_at ai_m100 5 = some (.iconst 0, 1) := rfl
theorem at_100_6 : ai_at ai_m100 6 = some (.istore_n 3, 1) := rfl
theorem at_100_7 : ai_at ai_m100 7 = some (.iconst 0, 1) := rfl
theorem at_100_8 : ai_at ai_m100 8 = some (.istore 4, 2) := rfl
theorem at_100_10 : ai_at ai_m100 10 = some (.iload 4, 2) := rfl
theorem at_100_12 : ai_at ai_m100 12 = some (.bipush 8, 2) := rfl
theorem at_100_14 : ai_at ai_m100 14 = some (.if_icmp .ge 26, 3) := rfl
theorem at_100_17 : ai_at ai_m100 17 = some (.iload_n 3, 1) := rfl
theorem at_100_18 : ai_at ai_m100 18 = some (.lload_n 1, 1) := rfl
theorem at_100_19 : ai_at ai_m100 19 = some (.iload 4, 2) := rfl
theorem at_100_21 : ai_at ai_m100 21 = some (.invokestatic 81, 3) := rfl
theorem at_100_24 : ai_at ai_m100 24 = some (.ifCond .ne 7, 3) := rfl
theorem at_100_27 : ai_at ai_m100 27 = some (.iconst 0, 1) := rfl
theorem at_100_28 : ai_at ai_m100 28 = some (.goto 4, 3) := rfl
theorem at_100_31 : ai_at ai_m100 31 = some (.iconst 1, 1) := rfl
theorem at_100_32 : ai_at ai_m100 32 = some (.iadd, 1) := rfl
theorem at_100_33 : ai_at ai_m100 33 = some (.istore_n 3, 1) := rfl
theorem at_100_34 : ai_at ai_m100 34 = some (.iinc 4 1, 3) := rfl
theorem at_100_37 : ai_at ai_m100 37 = some (.goto (-27), 3) := rfl
theorem at_100_40 : ai_at ai_m100 40 = some (.aload_n 0, 1) := rfl
theorem at_100_41 : ai_at ai_m100 41 = some (.getfield 85, 3) := rfl
theorem at_100_44 : ai_at ai_m100 44 = some (.iload_n 3, 1) := rfl
theorem at_100_45 : ai_at ai_m100 45 = some (.iadd, 1) := rfl
theorem at_100_46 : ai_at ai_m100 46 = some (.bipush 60, 2) := rfl
theorem at_100_48 : ai_at ai_m100 48 = some (.if_icmp .le 5, 3) := rfl
theorem at_100_51 : ai_at ai_m100 51 = some (.iconst 0, 1) := rfl
theorem at_100_52 : ai_at ai_m100 52 = some (.ireturn, 1) := rfl
theorem at_100_53 : ai_at ai_m100 53 = some (.iconst 0, 1) := rfl
theorem at_100_54 : ai_at ai_m100 54 = some (.istore 4, 2) := rfl
theorem at_100_56 : ai_at ai_m100 56 = some (.iload 4, 2) := rfl
theorem at_100_58 : ai_at ai_m100 58 = some (.bipush 8, 2) := rfl
theorem at_100_60 : ai_at ai_m100 60 = some (.if_icmp .ge 43, 3) := rfl
theorem at_100_63 : ai_at ai_m100 63 = some (.lload_n 1, 1) := rfl
theorem at_100_64 : ai_at ai_m100 64 = some (.iload 4, 2) := rfl
theorem at_100_66 : ai_at ai_m100 66 = some (.invokestatic 81, 3) := rfl
theorem at_100_69 : ai_at ai_m100 69 = some (.ifCond .eq 28, 3) := rfl
theorem at_100_72 : ai_at ai_m100 72 = some (.aload_n 0, 1) := rfl
theorem at_100_73 : ai_at ai_m100 73 = some (.getfield 16, 3) := rfl
theorem at_100_76 : ai_at ai_m100 76 = some (.aload_n 0, 1) := rfl
theorem at_100_77 : ai_at ai_m100 77 = some (.getfield 85, 3) := rfl
theorem at_100_80 : ai_at ai_m100 80 = some (.lload_n 1, 1) := rfl
theorem at_100_81 : ai_at ai_m100 81 = some (.iload 4, 2) := rfl
theorem at_100_83 : ai_at ai_m100 83 = some (.invokestatic 81, 3) := rfl
theorem at_100_86 : ai_at ai_m100 86 = some (.iastore, 1) := rfl
theorem at_100_87 : ai_at ai_m100 87 = some (.aload_n 0, 1) := rfl
theorem at_100_88 : ai_at ai_m100 88 = some (.dup, 1) := rfl
theorem at_100_89 : ai_at ai_m100 89 = some (.getfield 85, 3) := rfl
theorem at_100_92 : ai_at ai_m100 92 = some (.iconst 1, 1) := rfl
theorem at_100_93 : ai_at ai_m100 93 = some (.iadd, 1) := rfl
theorem at_100_94 : ai_at ai_m100 94 = some (.putfield 85, 3) := rfl
theorem at_100_97 : ai_at ai_m100 97 = some (.iinc 4 1, 3) := rfl
theorem at_100_100 : ai_at ai_m100 100 = some (.goto (-44), 3) := rfl
theorem at_100_103 : ai_at ai_m100 103 = some (.iconst 1, 1) := rfl
theorem at_100_104 : ai_at ai_m100 104 = some (.ireturn, 1) := rfl
theorem at_101_0 : ai_at ai_m101 0 = some (.lload_n 0, 1) := rfl
theorem at_101_1 : ai_at ai_m101 1 = some (.bipush 8, 2) := rfl
theorem at_101_3 : ai_at ai_m101 3 = some (.iload_n 2, 1) := rfl
theorem at_101_4 : ai_at ai_m101 4 = some (.imul, 1) := rfl
theorem at_101_5 : ai_at ai_m101 5 = some (.lshr, 1) := rfl
theorem at_101_6 : ai_at ai_m101 6 = some (.ldc2_w 79, 3) := rfl
theorem at_101_9 : ai_at ai_m101 9 = some (.land, 1) := rfl
theorem at_101_10 : ai_at ai_m101 10 = some (.l2i, 1) := rfl
theorem at_101_11 : ai_at ai_m101 11 = some (.ireturn, 1) := rfl
theorem fl_1_9 : ai_fld 1 9 = some (2, 0, false) := by decide +kernel
theorem fl_1_15 : ai_fld 1 15 = some (2, 1, false) := by decide +kernel
theorem fl_12_16 : ai_fld 12 16 = some (11, 5, false) := by decide +kernel
theorem mt_0_64 : ai_mth 0 64 = some (0, 17, 1, 2) := by decide +kernel
theorem mt_1_19 : ai_mth 1 19 = some (2, 18, 2, 2) := by decide +kernel
theorem mt_12_81 : ai_mth 12 81 = some (2, 101, 2, 11) := by decide +kernel
theorem r_byteAt {J : Int64} {j : Nat} : ai_rn L xs (d + 1) 18 [.long J, .int (Int32.ofNat (8 * j))] S (fun v S' => v = some (.int (by_C J j)) ∧ S' = S) := by
  refine ai_rn_of (M := ai_m18) rfl (by decide) (Nat.le_of_ble_eq_true rfl) ?_
  refine aw_loc at_18_0 rfl rfl ?_
  refine aw_loc at_18_1 rfl rfl ?_
  refine aw_pure at_18_2 rfl rfl ?_
  refine aw_fop at_18_3 rfl (by rfl) ?_
  refine aw_pure at_18_6 rfl rfl ?_
  refine aw_pure at_18_7 rfl rfl ?_
  refine aw_pure at_18_8 rfl rfl ?_
  exact aw_ret at_18_9 rfl (pk_nc _) ⟨_, _, rfl, rfl, rfl⟩
theorem r_byteOf {J : Int64} {j : Nat} : ai_rn L xs (d + 1) 101 [.long J, .int (Int32.ofNat j)] S (fun v S' => v = some (.int (by_M J j)) ∧ S' = S) := by
  refine ai_rn_of (M := ai_m101) rfl (by decide) (Nat.le_of_ble_eq_true rfl) ?_
  refine aw_loc at_101_0 rfl rfl ?_
  refine aw_pure at_101_1 rfl rfl ?_
  refine aw_loc at_101_3 rfl rfl ?_
  refine aw_pure at_101_4 rfl rfl ?_
  refine aw_pure at_101_5 rfl rfl ?_
  refine aw_fop at_101_6 rfl (by rfl) ?_
  refine aw_pure at_101_9 rfl rfl ?_
  refine aw_pure at_101_10 rfl rfl ?_
  exact aw_ret at_101_11 rfl rfl ⟨_, _, rfl, rfl, rfl⟩
set_option maxHeartbeats 1000000 in
theorem r_app1 {J : Int64} {Q : ai_O → Prop} : ∀ (k j : Nat), j + k = 8 → ai_aw L xs (d + 1) ai_m17 Q (35, [some (.ref 4), some (.long J), none, some (.int (Int32.ofNat (wr_c (by_C J) 8))), some (.int (Int32.ofNat (8 * 8)))], [], S) → ai_aw L xs (d + 1) ai_m17 Q (5, [some (.ref 4), some (.long J), none, some (.int (Int32.ofNat (wr_c (by_C J) j))), some (.int (Int32.ofNat (8 * j)))], [], S) := by
  intro k
  induction k with
  | zero =>
    intro j hj hK
    have hj8 : j = 8 := by omega
    subst hj8
    refine aw_loc at_17_5 rfl rfl ?_
    refine aw_pure at_17_7 rfl rfl ?_
    exact aw_icmp at_17_9 (fun _ => hK) (fun z => absurd (by unfold ai_cmp; decide) z)
  | succ k ih =>
    intro j hj hK
    refine aw_loc at_17_5 rfl rfl ?_
    refine aw_pure at_17_7 rfl rfl ?_
    refine aw_icmp at_17_9 (fun z => absurd ((i32_le (a := 64) (b := 8 * j) (by decide) (by omega)).mp z) (by omega)) (fun _ => ?_)
    refine aw_loc at_17_12 rfl rfl ?_
    refine aw_loc at_17_13 rfl rfl ?_
    refine aw_loc at_17_14 rfl rfl ?_
    refine aw_cs [.long J, .int (Int32.ofNat (8 * j))] [.int (Int32.ofNat (wr_c (by_C J) j))] at_17_16 rfl mt_1_19 (Or.inl rfl) rfl rfl (Nat.le_of_ble_eq_true rfl) (r_byteAt.mono ?_)
    rintro v S' ⟨rfl, rfl⟩
    refine aw_if at_17_19 (fun z => ?_) (fun z => ?_)
    · show ai_aw L xs _ ai_m17 Q (26, _, _, _)
      have hb : by_C J j = 0 := z
      have hc : wr_c (by_C J) (j + 1) = wr_c (by_C J) j := by show wr_c (by_C J) j + _ = _; rw [if_pos hb]; rfl
      refine aw_pure at_17_26 rfl rfl ?_
      refine aw_pure at_17_27 rfl rfl ?_
      refine aw_loc at_17_28 rfl rfl ?_
      refine aw_loc at_17_29 rfl rfl ?_
      refine aw_goto at_17_32 ?_
      have := ih (j + 1) (by omega) hK
      rw [hc] at this
      rw [← i32_zero (wr_c (by_C J) j)] at this
      rw [← i32_8] at this
      exact this
    · show ai_aw L xs _ ai_m17 Q (22, _, _, _)
      have hb : ¬ by_C J j = 0 := z
      have hc : wr_c (by_C J) (j + 1) = wr_c (by_C J) j + 1 := by show wr_c (by_C J) j + _ = _; rw [if_neg hb]
      refine aw_pure at_17_22 rfl rfl ?_
      refine aw_goto at_17_23 ?_
      refine aw_pure at_17_27 rfl rfl ?_
      refine aw_loc at_17_28 rfl rfl ?_
      refine aw_loc at_17_29 rfl rfl ?_
      refine aw_goto at_17_32 ?_
      have := ih (j + 1) (by omega) hK
      rw [hc] at this
      rw [← i32_succ (wr_c (by_C J) j)] at this
      rw [← i32_8] at this
      exact this
set_option maxHeartbeats 1000000 in
theorem r_wri1 {J : Int64} {Q : ai_O → Prop} : ∀ (k j : Nat), j + k = 8 → ai_aw L xs (d + 1) ai_m100 Q (40, [some (.ref 432), some (.long J), none, some (.int (Int32.ofNat (wr_c (by_M J) 8))), some (.int (Int32.ofNat (8)))], [], S) → ai_aw L xs (d + 1) ai_m100 Q (10, [some (.ref 432), some (.long J), none, some (.int (Int32.ofNat (wr_c (by_M J) j))), some (.int (Int32.ofNat (j)))], [], S) := by
  intro k
  induction k with
  | zero =>
    intro j hj hK
    have hj8 : j = 8 := by omega
    subst hj8
    refine aw_loc at_100_10 rfl rfl ?_
    refine aw_pure at_100_12 rfl rfl ?_
    exact aw_icmp at_100_14 (fun _ => hK) (fun z => absurd (by unfold ai_cmp; decide) z)
  | succ k ih =>
    intro j hj hK
    refine aw_loc at_100_10 rfl rfl ?_
    refine aw_pure at_100_12 rfl rfl ?_
    refine aw_icmp at_100_14 (fun z => absurd ((i32_le (a := 8) (b := j) (by decide) (by omega)).mp z) (by omega)) (fun _ => ?_)
    refine aw_loc at_100_17 rfl rfl ?_
    refine aw_loc at_100_18 rfl rfl ?_
    refine aw_loc at_100_19 rfl rfl ?_
    refine aw_cs [.long J, .int (Int32.ofNat (j))] [.int (Int32.ofNat (wr_c (by_M J) j))] at_100_21 rfl mt_12_81 (Or.inl rfl) rfl rfl (Nat.le_of_ble_eq_true rfl) (r_byteOf.mono ?_)
    rintro v S' ⟨rfl, rfl⟩
    refine aw_if at_100_24 (fun z => ?_) (fun z => ?_)
    · show ai_aw L xs _ ai_m100 Q (31, _, _, _)
      have hb : ¬ by_M J j = 0 := z
      have hc : wr_c (by_M J) (j + 1) = wr_c (by_M J) j + 1 := by show wr_c (by_M J) j + _ = _; rw [if_neg hb]
      refine aw_pure at_100_31 rfl rfl ?_
      refine aw_pure at_100_32 rfl rfl ?_
      refine aw_loc at_100_33 rfl rfl ?_
      refine aw_loc at_100_34 rfl rfl ?_
      refine aw_goto at_100_37 ?_
      have := ih (j + 1) (by omega) hK
      rw [hc] at this
      rw [← i32_succ (wr_c (by_M J) j)] at this
      rw [← i32_succ j] at this
      exact this
    · show ai_aw L xs _ ai_m100 Q (27, _, _, _)
      have hb : by_M J j = 0 := Classical.byContradiction z
      have hc : wr_c (by_M J) (j + 1) = wr_c (by_M J) j := by show wr_c (by_M J) j + _ = _; rw [if_pos hb]; rfl
      refine aw_pure at_100_27 rfl rfl ?_
      refine aw_goto at_100_28 ?_
      refine aw_pure at_100_32 rfl rfl ?_
      refine aw_loc at_100_33 rfl rfl ?_
      refine aw_loc at_100_34 rfl rfl ?_
      refine aw_goto at_100_37 ?_
      have := ih (j + 1) (by omega) hK
      rw [hc] at this
      rw [← i32_zero (wr_c (by_M J) j)] at this
      rw [← i32_succ j] at this
      exact this
set_option maxHeartbeats 2000000 in
theorem r_app2 {J : Int64} {Q : ai_O → Prop} {n : Nat} {f : Nat → Int32} {m : Int32} (hn : n + wr_c (by_C J) 8 ≤ 60) (hl : 5 < S.1) : ∀ (k j : Nat), j + k = 8 → ai_aw L xs (d + 1) ai_m17 Q (98, [some (.ref 4), some (.long J), none, some (.int (m)), some (.int (Int32.ofNat (8 * 8)))], [], (dr_put S (n + wr_c (by_C J) (8)) (wr_f (by_C J) n f (8)))) → ai_aw L xs (d + 1) ai_m17 Q (51, [some (.ref 4), some (.long J), none, some (.int (m)), some (.int (Int32.ofNat (8 * j)))], [], (dr_put S (n + wr_c (by_C J) (j)) (wr_f (by_C J) n f (j)))) := by
  intro k
  induction k with
  | zero =>
    intro j hj hK
    have hj8 : j = 8 := by omega
    subst hj8
    refine aw_loc at_17_51 rfl rfl ?_
    refine aw_pure at_17_53 rfl rfl ?_
    exact aw_icmp at_17_55 (fun _ => hK) (fun z => absurd (by unfold ai_cmp; decide) z)
  | succ k ih =>
    intro j hj hK
    refine aw_loc at_17_51 rfl rfl ?_
    refine aw_pure at_17_53 rfl rfl ?_
    refine aw_icmp at_17_55 (fun z => absurd ((i32_le (a := 64) (b := 8 * j) (by decide) (by omega)).mp z) (by omega)) (fun _ => ?_)
    refine aw_loc at_17_58 rfl rfl ?_
    refine aw_loc at_17_59 rfl rfl ?_
    refine aw_cs [.long J, .int (Int32.ofNat (8 * j))] [] at_17_61 rfl mt_1_19 (Or.inl rfl) rfl rfl (Nat.le_of_ble_eq_true rfl) (r_byteAt.mono ?_)
    rintro v S' ⟨rfl, rfl⟩
    refine aw_if at_17_64 (fun z => ?_) (fun z => ?_)
    · show ai_aw L xs _ ai_m17 Q (92, _, _, _)
      have hb : by_C J j = 0 := z
      have hc : wr_c (by_C J) (j + 1) = wr_c (by_C J) j := by show wr_c (by_C J) j + _ = _; rw [if_pos hb]; rfl
      have hf : wr_f (by_C J) n f (j + 1) = wr_f (by_C J) n f j := if_pos hb
      refine aw_loc at_17_92 rfl rfl ?_
      refine aw_goto at_17_95 ?_
      have := ih (j + 1) (by omega) hK
      rw [hc, hf, ← i32_8] at this
      exact this
    · show ai_aw L xs _ ai_m17 Q (67, _, _, _)
      have hb : ¬ by_C J j = 0 := z
      have hc : wr_c (by_C J) (j + 1) = wr_c (by_C J) j + 1 := by show wr_c (by_C J) j + _ = _; rw [if_neg hb]
      have hf : wr_f (by_C J) n f (j + 1) = upd (wr_f (by_C J) n f j) (n + wr_c (by_C J) j) (by_C J j) := if_neg hb
      have hlt : n + wr_c (by_C J) j < 60 := by
        have h9 := wr_c_mono (by_C J) (j + 1) k
        rw [show j + 1 + k = 8 by omega] at h9
        omega
      have ho1 := dr_obj (n := n + wr_c (by_C J) j) (f := wr_f (by_C J) n f j) hl
      have hc1 := dr_arr (n := n + wr_c (by_C J) j) (f := wr_f (by_C J) n f j) hl
      refine aw_loc at_17_67 rfl rfl ?_
      refine aw_get at_17_68 rfl fl_1_9 ho1 rfl ?_
      refine aw_loc at_17_71 rfl rfl ?_
      refine aw_get at_17_72 rfl fl_1_15 ho1 rfl ?_
      refine aw_loc at_17_75 rfl rfl ?_
      refine aw_loc at_17_76 rfl rfl ?_
      refine aw_cs [.long J, .int (Int32.ofNat (8 * j))] [.int (Int32.ofNat (n + wr_c (by_C J) j)), .ref 5] at_17_78 rfl mt_1_19 (Or.inl rfl) rfl rfl (Nat.le_of_ble_eq_true rfl) (r_byteAt.mono ?_)
      rintro v S' ⟨rfl, rfl⟩
      refine aw_cast at_17_81 rfl hc1 (i32_inb hlt (by decide)) ?_
      rw [Int32.toNatClampNeg_ofNat_of_lt (by omega)]
      rw [show vp_nar .char (by_C J j) = by_C J j from pk_vc _]
      have ho2 := (ai_obj_wr (a := 5) (x := .inl (1, ai_I 60 (upd (wr_f (by_C J) n f j) (n + wr_c (by_C J) j) (by_C J j)))) (show 4 ≠ 5 by decide)).trans ho1
      refine aw_loc at_17_82 rfl rfl ?_
      refine aw_pure at_17_83 rfl rfl ?_
      refine aw_get at_17_84 rfl fl_1_15 ho2 rfl ?_
      refine aw_pure at_17_87 rfl rfl ?_
      refine aw_pure at_17_88 rfl rfl ?_
      refine aw_put at_17_89 rfl fl_1_15 ho2 (Nat.le_of_ble_eq_true rfl) rfl (by decide +kernel) ?_
      refine aw_loc at_17_92 rfl rfl ?_
      refine aw_goto at_17_95 ?_
      have := ih (j + 1) (by omega) hK
      rw [hc, hf, ← i32_8, ← Nat.add_assoc] at this
      rw [← dr_step (f := wr_f (by_C J) n f j) (congrArg Value.int (i32_succ (n + wr_c (by_C J) j)))] at this
      exact this
set_option maxHeartbeats 2000000 in
theorem r_wri2 {J : Int64} {Q : ai_O → Prop} {n : Nat} {f : Nat → Int32} {m D : Int32} {x1 x2 : Nat} {r : List Value} (hn : n + wr_c (by_M J) 8 ≤ 60) (hl : 435 < S.1) : ∀ (k j : Nat), j + k = 8 → ai_aw L xs (d + 1) ai_m100 Q (103, [some (.ref 432), some (.long J), none, some (.int (m)), some (.int (Int32.ofNat (8)))], [], (md_put S x1 x2 D r (n + wr_c (by_M J) (8)) (wr_f (by_M J) n f (8)))) → ai_aw L xs (d + 1) ai_m100 Q (56, [some (.ref 432), some (.long J), none, some (.int (m)), some (.int (Int32.ofNat (j)))], [], (md_put S x1 x2 D r (n + wr_c (by_M J) (j)) (wr_f (by_M J) n f (j)))) := by
  intro k
  induction k with
  | zero =>
    intro j hj hK
    have hj8 : j = 8 := by omega
    subst hj8
    refine aw_loc at_100_56 rfl rfl ?_
    refine aw_pure at_100_58 rfl rfl ?_
    exact aw_icmp at_100_60 (fun _ => hK) (fun z => absurd (by unfold ai_cmp; decide) z)
  | succ k ih =>
    intro j hj hK
    refine aw_loc at_100_56 rfl rfl ?_
    refine aw_pure at_100_58 rfl rfl ?_
    refine aw_icmp at_100_60 (fun z => absurd ((i32_le (a := 8) (b := j) (by decide) (by omega)).mp z) (by omega)) (fun _ => ?_)
    refine aw_loc at_100_63 rfl rfl ?_
    refine aw_loc at_100_64 rfl rfl ?_
    refine aw_cs [.long J, .int (Int32.ofNat (j))] [] at_100_66 rfl mt_12_81 (Or.inl rfl) rfl rfl (Nat.le_of_ble_eq_true rfl) (r_byteOf.mono ?_)
    rintro v S' ⟨rfl, rfl⟩
    refine aw_if at_100_69 (fun z => ?_) (fun z => ?_)
    · show ai_aw L xs _ ai_m100 Q (97, _, _, _)
      have hb : by_M J j = 0 := z
      have hc : wr_c (by_M J) (j + 1) = wr_c (by_M J) j := by show wr_c (by_M J) j + _ = _; rw [if_pos hb]; rfl
      have hf : wr_f (by_M J) n f (j + 1) = wr_f (by_M J) n f j := if_pos hb
      refine aw_loc at_100_97 rfl rfl ?_
      refine aw_goto at_100_100 ?_
      have := ih (j + 1) (by omega) hK
      rw [hc, hf, ← i32_succ j] at this
      exact this
    · show ai_aw L xs _ ai_m100 Q (72, _, _, _)
      have hb : ¬ by_M J j = 0 := z
      have hc : wr_c (by_M J) (j + 1) = wr_c (by_M J) j + 1 := by show wr_c (by_M J) j + _ = _; rw [if_neg hb]
      have hf : wr_f (by_M J) n f (j + 1) = upd (wr_f (by_M J) n f j) (n + wr_c (by_M J) j) (by_M J j) := if_neg hb
      have hlt : n + wr_c (by_M J) j < 60 := by
        have h9 := wr_c_mono (by_M J) (j + 1) k
        rw [show j + 1 + k = 8 by omega] at h9
        omega
      have ho1 := md_obj (x1 := x1) (x2 := x2) (D := D) (r := r) (n := n + wr_c (by_M J) j) (f := wr_f (by_M J) n f j) hl
      have hc1 := md_arr (x1 := x1) (x2 := x2) (D := D) (r := r) (n := n + wr_c (by_M J) j) (f := wr_f (by_M J) n f j) hl
      refine aw_loc at_100_72 rfl rfl ?_
      refine aw_get at_100_73 rfl fl_12_16 ho1 rfl ?_
      refine aw_loc at_100_76 rfl rfl ?_
      refine aw_get at_100_77 rfl fl_12_85 ho1 rfl ?_
      refine aw_loc at_100_80 rfl rfl ?_
      refine aw_loc at_100_81 rfl rfl ?_
      refine aw_cs [.long J, .int (Int32.ofNat (j))] [.int (Int32.ofNat (n + wr_c (by_M J) j)), .ref 435] at_100_83 rfl mt_12_81 (Or.inl rfl) rfl rfl (Nat.le_of_ble_eq_true rfl) (r_byteOf.mono ?_)
      rintro v S' ⟨rfl, rfl⟩
      refine aw_iast at_100_86 rfl hc1 (i32_inb hlt (by decide)) ?_
      rw [Int32.toNatClampNeg_ofNat_of_lt (by omega)]
      have ho2 := (ai_obj_wr (a := 435) (x := .inl (0, ai_I 60 (upd (wr_f (by_M J) n f j) (n + wr_c (by_M J) j) (by_M J j)))) (show 432 ≠ 435 by decide)).trans ho1
      refine aw_loc at_100_87 rfl rfl ?_
      refine aw_pure at_100_88 rfl rfl ?_
      refine aw_get at_100_89 rfl fl_12_85 ho2 rfl ?_
      refine aw_pure at_100_92 rfl rfl ?_
      refine aw_pure at_100_93 rfl rfl ?_
      refine aw_put at_100_94 rfl fl_12_85 ho2 (Nat.le_of_ble_eq_true rfl) rfl (by decide +kernel) ?_
      refine aw_loc at_100_97 rfl rfl ?_
      refine aw_goto at_100_100 ?_
      have := ih (j + 1) (by omega) hK
      rw [hc, hf, ← i32_succ j, ← Nat.add_assoc] at this
      rw [← md_step (f := wr_f (by_M J) n f j) (congrArg Value.int (i32_succ (n + wr_c (by_M J) j)))] at this
      exact this
set_option maxHeartbeats 2000000 in
theorem r_append {J : Int64} {n : Nat} {f : Nat → Int32} (hn : n ≤ 60) (ho : ai_obj S 4 2 = some [.ref 5, .int (Int32.ofNat n)]) (hc : ai_arr S 5 1 = some (60, f)) : ai_rn L xs (d + 2) 17 [.ref 4, .long J] S (fun v S' => (60 < n + wr_c (by_C J) 8 → v = some (.int 0) ∧ S' = S) ∧ (n + wr_c (by_C J) 8 ≤ 60 → v = some (.int 1) ∧ S' = dr_put S (n + wr_c (by_C J) 8) (wr_f (by_C J) n f 8))) := by
  have hl : 5 < S.1 := (ai_arr_inv hc).1
  refine ai_rn_of (M := ai_m17) rfl (by decide) (Nat.le_of_ble_eq_true rfl) ?_
  refine aw_pure at_17_0 rfl rfl ?_
  refine aw_loc at_17_1 rfl rfl ?_
  refine aw_pure at_17_2 rfl rfl ?_
  refine aw_loc at_17_3 rfl rfl ?_
  refine r_app1 8 0 rfl ?_
  refine aw_loc at_17_35 rfl rfl ?_
  refine aw_get at_17_36 rfl fl_1_15 ho rfl ?_
  refine aw_loc at_17_39 rfl rfl ?_
  refine aw_pure at_17_40 rfl rfl ?_
  refine aw_pure at_17_41 rfl rfl ?_
  have h8 := wr_c_le (by_C J) 8
  rw [← Int32.ofNat_add]
  refine aw_icmp at_17_43 (fun z => ?_) (fun z => ?_)
  · have hle : n + wr_c (by_C J) 8 ≤ 60 := (i32_le (by omega) (by decide)).mp z
    show ai_aw L xs _ ai_m17 _ (48, _, _, _)
    refine aw_pure at_17_48 rfl rfl ?_
    refine aw_loc at_17_49 rfl rfl ?_
    have := r_app2 (L := L) (xs := xs) (d := d) (S := S) (J := J) (Q := fun o => ∃ v S', o = (.inl v, S') ∧ (60 < n + wr_c (by_C J) 8 → v = some (.int 0) ∧ S' = S) ∧ (n + wr_c (by_C J) 8 ≤ 60 → v = some (.int 1) ∧ S' = dr_put S (n + wr_c (by_C J) 8) (wr_f (by_C J) n f 8))) (m := Int32.ofNat (wr_c (by_C J) 8)) (n := n) (f := f) hle hl 8 0 rfl ?_
    · rw [show dr_put S (n + wr_c (by_C J) 0) (wr_f (by_C J) n f 0) = S from dr_self ho hc] at this
      exact this
    · skip
      refine aw_pure at_17_98 rfl rfl ?_
      exact aw_ret at_17_99 rfl rfl ⟨_, _, rfl, fun z9 => absurd z9 (by omega), fun _ => ⟨rfl, rfl⟩⟩
  · have hgt : 60 < n + wr_c (by_C J) 8 := by
      have := mt (i32_le (a := n + wr_c (by_C J) 8) (b := 60) (by omega) (by decide)).mpr z
      omega
    refine aw_pure at_17_46 rfl rfl ?_
    exact aw_ret at_17_47 rfl rfl ⟨_, _, rfl, fun _ => ⟨rfl, rfl⟩, fun z9 => absurd z9 (by omega)⟩
theorem r_write {J : Int64} {n a b c : Nat} {f : Nat → Int32} (hn : n ≤ 60) (h0 : ai_obj S 0 0 = some [.ref a, .ref 4, .ref b, .ref c]) (ho : ai_obj S 4 2 = some [.ref 5, .int (Int32.ofNat n)]) (hc : ai_arr S 5 1 = some (60, f)) : ai_rn L xs (d + 3) 1 [.ref 0, .long J] S (fun v S' => (60 < n + wr_c (by_C J) 8 → v = some (.int 0) ∧ S' = S) ∧ (n + wr_c (by_C J) 8 ≤ 60 → v = some (.int 1) ∧ S' = dr_put S (n + wr_c (by_C J) 8) (wr_f (by_C J) n f 8))) := by
  refine ai_rn_of (M := ai_m1) rfl (by decide) (Nat.le_of_ble_eq_true rfl) ?_
  refine aw_loc at_1_0 rfl rfl ?_
  refine aw_get at_1_1 rfl fl_0_19 h0 rfl ?_
  refine aw_loc at_1_4 rfl rfl ?_
  refine aw_cv (a := 4) [.long J] [] at_1_5 mt_0_64 (Or.inl rfl) rfl rfl (Nat.le_of_ble_eq_true rfl) ⟨_, ho⟩ ((r_append hn ho hc).mono ?_)
  rintro v S' ⟨h1, h2⟩
  by_cases hle : n + wr_c (by_C J) 8 ≤ 60
  · obtain ⟨rfl, rfl⟩ := h2 hle
    exact aw_ret at_1_8 rfl rfl ⟨_, _, rfl, fun z9 => absurd z9 (by omega), fun _ => ⟨rfl, rfl⟩⟩
  · obtain ⟨rfl, rfl⟩ := h1 (by omega)
    exact aw_ret at_1_8 rfl rfl ⟨_, _, rfl, fun _ => ⟨rfl, rfl⟩, fun z9 => absurd z9 (by omega)⟩
set_option maxHeartbeats 2000000 in
theorem r_m_write {J : Int64} {n x1 x2 : Nat} {T D : Int32} {r : List Value} {f : Nat → Int32} (hn : n ≤ 60) (ho : ai_obj S 432 11 = some (.int T :: .ref x1 :: .ref x2 :: .int D :: .int (Int32.ofNat n) :: .ref 435 :: r)) (hc : ai_arr S 435 0 = some (60, f)) : ai_rn L xs (d + 2) 100 [.ref 432, .long J] S (fun v S' => (60 < n + wr_c (by_M J) 8 → v = some (.int 0) ∧ S' = md_put S x1 x2 D r n f) ∧ (n + wr_c (by_M J) 8 ≤ 60 → v = some (.int 1) ∧ S' = md_put S x1 x2 D r (n + wr_c (by_M J) 8) (wr_f (by_M J) n f 8))) := by
  have hl : 435 < S.1 := (ai_arr_inv hc).1
  refine ai_rn_of (M := ai_m100) rfl (by decide) (Nat.le_of_ble_eq_true rfl) ?_
  refine aw_loc at_100_0 rfl rfl ?_
  refine aw_pure at_100_1 rfl rfl ?_
  refine aw_put at_100_2 rfl fl_12_68 ho (Nat.succ_pos _) rfl (by decide +kernel) ?_
  change ai_aw L xs (d + 1) ai_m100 _ (5, _, _, ai_wr S 432 (.inr (11, .int 0 :: .ref x1 :: .ref x2 :: .int D :: .int (Int32.ofNat n) :: .ref 435 :: r)))
  rw [md_self (T := T) hc]
  have ho1 := md_obj (S := S) (x1 := x1) (x2 := x2) (D := D) (r := r) (n := n) (f := f) hl
  refine aw_pure at_100_5 rfl rfl ?_
  refine aw_loc at_100_6 rfl rfl ?_
  refine aw_pure at_100_7 rfl rfl ?_
  refine aw_loc at_100_8 rfl rfl ?_
  refine r_wri1 8 0 rfl ?_
  refine aw_loc at_100_40 rfl rfl ?_
  refine aw_get at_100_41 rfl fl_12_85 ho1 rfl ?_
  refine aw_loc at_100_44 rfl rfl ?_
  refine aw_pure at_100_45 rfl rfl ?_
  refine aw_pure at_100_46 rfl rfl ?_
  have h8 := wr_c_le (by_M J) 8
  rw [← Int32.ofNat_add]
  refine aw_icmp at_100_48 (fun z => ?_) (fun z => ?_)
  · have hle : n + wr_c (by_M J) 8 ≤ 60 := (i32_le (by omega) (by decide)).mp z
    show ai_aw L xs _ ai_m100 _ (53, _, _, _)
    refine aw_pure at_100_53 rfl rfl ?_
    refine aw_loc at_100_54 rfl rfl ?_
    refine r_wri2 (n := n) (f := f) hle hl 8 0 rfl ?_
    refine aw_pure at_100_103 rfl rfl ?_
    exact aw_ret at_100_104 rfl rfl ⟨_, _, rfl, fun z9 => absurd z9 (by omega), fun _ => ⟨rfl, rfl⟩⟩
  · have hgt : 60 < n + wr_c (by_M J) 8 := by
      have := mt (i32_le (a := n + wr_c (by_M J) 8) (b := 60) (by omega) (by decide)).mpr z
      omega
    refine aw_pure at_100_51 rfl rfl ?_
    exact aw_ret at_100_52 rfl rfl ⟨_, _, rfl, fun _ => ⟨rfl, rfl⟩, fun z9 => absurd z9 (by omega)⟩
end WR

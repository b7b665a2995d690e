/-! The law's own walk: one turn after the other, for what the calls do is left free. -/
/-- the method comes back, with that -/
def ai_rn (L : Nat) (xs : Nat → Int32) (d mi : Nat) (as : List Value) (S : ai_S) (Q : Option Value → ai_S → Prop) : Prop := ∃ v S', ai_run L xs d mi as S (.inl v, S') ∧ Q v S'
section LW
variable {L : Nat} {xs : Nat → Int32} {d : Nat} {M : ai_M} {Q : ai_O → Prop} {pc len : Nat} {lv lv' : ai_L} {st st' : List Value} {S S' : ai_S} {i : Instr}
theorem ai_rn.mono {mi : Nat} {as : List Value} {P P' : Option Value → ai_S → Prop} (h : ai_rn L xs d mi as S P) (k : ∀ v S', P v S' → P' v S') : ai_rn L xs d mi as S P' := by
  obtain ⟨v, S', h1, h2⟩ := h
  exact ⟨v, S', h1, k _ _ h2⟩
theorem aw_cv {x kd mi na ci a : Nat} (args rest : List Value) (ha : ai_at M pc = some (.invokevirtual x, len)) (hm : ai_mth (ai_oi M) x = some (kd, mi, na, ci)) (hk : kd = 0 ∨ kd = 1) (hst : st = args.reverse ++ .ref a :: rest) (hl : args.length = na) (hs : ai_sum rest ≤ 8) (ho : ∃ fs, ai_obj S a ci = some fs)
    (k : ai_rn L xs d mi (.ref a :: args) S fun v S' => ai_aw L xs d M Q (pc + 3, lv, v.toList ++ rest, S')) : ai_aw L xs d M Q (pc, lv, st, S) := by
  obtain ⟨fs, ho⟩ := ho
  obtain ⟨v, S', h1, h2⟩ := k
  subst hst
  refine aw_callV (rest := rest) ha hm hk ?_ ?_ hs ho rfl ⟨(.inl v, S'), ?_, h2⟩
  · rw [List.drop_left' (by rw [List.length_reverse, hl])]
  · rw [List.length_append, List.length_reverse, hl]; exact Nat.le_add_right _ _
  · rw [List.take_left' (by rw [List.length_reverse, hl]), List.reverse_reverse]; exact h1
theorem aw_cs {x kd mi na ci : Nat} (args rest : List Value) (ha : ai_at M pc = some (.invokestatic x, len)) (hx : ai_isCpy (ai_oi M) x = false) (hm : ai_mth (ai_oi M) x = some (kd, mi, na, ci)) (hk : kd = 2 ∨ kd = 3 ∨ kd = 6) (hst : st = args.reverse ++ rest) (hl : args.length = na) (hs : ai_sum rest ≤ 8)
    (k : ai_rn L xs d mi args S fun v S' => ai_aw L xs d M Q (pc + 3, lv, v.toList ++ rest, S')) : ai_aw L xs d M Q (pc, lv, st, S) := by
  obtain ⟨v, S', h1, h2⟩ := k
  subst hst
  refine aw_callS (rest := rest) ha hx hm hk ?_ ?_ hs rfl ⟨(.inl v, S'), ?_, h2⟩
  · rw [List.drop_left' (by rw [List.length_reverse, hl])]
  · rw [List.length_append, List.length_reverse, hl]; exact Nat.le_add_right _ _
  · rw [List.take_left' (by rw [List.length_reverse, hl]), List.reverse_reverse]; exact h1
theorem aw_ci {x kd mi na ci a : Nat} (args rest : List Value) (ha : ai_at M pc = some (.invokespecial x, len)) (hx : ai_isObj (ai_oi M) x = false) (hm : ai_mth (ai_oi M) x = some (kd, mi, na, ci)) (hk : kd = 4 ∨ kd = 5) (hst : st = args.reverse ++ .ref a :: rest) (hl : args.length = na) (hs : ai_sum rest ≤ 8) (ho : ∃ fs, ai_obj S a ci = some fs)
    (k : ai_rn L xs d mi (.ref a :: args) S fun v S' => ai_aw L xs d M Q (pc + 3, lv, v.toList ++ rest, S')) : ai_aw L xs d M Q (pc, lv, st, S) := by
  obtain ⟨fs, ho⟩ := ho
  obtain ⟨v, S', h1, h2⟩ := k
  subst hst
  refine aw_callI (rest := rest) ha hx hm hk ?_ ?_ hs ho rfl ⟨(.inl v, S'), ?_, h2⟩
  · rw [List.drop_left' (by rw [List.length_reverse, hl])]
  · rw [List.length_append, List.length_reverse, hl]; exact Nat.le_add_right _ _
  · rw [List.take_left' (by rw [List.length_reverse, hl]), List.reverse_reverse]; exact h1
/-- a run out of a walk that ends by 'return' -/
theorem ai_rn_of {mi : Nat} {as : List Value} {P : Option Value → ai_S → Prop} (hM : ai_MT[mi]? = some M) (ho : ai_oi M ≠ 99) (he : (ai_ent as).length ≤ ai_nL M) (h : ai_aw L xs d M (fun o => ∃ v S', o = (.inl v, S') ∧ P v S') (0, ai_in M as, [], S)) : ai_rn L xs (d + 1) mi as S P := by
  obtain ⟨o, h1, v, S', rfl, h2⟩ := ai_run_of hM ho he h
  exact ⟨v, S', h1, h2⟩
theorem ai_thr159 (pc : Nat) : ai_thr ai_m159 pc = none := rfl
theorem i32_add3 (t : Nat) : Int32.ofNat (3 * t) + Int32.ofInt 3 = Int32.ofNat (3 * (t + 1)) := by
  rw [show 3 * (t + 1) = 3 * t + 3 from rfl, Int32.ofNat_add]; rfl
theorem i32_add1 (t : Nat) : Int32.ofNat (3 * t) + Int32.ofInt 1 = Int32.ofNat (3 * t + 1) := by rw [Int32.ofNat_add]; rfl
theorem i32_add2 (t : Nat) : Int32.ofNat (3 * t) + Int32.ofInt 2 = Int32.ofNat (3 * t + 2) := by rw [Int32.ofNat_add]; rfl
theorem i32_inb {k n : Nat} (h : k < n) (hn : n < 2 ^ 31) : ¬ (Int32.ofNat k < 0 ∨ n ≤ (Int32.ofNat k).toNatClampNeg) := by
  have h1 : (Int32.ofNat k).toInt = k := Int32.toInt_ofNat_of_lt (by omega)
  rw [Int32.toNatClampNeg_ofNat_of_lt (by omega), Int32.lt_iff_toInt_lt, h1]
  have : (0 : Int32).toInt = 0 := rfl
  omega
theorem i32_head {t L : Nat} (hL : L ≤ 1536) (ht : 3 * t ≤ 1536) : (Int32.ofNat L - Int32.ofInt 3 < Int32.ofNat (3 * t)) ↔ L < 3 * t + 3 := by
  have h1 : (Int32.ofNat (3 * t)).toInt = ((3 * t : Nat) : Int) := Int32.toInt_ofNat_of_lt (by omega)
  have h2 : (Int32.ofNat L).toInt = (L : Int) := Int32.toInt_ofNat_of_lt (by omega)
  have h3 : (Int32.ofNat L - Int32.ofInt 3).toInt = (L : Int) - 3 := by
    rw [Int32.toInt_sub, h2, show (Int32.ofInt 3).toInt = 3 from rfl]
    exact Int.bmod_eq_of_le (by omega) (by omega)
  rw [Int32.lt_iff_toInt_lt, h1, h3]
  omega
/-- the law reads its script -/
theorem aw_sld {k : Nat} {j : Int32} {r : List Value} (ha : ai_at ai_m159 pc = some (.iaload, 1)) (hk : k < L) (hL : L ≤ 1536) (hj : j = Int32.ofNat k) (kk : ai_aw L xs d ai_m159 Q (pc + 1, lv, .int (xs k) :: r, S)) : ai_aw L xs d ai_m159 Q (pc, lv, .int j :: .retAddr 0 :: r, S) := by
  subst hj
  refine aw_scr ha rfl (Or.inl rfl) (fun j a r h => by cases h) (fun a r h => by cases h) ?_ kk
  show (if Int32.ofNat k < 0 ∨ L ≤ (Int32.ofNat k).toNatClampNeg then none else some (.int (xs (Int32.ofNat k).toNatClampNeg) :: r)) = _
  rw [if_neg (i32_inb hk (by omega)), Int32.toNatClampNeg_ofNat_of_lt (by omega)]
theorem aw_slen {r : List Value} (ha : ai_at ai_m159 pc = some (.arraylength, 1)) (kk : ai_aw L xs d ai_m159 Q (pc + 1, lv, .int (Int32.ofNat L) :: r, S)) : ai_aw L xs d ai_m159 Q (pc, lv, .retAddr 0 :: r, S) :=
  aw_scr ha rfl (Or.inr rfl) (fun j a r h => by cases h) (fun a r h => by cases h) rfl kk
end LW
/-- both objects and the row for answers are there -/
def ai_prs (S : ai_S) : Prop := (∃ fs, ai_obj S 0 0 = some fs) ∧ (∃ fs, ai_obj S 432 11 = some fs) ∧ ∃ f, ai_arrJ S 452 3 = some (1, f)
def ai_chr (x : Int32) : Int32 := (x.toUInt32 % 65536).toInt32
def ai_lng (a b : Int32) : Int64 := (a.toInt64 <<< ((32 : Int32).toInt64 &&& 63)) ||| (b.toInt64 &&& 4294967295)
/-- a call that can throw, through its helper, then the reference's, then what that threw -/
def ai_opT (L : Nat) (xs : Nat → Int32) (d h m : Nat) (ha ma : List Value) (I : ai_S → Prop) (S : ai_S) : Prop :=
  ai_rn L xs d h ha S fun v S1 => ai_prs S1 ∧ ai_rn L xs d m ma S1 fun w S2 => ai_prs S2 ∧ ai_rn L xs d 97 [.ref 432] S2 fun u S3 => ai_prs S3 ∧ ∃ k b : Int32, v = some (.int k) ∧ w = some (.int b) ∧ u = some (.int k) ∧ (k = 0 → ∃ f, ai_arrJ S3 452 3 = some (1, f) ∧ f 0 = b.toInt64) ∧ I S3
def ai_opV (L : Nat) (xs : Nat → Int32) (d c m : Nat) (ca ma : List Value) (I : ai_S → Prop) (S : ai_S) : Prop :=
  ai_rn L xs d c ca S fun v S1 => ai_prs S1 ∧ ai_rn L xs d m ma S1 fun w S2 => ai_prs S2 ∧ ∃ k : Int32, v = some (.int k) ∧ w = some (.int k) ∧ I S2
def ai_opN (L : Nat) (xs : Nat → Int32) (d c m : Nat) (ca ma : List Value) (I : ai_S → Prop) (S : ai_S) : Prop :=
  ai_rn L xs d c ca S fun v S1 => ai_prs S1 ∧ ai_rn L xs d m ma S1 fun w S2 => ai_prs S2 ∧ v = none ∧ w = none ∧ I S2
def ai_opD (L : Nat) (xs : Nat → Int32) (d : Nat) (ha ma : List Value) (I : ai_S → Prop) (S : ai_S) : Prop :=
  ai_rn L xs d 91 ha S fun v S1 => ai_prs S1 ∧ ai_rn L xs d 98 ma S1 fun w S2 => ai_prs S2 ∧ ai_rn L xs d 97 [.ref 432] S2 fun u S3 => ai_prs S3 ∧ ∃ k : Int32, v = some (.int k) ∧ w = none ∧ u = some (.int k) ∧ I S3
/-- what a turn with the call's number n and its two numbers owes -/
def ai_op (L : Nat) (xs : Nat → Int32) (d : Nat) (n A B : Int32) (I : ai_S → Prop) (S : ai_S) : Prop :=
  (n = 0 → ai_opD L xs d [.ref 0, .int (ai_chr A), .int B] [.ref 432, .int (ai_chr A), .int B] I S) ∧
  (n = 1 → ai_opV L xs d 1 100 [.ref 0, .long (ai_lng A B)] [.ref 432, .long (ai_lng A B)] I S) ∧
  (n = 2 → ai_opN L xs d 2 102 [.ref 0] [.ref 432] I S) ∧
  (n = 3 → ai_opT L xs d 92 104 [.ref 0, .ref 452] [.ref 432] I S) ∧
  (n = 4 → ai_opT L xs d 93 112 [.ref 0, .int A, .ref 452] [.ref 432, .int A] I S) ∧
  (n = 5 → ai_opV L xs d 3 148 [.ref 0] [.ref 432] I S) ∧
  (n = 6 → ai_opV L xs d 4 149 [.ref 0] [.ref 432] I S) ∧
  (n = 7 → ai_opV L xs d 5 150 [.ref 0] [.ref 432] I S) ∧
  (n = 8 → ai_opV L xs d 6 151 [.ref 0, .int A, .int B] [.ref 432, .int A, .int B] I S) ∧
  (n = 9 → ai_opV L xs d 7 154 [.ref 0, .int A, .int B] [.ref 432, .int A, .int B] I S) ∧
  (n = 10 → ai_opT L xs d 94 155 [.ref 0, .ref 452] [.ref 432] I S) ∧
  (n = 11 → ai_opT L xs d 95 156 [.ref 0, .ref 452] [.ref 432] I S) ∧
  (n = 12 → ai_opV L xs d 8 103 [.ref 0, .int A] [.ref 432, .int A] I S) ∧
  (n = 13 → ai_opN L xs d 9 157 [.ref 0] [.ref 432] I S) ∧
  ((n = 14 ∨ n = 15) → I S)
section LB
variable {L : Nat} {xs : Nat → Int32} {d t : Nat} {Q : ai_O → Prop} {S : ai_S} {v5 v6 : Option Value}
/-- the law's locals in its loop -/
abbrev lw_lv (i : Int32) (v5 v6 : Option Value) : ai_L := [some (.retAddr 0), some (.ref 0), some (.ref 432), some (.ref 452), some (.int i), v5, v6]
theorem lg_cmp_self (x : Int64) : lg_cmp x x = 0 := by simp [lg_cmp]
theorem lw_eqv (k : Int32) {A B : Prop} (h : A) : (ai_cmp .eq k k → A) ∧ (¬ ai_cmp .eq k k → B) := ⟨fun _ => h, fun z => absurd rfl z⟩
theorem at_159_23 : ai_at ai_m159 23 = some (.iload 4, 2) := rfl
theorem at_159_25 : ai_at ai_m159 25 = some (.aload_n 0, 1) := rfl
theorem at_159_26 : ai_at ai_m159 26 = some (.arraylength, 1) := rfl
theorem at_159_27 : ai_at ai_m159 27 = some (.iconst 3, 1) := rfl
theorem at_159_28 : ai_at ai_m159 28 = some (.isub, 1) := rfl
theorem at_159_29 : ai_at ai_m159 29 = some (.if_icmp .gt 540, 3) := rfl
theorem at_159_32 : ai_at ai_m159 32 = some (.aload_n 0, 1) := rfl
theorem at_159_33 : ai_at ai_m159 33 = some (.iload 4, 2) := rfl
theorem at_159_35 : ai_at ai_m159 35 = some (.iaload, 1) := rfl
theorem at_159_36 : ai_at ai_m159 36 = some (.bipush 15, 2) := rfl
theorem at_159_38 : ai_at ai_m159 38 = some (.iand, 1) := rfl
theorem at_159_39 : ai_at ai_m159 39 = some (.tableswitch 524 0 13 #[69, 119, 176, 187, 231, 287, 300, 313, 326, 363, 400, 444, 488, 513], 69) := rfl
theorem at_159_108 : ai_at ai_m159 108 = some (.aload_n 1, 1) := rfl
theorem at_159_109 : ai_at ai_m159 109 = some (.aload_n 0, 1) := rfl
theorem at_159_110 : ai_at ai_m159 110 = some (.iload 4, 2) := rfl
theorem at_159_112 : ai_at ai_m159 112 = some (.iconst 1, 1) := rfl
theorem at_159_113 : ai_at ai_m159 113 = some (.iadd, 1) := rfl
theorem at_159_114 : ai_at ai_m159 114 = some (.iaload, 1) := rfl
theorem at_159_115 : ai_at ai_m159 115 = some (.i2c, 1) := rfl
theorem at_159_116 : ai_at ai_m159 116 = some (.aload_n 0, 1) := rfl
theorem at_159_117 : ai_at ai_m159 117 = some (.iload 4, 2) := rfl
theorem at_159_119 : ai_at ai_m159 119 = some (.iconst 2, 1) := rfl
theorem at_159_120 : ai_at ai_m159 120 = some (.iadd, 1) := rfl
theorem at_159_121 : ai_at ai_m159 121 = some (.iaload, 1) := rfl
theorem at_159_122 : ai_at ai_m159 122 = some (.invokestatic 37, 3) := rfl
theorem at_159_125 : ai_at ai_m159 125 = some (.istore 5, 2) := rfl
theorem at_159_127 : ai_at ai_m159 127 = some (.aload_n 2, 1) := rfl
theorem at_159_128 : ai_at ai_m159 128 = some (.aload_n 0, 1) := rfl
theorem at_159_129 : ai_at ai_m159 129 = some (.iload 4, 2) := rfl
theorem at_159_131 : ai_at ai_m159 131 = some (.iconst 1, 1) := rfl
theorem at_159_132 : ai_at ai_m159 132 = some (.iadd, 1) := rfl
theorem at_159_133 : ai_at ai_m159 133 = some (.iaload, 1) := rfl
theorem at_159_134 : ai_at ai_m159 134 = some (.i2c, 1) := rfl
theorem at_159_135 : ai_at ai_m159 135 = some (.aload_n 0, 1) := rfl
theorem at_159_136 : ai_at ai_m159 136 = some (.iload 4, 2) := rfl
theorem at_159_138 : ai_at ai_m159 138 = some (.iconst 2, 1) := rfl
theorem at_159_139 : ai_at ai_m159 139 = some (.iadd, 1) := rfl
theorem at_159_140 : ai_at ai_m159 140 = some (.iaload, 1) := rfl
theorem at_159_141 : ai_at ai_m159 141 = some (.invokevirtual 42, 3) := rfl
theorem at_159_144 : ai_at ai_m159 144 = some (.aload_n 2, 1) := rfl
theorem at_159_145 : ai_at ai_m159 145 = some (.invokevirtual 43, 3) := rfl
theorem at_159_148 : ai_at ai_m159 148 = some (.iload 5, 2) := rfl
theorem at_159_150 : ai_at ai_m159 150 = some (.if_icmp .eq 5, 3) := rfl
theorem at_159_155 : ai_at ai_m159 155 = some (.goto 408, 3) := rfl
theorem at_159_158 : ai_at ai_m159 158 = some (.aload_n 1, 1) := rfl
theorem at_159_159 : ai_at ai_m159 159 = some (.aload_n 0, 1) := rfl
theorem at_159_160 : ai_at ai_m159 160 = some (.iload 4, 2) := rfl
theorem at_159_162 : ai_at ai_m159 162 = some (.iconst 1, 1) := rfl
theorem at_159_163 : ai_at ai_m159 163 = some (.iadd, 1) := rfl
theorem at_159_164 : ai_at ai_m159 164 = some (.iaload, 1) := rfl
theorem at_159_165 : ai_at ai_m159 165 = some (.i2l, 1) := rfl
theorem at_159_166 : ai_at ai_m159 166 = some (.bipush 32, 2) := rfl
theorem at_159_168 : ai_at ai_m159 168 = some (.lshl, 1) := rfl
theorem at_159_169 : ai_at ai_m159 169 = some (.aload_n 0, 1) := rfl
theorem at_159_170 : ai_at ai_m159 170 = some (.iload 4, 2) := rfl
theorem at_159_172 : ai_at ai_m159 172 = some (.iconst 2, 1) := rfl
theorem at_159_173 : ai_at ai_m159 173 = some (.iadd, 1) := rfl
theorem at_159_174 : ai_at ai_m159 174 = some (.iaload, 1) := rfl
theorem at_159_175 : ai_at ai_m159 175 = some (.i2l, 1) := rfl
theorem at_159_176 : ai_at ai_m159 176 = some (.ldc2_w 46, 3) := rfl
theorem at_159_179 : ai_at ai_m159 179 = some (.land, 1) := rfl
theorem at_159_180 : ai_at ai_m159 180 = some (.lor, 1) := rfl
theorem at_159_181 : ai_at ai_m159 181 = some (.invokevirtual 48, 3) := rfl
theorem at_159_184 : ai_at ai_m159 184 = some (.aload_n 2, 1) := rfl
theorem at_159_185 : ai_at ai_m159 185 = some (.aload_n 0, 1) := rfl
theorem at_159_186 : ai_at ai_m159 186 = some (.iload 4, 2) := rfl
theorem at_159_188 : ai_at ai_m159 188 = some (.iconst 1, 1) := rfl
theorem at_159_189 : ai_at ai_m159 189 = some (.iadd, 1) := rfl
theorem at_159_190 : ai_at ai_m159 190 = some (.iaload, 1) := rfl
theorem at_159_191 : ai_at ai_m159 191 = some (.i2l, 1) := rfl
theorem at_159_192 : ai_at ai_m159 192 = some (.bipush 32, 2) := rfl
theorem at_159_194 : ai_at ai_m159 194 = some (.lshl, 1) := rfl
theorem at_159_195 : ai_at ai_m159 195 = some (.aload_n 0, 1) := rfl
theorem at_159_196 : ai_at ai_m159 196 = some (.iload 4, 2) := rfl
theorem at_159_198 : ai_at ai_m159 198 = some (.iconst 2, 1) := rfl
theorem at_159_199 : ai_at ai_m159 199 = some (.iadd, 1) := rfl
theorem at_159_200 : ai_at ai_m159 200 = some (.iaload, 1) := rfl
theorem at_159_201 : ai_at ai_m159 201 = some (.i2l, 1) := rfl
theorem at_159_202 : ai_at ai_m159 202 = some (.ldc2_w 46, 3) := rfl
theorem at_159_205 : ai_at ai_m159 205 = some (.land, 1) := rfl
theorem at_159_206 : ai_at ai_m159 206 = some (.lor, 1) := rfl
theorem at_159_207 : ai_at ai_m159 207 = some (.invokevirtual 52, 3) := rfl
theorem at_159_210 : ai_at ai_m159 210 = some (.if_icmp .eq 353, 3) := rfl
theorem at_159_215 : ai_at ai_m159 215 = some (.aload_n 1, 1) := rfl
theorem at_159_216 : ai_at ai_m159 216 = some (.invokevirtual 53, 3) := rfl
theorem at_159_219 : ai_at ai_m159 219 = some (.aload_n 2, 1) := rfl
theorem at_159_220 : ai_at ai_m159 220 = some (.invokevirtual 56, 3) := rfl
theorem at_159_223 : ai_at ai_m159 223 = some (.goto 340, 3) := rfl
theorem at_159_226 : ai_at ai_m159 226 = some (.aload_n 1, 1) := rfl
theorem at_159_227 : ai_at ai_m159 227 = some (.aload_n 3, 1) := rfl
theorem at_159_228 : ai_at ai_m159 228 = some (.invokestatic 57, 3) := rfl
theorem at_159_231 : ai_at ai_m159 231 = some (.istore 5, 2) := rfl
theorem at_159_233 : ai_at ai_m159 233 = some (.aload_n 2, 1) := rfl
theorem at_159_234 : ai_at ai_m159 234 = some (.invokevirtual 60, 3) := rfl
theorem at_159_237 : ai_at ai_m159 237 = some (.istore 6, 2) := rfl
theorem at_159_239 : ai_at ai_m159 239 = some (.aload_n 2, 1) := rfl
theorem at_159_240 : ai_at ai_m159 240 = some (.invokevirtual 43, 3) := rfl
theorem at_159_243 : ai_at ai_m159 243 = some (.iload 5, 2) := rfl
theorem at_159_245 : ai_at ai_m159 245 = some (.if_icmp .eq 5, 3) := rfl
theorem at_159_250 : ai_at ai_m159 250 = some (.iload 5, 2) := rfl
theorem at_159_252 : ai_at ai_m159 252 = some (.ifCond .ne 15, 3) := rfl
theorem at_159_255 : ai_at ai_m159 255 = some (.aload_n 3, 1) := rfl
theorem at_159_256 : ai_at ai_m159 256 = some (.iconst 0, 1) := rfl
theorem at_159_257 : ai_at ai_m159 257 = some (.laload, 1) := rfl
theorem at_159_258 : ai_at ai_m159 258 = some (.iload 6, 2) := rfl
theorem at_159_260 : ai_at ai_m159 260 = some (.i2l, 1) := rfl
theorem at_159_261 : ai_at ai_m159 261 = some (.lcmp, 1) := rfl
theorem at_159_262 : ai_at ai_m159 262 = some (.ifCond .eq 5, 3) := rfl
theorem at_159_267 : ai_at ai_m159 267 = some (.goto 296, 3) := rfl
theorem at_159_270 : ai_at ai_m159 270 = some (.aload_n 1, 1) := rfl
theorem at_159_271 : ai_at ai_m159 271 = some (.aload_n 0, 1) := rfl
theorem at_159_272 : ai_at ai_m159 272 = some (.iload 4, 2) := rfl
theorem at_159_274 : ai_at ai_m159 274 = some (.iconst 1, 1) := rfl
theorem at_159_275 : ai_at ai_m159 275 = some (.iadd, 1) := rfl
theorem at_159_276 : ai_at ai_m159 276 = some (.iaload, 1) := rfl
theorem at_159_277 : ai_at ai_m159 277 = some (.aload_n 3, 1) := rfl
theorem at_159_278 : ai_at ai_m159 278 = some (.invokestatic 61, 3) := rfl
theorem at_159_281 : ai_at ai_m159 281 = some (.istore 5, 2) := rfl
theorem at_159_283 : ai_at ai_m159 283 = some (.aload_n 2, 1) := rfl
theorem at_159_284 : ai_at ai_m159 284 = some (.aload_n 0, 1) := rfl
theorem at_159_285 : ai_at ai_m159 285 = some (.iload 4, 2) := rfl
theorem at_159_287 : ai_at ai_m159 287 = some (.iconst 1, 1) := rfl
theorem at_159_288 : ai_at ai_m159 288 = some (.iadd, 1) := rfl
theorem at_159_289 : ai_at ai_m159 289 = some (.iaload, 1) := rfl
theorem at_159_290 : ai_at ai_m159 290 = some (.invokevirtual 64, 3) := rfl
theorem at_159_293 : ai_at ai_m159 293 = some (.istore 6, 2) := rfl
theorem at_159_295 : ai_at ai_m159 295 = some (.aload_n 2, 1) := rfl
theorem at_159_296 : ai_at ai_m159 296 = some (.invokevirtual 43, 3) := rfl
theorem at_159_299 : ai_at ai_m159 299 = some (.iload 5, 2) := rfl
set_option maxRecDepth 100000 in
theorem at_159_301 : ai_at ai_m159 301 = some (.if_icmp .eq 5, 3) := rfl
set_option maxRecDepth 100000 in
theorem at_159_306 : ai_at ai_m159 306 = some (.iload 5, 2) := rfl
set_option maxRecDepth 100000 in
theorem at_159_308 : ai_at ai_m159 308 = some (.ifCond .ne 15, 3) := rfl
set_option maxRecDepth 100000 in
theorem at_159_311 : ai_at ai_m159 311 = some (.aload_n 3, 1) := rfl
set_option maxRecDepth 100000 in
theorem at_159_312 : ai_at ai_m159 312 = some (.iconst 0, 1) := rfl
set_option maxRecDepth 100000 in
theorem at_159_313 : ai_at ai_m159 313 = some (.laload, 1) := rfl
set_option maxRecDepth 100000 in
theorem at_159_314 : ai_at ai_m159 314 = some (.iload 6, 2) := rfl
set_option maxRecDepth 100000 in
theorem at_159_316 : ai_at ai_m159 316 = some (.i2l, 1) := rfl
set_option maxRecDepth 100000 in
theorem at_159_317 : ai_at ai_m159 317 = some (.lcmp, 1) := rfl
set_option maxRecDepth 100000 in
theorem at_159_318 : ai_at ai_m159 318 = some (.ifCond .eq 5, 3) := rfl
set_option maxRecDepth 100000 in
theorem at_159_323 : ai_at ai_m159 323 = some (.goto 240, 3) := rfl
set_option maxRecDepth 100000 in
theorem at_159_326 : ai_at ai_m159 326 = some (.aload_n 1, 1) := rfl
set_option maxRecDepth 100000 in
theorem at_159_327 : ai_at ai_m159 327 = some (.invokevirtual 65, 3) := rfl
set_option maxRecDepth 100000 in
theorem at_159_330 : ai_at ai_m159 330 = some (.aload_n 2, 1) := rfl
set_option maxRecDepth 100000 in
theorem at_159_331 : ai_at ai_m159 331 = some (.invokevirtual 68, 3) := rfl
set_option maxRecDepth 100000 in
theorem at_159_334 : ai_at ai_m159 334 = some (.if_icmp .eq 229, 3) := rfl
set_option maxRecDepth 100000 in
theorem at_159_339 : ai_at ai_m159 339 = some (.aload_n 1, 1) := rfl
set_option maxRecDepth 100000 in
theorem at_159_340 : ai_at ai_m159 340 = some (.invokevirtual 69, 3) := rfl
set_option maxRecDepth 100000 in
theorem at_159_343 : ai_at ai_m159 343 = some (.aload_n 2, 1) := rfl
set_option maxRecDepth 100000 in
theorem at_159_344 : ai_at ai_m159 344 = some (.invokevirtual 72, 3) := rfl
set_option maxRecDepth 100000 in
theorem at_159_347 : ai_at ai_m159 347 = some (.if_icmp .eq 216, 3) := rfl
set_option maxRecDepth 100000 in
theorem at_159_352 : ai_at ai_m159 352 = some (.aload_n 1, 1) := rfl
set_option maxRecDepth 100000 in
theorem at_159_353 : ai_at ai_m159 353 = some (.invokevirtual 73, 3) := rfl
set_option maxRecDepth 100000 in
theorem at_159_356 : ai_at ai_m159 356 = some (.aload_n 2, 1) := rfl
set_option maxRecDepth 100000 in
theorem at_159_357 : ai_at ai_m159 357 = some (.invokevirtual 76, 3) := rfl
set_option maxRecDepth 100000 in
theorem at_159_360 : ai_at ai_m159 360 = some (.if_icmp .eq 203, 3) := rfl
set_option maxRecDepth 100000 in
theorem at_159_365 : ai_at ai_m159 365 = some (.aload_n 1, 1) := rfl
set_option maxRecDepth 100000 in
theorem at_159_366 : ai_at ai_m159 366 = some (.aload_n 0, 1) := rfl
set_option maxRecDepth 100000 in
theorem at_159_367 : ai_at ai_m159 367 = some (.iload 4, 2) := rfl
set_option maxRecDepth 100000 in
theorem at_159_369 : ai_at ai_m159 369 = some (.iconst 1, 1) := rfl
set_option maxRecDepth 100000 in
theorem at_159_370 : ai_at ai_m159 370 = some (.iadd, 1) := rfl
set_option maxRecDepth 100000 in
theorem at_159_371 : ai_at ai_m159 371 = some (.iaload, 1) := rfl
set_option maxRecDepth 100000 in
theorem at_159_372 : ai_at ai_m159 372 = some (.aload_n 0, 1) := rfl
set_option maxRecDepth 100000 in
theorem at_159_373 : ai_at ai_m159 373 = some (.iload 4, 2) := rfl
set_option maxRecDepth 100000 in
theorem at_159_375 : ai_at ai_m159 375 = some (.iconst 2, 1) := rfl
set_option maxRecDepth 100000 in
theorem at_159_376 : ai_at ai_m159 376 = some (.iadd, 1) := rfl
set_option maxRecDepth 100000 in
theorem at_159_377 : ai_at ai_m159 377 = some (.iaload, 1) := rfl
set_option maxRecDepth 100000 in
theorem at_159_378 : ai_at ai_m159 378 = some (.invokevirtual 77, 3) := rfl
set_option maxRecDepth 100000 in
theorem at_159_381 : ai_at ai_m159 381 = some (.aload_n 2, 1) := rfl
set_option maxRecDepth 100000 in
theorem at_159_382 : ai_at ai_m159 382 = some (.aload_n 0, 1) := rfl
set_option maxRecDepth 100000 in
theorem at_159_383 : ai_at ai_m159 383 = some (.iload 4, 2) := rfl
set_option maxRecDepth 100000 in
theorem at_159_385 : ai_at ai_m159 385 = some (.iconst 1, 1) := rfl
set_option maxRecDepth 100000 in
theorem at_159_386 : ai_at ai_m159 386 = some (.iadd, 1) := rfl
set_option maxRecDepth 100000 in
theorem at_159_387 : ai_at ai_m159 387 = some (.iaload, 1) := rfl
set_option maxRecDepth 100000 in
theorem at_159_388 : ai_at ai_m159 388 = some (.aload_n 0, 1) := rfl
set_option maxRecDepth 100000 in
theorem at_159_389 : ai_at ai_m159 389 = some (.iload 4, 2) := rfl
set_option maxRecDepth 100000 in
theorem at_159_391 : ai_at ai_m159 391 = some (.iconst 2, 1) := rfl
set_option maxRecDepth 100000 in
theorem at_159_392 : ai_at ai_m159 392 = some (.iadd, 1) := rfl
set_option maxRecDepth 100000 in
theorem at_159_393 : ai_at ai_m159 393 = some (.iaload, 1) := rfl
set_option maxRecDepth 100000 in
theorem at_159_394 : ai_at ai_m159 394 = some (.invokevirtual 81, 3) := rfl
set_option maxRecDepth 100000 in
theorem at_159_397 : ai_at ai_m159 397 = some (.if_icmp .eq 166, 3) := rfl
set_option maxRecDepth 100000 in
theorem at_159_402 : ai_at ai_m159 402 = some (.aload_n 1, 1) := rfl
set_option maxRecDepth 100000 in
theorem at_159_403 : ai_at ai_m159 403 = some (.aload_n 0, 1) := rfl
set_option maxRecDepth 100000 in
theorem at_159_404 : ai_at ai_m159 404 = some (.iload 4, 2) := rfl
set_option maxRecDepth 100000 in
theorem at_159_406 : ai_at ai_m159 406 = some (.iconst 1, 1) := rfl
set_option maxRecDepth 100000 in
theorem at_159_407 : ai_at ai_m159 407 = some (.iadd, 1) := rfl
set_option maxRecDepth 100000 in
theorem at_159_408 : ai_at ai_m159 408 = some (.iaload, 1) := rfl
set_option maxRecDepth 100000 in
theorem at_159_409 : ai_at ai_m159 409 = some (.aload_n 0, 1) := rfl
set_option maxRecDepth 100000 in
theorem at_159_410 : ai_at ai_m159 410 = some (.iload 4, 2) := rfl
set_option maxRecDepth 100000 in
theorem at_159_412 : ai_at ai_m159 412 = some (.iconst 2, 1) := rfl
set_option maxRecDepth 100000 in
theorem at_159_413 : ai_at ai_m159 413 = some (.iadd, 1) := rfl
set_option maxRecDepth 100000 in
theorem at_159_414 : ai_at ai_m159 414 = some (.iaload, 1) := rfl
set_option maxRecDepth 100000 in
theorem at_159_415 : ai_at ai_m159 415 = some (.invokevirtual 82, 3) := rfl
set_option maxRecDepth 100000 in
theorem at_159_418 : ai_at ai_m159 418 = some (.aload_n 2, 1) := rfl
set_option maxRecDepth 100000 in
theorem at_159_419 : ai_at ai_m159 419 = some (.aload_n 0, 1) := rfl
set_option maxRecDepth 100000 in
theorem at_159_420 : ai_at ai_m159 420 = some (.iload 4, 2) := rfl
set_option maxRecDepth 100000 in
theorem at_159_422 : ai_at ai_m159 422 = some (.iconst 1, 1) := rfl
set_option maxRecDepth 100000 in
theorem at_159_423 : ai_at ai_m159 423 = some (.iadd, 1) := rfl
set_option maxRecDepth 100000 in
theorem at_159_424 : ai_at ai_m159 424 = some (.iaload, 1) := rfl
set_option maxRecDepth 100000 in
theorem at_159_425 : ai_at ai_m159 425 = some (.aload_n 0, 1) := rfl
set_option maxRecDepth 100000 in
theorem at_159_426 : ai_at ai_m159 426 = some (.iload 4, 2) := rfl
set_option maxRecDepth 100000 in
theorem at_159_428 : ai_at ai_m159 428 = some (.iconst 2, 1) := rfl
set_option maxRecDepth 100000 in
theorem at_159_429 : ai_at ai_m159 429 = some (.iadd, 1) := rfl
set_option maxRecDepth 100000 in
theorem at_159_430 : ai_at ai_m159 430 = some (.iaload, 1) := rfl
set_option maxRecDepth 100000 in
theorem at_159_431 : ai_at ai_m159 431 = some (.invokevirtual 85, 3) := rfl
set_option maxRecDepth 100000 in
theorem at_159_434 : ai_at ai_m159 434 = some (.if_icmp .eq 129, 3) := rfl
set_option maxRecDepth 100000 in
theorem at_159_439 : ai_at ai_m159 439 = some (.aload_n 1, 1) := rfl
set_option maxRecDepth 100000 in
theorem at_159_440 : ai_at ai_m159 440 = some (.aload_n 3, 1) := rfl
set_option maxRecDepth 100000 in
theorem at_159_441 : ai_at ai_m159 441 = some (.invokestatic 86, 3) := rfl
set_option maxRecDepth 100000 in
theorem at_159_444 : ai_at ai_m159 444 = some (.istore 5, 2) := rfl
set_option maxRecDepth 100000 in
theorem at_159_446 : ai_at ai_m159 446 = some (.aload_n 2, 1) := rfl
set_option maxRecDepth 100000 in
theorem at_159_447 : ai_at ai_m159 447 = some (.invokevirtual 88, 3) := rfl
set_option maxRecDepth 100000 in
theorem at_159_450 : ai_at ai_m159 450 = some (.istore 6, 2) := rfl
set_option maxRecDepth 100000 in
theorem at_159_452 : ai_at ai_m159 452 = some (.aload_n 2, 1) := rfl
set_option maxRecDepth 100000 in
theorem at_159_453 : ai_at ai_m159 453 = some (.invokevirtual 43, 3) := rfl
set_option maxRecDepth 100000 in
theorem at_159_456 : ai_at ai_m159 456 = some (.iload 5, 2) := rfl
set_option maxRecDepth 100000 in
theorem at_159_458 : ai_at ai_m159 458 = some (.if_icmp .eq 5, 3) := rfl
set_option maxRecDepth 100000 in
theorem at_159_463 : ai_at ai_m159 463 = some (.iload 5, 2) := rfl
set_option maxRecDepth 100000 in
theorem at_159_465 : ai_at ai_m159 465 = some (.ifCond .ne 15, 3) := rfl
set_option maxRecDepth 100000 in
theorem at_159_468 : ai_at ai_m159 468 = some (.aload_n 3, 1) := rfl
set_option maxRecDepth 100000 in
theorem at_159_469 : ai_at ai_m159 469 = some (.iconst 0, 1) := rfl
set_option maxRecDepth 100000 in
theorem at_159_470 : ai_at ai_m159 470 = some (.laload, 1) := rfl
set_option maxRecDepth 100000 in
theorem at_159_471 : ai_at ai_m159 471 = some (.iload 6, 2) := rfl
set_option maxRecDepth 100000 in
theorem at_159_473 : ai_at ai_m159 473 = some (.i2l, 1) := rfl
set_option maxRecDepth 100000 in
theorem at_159_474 : ai_at ai_m159 474 = some (.lcmp, 1) := rfl
set_option maxRecDepth 100000 in
theorem at_159_475 : ai_at ai_m159 475 = some (.ifCond .eq 5, 3) := rfl
set_option maxRecDepth 100000 in
theorem at_159_480 : ai_at ai_m159 480 = some (.goto 83, 3) := rfl
set_option maxRecDepth 100000 in
theorem at_159_483 : ai_at ai_m159 483 = some (.aload_n 1, 1) := rfl
set_option maxRecDepth 100000 in
theorem at_159_484 : ai_at ai_m159 484 = some (.aload_n 3, 1) := rfl
set_option maxRecDepth 100000 in
theorem at_159_485 : ai_at ai_m159 485 = some (.invokestatic 89, 3) := rfl
set_option maxRecDepth 100000 in
theorem at_159_488 : ai_at ai_m159 488 = some (.istore 5, 2) := rfl
set_option maxRecDepth 100000 in
theorem at_159_490 : ai_at ai_m159 490 = some (.aload_n 2, 1) := rfl
set_option maxRecDepth 100000 in
theorem at_159_491 : ai_at ai_m159 491 = some (.invokevirtual 91, 3) := rfl
set_option maxRecDepth 100000 in
theorem at_159_494 : ai_at ai_m159 494 = some (.istore 6, 2) := rfl
set_option maxRecDepth 100000 in
theorem at_159_496 : ai_at ai_m159 496 = some (.aload_n 2, 1) := rfl
set_option maxRecDepth 100000 in
theorem at_159_497 : ai_at ai_m159 497 = some (.invokevirtual 43, 3) := rfl
set_option maxRecDepth 100000 in
theorem at_159_500 : ai_at ai_m159 500 = some (.iload 5, 2) := rfl
set_option maxRecDepth 100000 in
theorem at_159_502 : ai_at ai_m159 502 = some (.if_icmp .eq 5, 3) := rfl
set_option maxRecDepth 100000 in
theorem at_159_507 : ai_at ai_m159 507 = some (.iload 5, 2) := rfl
set_option maxRecDepth 100000 in
theorem at_159_509 : ai_at ai_m159 509 = some (.ifCond .ne 15, 3) := rfl
set_option maxRecDepth 100000 in
theorem at_159_512 : ai_at ai_m159 512 = some (.aload_n 3, 1) := rfl
set_option maxRecDepth 100000 in
theorem at_159_513 : ai_at ai_m159 513 = some (.iconst 0, 1) := rfl
set_option maxRecDepth 100000 in
theorem at_159_514 : ai_at ai_m159 514 = some (.laload, 1) := rfl
set_option maxRecDepth 100000 in
theorem at_159_515 : ai_at ai_m159 515 = some (.iload 6, 2) := rfl
set_option maxRecDepth 100000 in
theorem at_159_517 : ai_at ai_m159 517 = some (.i2l, 1) := rfl
set_option maxRecDepth 100000 in
theorem at_159_518 : ai_at ai_m159 518 = some (.lcmp, 1) := rfl
set_option maxRecDepth 100000 in
theorem at_159_519 : ai_at ai_m159 519 = some (.ifCond .eq 5, 3) := rfl
set_option maxRecDepth 100000 in
theorem at_159_524 : ai_at ai_m159 524 = some (.goto 39, 3) := rfl
set_option maxRecDepth 100000 in
theorem at_159_527 : ai_at ai_m159 527 = some (.aload_n 1, 1) := rfl
set_option maxRecDepth 100000 in
theorem at_159_528 : ai_at ai_m159 528 = some (.aload_n 0, 1) := rfl
set_option maxRecDepth 100000 in
theorem at_159_529 : ai_at ai_m159 529 = some (.iload 4, 2) := rfl
set_option maxRecDepth 100000 in
theorem at_159_531 : ai_at ai_m159 531 = some (.iconst 1, 1) := rfl
set_option maxRecDepth 100000 in
theorem at_159_532 : ai_at ai_m159 532 = some (.iadd, 1) := rfl
set_option maxRecDepth 100000 in
theorem at_159_533 : ai_at ai_m159 533 = some (.iaload, 1) := rfl
set_option maxRecDepth 100000 in
theorem at_159_534 : ai_at ai_m159 534 = some (.invokevirtual 92, 3) := rfl
set_option maxRecDepth 100000 in
theorem at_159_537 : ai_at ai_m159 537 = some (.aload_n 2, 1) := rfl
set_option maxRecDepth 100000 in
theorem at_159_538 : ai_at ai_m159 538 = some (.aload_n 0, 1) := rfl
set_option maxRecDepth 100000 in
theorem at_159_539 : ai_at ai_m159 539 = some (.iload 4, 2) := rfl
set_option maxRecDepth 100000 in
theorem at_159_541 : ai_at ai_m159 541 = some (.iconst 1, 1) := rfl
set_option maxRecDepth 100000 in
theorem at_159_542 : ai_at ai_m159 542 = some (.iadd, 1) := rfl
set_option maxRecDepth 100000 in
theorem at_159_543 : ai_at ai_m159 543 = some (.iaload, 1) := rfl
set_option maxRecDepth 100000 in
theorem at_159_544 : ai_at ai_m159 544 = some (.invokevirtual 96, 3) := rfl
set_option maxRecDepth 100000 in
theorem at_159_547 : ai_at ai_m159 547 = some (.if_icmp .eq 16, 3) := rfl
set_option maxRecDepth 100000 in
theorem at_159_552 : ai_at ai_m159 552 = some (.aload_n 1, 1) := rfl
set_option maxRecDepth 100000 in
theorem at_159_553 : ai_at ai_m159 553 = some (.invokevirtual 97, 3) := rfl
set_option maxRecDepth 100000 in
theorem at_159_556 : ai_at ai_m159 556 = some (.aload_n 2, 1) := rfl
set_option maxRecDepth 100000 in
theorem at_159_557 : ai_at ai_m159 557 = some (.invokevirtual 100, 3) := rfl
set_option maxRecDepth 100000 in
theorem at_159_560 : ai_at ai_m159 560 = some (.goto 3, 3) := rfl
set_option maxRecDepth 100000 in
theorem at_159_563 : ai_at ai_m159 563 = some (.iinc 4 3, 3) := rfl
set_option maxRecDepth 100000 in
theorem at_159_566 : ai_at ai_m159 566 = some (.goto (-543), 3) := rfl
set_option maxRecDepth 100000 in
theorem at_159_569 : ai_at ai_m159 569 = some (.iconst 1, 1) := rfl
set_option maxRecDepth 100000 in
theorem at_159_570 : ai_at ai_m159 570 = some (.ireturn, 1) := rfl
theorem mt_99_37 : ai_mth 99 37 = some (6, 91, 3, 0) := by decide +kernel
theorem mt_99_42 : ai_mth 99 42 = some (0, 98, 2, 11) := by decide +kernel
theorem mt_99_43 : ai_mth 99 43 = some (0, 97, 0, 11) := by decide +kernel
theorem mt_99_48 : ai_mth 99 48 = some (0, 1, 1, 0) := by decide +kernel
theorem mt_99_52 : ai_mth 99 52 = some (0, 100, 1, 11) := by decide +kernel
theorem mt_99_53 : ai_mth 99 53 = some (0, 2, 0, 0) := by decide +kernel
theorem mt_99_56 : ai_mth 99 56 = some (0, 102, 0, 11) := by decide +kernel
theorem mt_99_57 : ai_mth 99 57 = some (6, 92, 2, 0) := by decide +kernel
theorem mt_99_60 : ai_mth 99 60 = some (0, 104, 0, 11) := by decide +kernel
theorem mt_99_61 : ai_mth 99 61 = some (6, 93, 3, 0) := by decide +kernel
theorem mt_99_64 : ai_mth 99 64 = some (0, 112, 1, 11) := by decide +kernel
theorem mt_99_65 : ai_mth 99 65 = some (0, 3, 0, 0) := by decide +kernel
theorem mt_99_68 : ai_mth 99 68 = some (0, 148, 0, 11) := by decide +kernel
theorem mt_99_69 : ai_mth 99 69 = some (0, 4, 0, 0) := by decide +kernel
theorem mt_99_72 : ai_mth 99 72 = some (0, 149, 0, 11) := by decide +kernel
theorem mt_99_73 : ai_mth 99 73 = some (0, 5, 0, 0) := by decide +kernel
theorem mt_99_76 : ai_mth 99 76 = some (0, 150, 0, 11) := by decide +kernel
theorem mt_99_77 : ai_mth 99 77 = some (0, 6, 2, 0) := by decide +kernel
theorem mt_99_81 : ai_mth 99 81 = some (0, 151, 2, 11) := by decide +kernel
theorem mt_99_82 : ai_mth 99 82 = some (0, 7, 2, 0) := by decide +kernel
theorem mt_99_85 : ai_mth 99 85 = some (0, 154, 2, 11) := by decide +kernel
theorem mt_99_86 : ai_mth 99 86 = some (6, 94, 2, 0) := by decide +kernel
theorem mt_99_88 : ai_mth 99 88 = some (0, 155, 0, 11) := by decide +kernel
theorem mt_99_89 : ai_mth 99 89 = some (6, 95, 2, 0) := by decide +kernel
theorem mt_99_91 : ai_mth 99 91 = some (0, 156, 0, 11) := by decide +kernel
theorem mt_99_92 : ai_mth 99 92 = some (0, 8, 1, 0) := by decide +kernel
theorem mt_99_96 : ai_mth 99 96 = some (0, 103, 1, 11) := by decide +kernel
theorem mt_99_97 : ai_mth 99 97 = some (0, 9, 0, 0) := by decide +kernel
theorem mt_99_100 : ai_mth 99 100 = some (0, 157, 0, 11) := by decide +kernel
set_option maxHeartbeats 1000000 in
theorem lw_b0 {I : ai_S → Prop} (hL : L ≤ 1536) (hi : 3 * t + 3 ≤ L) (hp : ai_prs S) (h : ai_opD L xs d [.ref 0, .int (ai_chr (xs (3 * t + 1))), .int (xs (3 * t + 2))] [.ref 432, .int (ai_chr (xs (3 * t + 1))), .int (xs (3 * t + 2))] I S) (k : ∀ v5 v6 S9, ai_prs S9 → I S9 → ai_aw L xs d ai_m159 Q (563, lw_lv (Int32.ofNat (3 * t)) v5 v6, [], S9)) : ai_aw L xs d ai_m159 Q (108, lw_lv (Int32.ofNat (3 * t)) v5 v6, [], S) := by
  refine aw_loc at_159_108 rfl rfl ?_
  refine aw_loc at_159_109 rfl rfl ?_
  refine aw_loc at_159_110 rfl rfl ?_
  refine aw_pure at_159_112 rfl rfl ?_
  refine aw_pure at_159_113 rfl rfl ?_
  refine aw_sld at_159_114 (by omega) hL (i32_add1 t) ?_
  refine aw_pure at_159_115 rfl rfl ?_
  refine aw_loc at_159_116 rfl rfl ?_
  refine aw_loc at_159_117 rfl rfl ?_
  refine aw_pure at_159_119 rfl rfl ?_
  refine aw_pure at_159_120 rfl rfl ?_
  refine aw_sld at_159_121 (by omega) hL (i32_add2 t) ?_
  refine aw_cs [.ref 0, .int (ai_chr (xs (3 * t + 1))), .int (xs (3 * t + 2))] [] at_159_122 rfl mt_99_37 (Or.inr (Or.inr rfl)) rfl rfl (Nat.le_of_ble_eq_true rfl) ?_
  refine h.mono (fun v S1 h => ?_)
  obtain ⟨hp1, h⟩ := h
  obtain ⟨w, S2, r2, hp2, u, S3, r3, hp3, k5, rfl, rfl, rfl, hI⟩ := h
  refine aw_loc at_159_125 rfl rfl ?_
  refine aw_loc at_159_127 rfl rfl ?_
  refine aw_loc at_159_128 rfl rfl ?_
  refine aw_loc at_159_129 rfl rfl ?_
  refine aw_pure at_159_131 rfl rfl ?_
  refine aw_pure at_159_132 rfl rfl ?_
  refine aw_sld at_159_133 (by omega) hL (i32_add1 t) ?_
  refine aw_pure at_159_134 rfl rfl ?_
  refine aw_loc at_159_135 rfl rfl ?_
  refine aw_loc at_159_136 rfl rfl ?_
  refine aw_pure at_159_138 rfl rfl ?_
  refine aw_pure at_159_139 rfl rfl ?_
  refine aw_sld at_159_140 (by omega) hL (i32_add2 t) ?_
  refine aw_cv (a := 432) [.int (ai_chr (xs (3 * t + 1))), .int (xs (3 * t + 2))] [] at_159_141 mt_99_42 (Or.inl rfl) rfl rfl (Nat.le_of_ble_eq_true rfl) hp1.2.1 ?_
  refine ⟨none, S2, r2, ?_⟩
  refine aw_loc at_159_144 rfl rfl ?_
  refine aw_cv (a := 432) [] [] at_159_145 mt_99_43 (Or.inl rfl) rfl rfl (Nat.le_of_ble_eq_true rfl) hp2.2.1 ?_
  refine ⟨_, S3, r3, ?_⟩
  refine aw_loc at_159_148 rfl rfl ?_
  refine aw_icmp at_159_150 (fun _ => ?_) (fun z => absurd rfl z)
  refine aw_goto at_159_155 ?_
  exact k _ _ S3 hp3 hI
set_option maxHeartbeats 1000000 in
theorem lw_b1 {I : ai_S → Prop} (hL : L ≤ 1536) (hi : 3 * t + 3 ≤ L) (hp : ai_prs S) (h : ai_opV L xs d 1 100 [.ref 0, .long (ai_lng (xs (3 * t + 1)) (xs (3 * t + 2)))] [.ref 432, .long (ai_lng (xs (3 * t + 1)) (xs (3 * t + 2)))] I S) (k : ∀ v5 v6 S9, ai_prs S9 → I S9 → ai_aw L xs d ai_m159 Q (563, lw_lv (Int32.ofNat (3 * t)) v5 v6, [], S9)) : ai_aw L xs d ai_m159 Q (158, lw_lv (Int32.ofNat (3 * t)) v5 v6, [], S) := by
  refine aw_loc at_159_158 rfl rfl ?_
  refine aw_loc at_159_159 rfl rfl ?_
  refine aw_loc at_159_160 rfl rfl ?_
  refine aw_pure at_159_162 rfl rfl ?_
  refine aw_pure at_159_163 rfl rfl ?_
  refine aw_sld at_159_164 (by omega) hL (i32_add1 t) ?_
  refine aw_pure at_159_165 rfl rfl ?_
  refine aw_pure at_159_166 rfl rfl ?_
  refine aw_pure at_159_168 rfl rfl ?_
  refine aw_loc at_159_169 rfl rfl ?_
  refine aw_loc at_159_170 rfl rfl ?_
  refine aw_pure at_159_172 rfl rfl ?_
  refine aw_pure at_159_173 rfl rfl ?_
  refine aw_sld at_159_174 (by omega) hL (i32_add2 t) ?_
  refine aw_pure at_159_175 rfl rfl ?_
  refine aw_fop at_159_176 rfl (st' := _) rfl ?_
  refine aw_pure at_159_179 rfl rfl ?_
  refine aw_pure at_159_180 rfl rfl ?_
  refine aw_cv (a := 0) [.long (ai_lng (xs (3 * t + 1)) (xs (3 * t + 2)))] [] at_159_181 mt_99_48 (Or.inl rfl) rfl rfl (Nat.le_of_ble_eq_true rfl) hp.1 ?_
  refine h.mono (fun v S1 h => ?_)
  obtain ⟨hp1, w, S2, r2, hp2, k5, rfl, rfl, hI⟩ := h
  refine aw_loc at_159_184 rfl rfl ?_
  refine aw_loc at_159_185 rfl rfl ?_
  refine aw_loc at_159_186 rfl rfl ?_
  refine aw_pure at_159_188 rfl rfl ?_
  refine aw_pure at_159_189 rfl rfl ?_
  refine aw_sld at_159_190 (by omega) hL (i32_add1 t) ?_
  refine aw_pure at_159_191 rfl rfl ?_
  refine aw_pure at_159_192 rfl rfl ?_
  refine aw_pure at_159_194 rfl rfl ?_
  refine aw_loc at_159_195 rfl rfl ?_
  refine aw_loc at_159_196 rfl rfl ?_
  refine aw_pure at_159_198 rfl rfl ?_
  refine aw_pure at_159_199 rfl rfl ?_
  refine aw_sld at_159_200 (by omega) hL (i32_add2 t) ?_
  refine aw_pure at_159_201 rfl rfl ?_
  refine aw_fop at_159_202 rfl (st' := _) rfl ?_
  refine aw_pure at_159_205 rfl rfl ?_
  refine aw_pure at_159_206 rfl rfl ?_
  refine aw_cv (a := 432) [.long (ai_lng (xs (3 * t + 1)) (xs (3 * t + 2)))] [.int k5] at_159_207 mt_99_52 (Or.inl rfl) rfl rfl (Nat.le_of_ble_eq_true rfl) hp1.2.1 ?_
  refine ⟨_, S2, r2, ?_⟩
  refine aw_icmp at_159_210 (fun _ => ?_) (fun z => absurd rfl z)
  exact k _ _ S2 hp2 hI
set_option maxHeartbeats 1000000 in
theorem lw_b2 {I : ai_S → Prop} (hL : L ≤ 1536) (hi : 3 * t + 3 ≤ L) (hp : ai_prs S) (h : ai_opN L xs d 2 102 [.ref 0] [.ref 432] I S) (k : ∀ v5 v6 S9, ai_prs S9 → I S9 → ai_aw L xs d ai_m159 Q (563, lw_lv (Int32.ofNat (3 * t)) v5 v6, [], S9)) : ai_aw L xs d ai_m159 Q (215, lw_lv (Int32.ofNat (3 * t)) v5 v6, [], S) := by
  refine aw_loc at_159_215 rfl rfl ?_
  refine aw_cv (a := 0) [] [] at_159_216 mt_99_53 (Or.inl rfl) rfl rfl (Nat.le_of_ble_eq_true rfl) hp.1 ?_
  refine h.mono (fun v S1 h => ?_)
  obtain ⟨hp1, w, S2, r2, hp2, rfl, rfl, hI⟩ := h
  refine aw_loc at_159_219 rfl rfl ?_
  refine aw_cv (a := 432) [] [] at_159_220 mt_99_56 (Or.inl rfl) rfl rfl (Nat.le_of_ble_eq_true rfl) hp1.2.1 ?_
  refine ⟨_, S2, r2, ?_⟩
  refine aw_goto at_159_223 ?_
  exact k _ _ S2 hp2 hI
set_option maxHeartbeats 1000000 in
theorem lw_b3 {I : ai_S → Prop} (hL : L ≤ 1536) (hi : 3 * t + 3 ≤ L) (hp : ai_prs S) (h : ai_opT L xs d 92 104 [.ref 0, .ref 452] [.ref 432] I S) (k : ∀ v5 v6 S9, ai_prs S9 → I S9 → ai_aw L xs d ai_m159 Q (563, lw_lv (Int32.ofNat (3 * t)) v5 v6, [], S9)) : ai_aw L xs d ai_m159 Q (226, lw_lv (Int32.ofNat (3 * t)) v5 v6, [], S) := by
  refine aw_loc at_159_226 rfl rfl ?_
  refine aw_loc at_159_227 rfl rfl ?_
  refine aw_cs [.ref 0, .ref 452] [] at_159_228 rfl mt_99_57 (Or.inr (Or.inr rfl)) rfl rfl (Nat.le_of_ble_eq_true rfl) ?_
  refine h.mono (fun v S1 h => ?_)
  obtain ⟨hp1, w, S2, r2, hp2, u, S3, r3, hp3, k5, b6, rfl, rfl, rfl, hout, hI⟩ := h
  refine aw_loc at_159_231 rfl rfl ?_
  refine aw_loc at_159_233 rfl rfl ?_
  refine aw_cv (a := 432) [] [] at_159_234 mt_99_60 (Or.inl rfl) rfl rfl (Nat.le_of_ble_eq_true rfl) hp1.2.1 ?_
  refine ⟨_, S2, r2, ?_⟩
  refine aw_loc at_159_237 rfl rfl ?_
  refine aw_loc at_159_239 rfl rfl ?_
  refine aw_cv (a := 432) [] [] at_159_240 mt_99_43 (Or.inl rfl) rfl rfl (Nat.le_of_ble_eq_true rfl) hp2.2.1 ?_
  refine ⟨_, S3, r3, ?_⟩
  refine aw_loc at_159_243 rfl rfl ?_
  refine aw_icmp at_159_245 (fun _ => ?_) (fun z => absurd rfl z)
  refine aw_loc at_159_250 rfl rfl ?_
  refine aw_if at_159_252 (fun z => ?_) (fun z => ?_)
  · show ai_aw L xs d ai_m159 Q (267, _, _, _)
    refine aw_goto at_159_267 ?_
    exact k _ _ S3 hp3 hI
  · have hz : k5 = 0 := Classical.byContradiction z
    obtain ⟨f, hf, hb⟩ := hout hz
    refine aw_loc at_159_255 rfl rfl ?_
    refine aw_pure at_159_256 rfl rfl ?_
    refine aw_lald at_159_257 rfl hf (by decide) ?_
    rw [show f (Int32.ofInt 0).toNatClampNeg = b6.toInt64 from hb]
    refine aw_loc at_159_258 rfl rfl ?_
    refine aw_pure at_159_260 rfl rfl ?_
    refine aw_pure at_159_261 rfl rfl ?_
    refine aw_if at_159_262 (fun _ => ?_) (fun z => absurd (lg_cmp_self _) z)
    refine aw_goto at_159_267 ?_
    exact k _ _ S3 hp3 hI
set_option maxHeartbeats 1000000 in
theorem lw_b4 {I : ai_S → Prop} (hL : L ≤ 1536) (hi : 3 * t + 3 ≤ L) (hp : ai_prs S) (h : ai_opT L xs d 93 112 [.ref 0, .int (xs (3 * t + 1)), .ref 452] [.ref 432, .int (xs (3 * t + 1))] I S) (k : ∀ v5 v6 S9, ai_prs S9 → I S9 → ai_aw L xs d ai_m159 Q (563, lw_lv (Int32.ofNat (3 * t)) v5 v6, [], S9)) : ai_aw L xs d ai_m159 Q (270, lw_lv (Int32.ofNat (3 * t)) v5 v6, [], S) := by
  refine aw_loc at_159_270 rfl rfl ?_
  refine aw_loc at_159_271 rfl rfl ?_
  refine aw_loc at_159_272 rfl rfl ?_
  refine aw_pure at_159_274 rfl rfl ?_
  refine aw_pure at_159_275 rfl rfl ?_
  refine aw_sld at_159_276 (by omega) hL (i32_add1 t) ?_
  refine aw_loc at_159_277 rfl rfl ?_
  refine aw_cs [.ref 0, .int (xs (3 * t + 1)), .ref 452] [] at_159_278 rfl mt_99_61 (Or.inr (Or.inr rfl)) rfl rfl (Nat.le_of_ble_eq_true rfl) ?_
  refine h.mono (fun v S1 h => ?_)
  obtain ⟨hp1, w, S2, r2, hp2, u, S3, r3, hp3, k5, b6, rfl, rfl, rfl, hout, hI⟩ := h
  refine aw_loc at_159_281 rfl rfl ?_
  refine aw_loc at_159_283 rfl rfl ?_
  refine aw_loc at_159_284 rfl rfl ?_
  refine aw_loc at_159_285 rfl rfl ?_
  refine aw_pure at_159_287 rfl rfl ?_
  refine aw_pure at_159_288 rfl rfl ?_
  refine aw_sld at_159_289 (by omega) hL (i32_add1 t) ?_
  refine aw_cv (a := 432) [.int (xs (3 * t + 1))] [] at_159_290 mt_99_64 (Or.inl rfl) rfl rfl (Nat.le_of_ble_eq_true rfl) hp1.2.1 ?_
  refine ⟨_, S2, r2, ?_⟩
  refine aw_loc at_159_293 rfl rfl ?_
  refine aw_loc at_159_295 rfl rfl ?_
  refine aw_cv (a := 432) [] [] at_159_296 mt_99_43 (Or.inl rfl) rfl rfl (Nat.le_of_ble_eq_true rfl) hp2.2.1 ?_
  refine ⟨_, S3, r3, ?_⟩
  refine aw_loc at_159_299 rfl rfl ?_
  refine aw_icmp at_159_301 (fun _ => ?_) (fun z => absurd rfl z)
  refine aw_loc at_159_306 rfl rfl ?_
  refine aw_if at_159_308 (fun z => ?_) (fun z => ?_)
  · show ai_aw L xs d ai_m159 Q (323, _, _, _)
    refine aw_goto at_159_323 ?_
    exact k _ _ S3 hp3 hI
  · have hz : k5 = 0 := Classical.byContradiction z
    obtain ⟨f, hf, hb⟩ := hout hz
    refine aw_loc at_159_311 rfl rfl ?_
    refine aw_pure at_159_312 rfl rfl ?_
    refine aw_lald at_159_313 rfl hf (by decide) ?_
    rw [show f (Int32.ofInt 0).toNatClampNeg = b6.toInt64 from hb]
    refine aw_loc at_159_314 rfl rfl ?_
    refine aw_pure at_159_316 rfl rfl ?_
    refine aw_pure at_159_317 rfl rfl ?_
    refine aw_if at_159_318 (fun _ => ?_) (fun z => absurd (lg_cmp_self _) z)
    refine aw_goto at_159_323 ?_
    exact k _ _ S3 hp3 hI
set_option maxHeartbeats 1000000 in
theorem lw_b5 {I : ai_S → Prop} (hL : L ≤ 1536) (hi : 3 * t + 3 ≤ L) (hp : ai_prs S) (h : ai_opV L xs d 3 148 [.ref 0] [.ref 432] I S) (k : ∀ v5 v6 S9, ai_prs S9 → I S9 → ai_aw L xs d ai_m159 Q (563, lw_lv (Int32.ofNat (3 * t)) v5 v6, [], S9)) : ai_aw L xs d ai_m159 Q (326, lw_lv (Int32.ofNat (3 * t)) v5 v6, [], S) := by
  refine aw_loc at_159_326 rfl rfl ?_
  refine aw_cv (a := 0) [] [] at_159_327 mt_99_65 (Or.inl rfl) rfl rfl (Nat.le_of_ble_eq_true rfl) hp.1 ?_
  refine h.mono (fun v S1 h => ?_)
  obtain ⟨hp1, w, S2, r2, hp2, k5, rfl, rfl, hI⟩ := h
  refine aw_loc at_159_330 rfl rfl ?_
  refine aw_cv (a := 432) [] [.int k5] at_159_331 mt_99_68 (Or.inl rfl) rfl rfl (Nat.le_of_ble_eq_true rfl) hp1.2.1 ?_
  refine ⟨_, S2, r2, ?_⟩
  refine aw_icmp at_159_334 (fun _ => ?_) (fun z => absurd rfl z)
  exact k _ _ S2 hp2 hI
set_option maxHeartbeats 1000000 in
theorem lw_b6 {I : ai_S → Prop} (hL : L ≤ 1536) (hi : 3 * t + 3 ≤ L) (hp : ai_prs S) (h : ai_opV L xs d 4 149 [.ref 0] [.ref 432] I S) (k : ∀ v5 v6 S9, ai_prs S9 → I S9 → ai_aw L xs d ai_m159 Q (563, lw_lv (Int32.ofNat (3 * t)) v5 v6, [], S9)) : ai_aw L xs d ai_m159 Q (339, lw_lv (Int32.ofNat (3 * t)) v5 v6, [], S) := by
  refine aw_loc at_159_339 rfl rfl ?_
  refine aw_cv (a := 0) [] [] at_159_340 mt_99_69 (Or.inl rfl) rfl rfl (Nat.le_of_ble_eq_true rfl) hp.1 ?_
  refine h.mono (fun v S1 h => ?_)
  obtain ⟨hp1, w, S2, r2, hp2, k5, rfl, rfl, hI⟩ := h
  refine aw_loc at_159_343 rfl rfl ?_
  refine aw_cv (a := 432) [] [.int k5] at_159_344 mt_99_72 (Or.inl rfl) rfl rfl (Nat.le_of_ble_eq_true rfl) hp1.2.1 ?_
  refine ⟨_, S2, r2, ?_⟩
  refine aw_icmp at_159_347 (fun _ => ?_) (fun z => absurd rfl z)
  exact k _ _ S2 hp2 hI
set_option maxHeartbeats 1000000 in
theorem lw_b7 {I : ai_S → Prop} (hL : L ≤ 1536) (hi : 3 * t + 3 ≤ L) (hp : ai_prs S) (h : ai_opV L xs d 5 150 [.ref 0] [.ref 432] I S) (k : ∀ v5 v6 S9, ai_prs S9 → I S9 → ai_aw L xs d ai_m159 Q (563, lw_lv (Int32.ofNat (3 * t)) v5 v6, [], S9)) : ai_aw L xs d ai_m159 Q (352, lw_lv (Int32.ofNat (3 * t)) v5 v6, [], S) := by
  refine aw_loc at_159_352 rfl rfl ?_
  refine aw_cv (a := 0) [] [] at_159_353 mt_99_73 (Or.inl rfl) rfl rfl (Nat.le_of_ble_eq_true rfl) hp.1 ?_
  refine h.mono (fun v S1 h => ?_)
  obtain ⟨hp1, w, S2, r2, hp2, k5, rfl, rfl, hI⟩ := h
  refine aw_loc at_159_356 rfl rfl ?_
  refine aw_cv (a := 432) [] [.int k5] at_159_357 mt_99_76 (Or.inl rfl) rfl rfl (Nat.le_of_ble_eq_true rfl) hp1.2.1 ?_
  refine ⟨_, S2, r2, ?_⟩
  refine aw_icmp at_159_360 (fun _ => ?_) (fun z => absurd rfl z)
  exact k _ _ S2 hp2 hI
set_option maxHeartbeats 1000000 in
theorem lw_b8 {I : ai_S → Prop} (hL : L ≤ 1536) (hi : 3 * t + 3 ≤ L) (hp : ai_prs S) (h : ai_opV L xs d 6 151 [.ref 0, .int (xs (3 * t + 1)), .int (xs (3 * t + 2))] [.ref 432, .int (xs (3 * t + 1)), .int (xs (3 * t + 2))] I S) (k : ∀ v5 v6 S9, ai_prs S9 → I S9 → ai_aw L xs d ai_m159 Q (563, lw_lv (Int32.ofNat (3 * t)) v5 v6, [], S9)) : ai_aw L xs d ai_m159 Q (365, lw_lv (Int32.ofNat (3 * t)) v5 v6, [], S) := by
  refine aw_loc at_159_365 rfl rfl ?_
  refine aw_loc at_159_366 rfl rfl ?_
  refine aw_loc at_159_367 rfl rfl ?_
  refine aw_pure at_159_369 rfl rfl ?_
  refine aw_pure at_159_370 rfl rfl ?_
  refine aw_sld at_159_371 (by omega) hL (i32_add1 t) ?_
  refine aw_loc at_159_372 rfl rfl ?_
  refine aw_loc at_159_373 rfl rfl ?_
  refine aw_pure at_159_375 rfl rfl ?_
  refine aw_pure at_159_376 rfl rfl ?_
  refine aw_sld at_159_377 (by omega) hL (i32_add2 t) ?_
  refine aw_cv (a := 0) [.int (xs (3 * t + 1)), .int (xs (3 * t + 2))] [] at_159_378 mt_99_77 (Or.inl rfl) rfl rfl (Nat.le_of_ble_eq_true rfl) hp.1 ?_
  refine h.mono (fun v S1 h => ?_)
  obtain ⟨hp1, w, S2, r2, hp2, k5, rfl, rfl, hI⟩ := h
  refine aw_loc at_159_381 rfl rfl ?_
  refine aw_loc at_159_382 rfl rfl ?_
  refine aw_loc at_159_383 rfl rfl ?_
  refine aw_pure at_159_385 rfl rfl ?_
  refine aw_pure at_159_386 rfl rfl ?_
  refine aw_sld at_159_387 (by omega) hL (i32_add1 t) ?_
  refine aw_loc at_159_388 rfl rfl ?_
  refine aw_loc at_159_389 rfl rfl ?_
  refine aw_pure at_159_391 rfl rfl ?_
  refine aw_pure at_159_392 rfl rfl ?_
  refine aw_sld at_159_393 (by omega) hL (i32_add2 t) ?_
  refine aw_cv (a := 432) [.int (xs (3 * t + 1)), .int (xs (3 * t + 2))] [.int k5] at_159_394 mt_99_81 (Or.inl rfl) rfl rfl (Nat.le_of_ble_eq_true rfl) hp1.2.1 ?_
  refine ⟨_, S2, r2, ?_⟩
  refine aw_icmp at_159_397 (fun _ => ?_) (fun z => absurd rfl z)
  exact k _ _ S2 hp2 hI
set_option maxHeartbeats 1000000 in
theorem lw_b9 {I : ai_S → Prop} (hL : L ≤ 1536) (hi : 3 * t + 3 ≤ L) (hp : ai_prs S) (h : ai_opV L xs d 7 154 [.ref 0, .int (xs (3 * t + 1)), .int (xs (3 * t + 2))] [.ref 432, .int (xs (3 * t + 1)), .int (xs (3 * t + 2))] I S) (k : ∀ v5 v6 S9, ai_prs S9 → I S9 → ai_aw L xs d ai_m159 Q (563, lw_lv (Int32.ofNat (3 * t)) v5 v6, [], S9)) : ai_aw L xs d ai_m159 Q (402, lw_lv (Int32.ofNat (3 * t)) v5 v6, [], S) := by
  refine aw_loc at_159_402 rfl rfl ?_
  refine aw_loc at_159_403 rfl rfl ?_
  refine aw_loc at_159_404 rfl rfl ?_
  refine aw_pure at_159_406 rfl rfl ?_
  refine aw_pure at_159_407 rfl rfl ?_
  refine aw_sld at_159_408 (by omega) hL (i32_add1 t) ?_
  refine aw_loc at_159_409 rfl rfl ?_
  refine aw_loc at_159_410 rfl rfl ?_
  refine aw_pure at_159_412 rfl rfl ?_
  refine aw_pure at_159_413 rfl rfl ?_
  refine aw_sld at_159_414 (by omega) hL (i32_add2 t) ?_
  refine aw_cv (a := 0) [.int (xs (3 * t + 1)), .int (xs (3 * t + 2))] [] at_159_415 mt_99_82 (Or.inl rfl) rfl rfl (Nat.le_of_ble_eq_true rfl) hp.1 ?_
  refine h.mono (fun v S1 h => ?_)
  obtain ⟨hp1, w, S2, r2, hp2, k5, rfl, rfl, hI⟩ := h
  refine aw_loc at_159_418 rfl rfl ?_
  refine aw_loc at_159_419 rfl rfl ?_
  refine aw_loc at_159_420 rfl rfl ?_
  refine aw_pure at_159_422 rfl rfl ?_
  refine aw_pure at_159_423 rfl rfl ?_
  refine aw_sld at_159_424 (by omega) hL (i32_add1 t) ?_
  refine aw_loc at_159_425 rfl rfl ?_
  refine aw_loc at_159_426 rfl rfl ?_
  refine aw_pure at_159_428 rfl rfl ?_
  refine aw_pure at_159_429 rfl rfl ?_
  refine aw_sld at_159_430 (by omega) hL (i32_add2 t) ?_
  refine aw_cv (a := 432) [.int (xs (3 * t + 1)), .int (xs (3 * t + 2))] [.int k5] at_159_431 mt_99_85 (Or.inl rfl) rfl rfl (Nat.le_of_ble_eq_true rfl) hp1.2.1 ?_
  refine ⟨_, S2, r2, ?_⟩
  refine aw_icmp at_159_434 (fun _ => ?_) (fun z => absurd rfl z)
  exact k _ _ S2 hp2 hI
set_option maxHeartbeats 1000000 in
theorem lw_b10 {I : ai_S → Prop} (hL : L ≤ 1536) (hi : 3 * t + 3 ≤ L) (hp : ai_prs S) (h : ai_opT L xs d 94 155 [.ref 0, .ref 452] [.ref 432] I S) (k : ∀ v5 v6 S9, ai_prs S9 → I S9 → ai_aw L xs d ai_m159 Q (563, lw_lv (Int32.ofNat (3 * t)) v5 v6, [], S9)) : ai_aw L xs d ai_m159 Q (439, lw_lv (Int32.ofNat (3 * t)) v5 v6, [], S) := by
  refine aw_loc at_159_439 rfl rfl ?_
  refine aw_loc at_159_440 rfl rfl ?_
  refine aw_cs [.ref 0, .ref 452] [] at_159_441 rfl mt_99_86 (Or.inr (Or.inr rfl)) rfl rfl (Nat.le_of_ble_eq_true rfl) ?_
  refine h.mono (fun v S1 h => ?_)
  obtain ⟨hp1, w, S2, r2, hp2, u, S3, r3, hp3, k5, b6, rfl, rfl, rfl, hout, hI⟩ := h
  refine aw_loc at_159_444 rfl rfl ?_
  refine aw_loc at_159_446 rfl rfl ?_
  refine aw_cv (a := 432) [] [] at_159_447 mt_99_88 (Or.inl rfl) rfl rfl (Nat.le_of_ble_eq_true rfl) hp1.2.1 ?_
  refine ⟨_, S2, r2, ?_⟩
  refine aw_loc at_159_450 rfl rfl ?_
  refine aw_loc at_159_452 rfl rfl ?_
  refine aw_cv (a := 432) [] [] at_159_453 mt_99_43 (Or.inl rfl) rfl rfl (Nat.le_of_ble_eq_true rfl) hp2.2.1 ?_
  refine ⟨_, S3, r3, ?_⟩
  refine aw_loc at_159_456 rfl rfl ?_
  refine aw_icmp at_159_458 (fun _ => ?_) (fun z => absurd rfl z)
  refine aw_loc at_159_463 rfl rfl ?_
  refine aw_if at_159_465 (fun z => ?_) (fun z => ?_)
  · show ai_aw L xs d ai_m159 Q (480, _, _, _)
    refine aw_goto at_159_480 ?_
    exact k _ _ S3 hp3 hI
  · have hz : k5 = 0 := Classical.byContradiction z
    obtain ⟨f, hf, hb⟩ := hout hz
    refine aw_loc at_159_468 rfl rfl ?_
    refine aw_pure at_159_469 rfl rfl ?_
    refine aw_lald at_159_470 rfl hf (by decide) ?_
    rw [show f (Int32.ofInt 0).toNatClampNeg = b6.toInt64 from hb]
    refine aw_loc at_159_471 rfl rfl ?_
    refine aw_pure at_159_473 rfl rfl ?_
    refine aw_pure at_159_474 rfl rfl ?_
    refine aw_if at_159_475 (fun _ => ?_) (fun z => absurd (lg_cmp_self _) z)
    refine aw_goto at_159_480 ?_
    exact k _ _ S3 hp3 hI
set_option maxHeartbeats 1000000 in
theorem lw_b11 {I : ai_S → Prop} (hL : L ≤ 1536) (hi : 3 * t + 3 ≤ L) (hp : ai_prs S) (h : ai_opT L xs d 95 156 [.ref 0, .ref 452] [.ref 432] I S) (k : ∀ v5 v6 S9, ai_prs S9 → I S9 → ai_aw L xs d ai_m159 Q (563, lw_lv (Int32.ofNat (3 * t)) v5 v6, [], S9)) : ai_aw L xs d ai_m159 Q (483, lw_lv (Int32.ofNat (3 * t)) v5 v6, [], S) := by
  refine aw_loc at_159_483 rfl rfl ?_
  refine aw_loc at_159_484 rfl rfl ?_
  refine aw_cs [.ref 0, .ref 452] [] at_159_485 rfl mt_99_89 (Or.inr (Or.inr rfl)) rfl rfl (Nat.le_of_ble_eq_true rfl) ?_
  refine h.mono (fun v S1 h => ?_)
  obtain ⟨hp1, w, S2, r2, hp2, u, S3, r3, hp3, k5, b6, rfl, rfl, rfl, hout, hI⟩ := h
  refine aw_loc at_159_488 rfl rfl ?_
  refine aw_loc at_159_490 rfl rfl ?_
  refine aw_cv (a := 432) [] [] at_159_491 mt_99_91 (Or.inl rfl) rfl rfl (Nat.le_of_ble_eq_true rfl) hp1.2.1 ?_
  refine ⟨_, S2, r2, ?_⟩
  refine aw_loc at_159_494 rfl rfl ?_
  refine aw_loc at_159_496 rfl rfl ?_
  refine aw_cv (a := 432) [] [] at_159_497 mt_99_43 (Or.inl rfl) rfl rfl (Nat.le_of_ble_eq_true rfl) hp2.2.1 ?_
  refine ⟨_, S3, r3, ?_⟩
  refine aw_loc at_159_500 rfl rfl ?_
  refine aw_icmp at_159_502 (fun _ => ?_) (fun z => absurd rfl z)
  refine aw_loc at_159_507 rfl rfl ?_
  refine aw_if at_159_509 (fun z => ?_) (fun z => ?_)
  · show ai_aw L xs d ai_m159 Q (524, _, _, _)
    refine aw_goto at_159_524 ?_
    exact k _ _ S3 hp3 hI
  · have hz : k5 = 0 := Classical.byContradiction z
    obtain ⟨f, hf, hb⟩ := hout hz
    refine aw_loc at_159_512 rfl rfl ?_
    refine aw_pure at_159_513 rfl rfl ?_
    refine aw_lald at_159_514 rfl hf (by decide) ?_
    rw [show f (Int32.ofInt 0).toNatClampNeg = b6.toInt64 from hb]
    refine aw_loc at_159_515 rfl rfl ?_
    refine aw_pure at_159_517 rfl rfl ?_
    refine aw_pure at_159_518 rfl rfl ?_
    refine aw_if at_159_519 (fun _ => ?_) (fun z => absurd (lg_cmp_self _) z)
    refine aw_goto at_159_524 ?_
    exact k _ _ S3 hp3 hI
set_option maxHeartbeats 1000000 in
theorem lw_b12 {I : ai_S → Prop} (hL : L ≤ 1536) (hi : 3 * t + 3 ≤ L) (hp : ai_prs S) (h : ai_opV L xs d 8 103 [.ref 0, .int (xs (3 * t + 1))] [.ref 432, .int (xs (3 * t + 1))] I S) (k : ∀ v5 v6 S9, ai_prs S9 → I S9 → ai_aw L xs d ai_m159 Q (563, lw_lv (Int32.ofNat (3 * t)) v5 v6, [], S9)) : ai_aw L xs d ai_m159 Q (527, lw_lv (Int32.ofNat (3 * t)) v5 v6, [], S) := by
  refine aw_loc at_159_527 rfl rfl ?_
  refine aw_loc at_159_528 rfl rfl ?_
  refine aw_loc at_159_529 rfl rfl ?_
  refine aw_pure at_159_531 rfl rfl ?_
  refine aw_pure at_159_532 rfl rfl ?_
  refine aw_sld at_159_533 (by omega) hL (i32_add1 t) ?_
  refine aw_cv (a := 0) [.int (xs (3 * t + 1))] [] at_159_534 mt_99_92 (Or.inl rfl) rfl rfl (Nat.le_of_ble_eq_true rfl) hp.1 ?_
  refine h.mono (fun v S1 h => ?_)
  obtain ⟨hp1, w, S2, r2, hp2, k5, rfl, rfl, hI⟩ := h
  refine aw_loc at_159_537 rfl rfl ?_
  refine aw_loc at_159_538 rfl rfl ?_
  refine aw_loc at_159_539 rfl rfl ?_
  refine aw_pure at_159_541 rfl rfl ?_
  refine aw_pure at_159_542 rfl rfl ?_
  refine aw_sld at_159_543 (by omega) hL (i32_add1 t) ?_
  refine aw_cv (a := 432) [.int (xs (3 * t + 1))] [.int k5] at_159_544 mt_99_96 (Or.inl rfl) rfl rfl (Nat.le_of_ble_eq_true rfl) hp1.2.1 ?_
  refine ⟨_, S2, r2, ?_⟩
  refine aw_icmp at_159_547 (fun _ => ?_) (fun z => absurd rfl z)
  exact k _ _ S2 hp2 hI
set_option maxHeartbeats 1000000 in
theorem lw_b13 {I : ai_S → Prop} (hL : L ≤ 1536) (hi : 3 * t + 3 ≤ L) (hp : ai_prs S) (h : ai_opN L xs d 9 157 [.ref 0] [.ref 432] I S) (k : ∀ v5 v6 S9, ai_prs S9 → I S9 → ai_aw L xs d ai_m159 Q (563, lw_lv (Int32.ofNat (3 * t)) v5 v6, [], S9)) : ai_aw L xs d ai_m159 Q (552, lw_lv (Int32.ofNat (3 * t)) v5 v6, [], S) := by
  refine aw_loc at_159_552 rfl rfl ?_
  refine aw_cv (a := 0) [] [] at_159_553 mt_99_97 (Or.inl rfl) rfl rfl (Nat.le_of_ble_eq_true rfl) hp.1 ?_
  refine h.mono (fun v S1 h => ?_)
  obtain ⟨hp1, w, S2, r2, hp2, rfl, rfl, hI⟩ := h
  refine aw_loc at_159_556 rfl rfl ?_
  refine aw_cv (a := 432) [] [] at_159_557 mt_99_100 (Or.inl rfl) rfl rfl (Nat.le_of_ble_eq_true rfl) hp1.2.1 ?_
  refine ⟨_, S2, r2, ?_⟩
  refine aw_goto at_159_560 ?_
  exact k _ _ S2 hp2 hI
theorem lw_and15 (x : Int32) : ¬ ((x &&& Int32.ofInt 15).toInt < 0 ∨ 15 < (x &&& Int32.ofInt 15).toInt) := by
  have h : ((x &&& 15).toBitVec).toNat ≤ 15 := by
    rw [Int32.toBitVec_and, BitVec.toNat_and]
    exact Nat.and_le_right
  have h2 : (x &&& 15).toInt = ((x &&& 15).toBitVec).toNat := by
    rw [← Int32.toInt_toBitVec, BitVec.toInt_eq_toNat_of_lt (by omega)]
  show ¬ ((x &&& 15).toInt < 0 ∨ 15 < (x &&& 15).toInt)
  omega
theorem lw_15 (y : Int32) (h : ¬ (y.toInt < 0 ∨ 15 < y.toInt)) : ∃ n : Nat, n < 16 ∧ y = Int32.ofNat n := by
  refine ⟨y.toInt.toNat, by omega, ?_⟩
  apply Int32.toInt_inj.mp
  rw [Int32.toInt_ofNat_of_lt (by omega)]
  omega
set_option maxHeartbeats 1000000 in
theorem lw_turn {I : ai_S → Prop} (hL : L ≤ 1536) (hi : 3 * t + 3 ≤ L) (hp : ai_prs S) (h : ai_op L xs d (xs (3 * t) &&& Int32.ofInt 15) (xs (3 * t + 1)) (xs (3 * t + 2)) I S) (k : ∀ v5 v6 S9, ai_prs S9 → I S9 → ai_aw L xs d ai_m159 Q (23, lw_lv (Int32.ofNat (3 * (t + 1))) v5 v6, [], S9)) : ai_aw L xs d ai_m159 Q (23, lw_lv (Int32.ofNat (3 * t)) v5 v6, [], S) := by
  refine aw_loc at_159_23 rfl rfl ?_
  refine aw_loc at_159_25 rfl rfl ?_
  refine aw_slen at_159_26 ?_
  refine aw_pure at_159_27 rfl rfl ?_
  refine aw_pure at_159_28 rfl rfl ?_
  refine aw_icmp at_159_29 (fun z => absurd ((i32_head hL (by omega)).mp z) (by omega)) (fun _ => ?_)
  refine aw_loc at_159_32 rfl rfl ?_
  refine aw_loc at_159_33 rfl rfl ?_
  refine aw_sld at_159_35 (k := 3 * t) (by omega) hL rfl ?_
  refine aw_pure at_159_36 rfl rfl ?_
  refine aw_pure at_159_38 rfl rfl ?_
  change ai_aw L xs d ai_m159 Q (39, _, .int (xs (3 * t) &&& Int32.ofInt 15) :: [], S)
  have k563 : ∀ v5 v6 S9, ai_prs S9 → I S9 → ai_aw L xs d ai_m159 Q (563, lw_lv (Int32.ofNat (3 * t)) v5 v6, [], S9) := by
    intro v5 v6 S9 hp9 h9
    refine aw_loc at_159_563 rfl rfl ?_
    refine aw_goto at_159_566 ?_
    have := k v5 v6 S9 hp9 h9
    rw [← i32_add3] at this
    exact this
  obtain ⟨n, hn, hy⟩ := lw_15 _ (lw_and15 (xs (3 * t)))
  rw [hy] at h ⊢
  obtain ⟨h0, h1, h2, h3, h4, h5, h6, h7, h8, h9, h10, h11, h12, h13, h14⟩ := h
  refine aw_switch at_159_39 (fun z => ?_) (fun z => ?_)
  · have h15 : n = 14 ∨ n = 15 := by
      rw [Int32.toInt_ofNat_of_lt (by omega)] at z; omega
    refine k563 _ _ S hp (h14 ?_)
    rcases h15 with rfl | rfl
    · exact Or.inl rfl
    · exact Or.inr rfl
  · rw [Int32.toInt_ofNat_of_lt (by omega)] at z ⊢
    have hlt : n < 14 := by omega
    match n, hlt with
    | 0, _ => exact ⟨_, rfl, lw_b0 hL hi hp (h0 rfl) k563⟩
    | 1, _ => exact ⟨_, rfl, lw_b1 hL hi hp (h1 rfl) k563⟩
    | 2, _ => exact ⟨_, rfl, lw_b2 hL hi hp (h2 rfl) k563⟩
    | 3, _ => exact ⟨_, rfl, lw_b3 hL hi hp (h3 rfl) k563⟩
    | 4, _ => exact ⟨_, rfl, lw_b4 hL hi hp (h4 rfl) k563⟩
    | 5, _ => exact ⟨_, rfl, lw_b5 hL hi hp (h5 rfl) k563⟩
    | 6, _ => exact ⟨_, rfl, lw_b6 hL hi hp (h6 rfl) k563⟩
    | 7, _ => exact ⟨_, rfl, lw_b7 hL hi hp (h7 rfl) k563⟩
    | 8, _ => exact ⟨_, rfl, lw_b8 hL hi hp (h8 rfl) k563⟩
    | 9, _ => exact ⟨_, rfl, lw_b9 hL hi hp (h9 rfl) k563⟩
    | 10, _ => exact ⟨_, rfl, lw_b10 hL hi hp (h10 rfl) k563⟩
    | 11, _ => exact ⟨_, rfl, lw_b11 hL hi hp (h11 rfl) k563⟩
    | 12, _ => exact ⟨_, rfl, lw_b12 hL hi hp (h12 rfl) k563⟩
    | 13, _ => exact ⟨_, rfl, lw_b13 hL hi hp (h13 rfl) k563⟩
theorem lw_end (hL : L ≤ 1536) (ht : 3 * t ≤ 1536) (hi : L < 3 * t + 3) (hq : Q (ai_ok (some (.int 1)) S)) : ai_aw L xs d ai_m159 Q (23, lw_lv (Int32.ofNat (3 * t)) v5 v6, [], S) := by
  refine aw_loc at_159_23 rfl rfl ?_
  refine aw_loc at_159_25 rfl rfl ?_
  refine aw_slen at_159_26 ?_
  refine aw_pure at_159_27 rfl rfl ?_
  refine aw_pure at_159_28 rfl rfl ?_
  refine aw_icmp at_159_29 (fun _ => ?_) (fun z => absurd ((i32_head hL (by omega)).mpr hi) z)
  show ai_aw L xs d ai_m159 Q (569, _, _, _)
  refine aw_pure at_159_569 rfl rfl ?_
  exact aw_ret at_159_570 rfl rfl hq
theorem lw_loop {I : Nat → ai_S → Prop} (hL : L ≤ 1536) (hop : ∀ t S, 3 * t + 3 ≤ L → ai_prs S → I t S → ai_op L xs d (xs (3 * t) &&& Int32.ofInt 15) (xs (3 * t + 1)) (xs (3 * t + 2)) (I (t + 1)) S) (hq : ∀ t S, 3 * t ≤ L → I t S → Q (ai_ok (some (.int 1)) S)) : ∀ (n t : Nat) (v5 v6 : Option Value) (S : ai_S), L ≤ 3 * t + n → 3 * t ≤ L → ai_prs S → I t S → ai_aw L xs d ai_m159 Q (23, lw_lv (Int32.ofNat (3 * t)) v5 v6, [], S) := by
  intro n
  induction n with
  | zero => intro t v5 v6 S h1 h2 hp hI; exact lw_end hL (by omega) (by omega) (hq t S h2 hI)
  | succ n ih =>
    intro t v5 v6 S h1 h2 hp hI
    by_cases h3 : 3 * t + 3 ≤ L
    · exact lw_turn hL h3 hp (hop t S h3 hp hI) (fun v5 v6 S9 hp9 hI9 => ih (t + 1) v5 v6 S9 (by omega) (by omega) hp9 hI9)
    · exact lw_end hL (by omega) (by omega) (hq t S h2 hI)
end LB

/-! The path order, as the landed code does it. -/
section PA
variable {L : Nat} {xs : Nat → Int32} {d : Nat} {S S' : ai_S} {P R : Nat → Int} {nn : Int} {w1 w2 : List Int} {TU TV EU EV TB : Nat → Int}
/-- the order's fields -/
def pof : List Value := [.ref 1, .ref 418, .ref 420, .ref 422, .ref 423, .ref 424]
/-- the order at work: two words, their ends, the table -/
def pob (S : ai_S) (P R : Nat → Int) (nn : Int) (w1 w2 : List Int) (TU TV EU EV TB : Nat → Int) : Prop := sy S P R nn ∧ (∀ i, 0 ≤ P i ∧ P i ≤ 2) ∧ ai_obj S 417 9 = some pof ∧ (tm S 418 TU w1.length ∧ wd TU w1.length w1) ∧ (tm S 420 TV w2.length ∧ wd TV w2.length w2) ∧ (ai_arr S 422 0 = some (24, ax_f EU) ∧ ∀ j : Nat, j < w1.length → EU j = (j : Int) + tl (Ar P) 1 (w1.drop j)) ∧ (ai_arr S 423 0 = some (24, ax_f EV) ∧ ∀ j : Nat, j < w2.length → EV j = (j : Int) + tl (Ar P) 1 (w2.drop j)) ∧ (ai_arr S 424 2 = some (576, ax_f TB) ∧ ∀ i, TB i = 0 ∨ TB i = 1) ∧ (w1.length ≤ 24 ∧ w2.length ≤ 24) ∧ ∀ i, 0 ≤ R i ∧ R i ≤ 1000
/-- an entry of the table is right -/
def tbr (P R : Nat → Int) (w1 w2 : List Int) (TB : Nat → Int) (i j : Nat) : Prop := TB (24 * i + j) = 1 ↔ pgt (Ar P) (at256 R) (sb (Ar P) w1 i) (sb (Ar P) w2 j)
theorem Ar_in (hP : ∀ i, 0 ≤ P i ∧ P i ≤ 2) (c : Int) : at256 P c = (Ar P c : Int) ∧ Ar P c ≤ 2 := by
  have := at256_in hP c
  unfold Ar
  omega
theorem sb_same {A : Int → Nat} {p q : Nat} (h1 : wd TU w1.length w1) (h2 : wd TV w2.length w2) (l1 : w1.length ≤ 24) (l2 : w2.length ≤ 24) (hp : p < w1.length) (hq : q < w2.length) : sb A w1 p = sb A w2 q ↔ (tl A 1 (w1.drop p) = tl A 1 (w2.drop q) ∧ p + tl A 1 (w1.drop p) ≤ 24 ∧ q + tl A 1 (w1.drop p) ≤ 24 ∧ ∀ i, i < tl A 1 (w1.drop p) → TU (p + i) = TV (q + i)) := by
  have e1 := sb_sl (A := A) (p := p) (fun i hi => h1.2.1 i hi (by omega))
  have e2 := sb_sl (A := A) (p := q) (fun i hi => h2.2.1 i hi (by omega))
  have b1 := tl_le (A := A) (w1.drop p) 1
  have b2 := tl_le (A := A) (w2.drop q) 1
  rw [List.length_drop] at b1 b2
  rw [e1, e2]
  constructor
  · intro h
    have hl := congrArg List.length h
    rw [sl_len, sl_len] at hl
    refine ⟨hl, by omega, by omega, fun i hi => ?_⟩
    rw [← hl] at h
    have := congrArg (fun l => l.getD i 0) h
    simp only [sl_get _ _ _ _ hi] at this
    exact this
  · rintro ⟨hl, -, -, h⟩
    rw [← hl]
    exact List.map_congr_left fun i hi => h i (List.mem_range.1 hi)
theorem at_61_0 : ai_at ai_m61 0 = some (.aload_n 1, 1) := rfl
theorem at_61_1 : ai_at ai_m61 1 = some (.aload_n 2, 1) := rfl
theorem at_61_2 : ai_at ai_m61 2 = some (.invokevirtual 36, 3) := rfl
theorem at_61_5 : ai_at ai_m61 5 = some (.ifCond .eq 5, 3) := rfl
theorem at_61_8 : ai_at ai_m61 8 = some (.iconst 0, 1) := rfl
theorem at_61_9 : ai_at ai_m61 9 = some (.ireturn, 1) := rfl
theorem at_61_10 : ai_at ai_m61 10 = some (.aload_n 0, 1) := rfl
theorem at_61_11 : ai_at ai_m61 11 = some (.aload_n 1, 1) := rfl
theorem at_61_12 : ai_at ai_m61 12 = some (.aload_n 2, 1) := rfl
theorem at_61_13 : ai_at ai_m61 13 = some (.invokevirtual 40, 3) := rfl
theorem at_61_16 : ai_at ai_m61 16 = some (.ifCond .eq 5, 3) := rfl
theorem at_61_19 : ai_at ai_m61 19 = some (.iconst 1, 1) := rfl
theorem at_61_20 : ai_at ai_m61 20 = some (.ireturn, 1) := rfl
theorem at_61_21 : ai_at ai_m61 21 = some (.aload_n 0, 1) := rfl
theorem at_61_22 : ai_at ai_m61 22 = some (.aload_n 2, 1) := rfl
theorem at_61_23 : ai_at ai_m61 23 = some (.aload_n 1, 1) := rfl
theorem at_61_24 : ai_at ai_m61 24 = some (.invokevirtual 40, 3) := rfl
theorem at_61_27 : ai_at ai_m61 27 = some (.ifCond .eq 7, 3) := rfl
theorem at_61_30 : ai_at ai_m61 30 = some (.iconst (-1), 1) := rfl
theorem at_61_31 : ai_at ai_m61 31 = some (.goto 4, 3) := rfl
theorem at_61_34 : ai_at ai_m61 34 = some (.iconst 2, 1) := rfl
theorem at_61_35 : ai_at ai_m61 35 = some (.ireturn, 1) := rfl
theorem at_62_0 : ai_at ai_m62 0 = some (.aload_n 0, 1) := rfl
theorem at_62_1 : ai_at ai_m62 1 = some (.getfield 12, 3) := rfl
theorem at_62_4 : ai_at ai_m62 4 = some (.aload_n 1, 1) := rfl
theorem at_62_5 : ai_at ai_m62 5 = some (.invokevirtual 44, 3) := rfl
theorem at_62_8 : ai_at ai_m62 8 = some (.aload_n 0, 1) := rfl
theorem at_62_9 : ai_at ai_m62 9 = some (.getfield 18, 3) := rfl
theorem at_62_12 : ai_at ai_m62 12 = some (.aload_n 2, 1) := rfl
theorem at_62_13 : ai_at ai_m62 13 = some (.invokevirtual 44, 3) := rfl
theorem at_62_16 : ai_at ai_m62 16 = some (.aload_n 0, 1) := rfl
theorem at_62_17 : ai_at ai_m62 17 = some (.getfield 32, 3) := rfl
theorem at_62_20 : ai_at ai_m62 20 = some (.aload_n 0, 1) := rfl
theorem at_62_21 : ai_at ai_m62 21 = some (.getfield 12, 3) := rfl
theorem at_62_24 : ai_at ai_m62 24 = some (.getfield 48, 3) := rfl
theorem at_62_27 : ai_at ai_m62 27 = some (.iconst 0, 1) := rfl
theorem at_62_28 : ai_at ai_m62 28 = some (.aload_n 0, 1) := rfl
theorem at_62_29 : ai_at ai_m62 29 = some (.getfield 12, 3) := rfl
theorem at_62_32 : ai_at ai_m62 32 = some (.getfield 52, 3) := rfl
theorem at_62_35 : ai_at ai_m62 35 = some (.aload_n 0, 1) := rfl
theorem at_62_36 : ai_at ai_m62 36 = some (.getfield 21, 3) := rfl
theorem at_62_39 : ai_at ai_m62 39 = some (.invokevirtual 56, 3) := rfl
theorem at_62_42 : ai_at ai_m62 42 = some (.aload_n 0, 1) := rfl
theorem at_62_43 : ai_at ai_m62 43 = some (.getfield 32, 3) := rfl
theorem at_62_46 : ai_at ai_m62 46 = some (.aload_n 0, 1) := rfl
theorem at_62_47 : ai_at ai_m62 47 = some (.getfield 18, 3) := rfl
theorem at_62_50 : ai_at ai_m62 50 = some (.getfield 48, 3) := rfl
theorem at_62_53 : ai_at ai_m62 53 = some (.iconst 0, 1) := rfl
theorem at_62_54 : ai_at ai_m62 54 = some (.aload_n 0, 1) := rfl
theorem at_62_55 : ai_at ai_m62 55 = some (.getfield 18, 3) := rfl
theorem at_62_58 : ai_at ai_m62 58 = some (.getfield 52, 3) := rfl
theorem at_62_61 : ai_at ai_m62 61 = some (.aload_n 0, 1) := rfl
theorem at_62_62 : ai_at ai_m62 62 = some (.getfield 25, 3) := rfl
theorem at_62_65 : ai_at ai_m62 65 = some (.invokevirtual 56, 3) := rfl
theorem at_62_68 : ai_at ai_m62 68 = some (.aload_n 0, 1) := rfl
theorem at_62_69 : ai_at ai_m62 69 = some (.getfield 12, 3) := rfl
theorem at_62_72 : ai_at ai_m62 72 = some (.getfield 52, 3) := rfl
theorem at_62_75 : ai_at ai_m62 75 = some (.iconst 1, 1) := rfl
theorem at_62_76 : ai_at ai_m62 76 = some (.isub, 1) := rfl
theorem at_62_77 : ai_at ai_m62 77 = some (.istore_n 3, 1) := rfl
theorem at_62_78 : ai_at ai_m62 78 = some (.iload_n 3, 1) := rfl
theorem at_62_79 : ai_at ai_m62 79 = some (.ifCond .lt 68, 3) := rfl
theorem at_62_82 : ai_at ai_m62 82 = some (.aload_n 0, 1) := rfl
theorem at_62_83 : ai_at ai_m62 83 = some (.getfield 18, 3) := rfl
theorem at_62_86 : ai_at ai_m62 86 = some (.getfield 52, 3) := rfl
theorem at_62_89 : ai_at ai_m62 89 = some (.iconst 1, 1) := rfl
theorem at_62_90 : ai_at ai_m62 90 = some (.isub, 1) := rfl
theorem at_62_91 : ai_at ai_m62 91 = some (.istore 4, 2) := rfl
theorem at_62_93 : ai_at ai_m62 93 = some (.iload 4, 2) := rfl
theorem at_62_95 : ai_at ai_m62 95 = some (.ifCond .lt 46, 3) := rfl
theorem at_62_98 : ai_at ai_m62 98 = some (.aload_n 0, 1) := rfl
theorem at_62_99 : ai_at ai_m62 99 = some (.getfield 28, 3) := rfl
theorem at_62_102 : ai_at ai_m62 102 = some (.iload_n 3, 1) := rfl
theorem at_62_103 : ai_at ai_m62 103 = some (.bipush 24, 2) := rfl
theorem at_62_105 : ai_at ai_m62 105 = some (.imul, 1) := rfl
theorem at_62_106 : ai_at ai_m62 106 = some (.iload 4, 2) := rfl
theorem at_62_108 : ai_at ai_m62 108 = some (.iadd, 1) := rfl
theorem at_62_109 : ai_at ai_m62 109 = some (.aload_n 0, 1) := rfl
theorem at_62_110 : ai_at ai_m62 110 = some (.iload_n 3, 1) := rfl
theorem at_62_111 : ai_at ai_m62 111 = some (.iload 4, 2) := rfl
theorem at_62_113 : ai_at ai_m62 113 = some (.invokevirtual 62, 3) := rfl
theorem at_62_116 : ai_at ai_m62 116 = some (.ifCond .ne 13, 3) := rfl
theorem at_62_119 : ai_at ai_m62 119 = some (.aload_n 0, 1) := rfl
theorem at_62_120 : ai_at ai_m62 120 = some (.iload_n 3, 1) := rfl
theorem at_62_121 : ai_at ai_m62 121 = some (.iload 4, 2) := rfl
theorem at_62_123 : ai_at ai_m62 123 = some (.invokevirtual 66, 3) := rfl
theorem at_62_126 : ai_at ai_m62 126 = some (.ifCond .eq 7, 3) := rfl
theorem at_62_129 : ai_at ai_m62 129 = some (.iconst 1, 1) := rfl
theorem at_62_130 : ai_at ai_m62 130 = some (.goto 4, 3) := rfl
theorem at_62_133 : ai_at ai_m62 133 = some (.iconst 0, 1) := rfl
theorem at_62_134 : ai_at ai_m62 134 = some (.bastore, 1) := rfl
theorem at_62_135 : ai_at ai_m62 135 = some (.iinc 4 (-1), 3) := rfl
theorem at_62_138 : ai_at ai_m62 138 = some (.goto (-45), 3) := rfl
theorem at_62_141 : ai_at ai_m62 141 = some (.iinc 3 (-1), 3) := rfl
theorem at_62_144 : ai_at ai_m62 144 = some (.goto (-66), 3) := rfl
theorem at_62_147 : ai_at ai_m62 147 = some (.aload_n 0, 1) := rfl
theorem at_62_148 : ai_at ai_m62 148 = some (.getfield 28, 3) := rfl
theorem at_62_151 : ai_at ai_m62 151 = some (.iconst 0, 1) := rfl
theorem at_62_152 : ai_at ai_m62 152 = some (.baload, 1) := rfl
theorem at_62_153 : ai_at ai_m62 153 = some (.ireturn, 1) := rfl
theorem at_63_0 : ai_at ai_m63 0 = some (.iload_n 1, 1) := rfl
theorem at_63_1 : ai_at ai_m63 1 = some (.iconst 1, 1) := rfl
theorem at_63_2 : ai_at ai_m63 2 = some (.iadd, 1) := rfl
theorem at_63_3 : ai_at ai_m63 3 = some (.istore_n 3, 1) := rfl
theorem at_63_4 : ai_at ai_m63 4 = some (.aload_n 0, 1) := rfl
theorem at_63_5 : ai_at ai_m63 5 = some (.getfield 32, 3) := rfl
theorem at_63_8 : ai_at ai_m63 8 = some (.aload_n 0, 1) := rfl
theorem at_63_9 : ai_at ai_m63 9 = some (.getfield 12, 3) := rfl
theorem at_63_12 : ai_at ai_m63 12 = some (.getfield 48, 3) := rfl
theorem at_63_15 : ai_at ai_m63 15 = some (.iload_n 1, 1) := rfl
theorem at_63_16 : ai_at ai_m63 16 = some (.caload, 1) := rfl
theorem at_63_17 : ai_at ai_m63 17 = some (.invokevirtual 69, 3) := rfl
theorem at_63_20 : ai_at ai_m63 20 = some (.istore 4, 2) := rfl
theorem at_63_22 : ai_at ai_m63 22 = some (.iload 4, 2) := rfl
theorem at_63_24 : ai_at ai_m63 24 = some (.ifCond .le 41, 3) := rfl
theorem at_63_27 : ai_at ai_m63 27 = some (.aload_n 0, 1) := rfl
theorem at_63_28 : ai_at ai_m63 28 = some (.getfield 28, 3) := rfl
theorem at_63_31 : ai_at ai_m63 31 = some (.iload_n 3, 1) := rfl
theorem at_63_32 : ai_at ai_m63 32 = some (.bipush 24, 2) := rfl
theorem at_63_34 : ai_at ai_m63 34 = some (.imul, 1) := rfl
theorem at_63_35 : ai_at ai_m63 35 = some (.iload_n 2, 1) := rfl
theorem at_63_36 : ai_at ai_m63 36 = some (.iadd, 1) := rfl
theorem at_63_37 : ai_at ai_m63 37 = some (.baload, 1) := rfl
theorem at_63_38 : ai_at ai_m63 38 = some (.ifCond .ne 12, 3) := rfl
theorem at_63_41 : ai_at ai_m63 41 = some (.aload_n 0, 1) := rfl
theorem at_63_42 : ai_at ai_m63 42 = some (.iload_n 3, 1) := rfl
theorem at_63_43 : ai_at ai_m63 43 = some (.iload_n 2, 1) := rfl
theorem at_63_44 : ai_at ai_m63 44 = some (.invokevirtual 73, 3) := rfl
theorem at_63_47 : ai_at ai_m63 47 = some (.ifCond .eq 5, 3) := rfl
theorem at_63_50 : ai_at ai_m63 50 = some (.iconst 1, 1) := rfl
theorem at_63_51 : ai_at ai_m63 51 = some (.ireturn, 1) := rfl
theorem at_63_52 : ai_at ai_m63 52 = some (.aload_n 0, 1) := rfl
theorem at_63_53 : ai_at ai_m63 53 = some (.getfield 21, 3) := rfl
theorem at_63_56 : ai_at ai_m63 56 = some (.iload_n 3, 1) := rfl
theorem at_63_57 : ai_at ai_m63 57 = some (.iaload, 1) := rfl
theorem at_63_58 : ai_at ai_m63 58 = some (.istore_n 3, 1) := rfl
theorem at_63_59 : ai_at ai_m63 59 = some (.iinc 4 (-1), 3) := rfl
theorem at_63_62 : ai_at ai_m63 62 = some (.goto (-40), 3) := rfl
theorem at_63_65 : ai_at ai_m63 65 = some (.iconst 0, 1) := rfl
theorem at_63_66 : ai_at ai_m63 66 = some (.ireturn, 1) := rfl
theorem at_64_0 : ai_at ai_m64 0 = some (.aload_n 0, 1) := rfl
theorem at_64_1 : ai_at ai_m64 1 = some (.getfield 21, 3) := rfl
theorem at_64_4 : ai_at ai_m64 4 = some (.iload_n 1, 1) := rfl
theorem at_64_5 : ai_at ai_m64 5 = some (.iaload, 1) := rfl
theorem at_64_6 : ai_at ai_m64 6 = some (.iload_n 1, 1) := rfl
theorem at_64_7 : ai_at ai_m64 7 = some (.isub, 1) := rfl
theorem at_64_8 : ai_at ai_m64 8 = some (.istore_n 3, 1) := rfl
theorem at_64_9 : ai_at ai_m64 9 = some (.iload_n 3, 1) := rfl
theorem at_64_10 : ai_at ai_m64 10 = some (.aload_n 0, 1) := rfl
theorem at_64_11 : ai_at ai_m64 11 = some (.getfield 25, 3) := rfl
theorem at_64_14 : ai_at ai_m64 14 = some (.iload_n 2, 1) := rfl
theorem at_64_15 : ai_at ai_m64 15 = some (.iaload, 1) := rfl
theorem at_64_16 : ai_at ai_m64 16 = some (.iload_n 2, 1) := rfl
theorem at_64_17 : ai_at ai_m64 17 = some (.isub, 1) := rfl
theorem at_64_18 : ai_at ai_m64 18 = some (.if_icmp .ne 24, 3) := rfl
theorem at_64_21 : ai_at ai_m64 21 = some (.aload_n 0, 1) := rfl
theorem at_64_22 : ai_at ai_m64 22 = some (.getfield 12, 3) := rfl
theorem at_64_25 : ai_at ai_m64 25 = some (.iload_n 1, 1) := rfl
theorem at_64_26 : ai_at ai_m64 26 = some (.aload_n 0, 1) := rfl
theorem at_64_27 : ai_at ai_m64 27 = some (.getfield 18, 3) := rfl
theorem at_64_30 : ai_at ai_m64 30 = some (.iload_n 2, 1) := rfl
theorem at_64_31 : ai_at ai_m64 31 = some (.iload_n 3, 1) := rfl
theorem at_64_32 : ai_at ai_m64 32 = some (.invokevirtual 89, 3) := rfl
theorem at_64_35 : ai_at ai_m64 35 = some (.ifCond .eq 7, 3) := rfl
theorem at_64_38 : ai_at ai_m64 38 = some (.iconst 1, 1) := rfl
theorem at_64_39 : ai_at ai_m64 39 = some (.goto 4, 3) := rfl
theorem at_64_42 : ai_at ai_m64 42 = some (.iconst 0, 1) := rfl
theorem at_64_43 : ai_at ai_m64 43 = some (.ireturn, 1) := rfl
theorem at_65_0 : ai_at ai_m65 0 = some (.aload_n 0, 1) := rfl
theorem at_65_1 : ai_at ai_m65 1 = some (.getfield 12, 3) := rfl
theorem at_65_4 : ai_at ai_m65 4 = some (.getfield 48, 3) := rfl
theorem at_65_7 : ai_at ai_m65 7 = some (.iload_n 1, 1) := rfl
theorem at_65_8 : ai_at ai_m65 8 = some (.caload, 1) := rfl
theorem at_65_9 : ai_at ai_m65 9 = some (.istore_n 3, 1) := rfl
theorem at_65_10 : ai_at ai_m65 10 = some (.aload_n 0, 1) := rfl
theorem at_65_11 : ai_at ai_m65 11 = some (.getfield 18, 3) := rfl
theorem at_65_14 : ai_at ai_m65 14 = some (.getfield 48, 3) := rfl
theorem at_65_17 : ai_at ai_m65 17 = some (.iload_n 2, 1) := rfl
theorem at_65_18 : ai_at ai_m65 18 = some (.caload, 1) := rfl
theorem at_65_19 : ai_at ai_m65 19 = some (.istore 4, 2) := rfl
theorem at_65_21 : ai_at ai_m65 21 = some (.iload_n 3, 1) := rfl
theorem at_65_22 : ai_at ai_m65 22 = some (.invokestatic 76, 3) := rfl
theorem at_65_25 : ai_at ai_m65 25 = some (.ifCond .ne 20, 3) := rfl
theorem at_65_28 : ai_at ai_m65 28 = some (.iload 4, 2) := rfl
theorem at_65_30 : ai_at ai_m65 30 = some (.invokestatic 76, 3) := rfl
theorem at_65_33 : ai_at ai_m65 33 = some (.ifCond .ne 12, 3) := rfl
theorem at_65_36 : ai_at ai_m65 36 = some (.aload_n 0, 1) := rfl
theorem at_65_37 : ai_at ai_m65 37 = some (.iload_n 1, 1) := rfl
theorem at_65_38 : ai_at ai_m65 38 = some (.iload_n 2, 1) := rfl
theorem at_65_39 : ai_at ai_m65 39 = some (.invokevirtual 80, 3) := rfl
theorem at_65_42 : ai_at ai_m65 42 = some (.ifCond .ne 5, 3) := rfl
theorem at_65_45 : ai_at ai_m65 45 = some (.iconst 0, 1) := rfl
theorem at_65_46 : ai_at ai_m65 46 = some (.ireturn, 1) := rfl
theorem at_65_47 : ai_at ai_m65 47 = some (.iload_n 3, 1) := rfl
theorem at_65_48 : ai_at ai_m65 48 = some (.iload 4, 2) := rfl
theorem at_65_50 : ai_at ai_m65 50 = some (.if_icmp .ne 12, 3) := rfl
theorem at_65_53 : ai_at ai_m65 53 = some (.aload_n 0, 1) := rfl
theorem at_65_54 : ai_at ai_m65 54 = some (.iload_n 1, 1) := rfl
theorem at_65_55 : ai_at ai_m65 55 = some (.iload_n 2, 1) := rfl
theorem at_65_56 : ai_at ai_m65 56 = some (.invokevirtual 83, 3) := rfl
theorem at_65_59 : ai_at ai_m65 59 = some (.goto 28, 3) := rfl
theorem at_65_62 : ai_at ai_m65 62 = some (.aload_n 0, 1) := rfl
theorem at_65_63 : ai_at ai_m65 63 = some (.getfield 32, 3) := rfl
theorem at_65_66 : ai_at ai_m65 66 = some (.iload_n 3, 1) := rfl
theorem at_65_67 : ai_at ai_m65 67 = some (.invokevirtual 86, 3) := rfl
theorem at_65_70 : ai_at ai_m65 70 = some (.aload_n 0, 1) := rfl
theorem at_65_71 : ai_at ai_m65 71 = some (.getfield 32, 3) := rfl
theorem at_65_74 : ai_at ai_m65 74 = some (.iload 4, 2) := rfl
theorem at_65_76 : ai_at ai_m65 76 = some (.invokevirtual 86, 3) := rfl
theorem at_65_79 : ai_at ai_m65 79 = some (.if_icmp .le 7, 3) := rfl
theorem at_65_82 : ai_at ai_m65 82 = some (.iconst 1, 1) := rfl
theorem at_65_83 : ai_at ai_m65 83 = some (.goto 4, 3) := rfl
theorem at_65_86 : ai_at ai_m65 86 = some (.iconst 0, 1) := rfl
theorem at_65_87 : ai_at ai_m65 87 = some (.ireturn, 1) := rfl
theorem at_66_0 : ai_at ai_m66 0 = some (.iload_n 2, 1) := rfl
theorem at_66_1 : ai_at ai_m66 1 = some (.iconst 1, 1) := rfl
theorem at_66_2 : ai_at ai_m66 2 = some (.iadd, 1) := rfl
theorem at_66_3 : ai_at ai_m66 3 = some (.istore_n 3, 1) := rfl
theorem at_66_4 : ai_at ai_m66 4 = some (.aload_n 0, 1) := rfl
theorem at_66_5 : ai_at ai_m66 5 = some (.getfield 32, 3) := rfl
theorem at_66_8 : ai_at ai_m66 8 = some (.aload_n 0, 1) := rfl
theorem at_66_9 : ai_at ai_m66 9 = some (.getfield 18, 3) := rfl
theorem at_66_12 : ai_at ai_m66 12 = some (.getfield 48, 3) := rfl
theorem at_66_15 : ai_at ai_m66 15 = some (.iload_n 2, 1) := rfl
theorem at_66_16 : ai_at ai_m66 16 = some (.caload, 1) := rfl
theorem at_66_17 : ai_at ai_m66 17 = some (.invokevirtual 69, 3) := rfl
theorem at_66_20 : ai_at ai_m66 20 = some (.istore 4, 2) := rfl
theorem at_66_22 : ai_at ai_m66 22 = some (.iload 4, 2) := rfl
theorem at_66_24 : ai_at ai_m66 24 = some (.ifCond .le 32, 3) := rfl
theorem at_66_27 : ai_at ai_m66 27 = some (.aload_n 0, 1) := rfl
theorem at_66_28 : ai_at ai_m66 28 = some (.getfield 28, 3) := rfl
theorem at_66_31 : ai_at ai_m66 31 = some (.iload_n 1, 1) := rfl
theorem at_66_32 : ai_at ai_m66 32 = some (.bipush 24, 2) := rfl
theorem at_66_34 : ai_at ai_m66 34 = some (.imul, 1) := rfl
theorem at_66_35 : ai_at ai_m66 35 = some (.iload_n 3, 1) := rfl
theorem at_66_36 : ai_at ai_m66 36 = some (.iadd, 1) := rfl
theorem at_66_37 : ai_at ai_m66 37 = some (.baload, 1) := rfl
theorem at_66_38 : ai_at ai_m66 38 = some (.ifCond .ne 5, 3) := rfl
theorem at_66_41 : ai_at ai_m66 41 = some (.iconst 0, 1) := rfl
theorem at_66_42 : ai_at ai_m66 42 = some (.ireturn, 1) := rfl
theorem at_66_43 : ai_at ai_m66 43 = some (.aload_n 0, 1) := rfl
theorem at_66_44 : ai_at ai_m66 44 = some (.getfield 25, 3) := rfl
theorem at_66_47 : ai_at ai_m66 47 = some (.iload_n 3, 1) := rfl
theorem at_66_48 : ai_at ai_m66 48 = some (.iaload, 1) := rfl
theorem at_66_49 : ai_at ai_m66 49 = some (.istore_n 3, 1) := rfl
theorem at_66_50 : ai_at ai_m66 50 = some (.iinc 4 (-1), 3) := rfl
theorem at_66_53 : ai_at ai_m66 53 = some (.goto (-31), 3) := rfl
theorem at_66_56 : ai_at ai_m66 56 = some (.iconst 1, 1) := rfl
theorem at_66_57 : ai_at ai_m66 57 = some (.ireturn, 1) := rfl
theorem at_67_0 : ai_at ai_m67 0 = some (.iload_n 1, 1) := rfl
theorem at_67_1 : ai_at ai_m67 1 = some (.iconst 1, 1) := rfl
theorem at_67_2 : ai_at ai_m67 2 = some (.iadd, 1) := rfl
theorem at_67_3 : ai_at ai_m67 3 = some (.istore_n 3, 1) := rfl
theorem at_67_4 : ai_at ai_m67 4 = some (.iload_n 2, 1) := rfl
theorem at_67_5 : ai_at ai_m67 5 = some (.iconst 1, 1) := rfl
theorem at_67_6 : ai_at ai_m67 6 = some (.iadd, 1) := rfl
theorem at_67_7 : ai_at ai_m67 7 = some (.istore 4, 2) := rfl
theorem at_67_9 : ai_at ai_m67 9 = some (.aload_n 0, 1) := rfl
theorem at_67_10 : ai_at ai_m67 10 = some (.getfield 32, 3) := rfl
theorem at_67_13 : ai_at ai_m67 13 = some (.aload_n 0, 1) := rfl
theorem at_67_14 : ai_at ai_m67 14 = some (.getfield 12, 3) := rfl
theorem at_67_17 : ai_at ai_m67 17 = some (.getfield 48, 3) := rfl
theorem at_67_20 : ai_at ai_m67 20 = some (.iload_n 1, 1) := rfl
theorem at_67_21 : ai_at ai_m67 21 = some (.caload, 1) := rfl
theorem at_67_22 : ai_at ai_m67 22 = some (.invokevirtual 69, 3) := rfl
theorem at_67_25 : ai_at ai_m67 25 = some (.istore 5, 2) := rfl
theorem at_67_27 : ai_at ai_m67 27 = some (.iload 5, 2) := rfl
theorem at_67_29 : ai_at ai_m67 29 = some (.ifCond .le 48, 3) := rfl
theorem at_67_32 : ai_at ai_m67 32 = some (.aload_n 0, 1) := rfl
theorem at_67_33 : ai_at ai_m67 33 = some (.iload_n 3, 1) := rfl
theorem at_67_34 : ai_at ai_m67 34 = some (.iload 4, 2) := rfl
theorem at_67_36 : ai_at ai_m67 36 = some (.invokevirtual 73, 3) := rfl
theorem at_67_39 : ai_at ai_m67 39 = some (.ifCond .ne 16, 3) := rfl
theorem at_67_42 : ai_at ai_m67 42 = some (.aload_n 0, 1) := rfl
theorem at_67_43 : ai_at ai_m67 43 = some (.getfield 28, 3) := rfl
theorem at_67_46 : ai_at ai_m67 46 = some (.iload_n 3, 1) := rfl
theorem at_67_47 : ai_at ai_m67 47 = some (.bipush 24, 2) := rfl
theorem at_67_49 : ai_at ai_m67 49 = some (.imul, 1) := rfl
theorem at_67_50 : ai_at ai_m67 50 = some (.iload 4, 2) := rfl
theorem at_67_52 : ai_at ai_m67 52 = some (.iadd, 1) := rfl
theorem at_67_53 : ai_at ai_m67 53 = some (.baload, 1) := rfl
theorem at_67_54 : ai_at ai_m67 54 = some (.ireturn, 1) := rfl
theorem at_67_55 : ai_at ai_m67 55 = some (.aload_n 0, 1) := rfl
theorem at_67_56 : ai_at ai_m67 56 = some (.getfield 21, 3) := rfl
theorem at_67_59 : ai_at ai_m67 59 = some (.iload_n 3, 1) := rfl
theorem at_67_60 : ai_at ai_m67 60 = some (.iaload, 1) := rfl
theorem at_67_61 : ai_at ai_m67 61 = some (.istore_n 3, 1) := rfl
theorem at_67_62 : ai_at ai_m67 62 = some (.aload_n 0, 1) := rfl
theorem at_67_63 : ai_at ai_m67 63 = some (.getfield 25, 3) := rfl
theorem at_67_66 : ai_at ai_m67 66 = some (.iload 4, 2) := rfl
theorem at_67_68 : ai_at ai_m67 68 = some (.iaload, 1) := rfl
theorem at_67_69 : ai_at ai_m67 69 = some (.istore 4, 2) := rfl
theorem at_67_71 : ai_at ai_m67 71 = some (.iinc 5 (-1), 3) := rfl
theorem at_67_74 : ai_at ai_m67 74 = some (.goto (-47), 3) := rfl
theorem at_67_77 : ai_at ai_m67 77 = some (.iconst 0, 1) := rfl
theorem at_67_78 : ai_at ai_m67 78 = some (.ireturn, 1) := rfl
theorem fl_6_12 : ai_fld 6 12 = some (9, 1, false) := by decide +kernel
theorem fl_6_18 : ai_fld 6 18 = some (9, 2, false) := by decide +kernel
theorem fl_6_21 : ai_fld 6 21 = some (9, 3, false) := by decide +kernel
theorem fl_6_25 : ai_fld 6 25 = some (9, 4, false) := by decide +kernel
theorem fl_6_28 : ai_fld 6 28 = some (9, 5, false) := by decide +kernel
theorem fl_6_32 : ai_fld 6 32 = some (9, 0, false) := by decide +kernel
theorem fl_6_48 : ai_fld 6 48 = some (4, 0, true) := by decide +kernel
theorem fl_6_52 : ai_fld 6 52 = some (4, 1, true) := by decide +kernel
theorem mt_6_36 : ai_mth 6 36 = some (0, 90, 1, 4) := by decide +kernel
theorem mt_6_40 : ai_mth 6 40 = some (0, 62, 2, 9) := by decide +kernel
theorem mt_6_44 : ai_mth 6 44 = some (0, 87, 1, 4) := by decide +kernel
theorem mt_6_56 : ai_mth 6 56 = some (0, 83, 4, 1) := by decide +kernel
theorem mt_6_62 : ai_mth 6 62 = some (0, 63, 2, 9) := by decide +kernel
theorem mt_6_66 : ai_mth 6 66 = some (0, 65, 2, 9) := by decide +kernel
theorem mt_6_69 : ai_mth 6 69 = some (0, 82, 1, 1) := by decide +kernel
theorem mt_6_73 : ai_mth 6 73 = some (0, 64, 2, 9) := by decide +kernel
theorem mt_6_76 : ai_mth 6 76 = some (3, 12, 1, 0) := by decide +kernel
theorem mt_6_80 : ai_mth 6 80 = some (0, 66, 2, 9) := by decide +kernel
theorem mt_6_83 : ai_mth 6 83 = some (0, 67, 2, 9) := by decide +kernel
theorem mt_6_86 : ai_mth 6 86 = some (0, 80, 1, 1) := by decide +kernel
theorem mt_6_89 : ai_mth 6 89 = some (0, 88, 4, 4) := by decide +kernel
set_option maxHeartbeats 2000000 in
theorem r_sameAt (hb : pob S P R nn w1 w2 TU TV EU EV TB) {p q : Nat} (hp : p < w1.length) (hq : q < w2.length) : ai_rn L xs (d + 2) 64 [.ref 417, ax_i (p : Nat), ax_i (q : Nat)] S (fun v S' => S' = S ∧ ∃ r, v = some (ax_i r) ∧ bz r (sb (Ar P) w1 p = sb (Ar P) w2 q)) := by
  obtain ⟨hs, hP, hob, hU, hV, hEU, hEV, hTB, hle, hRr⟩ := hb
  have hss := sb_same (A := Ar P) hU.2 hV.2 hle.1 hle.2 hp hq
  have b1 := tl_le (A := Ar P) (w1.drop p) 1
  have b2 := tl_le (A := Ar P) (w2.drop q) 1
  rw [List.length_drop] at b1 b2
  have e1 : EU p - (p : Int) = ((tl (Ar P) 1 (w1.drop p) : Nat) : Int) := by rw [hEU.2 p hp]; omega
  have e2 : EV q - (q : Int) = ((tl (Ar P) 1 (w2.drop q) : Nat) : Int) := by rw [hEV.2 q hq]; omega
  refine ai_rn_of (M := ai_m64) rfl (by decide) (Nat.le_of_ble_eq_true rfl) ?_
  have kno : ¬ sb (Ar P) w1 p = sb (Ar P) w2 q → ∀ x3, ai_aw L xs (d + 1) ai_m64 (fun o => ∃ v S', o = (.inl v, S') ∧ S' = S ∧ ∃ r, v = some (ax_i r) ∧ bz r (sb (Ar P) w1 p = sb (Ar P) w2 q)) (42, [some (.ref 417), some (ax_i (p : Nat)), some (ax_i (q : Nat)), x3], [], S) := by
    intro hno x3
    refine aw_pure (st' := ax_i (0) :: _) at_64_42 rfl rfl ?_
    exact ax_retZ at_64_43 rfl (Or.inl rfl) ⟨_, _, rfl, rfl, 0, rfl, Or.inl ⟨rfl, hno⟩⟩
  refine aw_loc at_64_0 rfl rfl ?_
  refine aw_get at_64_1 rfl fl_6_21 hob rfl ?_
  refine aw_loc at_64_4 rfl rfl ?_
  refine ax_ild at_64_5 rfl hEU.1 (k := p) rfl (by omega) (by decide) ?_
  refine aw_loc at_64_6 rfl rfl ?_
  refine ax_sub at_64_7 rfl ?_
  refine aw_loc at_64_8 rfl rfl ?_
  rw [e1]
  refine aw_loc at_64_9 rfl rfl ?_
  refine aw_loc at_64_10 rfl rfl ?_
  refine aw_get at_64_11 rfl fl_6_25 hob rfl ?_
  refine aw_loc at_64_14 rfl rfl ?_
  refine ax_ild at_64_15 rfl hEV.1 (k := q) rfl (by omega) (by decide) ?_
  refine aw_loc at_64_16 rfl rfl ?_
  refine ax_sub at_64_17 rfl ?_
  rw [e2]
  refine ax_icmp_ne at_64_18 ⟨by omega, by omega⟩ ⟨by omega, by omega⟩ (fun z => kno (fun h => z (by rw [(hss.1 h).1])) _) (fun z => ?_)
  refine aw_loc at_64_21 rfl rfl ?_
  refine aw_get at_64_22 rfl fl_6_12 hob rfl ?_
  refine aw_loc at_64_25 rfl rfl ?_
  refine aw_loc at_64_26 rfl rfl ?_
  refine aw_get at_64_27 rfl fl_6_18 hob rfl ?_
  refine aw_loc at_64_30 rfl rfl ?_
  refine aw_loc at_64_31 rfl rfl ?_
  refine aw_cv (a := 418) [ax_i (p : Nat), .ref 420, ax_i (q : Nat), ax_i (tl (Ar P) 1 (w1.drop p) : Nat)] [] at_64_32 mt_6_89 (Or.inl rfl) rfl rfl (Nat.le_of_ble_eq_true rfl) ⟨_, hU.1.1⟩ ((r_samePart hU.1 hV.1 hU.2.2.2 hV.2.2.2 (by omega) (by omega) (by omega)).mono ?_)
  rintro v S0 ⟨hS, r, rfl, hr⟩
  have hS2 := hS.symm
  subst hS2
  have hr9 := hr.le
  refine ax_if_eq at_64_35 ⟨by omega, by omega⟩ (fun z2 => kno (fun h => ?_) _) (fun z2 => ?_)
  · rcases hr with ⟨-, h9⟩ | ⟨h9, -⟩
    · exact h9 (hss.1 h).2
    · omega
  · rcases hr with ⟨h9, -⟩ | ⟨-, h9⟩
    · exact absurd h9 z2
    · skip
      refine aw_pure (st' := ax_i (1) :: _) at_64_38 rfl rfl ?_
      refine aw_goto at_64_39 ?_
      exact ax_retZ at_64_43 rfl (Or.inr rfl) ⟨_, _, rfl, rfl, 1, rfl, Or.inr ⟨rfl, hss.2 ⟨by omega, h9⟩⟩⟩
set_option maxHeartbeats 2000000 in
theorem r_byTerm1 (hb : pob S P R nn w1 w2 TU TV EU EV TB) {i j : Nat} (hj : j < w2.length) (htb : ∀ p, i < p → p < w1.length → tbr P R w1 w2 TB p j) : ∀ (n p m : Nat), i < p → ts (Ar P) (n + m) (w1.drop p) → n ≤ 2 → ai_aw L xs (d + 2) ai_m63 (fun o => ∃ v S', o = (.inl v, S') ∧ S' = S ∧ ∃ r, v = some (ax_i r) ∧ bz r (∃ t, t ∈ sp (Ar P) n (w1.drop p) ∧ (pgt (Ar P) (at256 R) t (sb (Ar P) w2 j) ∨ t = sb (Ar P) w2 j))) (22, [some (.ref 417), some (ax_i (i : Nat)), some (ax_i (j : Nat)), some (ax_i (p : Nat)), some (ax_i (n : Nat))], [], S) := by
  have hb0 := hb
  obtain ⟨hs, hP, hob, hU, hV, hEU, hEV, hTB, hle, hRr⟩ := hb
  intro n
  induction n with
  | zero =>
    intro p m hp hn hn2
    refine aw_loc at_63_22 rfl rfl ?_
    refine ax_if_le at_63_24 ⟨by omega, by omega⟩ (fun _ => ?_) (fun z => absurd z (by omega))
    show ai_aw L xs (d + 2) ai_m63 _ (65, _, _, _)
    refine aw_pure (st' := ax_i (0) :: _) at_63_65 rfl rfl ?_
    exact ax_retZ at_63_66 rfl (Or.inl rfl) ⟨_, _, rfl, rfl, 0, rfl, Or.inl ⟨rfl, fun ⟨t, ht, _⟩ => (List.not_mem_nil ht)⟩⟩
  | succ n ih =>
    intro p m hp hn hn2
    rw [show n + 1 + m = n + m + 1 by omega] at hn
    have hpl := ts_lt hn
    have hle1 := hle.1
    have htp := htb p (by omega) hpl
    unfold tbr at htp
    have hz := hTB.2 (24 * p + j)
    have kyes : (pgt (Ar P) (at256 R) (sb (Ar P) w1 p) (sb (Ar P) w2 j) ∨ sb (Ar P) w1 p = sb (Ar P) w2 j) → ai_aw L xs (d + 2) ai_m63 (fun o => ∃ v S', o = (.inl v, S') ∧ S' = S ∧ ∃ r, v = some (ax_i r) ∧ bz r (∃ t, t ∈ sp (Ar P) (n + 1) (w1.drop p) ∧ (pgt (Ar P) (at256 R) t (sb (Ar P) w2 j) ∨ t = sb (Ar P) w2 j))) (50, [some (.ref 417), some (ax_i (i : Nat)), some (ax_i (j : Nat)), some (ax_i (p : Nat)), some (ax_i ((n + 1 : Nat) : Int))], [], S) := by
      intro hy
      refine aw_pure (st' := ax_i (1) :: _) at_63_50 rfl rfl ?_
      exact ax_retZ at_63_51 rfl (Or.inr rfl) ⟨_, _, rfl, rfl, 1, rfl, Or.inr ⟨rfl, _, by rw [sp_at]; exact List.mem_cons_self .., hy⟩⟩
    refine aw_loc at_63_22 rfl rfl ?_
    refine ax_if_le at_63_24 ⟨by omega, by omega⟩ (fun z => absurd z (by omega)) (fun _ => ?_)
    refine aw_loc at_63_27 rfl rfl ?_
    refine aw_get at_63_28 rfl fl_6_28 hob rfl ?_
    refine aw_loc at_63_31 rfl rfl ?_
    refine aw_pure (st' := ax_i (24) :: _) at_63_32 rfl rfl ?_
    refine ax_mul at_63_34 rfl ?_
    refine aw_loc at_63_35 rfl rfl ?_
    refine ax_add at_63_36 rfl ?_
    refine ax_zld at_63_37 rfl hTB.1 (k := 24 * p + j) (by omega) (by omega) (by decide) ?_
    refine ax_if_ne at_63_38 ⟨by omega, by omega⟩ (fun z => kyes (Or.inl (htp.1 (by omega)))) (fun z => ?_)
    refine aw_loc at_63_41 rfl rfl ?_
    refine aw_loc at_63_42 rfl rfl ?_
    refine aw_loc at_63_43 rfl rfl ?_
    refine aw_cv (a := 417) [ax_i (p : Nat), ax_i (j : Nat)] [] at_63_44 mt_6_73 (Or.inl rfl) rfl rfl (Nat.le_of_ble_eq_true rfl) ⟨_, hob⟩ ((r_sameAt hb0 hpl hj).mono ?_)
    rintro v S0 ⟨hS, r, rfl, hr⟩
    have hS2 := hS.symm
    subst hS2
    have hr9 := hr.le
    refine ax_if_eq at_63_47 ⟨by omega, by omega⟩ (fun z2 => ?_) (fun z2 => kyes (Or.inr ((hr.resolve_left (fun h => z2 h.1)).2)))
    show ai_aw L xs (d + 2) ai_m63 _ (52, _, _, _)
    have hno : ¬ sb (Ar P) w1 p = sb (Ar P) w2 j := by rcases hr with ⟨-, h9⟩ | ⟨h9, -⟩; exact h9; omega
    have hEp := hEU.2 p hpl
    refine aw_loc at_63_52 rfl rfl ?_
    refine aw_get at_63_53 rfl fl_6_21 hob rfl ?_
    refine aw_loc at_63_56 rfl rfl ?_
    refine ax_ild at_63_57 rfl hEU.1 (k := p) rfl (by omega) (by decide) ?_
    rw [hEp, ← Int.natCast_add]
    refine aw_loc at_63_58 rfl rfl ?_
    refine ax_inc at_63_59 rfl rfl rfl ?_
    refine aw_goto at_63_62 ?_
    have htl := tl_pos (A := Ar P) (n := 1) (u := w1.drop p) (by decide) (ts_ne hn)
    have := ih (p + tl (Ar P) 1 (w1.drop p)) m (by omega) (ts_skip (by rw [show 1 + (n + m) = n + m + 1 by omega]; exact hn)) (by omega)
    rw [show ((n + 1 : Nat) : Int) + -1 = (n : Int) by omega]
    refine ai_aw_mono this ?_
    rintro o ⟨v, S9, rfl, h1, r9, h2, h3⟩
    refine ⟨_, _, rfl, h1, r9, h2, ?_⟩
    rw [sp_at]
    refine h3.imp (fun h => ⟨h.1, ?_⟩) (fun h => ⟨h.1, ?_⟩)
    · rintro ⟨t, ht, h4⟩
      rcases List.mem_cons.1 ht with rfl | ht
      · exact h4.elim (fun h5 => by have := htp.2 h5; omega) hno
      · exact h.2 ⟨t, ht, h4⟩
    · obtain ⟨t, ht, h4⟩ := h.2
      exact ⟨t, List.mem_cons_of_mem _ ht, h4⟩
set_option maxHeartbeats 2000000 in
theorem r_byTerm (hb : pob S P R nn w1 w2 TU TV EU EV TB) {i j N : Nat} (hN : ts (Ar P) N w1) (hi : i < w1.length) (hj : j < w2.length) (htb : ∀ p, i < p → p < w1.length → tbr P R w1 w2 TB p j) : ai_rn L xs (d + 3) 63 [.ref 417, ax_i (i : Nat), ax_i (j : Nat)] S (fun v S' => S' = S ∧ ∃ r, v = some (ax_i r) ∧ bz r (∃ t, t ∈ sp (Ar P) (Ar P (w1.getD i 0)) (w1.drop (i + 1)) ∧ (pgt (Ar P) (at256 R) t (sb (Ar P) w2 j) ∨ t = sb (Ar P) w2 j))) := by
  have hb0 := hb
  obtain ⟨hs, hP, hob, hU, hV, hEU, hEV, hTB, hle, hRr⟩ := hb
  have hci : TU i = w1.getD i 0 := hU.2.2.1 i hi (by have := hle; omega)
  have h65i := hU.2.2.2 i
  rw [hci] at h65i
  have hai := Ar_in hP (w1.getD i 0)
  refine ai_rn_of (M := ai_m63) rfl (by decide) (Nat.le_of_ble_eq_true rfl) ?_
  refine aw_loc at_63_0 rfl rfl ?_
  refine aw_pure (st' := ax_i (1) :: _) at_63_1 rfl rfl ?_
  refine ax_add at_63_2 rfl ?_
  refine aw_loc at_63_3 rfl rfl ?_
  refine aw_loc at_63_4 rfl rfl ?_
  refine aw_get at_63_5 rfl fl_6_32 hob rfl ?_
  refine aw_loc at_63_8 rfl rfl ?_
  refine aw_get at_63_9 rfl fl_6_12 hob rfl ?_
  refine aw_get at_63_12 rfl fl_6_48 hU.1.1 rfl ?_
  refine aw_loc at_63_15 rfl rfl ?_
  refine ax_cld at_63_16 rfl hU.1.2 (k := i) rfl (by have := hle; omega) (by decide) ?_
  rw [hci]
  refine aw_cv (a := 1) [ax_i (w1.getD i 0)] [] at_63_17 mt_6_69 (Or.inl rfl) rfl rfl (Nat.le_of_ble_eq_true rfl) ⟨_, hs.1⟩ ((r_places hs h65i).mono ?_)
  rintro v S0 ⟨hS, rfl⟩
  have hS2 := hS.symm
  subst hS2
  rw [hai.1]
  refine aw_loc at_63_20 rfl rfl ?_
  obtain ⟨m, hm⟩ := ts_drop w1 N hN i hi
  rw [Nat.add_comm] at hm
  have hm2 := ts_next hi hm
  have := r_byTerm1 (L := L) (xs := xs) (d := d) hb0 hj htb (Ar P (w1.getD i 0)) (i + 1) m (by omega) (by rw [Nat.add_comm]; exact hm2) hai.2
  rw [Int.natCast_add] at this
  exact this
set_option maxHeartbeats 2000000 in
theorem r_allTerms1 (hb : pob S P R nn w1 w2 TU TV EU EV TB) {i j : Nat} (hi : i < w1.length) (htb : ∀ p, j < p → p < w2.length → tbr P R w1 w2 TB i p) : ∀ (n p m : Nat), j < p → ts (Ar P) (n + m) (w2.drop p) → n ≤ 2 → ai_aw L xs d ai_m66 (fun o => ∃ v S', o = (.inl v, S') ∧ S' = S ∧ ∃ r, v = some (ax_i r) ∧ bz r (∀ s, s ∈ sp (Ar P) n (w2.drop p) → pgt (Ar P) (at256 R) (sb (Ar P) w1 i) s)) (22, [some (.ref 417), some (ax_i (i : Nat)), some (ax_i (j : Nat)), some (ax_i (p : Nat)), some (ax_i (n : Nat))], [], S) := by
  obtain ⟨hs, hP, hob, hU, hV, hEU, hEV, hTB, hle, hRr⟩ := hb
  intro n
  induction n with
  | zero =>
    intro p m hp hn hn2
    refine aw_loc at_66_22 rfl rfl ?_
    refine ax_if_le at_66_24 ⟨by omega, by omega⟩ (fun _ => ?_) (fun z => absurd z (by omega))
    show ai_aw L xs d ai_m66 _ (56, _, _, _)
    refine aw_pure (st' := ax_i (1) :: _) at_66_56 rfl rfl ?_
    exact ax_retZ at_66_57 rfl (Or.inr rfl) ⟨_, _, rfl, rfl, 1, rfl, Or.inr ⟨rfl, fun s hs => absurd hs (List.not_mem_nil)⟩⟩
  | succ n ih =>
    intro p m hp hn hn2
    rw [show n + 1 + m = n + m + 1 by omega] at hn
    have hpl := ts_lt hn
    have hle1 := hle
    have htp := htb p (by omega) hpl
    unfold tbr at htp
    have hz := hTB.2 (24 * i + p)
    refine aw_loc at_66_22 rfl rfl ?_
    refine ax_if_le at_66_24 ⟨by omega, by omega⟩ (fun z => absurd z (by omega)) (fun _ => ?_)
    refine aw_loc at_66_27 rfl rfl ?_
    refine aw_get at_66_28 rfl fl_6_28 hob rfl ?_
    refine aw_loc at_66_31 rfl rfl ?_
    refine aw_pure (st' := ax_i (24) :: _) at_66_32 rfl rfl ?_
    refine ax_mul at_66_34 rfl ?_
    refine aw_loc at_66_35 rfl rfl ?_
    refine ax_add at_66_36 rfl ?_
    refine ax_zld at_66_37 rfl hTB.1 (k := 24 * i + p) (by omega) (by omega) (by decide) ?_
    refine ax_if_ne at_66_38 ⟨by omega, by omega⟩ (fun z => ?_) (fun z => ?_)
    · skip
      have hEp := hEV.2 p hpl
      refine aw_loc at_66_43 rfl rfl ?_
      refine aw_get at_66_44 rfl fl_6_25 hob rfl ?_
      refine aw_loc at_66_47 rfl rfl ?_
      refine ax_ild at_66_48 rfl hEV.1 (k := p) rfl (by omega) (by decide) ?_
      rw [hEp, ← Int.natCast_add]
      refine aw_loc at_66_49 rfl rfl ?_
      refine ax_inc at_66_50 rfl rfl rfl ?_
      refine aw_goto at_66_53 ?_
      have htl := tl_pos (A := Ar P) (n := 1) (u := w2.drop p) (by decide) (ts_ne hn)
      have := ih (p + tl (Ar P) 1 (w2.drop p)) m (by omega) (ts_skip (by rw [show 1 + (n + m) = n + m + 1 by omega]; exact hn)) (by omega)
      rw [show ((n + 1 : Nat) : Int) + -1 = (n : Int) by omega]
      refine ai_aw_mono this ?_
      rintro o ⟨v, S9, rfl, h1, r9, h2, h3⟩
      refine ⟨_, _, rfl, h1, r9, h2, ?_⟩
      rw [sp_at]
      refine h3.imp (fun h => ⟨h.1, fun h4 => h.2 fun s hs => h4 s (List.mem_cons_of_mem _ hs)⟩) (fun h => ⟨h.1, fun s hs => ?_⟩)
      rcases List.mem_cons.1 hs with rfl | hs
      · exact htp.1 (by omega)
      · exact h.2 s hs
    · skip
      refine aw_pure (st' := ax_i (0) :: _) at_66_41 rfl rfl ?_
      exact ax_retZ at_66_42 rfl (Or.inl rfl) ⟨_, _, rfl, rfl, 0, rfl, Or.inl ⟨rfl, fun h => by have := htp.2 (h _ (by rw [sp_at]; exact List.mem_cons_self ..)); omega⟩⟩
set_option maxHeartbeats 2000000 in
theorem r_allTerms (hb : pob S P R nn w1 w2 TU TV EU EV TB) {i j N : Nat} (hN : ts (Ar P) N w2) (hi : i < w1.length) (hj : j < w2.length) (htb : ∀ p, j < p → p < w2.length → tbr P R w1 w2 TB i p) : ai_rn L xs (d + 2) 66 [.ref 417, ax_i (i : Nat), ax_i (j : Nat)] S (fun v S' => S' = S ∧ ∃ r, v = some (ax_i r) ∧ bz r (∀ s, s ∈ sp (Ar P) (Ar P (w2.getD j 0)) (w2.drop (j + 1)) → pgt (Ar P) (at256 R) (sb (Ar P) w1 i) s)) := by
  have hb0 := hb
  obtain ⟨hs, hP, hob, hU, hV, hEU, hEV, hTB, hle, hRr⟩ := hb
  have hcj : TV j = w2.getD j 0 := hV.2.2.1 j hj (by have := hle; omega)
  have h65j := hV.2.2.2 j
  rw [hcj] at h65j
  have haj := Ar_in hP (w2.getD j 0)
  refine ai_rn_of (M := ai_m66) rfl (by decide) (Nat.le_of_ble_eq_true rfl) ?_
  refine aw_loc at_66_0 rfl rfl ?_
  refine aw_pure (st' := ax_i (1) :: _) at_66_1 rfl rfl ?_
  refine ax_add at_66_2 rfl ?_
  refine aw_loc at_66_3 rfl rfl ?_
  refine aw_loc at_66_4 rfl rfl ?_
  refine aw_get at_66_5 rfl fl_6_32 hob rfl ?_
  refine aw_loc at_66_8 rfl rfl ?_
  refine aw_get at_66_9 rfl fl_6_18 hob rfl ?_
  refine aw_get at_66_12 rfl fl_6_48 hV.1.1 rfl ?_
  refine aw_loc at_66_15 rfl rfl ?_
  refine ax_cld at_66_16 rfl hV.1.2 (k := j) rfl (by have := hle; omega) (by decide) ?_
  rw [hcj]
  refine aw_cv (a := 1) [ax_i (w2.getD j 0)] [] at_66_17 mt_6_69 (Or.inl rfl) rfl rfl (Nat.le_of_ble_eq_true rfl) ⟨_, hs.1⟩ ((r_places hs h65j).mono ?_)
  rintro v S0 ⟨hS, rfl⟩
  have hS2 := hS.symm
  subst hS2
  rw [haj.1]
  refine aw_loc at_66_20 rfl rfl ?_
  obtain ⟨m, hm⟩ := ts_drop w2 N hN j hj
  rw [Nat.add_comm] at hm
  have hm2 := ts_next hj hm
  have := r_allTerms1 (L := L) (xs := xs) (d := d + 1) hb0 hi htb (Ar P (w2.getD j 0)) (j + 1) m (by omega) (by rw [Nat.add_comm]; exact hm2) haj.2
  rw [Int.natCast_add] at this
  exact this
set_option maxHeartbeats 2000000 in
theorem r_diff1 (hb : pob S P R nn w1 w2 TU TV EU EV TB) {i j : Nat} (htb : ∀ p q, i < p → p < w1.length → q < w2.length → tbr P R w1 w2 TB p q) : ∀ (n p q m1 m2 : Nat), i < p → j < q → ts (Ar P) (n + m1) (w1.drop p) → ts (Ar P) (n + m2) (w2.drop q) → n ≤ 2 → ai_aw L xs (d + 2) ai_m67 (fun o => ∃ v S', o = (.inl v, S') ∧ S' = S ∧ ∃ r, v = some (ax_i r) ∧ bz r (fdf (pgt (Ar P) (at256 R)) (sp (Ar P) n (w1.drop p)) (sp (Ar P) n (w2.drop q)))) (27, [some (.ref 417), some (ax_i (i : Nat)), some (ax_i (j : Nat)), some (ax_i (p : Nat)), some (ax_i (q : Nat)), some (ax_i (n : Nat))], [], S) := by
  have hb0 := hb
  obtain ⟨hs, hP, hob, hU, hV, hEU, hEV, hTB, hle, hRr⟩ := hb
  intro n
  induction n with
  | zero =>
    intro p q m1 m2 hp hq hn1 hn2 hn3
    refine aw_loc at_67_27 rfl rfl ?_
    refine ax_if_le at_67_29 ⟨by omega, by omega⟩ (fun _ => ?_) (fun z => absurd z (by omega))
    show ai_aw L xs (d + 2) ai_m67 _ (77, _, _, _)
    refine aw_pure (st' := ax_i (0) :: _) at_67_77 rfl rfl ?_
    exact ax_retZ at_67_78 rfl (Or.inl rfl) ⟨_, _, rfl, rfl, 0, rfl, Or.inl ⟨rfl, fun h => h⟩⟩
  | succ n ih =>
    intro p q m1 m2 hp hq hn1 hn2 hn3
    rw [show n + 1 + m1 = n + m1 + 1 by omega] at hn1
    rw [show n + 1 + m2 = n + m2 + 1 by omega] at hn2
    have hpl := ts_lt hn1
    have hql := ts_lt hn2
    have hle1 := hle
    have htp := htb p q (by omega) hpl hql
    unfold tbr at htp
    have hz := hTB.2 (24 * p + q)
    refine aw_loc at_67_27 rfl rfl ?_
    refine ax_if_le at_67_29 ⟨by omega, by omega⟩ (fun z => absurd z (by omega)) (fun _ => ?_)
    refine aw_loc at_67_32 rfl rfl ?_
    refine aw_loc at_67_33 rfl rfl ?_
    refine aw_loc at_67_34 rfl rfl ?_
    refine aw_cv (a := 417) [ax_i (p : Nat), ax_i (q : Nat)] [] at_67_36 mt_6_73 (Or.inl rfl) rfl rfl (Nat.le_of_ble_eq_true rfl) ⟨_, hob⟩ ((r_sameAt hb0 hpl hql).mono ?_)
    rintro v S0 ⟨hS, r, rfl, hr⟩
    have hS2 := hS.symm
    subst hS2
    have hr9 := hr.le
    refine ax_if_ne at_67_39 ⟨by omega, by omega⟩ (fun z => ?_) (fun z => ?_)
    · skip
      have hsm : sb (Ar P) w1 p = sb (Ar P) w2 q := (hr.resolve_left (fun h => z h.1)).2
      have hEp := hEU.2 p hpl
      have hEq := hEV.2 q hql
      refine aw_loc at_67_55 rfl rfl ?_
      refine aw_get at_67_56 rfl fl_6_21 hob rfl ?_
      refine aw_loc at_67_59 rfl rfl ?_
      refine ax_ild at_67_60 rfl hEU.1 (k := p) rfl (by omega) (by decide) ?_
      rw [hEp, ← Int.natCast_add]
      refine aw_loc at_67_61 rfl rfl ?_
      refine aw_loc at_67_62 rfl rfl ?_
      refine aw_get at_67_63 rfl fl_6_25 hob rfl ?_
      refine aw_loc at_67_66 rfl rfl ?_
      refine ax_ild at_67_68 rfl hEV.1 (k := q) rfl (by omega) (by decide) ?_
      rw [hEq, ← Int.natCast_add]
      refine aw_loc at_67_69 rfl rfl ?_
      refine ax_inc at_67_71 rfl rfl rfl ?_
      refine aw_goto at_67_74 ?_
      have htl := tl_pos (A := Ar P) (n := 1) (u := w1.drop p) (by decide) (ts_ne hn1)
      have := ih (p + tl (Ar P) 1 (w1.drop p)) (q + tl (Ar P) 1 (w2.drop q)) m1 m2 (by omega) (by omega) (ts_skip (by rw [show 1 + (n + m1) = n + m1 + 1 by omega]; exact hn1)) (ts_skip (by rw [show 1 + (n + m2) = n + m2 + 1 by omega]; exact hn2)) (by omega)
      rw [show ((n + 1 : Nat) : Int) + -1 = (n : Int) by omega]
      refine ai_aw_mono this ?_
      rintro o ⟨v, S9, rfl, h1, r9, h2, h3⟩
      refine ⟨_, _, rfl, h1, r9, h2, ?_⟩
      rw [sp_at, sp_at]
      unfold fdf
      rw [if_pos hsm]
      exact h3
    · skip
      have hsm : ¬ sb (Ar P) w1 p = sb (Ar P) w2 q := by rcases hr with ⟨-, h9⟩ | ⟨h9, -⟩; exact h9; omega
      refine aw_loc at_67_42 rfl rfl ?_
      refine aw_get at_67_43 rfl fl_6_28 hob rfl ?_
      refine aw_loc at_67_46 rfl rfl ?_
      refine aw_pure (st' := ax_i (24) :: _) at_67_47 rfl rfl ?_
      refine ax_mul at_67_49 rfl ?_
      refine aw_loc at_67_50 rfl rfl ?_
      refine ax_add at_67_52 rfl ?_
      refine ax_zld at_67_53 rfl hTB.1 (k := 24 * p + q) (by omega) (by omega) (by decide) ?_
      refine ax_retZ at_67_54 rfl hz ⟨_, _, rfl, rfl, _, rfl, ?_⟩
      rw [sp_at, sp_at]
      unfold fdf
      rw [if_neg hsm]
      rcases hz with hz | hz
      · exact Or.inl ⟨hz, fun h => by have := htp.2 h; omega⟩
      · exact Or.inr ⟨hz, htp.1 hz⟩
set_option maxHeartbeats 2000000 in
theorem r_diff (hb : pob S P R nn w1 w2 TU TV EU EV TB) {i j N1 N2 : Nat} (hN1 : ts (Ar P) N1 w1) (hN2 : ts (Ar P) N2 w2) (hi : i < w1.length) (hj : j < w2.length) (hcd : w1.getD i 0 = w2.getD j 0) (htb : ∀ p q, i < p → p < w1.length → q < w2.length → tbr P R w1 w2 TB p q) : ai_rn L xs (d + 3) 67 [.ref 417, ax_i (i : Nat), ax_i (j : Nat)] S (fun v S' => S' = S ∧ ∃ r, v = some (ax_i r) ∧ bz r (fdf (pgt (Ar P) (at256 R)) (sp (Ar P) (Ar P (w1.getD i 0)) (w1.drop (i + 1))) (sp (Ar P) (Ar P (w2.getD j 0)) (w2.drop (j + 1))))) := by
  have hb0 := hb
  obtain ⟨hs, hP, hob, hU, hV, hEU, hEV, hTB, hle, hRr⟩ := hb
  have hci : TU i = w1.getD i 0 := hU.2.2.1 i hi (by have := hle; omega)
  have h65i := hU.2.2.2 i
  rw [hci] at h65i
  have hai := Ar_in hP (w1.getD i 0)
  refine ai_rn_of (M := ai_m67) rfl (by decide) (Nat.le_of_ble_eq_true rfl) ?_
  refine aw_loc at_67_0 rfl rfl ?_
  refine aw_pure (st' := ax_i (1) :: _) at_67_1 rfl rfl ?_
  refine ax_add at_67_2 rfl ?_
  refine aw_loc at_67_3 rfl rfl ?_
  refine aw_loc at_67_4 rfl rfl ?_
  refine aw_pure (st' := ax_i (1) :: _) at_67_5 rfl rfl ?_
  refine ax_add at_67_6 rfl ?_
  refine aw_loc at_67_7 rfl rfl ?_
  refine aw_loc at_67_9 rfl rfl ?_
  refine aw_get at_67_10 rfl fl_6_32 hob rfl ?_
  refine aw_loc at_67_13 rfl rfl ?_
  refine aw_get at_67_14 rfl fl_6_12 hob rfl ?_
  refine aw_get at_67_17 rfl fl_6_48 hU.1.1 rfl ?_
  refine aw_loc at_67_20 rfl rfl ?_
  refine ax_cld at_67_21 rfl hU.1.2 (k := i) rfl (by have := hle; omega) (by decide) ?_
  rw [hci]
  refine aw_cv (a := 1) [ax_i (w1.getD i 0)] [] at_67_22 mt_6_69 (Or.inl rfl) rfl rfl (Nat.le_of_ble_eq_true rfl) ⟨_, hs.1⟩ ((r_places hs h65i).mono ?_)
  rintro v S0 ⟨hS, rfl⟩
  have hS2 := hS.symm
  subst hS2
  rw [hai.1]
  refine aw_loc at_67_25 rfl rfl ?_
  obtain ⟨m, hm⟩ := ts_drop w1 N1 hN1 i hi
  rw [Nat.add_comm] at hm
  have hm2 := ts_next hi hm
  obtain ⟨m3, hm3⟩ := ts_drop w2 N2 hN2 j hj
  rw [Nat.add_comm] at hm3
  have hm4 := ts_next hj hm3
  rw [← hcd] at hm4
  have := r_diff1 (L := L) (xs := xs) (d := d) hb0 (j := j) htb (Ar P (w1.getD i 0)) (i + 1) (j + 1) m m3 (by omega) (by omega) (by rw [Nat.add_comm]; exact hm2) (by rw [Nat.add_comm]; exact hm4) hai.2
  rw [Int.natCast_add, Int.natCast_add] at this
  rw [← hcd]
  exact this
set_option maxHeartbeats 4000000 in
theorem r_byLet (hb : pob S P R nn w1 w2 TU TV EU EV TB) {i j N1 N2 : Nat} (hN1 : ts (Ar P) N1 w1) (hN2 : ts (Ar P) N2 w2) (hi : i < w1.length) (hj : j < w2.length) (htb : ∀ p q, (i < p ∨ (p = i ∧ j < q)) → p < w1.length → q < w2.length → tbr P R w1 w2 TB p q) : ai_rn L xs (d + 4) 65 [.ref 417, ax_i (i : Nat), ax_i (j : Nat)] S (fun v S' => S' = S ∧ ∃ r, v = some (ax_i r) ∧ bz r (w1.getD i 0 < 117 ∧ w2.getD j 0 < 117 ∧ (∀ s, s ∈ sp (Ar P) (Ar P (w2.getD j 0)) (w2.drop (j + 1)) → pgt (Ar P) (at256 R) (sb (Ar P) w1 i) s) ∧ (if w1.getD i 0 = w2.getD j 0 then (fdf (pgt (Ar P) (at256 R)) (sp (Ar P) (Ar P (w1.getD i 0)) (w1.drop (i + 1))) (sp (Ar P) (Ar P (w2.getD j 0)) (w2.drop (j + 1)))) else at256 R (w2.getD j 0) < at256 R (w1.getD i 0)))) := by
  have hb0 := hb
  obtain ⟨hs, hP, hob, hU, hV, hEU, hEV, hTB, hle, hRr⟩ := hb
  have hci : TU i = w1.getD i 0 := hU.2.2.1 i hi (by have := hle; omega)
  have h65i := hU.2.2.2 i
  rw [hci] at h65i
  have hcj : TV j = w2.getD j 0 := hV.2.2.1 j hj (by have := hle; omega)
  have h65j := hV.2.2.2 j
  rw [hcj] at h65j
  have hr1 : 0 ≤ at256 R (w1.getD i 0) ∧ at256 R (w1.getD i 0) ≤ 1000 := by unfold at256; split; exact hRr _; omega
  have hr2 : 0 ≤ at256 R (w2.getD j 0) ∧ at256 R (w2.getD j 0) ≤ 1000 := by unfold at256; split; exact hRr _; omega
  refine ai_rn_of (M := ai_m65) rfl (by decide) (Nat.le_of_ble_eq_true rfl) ?_
  have kno : ¬ (w1.getD i 0 < 117 ∧ w2.getD j 0 < 117 ∧ (∀ s, s ∈ sp (Ar P) (Ar P (w2.getD j 0)) (w2.drop (j + 1)) → pgt (Ar P) (at256 R) (sb (Ar P) w1 i) s) ∧ (if w1.getD i 0 = w2.getD j 0 then (fdf (pgt (Ar P) (at256 R)) (sp (Ar P) (Ar P (w1.getD i 0)) (w1.drop (i + 1))) (sp (Ar P) (Ar P (w2.getD j 0)) (w2.drop (j + 1)))) else at256 R (w2.getD j 0) < at256 R (w1.getD i 0))) → ai_aw L xs (d + 3) ai_m65 (fun o => ∃ v S', o = (.inl v, S') ∧ S' = S ∧ ∃ r, v = some (ax_i r) ∧ bz r (w1.getD i 0 < 117 ∧ w2.getD j 0 < 117 ∧ (∀ s, s ∈ sp (Ar P) (Ar P (w2.getD j 0)) (w2.drop (j + 1)) → pgt (Ar P) (at256 R) (sb (Ar P) w1 i) s) ∧ (if w1.getD i 0 = w2.getD j 0 then (fdf (pgt (Ar P) (at256 R)) (sp (Ar P) (Ar P (w1.getD i 0)) (w1.drop (i + 1))) (sp (Ar P) (Ar P (w2.getD j 0)) (w2.drop (j + 1)))) else at256 R (w2.getD j 0) < at256 R (w1.getD i 0)))) (45, [some (.ref 417), some (ax_i (i : Nat)), some (ax_i (j : Nat)), some (ax_i (w1.getD i 0)), some (ax_i (w2.getD j 0))], [], S) := by
    intro hno
    refine aw_pure (st' := ax_i (0) :: _) at_65_45 rfl rfl ?_
    exact ax_retZ at_65_46 rfl (Or.inl rfl) ⟨_, _, rfl, rfl, 0, rfl, Or.inl ⟨rfl, hno⟩⟩
  refine aw_loc at_65_0 rfl rfl ?_
  refine aw_get at_65_1 rfl fl_6_12 hob rfl ?_
  refine aw_get at_65_4 rfl fl_6_48 hU.1.1 rfl ?_
  refine aw_loc at_65_7 rfl rfl ?_
  refine ax_cld at_65_8 rfl hU.1.2 (k := i) rfl (by have := hle; omega) (by decide) ?_
  rw [hci]
  refine aw_loc at_65_9 rfl rfl ?_
  refine aw_loc at_65_10 rfl rfl ?_
  refine aw_get at_65_11 rfl fl_6_18 hob rfl ?_
  refine aw_get at_65_14 rfl fl_6_48 hV.1.1 rfl ?_
  refine aw_loc at_65_17 rfl rfl ?_
  refine ax_cld at_65_18 rfl hV.1.2 (k := j) rfl (by have := hle; omega) (by decide) ?_
  rw [hcj]
  refine aw_loc at_65_19 rfl rfl ?_
  refine aw_loc at_65_21 rfl rfl ?_
  refine aw_cs [ax_i (w1.getD i 0)] [] at_65_22 rfl mt_6_76 (Or.inr (Or.inl rfl)) rfl rfl (Nat.le_of_ble_eq_true rfl) ((r_isVar h65i).mono ?_)
  rintro v S0 ⟨hS, q1, rfl, hq1⟩
  have hS2 := hS.symm
  subst hS2
  have hq19 := hq1.le
  unfold bz at hq1
  refine ax_if_ne at_65_25 ⟨by omega, by omega⟩ (fun z => kno (fun h => by omega)) (fun z => ?_)
  refine aw_loc at_65_28 rfl rfl ?_
  refine aw_cs [ax_i (w2.getD j 0)] [] at_65_30 rfl mt_6_76 (Or.inr (Or.inl rfl)) rfl rfl (Nat.le_of_ble_eq_true rfl) ((r_isVar h65j).mono ?_)
  rintro v S0 ⟨hS, q2, rfl, hq2⟩
  have hS2 := hS.symm
  subst hS2
  have hq29 := hq2.le
  unfold bz at hq2
  refine ax_if_ne at_65_33 ⟨by omega, by omega⟩ (fun z => kno (fun h => by omega)) (fun z => ?_)
  refine aw_loc at_65_36 rfl rfl ?_
  refine aw_loc at_65_37 rfl rfl ?_
  refine aw_loc at_65_38 rfl rfl ?_
  refine aw_cv (a := 417) [ax_i (i : Nat), ax_i (j : Nat)] [] at_65_39 mt_6_80 (Or.inl rfl) rfl rfl (Nat.le_of_ble_eq_true rfl) ⟨_, hob⟩ ((r_allTerms hb0 hN2 hi hj (fun p h1 h2 => htb i p (Or.inr ⟨rfl, h1⟩) hi h2)).mono ?_)
  rintro v S0 ⟨hS, q3, rfl, hq3⟩
  have hS2 := hS.symm
  subst hS2
  have hq39 := hq3.le
  refine ax_if_ne at_65_42 ⟨by omega, by omega⟩ (fun z3 => ?_) (fun z3 => kno (fun h => by rcases hq3 with ⟨-, h9⟩ | ⟨h9, -⟩; exact h9 h.2.2.1; omega))
  show ai_aw L xs (d + 3) ai_m65 _ (47, _, _, _)
  have hall := (hq3.resolve_left (fun h => z3 h.1)).2
  refine aw_loc at_65_47 rfl rfl ?_
  refine aw_loc at_65_48 rfl rfl ?_
  refine ax_icmp_ne at_65_50 ⟨by omega, by omega⟩ ⟨by omega, by omega⟩ (fun z4 => ?_) (fun z4 => ?_)
  · skip
    refine aw_loc at_65_62 rfl rfl ?_
    refine aw_get at_65_63 rfl fl_6_32 hob rfl ?_
    refine aw_loc at_65_66 rfl rfl ?_
    refine aw_cv (a := 1) [ax_i (w1.getD i 0)] [] at_65_67 mt_6_86 (Or.inl rfl) rfl rfl (Nat.le_of_ble_eq_true rfl) ⟨_, hs.1⟩ ((r_rank hs h65i).mono ?_)
    rintro v S0 ⟨hS, rfl⟩
    have hS2 := hS.symm
    subst hS2
    refine aw_loc at_65_70 rfl rfl ?_
    refine aw_get at_65_71 rfl fl_6_32 hob rfl ?_
    refine aw_loc at_65_74 rfl rfl ?_
    refine aw_cv (a := 1) [ax_i (w2.getD j 0)] [ax_i (at256 R (w1.getD i 0))] at_65_76 mt_6_86 (Or.inl rfl) rfl rfl (Nat.le_of_ble_eq_true rfl) ⟨_, hs.1⟩ ((r_rank hs h65j).mono ?_)
    rintro v S0 ⟨hS, rfl⟩
    have hS2 := hS.symm
    subst hS2
    refine ax_icmp_le at_65_79 ⟨by omega, by omega⟩ ⟨by omega, by omega⟩ (fun z5 => ?_) (fun z5 => ?_)
    · skip
      refine aw_pure (st' := ax_i (0) :: _) at_65_86 rfl rfl ?_
      exact ax_retZ at_65_87 rfl (Or.inl rfl) ⟨_, _, rfl, rfl, 0, rfl, Or.inl ⟨rfl, fun h => by have h9 := h.2.2.2; rw [if_neg z4] at h9; omega⟩⟩
    · skip
      refine aw_pure (st' := ax_i (1) :: _) at_65_82 rfl rfl ?_
      refine aw_goto at_65_83 ?_
      exact ax_retZ at_65_87 rfl (Or.inr rfl) ⟨_, _, rfl, rfl, 1, rfl, Or.inr ⟨rfl, by omega, by omega, hall, by rw [if_neg z4]; exact z5⟩⟩
  · skip
    refine aw_loc at_65_53 rfl rfl ?_
    refine aw_loc at_65_54 rfl rfl ?_
    refine aw_loc at_65_55 rfl rfl ?_
    refine aw_cv (a := 417) [ax_i (i : Nat), ax_i (j : Nat)] [] at_65_56 mt_6_83 (Or.inl rfl) rfl rfl (Nat.le_of_ble_eq_true rfl) ⟨_, hob⟩ ((r_diff hb0 hN1 hN2 hi hj z4 (fun p q h1 h2 h3 => htb p q (Or.inl h1) h2 h3)).mono ?_)
    rintro v S0 ⟨hS, q5, rfl, hq5⟩
    have hS2 := hS.symm
    subst hS2
    have hq59 := hq5.le
    refine aw_goto at_65_59 ?_
    exact ax_retZ at_65_87 rfl hq59 ⟨_, _, rfl, rfl, q5, rfl, hq5.imp (fun h => ⟨h.1, fun h8 => h.2 (by have h9 := h8.2.2.2; rw [if_pos z4] at h9; exact h9)⟩) (fun h => ⟨h.1, by omega, by omega, hall, by rw [if_pos z4]; exact h.2⟩)⟩
theorem pob_tb {TB2 : Nat → Int} (hb : pob S P R nn w1 w2 TU TV EU EV TB) (h2 : ∀ i, TB2 i = 0 ∨ TB2 i = 1) : pob (ai_wr S 424 (.inl (2, ai_I 576 (ax_f TB2)))) P R nn w1 w2 TU TV EU EV TB2 := by
  obtain ⟨hs, hP, hob, hU, hV, hEU, hEV, hTB, hle, hRr⟩ := hb
  exact ⟨⟨(ai_obj_wr (by decide)).trans hs.1, (ai_arr_wr (by decide)).trans hs.2.1, (ai_arr_wr (by decide)).trans hs.2.2⟩, hP, (ai_obj_wr (by decide)).trans hob, ⟨⟨(ai_obj_wr (by decide)).trans hU.1.1, (ai_arr_wr (by decide)).trans hU.1.2⟩, hU.2⟩, ⟨⟨(ai_obj_wr (by decide)).trans hV.1.1, (ai_arr_wr (by decide)).trans hV.1.2⟩, hV.2⟩, ⟨(ai_arr_wr (by decide)).trans hEU.1, hEU.2⟩, ⟨(ai_arr_wr (by decide)).trans hEV.1, hEV.2⟩, ⟨ai_arr_wrS (ai_arr_inv hTB.1).1, h2⟩, hle, hRr⟩
theorem tbr_up {v : Int} {i j p q : Nat} (hj : j < 24) (hq : q < 24) (h : (p = i ∧ q = j) → (v = 1 ↔ pgt (Ar P) (at256 R) (sb (Ar P) w1 i) (sb (Ar P) w2 j))) (h2 : ¬ (p = i ∧ q = j) → tbr P R w1 w2 TB p q) : tbr P R w1 w2 (ax_up TB (24 * i + j) v) p q := by
  unfold tbr ax_up
  by_cases e : p = i ∧ q = j
  · rw [if_pos (by omega), e.1, e.2]
    exact h e
  · rw [if_neg (by omega)]
    exact h2 e
set_option maxHeartbeats 4000000 in
theorem r_abo1 (hb : pob S P R nn w1 w2 TU TV EU EV TB) {a b i N1 N2 : Nat} (hN1 : ts (Ar P) N1 w1) (hN2 : ts (Ar P) N2 w2) (hi : i < w1.length) : ∀ (m : Nat) (TB1 : Nat → Int), m ≤ w2.length → (∀ i, TB1 i = 0 ∨ TB1 i = 1) → (∀ p q, (i < p ∨ (p = i ∧ m ≤ q)) → p < w1.length → q < w2.length → tbr P R w1 w2 TB1 p q) → (∀ (TB2 : Nat → Int) (x4 : Option Value), (∀ i, TB2 i = 0 ∨ TB2 i = 1) → (∀ p q, i ≤ p → p < w1.length → q < w2.length → tbr P R w1 w2 TB2 p q) → ai_aw L xs (d + 4) ai_m62 (fun o => ∃ v S', o = (.inl v, S') ∧ ∃ TB', S' = ai_wr S 424 (.inl (2, ai_I 576 (ax_f (TB')))) ∧ (∀ i, TB' i = 0 ∨ TB' i = 1) ∧ ∃ r, v = some (ax_i r) ∧ bz r (pgt (Ar P) (at256 R) (sb (Ar P) w1 0) (sb (Ar P) w2 0))) (141, [some (.ref 417), some (.ref a), some (.ref b), some (ax_i (i : Nat)), x4], [], ai_wr S 424 (.inl (2, ai_I 576 (ax_f (TB2)))))) → ai_aw L xs (d + 4) ai_m62 (fun o => ∃ v S', o = (.inl v, S') ∧ ∃ TB', S' = ai_wr S 424 (.inl (2, ai_I 576 (ax_f (TB')))) ∧ (∀ i, TB' i = 0 ∨ TB' i = 1) ∧ ∃ r, v = some (ax_i r) ∧ bz r (pgt (Ar P) (at256 R) (sb (Ar P) w1 0) (sb (Ar P) w2 0))) (93, [some (.ref 417), some (.ref a), some (.ref b), some (ax_i (i : Nat)), some (ax_i ((m : Int) - 1))], [], ai_wr S 424 (.inl (2, ai_I 576 (ax_f (TB1))))) := by
  have hb9 := hb
  obtain ⟨-, -, -, -, -, -, -, -, hle9, -⟩ := hb9
  intro m
  induction m with
  | zero =>
    intro TB1 hm h01 hkn hc
    have hb1 := pob_tb hb h01
    obtain ⟨hs, hP, hob, hU, hV, hEU, hEV, hTB, hle, hRr⟩ := hb1
    refine aw_loc at_62_93 rfl rfl ?_
    refine ax_if_lt at_62_95 ⟨by decide, by decide⟩ (fun _ => hc TB1 _ h01 (fun p q h1 h2 h3 => hkn p q (by omega) h2 h3)) (fun z => absurd z (by decide))
  | succ j ih =>
    intro TB1 hm h01 hkn hc
    have hb1 := pob_tb hb h01
    have hb2 := hb1
    obtain ⟨hs, hP, hob, hU, hV, hEU, hEV, hTB, hle, hRr⟩ := hb1
    rw [show ((j + 1 : Nat) : Int) - 1 = (j : Int) by omega]
    have hpa := pgt_at (A := Ar P) (R := at256 R) hi (show j < w2.length by omega)
    rw [← getD_eq hi, ← getD_eq (show j < w2.length by omega)] at hpa
    have kst : ∀ v : Int, (v = 0 ∨ v = 1) → (v = 1 ↔ pgt (Ar P) (at256 R) (sb (Ar P) w1 i) (sb (Ar P) w2 j)) → ai_aw L xs (d + 4) ai_m62 (fun o => ∃ v S', o = (.inl v, S') ∧ ∃ TB', S' = ai_wr S 424 (.inl (2, ai_I 576 (ax_f (TB')))) ∧ (∀ i, TB' i = 0 ∨ TB' i = 1) ∧ ∃ r, v = some (ax_i r) ∧ bz r (pgt (Ar P) (at256 R) (sb (Ar P) w1 0) (sb (Ar P) w2 0))) (134, [some (.ref 417), some (.ref a), some (.ref b), some (ax_i (i : Nat)), some (ax_i (j : Nat))], [ax_i v, ax_i ((i : Int) * 24 + (j : Int)), .ref 424], ai_wr S 424 (.inl (2, ai_I 576 (ax_f (TB1))))) := by
      intro v hv hiff
      refine ax_zst (k := 24 * i + j) at_62_134 rfl hTB.1 (by omega) (by omega) (by decide) hv ?_
      rw [ai_wr_wr]
      refine ax_inc at_62_135 rfl rfl rfl ?_
      refine aw_goto at_62_138 ?_
      have := ih (ax_up TB1 (24 * i + j) v) (by omega) (fun x => by unfold ax_up; split; exact hv; exact h01 x) (fun p q h1 h2 h3 => tbr_up (by omega) (by omega) (fun _ => hiff) (fun h4 => hkn p q (by omega) h2 h3)) hc
      exact this
    refine aw_loc at_62_93 rfl rfl ?_
    refine ax_if_lt at_62_95 ⟨by omega, by omega⟩ (fun z => absurd z (by omega)) (fun _ => ?_)
    refine aw_loc at_62_98 rfl rfl ?_
    refine aw_get at_62_99 rfl fl_6_28 hob rfl ?_
    refine aw_loc at_62_102 rfl rfl ?_
    refine aw_pure (st' := ax_i (24) :: _) at_62_103 rfl rfl ?_
    refine ax_mul at_62_105 rfl ?_
    refine aw_loc at_62_106 rfl rfl ?_
    refine ax_add at_62_108 rfl ?_
    refine aw_loc at_62_109 rfl rfl ?_
    refine aw_loc at_62_110 rfl rfl ?_
    refine aw_loc at_62_111 rfl rfl ?_
    refine aw_cv (a := 417) [ax_i (i : Nat), ax_i (j : Nat)] [ax_i ((i : Int) * 24 + (j : Int)), .ref 424] at_62_113 mt_6_62 (Or.inl rfl) rfl rfl (Nat.le_of_ble_eq_true rfl) ⟨_, hob⟩ ((r_byTerm hb2 hN1 hi (by omega) (fun p h1 h2 => hkn p j (Or.inl h1) h2 (by omega))).mono ?_)
    rintro v S0 ⟨hS, q1, rfl, hq1⟩
    have hS2 := hS.symm
    subst hS2
    have hq19 := hq1.le
    refine ax_if_ne at_62_116 ⟨by omega, by omega⟩ (fun z => ?_) (fun z => ?_)
    · skip
      have h9 := (hq1.resolve_left (fun h => z h.1)).2
      refine aw_pure (st' := ax_i (1) :: _) at_62_129 rfl rfl ?_
      refine aw_goto at_62_130 ?_
      exact kst 1 (Or.inr rfl) ⟨fun _ => hpa.2 (Or.inl h9), fun _ => rfl⟩
    · skip
      have hn1 := (hq1.resolve_right (fun h => by have := h.1; omega)).2
      refine aw_loc at_62_119 rfl rfl ?_
      refine aw_loc at_62_120 rfl rfl ?_
      refine aw_loc at_62_121 rfl rfl ?_
      refine aw_cv (a := 417) [ax_i (i : Nat), ax_i (j : Nat)] [ax_i ((i : Int) * 24 + (j : Int)), .ref 424] at_62_123 mt_6_66 (Or.inl rfl) rfl rfl (Nat.le_of_ble_eq_true rfl) ⟨_, hob⟩ ((r_byLet hb2 hN1 hN2 hi (by omega) (fun p q h1 h2 h3 => hkn p q (by omega) h2 h3)).mono ?_)
      rintro v S0 ⟨hS, q2, rfl, hq2⟩
      have hS2 := hS.symm
      subst hS2
      have hq29 := hq2.le
      refine ax_if_eq at_62_126 ⟨by omega, by omega⟩ (fun z2 => ?_) (fun z2 => ?_)
      · skip
        have hn2 := (hq2.resolve_right (fun h => by have := h.1; omega)).2
        refine aw_pure (st' := ax_i (0) :: _) at_62_133 rfl rfl ?_
        exact kst 0 (Or.inl rfl) ⟨fun h => absurd h (by decide), fun h => absurd (hpa.1 h) (fun h => h.elim hn1 hn2)⟩
      · skip
        have h9 := (hq2.resolve_left (fun h => z2 h.1)).2
        refine aw_pure (st' := ax_i (1) :: _) at_62_129 rfl rfl ?_
        refine aw_goto at_62_130 ?_
        exact kst 1 (Or.inr rfl) ⟨fun _ => hpa.2 (Or.inr h9), fun _ => rfl⟩
set_option maxHeartbeats 2000000 in
theorem r_abo2 (hb : pob S P R nn w1 w2 TU TV EU EV TB) {a b N1 N2 : Nat} (hN1 : ts (Ar P) N1 w1) (hN2 : ts (Ar P) N2 w2) (h1 : 0 < w1.length) (h2 : 0 < w2.length) : ∀ (k : Nat) (TB1 : Nat → Int) (x4 : Option Value), k ≤ w1.length → (∀ i, TB1 i = 0 ∨ TB1 i = 1) → (∀ p q, k ≤ p → p < w1.length → q < w2.length → tbr P R w1 w2 TB1 p q) → ai_aw L xs (d + 4) ai_m62 (fun o => ∃ v S', o = (.inl v, S') ∧ ∃ TB', S' = ai_wr S 424 (.inl (2, ai_I 576 (ax_f (TB')))) ∧ (∀ i, TB' i = 0 ∨ TB' i = 1) ∧ ∃ r, v = some (ax_i r) ∧ bz r (pgt (Ar P) (at256 R) (sb (Ar P) w1 0) (sb (Ar P) w2 0))) (78, [some (.ref 417), some (.ref a), some (.ref b), some (ax_i ((k : Int) - 1)), x4], [], ai_wr S 424 (.inl (2, ai_I 576 (ax_f (TB1))))) := by
  intro k
  induction k with
  | zero =>
    intro TB1 x4 hk h01 hkn
    have hb1 := pob_tb hb h01
    obtain ⟨hs, hP, hob, hU, hV, hEU, hEV, hTB, hle, hRr⟩ := hb1
    refine aw_loc at_62_78 rfl rfl ?_
    refine ax_if_lt at_62_79 ⟨by decide, by decide⟩ (fun _ => ?_) (fun z => absurd z (by decide))
    show ai_aw L xs (d + 4) ai_m62 _ (147, _, _, _)
    have h00 := hkn 0 0 (by omega) h1 h2
    unfold tbr at h00
    have hz := h01 (24 * 0 + 0)
    refine aw_loc at_62_147 rfl rfl ?_
    refine aw_get at_62_148 rfl fl_6_28 hob rfl ?_
    refine aw_pure (st' := ax_i (0) :: _) at_62_151 rfl rfl ?_
    refine ax_zld at_62_152 rfl hTB.1 (k := 24 * 0 + 0) rfl (by decide) (by decide) ?_
    exact ax_retZ at_62_153 rfl hz ⟨_, _, rfl, TB1, rfl, h01, _, rfl, by rcases hz with hz | hz; exact Or.inl ⟨hz, fun h => by have := h00.2 h; omega⟩; exact Or.inr ⟨hz, h00.1 hz⟩⟩
  | succ i ih =>
    intro TB1 x4 hk h01 hkn
    have hb1 := pob_tb hb h01
    obtain ⟨hs, hP, hob, hU, hV, hEU, hEV, hTB, hle, hRr⟩ := hb1
    rw [show ((i + 1 : Nat) : Int) - 1 = (i : Int) by omega]
    refine aw_loc at_62_78 rfl rfl ?_
    refine ax_if_lt at_62_79 ⟨by have := hle; omega, by have := hle; omega⟩ (fun z => absurd z (by omega)) (fun _ => ?_)
    refine aw_loc at_62_82 rfl rfl ?_
    refine aw_get at_62_83 rfl fl_6_18 hob rfl ?_
    refine aw_get at_62_86 rfl fl_6_52 hV.1.1 rfl ?_
    refine aw_pure (st' := ax_i (1) :: _) at_62_89 rfl rfl ?_
    refine ax_sub at_62_90 rfl ?_
    refine aw_loc at_62_91 rfl rfl ?_
    refine r_abo1 hb hN1 hN2 (by omega) w2.length TB1 (Nat.le_refl _) h01 (fun p q h1 h2 h3 => hkn p q (by omega) h2 h3) (fun TB2 y4 h5 h6 => ?_)
    refine ax_inc at_62_141 rfl rfl rfl ?_
    refine aw_goto at_62_144 ?_
    exact ih TB2 y4 (by omega) h5 h6
/-- the order as it lies there -/
def pog (S : ai_S) : Prop := ai_obj S 417 9 = some pof ∧ (∃ T n, tm S 418 T n ∧ ∀ i, 0 ≤ T i ∧ T i < 65536) ∧ (∃ T n, tm S 420 T n ∧ ∀ i, 0 ≤ T i ∧ T i < 65536) ∧ (∃ E, ai_arr S 422 0 = some (24, ax_f E)) ∧ (∃ E, ai_arr S 423 0 = some (24, ax_f E)) ∧ ∃ TB, ai_arr S 424 2 = some (576, ax_f TB) ∧ ∀ i, TB i = 0 ∨ TB i = 1
theorem pob_pog (hb : pob S P R nn w1 w2 TU TV EU EV TB) : pog S := by
  obtain ⟨hs, hP, hob, hU, hV, hEU, hEV, hTB, hle, hRr⟩ := hb
  exact ⟨hob, ⟨_, _, hU.1, hU.2.2.2⟩, ⟨_, _, hV.1, hV.2.2.2⟩, ⟨_, hEU.1⟩, ⟨_, hEV.1⟩, _, hTB⟩
theorem sb_zero {A : Int → Nat} {w : List Int} (h : ts A 1 w) : sb A w 0 = w := by
  unfold sb
  rw [List.drop_zero, ts_all h, List.take_length]
set_option maxHeartbeats 4000000 in
theorem r_above {a b : Nat} (hs : sy S P R nn) (hP : ∀ i, 0 ≤ P i ∧ P i ≤ 2) (hRr : ∀ i, 0 ≤ R i ∧ R i ≤ 1000) (hg : pog S) (ha : tw S a w1) (hb : tw S b w2) (h1 : w1.length ≤ 24) (h2 : w2.length ≤ 24) (hN1 : ts (Ar P) 1 w1) (hN2 : ts (Ar P) 1 w2) (hsa : a + 1 < 417 ∨ 424 < a) (hsb : b + 1 < 417 ∨ 424 < b) : ai_rn L xs (d + 5) 62 [.ref 417, .ref a, .ref b] S (fun v S' => fr 417 425 S S' ∧ pog S' ∧ ∃ r, v = some (ax_i r) ∧ bz r (pgt (Ar P) (at256 R) w1 w2)) := by
  obtain ⟨hob, ⟨T1, n1, hU0, hT1⟩, ⟨T2, n2, hV0, hT2⟩, ⟨E1, hE1⟩, ⟨E2, hE2⟩, TB, hTB, h01⟩ := hg
  obtain ⟨Ta, na, ha, hTa⟩ := ha
  obtain ⟨Tb, nb, hb, hTb⟩ := hb
  refine ai_rn_of (M := ai_m62) rfl (by decide) (Nat.le_of_ble_eq_true rfl) ?_
  refine aw_loc at_62_0 rfl rfl ?_
  refine aw_get at_62_1 rfl fl_6_12 hob rfl ?_
  refine aw_loc at_62_4 rfl rfl ?_
  refine aw_cv (a := 418) [.ref a] [] at_62_5 mt_6_44 (Or.inl rfl) rfl rfl (Nat.le_of_ble_eq_true rfl) ⟨_, hU0.1⟩ ((r_tcopy hU0 hT1 ha hTa (by omega)).mono ?_)
  rintro v S0 ⟨rfl, TU, nU, rfl, hwU⟩
  have f1 : fr 417 425 S _ := (fr_tm (a := 418) (n := nU) (T := TU)).mn (by decide) (by decide)
  have hob := (tm_obj (a := 418) (n := nU) (T := TU) (show 417 ≠ 418 by decide) (show 417 ≠ 419 by decide)).trans hob
  have hU1 : tm (tm_put S 418 TU nU) 418 TU nU := tm_get (tm_lt hU0)
  have hV0 : tm (tm_put S 418 TU nU) 420 T2 n2 := tm_off hV0 (by decide) (by decide) (by decide)
  have hb1 := f1.tm hb (by omega)
  have hE1 : ai_arr (tm_put S 418 TU nU) 422 0 = some (24, ax_f E1) := (tm_arr (by decide) (by decide)).trans hE1
  have hE2 : ai_arr (tm_put S 418 TU nU) 423 0 = some (24, ax_f E2) := (tm_arr (by decide) (by decide)).trans hE2
  have hTB : ai_arr (tm_put S 418 TU nU) 424 2 = some (576, ax_f TB) := (tm_arr (by decide) (by decide)).trans hTB
  have hs1 := f1.sy hs (by decide)
  generalize tm_put S 418 TU nU = S1 at *
  refine aw_loc at_62_8 rfl rfl ?_
  refine aw_get at_62_9 rfl fl_6_18 hob rfl ?_
  refine aw_loc at_62_12 rfl rfl ?_
  refine aw_cv (a := 420) [.ref b] [] at_62_13 mt_6_44 (Or.inl rfl) rfl rfl (Nat.le_of_ble_eq_true rfl) ⟨_, hV0.1⟩ ((r_tcopy hV0 hT2 hb1 hTb (by omega)).mono ?_)
  rintro v S0 ⟨rfl, TV, nV, rfl, hwV⟩
  have f2 : fr 417 425 S1 _ := (fr_tm (a := 420) (n := nV) (T := TV)).mn (by decide) (by decide)
  have hob := (tm_obj (a := 420) (n := nV) (T := TV) (show 417 ≠ 420 by decide) (show 417 ≠ 421 by decide)).trans hob
  have hV1 : tm (tm_put S1 420 TV nV) 420 TV nV := tm_get (tm_lt hV0)
  have hU1 : tm (tm_put S1 420 TV nV) 418 TU nU := tm_off hU1 (by decide) (by decide) (by decide)
  have hE1 : ai_arr (tm_put S1 420 TV nV) 422 0 = some (24, ax_f E1) := (tm_arr (by decide) (by decide)).trans hE1
  have hE2 : ai_arr (tm_put S1 420 TV nV) 423 0 = some (24, ax_f E2) := (tm_arr (by decide) (by decide)).trans hE2
  have hTB : ai_arr (tm_put S1 420 TV nV) 424 2 = some (576, ax_f TB) := (tm_arr (by decide) (by decide)).trans hTB
  have hs2 := f2.sy hs1 (by decide)
  have f3 := f1.tr f2
  generalize tm_put S1 420 TV nV = S2 at *
  have eU : nU = w1.length := by rw [hwU.1]; omega
  have eV : nV = w2.length := by rw [hwV.1]; omega
  subst eU
  subst eV
  refine aw_loc at_62_16 rfl rfl ?_
  refine aw_get at_62_17 rfl fl_6_32 hob rfl ?_
  refine aw_loc at_62_20 rfl rfl ?_
  refine aw_get at_62_21 rfl fl_6_12 hob rfl ?_
  refine aw_get at_62_24 rfl fl_6_48 hU1.1 rfl ?_
  refine aw_pure (st' := ax_i (0) :: _) at_62_27 rfl rfl ?_
  refine aw_loc at_62_28 rfl rfl ?_
  refine aw_get at_62_29 rfl fl_6_12 hob rfl ?_
  refine aw_get at_62_32 rfl fl_6_52 hU1.1 rfl ?_
  refine aw_loc at_62_35 rfl rfl ?_
  refine aw_get at_62_36 rfl fl_6_21 hob rfl ?_
  refine aw_cv (a := 1) [.ref 419, ax_i ((0 : Nat) : Int), ax_i (w1.length : Nat), .ref 422] [] at_62_39 mt_6_56 (Or.inl rfl) rfl rfl (Nat.le_of_ble_eq_true rfl) ⟨_, hs2.1⟩ ((r_ends hs2 hP hU1.2 hwU.2.2 hE1 (by decide) (by decide) (by omega) (by omega) (by decide) (by decide) (by omega)).mono ?_)
  rintro v S0 ⟨rfl, rfl⟩
  generalize hEUd : fe P TU w1.length E1 (w1.length - 0) = EU
  have hEUv := fe_word (P := P) (E := E1) hwU h1
  rw [hEUd] at hEUv
  have f4 : fr 417 425 S2 _ := (fr_wr (a := 422) (x := .inl (0, ai_I 24 (ax_f EU)))).mn (by decide) (by decide)
  have hE3 : ai_arr (ai_wr S2 422 (.inl (0, ai_I 24 (ax_f EU)))) 422 0 = some (24, ax_f EU) := ai_arr_wrS (ai_arr_inv hE1).1
  have hob := (ai_obj_wr (x := .inl (0, ai_I 24 (ax_f EU))) (show 417 ≠ 422 by decide)).trans hob
  have hE2 := (ai_arr_wr (x := .inl (0, ai_I 24 (ax_f EU))) (show 423 ≠ 422 by decide)).trans hE2
  have hTB := (ai_arr_wr (x := .inl (0, ai_I 24 (ax_f EU))) (show 424 ≠ 422 by decide)).trans hTB
  have hU1 : tm (ai_wr S2 422 (.inl (0, ai_I 24 (ax_f EU)))) 418 TU w1.length := ⟨(ai_obj_wr (by decide)).trans hU1.1, (ai_arr_wr (by decide)).trans hU1.2⟩
  have hV1 : tm (ai_wr S2 422 (.inl (0, ai_I 24 (ax_f EU)))) 420 TV w2.length := ⟨(ai_obj_wr (by decide)).trans hV1.1, (ai_arr_wr (by decide)).trans hV1.2⟩
  have hs3 := f4.sy hs2 (by decide)
  have f5 := f3.tr f4
  generalize ai_wr S2 422 (.inl (0, ai_I 24 (ax_f EU))) = S3 at *
  refine aw_loc at_62_42 rfl rfl ?_
  refine aw_get at_62_43 rfl fl_6_32 hob rfl ?_
  refine aw_loc at_62_46 rfl rfl ?_
  refine aw_get at_62_47 rfl fl_6_18 hob rfl ?_
  refine aw_get at_62_50 rfl fl_6_48 hV1.1 rfl ?_
  refine aw_pure (st' := ax_i (0) :: _) at_62_53 rfl rfl ?_
  refine aw_loc at_62_54 rfl rfl ?_
  refine aw_get at_62_55 rfl fl_6_18 hob rfl ?_
  refine aw_get at_62_58 rfl fl_6_52 hV1.1 rfl ?_
  refine aw_loc at_62_61 rfl rfl ?_
  refine aw_get at_62_62 rfl fl_6_25 hob rfl ?_
  refine aw_cv (a := 1) [.ref 421, ax_i ((0 : Nat) : Int), ax_i (w2.length : Nat), .ref 423] [] at_62_65 mt_6_56 (Or.inl rfl) rfl rfl (Nat.le_of_ble_eq_true rfl) ⟨_, hs3.1⟩ ((r_ends hs3 hP hV1.2 hwV.2.2 hE2 (by decide) (by decide) (by omega) (by omega) (by decide) (by decide) (by omega)).mono ?_)
  rintro v S0 ⟨rfl, rfl⟩
  generalize hEVd : fe P TV w2.length E2 (w2.length - 0) = EV
  have hEVv := fe_word (P := P) (E := E2) hwV h2
  rw [hEVd] at hEVv
  have f6 : fr 417 425 S3 _ := (fr_wr (a := 423) (x := .inl (0, ai_I 24 (ax_f EV)))).mn (by decide) (by decide)
  have hE4 : ai_arr (ai_wr S3 423 (.inl (0, ai_I 24 (ax_f EV)))) 423 0 = some (24, ax_f EV) := ai_arr_wrS (ai_arr_inv hE2).1
  have hob := (ai_obj_wr (x := .inl (0, ai_I 24 (ax_f EV))) (show 417 ≠ 423 by decide)).trans hob
  have hE3 := (ai_arr_wr (x := .inl (0, ai_I 24 (ax_f EV))) (show 422 ≠ 423 by decide)).trans hE3
  have hTB := (ai_arr_wr (x := .inl (0, ai_I 24 (ax_f EV))) (show 424 ≠ 423 by decide)).trans hTB
  have hU1 : tm (ai_wr S3 423 (.inl (0, ai_I 24 (ax_f EV)))) 418 TU w1.length := ⟨(ai_obj_wr (by decide)).trans hU1.1, (ai_arr_wr (by decide)).trans hU1.2⟩
  have hV1 : tm (ai_wr S3 423 (.inl (0, ai_I 24 (ax_f EV)))) 420 TV w2.length := ⟨(ai_obj_wr (by decide)).trans hV1.1, (ai_arr_wr (by decide)).trans hV1.2⟩
  have hs4 := f6.sy hs3 (by decide)
  have f7 := f5.tr f6
  generalize ai_wr S3 423 (.inl (0, ai_I 24 (ax_f EV))) = S4 at *
  have hpob : pob S4 P R nn w1 w2 TU TV EU EV TB := ⟨hs4, hP, hob, ⟨hU1, hwU⟩, ⟨hV1, hwV⟩, ⟨hE3, hEUv⟩, ⟨hE4, hEVv⟩, ⟨hTB, h01⟩, ⟨h1, h2⟩, hRr⟩
  have hl1 := List.length_pos_iff.2 (ts_ne hN1)
  have hl2 := List.length_pos_iff.2 (ts_ne hN2)
  refine aw_loc at_62_68 rfl rfl ?_
  refine aw_get at_62_69 rfl fl_6_12 hob rfl ?_
  refine aw_get at_62_72 rfl fl_6_52 hU1.1 rfl ?_
  refine aw_pure (st' := ax_i (1) :: _) at_62_75 rfl rfl ?_
  refine ax_sub at_62_76 rfl ?_
  refine aw_loc at_62_77 rfl rfl ?_
  have := r_abo2 (L := L) (xs := xs) (d := d) (a := a) (b := b) hpob hN1 hN2 hl1 hl2 w1.length TB none (Nat.le_refl _) h01 (fun p q h3 h4 _ => absurd h4 (by omega))
  rw [ai_wr_id (ai_arr_inv hTB).2] at this
  refine ai_aw_mono this ?_
  rintro o ⟨v, S9, rfl, TB9, rfl, h91, r9, rfl, h92⟩
  rw [sb_zero hN1, sb_zero hN2] at h92
  exact ⟨_, _, rfl, f7.tr (fr_wr.mn (by decide) (by decide)), pob_pog (pob_tb hpob h91), r9, rfl, h92⟩
set_option maxHeartbeats 4000000 in
theorem r_between {a b : Nat} (hs : sy S P R nn) (hP : ∀ i, 0 ≤ P i ∧ P i ≤ 2) (hRr : ∀ i, 0 ≤ R i ∧ R i ≤ 1000) (hg : pog S) (ha : tw S a w1) (hb : tw S b w2) (h1 : w1.length ≤ 24) (h2 : w2.length ≤ 24) (hN1 : ts (Ar P) 1 w1) (hN2 : ts (Ar P) 1 w2) (hsa : a + 1 < 417 ∨ 424 < a) (hsb : b + 1 < 417 ∨ 424 < b) : ai_rn L xs (d + 6) 61 [.ref 417, .ref a, .ref b] S (fun v S' => fr 417 425 S S' ∧ pog S' ∧ ∃ r, v = some (ax_i r) ∧ ((w1 = w2 ∧ r = 0) ∨ (w1 ≠ w2 ∧ pgt (Ar P) (at256 R) w1 w2 ∧ r = 1) ∨ (w1 ≠ w2 ∧ ¬ pgt (Ar P) (at256 R) w1 w2 ∧ pgt (Ar P) (at256 R) w2 w1 ∧ r = -1) ∨ (w1 ≠ w2 ∧ ¬ pgt (Ar P) (at256 R) w1 w2 ∧ ¬ pgt (Ar P) (at256 R) w2 w1 ∧ r = 2))) := by
  obtain ⟨Ta, na, ha1, hTa⟩ := id ha
  obtain ⟨Tb, nb, hb1, hTb⟩ := id hb
  have hsw := wd_same hTa hTb
  refine ai_rn_of (M := ai_m61) rfl (by decide) (Nat.le_of_ble_eq_true rfl) ?_
  refine aw_loc at_61_0 rfl rfl ?_
  refine aw_loc at_61_1 rfl rfl ?_
  refine aw_cv (a := a) [.ref b] [] at_61_2 mt_6_36 (Or.inl rfl) rfl rfl (Nat.le_of_ble_eq_true rfl) ⟨_, ha1.1⟩ ((r_tsame ha1 hb1 hTa.2.2 hTb.2.2 (wd_le hTa) (wd_le hTb)).mono ?_)
  rintro v S0 ⟨hS, q1, rfl, hq1⟩
  have hS2 := hS.symm
  subst hS2
  have hq19 := hq1.le
  refine ax_if_eq at_61_5 ⟨by omega, by omega⟩ (fun z1 => ?_) (fun z1 => ?_)
  · skip
    have hne : w1 ≠ w2 := fun h => (hq1.resolve_right (fun h => by have := h.1; omega)).2 (hsw.2 ⟨h, h1⟩)
    refine aw_loc at_61_10 rfl rfl ?_
    refine aw_loc at_61_11 rfl rfl ?_
    refine aw_loc at_61_12 rfl rfl ?_
    refine aw_cv (a := 417) [.ref a, .ref b] [] at_61_13 mt_6_40 (Or.inl rfl) rfl rfl (Nat.le_of_ble_eq_true rfl) ⟨_, hg.1⟩ ((r_above hs hP hRr hg ha hb h1 h2 hN1 hN2 hsa hsb).mono ?_)
    rintro v S2 ⟨f2, hg2, q2, rfl, hq2⟩
    have hq29 := hq2.le
    refine ax_if_eq at_61_16 ⟨by omega, by omega⟩ (fun z2 => ?_) (fun z2 => ?_)
    · skip
      have hn2 := (hq2.resolve_right (fun h => by have := h.1; omega)).2
      refine aw_loc at_61_21 rfl rfl ?_
      refine aw_loc at_61_22 rfl rfl ?_
      refine aw_loc at_61_23 rfl rfl ?_
      refine aw_cv (a := 417) [.ref b, .ref a] [] at_61_24 mt_6_40 (Or.inl rfl) rfl rfl (Nat.le_of_ble_eq_true rfl) ⟨_, hg2.1⟩ ((r_above (f2.sy hs (by decide)) hP hRr hg2 (f2.tw hb (by omega)) (f2.tw ha (by omega)) h2 h1 hN2 hN1 hsb hsa).mono ?_)
      rintro v S3 ⟨f3, hg3, q3, rfl, hq3⟩
      have hq39 := hq3.le
      refine ax_if_eq at_61_27 ⟨by omega, by omega⟩ (fun z3 => ?_) (fun z3 => ?_)
      · skip
        have hn3 := (hq3.resolve_right (fun h => by have := h.1; omega)).2
        refine aw_pure (st' := ax_i (2) :: _) at_61_34 rfl rfl ?_
        exact ax_ret at_61_35 rfl ⟨_, _, rfl, f2.tr f3, hg3, 2, rfl, Or.inr (Or.inr (Or.inr ⟨hne, hn2, hn3, rfl⟩))⟩
      · skip
        have hn3 := (hq3.resolve_left (fun h => z3 h.1)).2
        refine aw_pure (st' := ax_i (-1) :: _) at_61_30 rfl rfl ?_
        refine aw_goto at_61_31 ?_
        exact ax_ret at_61_35 rfl ⟨_, _, rfl, f2.tr f3, hg3, -1, rfl, Or.inr (Or.inr (Or.inl ⟨hne, hn2, hn3, rfl⟩))⟩
    · skip
      have hn2 := (hq2.resolve_left (fun h => z2 h.1)).2
      refine aw_pure (st' := ax_i (1) :: _) at_61_19 rfl rfl ?_
      exact ax_ret at_61_20 rfl ⟨_, _, rfl, f2, hg2, 1, rfl, Or.inr (Or.inl ⟨hne, hn2, rfl⟩)⟩
  · skip
    have he := (hsw.1 (hq1.resolve_left (fun h => z1 h.1)).2).1
    refine aw_pure (st' := ax_i (0) :: _) at_61_8 rfl rfl ?_
    exact ax_ret at_61_9 rfl ⟨_, _, rfl, fr.rf, hg, 0, rfl, Or.inl ⟨he, rfl⟩⟩
end PA

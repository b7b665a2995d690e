/-! The reference: renaming; pairs that wait; rows that move. -/
section MR2
variable {L : Nat} {xs : Nat → Int32} {d : Nat} {S S' : ai_S} {T D n rc wt kp sx sc : Int} {F : Nat → Nat → Int} {B : Nat → Int} {P : Nat → Int} {A : Int → Nat} {Rs Vs : rls}
/-- the waiting pairs in the reference's rows -/
def mpl (F : Nat → Nat → Int) (Vs : rls) : Prop := ∀ k, k < Vs.length → qsl (F 6) (F 7) (F 8) k (Vs.getD k q_no)
/-- where a letter of the two slots stands -/
def pos2 (a j : Nat) : Nat := if j < a then j else 64 + (j - a)
theorem pos2_inj {a i j : Nat} (ha : a ≤ 24) (h : pos2 a i = pos2 a j) : i = j := by
  unfold pos2 at h
  split at h <;> split at h <;> omega
theorem getD_app1 {u v : List Int} {i : Nat} (h : i < u.length) : (u ++ v).getD i 0 = u.getD i 0 := by
  rw [List.getD_eq_getElem?_getD, List.getD_eq_getElem?_getD, List.getElem?_append_left h]
theorem getD_app2 {u v : List Int} {i : Nat} (h : u.length ≤ i) : (u ++ v).getD i 0 = v.getD (i - u.length) 0 := by
  rw [List.getD_eq_getElem?_getD, List.getD_eq_getElem?_getD, List.getElem?_append_right h]
theorem take_snoc {u : List Int} {k : Nat} (h : k < u.length) : u.take (k + 1) = u.take k ++ [u.getD k 0] := by
  rw [List.take_add_one, List.getD_eq_getElem?_getD, List.getElem?_eq_getElem h]
  rfl
/-- the letters while they are renamed -/
def mixd (u : List Int) (k : Nat) : List Int := rnl q00 (u.take k) ++ u.drop k
theorem mixd_next {u : List Int} {k : Nat} (h : k < u.length) (j : Nat) : (mixd u (k + 1)).getD j 0 = if j = k then rl (rst q00 (u.take k)) (u.getD k 0) else (mixd u k).getD j 0 := by
  unfold mixd
  rw [take_snoc h, rnl_app]
  have l1 : (rnl q00 (u.take k)).length = k := by rw [rnl_len, List.length_take]; omega
  rw [drop_cons h]
  by_cases e : j = k
  · subst e
    rw [if_pos rfl, List.append_assoc, getD_app2 (by omega), l1, Nat.sub_self]
    rfl
  · rw [if_neg e, List.append_assoc]
    by_cases e2 : j < k
    · rw [getD_app1 (by omega), getD_app1 (by omega)]
    · rw [getD_app2 (u := rnl q00 (u.take k)) (by omega), getD_app2 (u := rnl q00 (u.take k)) (by omega), l1]
      rw [show j - k = (j - k - 1) + 1 by omega]
      rfl
theorem mixd_at {u : List Int} {k : Nat} (h : k < u.length) : (mixd u k).getD k 0 = u.getD k 0 := by
  unfold mixd
  have l1 : (rnl q00 (u.take k)).length = k := by rw [rnl_len, List.length_take]; omega
  rw [getD_app2 (by omega), l1, Nat.sub_self, drop_cons h]
  rfl
theorem at_110_0 : ai_at ai_m110 0 = some (.iconst 0, 1) := rfl
theorem at_110_1 : ai_at ai_m110 1 = some (.istore_n 1, 1) := rfl
theorem at_110_2 : ai_at ai_m110 2 = some (.iconst 0, 1) := rfl
theorem at_110_3 : ai_at ai_m110 3 = some (.istore_n 2, 1) := rfl
theorem at_110_4 : ai_at ai_m110 4 = some (.iload_n 2, 1) := rfl
theorem at_110_5 : ai_at ai_m110 5 = some (.bipush 20, 2) := rfl
theorem at_110_7 : ai_at ai_m110 7 = some (.if_icmp .ge 16, 3) := rfl
theorem at_110_10 : ai_at ai_m110 10 = some (.aload_n 0, 1) := rfl
theorem at_110_11 : ai_at ai_m110 11 = some (.getfield 61, 3) := rfl
theorem at_110_14 : ai_at ai_m110 14 = some (.iload_n 2, 1) := rfl
theorem at_110_15 : ai_at ai_m110 15 = some (.iconst (-1), 1) := rfl
theorem at_110_16 : ai_at ai_m110 16 = some (.iastore, 1) := rfl
theorem at_110_17 : ai_at ai_m110 17 = some (.iinc 2 1, 3) := rfl
theorem at_110_20 : ai_at ai_m110 20 = some (.goto (-16), 3) := rfl
theorem at_110_23 : ai_at ai_m110 23 = some (.iconst 0, 1) := rfl
theorem at_110_24 : ai_at ai_m110 24 = some (.istore_n 2, 1) := rfl
theorem at_110_25 : ai_at ai_m110 25 = some (.iload_n 2, 1) := rfl
theorem at_110_26 : ai_at ai_m110 26 = some (.aload_n 0, 1) := rfl
theorem at_110_27 : ai_at ai_m110 27 = some (.getfield 40, 3) := rfl
theorem at_110_30 : ai_at ai_m110 30 = some (.iconst 0, 1) := rfl
theorem at_110_31 : ai_at ai_m110 31 = some (.iaload, 1) := rfl
theorem at_110_32 : ai_at ai_m110 32 = some (.aload_n 0, 1) := rfl
theorem at_110_33 : ai_at ai_m110 33 = some (.getfield 40, 3) := rfl
theorem at_110_36 : ai_at ai_m110 36 = some (.iconst 1, 1) := rfl
theorem at_110_37 : ai_at ai_m110 37 = some (.iaload, 1) := rfl
theorem at_110_38 : ai_at ai_m110 38 = some (.iadd, 1) := rfl
theorem at_110_39 : ai_at ai_m110 39 = some (.if_icmp .ge 120, 3) := rfl
theorem at_110_42 : ai_at ai_m110 42 = some (.iload_n 2, 1) := rfl
theorem at_110_43 : ai_at ai_m110 43 = some (.aload_n 0, 1) := rfl
theorem at_110_44 : ai_at ai_m110 44 = some (.getfield 40, 3) := rfl
theorem at_110_47 : ai_at ai_m110 47 = some (.iconst 0, 1) := rfl
theorem at_110_48 : ai_at ai_m110 48 = some (.iaload, 1) := rfl
theorem at_110_49 : ai_at ai_m110 49 = some (.if_icmp .ge 7, 3) := rfl
theorem at_110_52 : ai_at ai_m110 52 = some (.iload_n 2, 1) := rfl
theorem at_110_53 : ai_at ai_m110 53 = some (.goto 14, 3) := rfl
theorem at_110_56 : ai_at ai_m110 56 = some (.bipush 64, 2) := rfl
theorem at_110_58 : ai_at ai_m110 58 = some (.iload_n 2, 1) := rfl
theorem at_110_59 : ai_at ai_m110 59 = some (.iadd, 1) := rfl
theorem at_110_60 : ai_at ai_m110 60 = some (.aload_n 0, 1) := rfl
theorem at_110_61 : ai_at ai_m110 61 = some (.getfield 40, 3) := rfl
theorem at_110_64 : ai_at ai_m110 64 = some (.iconst 0, 1) := rfl
theorem at_110_65 : ai_at ai_m110 65 = some (.iaload, 1) := rfl
theorem at_110_66 : ai_at ai_m110 66 = some (.isub, 1) := rfl
theorem at_110_67 : ai_at ai_m110 67 = some (.istore_n 3, 1) := rfl
theorem at_110_68 : ai_at ai_m110 68 = some (.aload_n 0, 1) := rfl
theorem at_110_69 : ai_at ai_m110 69 = some (.getfield 37, 3) := rfl
theorem at_110_72 : ai_at ai_m110 72 = some (.iload_n 3, 1) := rfl
theorem at_110_73 : ai_at ai_m110 73 = some (.iaload, 1) := rfl
theorem at_110_74 : ai_at ai_m110 74 = some (.bipush 8, 2) := rfl
theorem at_110_76 : ai_at ai_m110 76 = some (.isub, 1) := rfl
theorem at_110_77 : ai_at ai_m110 77 = some (.istore 4, 2) := rfl
theorem at_110_79 : ai_at ai_m110 79 = some (.iload 4, 2) := rfl
theorem at_110_81 : ai_at ai_m110 81 = some (.ifCond .lt 72, 3) := rfl
theorem at_110_84 : ai_at ai_m110 84 = some (.aload_n 0, 1) := rfl
theorem at_110_85 : ai_at ai_m110 85 = some (.getfield 61, 3) := rfl
theorem at_110_88 : ai_at ai_m110 88 = some (.iload 4, 2) := rfl
theorem at_110_90 : ai_at ai_m110 90 = some (.iaload, 1) := rfl
theorem at_110_91 : ai_at ai_m110 91 = some (.ifCond .ge 7, 3) := rfl
theorem at_110_94 : ai_at ai_m110 94 = some (.iconst 1, 1) := rfl
theorem at_110_95 : ai_at ai_m110 95 = some (.goto 4, 3) := rfl
theorem at_110_98 : ai_at ai_m110 98 = some (.iconst 0, 1) := rfl
theorem at_110_99 : ai_at ai_m110 99 = some (.istore 5, 2) := rfl
theorem at_110_101 : ai_at ai_m110 101 = some (.aload_n 0, 1) := rfl
theorem at_110_102 : ai_at ai_m110 102 = some (.getfield 61, 3) := rfl
theorem at_110_105 : ai_at ai_m110 105 = some (.iload 4, 2) := rfl
theorem at_110_107 : ai_at ai_m110 107 = some (.iload 5, 2) := rfl
theorem at_110_109 : ai_at ai_m110 109 = some (.ifCond .eq 7, 3) := rfl
theorem at_110_112 : ai_at ai_m110 112 = some (.iload_n 1, 1) := rfl
theorem at_110_113 : ai_at ai_m110 113 = some (.goto 10, 3) := rfl
theorem at_110_116 : ai_at ai_m110 116 = some (.aload_n 0, 1) := rfl
theorem at_110_117 : ai_at ai_m110 117 = some (.getfield 61, 3) := rfl
theorem at_110_120 : ai_at ai_m110 120 = some (.iload 4, 2) := rfl
theorem at_110_122 : ai_at ai_m110 122 = some (.iaload, 1) := rfl
theorem at_110_123 : ai_at ai_m110 123 = some (.iastore, 1) := rfl
theorem at_110_124 : ai_at ai_m110 124 = some (.iload_n 1, 1) := rfl
theorem at_110_125 : ai_at ai_m110 125 = some (.iload 5, 2) := rfl
theorem at_110_127 : ai_at ai_m110 127 = some (.ifCond .eq 7, 3) := rfl
theorem at_110_130 : ai_at ai_m110 130 = some (.iconst 1, 1) := rfl
theorem at_110_131 : ai_at ai_m110 131 = some (.goto 4, 3) := rfl
theorem at_110_134 : ai_at ai_m110 134 = some (.iconst 0, 1) := rfl
theorem at_110_135 : ai_at ai_m110 135 = some (.iadd, 1) := rfl
theorem at_110_136 : ai_at ai_m110 136 = some (.istore_n 1, 1) := rfl
theorem at_110_137 : ai_at ai_m110 137 = some (.aload_n 0, 1) := rfl
theorem at_110_138 : ai_at ai_m110 138 = some (.getfield 37, 3) := rfl
theorem at_110_141 : ai_at ai_m110 141 = some (.iload_n 3, 1) := rfl
theorem at_110_142 : ai_at ai_m110 142 = some (.bipush 8, 2) := rfl
theorem at_110_144 : ai_at ai_m110 144 = some (.aload_n 0, 1) := rfl
theorem at_110_145 : ai_at ai_m110 145 = some (.getfield 61, 3) := rfl
theorem at_110_148 : ai_at ai_m110 148 = some (.iload 4, 2) := rfl
theorem at_110_150 : ai_at ai_m110 150 = some (.iaload, 1) := rfl
theorem at_110_151 : ai_at ai_m110 151 = some (.iadd, 1) := rfl
theorem at_110_152 : ai_at ai_m110 152 = some (.iastore, 1) := rfl
theorem at_110_153 : ai_at ai_m110 153 = some (.iinc 2 1, 3) := rfl
theorem at_110_156 : ai_at ai_m110 156 = some (.goto (-131), 3) := rfl
theorem at_110_159 : ai_at ai_m110 159 = some (.iload_n 1, 1) := rfl
theorem at_110_160 : ai_at ai_m110 160 = some (.ireturn, 1) := rfl
theorem at_114_0 : ai_at ai_m114 0 = some (.iconst 0, 1) := rfl
theorem at_114_1 : ai_at ai_m114 1 = some (.istore_n 1, 1) := rfl
theorem at_114_2 : ai_at ai_m114 2 = some (.iconst 1, 1) := rfl
theorem at_114_3 : ai_at ai_m114 3 = some (.istore_n 2, 1) := rfl
theorem at_114_4 : ai_at ai_m114 4 = some (.iload_n 2, 1) := rfl
theorem at_114_5 : ai_at ai_m114 5 = some (.aload_n 0, 1) := rfl
theorem at_114_6 : ai_at ai_m114 6 = some (.getfield 106, 3) := rfl
theorem at_114_9 : ai_at ai_m114 9 = some (.if_icmp .ge 44, 3) := rfl
theorem at_114_12 : ai_at ai_m114 12 = some (.aload_n 0, 1) := rfl
theorem at_114_13 : ai_at ai_m114 13 = some (.getfield 31, 3) := rfl
theorem at_114_16 : ai_at ai_m114 16 = some (.iload_n 2, 1) := rfl
theorem at_114_17 : ai_at ai_m114 17 = some (.iaload, 1) := rfl
theorem at_114_18 : ai_at ai_m114 18 = some (.aload_n 0, 1) := rfl
theorem at_114_19 : ai_at ai_m114 19 = some (.getfield 34, 3) := rfl
theorem at_114_22 : ai_at ai_m114 22 = some (.iload_n 2, 1) := rfl
theorem at_114_23 : ai_at ai_m114 23 = some (.iaload, 1) := rfl
theorem at_114_24 : ai_at ai_m114 24 = some (.iadd, 1) := rfl
theorem at_114_25 : ai_at ai_m114 25 = some (.aload_n 0, 1) := rfl
theorem at_114_26 : ai_at ai_m114 26 = some (.getfield 31, 3) := rfl
theorem at_114_29 : ai_at ai_m114 29 = some (.iload_n 1, 1) := rfl
theorem at_114_30 : ai_at ai_m114 30 = some (.iaload, 1) := rfl
theorem at_114_31 : ai_at ai_m114 31 = some (.aload_n 0, 1) := rfl
theorem at_114_32 : ai_at ai_m114 32 = some (.getfield 34, 3) := rfl
theorem at_114_35 : ai_at ai_m114 35 = some (.iload_n 1, 1) := rfl
theorem at_114_36 : ai_at ai_m114 36 = some (.iaload, 1) := rfl
theorem at_114_37 : ai_at ai_m114 37 = some (.iadd, 1) := rfl
theorem at_114_38 : ai_at ai_m114 38 = some (.if_icmp .ge 7, 3) := rfl
theorem at_114_41 : ai_at ai_m114 41 = some (.iload_n 2, 1) := rfl
theorem at_114_42 : ai_at ai_m114 42 = some (.goto 4, 3) := rfl
theorem at_114_45 : ai_at ai_m114 45 = some (.iload_n 1, 1) := rfl
theorem at_114_46 : ai_at ai_m114 46 = some (.istore_n 1, 1) := rfl
theorem at_114_47 : ai_at ai_m114 47 = some (.iinc 2 1, 3) := rfl
theorem at_114_50 : ai_at ai_m114 50 = some (.goto (-46), 3) := rfl
theorem at_114_53 : ai_at ai_m114 53 = some (.iload_n 1, 1) := rfl
theorem at_114_54 : ai_at ai_m114 54 = some (.ireturn, 1) := rfl
theorem at_116_0 : ai_at ai_m116 0 = some (.aload_n 0, 1) := rfl
theorem at_116_1 : ai_at ai_m116 1 = some (.dup, 1) := rfl
theorem at_116_2 : ai_at ai_m116 2 = some (.getfield 106, 3) := rfl
theorem at_116_5 : ai_at ai_m116 5 = some (.iconst 1, 1) := rfl
theorem at_116_6 : ai_at ai_m116 6 = some (.isub, 1) := rfl
theorem at_116_7 : ai_at ai_m116 7 = some (.putfield 106, 3) := rfl
theorem at_116_10 : ai_at ai_m116 10 = some (.iload_n 1, 1) := rfl
theorem at_116_11 : ai_at ai_m116 11 = some (.istore_n 2, 1) := rfl
theorem at_116_12 : ai_at ai_m116 12 = some (.iload_n 2, 1) := rfl
theorem at_116_13 : ai_at ai_m116 13 = some (.aload_n 0, 1) := rfl
theorem at_116_14 : ai_at ai_m116 14 = some (.getfield 106, 3) := rfl
theorem at_116_17 : ai_at ai_m116 17 = some (.if_icmp .ge 76, 3) := rfl
theorem at_116_20 : ai_at ai_m116 20 = some (.aload_n 0, 1) := rfl
theorem at_116_21 : ai_at ai_m116 21 = some (.getfield 31, 3) := rfl
theorem at_116_24 : ai_at ai_m116 24 = some (.iload_n 2, 1) := rfl
theorem at_116_25 : ai_at ai_m116 25 = some (.aload_n 0, 1) := rfl
theorem at_116_26 : ai_at ai_m116 26 = some (.getfield 31, 3) := rfl
theorem at_116_29 : ai_at ai_m116 29 = some (.iload_n 2, 1) := rfl
theorem at_116_30 : ai_at ai_m116 30 = some (.iconst 1, 1) := rfl
theorem at_116_31 : ai_at ai_m116 31 = some (.iadd, 1) := rfl
theorem at_116_32 : ai_at ai_m116 32 = some (.iaload, 1) := rfl
theorem at_116_33 : ai_at ai_m116 33 = some (.iastore, 1) := rfl
theorem at_116_34 : ai_at ai_m116 34 = some (.aload_n 0, 1) := rfl
theorem at_116_35 : ai_at ai_m116 35 = some (.getfield 34, 3) := rfl
theorem at_116_38 : ai_at ai_m116 38 = some (.iload_n 2, 1) := rfl
theorem at_116_39 : ai_at ai_m116 39 = some (.aload_n 0, 1) := rfl
theorem at_116_40 : ai_at ai_m116 40 = some (.getfield 34, 3) := rfl
theorem at_116_43 : ai_at ai_m116 43 = some (.iload_n 2, 1) := rfl
theorem at_116_44 : ai_at ai_m116 44 = some (.iconst 1, 1) := rfl
theorem at_116_45 : ai_at ai_m116 45 = some (.iadd, 1) := rfl
theorem at_116_46 : ai_at ai_m116 46 = some (.iaload, 1) := rfl
theorem at_116_47 : ai_at ai_m116 47 = some (.iastore, 1) := rfl
theorem at_116_48 : ai_at ai_m116 48 = some (.iconst 0, 1) := rfl
theorem at_116_49 : ai_at ai_m116 49 = some (.istore_n 3, 1) := rfl
theorem at_116_50 : ai_at ai_m116 50 = some (.iload_n 3, 1) := rfl
theorem at_116_51 : ai_at ai_m116 51 = some (.bipush 48, 2) := rfl
theorem at_116_53 : ai_at ai_m116 53 = some (.if_icmp .ge 34, 3) := rfl
theorem at_116_56 : ai_at ai_m116 56 = some (.aload_n 0, 1) := rfl
theorem at_116_57 : ai_at ai_m116 57 = some (.getfield 28, 3) := rfl
theorem at_116_60 : ai_at ai_m116 60 = some (.bipush 48, 2) := rfl
theorem at_116_62 : ai_at ai_m116 62 = some (.iload_n 2, 1) := rfl
theorem at_116_63 : ai_at ai_m116 63 = some (.imul, 1) := rfl
theorem at_116_64 : ai_at ai_m116 64 = some (.iload_n 3, 1) := rfl
theorem at_116_65 : ai_at ai_m116 65 = some (.iadd, 1) := rfl
theorem at_116_66 : ai_at ai_m116 66 = some (.aload_n 0, 1) := rfl
theorem at_116_67 : ai_at ai_m116 67 = some (.getfield 28, 3) := rfl
theorem at_116_70 : ai_at ai_m116 70 = some (.bipush 48, 2) := rfl
theorem at_116_72 : ai_at ai_m116 72 = some (.iload_n 2, 1) := rfl
theorem at_116_73 : ai_at ai_m116 73 = some (.imul, 1) := rfl
theorem at_116_74 : ai_at ai_m116 74 = some (.bipush 48, 2) := rfl
theorem at_116_76 : ai_at ai_m116 76 = some (.iadd, 1) := rfl
theorem at_116_77 : ai_at ai_m116 77 = some (.iload_n 3, 1) := rfl
theorem at_116_78 : ai_at ai_m116 78 = some (.iadd, 1) := rfl
theorem at_116_79 : ai_at ai_m116 79 = some (.iaload, 1) := rfl
theorem at_116_80 : ai_at ai_m116 80 = some (.iastore, 1) := rfl
theorem at_116_81 : ai_at ai_m116 81 = some (.iinc 3 1, 3) := rfl
theorem at_116_84 : ai_at ai_m116 84 = some (.goto (-34), 3) := rfl
theorem at_116_87 : ai_at ai_m116 87 = some (.iinc 2 1, 3) := rfl
theorem at_116_90 : ai_at ai_m116 90 = some (.goto (-78), 3) := rfl
theorem at_116_93 : ai_at ai_m116 93 = some (.return_, 1) := rfl
theorem at_135_0 : ai_at ai_m135 0 = some (.aload_n 0, 1) := rfl
theorem at_135_1 : ai_at ai_m135 1 = some (.dup, 1) := rfl
theorem at_135_2 : ai_at ai_m135 2 = some (.getfield 113, 3) := rfl
theorem at_135_5 : ai_at ai_m135 5 = some (.iconst 1, 1) := rfl
theorem at_135_6 : ai_at ai_m135 6 = some (.isub, 1) := rfl
theorem at_135_7 : ai_at ai_m135 7 = some (.putfield 113, 3) := rfl
theorem at_135_10 : ai_at ai_m135 10 = some (.iload_n 1, 1) := rfl
theorem at_135_11 : ai_at ai_m135 11 = some (.istore_n 2, 1) := rfl
theorem at_135_12 : ai_at ai_m135 12 = some (.iload_n 2, 1) := rfl
theorem at_135_13 : ai_at ai_m135 13 = some (.aload_n 0, 1) := rfl
theorem at_135_14 : ai_at ai_m135 14 = some (.getfield 113, 3) := rfl
theorem at_135_17 : ai_at ai_m135 17 = some (.if_icmp .ge 76, 3) := rfl
theorem at_135_20 : ai_at ai_m135 20 = some (.aload_n 0, 1) := rfl
theorem at_135_21 : ai_at ai_m135 21 = some (.getfield 22, 3) := rfl
theorem at_135_24 : ai_at ai_m135 24 = some (.iload_n 2, 1) := rfl
theorem at_135_25 : ai_at ai_m135 25 = some (.aload_n 0, 1) := rfl
theorem at_135_26 : ai_at ai_m135 26 = some (.getfield 22, 3) := rfl
theorem at_135_29 : ai_at ai_m135 29 = some (.iload_n 2, 1) := rfl
theorem at_135_30 : ai_at ai_m135 30 = some (.iconst 1, 1) := rfl
theorem at_135_31 : ai_at ai_m135 31 = some (.iadd, 1) := rfl
theorem at_135_32 : ai_at ai_m135 32 = some (.iaload, 1) := rfl
theorem at_135_33 : ai_at ai_m135 33 = some (.iastore, 1) := rfl
theorem at_135_34 : ai_at ai_m135 34 = some (.aload_n 0, 1) := rfl
theorem at_135_35 : ai_at ai_m135 35 = some (.getfield 25, 3) := rfl
theorem at_135_38 : ai_at ai_m135 38 = some (.iload_n 2, 1) := rfl
theorem at_135_39 : ai_at ai_m135 39 = some (.aload_n 0, 1) := rfl
theorem at_135_40 : ai_at ai_m135 40 = some (.getfield 25, 3) := rfl
theorem at_135_43 : ai_at ai_m135 43 = some (.iload_n 2, 1) := rfl
theorem at_135_44 : ai_at ai_m135 44 = some (.iconst 1, 1) := rfl
theorem at_135_45 : ai_at ai_m135 45 = some (.iadd, 1) := rfl
theorem at_135_46 : ai_at ai_m135 46 = some (.iaload, 1) := rfl
theorem at_135_47 : ai_at ai_m135 47 = some (.iastore, 1) := rfl
theorem at_135_48 : ai_at ai_m135 48 = some (.iconst 0, 1) := rfl
theorem at_135_49 : ai_at ai_m135 49 = some (.istore_n 3, 1) := rfl
theorem at_135_50 : ai_at ai_m135 50 = some (.iload_n 3, 1) := rfl
theorem at_135_51 : ai_at ai_m135 51 = some (.bipush 48, 2) := rfl
theorem at_135_53 : ai_at ai_m135 53 = some (.if_icmp .ge 34, 3) := rfl
theorem at_135_56 : ai_at ai_m135 56 = some (.aload_n 0, 1) := rfl
theorem at_135_57 : ai_at ai_m135 57 = some (.getfield 19, 3) := rfl
theorem at_135_60 : ai_at ai_m135 60 = some (.bipush 48, 2) := rfl
theorem at_135_62 : ai_at ai_m135 62 = some (.iload_n 2, 1) := rfl
theorem at_135_63 : ai_at ai_m135 63 = some (.imul, 1) := rfl
theorem at_135_64 : ai_at ai_m135 64 = some (.iload_n 3, 1) := rfl
theorem at_135_65 : ai_at ai_m135 65 = some (.iadd, 1) := rfl
theorem at_135_66 : ai_at ai_m135 66 = some (.aload_n 0, 1) := rfl
theorem at_135_67 : ai_at ai_m135 67 = some (.getfield 19, 3) := rfl
theorem at_135_70 : ai_at ai_m135 70 = some (.bipush 48, 2) := rfl
theorem at_135_72 : ai_at ai_m135 72 = some (.iload_n 2, 1) := rfl
theorem at_135_73 : ai_at ai_m135 73 = some (.imul, 1) := rfl
theorem at_135_74 : ai_at ai_m135 74 = some (.bipush 48, 2) := rfl
theorem at_135_76 : ai_at ai_m135 76 = some (.iadd, 1) := rfl
theorem at_135_77 : ai_at ai_m135 77 = some (.iload_n 3, 1) := rfl
theorem at_135_78 : ai_at ai_m135 78 = some (.iadd, 1) := rfl
theorem at_135_79 : ai_at ai_m135 79 = some (.iaload, 1) := rfl
theorem at_135_80 : ai_at ai_m135 80 = some (.iastore, 1) := rfl
theorem at_135_81 : ai_at ai_m135 81 = some (.iinc 3 1, 3) := rfl
theorem at_135_84 : ai_at ai_m135 84 = some (.goto (-34), 3) := rfl
theorem at_135_87 : ai_at ai_m135 87 = some (.iinc 2 1, 3) := rfl
theorem at_135_90 : ai_at ai_m135 90 = some (.goto (-78), 3) := rfl
theorem at_135_93 : ai_at ai_m135 93 = some (.return_, 1) := rfl
theorem fl_12_61 : ai_fld 12 61 = some (11, 25, false) := by decide +kernel
set_option maxHeartbeats 16000000 in
theorem r_m_ren1 {l r : List Int} (h0 : mwd (F 9) (F 10) 0 l) (h1 : mwd (F 9) (F 10) 1 r) (hl : l.length ≤ 24) (hr : r.length ≤ 24) (kl : al (kn (F 0) 129) l) (kr : al (kn (F 0) 129) r) : ∀ (m k : Nat) (X NA : Nat → Int) (S1 : ai_S) (x3 x4 x5 : Option Value), k + m = (l ++ r).length → fr 432 452 S S1 → mst S1 T D n rc wt kp sx sc (fup (fup F 9 X) 17 NA) B → (∀ j, j < (l ++ r).length → X (pos2 l.length j) = co ((mixd (l ++ r) k).getD j 0)) → (∀ v, v < 20 → NA v = (rst q00 ((l ++ r).take k)).1 v - 1) → xr X → ai_aw L xs d ai_m110 (fun (o : ai_O) => ∃ v S', o = (.inl v, S') ∧ fr 432 452 S S' ∧ v = some (ax_i (rnc l r)) ∧ ∃ X NA, mst S' T D n rc wt kp sx sc (fup (fup F 9 X) 17 NA) B ∧ mwd X (F 10) 0 (rnp l r).1 ∧ mwd X (F 10) 1 (rnp l r).2 ∧ xr X) (25, [some (.ref 432), some (ax_i ((rst q00 ((l ++ r).take k)).2)), some (ax_i (k : Nat)), x3, x4, x5], [], S1) := by
  have z0 := mwd_len h0 (by omega)
  have z1 := mwd_len h1 (by omega)
  have hul : (l ++ r).length = l.length + r.length := List.length_append
  intro m
  induction m with
  | zero =>
    intro k X NA S1 x3 x4 x5 hk f1 g1 hX hNA hx
    have ho := g1.1
    have r9 : ai_arr S1 442 0 = some (192, ax_f ((fup (fup F 9 X) 17 NA) 9)) := g1.2.1 9 (by decide)
    rw [show (fup (fup F 9 X) 17 NA) 9 = X from (fup_ne (by decide)).trans (fup_get _ _ _)] at r9
    have r10 : ai_arr S1 443 0 = some (3, ax_f ((fup (fup F 9 X) 17 NA) 10)) := g1.2.1 10 (by decide)
    rw [show (fup (fup F 9 X) 17 NA) 10 = F 10 from (fup_ne (by decide)).trans (fup_ne (by decide))] at r10
    have r17 : ai_arr S1 450 0 = some (20, ax_f ((fup (fup F 9 X) 17 NA) 17)) := g1.2.1 17 (by decide)
    rw [show (fup (fup F 9 X) 17 NA) 17 = NA from fup_get _ _ _] at r17
    obtain rfl : k = (l ++ r).length := by omega
    have hq := qg_rst ((l ++ r).take (l ++ r).length) q00 qg_00
    have hr12 := rnc_in (P' := F 0) l r kl kr
    have hmany : (rst q00 ((l ++ r).take (l ++ r).length)).2 = rnc l r := by rw [List.take_length]; unfold rnc; rw [rst_app]
    rw [hmany]
    refine aw_loc at_110_25 rfl rfl ?_
    refine aw_loc at_110_26 rfl rfl ?_
    refine aw_get at_110_27 rfl fl_12_40 ho rfl ?_
    refine aw_pure (st' := ax_i (0) :: _) at_110_30 rfl rfl ?_
    refine ax_ild at_110_31 rfl r10 (k := 0) rfl (by decide) (by decide) ?_
    refine aw_loc at_110_32 rfl rfl ?_
    refine aw_get at_110_33 rfl fl_12_40 ho rfl ?_
    refine aw_pure (st' := ax_i (1) :: _) at_110_36 rfl rfl ?_
    refine ax_ild at_110_37 rfl r10 (k := 1) rfl (by decide) (by decide) ?_
    refine ax_add at_110_38 rfl ?_
    rw [z0, z1]
    refine ax_icmp_ge at_110_39 ⟨by omega, by omega⟩ ⟨by omega, by omega⟩ (fun _ => ?_) (fun z => absurd z (by omega))
    show ai_aw L xs d ai_m110 _ (159, _, _, _)
    refine aw_loc at_110_159 rfl rfl ?_
    have hmx : mixd (l ++ r) (l ++ r).length = (rnp l r).1 ++ (rnp l r).2 := by unfold mixd; rw [List.take_length, List.drop_length, List.append_nil, rnp_app]
    have hln := rnp_len l r
    rw [hmx] at hX
    refine ax_ret at_110_160 rfl ⟨_, _, rfl, f1, rfl, X, NA, g1, ⟨?_, fun i hi h64 => ?_⟩, ⟨?_, fun i hi h64 => ?_⟩, hx⟩
    · rw [hln.1]; omega
    · have := hX i (by omega); rw [getD_app1 hi] at this; unfold pos2 at this; rw [if_pos (by omega)] at this; rw [show 64 * 0 + i = i by omega]; exact this
    · rw [hln.2]; omega
    · have := hX (l.length + i) (by omega); rw [getD_app2 (by omega), show l.length + i - (rnp l r).1.length = i by omega] at this; unfold pos2 at this; rw [if_neg (by omega), show l.length + i - l.length = i by omega] at this; exact this
  | succ m ih =>
    intro k X NA S1 x3 x4 x5 hk f1 g1 hX hNA hx
    have ho := g1.1
    have r9 : ai_arr S1 442 0 = some (192, ax_f ((fup (fup F 9 X) 17 NA) 9)) := g1.2.1 9 (by decide)
    rw [show (fup (fup F 9 X) 17 NA) 9 = X from (fup_ne (by decide)).trans (fup_get _ _ _)] at r9
    have r10 : ai_arr S1 443 0 = some (3, ax_f ((fup (fup F 9 X) 17 NA) 10)) := g1.2.1 10 (by decide)
    rw [show (fup (fup F 9 X) 17 NA) 10 = F 10 from (fup_ne (by decide)).trans (fup_ne (by decide))] at r10
    have r17 : ai_arr S1 450 0 = some (20, ax_f ((fup (fup F 9 X) 17 NA) 17)) := g1.2.1 17 (by decide)
    rw [show (fup (fup F 9 X) 17 NA) 17 = NA from fup_get _ _ _] at r17
    have hku : k < (l ++ r).length := by omega
    have hq := qg_rst ((l ++ r).take k) q00 qg_00
    have hcm : (l ++ r).getD k 0 ∈ l ++ r := by rw [getD_eq hku]; exact List.getElem_mem _
    have hck : kn (F 0) 129 ((l ++ r).getD k 0) := (List.mem_append.1 hcm).elim (kl _) (kr _)
    have hc9 := kn_lt hck
    have hcc := co_in hck
    have hXk := hX k hku
    rw [mixd_at hku] at hXk
    have hnx : ∀ j, j < (l ++ r).length → (mixd (l ++ r) (k + 1)).getD j 0 = if j = k then rl (rst q00 ((l ++ r).take k)) ((l ++ r).getD k 0) else (mixd (l ++ r) k).getD j 0 := fun j _ => mixd_next hku j
    have hrs : rst q00 ((l ++ r).take (k + 1)) = rs (rst q00 ((l ++ r).take k)) ((l ++ r).getD k 0) := by rw [take_snoc hku, rst_app]; rfl
    have hrin := hq.2.1
    have hr0 := hq.1
    have hle12 : (rst q00 ((l ++ r).take k)).2 ≤ 12 := by rw [rst_cnt (N := 12) ((l ++ r).take k) q00 qg_00 rfl (fun c hc => by have := List.mem_of_mem_take hc; have := kn_lt ((List.mem_append.1 this).elim (kl c) (kr c)); show c < 117 + ((12 : Nat) : Int); omega)]; exact nz_le _ 12
    generalize hqd : rst q00 ((l ++ r).take k) = qk at *
    generalize hcd : (l ++ r).getD k 0 = c at *
    have hpk : pos2 l.length k < 128 := by unfold pos2; split <;> omega
    have knext : ∀ (X2 NA2 : Nat → Int) (S2 : ai_S) (y3 y4 y5 : Option Value), fr 432 452 S S2 → mst S2 T D n rc wt kp sx sc (fup (fup F 9 X2) 17 NA2) B → (∀ j, j < (l ++ r).length → X2 (pos2 l.length j) = co (if j = k then rl qk c else (mixd (l ++ r) k).getD j 0)) → (∀ v, v < 20 → NA2 v = (rs qk c).1 v - 1) → xr X2 → ai_aw L xs d ai_m110 (fun (o : ai_O) => ∃ v S', o = (.inl v, S') ∧ fr 432 452 S S' ∧ v = some (ax_i (rnc l r)) ∧ ∃ X NA, mst S' T D n rc wt kp sx sc (fup (fup F 9 X) 17 NA) B ∧ mwd X (F 10) 0 (rnp l r).1 ∧ mwd X (F 10) 1 (rnp l r).2 ∧ xr X) (153, [some (.ref 432), some (ax_i (rs qk c).2), some (ax_i (k : Nat)), y3, y4, y5], [], S2) := by
      intro X2 NA2 S2 y3 y4 y5 f2 g2 hX2 hN2 hx2
      refine ax_inc at_110_153 rfl rfl rfl ?_
      refine aw_goto at_110_156 ?_
      have := ih (k + 1) X2 NA2 S2 y3 y4 y5 (by omega) f2 g2 (fun j hj => by rw [hX2 j hj, hnx j hj]) (fun v hv => by rw [hrs]; exact hN2 v hv) hx2
      rw [hrs, Int.natCast_add] at this
      exact this
    refine aw_loc at_110_25 rfl rfl ?_
    refine aw_loc at_110_26 rfl rfl ?_
    refine aw_get at_110_27 rfl fl_12_40 ho rfl ?_
    refine aw_pure (st' := ax_i (0) :: _) at_110_30 rfl rfl ?_
    refine ax_ild at_110_31 rfl r10 (k := 0) rfl (by decide) (by decide) ?_
    refine aw_loc at_110_32 rfl rfl ?_
    refine aw_get at_110_33 rfl fl_12_40 ho rfl ?_
    refine aw_pure (st' := ax_i (1) :: _) at_110_36 rfl rfl ?_
    refine ax_ild at_110_37 rfl r10 (k := 1) rfl (by decide) (by decide) ?_
    refine ax_add at_110_38 rfl ?_
    rw [z0, z1]
    refine ax_icmp_ge at_110_39 ⟨by omega, by omega⟩ ⟨by omega, by omega⟩ (fun z => absurd z (by omega)) (fun _ => ?_)
    have kat : ∀ at9 : Int, at9 = (pos2 l.length k : Nat) → ai_aw L xs d ai_m110 (fun (o : ai_O) => ∃ v S', o = (.inl v, S') ∧ fr 432 452 S S' ∧ v = some (ax_i (rnc l r)) ∧ ∃ X NA, mst S' T D n rc wt kp sx sc (fup (fup F 9 X) 17 NA) B ∧ mwd X (F 10) 0 (rnp l r).1 ∧ mwd X (F 10) 1 (rnp l r).2 ∧ xr X) (67, [some (.ref 432), some (ax_i qk.2), some (ax_i (k : Nat)), x3, x4, x5], [ax_i at9], S1) := by
      intro at9 hat
      rw [hat]
      refine aw_loc at_110_67 rfl rfl ?_
      refine aw_loc at_110_68 rfl rfl ?_
      refine aw_get at_110_69 rfl fl_12_37 ho rfl ?_
      refine aw_loc at_110_72 rfl rfl ?_
      refine ax_ild at_110_73 rfl r9 (k := pos2 l.length k) rfl (by omega) (by decide) ?_
      rw [hXk]
      refine aw_pure (st' := ax_i (8) :: _) at_110_74 rfl rfl ?_
      refine ax_sub at_110_76 rfl ?_
      refine aw_loc at_110_77 rfl rfl ?_
      refine aw_loc at_110_79 rfl rfl ?_
      refine ax_if_lt at_110_81 ⟨by omega, by omega⟩ (fun z => ?_) (fun z => ?_)
      · skip
        have hv : c < 117 := by omega
        have ers : rs qk c = qk := rs_old (Or.inl hv)
        have := knext X NA S1 (some (ax_i (pos2 l.length k : Nat))) (some (ax_i (co c - 8))) x5 f1 g1 (fun j hj => ?_) (fun v hv9 => by rw [ers]; exact hNA v hv9) hx
        · rw [ers] at this; exact this
        · by_cases e : j = k
          · rw [if_pos e, e, hXk]; unfold rl; rw [if_pos hv]
          · rw [if_neg e]; exact hX j hj
      · skip
        have hv : 117 ≤ c := by omega
        have ecc : co c - 8 = (((c - 117).toNat : Nat) : Int) := by unfold co; rw [if_neg (by omega)]; omega
        rw [ecc]
        have hnv := hNA (c - 117).toNat (by omega)
        have hqv := hrin (c - 117).toNat
        have erl : rl qk c = 116 + (rs qk c).1 (c - 117).toNat := by unfold rl; rw [if_neg (by omega)]; omega
        have hrq := qg_rs hq c
        have hrv := hrq.2.1 (c - 117).toNat
        have hri := rs_in hq hv
        have hr2 : (rs qk c).2 ≤ qk.2 + 1 := by by_cases e2 : qk.1 (c - 117).toNat = 0; rw [rs_new hv e2]; exact Int.le_refl _; rw [rs_old (Or.inr e2)]; omega
        refine aw_loc at_110_84 rfl rfl ?_
        refine aw_get at_110_85 rfl fl_12_61 ho rfl ?_
        refine aw_loc at_110_88 rfl rfl ?_
        refine ax_ild at_110_90 rfl r17 (k := (c - 117).toNat) rfl (by omega) (by decide) ?_
        rw [hnv]
        have kst : ∀ (fr9 : Int), ((fr9 = 1 ∧ qk.1 (c - 117).toNat = 0) ∨ (fr9 = 0 ∧ qk.1 (c - 117).toNat ≠ 0)) → ai_aw L xs d ai_m110 (fun (o : ai_O) => ∃ v S', o = (.inl v, S') ∧ fr 432 452 S S' ∧ v = some (ax_i (rnc l r)) ∧ ∃ X NA, mst S' T D n rc wt kp sx sc (fup (fup F 9 X) 17 NA) B ∧ mwd X (F 10) 0 (rnp l r).1 ∧ mwd X (F 10) 1 (rnp l r).2 ∧ xr X) (99, [some (.ref 432), some (ax_i qk.2), some (ax_i (k : Nat)), some (ax_i (pos2 l.length k : Nat)), some (ax_i (((c - 117).toNat : Nat) : Int)), x5], [ax_i fr9], S1) := by
          intro fr9 hfr
          have kw : ∀ (nm : Int), nm = (rs qk c).1 (c - 117).toNat - 1 → ai_aw L xs d ai_m110 (fun (o : ai_O) => ∃ v S', o = (.inl v, S') ∧ fr 432 452 S S' ∧ v = some (ax_i (rnc l r)) ∧ ∃ X NA, mst S' T D n rc wt kp sx sc (fup (fup F 9 X) 17 NA) B ∧ mwd X (F 10) 0 (rnp l r).1 ∧ mwd X (F 10) 1 (rnp l r).2 ∧ xr X) (123, [some (.ref 432), some (ax_i qk.2), some (ax_i (k : Nat)), some (ax_i (pos2 l.length k : Nat)), some (ax_i (((c - 117).toNat : Nat) : Int)), some (ax_i fr9)], [ax_i nm, ax_i (((c - 117).toNat : Nat) : Int), .ref 450], S1) := by
            intro nm hnm
            rw [hnm]
            refine ax_ist (k := (c - 117).toNat) at_110_123 rfl r17 rfl (by omega) (by decide) ?_
            have g2 : mst (ai_wr S1 450 (.inl (0, ai_I 20 (ax_f (ax_up NA (c - 117).toNat ((rs qk c).1 (c - 117).toNat - 1)))))) T D n rc wt kp sx sc (fup (fup F 9 X) 17 (ax_up NA (c - 117).toNat ((rs qk c).1 (c - 117).toNat - 1))) B := by
              have := mst_wr (i := 17) (R := (ax_up NA (c - 117).toNat ((rs qk c).1 (c - 117).toNat - 1))) g1 (by decide)
              rw [fup_two] at this
              exact this
            have f2 := f1.tr (fr_md (S := S1) (a := 450) (x := .inl (0, ai_I 20 (ax_f (ax_up NA (c - 117).toNat ((rs qk c).1 (c - 117).toNat - 1))))) (by decide) (by decide))
            generalize ai_wr S1 450 (.inl (0, ai_I 20 (ax_f (ax_up NA (c - 117).toNat ((rs qk c).1 (c - 117).toNat - 1))))) = S2 at g2 f2 ⊢
            have ho := g2.1
            have r9 : ai_arr S2 442 0 = some (192, ax_f ((fup (fup F 9 X) 17 (ax_up NA (c - 117).toNat ((rs qk c).1 (c - 117).toNat - 1))) 9)) := g2.2.1 9 (by decide)
            rw [show (fup (fup F 9 X) 17 (ax_up NA (c - 117).toNat ((rs qk c).1 (c - 117).toNat - 1))) 9 = X from (fup_ne (by decide)).trans (fup_get _ _ _)] at r9
            have r17 : ai_arr S2 450 0 = some (20, ax_f ((fup (fup F 9 X) 17 (ax_up NA (c - 117).toNat ((rs qk c).1 (c - 117).toNat - 1))) 17)) := g2.2.1 17 (by decide)
            rw [show (fup (fup F 9 X) 17 (ax_up NA (c - 117).toNat ((rs qk c).1 (c - 117).toNat - 1))) 17 = (ax_up NA (c - 117).toNat ((rs qk c).1 (c - 117).toNat - 1)) from fup_get _ _ _] at r17
            have kend : ∀ (mn : Int), mn = (rs qk c).2 → ai_aw L xs d ai_m110 (fun (o : ai_O) => ∃ v S', o = (.inl v, S') ∧ fr 432 452 S S' ∧ v = some (ax_i (rnc l r)) ∧ ∃ X NA, mst S' T D n rc wt kp sx sc (fup (fup F 9 X) 17 NA) B ∧ mwd X (F 10) 0 (rnp l r).1 ∧ mwd X (F 10) 1 (rnp l r).2 ∧ xr X) (136, [some (.ref 432), some (ax_i qk.2), some (ax_i (k : Nat)), some (ax_i (pos2 l.length k : Nat)), some (ax_i (((c - 117).toNat : Nat) : Int)), some (ax_i fr9)], [ax_i mn], S2) := by
              intro mn hmn
              rw [hmn]
              refine aw_loc at_110_136 rfl rfl ?_
              refine aw_loc at_110_137 rfl rfl ?_
              refine aw_get at_110_138 rfl fl_12_37 ho rfl ?_
              refine aw_loc at_110_141 rfl rfl ?_
              refine aw_pure (st' := ax_i (8) :: _) at_110_142 rfl rfl ?_
              refine aw_loc at_110_144 rfl rfl ?_
              refine aw_get at_110_145 rfl fl_12_61 ho rfl ?_
              refine aw_loc at_110_148 rfl rfl ?_
              refine ax_ild at_110_150 rfl r17 (k := (c - 117).toNat) rfl (by omega) (by decide) ?_
              rw [show (ax_up NA (c - 117).toNat ((rs qk c).1 (c - 117).toNat - 1)) (c - 117).toNat = (rs qk c).1 (c - 117).toNat - 1 from if_pos rfl]
              refine ax_add at_110_151 rfl ?_
              refine ax_ist (k := pos2 l.length k) at_110_152 rfl r9 rfl (by omega) (by decide) ?_
              have g3 : mst (ai_wr S2 442 (.inl (0, ai_I 192 (ax_f (ax_up X (pos2 l.length k) (8 + ((rs qk c).1 (c - 117).toNat - 1))))))) T D n rc wt kp sx sc (fup (fup F 9 (ax_up X (pos2 l.length k) (8 + ((rs qk c).1 (c - 117).toNat - 1)))) 17 (ax_up NA (c - 117).toNat ((rs qk c).1 (c - 117).toNat - 1))) B := by
                have := mst_wr (i := 9) (R := (ax_up X (pos2 l.length k) (8 + ((rs qk c).1 (c - 117).toNat - 1)))) g2 (by decide)
                rw [fup_comm _ (show 17 ≠ 9 by decide), fup_two] at this
                exact this
              refine knext (ax_up X (pos2 l.length k) (8 + ((rs qk c).1 (c - 117).toNat - 1))) (ax_up NA (c - 117).toNat ((rs qk c).1 (c - 117).toNat - 1)) _ _ _ _ (f2.tr (fr_md (by decide) (by decide))) g3 (fun j hj => ?_) (fun v hv9 => ?_) (xr_up hx (by omega))
              · by_cases e : j = k
                · rw [if_pos e, e, erl]; show (if pos2 l.length k = pos2 l.length k then _ else _) = _; rw [if_pos rfl]; unfold co; rw [if_neg (by omega)]; omega
                · rw [if_neg e]; show (if pos2 l.length j = pos2 l.length k then _ else X (pos2 l.length j)) = _; rw [if_neg (fun h => e (pos2_inj hl h))]; exact hX j hj
              · show (if v = (c - 117).toNat then _ else NA v) = _
                by_cases e : v = (c - 117).toNat
                · rw [if_pos e, e]
                · rw [if_neg e, hNA v hv9]
                  by_cases e2 : qk.1 (c - 117).toNat = 0
                  · rw [rs_new hv e2]; show _ = (if v = (c - 117).toNat then _ else qk.1 v) - 1; rw [if_neg e]
                  · rw [rs_old (Or.inr e2)]
            refine aw_loc at_110_124 rfl rfl ?_
            refine aw_loc at_110_125 rfl rfl ?_
            refine ax_if_eq at_110_127 ⟨by omega, by omega⟩ (fun y => ?_) (fun y => ?_)
            · skip
              refine aw_pure (st' := ax_i (0) :: _) at_110_134 rfl rfl ?_
              refine ax_add at_110_135 rfl ?_
              exact kend _ (by have e2 := (hfr.resolve_left (fun g => by have := g.1; omega)).2; rw [rs_old (Or.inr e2)]; omega)
            · skip
              refine aw_pure (st' := ax_i (1) :: _) at_110_130 rfl rfl ?_
              refine aw_goto at_110_131 ?_
              refine ax_add at_110_135 rfl ?_
              exact kend _ (by have e2 := (hfr.resolve_right (fun g => by have := g.1; omega)).2; rw [rs_new hv e2])
          refine aw_loc at_110_99 rfl rfl ?_
          refine aw_loc at_110_101 rfl rfl ?_
          refine aw_get at_110_102 rfl fl_12_61 ho rfl ?_
          refine aw_loc at_110_105 rfl rfl ?_
          refine aw_loc at_110_107 rfl rfl ?_
          refine ax_if_eq at_110_109 ⟨by omega, by omega⟩ (fun y => ?_) (fun y => ?_)
          · skip
            refine aw_loc at_110_116 rfl rfl ?_
            refine aw_get at_110_117 rfl fl_12_61 ho rfl ?_
            refine aw_loc at_110_120 rfl rfl ?_
            refine ax_ild at_110_122 rfl r17 (k := (c - 117).toNat) rfl (by omega) (by decide) ?_
            rw [hnv]
            exact kw _ (by have e2 := (hfr.resolve_left (fun g => by have := g.1; omega)).2; rw [rs_old (Or.inr e2)])
          · skip
            refine aw_loc at_110_112 rfl rfl ?_
            refine aw_goto at_110_113 ?_
            exact kw _ (by have e2 := (hfr.resolve_right (fun g => by have := g.1; omega)).2; rw [rs_new hv e2]; show qk.2 = (if (c - 117).toNat = (c - 117).toNat then qk.2 + 1 else _) - 1; rw [if_pos rfl]; omega)
        refine ax_if_ge at_110_91 ⟨by omega, by omega⟩ (fun y => ?_) (fun y => ?_)
        · skip
          refine aw_pure (st' := ax_i (0) :: _) at_110_98 rfl rfl ?_
          exact kst 0 (Or.inr ⟨rfl, by omega⟩)
        · skip
          refine aw_pure (st' := ax_i (1) :: _) at_110_94 rfl rfl ?_
          refine aw_goto at_110_95 ?_
          exact kst 1 (Or.inl ⟨rfl, by omega⟩)
    refine aw_loc at_110_42 rfl rfl ?_
    refine aw_loc at_110_43 rfl rfl ?_
    refine aw_get at_110_44 rfl fl_12_40 ho rfl ?_
    refine aw_pure (st' := ax_i (0) :: _) at_110_47 rfl rfl ?_
    refine ax_ild at_110_48 rfl r10 (k := 0) rfl (by decide) (by decide) ?_
    rw [z0]
    refine ax_icmp_ge at_110_49 ⟨by omega, by omega⟩ ⟨by omega, by omega⟩ (fun y => ?_) (fun y => ?_)
    · skip
      refine aw_pure (st' := ax_i (64) :: _) at_110_56 rfl rfl ?_
      refine aw_loc at_110_58 rfl rfl ?_
      refine ax_add at_110_59 rfl ?_
      refine aw_loc at_110_60 rfl rfl ?_
      refine aw_get at_110_61 rfl fl_12_40 ho rfl ?_
      refine aw_pure (st' := ax_i (0) :: _) at_110_64 rfl rfl ?_
      refine ax_ild at_110_65 rfl r10 (k := 0) rfl (by decide) (by decide) ?_
      rw [z0]
      refine ax_sub at_110_66 rfl ?_
      exact kat _ (by unfold pos2; rw [if_neg (by omega)]; omega)
    · skip
      refine aw_loc at_110_52 rfl rfl ?_
      refine aw_goto at_110_53 ?_
      exact kat _ (by unfold pos2; rw [if_pos (by omega)])
set_option maxHeartbeats 4000000 in
theorem r_m_ren0 {Q : ai_O → Prop} : ∀ (m j : Nat) (S1 : ai_S), j + m = 20 → fr 432 452 S S1 → mst S1 T D n rc wt kp sx sc (fup F 17 (fi (F 17) (-1) j)) B → (∀ S2, fr 432 452 S S2 → mst S2 T D n rc wt kp sx sc (fup F 17 (fi (F 17) (-1) 20)) B → ai_aw L xs d ai_m110 Q (23, [some (.ref 432), some (ax_i 0), some (ax_i (20 : Nat)), none, none, none], [], S2)) → ai_aw L xs d ai_m110 Q (4, [some (.ref 432), some (ax_i 0), some (ax_i (j : Nat)), none, none, none], [], S1) := by
  intro m
  induction m with
  | zero =>
    intro j S1 hj f1 h1 hc
    have ho := h1.1
    have r17 : ai_arr S1 450 0 = some (20, ax_f ((fup F 17 (fi (F 17) (-1) j)) 17)) := h1.2.1 17 (by decide)
    rw [show (fup F 17 (fi (F 17) (-1) j)) 17 = fi (F 17) (-1) j from fup_get _ _ _] at r17
    obtain rfl : j = 20 := by omega
    refine aw_loc at_110_4 rfl rfl ?_
    refine aw_pure (st' := ax_i (20) :: _) at_110_5 rfl rfl ?_
    refine ax_icmp_ge at_110_7 ⟨by omega, by omega⟩ ⟨by omega, by omega⟩ (fun _ => hc S1 f1 h1) (fun z => absurd z (by omega))
  | succ m ih =>
    intro j S1 hj f1 h1 hc
    have ho := h1.1
    have r17 : ai_arr S1 450 0 = some (20, ax_f ((fup F 17 (fi (F 17) (-1) j)) 17)) := h1.2.1 17 (by decide)
    rw [show (fup F 17 (fi (F 17) (-1) j)) 17 = fi (F 17) (-1) j from fup_get _ _ _] at r17
    refine aw_loc at_110_4 rfl rfl ?_
    refine aw_pure (st' := ax_i (20) :: _) at_110_5 rfl rfl ?_
    refine ax_icmp_ge at_110_7 ⟨by omega, by omega⟩ ⟨by omega, by omega⟩ (fun z => absurd z (by omega)) (fun _ => ?_)
    refine aw_loc at_110_10 rfl rfl ?_
    refine aw_get at_110_11 rfl fl_12_61 ho rfl ?_
    refine aw_loc at_110_14 rfl rfl ?_
    refine aw_pure (st' := ax_i (-1) :: _) at_110_15 rfl rfl ?_
    refine ax_ist (k := j) at_110_16 rfl r17 rfl (by omega) (by decide) ?_
    rw [fi_succ]
    have h2 : mst (ai_wr S1 450 (.inl (0, ai_I 20 (ax_f (fi (F 17) (-1) (j + 1)))))) T D n rc wt kp sx sc (fup F 17 (fi (F 17) (-1) (j + 1))) B := by
      have := mst_wr (i := 17) (R := fi (F 17) (-1) (j + 1)) h1 (by decide)
      rw [fup_two] at this
      exact this
    refine ax_inc at_110_17 rfl rfl rfl ?_
    refine aw_goto at_110_20 ?_
    have := ih (j + 1) _ (by omega) (f1.tr (fr_md (by decide) (by decide))) h2 hc
    rw [Int.natCast_add] at this
    exact this
set_option maxHeartbeats 8000000 in
theorem r_m_ren {l r : List Int} (h : mst S T D n rc wt kp sx sc F B) (h0 : mwd (F 9) (F 10) 0 l) (h1 : mwd (F 9) (F 10) 1 r) (hl : l.length ≤ 24) (hr : r.length ≤ 24) (kl : al (kn (F 0) 129) l) (kr : al (kn (F 0) 129) r) (hx : xr (F 9)) : ai_rn L xs (d + 1) 110 [.ref 432] S (fun v S' => fr 432 452 S S' ∧ v = some (ax_i (rnc l r)) ∧ ∃ X NA, mst S' T D n rc wt kp sx sc (fup (fup F 9 X) 17 NA) B ∧ mwd X (F 10) 0 (rnp l r).1 ∧ mwd X (F 10) 1 (rnp l r).2 ∧ xr X) := by
  refine ai_rn_of (M := ai_m110) rfl (by decide) (Nat.le_of_ble_eq_true rfl) ?_
  refine aw_pure (st' := ax_i (0) :: _) at_110_0 rfl rfl ?_
  refine aw_loc at_110_1 rfl rfl ?_
  refine aw_pure (st' := ax_i (0) :: _) at_110_2 rfl rfl ?_
  refine aw_loc at_110_3 rfl rfl ?_
  refine r_m_ren0 (F := F) 20 0 S (by omega) fr.rf (by rw [show fi (F 17) (-1) 0 = F 17 by funext i; exact if_neg (by omega), fup_self]; exact h) (fun S2 f2 h2 => ?_)
  refine aw_pure (st' := ax_i (0) :: _) at_110_23 rfl rfl ?_
  refine aw_loc at_110_24 rfl rfl ?_
  refine r_m_ren1 h0 h1 hl hr kl kr (l ++ r).length 0 (F 9) (fi (F 17) (-1) 20) S2 _ _ _ (by omega) f2 (by rw [show fup F 9 (F 9) = F from fup_self F 9]; exact h2) (fun j hj => ?_) (fun v hv => by rw [show fi (F 17) (-1) 20 v = -1 from if_pos hv]; rfl) hx
  have hul : (l ++ r).length = l.length + r.length := List.length_append
  show F 9 (pos2 l.length j) = co ((l ++ r).getD j 0)
  unfold pos2
  by_cases e : j < l.length
  · rw [if_pos e, getD_app1 e]; have := h0.2 j e (by omega); rw [show 64 * 0 + j = j by omega] at this; exact this
  · rw [if_neg e, getD_app2 (by omega)]; exact h1.2 (j - l.length) (by omega) (by omega)
def shf (F : Nat → Int) (k y : Nat) : Nat → Int := fun x => if 48 * k ≤ x ∧ x < y then F (x + 48) else F x
def gsh (F : Nat → Int) (k y : Nat) : Nat → Int := fun x => if k ≤ x ∧ x < y then F (x + 1) else F x
theorem gsh_up (F : Nat → Int) {k j : Nat} (h : k ≤ j) : ax_up (gsh F k j) j (F (j + 1)) = gsh F k (j + 1) := by
  funext x
  unfold ax_up gsh
  by_cases e : x = j
  · rw [if_pos e, if_pos (by omega), e]
  · rw [if_neg e]
    by_cases e2 : k ≤ x ∧ x < j
    · rw [if_pos e2, if_pos (by omega)]
    · rw [if_neg e2, if_neg (by omega)]
theorem qsl_shift {F G H : Nat → Int} {k c j : Nat} {q : List Int × List Int} (h : k ≤ j ∧ j < c ∧ qsl F G H (j + 1) q ∨ (j < k ∨ c ≤ j) ∧ qsl F G H j q) : qsl (shf F k (48 * c)) (gsh G k c) (gsh H k c) j q := by
  rcases h with ⟨h1, h2, h3⟩ | ⟨h1, h3⟩
  · have q24 := h3.2.1
    refine ⟨⟨?_, ?_⟩, q24, fun i hi => ?_, fun i hi => ?_⟩
    · unfold gsh; rw [if_pos ⟨h1, h2⟩]; exact h3.1.1
    · unfold gsh; rw [if_pos ⟨h1, h2⟩]; exact h3.1.2
    · unfold shf; rw [if_pos (by omega), show 48 * j + i + 48 = 48 * (j + 1) + i by omega]; exact h3.2.2.1 i hi
    · unfold shf; rw [if_pos (by omega), show 48 * j + 24 + i + 48 = 48 * (j + 1) + 24 + i by omega]; exact h3.2.2.2 i hi
  · have q24 := h3.2.1
    refine ⟨⟨?_, ?_⟩, q24, fun i hi => ?_, fun i hi => ?_⟩
    · unfold gsh; rw [if_neg (by omega)]; exact h3.1.1
    · unfold gsh; rw [if_neg (by omega)]; exact h3.1.2
    · unfold shf; rw [if_neg (by omega)]; exact h3.2.2.1 i hi
    · unfold shf; rw [if_neg (by omega)]; exact h3.2.2.2 i hi
set_option maxHeartbeats 8000000 in
theorem r_m_dropR1 {k c j : Nat} {Q : ai_O → Prop} (hkc : k ≤ c) (hcm : c + 1 ≤ 15) (hkj : k ≤ j) (hjc : j < c) : ∀ (m i : Nat) (S1 : ai_S), i + m = 48 → fr 432 452 S S1 → mst S1 T D n (c : Nat) wt kp sx sc (fup (fup (fup F 3 (shf (F 3) k (48 * j + i))) 4 (gsh (F 4) k (j + 1))) 5 (gsh (F 5) k (j + 1))) B → (∀ S2, fr 432 452 S S2 → mst S2 T D n (c : Nat) wt kp sx sc (fup (fup (fup F 3 (shf (F 3) k (48 * (j + 1)))) 4 (gsh (F 4) k (j + 1))) 5 (gsh (F 5) k (j + 1))) B → ai_aw L xs d ai_m135 Q (87, [some (.ref 432), some (ax_i (k : Nat)), some (ax_i (j : Nat)), some (ax_i ((48 : Nat) : Int))], [], S2)) → ai_aw L xs d ai_m135 Q (50, [some (.ref 432), some (ax_i (k : Nat)), some (ax_i (j : Nat)), some (ax_i (i : Nat))], [], S1) := by
  intro m
  induction m with
  | zero =>
    intro i S1 hi f1 h1 hc
    have ho := h1.1
    have r3 : ai_arr S1 436 0 = some (720, ax_f ((fup (fup (fup F 3 (shf (F 3) k (48 * j + i))) 4 (gsh (F 4) k (j + 1))) 5 (gsh (F 5) k (j + 1))) 3)) := h1.2.1 3 (by decide)
    rw [show (fup (fup (fup F 3 (shf (F 3) k (48 * j + i))) 4 (gsh (F 4) k (j + 1))) 5 (gsh (F 5) k (j + 1))) 3 = (shf (F 3) k (48 * j + i)) from (fup_ne (by decide)).trans ((fup_ne (by decide)).trans (fup_get _ _ _))] at r3
    obtain rfl : i = 48 := by omega
    refine aw_loc at_135_50 rfl rfl ?_
    refine aw_pure (st' := ax_i (48) :: _) at_135_51 rfl rfl ?_
    refine ax_icmp_ge at_135_53 ⟨by omega, by omega⟩ ⟨by omega, by omega⟩ (fun _ => hc S1 f1 (by rw [show 48 * (j + 1) = 48 * j + 48 by omega]; exact h1)) (fun z => absurd z (by omega))
  | succ m ih =>
    intro i S1 hi f1 h1 hc
    have ho := h1.1
    have r3 : ai_arr S1 436 0 = some (720, ax_f ((fup (fup (fup F 3 (shf (F 3) k (48 * j + i))) 4 (gsh (F 4) k (j + 1))) 5 (gsh (F 5) k (j + 1))) 3)) := h1.2.1 3 (by decide)
    rw [show (fup (fup (fup F 3 (shf (F 3) k (48 * j + i))) 4 (gsh (F 4) k (j + 1))) 5 (gsh (F 5) k (j + 1))) 3 = (shf (F 3) k (48 * j + i)) from (fup_ne (by decide)).trans ((fup_ne (by decide)).trans (fup_get _ _ _))] at r3
    refine aw_loc at_135_50 rfl rfl ?_
    refine aw_pure (st' := ax_i (48) :: _) at_135_51 rfl rfl ?_
    refine ax_icmp_ge at_135_53 ⟨by omega, by omega⟩ ⟨by omega, by omega⟩ (fun z => absurd z (by omega)) (fun _ => ?_)
    refine aw_loc at_135_56 rfl rfl ?_
    refine aw_get at_135_57 rfl fl_12_19 ho rfl ?_
    refine aw_pure (st' := ax_i (48) :: _) at_135_60 rfl rfl ?_
    refine aw_loc at_135_62 rfl rfl ?_
    refine ax_mul at_135_63 rfl ?_
    refine aw_loc at_135_64 rfl rfl ?_
    refine ax_add at_135_65 rfl ?_
    refine aw_loc at_135_66 rfl rfl ?_
    refine aw_get at_135_67 rfl fl_12_19 ho rfl ?_
    refine aw_pure (st' := ax_i (48) :: _) at_135_70 rfl rfl ?_
    refine aw_loc at_135_72 rfl rfl ?_
    refine ax_mul at_135_73 rfl ?_
    refine aw_pure (st' := ax_i (48) :: _) at_135_74 rfl rfl ?_
    refine ax_add at_135_76 rfl ?_
    refine aw_loc at_135_77 rfl rfl ?_
    refine ax_add at_135_78 rfl ?_
    refine ax_ild at_135_79 rfl r3 (k := 48 * j + 48 + i) (by omega) (by omega) (by decide) ?_
    rw [show (shf (F 3) k (48 * j + i)) (48 * j + 48 + i) = F 3 (48 * j + i + 48) by unfold shf; rw [if_neg (by omega), show 48 * j + 48 + i = 48 * j + i + 48 by omega]]
    refine ax_ist (k := 48 * j + i) at_135_80 rfl r3 (by omega) (by omega) (by decide) ?_
    rw [show ax_up (shf (F 3) k (48 * j + i)) (48 * j + i) (F 3 (48 * j + i + 48)) = (shf (F 3) k (48 * j + (i + 1))) by funext x; unfold ax_up shf; by_cases e : x = 48 * j + i; rw [if_pos e, if_pos (by omega), e]; rw [if_neg e]; by_cases e2 : 48 * k ≤ x ∧ x < 48 * j + i; rw [if_pos e2, if_pos (by omega)]; rw [if_neg e2, if_neg (by omega)]]
    have h2 : mst (ai_wr S1 436 (.inl (0, ai_I 720 (ax_f (shf (F 3) k (48 * j + (i + 1))))))) T D n (c : Nat) wt kp sx sc (fup (fup (fup F 3 (shf (F 3) k (48 * j + (i + 1)))) 4 (gsh (F 4) k (j + 1))) 5 (gsh (F 5) k (j + 1))) B := by
      have := mst_wr (i := 3) (R := (shf (F 3) k (48 * j + (i + 1)))) h1 (by decide)
      rw [fup_comm _ (show 5 ≠ 3 by decide), fup_comm _ (show 4 ≠ 3 by decide), fup_two] at this
      exact this
    refine ax_inc at_135_81 rfl rfl rfl ?_
    refine aw_goto at_135_84 ?_
    have := ih (i + 1) _ (by omega) (f1.tr (fr_md (by decide) (by decide))) h2 hc
    rw [Int.natCast_add] at this
    exact this
set_option maxHeartbeats 8000000 in
theorem r_m_dropR2 {k c : Nat} (hkc : k ≤ c) (hcm : c + 1 ≤ 15) : ∀ (m j : Nat) (S1 : ai_S) (x3 : Option Value), (j + m = c ∧ k ≤ j) → fr 432 452 S S1 → mst S1 T D n (c : Nat) wt kp sx sc (fup (fup (fup F 3 (shf (F 3) k (48 * j))) 4 (gsh (F 4) k j)) 5 (gsh (F 5) k j)) B → ai_aw L xs d ai_m135 (fun (o : ai_O) => ∃ v S', o = (.inl v, S') ∧ v = none ∧ fr 432 452 S S' ∧ mst S' T D n (c : Nat) wt kp sx sc (fup (fup (fup F 3 (shf (F 3) k (48 * c))) 4 (gsh (F 4) k c)) 5 (gsh (F 5) k c)) B) (12, [some (.ref 432), some (ax_i (k : Nat)), some (ax_i (j : Nat)), x3], [], S1) := by
  intro m
  induction m with
  | zero =>
    intro j S1 x3 hj f1 h1
    have ho := h1.1
    obtain ⟨hj, hkj⟩ := hj
    obtain rfl : j = c := by omega
    refine aw_loc at_135_12 rfl rfl ?_
    refine aw_loc at_135_13 rfl rfl ?_
    refine aw_get at_135_14 rfl fl_12_113 ho rfl ?_
    refine ax_icmp_ge at_135_17 ⟨by omega, by omega⟩ ⟨by omega, by omega⟩ (fun _ => ?_) (fun z => absurd z (by omega))
    exact aw_vret at_135_93 rfl ⟨_, _, rfl, rfl, f1, h1⟩
  | succ m ih =>
    intro j S1 x3 hj f1 h1
    obtain ⟨hj, hkj⟩ := hj
    have ho := h1.1
    have r4 : ai_arr S1 437 0 = some (15, ax_f ((fup (fup (fup F 3 (shf (F 3) k (48 * j))) 4 (gsh (F 4) k j)) 5 (gsh (F 5) k j)) 4)) := h1.2.1 4 (by decide)
    rw [show (fup (fup (fup F 3 (shf (F 3) k (48 * j))) 4 (gsh (F 4) k j)) 5 (gsh (F 5) k j)) 4 = (gsh (F 4) k j) from (fup_ne (by decide)).trans (fup_get _ _ _)] at r4
    have r5 : ai_arr S1 438 0 = some (15, ax_f ((fup (fup (fup F 3 (shf (F 3) k (48 * j))) 4 (gsh (F 4) k j)) 5 (gsh (F 5) k j)) 5)) := h1.2.1 5 (by decide)
    rw [show (fup (fup (fup F 3 (shf (F 3) k (48 * j))) 4 (gsh (F 4) k j)) 5 (gsh (F 5) k j)) 5 = (gsh (F 5) k j) from fup_get _ _ _] at r5
    refine aw_loc at_135_12 rfl rfl ?_
    refine aw_loc at_135_13 rfl rfl ?_
    refine aw_get at_135_14 rfl fl_12_113 ho rfl ?_
    refine ax_icmp_ge at_135_17 ⟨by omega, by omega⟩ ⟨by omega, by omega⟩ (fun z => absurd z (by omega)) (fun _ => ?_)
    refine aw_loc at_135_20 rfl rfl ?_
    refine aw_get at_135_21 rfl fl_12_22 ho rfl ?_
    refine aw_loc at_135_24 rfl rfl ?_
    refine aw_loc at_135_25 rfl rfl ?_
    refine aw_get at_135_26 rfl fl_12_22 ho rfl ?_
    refine aw_loc at_135_29 rfl rfl ?_
    refine aw_pure (st' := ax_i (1) :: _) at_135_30 rfl rfl ?_
    refine ax_add at_135_31 rfl ?_
    refine ax_ild at_135_32 rfl r4 (k := j + 1) (by omega) (by omega) (by decide) ?_
    rw [show (gsh (F 4) k j) (j + 1) = F 4 (j + 1) by unfold gsh; rw [if_neg (by omega)]]
    refine ax_ist (k := j) at_135_33 rfl r4 rfl (by omega) (by decide) ?_
    rw [gsh_up (F 4) hkj]
    have h2 : mst (ai_wr S1 437 (.inl (0, ai_I 15 (ax_f (gsh (F 4) k (j + 1)))))) T D n (c : Nat) wt kp sx sc (fup (fup (fup F 3 (shf (F 3) k (48 * j))) 4 (gsh (F 4) k (j + 1))) 5 (gsh (F 5) k j)) B := by
      have := mst_wr (i := 4) (R := (gsh (F 4) k (j + 1))) h1 (by decide)
      rw [fup_comm _ (show 5 ≠ 4 by decide), fup_two] at this
      exact this
    have f2 := f1.tr (fr_md (S := S1) (a := 437) (x := .inl (0, ai_I 15 (ax_f (gsh (F 4) k (j + 1))))) (by decide) (by decide))
    generalize ai_wr S1 437 (.inl (0, ai_I 15 (ax_f (gsh (F 4) k (j + 1))))) = S2 at h2 f2 ⊢
    have ho := h2.1
    have r5 : ai_arr S2 438 0 = some (15, ax_f ((fup (fup (fup F 3 (shf (F 3) k (48 * j))) 4 (gsh (F 4) k (j + 1))) 5 (gsh (F 5) k j)) 5)) := h2.2.1 5 (by decide)
    rw [show (fup (fup (fup F 3 (shf (F 3) k (48 * j))) 4 (gsh (F 4) k (j + 1))) 5 (gsh (F 5) k j)) 5 = (gsh (F 5) k j) from fup_get _ _ _] at r5
    refine aw_loc at_135_34 rfl rfl ?_
    refine aw_get at_135_35 rfl fl_12_25 ho rfl ?_
    refine aw_loc at_135_38 rfl rfl ?_
    refine aw_loc at_135_39 rfl rfl ?_
    refine aw_get at_135_40 rfl fl_12_25 ho rfl ?_
    refine aw_loc at_135_43 rfl rfl ?_
    refine aw_pure (st' := ax_i (1) :: _) at_135_44 rfl rfl ?_
    refine ax_add at_135_45 rfl ?_
    refine ax_ild at_135_46 rfl r5 (k := j + 1) (by omega) (by omega) (by decide) ?_
    rw [show (gsh (F 5) k j) (j + 1) = F 5 (j + 1) by unfold gsh; rw [if_neg (by omega)]]
    refine ax_ist (k := j) at_135_47 rfl r5 rfl (by omega) (by decide) ?_
    rw [gsh_up (F 5) hkj]
    have h3 : mst (ai_wr S2 438 (.inl (0, ai_I 15 (ax_f (gsh (F 5) k (j + 1)))))) T D n (c : Nat) wt kp sx sc (fup (fup (fup F 3 (shf (F 3) k (48 * j))) 4 (gsh (F 4) k (j + 1))) 5 (gsh (F 5) k (j + 1))) B := by
      have := mst_wr (i := 5) (R := (gsh (F 5) k (j + 1))) h2 (by decide)
      rw [fup_two] at this
      exact this
    have f3 := f2.tr (fr_md (S := S2) (a := 438) (x := .inl (0, ai_I 15 (ax_f (gsh (F 5) k (j + 1))))) (by decide) (by decide))
    refine aw_pure (st' := ax_i (0) :: _) at_135_48 rfl rfl ?_
    refine aw_loc at_135_49 rfl rfl ?_
    refine r_m_dropR1 hkc hcm hkj (by omega) 48 0 _ (by omega) f3 h3 (fun S4 f4 h4 => ?_)
    refine ax_inc at_135_87 rfl rfl rfl ?_
    refine aw_goto at_135_90 ?_
    have := fun y3 => ih (j + 1) S4 y3 ⟨by omega, by omega⟩ f4 h4
    rw [Int.natCast_add] at this
    exact this _
set_option maxHeartbeats 8000000 in
theorem r_m_dropR {k c : Nat} (h : mst S T D n rc wt kp sx sc F B) (hcc : rc = ((c + 1 : Nat) : Int)) (hk : k ≤ c) (hc : c + 1 ≤ 15) : ai_rn L xs (d + 1) 135 [.ref 432, ax_i (k : Nat)] S (fun v S' => v = none ∧ fr 432 452 S S' ∧ ∃ F', mst S' T D n (c : Nat) wt kp sx sc F' B ∧ (∀ i, i ≠ 3 → i ≠ 4 → i ≠ 5 → F' i = F i) ∧ ∀ j q, (k ≤ j ∧ j < c ∧ qsl (F 3) (F 4) (F 5) (j + 1) q ∨ (j < k ∨ c ≤ j) ∧ qsl (F 3) (F 4) (F 5) j q) → qsl (F' 3) (F' 4) (F' 5) j q) := by
  have ho := h.1
  subst hcc
  refine ai_rn_of (M := ai_m135) rfl (by decide) (Nat.le_of_ble_eq_true rfl) ?_
  refine aw_loc at_135_0 rfl rfl ?_
  refine aw_pure at_135_1 rfl rfl ?_
  refine aw_get at_135_2 rfl fl_12_113 ho rfl ?_
  refine aw_pure (st' := ax_i (1) :: _) at_135_5 rfl rfl ?_
  refine ax_sub at_135_6 rfl ?_
  refine aw_put at_135_7 rfl fl_12_113 ho (Nat.le_of_ble_eq_true rfl) rfl (by decide +kernel) ?_
  refine (show ai_aw L xs d ai_m135 _ (10, _, _, ai_wr S 432 (.inr (11, mf T D n (((c + 1 : Nat) : Int) - 1) wt kp sx sc))) from ?_)
  rw [show ((c + 1 : Nat) : Int) - 1 = (c : Int) by omega]
  have h1 : mst (ai_wr S 432 (.inr (11, mf T D n (c : Int) wt kp sx sc))) T D n (c : Nat) wt kp sx sc F B := mst_fl h
  refine aw_loc at_135_10 rfl rfl ?_
  refine aw_loc at_135_11 rfl rfl ?_
  refine ai_aw_mono (r_m_dropR2 (c := c) (by omega) (by omega) (c - k) k _ _ ⟨by omega, Nat.le_refl _⟩ (fr_md (by decide) (by decide)) (by rw [show shf (F 3) k (48 * k) = F 3 by funext x; unfold shf; rw [if_neg (by omega)], show gsh (F 4) k k = F 4 by funext x; unfold gsh; rw [if_neg (by omega)], show gsh (F 5) k k = F 5 by funext x; unfold gsh; rw [if_neg (by omega)], fup_self, fup_self, fup_self]; exact h1)) ?_
  rintro o ⟨v, S9, rfl, rfl, f9, h9⟩
  refine ⟨_, _, rfl, rfl, f9, _, h9, fun i a b e => (fup_ne e).trans ((fup_ne b).trans (fup_ne a)), fun j q hj => ?_⟩
  rw [show (fup (fup (fup F 3 (shf (F 3) k (48 * c))) 4 (gsh (F 4) k c)) 5 (gsh (F 5) k c)) 3 = (shf (F 3) k (48 * c)) from (fup_ne (by decide)).trans ((fup_ne (by decide)).trans (fup_get _ _ _)), show (fup (fup (fup F 3 (shf (F 3) k (48 * c))) 4 (gsh (F 4) k c)) 5 (gsh (F 5) k c)) 4 = (gsh (F 4) k c) from (fup_ne (by decide)).trans (fup_get _ _ _), show (fup (fup (fup F 3 (shf (F 3) k (48 * c))) 4 (gsh (F 4) k c)) 5 (gsh (F 5) k c)) 5 = (gsh (F 5) k c) from fup_get _ _ _]
  exact qsl_shift hj
set_option maxHeartbeats 8000000 in
theorem r_m_dropW1 {k c j : Nat} {Q : ai_O → Prop} (hkc : k ≤ c) (hcm : c + 1 ≤ 62) (hkj : k ≤ j) (hjc : j < c) : ∀ (m i : Nat) (S1 : ai_S), i + m = 48 → fr 432 452 S S1 → mst S1 T D n rc (c : Nat) kp sx sc (fup (fup (fup F 6 (shf (F 6) k (48 * j + i))) 7 (gsh (F 7) k (j + 1))) 8 (gsh (F 8) k (j + 1))) B → (∀ S2, fr 432 452 S S2 → mst S2 T D n rc (c : Nat) kp sx sc (fup (fup (fup F 6 (shf (F 6) k (48 * (j + 1)))) 7 (gsh (F 7) k (j + 1))) 8 (gsh (F 8) k (j + 1))) B → ai_aw L xs d ai_m116 Q (87, [some (.ref 432), some (ax_i (k : Nat)), some (ax_i (j : Nat)), some (ax_i ((48 : Nat) : Int))], [], S2)) → ai_aw L xs d ai_m116 Q (50, [some (.ref 432), some (ax_i (k : Nat)), some (ax_i (j : Nat)), some (ax_i (i : Nat))], [], S1) := by
  intro m
  induction m with
  | zero =>
    intro i S1 hi f1 h1 hc
    have ho := h1.1
    have r6 : ai_arr S1 439 0 = some (2976, ax_f ((fup (fup (fup F 6 (shf (F 6) k (48 * j + i))) 7 (gsh (F 7) k (j + 1))) 8 (gsh (F 8) k (j + 1))) 6)) := h1.2.1 6 (by decide)
    rw [show (fup (fup (fup F 6 (shf (F 6) k (48 * j + i))) 7 (gsh (F 7) k (j + 1))) 8 (gsh (F 8) k (j + 1))) 6 = (shf (F 6) k (48 * j + i)) from (fup_ne (by decide)).trans ((fup_ne (by decide)).trans (fup_get _ _ _))] at r6
    obtain rfl : i = 48 := by omega
    refine aw_loc at_116_50 rfl rfl ?_
    refine aw_pure (st' := ax_i (48) :: _) at_116_51 rfl rfl ?_
    refine ax_icmp_ge at_116_53 ⟨by omega, by omega⟩ ⟨by omega, by omega⟩ (fun _ => hc S1 f1 (by rw [show 48 * (j + 1) = 48 * j + 48 by omega]; exact h1)) (fun z => absurd z (by omega))
  | succ m ih =>
    intro i S1 hi f1 h1 hc
    have ho := h1.1
    have r6 : ai_arr S1 439 0 = some (2976, ax_f ((fup (fup (fup F 6 (shf (F 6) k (48 * j + i))) 7 (gsh (F 7) k (j + 1))) 8 (gsh (F 8) k (j + 1))) 6)) := h1.2.1 6 (by decide)
    rw [show (fup (fup (fup F 6 (shf (F 6) k (48 * j + i))) 7 (gsh (F 7) k (j + 1))) 8 (gsh (F 8) k (j + 1))) 6 = (shf (F 6) k (48 * j + i)) from (fup_ne (by decide)).trans ((fup_ne (by decide)).trans (fup_get _ _ _))] at r6
    refine aw_loc at_116_50 rfl rfl ?_
    refine aw_pure (st' := ax_i (48) :: _) at_116_51 rfl rfl ?_
    refine ax_icmp_ge at_116_53 ⟨by omega, by omega⟩ ⟨by omega, by omega⟩ (fun z => absurd z (by omega)) (fun _ => ?_)
    refine aw_loc at_116_56 rfl rfl ?_
    refine aw_get at_116_57 rfl fl_12_28 ho rfl ?_
    refine aw_pure (st' := ax_i (48) :: _) at_116_60 rfl rfl ?_
    refine aw_loc at_116_62 rfl rfl ?_
    refine ax_mul at_116_63 rfl ?_
    refine aw_loc at_116_64 rfl rfl ?_
    refine ax_add at_116_65 rfl ?_
    refine aw_loc at_116_66 rfl rfl ?_
    refine aw_get at_116_67 rfl fl_12_28 ho rfl ?_
    refine aw_pure (st' := ax_i (48) :: _) at_116_70 rfl rfl ?_
    refine aw_loc at_116_72 rfl rfl ?_
    refine ax_mul at_116_73 rfl ?_
    refine aw_pure (st' := ax_i (48) :: _) at_116_74 rfl rfl ?_
    refine ax_add at_116_76 rfl ?_
    refine aw_loc at_116_77 rfl rfl ?_
    refine ax_add at_116_78 rfl ?_
    refine ax_ild at_116_79 rfl r6 (k := 48 * j + 48 + i) (by omega) (by omega) (by decide) ?_
    rw [show (shf (F 6) k (48 * j + i)) (48 * j + 48 + i) = F 6 (48 * j + i + 48) by unfold shf; rw [if_neg (by omega), show 48 * j + 48 + i = 48 * j + i + 48 by omega]]
    refine ax_ist (k := 48 * j + i) at_116_80 rfl r6 (by omega) (by omega) (by decide) ?_
    rw [show ax_up (shf (F 6) k (48 * j + i)) (48 * j + i) (F 6 (48 * j + i + 48)) = (shf (F 6) k (48 * j + (i + 1))) by funext x; unfold ax_up shf; by_cases e : x = 48 * j + i; rw [if_pos e, if_pos (by omega), e]; rw [if_neg e]; by_cases e2 : 48 * k ≤ x ∧ x < 48 * j + i; rw [if_pos e2, if_pos (by omega)]; rw [if_neg e2, if_neg (by omega)]]
    have h2 : mst (ai_wr S1 439 (.inl (0, ai_I 2976 (ax_f (shf (F 6) k (48 * j + (i + 1))))))) T D n rc (c : Nat) kp sx sc (fup (fup (fup F 6 (shf (F 6) k (48 * j + (i + 1)))) 7 (gsh (F 7) k (j + 1))) 8 (gsh (F 8) k (j + 1))) B := by
      have := mst_wr (i := 6) (R := (shf (F 6) k (48 * j + (i + 1)))) h1 (by decide)
      rw [fup_comm _ (show 8 ≠ 6 by decide), fup_comm _ (show 7 ≠ 6 by decide), fup_two] at this
      exact this
    refine ax_inc at_116_81 rfl rfl rfl ?_
    refine aw_goto at_116_84 ?_
    have := ih (i + 1) _ (by omega) (f1.tr (fr_md (by decide) (by decide))) h2 hc
    rw [Int.natCast_add] at this
    exact this
set_option maxHeartbeats 8000000 in
theorem r_m_dropW2 {k c : Nat} (hkc : k ≤ c) (hcm : c + 1 ≤ 62) : ∀ (m j : Nat) (S1 : ai_S) (x3 : Option Value), (j + m = c ∧ k ≤ j) → fr 432 452 S S1 → mst S1 T D n rc (c : Nat) kp sx sc (fup (fup (fup F 6 (shf (F 6) k (48 * j))) 7 (gsh (F 7) k j)) 8 (gsh (F 8) k j)) B → ai_aw L xs d ai_m116 (fun (o : ai_O) => ∃ v S', o = (.inl v, S') ∧ v = none ∧ fr 432 452 S S' ∧ mst S' T D n rc (c : Nat) kp sx sc (fup (fup (fup F 6 (shf (F 6) k (48 * c))) 7 (gsh (F 7) k c)) 8 (gsh (F 8) k c)) B) (12, [some (.ref 432), some (ax_i (k : Nat)), some (ax_i (j : Nat)), x3], [], S1) := by
  intro m
  induction m with
  | zero =>
    intro j S1 x3 hj f1 h1
    have ho := h1.1
    obtain ⟨hj, hkj⟩ := hj
    obtain rfl : j = c := by omega
    refine aw_loc at_116_12 rfl rfl ?_
    refine aw_loc at_116_13 rfl rfl ?_
    refine aw_get at_116_14 rfl fl_12_106 ho rfl ?_
    refine ax_icmp_ge at_116_17 ⟨by omega, by omega⟩ ⟨by omega, by omega⟩ (fun _ => ?_) (fun z => absurd z (by omega))
    exact aw_vret at_116_93 rfl ⟨_, _, rfl, rfl, f1, h1⟩
  | succ m ih =>
    intro j S1 x3 hj f1 h1
    obtain ⟨hj, hkj⟩ := hj
    have ho := h1.1
    have r7 : ai_arr S1 440 0 = some (62, ax_f ((fup (fup (fup F 6 (shf (F 6) k (48 * j))) 7 (gsh (F 7) k j)) 8 (gsh (F 8) k j)) 7)) := h1.2.1 7 (by decide)
    rw [show (fup (fup (fup F 6 (shf (F 6) k (48 * j))) 7 (gsh (F 7) k j)) 8 (gsh (F 8) k j)) 7 = (gsh (F 7) k j) from (fup_ne (by decide)).trans (fup_get _ _ _)] at r7
    have r8 : ai_arr S1 441 0 = some (62, ax_f ((fup (fup (fup F 6 (shf (F 6) k (48 * j))) 7 (gsh (F 7) k j)) 8 (gsh (F 8) k j)) 8)) := h1.2.1 8 (by decide)
    rw [show (fup (fup (fup F 6 (shf (F 6) k (48 * j))) 7 (gsh (F 7) k j)) 8 (gsh (F 8) k j)) 8 = (gsh (F 8) k j) from fup_get _ _ _] at r8
    refine aw_loc at_116_12 rfl rfl ?_
    refine aw_loc at_116_13 rfl rfl ?_
    refine aw_get at_116_14 rfl fl_12_106 ho rfl ?_
    refine ax_icmp_ge at_116_17 ⟨by omega, by omega⟩ ⟨by omega, by omega⟩ (fun z => absurd z (by omega)) (fun _ => ?_)
    refine aw_loc at_116_20 rfl rfl ?_
    refine aw_get at_116_21 rfl fl_12_31 ho rfl ?_
    refine aw_loc at_116_24 rfl rfl ?_
    refine aw_loc at_116_25 rfl rfl ?_
    refine aw_get at_116_26 rfl fl_12_31 ho rfl ?_
    refine aw_loc at_116_29 rfl rfl ?_
    refine aw_pure (st' := ax_i (1) :: _) at_116_30 rfl rfl ?_
    refine ax_add at_116_31 rfl ?_
    refine ax_ild at_116_32 rfl r7 (k := j + 1) (by omega) (by omega) (by decide) ?_
    rw [show (gsh (F 7) k j) (j + 1) = F 7 (j + 1) by unfold gsh; rw [if_neg (by omega)]]
    refine ax_ist (k := j) at_116_33 rfl r7 rfl (by omega) (by decide) ?_
    rw [gsh_up (F 7) hkj]
    have h2 : mst (ai_wr S1 440 (.inl (0, ai_I 62 (ax_f (gsh (F 7) k (j + 1)))))) T D n rc (c : Nat) kp sx sc (fup (fup (fup F 6 (shf (F 6) k (48 * j))) 7 (gsh (F 7) k (j + 1))) 8 (gsh (F 8) k j)) B := by
      have := mst_wr (i := 7) (R := (gsh (F 7) k (j + 1))) h1 (by decide)
      rw [fup_comm _ (show 8 ≠ 7 by decide), fup_two] at this
      exact this
    have f2 := f1.tr (fr_md (S := S1) (a := 440) (x := .inl (0, ai_I 62 (ax_f (gsh (F 7) k (j + 1))))) (by decide) (by decide))
    generalize ai_wr S1 440 (.inl (0, ai_I 62 (ax_f (gsh (F 7) k (j + 1))))) = S2 at h2 f2 ⊢
    have ho := h2.1
    have r8 : ai_arr S2 441 0 = some (62, ax_f ((fup (fup (fup F 6 (shf (F 6) k (48 * j))) 7 (gsh (F 7) k (j + 1))) 8 (gsh (F 8) k j)) 8)) := h2.2.1 8 (by decide)
    rw [show (fup (fup (fup F 6 (shf (F 6) k (48 * j))) 7 (gsh (F 7) k (j + 1))) 8 (gsh (F 8) k j)) 8 = (gsh (F 8) k j) from fup_get _ _ _] at r8
    refine aw_loc at_116_34 rfl rfl ?_
    refine aw_get at_116_35 rfl fl_12_34 ho rfl ?_
    refine aw_loc at_116_38 rfl rfl ?_
    refine aw_loc at_116_39 rfl rfl ?_
    refine aw_get at_116_40 rfl fl_12_34 ho rfl ?_
    refine aw_loc at_116_43 rfl rfl ?_
    refine aw_pure (st' := ax_i (1) :: _) at_116_44 rfl rfl ?_
    refine ax_add at_116_45 rfl ?_
    refine ax_ild at_116_46 rfl r8 (k := j + 1) (by omega) (by omega) (by decide) ?_
    rw [show (gsh (F 8) k j) (j + 1) = F 8 (j + 1) by unfold gsh; rw [if_neg (by omega)]]
    refine ax_ist (k := j) at_116_47 rfl r8 rfl (by omega) (by decide) ?_
    rw [gsh_up (F 8) hkj]
    have h3 : mst (ai_wr S2 441 (.inl (0, ai_I 62 (ax_f (gsh (F 8) k (j + 1)))))) T D n rc (c : Nat) kp sx sc (fup (fup (fup F 6 (shf (F 6) k (48 * j))) 7 (gsh (F 7) k (j + 1))) 8 (gsh (F 8) k (j + 1))) B := by
      have := mst_wr (i := 8) (R := (gsh (F 8) k (j + 1))) h2 (by decide)
      rw [fup_two] at this
      exact this
    have f3 := f2.tr (fr_md (S := S2) (a := 441) (x := .inl (0, ai_I 62 (ax_f (gsh (F 8) k (j + 1))))) (by decide) (by decide))
    refine aw_pure (st' := ax_i (0) :: _) at_116_48 rfl rfl ?_
    refine aw_loc at_116_49 rfl rfl ?_
    refine r_m_dropW1 hkc hcm hkj (by omega) 48 0 _ (by omega) f3 h3 (fun S4 f4 h4 => ?_)
    refine ax_inc at_116_87 rfl rfl rfl ?_
    refine aw_goto at_116_90 ?_
    have := fun y3 => ih (j + 1) S4 y3 ⟨by omega, by omega⟩ f4 h4
    rw [Int.natCast_add] at this
    exact this _
set_option maxHeartbeats 8000000 in
theorem r_m_dropW {k c : Nat} (h : mst S T D n rc wt kp sx sc F B) (hcc : wt = ((c + 1 : Nat) : Int)) (hk : k ≤ c) (hc : c + 1 ≤ 62) : ai_rn L xs (d + 1) 116 [.ref 432, ax_i (k : Nat)] S (fun v S' => v = none ∧ fr 432 452 S S' ∧ ∃ F', mst S' T D n rc (c : Nat) kp sx sc F' B ∧ (∀ i, i ≠ 6 → i ≠ 7 → i ≠ 8 → F' i = F i) ∧ ∀ j q, (k ≤ j ∧ j < c ∧ qsl (F 6) (F 7) (F 8) (j + 1) q ∨ (j < k ∨ c ≤ j) ∧ qsl (F 6) (F 7) (F 8) j q) → qsl (F' 6) (F' 7) (F' 8) j q) := by
  have ho := h.1
  subst hcc
  refine ai_rn_of (M := ai_m116) rfl (by decide) (Nat.le_of_ble_eq_true rfl) ?_
  refine aw_loc at_116_0 rfl rfl ?_
  refine aw_pure at_116_1 rfl rfl ?_
  refine aw_get at_116_2 rfl fl_12_106 ho rfl ?_
  refine aw_pure (st' := ax_i (1) :: _) at_116_5 rfl rfl ?_
  refine ax_sub at_116_6 rfl ?_
  refine aw_put at_116_7 rfl fl_12_106 ho (Nat.le_of_ble_eq_true rfl) rfl (by decide +kernel) ?_
  refine (show ai_aw L xs d ai_m116 _ (10, _, _, ai_wr S 432 (.inr (11, mf T D n rc (((c + 1 : Nat) : Int) - 1) kp sx sc))) from ?_)
  rw [show ((c + 1 : Nat) : Int) - 1 = (c : Int) by omega]
  have h1 : mst (ai_wr S 432 (.inr (11, mf T D n rc (c : Int) kp sx sc))) T D n rc (c : Nat) kp sx sc F B := mst_fl h
  refine aw_loc at_116_10 rfl rfl ?_
  refine aw_loc at_116_11 rfl rfl ?_
  refine ai_aw_mono (r_m_dropW2 (c := c) (by omega) (by omega) (c - k) k _ _ ⟨by omega, Nat.le_refl _⟩ (fr_md (by decide) (by decide)) (by rw [show shf (F 6) k (48 * k) = F 6 by funext x; unfold shf; rw [if_neg (by omega)], show gsh (F 7) k k = F 7 by funext x; unfold gsh; rw [if_neg (by omega)], show gsh (F 8) k k = F 8 by funext x; unfold gsh; rw [if_neg (by omega)], fup_self, fup_self, fup_self]; exact h1)) ?_
  rintro o ⟨v, S9, rfl, rfl, f9, h9⟩
  refine ⟨_, _, rfl, rfl, f9, _, h9, fun i a b e => (fup_ne e).trans ((fup_ne b).trans (fup_ne a)), fun j q hj => ?_⟩
  rw [show (fup (fup (fup F 6 (shf (F 6) k (48 * c))) 7 (gsh (F 7) k c)) 8 (gsh (F 8) k c)) 6 = (shf (F 6) k (48 * c)) from (fup_ne (by decide)).trans ((fup_ne (by decide)).trans (fup_get _ _ _)), show (fup (fup (fup F 6 (shf (F 6) k (48 * c))) 7 (gsh (F 7) k c)) 8 (gsh (F 8) k c)) 7 = (gsh (F 7) k c) from (fup_ne (by decide)).trans (fup_get _ _ _), show (fup (fup (fup F 6 (shf (F 6) k (48 * c))) 7 (gsh (F 7) k c)) 8 (gsh (F 8) k c)) 8 = (gsh (F 8) k c) from fup_get _ _ _]
  exact qsl_shift hj
set_option maxHeartbeats 8000000 in
theorem r_m_light1 (h : mst S T D n rc wt kp sx sc F B) (hv : mpl F Vs) (hwt : wt = (Vs.length : Int)) (h0 : 0 < Vs.length) (h48 : Vs.length ≤ 48) : ∀ (m j : Nat), j + m = Vs.length - 1 → ai_aw L xs d ai_m114 (fun (o : ai_O) => ∃ v S', o = (.inl v, S') ∧ S' = S ∧ v = some (ax_i (bst (wsz Vs) (Vs.length - 1) : Nat))) (4, [some (.ref 432), some (ax_i (bst (wsz Vs) j : Nat)), some (ax_i ((j + 1 : Nat) : Int))], [], S) := by
  have ho := h.1
  have r7 : ai_arr S 440 0 = some (62, ax_f (F 7)) := h.2.1 7 (by decide)
  have r8 : ai_arr S 441 0 = some (62, ax_f (F 8)) := h.2.1 8 (by decide)
  intro m
  induction m with
  | zero =>
    intro j hj
    have hb := bst_le (wsz Vs) j
    obtain rfl : j = Vs.length - 1 := by omega
    refine aw_loc at_114_4 rfl rfl ?_
    refine aw_loc at_114_5 rfl rfl ?_
    refine aw_get at_114_6 rfl fl_12_106 ho rfl ?_
    refine ax_icmp_ge at_114_9 ⟨by omega, by omega⟩ ⟨by omega, by omega⟩ (fun _ => ?_) (fun z => absurd z (by omega))
    show ai_aw L xs d ai_m114 _ (53, _, _, _)
    refine aw_loc at_114_53 rfl rfl ?_
    exact ax_ret at_114_54 rfl ⟨_, _, rfl, rfl, rfl⟩
  | succ m ih =>
    intro j hj
    have hb := bst_le (wsz Vs) j
    have q1 := hv (j + 1) (by omega)
    have q2 := hv (bst (wsz Vs) j) (by omega)
    have a1 := q1.2.1
    have a2 := q2.2.1
    have knx : ∀ b9 : Nat, b9 = bst (wsz Vs) (j + 1) → ai_aw L xs d ai_m114 (fun (o : ai_O) => ∃ v S', o = (.inl v, S') ∧ S' = S ∧ v = some (ax_i (bst (wsz Vs) (Vs.length - 1) : Nat))) (46, [some (.ref 432), some (ax_i (bst (wsz Vs) j : Nat)), some (ax_i ((j + 1 : Nat) : Int))], [ax_i (b9 : Nat)], S) := by
      intro b9 hb9
      rw [hb9]
      refine aw_loc at_114_46 rfl rfl ?_
      refine ax_inc at_114_47 rfl rfl rfl ?_
      refine aw_goto at_114_50 ?_
      have := ih (j + 1) (by omega)
      rw [show ((j + 1 + 1 : Nat) : Int) = ((j + 1 : Nat) : Int) + 1 by omega] at this
      exact this
    refine aw_loc at_114_4 rfl rfl ?_
    refine aw_loc at_114_5 rfl rfl ?_
    refine aw_get at_114_6 rfl fl_12_106 ho rfl ?_
    refine ax_icmp_ge at_114_9 ⟨by omega, by omega⟩ ⟨by omega, by omega⟩ (fun z => absurd z (by omega)) (fun _ => ?_)
    refine aw_loc at_114_12 rfl rfl ?_
    refine aw_get at_114_13 rfl fl_12_31 ho rfl ?_
    refine aw_loc at_114_16 rfl rfl ?_
    refine ax_ild at_114_17 rfl r7 (k := j + 1) rfl (by omega) (by decide) ?_
    refine aw_loc at_114_18 rfl rfl ?_
    refine aw_get at_114_19 rfl fl_12_34 ho rfl ?_
    refine aw_loc at_114_22 rfl rfl ?_
    refine ax_ild at_114_23 rfl r8 (k := j + 1) rfl (by omega) (by decide) ?_
    rw [q1.1.1, q1.1.2]
    refine ax_add at_114_24 rfl ?_
    refine aw_loc at_114_25 rfl rfl ?_
    refine aw_get at_114_26 rfl fl_12_31 ho rfl ?_
    refine aw_loc at_114_29 rfl rfl ?_
    refine ax_ild at_114_30 rfl r7 (k := bst (wsz Vs) j) rfl (by omega) (by decide) ?_
    refine aw_loc at_114_31 rfl rfl ?_
    refine aw_get at_114_32 rfl fl_12_34 ho rfl ?_
    refine aw_loc at_114_35 rfl rfl ?_
    refine ax_ild at_114_36 rfl r8 (k := bst (wsz Vs) j) rfl (by omega) (by decide) ?_
    rw [q2.1.1, q2.1.2]
    refine ax_add at_114_37 rfl ?_
    have hun : bst (wsz Vs) (j + 1) = if wsz Vs (j + 1) < wsz Vs (bst (wsz Vs) j) then j + 1 else bst (wsz Vs) j := rfl
    have u1 : wsz Vs (j + 1) = ((Vs.getD (j + 1) q_no).1.length : Int) + ((Vs.getD (j + 1) q_no).2.length : Int) := rfl
    have u2 : wsz Vs (bst (wsz Vs) j) = ((Vs.getD (bst (wsz Vs) j) q_no).1.length : Int) + ((Vs.getD (bst (wsz Vs) j) q_no).2.length : Int) := rfl
    refine ax_icmp_ge at_114_38 ⟨by omega, by omega⟩ ⟨by omega, by omega⟩ (fun z => ?_) (fun z => ?_)
    · skip
      refine aw_loc at_114_45 rfl rfl ?_
      exact knx _ (by rw [hun, if_neg (by omega)])
    · skip
      refine aw_loc at_114_41 rfl rfl ?_
      refine aw_goto at_114_42 ?_
      exact knx _ (by rw [hun, if_pos (by omega)])
theorem r_m_light (h : mst S T D n rc wt kp sx sc F B) (hv : mpl F Vs) (hwt : wt = (Vs.length : Int)) (h0 : 0 < Vs.length) (h48 : Vs.length ≤ 48) : ai_rn L xs (d + 1) 114 [.ref 432] S (fun v S' => S' = S ∧ v = some (ax_i (bst (wsz Vs) (Vs.length - 1) : Nat))) := by
  refine ai_rn_of (M := ai_m114) rfl (by decide) (Nat.le_of_ble_eq_true rfl) ?_
  refine aw_pure (st' := ax_i (0) :: _) at_114_0 rfl rfl ?_
  refine aw_loc at_114_1 rfl rfl ?_
  refine aw_pure (st' := ax_i (1) :: _) at_114_2 rfl rfl ?_
  refine aw_loc at_114_3 rfl rfl ?_
  exact r_m_light1 h hv hwt h0 h48 (Vs.length - 1) 0 (by omega)
end MR2

/-! The reference: its rows; rules and pairs are set and got. -/
section MB
variable {L : Nat} {xs : Nat → Int32} {d : Nat} {S S' : ai_S} {T D n rc wt kp sx sc : Int} {F : Nat → Nat → Int} {B : Nat → Int} {P : Nat → Int}
def msz (i : Nat) : Nat := [8, 8, 60, 720, 15, 15, 2976, 62, 62, 192, 3, 20, 20, 128, 20, 400, 400, 20].getD i 0
/-- the reference: its fields, its rows, the row of truths -/
def mst (S : ai_S) (T D n rc wt kp sx sc : Int) (F : Nat → Nat → Int) (B : Nat → Int) : Prop := mo S T D n rc wt kp sx sc ∧ (∀ i, i < 18 → ai_arr S (433 + i) 0 = some (msz i, ax_f (F i))) ∧ ai_arr S 451 2 = some (576, ax_f B) ∧ ∀ i, B i = 0 ∨ B i = 1
def fup (F : Nat → Nat → Int) (i : Nat) (R : Nat → Int) : Nat → Nat → Int := fun j => if j = i then R else F j
theorem fup_get (F : Nat → Nat → Int) (i : Nat) (R : Nat → Int) : fup F i R i = R := if_pos rfl
theorem fup_ne {F : Nat → Nat → Int} {i j : Nat} {R : Nat → Int} (h : j ≠ i) : fup F i R j = F j := if_neg h
theorem fup_two (F : Nat → Nat → Int) (i : Nat) (R Q : Nat → Int) : fup (fup F i R) i Q = fup F i Q := by
  funext j
  unfold fup
  split <;> rfl
theorem fup_four (F : Nat → Nat → Int) {i j : Nat} (A B C D : Nat → Int) : fup (fup (fup (fup F i A) j B) i C) j D = fup (fup F i C) j D := by
  funext x
  by_cases a : x = j <;> by_cases b : x = i <;> simp [fup, a, b]
theorem fup_comm (F : Nat → Nat → Int) {i j : Nat} (h : i ≠ j) (A B : Nat → Int) : fup (fup F i A) j B = fup (fup F j B) i A := by
  funext x
  by_cases a : x = j
  · subst a
    simp [fup, Ne.symm h]
  · by_cases b : x = i
    · subst b
      simp [fup, a]
    · simp [fup, a, b]
theorem fup_self (F : Nat → Nat → Int) (i : Nat) : fup F i (F i) = F := by
  funext j
  unfold fup
  by_cases h : j = i
  · rw [if_pos h, h]
  · rw [if_neg h]
theorem mst_wr {i : Nat} {R : Nat → Int} (h : mst S T D n rc wt kp sx sc F B) (hi : i < 18) : mst (ai_wr S (433 + i) (.inl (0, ai_I (msz i) (ax_f R)))) T D n rc wt kp sx sc (fup F i R) B := by
  obtain ⟨h1, h2, h3, h4⟩ := h
  refine ⟨(ai_obj_wr (by omega)).trans h1, fun j hj => ?_, (ai_arr_wr (by omega)).trans h3, h4⟩
  by_cases e : j = i
  · subst e
    rw [fup_get]
    exact ai_arr_wrS (ai_arr_inv (h2 j hj)).1
  · rw [fup_ne e]
    exact (ai_arr_wr (by omega)).trans (h2 j hj)
theorem mst_wb {R : Nat → Int} (h : mst S T D n rc wt kp sx sc F B) (hR : ∀ i, R i = 0 ∨ R i = 1) : mst (ai_wr S 451 (.inl (2, ai_I 576 (ax_f R)))) T D n rc wt kp sx sc F R := by
  obtain ⟨h1, h2, h3, h4⟩ := h
  exact ⟨(ai_obj_wr (by decide)).trans h1, fun j hj => (ai_arr_wr (by omega)).trans (h2 j hj), ai_arr_wrS (ai_arr_inv h3).1, hR⟩
theorem mst_fl {T' D' n' rc' wt' kp' sx' sc' : Int} (h : mst S T D n rc wt kp sx sc F B) : mst (ai_wr S 432 (.inr (11, mf T' D' n' rc' wt' kp' sx' sc'))) T' D' n' rc' wt' kp' sx' sc' F B := by
  obtain ⟨h1, h2, h3, h4⟩ := h
  exact ⟨ai_obj_wrS (ai_obj_inv h1).1, fun j hj => (ai_arr_wr (by omega)).trans (h2 j hj), (ai_arr_wr (by decide)).trans h3, h4⟩
theorem mst_mt {X Z : Nat → Int} (h : mst S T D n rc wt kp sx sc F B) : mst (mt_put S X Z) T D n rc wt kp sx sc (fup (fup F 9 X) 10 Z) B := mst_wr (i := 10) (mst_wr (i := 9) h (by decide)) (by decide)
theorem fr_mt {X Z : Nat → Int} : fr 432 452 S (mt_put S X Z) := (fr_wr.mn (by decide) (by decide)).tr (fr_wr.mn (by decide) (by decide))
theorem fr_md {a : Nat} {x : ai_C} (h1 : 432 ≤ a) (h2 : a < 452) : fr 432 452 S (ai_wr S a x) := fr_wr.mn h1 (by omega)
/-- codes are small -/
def xr (X : Nat → Int) : Prop := ∀ i, 0 ≤ X i ∧ X i < 1000
/-- the slot t has the word w -/
def mwd (X Z : Nat → Int) (t : Nat) (w : List Int) : Prop := Z t = ((min w.length 64 : Nat) : Int) ∧ ∀ i, i < w.length → i < 64 → X (64 * t + i) = co (w.getD i 0)
theorem mwd_len {X Z : Nat → Int} {t : Nat} {w : List Int} (h : mwd X Z t w) (hl : w.length ≤ 64) : Z t = (w.length : Int) := by
  rw [h.1]
  omega
/-- slot k of the rules, or of the pairs -/
def qsl (F G H : Nat → Int) (k : Nat) (q : List Int × List Int) : Prop := (G k = (q.1.length : Int) ∧ H k = (q.2.length : Int)) ∧ (q.1.length ≤ 24 ∧ q.2.length ≤ 24) ∧ cw F (48 * k) q.1 ∧ cw F (48 * k + 24) q.2
theorem xr_up {X : Nat → Int} {k : Nat} {v : Int} (h : xr X) (hv : 0 ≤ v ∧ v < 1000) : xr (ax_up X k v) := by
  intro i
  unfold ax_up
  split
  · exact hv
  · exact h i
theorem xr_ow {X W : Nat → Int} {b j : Nat} (h : xr X) (hW : ∀ i, i < j → 0 ≤ W i ∧ W i < 1000) : xr (ow X b W j) := by
  intro i
  unfold ow
  split
  · exact hW _ (by omega)
  · exact h i
theorem ow_in {X W : Nat → Int} {b j i : Nat} (h : i < j) : ow X b W j (b + i) = W i := by
  unfold ow
  rw [if_pos (by omega), Nat.add_sub_cancel_left]
theorem ow_out {X W : Nat → Int} {b j i : Nat} (h : i < b ∨ b + j ≤ i) : ow X b W j i = X i := by
  unfold ow
  rw [if_neg (by omega)]
theorem at_111_0 : ai_at ai_m111 0 = some (.aload_n 0, 1) := rfl
theorem at_111_1 : ai_at ai_m111 1 = some (.getfield 31, 3) := rfl
theorem at_111_4 : ai_at ai_m111 4 = some (.iload_n 1, 1) := rfl
theorem at_111_5 : ai_at ai_m111 5 = some (.aload_n 0, 1) := rfl
theorem at_111_6 : ai_at ai_m111 6 = some (.getfield 40, 3) := rfl
theorem at_111_9 : ai_at ai_m111 9 = some (.iconst 0, 1) := rfl
theorem at_111_10 : ai_at ai_m111 10 = some (.iaload, 1) := rfl
theorem at_111_11 : ai_at ai_m111 11 = some (.iastore, 1) := rfl
theorem at_111_12 : ai_at ai_m111 12 = some (.aload_n 0, 1) := rfl
theorem at_111_13 : ai_at ai_m111 13 = some (.getfield 34, 3) := rfl
theorem at_111_16 : ai_at ai_m111 16 = some (.iload_n 1, 1) := rfl
theorem at_111_17 : ai_at ai_m111 17 = some (.aload_n 0, 1) := rfl
theorem at_111_18 : ai_at ai_m111 18 = some (.getfield 40, 3) := rfl
theorem at_111_21 : ai_at ai_m111 21 = some (.iconst 1, 1) := rfl
theorem at_111_22 : ai_at ai_m111 22 = some (.iaload, 1) := rfl
theorem at_111_23 : ai_at ai_m111 23 = some (.iastore, 1) := rfl
theorem at_111_24 : ai_at ai_m111 24 = some (.iconst 0, 1) := rfl
theorem at_111_25 : ai_at ai_m111 25 = some (.istore_n 2, 1) := rfl
theorem at_111_26 : ai_at ai_m111 26 = some (.iload_n 2, 1) := rfl
theorem at_111_27 : ai_at ai_m111 27 = some (.aload_n 0, 1) := rfl
theorem at_111_28 : ai_at ai_m111 28 = some (.getfield 40, 3) := rfl
theorem at_111_31 : ai_at ai_m111 31 = some (.iconst 0, 1) := rfl
theorem at_111_32 : ai_at ai_m111 32 = some (.iaload, 1) := rfl
theorem at_111_33 : ai_at ai_m111 33 = some (.if_icmp .ge 26, 3) := rfl
theorem at_111_36 : ai_at ai_m111 36 = some (.aload_n 0, 1) := rfl
theorem at_111_37 : ai_at ai_m111 37 = some (.getfield 28, 3) := rfl
theorem at_111_40 : ai_at ai_m111 40 = some (.bipush 48, 2) := rfl
theorem at_111_42 : ai_at ai_m111 42 = some (.iload_n 1, 1) := rfl
theorem at_111_43 : ai_at ai_m111 43 = some (.imul, 1) := rfl
theorem at_111_44 : ai_at ai_m111 44 = some (.iload_n 2, 1) := rfl
theorem at_111_45 : ai_at ai_m111 45 = some (.iadd, 1) := rfl
theorem at_111_46 : ai_at ai_m111 46 = some (.aload_n 0, 1) := rfl
theorem at_111_47 : ai_at ai_m111 47 = some (.getfield 37, 3) := rfl
theorem at_111_50 : ai_at ai_m111 50 = some (.iload_n 2, 1) := rfl
theorem at_111_51 : ai_at ai_m111 51 = some (.iaload, 1) := rfl
theorem at_111_52 : ai_at ai_m111 52 = some (.iastore, 1) := rfl
theorem at_111_53 : ai_at ai_m111 53 = some (.iinc 2 1, 3) := rfl
theorem at_111_56 : ai_at ai_m111 56 = some (.goto (-30), 3) := rfl
theorem at_111_59 : ai_at ai_m111 59 = some (.iconst 0, 1) := rfl
theorem at_111_60 : ai_at ai_m111 60 = some (.istore_n 2, 1) := rfl
theorem at_111_61 : ai_at ai_m111 61 = some (.iload_n 2, 1) := rfl
theorem at_111_62 : ai_at ai_m111 62 = some (.aload_n 0, 1) := rfl
theorem at_111_63 : ai_at ai_m111 63 = some (.getfield 40, 3) := rfl
theorem at_111_66 : ai_at ai_m111 66 = some (.iconst 1, 1) := rfl
theorem at_111_67 : ai_at ai_m111 67 = some (.iaload, 1) := rfl
theorem at_111_68 : ai_at ai_m111 68 = some (.if_icmp .ge 32, 3) := rfl
theorem at_111_71 : ai_at ai_m111 71 = some (.aload_n 0, 1) := rfl
theorem at_111_72 : ai_at ai_m111 72 = some (.getfield 28, 3) := rfl
theorem at_111_75 : ai_at ai_m111 75 = some (.bipush 48, 2) := rfl
theorem at_111_77 : ai_at ai_m111 77 = some (.iload_n 1, 1) := rfl
theorem at_111_78 : ai_at ai_m111 78 = some (.imul, 1) := rfl
theorem at_111_79 : ai_at ai_m111 79 = some (.bipush 24, 2) := rfl
theorem at_111_81 : ai_at ai_m111 81 = some (.iadd, 1) := rfl
theorem at_111_82 : ai_at ai_m111 82 = some (.iload_n 2, 1) := rfl
theorem at_111_83 : ai_at ai_m111 83 = some (.iadd, 1) := rfl
theorem at_111_84 : ai_at ai_m111 84 = some (.aload_n 0, 1) := rfl
theorem at_111_85 : ai_at ai_m111 85 = some (.getfield 37, 3) := rfl
theorem at_111_88 : ai_at ai_m111 88 = some (.bipush 64, 2) := rfl
theorem at_111_90 : ai_at ai_m111 90 = some (.iload_n 2, 1) := rfl
theorem at_111_91 : ai_at ai_m111 91 = some (.iadd, 1) := rfl
theorem at_111_92 : ai_at ai_m111 92 = some (.iaload, 1) := rfl
theorem at_111_93 : ai_at ai_m111 93 = some (.iastore, 1) := rfl
theorem at_111_94 : ai_at ai_m111 94 = some (.iinc 2 1, 3) := rfl
theorem at_111_97 : ai_at ai_m111 97 = some (.goto (-36), 3) := rfl
theorem at_111_100 : ai_at ai_m111 100 = some (.return_, 1) := rfl
theorem at_115_0 : ai_at ai_m115 0 = some (.aload_n 0, 1) := rfl
theorem at_115_1 : ai_at ai_m115 1 = some (.getfield 40, 3) := rfl
theorem at_115_4 : ai_at ai_m115 4 = some (.iconst 0, 1) := rfl
theorem at_115_5 : ai_at ai_m115 5 = some (.aload_n 0, 1) := rfl
theorem at_115_6 : ai_at ai_m115 6 = some (.getfield 31, 3) := rfl
theorem at_115_9 : ai_at ai_m115 9 = some (.iload_n 1, 1) := rfl
theorem at_115_10 : ai_at ai_m115 10 = some (.iaload, 1) := rfl
theorem at_115_11 : ai_at ai_m115 11 = some (.iastore, 1) := rfl
theorem at_115_12 : ai_at ai_m115 12 = some (.aload_n 0, 1) := rfl
theorem at_115_13 : ai_at ai_m115 13 = some (.getfield 40, 3) := rfl
theorem at_115_16 : ai_at ai_m115 16 = some (.iconst 1, 1) := rfl
theorem at_115_17 : ai_at ai_m115 17 = some (.aload_n 0, 1) := rfl
theorem at_115_18 : ai_at ai_m115 18 = some (.getfield 34, 3) := rfl
theorem at_115_21 : ai_at ai_m115 21 = some (.iload_n 1, 1) := rfl
theorem at_115_22 : ai_at ai_m115 22 = some (.iaload, 1) := rfl
theorem at_115_23 : ai_at ai_m115 23 = some (.iastore, 1) := rfl
theorem at_115_24 : ai_at ai_m115 24 = some (.iconst 0, 1) := rfl
theorem at_115_25 : ai_at ai_m115 25 = some (.istore_n 2, 1) := rfl
theorem at_115_26 : ai_at ai_m115 26 = some (.iload_n 2, 1) := rfl
theorem at_115_27 : ai_at ai_m115 27 = some (.aload_n 0, 1) := rfl
theorem at_115_28 : ai_at ai_m115 28 = some (.getfield 40, 3) := rfl
theorem at_115_31 : ai_at ai_m115 31 = some (.iconst 0, 1) := rfl
theorem at_115_32 : ai_at ai_m115 32 = some (.iaload, 1) := rfl
theorem at_115_33 : ai_at ai_m115 33 = some (.if_icmp .ge 26, 3) := rfl
theorem at_115_36 : ai_at ai_m115 36 = some (.aload_n 0, 1) := rfl
theorem at_115_37 : ai_at ai_m115 37 = some (.getfield 37, 3) := rfl
theorem at_115_40 : ai_at ai_m115 40 = some (.iload_n 2, 1) := rfl
theorem at_115_41 : ai_at ai_m115 41 = some (.aload_n 0, 1) := rfl
theorem at_115_42 : ai_at ai_m115 42 = some (.getfield 28, 3) := rfl
theorem at_115_45 : ai_at ai_m115 45 = some (.bipush 48, 2) := rfl
theorem at_115_47 : ai_at ai_m115 47 = some (.iload_n 1, 1) := rfl
theorem at_115_48 : ai_at ai_m115 48 = some (.imul, 1) := rfl
theorem at_115_49 : ai_at ai_m115 49 = some (.iload_n 2, 1) := rfl
theorem at_115_50 : ai_at ai_m115 50 = some (.iadd, 1) := rfl
theorem at_115_51 : ai_at ai_m115 51 = some (.iaload, 1) := rfl
theorem at_115_52 : ai_at ai_m115 52 = some (.iastore, 1) := rfl
theorem at_115_53 : ai_at ai_m115 53 = some (.iinc 2 1, 3) := rfl
theorem at_115_56 : ai_at ai_m115 56 = some (.goto (-30), 3) := rfl
theorem at_115_59 : ai_at ai_m115 59 = some (.iconst 0, 1) := rfl
theorem at_115_60 : ai_at ai_m115 60 = some (.istore_n 2, 1) := rfl
theorem at_115_61 : ai_at ai_m115 61 = some (.iload_n 2, 1) := rfl
theorem at_115_62 : ai_at ai_m115 62 = some (.aload_n 0, 1) := rfl
theorem at_115_63 : ai_at ai_m115 63 = some (.getfield 40, 3) := rfl
theorem at_115_66 : ai_at ai_m115 66 = some (.iconst 1, 1) := rfl
theorem at_115_67 : ai_at ai_m115 67 = some (.iaload, 1) := rfl
theorem at_115_68 : ai_at ai_m115 68 = some (.if_icmp .ge 32, 3) := rfl
theorem at_115_71 : ai_at ai_m115 71 = some (.aload_n 0, 1) := rfl
theorem at_115_72 : ai_at ai_m115 72 = some (.getfield 37, 3) := rfl
theorem at_115_75 : ai_at ai_m115 75 = some (.bipush 64, 2) := rfl
theorem at_115_77 : ai_at ai_m115 77 = some (.iload_n 2, 1) := rfl
theorem at_115_78 : ai_at ai_m115 78 = some (.iadd, 1) := rfl
theorem at_115_79 : ai_at ai_m115 79 = some (.aload_n 0, 1) := rfl
theorem at_115_80 : ai_at ai_m115 80 = some (.getfield 28, 3) := rfl
theorem at_115_83 : ai_at ai_m115 83 = some (.bipush 48, 2) := rfl
theorem at_115_85 : ai_at ai_m115 85 = some (.iload_n 1, 1) := rfl
theorem at_115_86 : ai_at ai_m115 86 = some (.imul, 1) := rfl
theorem at_115_87 : ai_at ai_m115 87 = some (.bipush 24, 2) := rfl
theorem at_115_89 : ai_at ai_m115 89 = some (.iadd, 1) := rfl
theorem at_115_90 : ai_at ai_m115 90 = some (.iload_n 2, 1) := rfl
theorem at_115_91 : ai_at ai_m115 91 = some (.iadd, 1) := rfl
theorem at_115_92 : ai_at ai_m115 92 = some (.iaload, 1) := rfl
theorem at_115_93 : ai_at ai_m115 93 = some (.iastore, 1) := rfl
theorem at_115_94 : ai_at ai_m115 94 = some (.iinc 2 1, 3) := rfl
theorem at_115_97 : ai_at ai_m115 97 = some (.goto (-36), 3) := rfl
theorem at_115_100 : ai_at ai_m115 100 = some (.return_, 1) := rfl
theorem at_130_0 : ai_at ai_m130 0 = some (.aload_n 0, 1) := rfl
theorem at_130_1 : ai_at ai_m130 1 = some (.iconst 0, 1) := rfl
theorem at_130_2 : ai_at ai_m130 2 = some (.iconst 2, 1) := rfl
theorem at_130_3 : ai_at ai_m130 3 = some (.invokevirtual 103, 3) := rfl
theorem at_130_6 : ai_at ai_m130 6 = some (.aload_n 0, 1) := rfl
theorem at_130_7 : ai_at ai_m130 7 = some (.iconst 1, 1) := rfl
theorem at_130_8 : ai_at ai_m130 8 = some (.iconst 0, 1) := rfl
theorem at_130_9 : ai_at ai_m130 9 = some (.invokevirtual 103, 3) := rfl
theorem at_130_12 : ai_at ai_m130 12 = some (.aload_n 0, 1) := rfl
theorem at_130_13 : ai_at ai_m130 13 = some (.iconst 2, 1) := rfl
theorem at_130_14 : ai_at ai_m130 14 = some (.iconst 1, 1) := rfl
theorem at_130_15 : ai_at ai_m130 15 = some (.invokevirtual 103, 3) := rfl
theorem at_130_18 : ai_at ai_m130 18 = some (.return_, 1) := rfl
theorem at_132_0 : ai_at ai_m132 0 = some (.aload_n 0, 1) := rfl
theorem at_132_1 : ai_at ai_m132 1 = some (.getfield 22, 3) := rfl
theorem at_132_4 : ai_at ai_m132 4 = some (.iload_n 1, 1) := rfl
theorem at_132_5 : ai_at ai_m132 5 = some (.aload_n 0, 1) := rfl
theorem at_132_6 : ai_at ai_m132 6 = some (.getfield 40, 3) := rfl
theorem at_132_9 : ai_at ai_m132 9 = some (.iconst 0, 1) := rfl
theorem at_132_10 : ai_at ai_m132 10 = some (.iaload, 1) := rfl
theorem at_132_11 : ai_at ai_m132 11 = some (.iastore, 1) := rfl
theorem at_132_12 : ai_at ai_m132 12 = some (.aload_n 0, 1) := rfl
theorem at_132_13 : ai_at ai_m132 13 = some (.getfield 25, 3) := rfl
theorem at_132_16 : ai_at ai_m132 16 = some (.iload_n 1, 1) := rfl
theorem at_132_17 : ai_at ai_m132 17 = some (.aload_n 0, 1) := rfl
theorem at_132_18 : ai_at ai_m132 18 = some (.getfield 40, 3) := rfl
theorem at_132_21 : ai_at ai_m132 21 = some (.iconst 1, 1) := rfl
theorem at_132_22 : ai_at ai_m132 22 = some (.iaload, 1) := rfl
theorem at_132_23 : ai_at ai_m132 23 = some (.iastore, 1) := rfl
theorem at_132_24 : ai_at ai_m132 24 = some (.iconst 0, 1) := rfl
theorem at_132_25 : ai_at ai_m132 25 = some (.istore_n 2, 1) := rfl
theorem at_132_26 : ai_at ai_m132 26 = some (.iload_n 2, 1) := rfl
theorem at_132_27 : ai_at ai_m132 27 = some (.aload_n 0, 1) := rfl
theorem at_132_28 : ai_at ai_m132 28 = some (.getfield 40, 3) := rfl
theorem at_132_31 : ai_at ai_m132 31 = some (.iconst 0, 1) := rfl
theorem at_132_32 : ai_at ai_m132 32 = some (.iaload, 1) := rfl
theorem at_132_33 : ai_at ai_m132 33 = some (.if_icmp .ge 26, 3) := rfl
theorem at_132_36 : ai_at ai_m132 36 = some (.aload_n 0, 1) := rfl
theorem at_132_37 : ai_at ai_m132 37 = some (.getfield 19, 3) := rfl
theorem at_132_40 : ai_at ai_m132 40 = some (.bipush 48, 2) := rfl
theorem at_132_42 : ai_at ai_m132 42 = some (.iload_n 1, 1) := rfl
theorem at_132_43 : ai_at ai_m132 43 = some (.imul, 1) := rfl
theorem at_132_44 : ai_at ai_m132 44 = some (.iload_n 2, 1) := rfl
theorem at_132_45 : ai_at ai_m132 45 = some (.iadd, 1) := rfl
theorem at_132_46 : ai_at ai_m132 46 = some (.aload_n 0, 1) := rfl
theorem at_132_47 : ai_at ai_m132 47 = some (.getfield 37, 3) := rfl
theorem at_132_50 : ai_at ai_m132 50 = some (.iload_n 2, 1) := rfl
theorem at_132_51 : ai_at ai_m132 51 = some (.iaload, 1) := rfl
theorem at_132_52 : ai_at ai_m132 52 = some (.iastore, 1) := rfl
theorem at_132_53 : ai_at ai_m132 53 = some (.iinc 2 1, 3) := rfl
theorem at_132_56 : ai_at ai_m132 56 = some (.goto (-30), 3) := rfl
theorem at_132_59 : ai_at ai_m132 59 = some (.iconst 0, 1) := rfl
theorem at_132_60 : ai_at ai_m132 60 = some (.istore_n 2, 1) := rfl
theorem at_132_61 : ai_at ai_m132 61 = some (.iload_n 2, 1) := rfl
theorem at_132_62 : ai_at ai_m132 62 = some (.aload_n 0, 1) := rfl
theorem at_132_63 : ai_at ai_m132 63 = some (.getfield 40, 3) := rfl
theorem at_132_66 : ai_at ai_m132 66 = some (.iconst 1, 1) := rfl
theorem at_132_67 : ai_at ai_m132 67 = some (.iaload, 1) := rfl
theorem at_132_68 : ai_at ai_m132 68 = some (.if_icmp .ge 32, 3) := rfl
theorem at_132_71 : ai_at ai_m132 71 = some (.aload_n 0, 1) := rfl
theorem at_132_72 : ai_at ai_m132 72 = some (.getfield 19, 3) := rfl
theorem at_132_75 : ai_at ai_m132 75 = some (.bipush 48, 2) := rfl
theorem at_132_77 : ai_at ai_m132 77 = some (.iload_n 1, 1) := rfl
theorem at_132_78 : ai_at ai_m132 78 = some (.imul, 1) := rfl
theorem at_132_79 : ai_at ai_m132 79 = some (.bipush 24, 2) := rfl
theorem at_132_81 : ai_at ai_m132 81 = some (.iadd, 1) := rfl
theorem at_132_82 : ai_at ai_m132 82 = some (.iload_n 2, 1) := rfl
theorem at_132_83 : ai_at ai_m132 83 = some (.iadd, 1) := rfl
theorem at_132_84 : ai_at ai_m132 84 = some (.aload_n 0, 1) := rfl
theorem at_132_85 : ai_at ai_m132 85 = some (.getfield 37, 3) := rfl
theorem at_132_88 : ai_at ai_m132 88 = some (.bipush 64, 2) := rfl
theorem at_132_90 : ai_at ai_m132 90 = some (.iload_n 2, 1) := rfl
theorem at_132_91 : ai_at ai_m132 91 = some (.iadd, 1) := rfl
theorem at_132_92 : ai_at ai_m132 92 = some (.iaload, 1) := rfl
theorem at_132_93 : ai_at ai_m132 93 = some (.iastore, 1) := rfl
theorem at_132_94 : ai_at ai_m132 94 = some (.iinc 2 1, 3) := rfl
theorem at_132_97 : ai_at ai_m132 97 = some (.goto (-36), 3) := rfl
theorem at_132_100 : ai_at ai_m132 100 = some (.return_, 1) := rfl
theorem at_134_0 : ai_at ai_m134 0 = some (.aload_n 0, 1) := rfl
theorem at_134_1 : ai_at ai_m134 1 = some (.getfield 40, 3) := rfl
theorem at_134_4 : ai_at ai_m134 4 = some (.iconst 0, 1) := rfl
theorem at_134_5 : ai_at ai_m134 5 = some (.aload_n 0, 1) := rfl
theorem at_134_6 : ai_at ai_m134 6 = some (.getfield 22, 3) := rfl
theorem at_134_9 : ai_at ai_m134 9 = some (.iload_n 1, 1) := rfl
theorem at_134_10 : ai_at ai_m134 10 = some (.iaload, 1) := rfl
theorem at_134_11 : ai_at ai_m134 11 = some (.iastore, 1) := rfl
theorem at_134_12 : ai_at ai_m134 12 = some (.aload_n 0, 1) := rfl
theorem at_134_13 : ai_at ai_m134 13 = some (.getfield 40, 3) := rfl
theorem at_134_16 : ai_at ai_m134 16 = some (.iconst 1, 1) := rfl
theorem at_134_17 : ai_at ai_m134 17 = some (.aload_n 0, 1) := rfl
theorem at_134_18 : ai_at ai_m134 18 = some (.getfield 25, 3) := rfl
theorem at_134_21 : ai_at ai_m134 21 = some (.iload_n 1, 1) := rfl
theorem at_134_22 : ai_at ai_m134 22 = some (.iaload, 1) := rfl
theorem at_134_23 : ai_at ai_m134 23 = some (.iastore, 1) := rfl
theorem at_134_24 : ai_at ai_m134 24 = some (.iconst 0, 1) := rfl
theorem at_134_25 : ai_at ai_m134 25 = some (.istore_n 2, 1) := rfl
theorem at_134_26 : ai_at ai_m134 26 = some (.iload_n 2, 1) := rfl
theorem at_134_27 : ai_at ai_m134 27 = some (.aload_n 0, 1) := rfl
theorem at_134_28 : ai_at ai_m134 28 = some (.getfield 40, 3) := rfl
theorem at_134_31 : ai_at ai_m134 31 = some (.iconst 0, 1) := rfl
theorem at_134_32 : ai_at ai_m134 32 = some (.iaload, 1) := rfl
theorem at_134_33 : ai_at ai_m134 33 = some (.if_icmp .ge 26, 3) := rfl
theorem at_134_36 : ai_at ai_m134 36 = some (.aload_n 0, 1) := rfl
theorem at_134_37 : ai_at ai_m134 37 = some (.getfield 37, 3) := rfl
theorem at_134_40 : ai_at ai_m134 40 = some (.iload_n 2, 1) := rfl
theorem at_134_41 : ai_at ai_m134 41 = some (.aload_n 0, 1) := rfl
theorem at_134_42 : ai_at ai_m134 42 = some (.getfield 19, 3) := rfl
theorem at_134_45 : ai_at ai_m134 45 = some (.bipush 48, 2) := rfl
theorem at_134_47 : ai_at ai_m134 47 = some (.iload_n 1, 1) := rfl
theorem at_134_48 : ai_at ai_m134 48 = some (.imul, 1) := rfl
theorem at_134_49 : ai_at ai_m134 49 = some (.iload_n 2, 1) := rfl
theorem at_134_50 : ai_at ai_m134 50 = some (.iadd, 1) := rfl
theorem at_134_51 : ai_at ai_m134 51 = some (.iaload, 1) := rfl
theorem at_134_52 : ai_at ai_m134 52 = some (.iastore, 1) := rfl
theorem at_134_53 : ai_at ai_m134 53 = some (.iinc 2 1, 3) := rfl
theorem at_134_56 : ai_at ai_m134 56 = some (.goto (-30), 3) := rfl
theorem at_134_59 : ai_at ai_m134 59 = some (.iconst 0, 1) := rfl
theorem at_134_60 : ai_at ai_m134 60 = some (.istore_n 2, 1) := rfl
theorem at_134_61 : ai_at ai_m134 61 = some (.iload_n 2, 1) := rfl
theorem at_134_62 : ai_at ai_m134 62 = some (.aload_n 0, 1) := rfl
theorem at_134_63 : ai_at ai_m134 63 = some (.getfield 40, 3) := rfl
theorem at_134_66 : ai_at ai_m134 66 = some (.iconst 1, 1) := rfl
theorem at_134_67 : ai_at ai_m134 67 = some (.iaload, 1) := rfl
theorem at_134_68 : ai_at ai_m134 68 = some (.if_icmp .ge 32, 3) := rfl
theorem at_134_71 : ai_at ai_m134 71 = some (.aload_n 0, 1) := rfl
theorem at_134_72 : ai_at ai_m134 72 = some (.getfield 37, 3) := rfl
theorem at_134_75 : ai_at ai_m134 75 = some (.bipush 64, 2) := rfl
theorem at_134_77 : ai_at ai_m134 77 = some (.iload_n 2, 1) := rfl
theorem at_134_78 : ai_at ai_m134 78 = some (.iadd, 1) := rfl
theorem at_134_79 : ai_at ai_m134 79 = some (.aload_n 0, 1) := rfl
theorem at_134_80 : ai_at ai_m134 80 = some (.getfield 19, 3) := rfl
theorem at_134_83 : ai_at ai_m134 83 = some (.bipush 48, 2) := rfl
theorem at_134_85 : ai_at ai_m134 85 = some (.iload_n 1, 1) := rfl
theorem at_134_86 : ai_at ai_m134 86 = some (.imul, 1) := rfl
theorem at_134_87 : ai_at ai_m134 87 = some (.bipush 24, 2) := rfl
theorem at_134_89 : ai_at ai_m134 89 = some (.iadd, 1) := rfl
theorem at_134_90 : ai_at ai_m134 90 = some (.iload_n 2, 1) := rfl
theorem at_134_91 : ai_at ai_m134 91 = some (.iadd, 1) := rfl
theorem at_134_92 : ai_at ai_m134 92 = some (.iaload, 1) := rfl
theorem at_134_93 : ai_at ai_m134 93 = some (.iastore, 1) := rfl
theorem at_134_94 : ai_at ai_m134 94 = some (.iinc 2 1, 3) := rfl
theorem at_134_97 : ai_at ai_m134 97 = some (.goto (-36), 3) := rfl
theorem at_134_100 : ai_at ai_m134 100 = some (.return_, 1) := rfl
theorem fl_12_19 : ai_fld 12 19 = some (11, 7, false) := by decide +kernel
theorem fl_12_22 : ai_fld 12 22 = some (11, 8, false) := by decide +kernel
theorem fl_12_25 : ai_fld 12 25 = some (11, 9, false) := by decide +kernel
theorem fl_12_28 : ai_fld 12 28 = some (11, 12, false) := by decide +kernel
theorem fl_12_31 : ai_fld 12 31 = some (11, 13, false) := by decide +kernel
theorem fl_12_34 : ai_fld 12 34 = some (11, 14, false) := by decide +kernel
theorem mt_12_103 : ai_mth 12 103 = some (0, 123, 2, 11) := by decide +kernel
set_option maxHeartbeats 8000000 in
theorem r_m_exch {l r : List Int} (h : mst S T D n rc wt kp sx sc F B) (h0 : mwd (F 9) (F 10) 0 l) (h1 : mwd (F 9) (F 10) 1 r) (hl : l.length ≤ 24) (hr : r.length ≤ 24) (hx : xr (F 9)) : ai_rn L xs (d + 2) 130 [.ref 432] S (fun v S' => v = none ∧ fr 432 452 S S' ∧ ∃ X Z, mst S' T D n rc wt kp sx sc (fup (fup F 9 X) 10 Z) B ∧ mwd X Z 0 r ∧ mwd X Z 1 l ∧ xr X) := by
  have hz0 := mwd_len h0 (by omega)
  have hz1 := mwd_len h1 (by omega)
  have ho := h.1
  have r9 : ai_arr S 442 0 = some (192, ax_f (F 9)) := h.2.1 9 (by decide)
  have r10 : ai_arr S 443 0 = some (3, ax_f (F 10)) := h.2.1 10 (by decide)
  refine ai_rn_of (M := ai_m130) rfl (by decide) (Nat.le_of_ble_eq_true rfl) ?_
  refine aw_loc at_130_0 rfl rfl ?_
  refine aw_pure (st' := ax_i (0) :: _) at_130_1 rfl rfl ?_
  refine aw_pure (st' := ax_i (2) :: _) at_130_2 rfl rfl ?_
  refine aw_cv (a := 432) [ax_i ((0 : Nat) : Int), ax_i ((2 : Nat) : Int)] [] at_130_3 mt_12_103 (Or.inl rfl) rfl rfl (Nat.le_of_ble_eq_true rfl) ⟨_, ho⟩ ((r_m_copy ho (z := l.length) (by decide) (by decide) (by decide) hz0 (by omega) r9 r10).mono ?_)
  rintro v S0 ⟨rfl, rfl⟩
  have h2 := mst_mt (X := ow (F 9) (64 * 2) (fun i => F 9 (64 * 0 + i)) l.length) (Z := ax_up (F 10) 2 (l.length : Nat)) h
  have f2 : fr 432 452 S _ := fr_mt (S := S) (X := ow (F 9) (64 * 2) (fun i => F 9 (64 * 0 + i)) l.length) (Z := ax_up (F 10) 2 (l.length : Nat))
  generalize mt_put S (ow (F 9) (64 * 2) (fun i => F 9 (64 * 0 + i)) l.length) (ax_up (F 10) 2 (l.length : Nat)) = S2 at h2 f2 ⊢
  generalize hX2 : ow (F 9) (64 * 2) (fun i => F 9 (64 * 0 + i)) l.length = X2 at h2
  generalize hZ2 : ax_up (F 10) 2 (l.length : Int) = Z2 at h2
  have ho := h2.1
  have r9 : ai_arr S2 442 0 = some (192, ax_f ((fup (fup F 9 X2) 10 Z2) 9)) := h2.2.1 9 (by decide)
  have r10 : ai_arr S2 443 0 = some (3, ax_f ((fup (fup F 9 X2) 10 Z2) 10)) := h2.2.1 10 (by decide)
  have e9 : fup (fup F 9 X2) 10 Z2 9 = X2 := (fup_ne (by decide)).trans (fup_get _ _ _)
  have e10 : fup (fup F 9 X2) 10 Z2 10 = Z2 := fup_get _ _ _
  rw [e9] at r9
  rw [e10] at r10
  have z21 : Z2 1 = (r.length : Int) := by rw [← hZ2]; show (if 1 = 2 then _ else F 10 1) = _; rw [if_neg (by decide)]; exact hz1
  refine aw_loc at_130_6 rfl rfl ?_
  refine aw_pure (st' := ax_i (1) :: _) at_130_7 rfl rfl ?_
  refine aw_pure (st' := ax_i (0) :: _) at_130_8 rfl rfl ?_
  refine aw_cv (a := 432) [ax_i ((1 : Nat) : Int), ax_i ((0 : Nat) : Int)] [] at_130_9 mt_12_103 (Or.inl rfl) rfl rfl (Nat.le_of_ble_eq_true rfl) ⟨_, ho⟩ ((r_m_copy ho (z := r.length) (by decide) (by decide) (by decide) z21 (by omega) r9 r10).mono ?_)
  rintro v S0 ⟨rfl, rfl⟩
  have h3 := mst_mt (X := ow X2 (64 * 0) (fun i => X2 (64 * 1 + i)) r.length) (Z := ax_up Z2 0 (r.length : Nat)) h2
  have f3 : fr 432 452 S2 _ := fr_mt (S := S2) (X := ow X2 (64 * 0) (fun i => X2 (64 * 1 + i)) r.length) (Z := ax_up Z2 0 (r.length : Nat))
  generalize mt_put S2 (ow X2 (64 * 0) (fun i => X2 (64 * 1 + i)) r.length) (ax_up Z2 0 (r.length : Nat)) = S3 at h3 f3 ⊢
  generalize hX3 : ow X2 (64 * 0) (fun i => X2 (64 * 1 + i)) r.length = X3 at h3
  generalize hZ3 : ax_up Z2 0 (r.length : Int) = Z3 at h3
  rw [fup_four] at h3
  have ho := h3.1
  have r9 : ai_arr S3 442 0 = some (192, ax_f ((fup (fup F 9 X3) 10 Z3) 9)) := h3.2.1 9 (by decide)
  have r10 : ai_arr S3 443 0 = some (3, ax_f ((fup (fup F 9 X3) 10 Z3) 10)) := h3.2.1 10 (by decide)
  have e9 : fup (fup F 9 X3) 10 Z3 9 = X3 := (fup_ne (by decide)).trans (fup_get _ _ _)
  have e10 : fup (fup F 9 X3) 10 Z3 10 = Z3 := fup_get _ _ _
  rw [e9] at r9
  rw [e10] at r10
  have z32 : Z3 2 = (l.length : Int) := by rw [← hZ3, ← hZ2]; rfl
  refine aw_loc at_130_12 rfl rfl ?_
  refine aw_pure (st' := ax_i (2) :: _) at_130_13 rfl rfl ?_
  refine aw_pure (st' := ax_i (1) :: _) at_130_14 rfl rfl ?_
  refine aw_cv (a := 432) [ax_i ((2 : Nat) : Int), ax_i ((1 : Nat) : Int)] [] at_130_15 mt_12_103 (Or.inl rfl) rfl rfl (Nat.le_of_ble_eq_true rfl) ⟨_, ho⟩ ((r_m_copy ho (z := l.length) (by decide) (by decide) (by decide) z32 (by omega) r9 r10).mono ?_)
  rintro v S0 ⟨rfl, rfl⟩
  have h4 := mst_mt (X := ow X3 (64 * 1) (fun i => X3 (64 * 2 + i)) l.length) (Z := ax_up Z3 1 (l.length : Nat)) h3
  have f4 : fr 432 452 S3 _ := fr_mt (S := S3) (X := ow X3 (64 * 1) (fun i => X3 (64 * 2 + i)) l.length) (Z := ax_up Z3 1 (l.length : Nat))
  rw [fup_four] at h4
  have x2 : xr X2 := by rw [← hX2]; exact xr_ow hx (fun i _ => hx _)
  have x3 : xr X3 := by rw [← hX3]; exact xr_ow x2 (fun i _ => x2 _)
  refine aw_vret at_130_18 rfl ⟨_, _, rfl, rfl, (f2.tr f3).tr f4, _, _, h4, ⟨?_, fun i hi h64 => ?_⟩, ⟨?_, fun i hi h64 => ?_⟩, xr_ow x3 (fun i _ => x3 _)⟩
  · show (if 0 = 1 then _ else Z3 0) = _; rw [if_neg (by decide), ← hZ3]; show (r.length : Int) = _; omega
  · rw [ow_out (by omega), ← hX3, show 64 * 0 + i = 64 * 0 + i from rfl, ow_in hi, ← hX2, ow_out (by omega)]; exact h1.2 i hi h64
  · show (l.length : Int) = _; omega
  · rw [ow_in hi, ← hX3, ow_out (by omega), ← hX2, ow_in hi]; exact h0.2 i hi h64
set_option maxHeartbeats 4000000 in
theorem r_m_getR2 {k : Nat} {q : List Int × List Int} (h : mst S T D n rc wt kp sx sc F B) (hq : qsl (F 3) (F 4) (F 5) k q) (hk : k < 15) : ∀ (m j : Nat) (S1 : ai_S), j + m = q.2.length → fr 432 452 S S1 → mst S1 T D n rc wt kp sx sc (fup (fup F 10 (ax_up (ax_up (F 10) 0 (q.1.length : Nat)) 1 (q.2.length : Nat))) 9 (ow (ow (F 9) 0 (fun i => co (q.1.getD i 0)) q.1.length) 64 (fun i => co (q.2.getD i 0)) j)) B → ai_aw L xs d ai_m134 (fun (o : ai_O) => ∃ v S', o = (.inl v, S') ∧ v = none ∧ fr 432 452 S S' ∧ mst S' T D n rc wt kp sx sc (fup (fup F 10 (ax_up (ax_up (F 10) 0 (q.1.length : Nat)) 1 (q.2.length : Nat))) 9 (ow (ow (F 9) 0 (fun i => co (q.1.getD i 0)) q.1.length) 64 (fun i => co (q.2.getD i 0)) q.2.length)) B) (61, [some (.ref 432), some (ax_i (k : Nat)), some (ax_i (j : Nat))], [], S1) := by
  intro m
  induction m with
  | zero =>
    intro j S1 hj f1 h1
    have ho := h1.1
    have r3 : ai_arr S1 436 0 = some (720, ax_f ((fup (fup F 10 (ax_up (ax_up (F 10) 0 (q.1.length : Nat)) 1 (q.2.length : Nat))) 9 (ow (ow (F 9) 0 (fun i => co (q.1.getD i 0)) q.1.length) 64 (fun i => co (q.2.getD i 0)) j)) 3)) := h1.2.1 3 (by decide)
    have r9 : ai_arr S1 442 0 = some (192, ax_f ((fup (fup F 10 (ax_up (ax_up (F 10) 0 (q.1.length : Nat)) 1 (q.2.length : Nat))) 9 (ow (ow (F 9) 0 (fun i => co (q.1.getD i 0)) q.1.length) 64 (fun i => co (q.2.getD i 0)) j)) 9)) := h1.2.1 9 (by decide)
    have r10 : ai_arr S1 443 0 = some (3, ax_f ((fup (fup F 10 (ax_up (ax_up (F 10) 0 (q.1.length : Nat)) 1 (q.2.length : Nat))) 9 (ow (ow (F 9) 0 (fun i => co (q.1.getD i 0)) q.1.length) 64 (fun i => co (q.2.getD i 0)) j)) 10)) := h1.2.1 10 (by decide)
    rw [show (fup (fup F 10 (ax_up (ax_up (F 10) 0 (q.1.length : Nat)) 1 (q.2.length : Nat))) 9 (ow (ow (F 9) 0 (fun i => co (q.1.getD i 0)) q.1.length) 64 (fun i => co (q.2.getD i 0)) j)) 3 = F 3 from (fup_ne (by decide)).trans (fup_ne (by decide))] at r3
    rw [show (fup (fup F 10 (ax_up (ax_up (F 10) 0 (q.1.length : Nat)) 1 (q.2.length : Nat))) 9 (ow (ow (F 9) 0 (fun i => co (q.1.getD i 0)) q.1.length) 64 (fun i => co (q.2.getD i 0)) j)) 9 = (ow (ow (F 9) 0 (fun i => co (q.1.getD i 0)) q.1.length) 64 (fun i => co (q.2.getD i 0)) j) from fup_get _ _ _] at r9
    rw [show (fup (fup F 10 (ax_up (ax_up (F 10) 0 (q.1.length : Nat)) 1 (q.2.length : Nat))) 9 (ow (ow (F 9) 0 (fun i => co (q.1.getD i 0)) q.1.length) 64 (fun i => co (q.2.getD i 0)) j)) 10 = (ax_up (ax_up (F 10) 0 (q.1.length : Nat)) 1 (q.2.length : Nat)) from (fup_ne (by decide)).trans (fup_get _ _ _)] at r10
    have zt : (ax_up (ax_up (F 10) 0 (q.1.length : Nat)) 1 (q.2.length : Nat)) 1 = (q.2.length : Int) := rfl
    have hl24 := hq.2.1
    obtain rfl : j = q.2.length := by omega
    refine aw_loc at_134_61 rfl rfl ?_
    refine aw_loc at_134_62 rfl rfl ?_
    refine aw_get at_134_63 rfl fl_12_40 ho rfl ?_
    refine aw_pure (st' := ax_i (1) :: _) at_134_66 rfl rfl ?_
    refine ax_ild at_134_67 rfl r10 (k := 1) rfl (by decide) (by decide) ?_
    rw [zt]
    refine ax_icmp_ge at_134_68 ⟨by omega, by omega⟩ ⟨by omega, by omega⟩ (fun _ => ?_) (fun z => absurd z (by omega))
    exact aw_vret at_134_100 rfl ⟨_, _, rfl, rfl, f1, h1⟩
  | succ m ih =>
    intro j S1 hj f1 h1
    have ho := h1.1
    have r3 : ai_arr S1 436 0 = some (720, ax_f ((fup (fup F 10 (ax_up (ax_up (F 10) 0 (q.1.length : Nat)) 1 (q.2.length : Nat))) 9 (ow (ow (F 9) 0 (fun i => co (q.1.getD i 0)) q.1.length) 64 (fun i => co (q.2.getD i 0)) j)) 3)) := h1.2.1 3 (by decide)
    have r9 : ai_arr S1 442 0 = some (192, ax_f ((fup (fup F 10 (ax_up (ax_up (F 10) 0 (q.1.length : Nat)) 1 (q.2.length : Nat))) 9 (ow (ow (F 9) 0 (fun i => co (q.1.getD i 0)) q.1.length) 64 (fun i => co (q.2.getD i 0)) j)) 9)) := h1.2.1 9 (by decide)
    have r10 : ai_arr S1 443 0 = some (3, ax_f ((fup (fup F 10 (ax_up (ax_up (F 10) 0 (q.1.length : Nat)) 1 (q.2.length : Nat))) 9 (ow (ow (F 9) 0 (fun i => co (q.1.getD i 0)) q.1.length) 64 (fun i => co (q.2.getD i 0)) j)) 10)) := h1.2.1 10 (by decide)
    rw [show (fup (fup F 10 (ax_up (ax_up (F 10) 0 (q.1.length : Nat)) 1 (q.2.length : Nat))) 9 (ow (ow (F 9) 0 (fun i => co (q.1.getD i 0)) q.1.length) 64 (fun i => co (q.2.getD i 0)) j)) 3 = F 3 from (fup_ne (by decide)).trans (fup_ne (by decide))] at r3
    rw [show (fup (fup F 10 (ax_up (ax_up (F 10) 0 (q.1.length : Nat)) 1 (q.2.length : Nat))) 9 (ow (ow (F 9) 0 (fun i => co (q.1.getD i 0)) q.1.length) 64 (fun i => co (q.2.getD i 0)) j)) 9 = (ow (ow (F 9) 0 (fun i => co (q.1.getD i 0)) q.1.length) 64 (fun i => co (q.2.getD i 0)) j) from fup_get _ _ _] at r9
    rw [show (fup (fup F 10 (ax_up (ax_up (F 10) 0 (q.1.length : Nat)) 1 (q.2.length : Nat))) 9 (ow (ow (F 9) 0 (fun i => co (q.1.getD i 0)) q.1.length) 64 (fun i => co (q.2.getD i 0)) j)) 10 = (ax_up (ax_up (F 10) 0 (q.1.length : Nat)) 1 (q.2.length : Nat)) from (fup_ne (by decide)).trans (fup_get _ _ _)] at r10
    have zt : (ax_up (ax_up (F 10) 0 (q.1.length : Nat)) 1 (q.2.length : Nat)) 1 = (q.2.length : Int) := rfl
    have hl24 := hq.2.1
    have hc := hq.2.2.2 j (by omega)
    refine aw_loc at_134_61 rfl rfl ?_
    refine aw_loc at_134_62 rfl rfl ?_
    refine aw_get at_134_63 rfl fl_12_40 ho rfl ?_
    refine aw_pure (st' := ax_i (1) :: _) at_134_66 rfl rfl ?_
    refine ax_ild at_134_67 rfl r10 (k := 1) rfl (by decide) (by decide) ?_
    rw [zt]
    refine ax_icmp_ge at_134_68 ⟨by omega, by omega⟩ ⟨by omega, by omega⟩ (fun z => absurd z (by omega)) (fun _ => ?_)
    refine aw_loc at_134_71 rfl rfl ?_
    refine aw_get at_134_72 rfl fl_12_37 ho rfl ?_
    refine aw_pure (st' := ax_i (64) :: _) at_134_75 rfl rfl ?_
    refine aw_loc at_134_77 rfl rfl ?_
    refine ax_add at_134_78 rfl ?_
    refine aw_loc at_134_79 rfl rfl ?_
    refine aw_get at_134_80 rfl fl_12_19 ho rfl ?_
    refine aw_pure (st' := ax_i (48) :: _) at_134_83 rfl rfl ?_
    refine aw_loc at_134_85 rfl rfl ?_
    refine ax_mul at_134_86 rfl ?_
    refine aw_pure (st' := ax_i (24) :: _) at_134_87 rfl rfl ?_
    refine ax_add at_134_89 rfl ?_
    refine aw_loc at_134_90 rfl rfl ?_
    refine ax_add at_134_91 rfl ?_
    refine ax_ild at_134_92 rfl r3 (k := 48 * k + 24 + j) (by omega) (by omega) (by decide) ?_
    rw [hc]
    refine ax_ist (k := 64 + j) at_134_93 rfl r9 (by omega) (by omega) (by decide) ?_
    rw [ow_succ2 ((ow (F 9) 0 (fun i => co (q.1.getD i 0)) q.1.length)) (fun i => co (q.2.getD i 0)) 64 j rfl]
    have h2 : mst (ai_wr S1 442 (.inl (0, ai_I 192 (ax_f (ow (ow (F 9) 0 (fun i => co (q.1.getD i 0)) q.1.length) 64 (fun i => co (q.2.getD i 0)) (j + 1)))))) T D n rc wt kp sx sc (fup (fup F 10 (ax_up (ax_up (F 10) 0 (q.1.length : Nat)) 1 (q.2.length : Nat))) 9 (ow (ow (F 9) 0 (fun i => co (q.1.getD i 0)) q.1.length) 64 (fun i => co (q.2.getD i 0)) (j + 1))) B := by
      have := mst_wr (i := 9) (R := (ow (ow (F 9) 0 (fun i => co (q.1.getD i 0)) q.1.length) 64 (fun i => co (q.2.getD i 0)) (j + 1))) h1 (by decide)
      rw [fup_two] at this
      exact this
    have f2 := f1.tr (fr_md (S := S1) (a := 442) (x := .inl (0, ai_I 192 (ax_f (ow (ow (F 9) 0 (fun i => co (q.1.getD i 0)) q.1.length) 64 (fun i => co (q.2.getD i 0)) (j + 1))))) (by decide) (by decide))
    refine ax_inc at_134_94 rfl rfl rfl ?_
    refine aw_goto at_134_97 ?_
    have := ih (j + 1) _ (by omega) f2 h2
    rw [Int.natCast_add] at this
    exact this
set_option maxHeartbeats 4000000 in
theorem r_m_getR1 {k : Nat} {q : List Int × List Int} (h : mst S T D n rc wt kp sx sc F B) (hq : qsl (F 3) (F 4) (F 5) k q) (hk : k < 15) : ∀ (m j : Nat) (S1 : ai_S), j + m = q.1.length → fr 432 452 S S1 → mst S1 T D n rc wt kp sx sc (fup (fup F 10 (ax_up (ax_up (F 10) 0 (q.1.length : Nat)) 1 (q.2.length : Nat))) 9 (ow (F 9) 0 (fun i => co (q.1.getD i 0)) j)) B → ai_aw L xs d ai_m134 (fun (o : ai_O) => ∃ v S', o = (.inl v, S') ∧ v = none ∧ fr 432 452 S S' ∧ mst S' T D n rc wt kp sx sc (fup (fup F 10 (ax_up (ax_up (F 10) 0 (q.1.length : Nat)) 1 (q.2.length : Nat))) 9 (ow (ow (F 9) 0 (fun i => co (q.1.getD i 0)) q.1.length) 64 (fun i => co (q.2.getD i 0)) q.2.length)) B) (26, [some (.ref 432), some (ax_i (k : Nat)), some (ax_i (j : Nat))], [], S1) := by
  intro m
  induction m with
  | zero =>
    intro j S1 hj f1 h1
    have ho := h1.1
    have r3 : ai_arr S1 436 0 = some (720, ax_f ((fup (fup F 10 (ax_up (ax_up (F 10) 0 (q.1.length : Nat)) 1 (q.2.length : Nat))) 9 (ow (F 9) 0 (fun i => co (q.1.getD i 0)) j)) 3)) := h1.2.1 3 (by decide)
    have r9 : ai_arr S1 442 0 = some (192, ax_f ((fup (fup F 10 (ax_up (ax_up (F 10) 0 (q.1.length : Nat)) 1 (q.2.length : Nat))) 9 (ow (F 9) 0 (fun i => co (q.1.getD i 0)) j)) 9)) := h1.2.1 9 (by decide)
    have r10 : ai_arr S1 443 0 = some (3, ax_f ((fup (fup F 10 (ax_up (ax_up (F 10) 0 (q.1.length : Nat)) 1 (q.2.length : Nat))) 9 (ow (F 9) 0 (fun i => co (q.1.getD i 0)) j)) 10)) := h1.2.1 10 (by decide)
    rw [show (fup (fup F 10 (ax_up (ax_up (F 10) 0 (q.1.length : Nat)) 1 (q.2.length : Nat))) 9 (ow (F 9) 0 (fun i => co (q.1.getD i 0)) j)) 3 = F 3 from (fup_ne (by decide)).trans (fup_ne (by decide))] at r3
    rw [show (fup (fup F 10 (ax_up (ax_up (F 10) 0 (q.1.length : Nat)) 1 (q.2.length : Nat))) 9 (ow (F 9) 0 (fun i => co (q.1.getD i 0)) j)) 9 = (ow (F 9) 0 (fun i => co (q.1.getD i 0)) j) from fup_get _ _ _] at r9
    rw [show (fup (fup F 10 (ax_up (ax_up (F 10) 0 (q.1.length : Nat)) 1 (q.2.length : Nat))) 9 (ow (F 9) 0 (fun i => co (q.1.getD i 0)) j)) 10 = (ax_up (ax_up (F 10) 0 (q.1.length : Nat)) 1 (q.2.length : Nat)) from (fup_ne (by decide)).trans (fup_get _ _ _)] at r10
    have zt : (ax_up (ax_up (F 10) 0 (q.1.length : Nat)) 1 (q.2.length : Nat)) 0 = (q.1.length : Int) := rfl
    have hl24 := hq.2.1
    obtain rfl : j = q.1.length := by omega
    refine aw_loc at_134_26 rfl rfl ?_
    refine aw_loc at_134_27 rfl rfl ?_
    refine aw_get at_134_28 rfl fl_12_40 ho rfl ?_
    refine aw_pure (st' := ax_i (0) :: _) at_134_31 rfl rfl ?_
    refine ax_ild at_134_32 rfl r10 (k := 0) rfl (by decide) (by decide) ?_
    rw [zt]
    refine ax_icmp_ge at_134_33 ⟨by omega, by omega⟩ ⟨by omega, by omega⟩ (fun _ => ?_) (fun z => absurd z (by omega))
    show ai_aw L xs d ai_m134 _ (59, _, _, _)
    refine aw_pure (st' := ax_i (0) :: _) at_134_59 rfl rfl ?_
    refine aw_loc at_134_60 rfl rfl ?_
    exact r_m_getR2 h hq hk q.2.length 0 S1 (by omega) f1 (by rw [ow_zero]; exact h1)
  | succ m ih =>
    intro j S1 hj f1 h1
    have ho := h1.1
    have r3 : ai_arr S1 436 0 = some (720, ax_f ((fup (fup F 10 (ax_up (ax_up (F 10) 0 (q.1.length : Nat)) 1 (q.2.length : Nat))) 9 (ow (F 9) 0 (fun i => co (q.1.getD i 0)) j)) 3)) := h1.2.1 3 (by decide)
    have r9 : ai_arr S1 442 0 = some (192, ax_f ((fup (fup F 10 (ax_up (ax_up (F 10) 0 (q.1.length : Nat)) 1 (q.2.length : Nat))) 9 (ow (F 9) 0 (fun i => co (q.1.getD i 0)) j)) 9)) := h1.2.1 9 (by decide)
    have r10 : ai_arr S1 443 0 = some (3, ax_f ((fup (fup F 10 (ax_up (ax_up (F 10) 0 (q.1.length : Nat)) 1 (q.2.length : Nat))) 9 (ow (F 9) 0 (fun i => co (q.1.getD i 0)) j)) 10)) := h1.2.1 10 (by decide)
    rw [show (fup (fup F 10 (ax_up (ax_up (F 10) 0 (q.1.length : Nat)) 1 (q.2.length : Nat))) 9 (ow (F 9) 0 (fun i => co (q.1.getD i 0)) j)) 3 = F 3 from (fup_ne (by decide)).trans (fup_ne (by decide))] at r3
    rw [show (fup (fup F 10 (ax_up (ax_up (F 10) 0 (q.1.length : Nat)) 1 (q.2.length : Nat))) 9 (ow (F 9) 0 (fun i => co (q.1.getD i 0)) j)) 9 = (ow (F 9) 0 (fun i => co (q.1.getD i 0)) j) from fup_get _ _ _] at r9
    rw [show (fup (fup F 10 (ax_up (ax_up (F 10) 0 (q.1.length : Nat)) 1 (q.2.length : Nat))) 9 (ow (F 9) 0 (fun i => co (q.1.getD i 0)) j)) 10 = (ax_up (ax_up (F 10) 0 (q.1.length : Nat)) 1 (q.2.length : Nat)) from (fup_ne (by decide)).trans (fup_get _ _ _)] at r10
    have zt : (ax_up (ax_up (F 10) 0 (q.1.length : Nat)) 1 (q.2.length : Nat)) 0 = (q.1.length : Int) := rfl
    have hl24 := hq.2.1
    have hc := hq.2.2.1 j (by omega)
    refine aw_loc at_134_26 rfl rfl ?_
    refine aw_loc at_134_27 rfl rfl ?_
    refine aw_get at_134_28 rfl fl_12_40 ho rfl ?_
    refine aw_pure (st' := ax_i (0) :: _) at_134_31 rfl rfl ?_
    refine ax_ild at_134_32 rfl r10 (k := 0) rfl (by decide) (by decide) ?_
    rw [zt]
    refine ax_icmp_ge at_134_33 ⟨by omega, by omega⟩ ⟨by omega, by omega⟩ (fun z => absurd z (by omega)) (fun _ => ?_)
    refine aw_loc at_134_36 rfl rfl ?_
    refine aw_get at_134_37 rfl fl_12_37 ho rfl ?_
    refine aw_loc at_134_40 rfl rfl ?_
    refine aw_loc at_134_41 rfl rfl ?_
    refine aw_get at_134_42 rfl fl_12_19 ho rfl ?_
    refine aw_pure (st' := ax_i (48) :: _) at_134_45 rfl rfl ?_
    refine aw_loc at_134_47 rfl rfl ?_
    refine ax_mul at_134_48 rfl ?_
    refine aw_loc at_134_49 rfl rfl ?_
    refine ax_add at_134_50 rfl ?_
    refine ax_ild at_134_51 rfl r3 (k := 48 * k + j) (by omega) (by omega) (by decide) ?_
    rw [hc]
    refine ax_ist (k := 0 + j) at_134_52 rfl r9 (by omega) (by omega) (by decide) ?_
    rw [ow_succ2 (F 9) (fun i => co (q.1.getD i 0)) 0 j rfl]
    have h2 : mst (ai_wr S1 442 (.inl (0, ai_I 192 (ax_f (ow (F 9) 0 (fun i => co (q.1.getD i 0)) (j + 1)))))) T D n rc wt kp sx sc (fup (fup F 10 (ax_up (ax_up (F 10) 0 (q.1.length : Nat)) 1 (q.2.length : Nat))) 9 (ow (F 9) 0 (fun i => co (q.1.getD i 0)) (j + 1))) B := by
      have := mst_wr (i := 9) (R := (ow (F 9) 0 (fun i => co (q.1.getD i 0)) (j + 1))) h1 (by decide)
      rw [fup_two] at this
      exact this
    have f2 := f1.tr (fr_md (S := S1) (a := 442) (x := .inl (0, ai_I 192 (ax_f (ow (F 9) 0 (fun i => co (q.1.getD i 0)) (j + 1))))) (by decide) (by decide))
    refine ax_inc at_134_53 rfl rfl rfl ?_
    refine aw_goto at_134_56 ?_
    have := ih (j + 1) _ (by omega) f2 h2
    rw [Int.natCast_add] at this
    exact this
set_option maxHeartbeats 4000000 in
theorem r_m_getR {k : Nat} {q : List Int × List Int} (h : mst S T D n rc wt kp sx sc F B) (hq : qsl (F 3) (F 4) (F 5) k q) (hk : k < 15) (hx : xr (F 9)) (hk1 : al (kn P 129) q.1) (hk2 : al (kn P 129) q.2) : ai_rn L xs (d + 1) 134 [.ref 432, ax_i (k : Nat)] S (fun v S' => v = none ∧ fr 432 452 S S' ∧ ∃ X Z, mst S' T D n rc wt kp sx sc (fup (fup F 9 X) 10 Z) B ∧ mwd X Z 0 q.1 ∧ mwd X Z 1 q.2 ∧ xr X) := by
  have ho := h.1
  have r4 : ai_arr S 437 0 = some (15, ax_f (F 4)) := h.2.1 4 (by decide)
  have r5 : ai_arr S 438 0 = some (15, ax_f (F 5)) := h.2.1 5 (by decide)
  have r10 : ai_arr S 443 0 = some (3, ax_f (F 10)) := h.2.1 10 (by decide)
  refine ai_rn_of (M := ai_m134) rfl (by decide) (Nat.le_of_ble_eq_true rfl) ?_
  refine aw_loc at_134_0 rfl rfl ?_
  refine aw_get at_134_1 rfl fl_12_40 ho rfl ?_
  refine aw_pure (st' := ax_i (0) :: _) at_134_4 rfl rfl ?_
  refine aw_loc at_134_5 rfl rfl ?_
  refine aw_get at_134_6 rfl fl_12_22 ho rfl ?_
  refine aw_loc at_134_9 rfl rfl ?_
  refine ax_ild at_134_10 rfl r4 (k := k) rfl hk (by decide) ?_
  rw [hq.1.1]
  refine ax_ist (k := 0) at_134_11 rfl r10 rfl (by decide) (by decide) ?_
  have h2 : mst (ai_wr S 443 (.inl (0, ai_I 3 (ax_f (ax_up (F 10) 0 (q.1.length : Nat)))))) T D n rc wt kp sx sc (fup F 10 (ax_up (F 10) 0 (q.1.length : Nat))) B := mst_wr (i := 10) h (by decide)
  have f2 := fr_md (S := S) (a := 443) (x := .inl (0, ai_I 3 (ax_f (ax_up (F 10) 0 (q.1.length : Nat))))) (by decide) (by decide)
  generalize ai_wr S 443 (.inl (0, ai_I 3 (ax_f (ax_up (F 10) 0 (q.1.length : Nat))))) = S2 at h2 f2 ⊢
  have ho := h2.1
  have r4 : ai_arr S2 437 0 = some (15, ax_f ((fup F 10 (ax_up (F 10) 0 (q.1.length : Nat))) 4)) := h2.2.1 4 (by decide)
  have r5 : ai_arr S2 438 0 = some (15, ax_f ((fup F 10 (ax_up (F 10) 0 (q.1.length : Nat))) 5)) := h2.2.1 5 (by decide)
  have r10 : ai_arr S2 443 0 = some (3, ax_f ((fup F 10 (ax_up (F 10) 0 (q.1.length : Nat))) 10)) := h2.2.1 10 (by decide)
  rw [show fup F 10 (ax_up (F 10) 0 (q.1.length : Nat)) 5 = F 5 from fup_ne (by decide)] at r5
  rw [fup_get] at r10
  refine aw_loc at_134_12 rfl rfl ?_
  refine aw_get at_134_13 rfl fl_12_40 ho rfl ?_
  refine aw_pure (st' := ax_i (1) :: _) at_134_16 rfl rfl ?_
  refine aw_loc at_134_17 rfl rfl ?_
  refine aw_get at_134_18 rfl fl_12_25 ho rfl ?_
  refine aw_loc at_134_21 rfl rfl ?_
  refine ax_ild at_134_22 rfl r5 (k := k) rfl hk (by decide) ?_
  rw [hq.1.2]
  refine ax_ist (k := 1) at_134_23 rfl r10 rfl (by decide) (by decide) ?_
  have h3 : mst (ai_wr S2 443 (.inl (0, ai_I 3 (ax_f (ax_up (ax_up (F 10) 0 (q.1.length : Nat)) 1 (q.2.length : Nat)))))) T D n rc wt kp sx sc (fup F 10 (ax_up (ax_up (F 10) 0 (q.1.length : Nat)) 1 (q.2.length : Nat))) B := by
    have := mst_wr (i := 10) (R := (ax_up (ax_up (F 10) 0 (q.1.length : Nat)) 1 (q.2.length : Nat))) h2 (by decide)
    rw [fup_two] at this
    exact this
  have f3 := f2.tr (fr_md (S := S2) (a := 443) (x := .inl (0, ai_I 3 (ax_f (ax_up (ax_up (F 10) 0 (q.1.length : Nat)) 1 (q.2.length : Nat))))) (by decide) (by decide))
  refine aw_pure (st' := ax_i (0) :: _) at_134_24 rfl rfl ?_
  refine aw_loc at_134_25 rfl rfl ?_
  refine ai_aw_mono (r_m_getR1 h hq hk q.1.length 0 _ (by omega) f3 (by rw [ow_zero, show fup (fup F 10 (ax_up (ax_up (F 10) 0 (q.1.length : Nat)) 1 (q.2.length : Nat))) 9 (F 9) = fup F 10 (ax_up (ax_up (F 10) 0 (q.1.length : Nat)) 1 (q.2.length : Nat)) from fup_self _ _]; exact h3)) ?_
  rintro o ⟨v, S9, rfl, rfl, f9, h9⟩
  refine ⟨_, _, rfl, rfl, f9, (ow (ow (F 9) 0 (fun i => co (q.1.getD i 0)) q.1.length) 64 (fun i => co (q.2.getD i 0)) q.2.length), (ax_up (ax_up (F 10) 0 (q.1.length : Nat)) 1 (q.2.length : Nat)), ?_, ⟨?_, fun i hi h64 => ?_⟩, ⟨?_, fun i hi h64 => ?_⟩, xr_ow (xr_ow hx (fun i hi => ?_)) (fun i hi => ?_)⟩
  · rw [fup_comm F (show 9 ≠ 10 by decide)]; exact h9
  · show (q.1.length : Int) = _; have := hq.2.1; omega
  · rw [ow_out (by have := hq.2.1; omega), show 64 * 0 + i = 0 + i by omega, ow_in hi]
  · show (q.2.length : Int) = _; have := hq.2.1; omega
  · rw [show 64 * 1 + i = 64 + i by omega, ow_in hi]
  · have := co_in (hk1 (q.1.getD i 0) (by rw [getD_eq hi]; exact List.getElem_mem _)); show 0 ≤ co (q.1.getD i 0) ∧ co (q.1.getD i 0) < 1000; omega
  · have := co_in (hk2 (q.2.getD i 0) (by rw [getD_eq hi]; exact List.getElem_mem _)); show 0 ≤ co (q.2.getD i 0) ∧ co (q.2.getD i 0) < 1000; omega
set_option maxHeartbeats 4000000 in
theorem r_m_getP2 {k : Nat} {q : List Int × List Int} (h : mst S T D n rc wt kp sx sc F B) (hq : qsl (F 6) (F 7) (F 8) k q) (hk : k < 62) : ∀ (m j : Nat) (S1 : ai_S), j + m = q.2.length → fr 432 452 S S1 → mst S1 T D n rc wt kp sx sc (fup (fup F 10 (ax_up (ax_up (F 10) 0 (q.1.length : Nat)) 1 (q.2.length : Nat))) 9 (ow (ow (F 9) 0 (fun i => co (q.1.getD i 0)) q.1.length) 64 (fun i => co (q.2.getD i 0)) j)) B → ai_aw L xs d ai_m115 (fun (o : ai_O) => ∃ v S', o = (.inl v, S') ∧ v = none ∧ fr 432 452 S S' ∧ mst S' T D n rc wt kp sx sc (fup (fup F 10 (ax_up (ax_up (F 10) 0 (q.1.length : Nat)) 1 (q.2.length : Nat))) 9 (ow (ow (F 9) 0 (fun i => co (q.1.getD i 0)) q.1.length) 64 (fun i => co (q.2.getD i 0)) q.2.length)) B) (61, [some (.ref 432), some (ax_i (k : Nat)), some (ax_i (j : Nat))], [], S1) := by
  intro m
  induction m with
  | zero =>
    intro j S1 hj f1 h1
    have ho := h1.1
    have r6 : ai_arr S1 439 0 = some (2976, ax_f ((fup (fup F 10 (ax_up (ax_up (F 10) 0 (q.1.length : Nat)) 1 (q.2.length : Nat))) 9 (ow (ow (F 9) 0 (fun i => co (q.1.getD i 0)) q.1.length) 64 (fun i => co (q.2.getD i 0)) j)) 6)) := h1.2.1 6 (by decide)
    have r9 : ai_arr S1 442 0 = some (192, ax_f ((fup (fup F 10 (ax_up (ax_up (F 10) 0 (q.1.length : Nat)) 1 (q.2.length : Nat))) 9 (ow (ow (F 9) 0 (fun i => co (q.1.getD i 0)) q.1.length) 64 (fun i => co (q.2.getD i 0)) j)) 9)) := h1.2.1 9 (by decide)
    have r10 : ai_arr S1 443 0 = some (3, ax_f ((fup (fup F 10 (ax_up (ax_up (F 10) 0 (q.1.length : Nat)) 1 (q.2.length : Nat))) 9 (ow (ow (F 9) 0 (fun i => co (q.1.getD i 0)) q.1.length) 64 (fun i => co (q.2.getD i 0)) j)) 10)) := h1.2.1 10 (by decide)
    rw [show (fup (fup F 10 (ax_up (ax_up (F 10) 0 (q.1.length : Nat)) 1 (q.2.length : Nat))) 9 (ow (ow (F 9) 0 (fun i => co (q.1.getD i 0)) q.1.length) 64 (fun i => co (q.2.getD i 0)) j)) 6 = F 6 from (fup_ne (by decide)).trans (fup_ne (by decide))] at r6
    rw [show (fup (fup F 10 (ax_up (ax_up (F 10) 0 (q.1.length : Nat)) 1 (q.2.length : Nat))) 9 (ow (ow (F 9) 0 (fun i => co (q.1.getD i 0)) q.1.length) 64 (fun i => co (q.2.getD i 0)) j)) 9 = (ow (ow (F 9) 0 (fun i => co (q.1.getD i 0)) q.1.length) 64 (fun i => co (q.2.getD i 0)) j) from fup_get _ _ _] at r9
    rw [show (fup (fup F 10 (ax_up (ax_up (F 10) 0 (q.1.length : Nat)) 1 (q.2.length : Nat))) 9 (ow (ow (F 9) 0 (fun i => co (q.1.getD i 0)) q.1.length) 64 (fun i => co (q.2.getD i 0)) j)) 10 = (ax_up (ax_up (F 10) 0 (q.1.length : Nat)) 1 (q.2.length : Nat)) from (fup_ne (by decide)).trans (fup_get _ _ _)] at r10
    have zt : (ax_up (ax_up (F 10) 0 (q.1.length : Nat)) 1 (q.2.length : Nat)) 1 = (q.2.length : Int) := rfl
    have hl24 := hq.2.1
    obtain rfl : j = q.2.length := by omega
    refine aw_loc at_115_61 rfl rfl ?_
    refine aw_loc at_115_62 rfl rfl ?_
    refine aw_get at_115_63 rfl fl_12_40 ho rfl ?_
    refine aw_pure (st' := ax_i (1) :: _) at_115_66 rfl rfl ?_
    refine ax_ild at_115_67 rfl r10 (k := 1) rfl (by decide) (by decide) ?_
    rw [zt]
    refine ax_icmp_ge at_115_68 ⟨by omega, by omega⟩ ⟨by omega, by omega⟩ (fun _ => ?_) (fun z => absurd z (by omega))
    exact aw_vret at_115_100 rfl ⟨_, _, rfl, rfl, f1, h1⟩
  | succ m ih =>
    intro j S1 hj f1 h1
    have ho := h1.1
    have r6 : ai_arr S1 439 0 = some (2976, ax_f ((fup (fup F 10 (ax_up (ax_up (F 10) 0 (q.1.length : Nat)) 1 (q.2.length : Nat))) 9 (ow (ow (F 9) 0 (fun i => co (q.1.getD i 0)) q.1.length) 64 (fun i => co (q.2.getD i 0)) j)) 6)) := h1.2.1 6 (by decide)
    have r9 : ai_arr S1 442 0 = some (192, ax_f ((fup (fup F 10 (ax_up (ax_up (F 10) 0 (q.1.length : Nat)) 1 (q.2.length : Nat))) 9 (ow (ow (F 9) 0 (fun i => co (q.1.getD i 0)) q.1.length) 64 (fun i => co (q.2.getD i 0)) j)) 9)) := h1.2.1 9 (by decide)
    have r10 : ai_arr S1 443 0 = some (3, ax_f ((fup (fup F 10 (ax_up (ax_up (F 10) 0 (q.1.length : Nat)) 1 (q.2.length : Nat))) 9 (ow (ow (F 9) 0 (fun i => co (q.1.getD i 0)) q.1.length) 64 (fun i => co (q.2.getD i 0)) j)) 10)) := h1.2.1 10 (by decide)
    rw [show (fup (fup F 10 (ax_up (ax_up (F 10) 0 (q.1.length : Nat)) 1 (q.2.length : Nat))) 9 (ow (ow (F 9) 0 (fun i => co (q.1.getD i 0)) q.1.length) 64 (fun i => co (q.2.getD i 0)) j)) 6 = F 6 from (fup_ne (by decide)).trans (fup_ne (by decide))] at r6
    rw [show (fup (fup F 10 (ax_up (ax_up (F 10) 0 (q.1.length : Nat)) 1 (q.2.length : Nat))) 9 (ow (ow (F 9) 0 (fun i => co (q.1.getD i 0)) q.1.length) 64 (fun i => co (q.2.getD i 0)) j)) 9 = (ow (ow (F 9) 0 (fun i => co (q.1.getD i 0)) q.1.length) 64 (fun i => co (q.2.getD i 0)) j) from fup_get _ _ _] at r9
    rw [show (fup (fup F 10 (ax_up (ax_up (F 10) 0 (q.1.length : Nat)) 1 (q.2.length : Nat))) 9 (ow (ow (F 9) 0 (fun i => co (q.1.getD i 0)) q.1.length) 64 (fun i => co (q.2.getD i 0)) j)) 10 = (ax_up (ax_up (F 10) 0 (q.1.length : Nat)) 1 (q.2.length : Nat)) from (fup_ne (by decide)).trans (fup_get _ _ _)] at r10
    have zt : (ax_up (ax_up (F 10) 0 (q.1.length : Nat)) 1 (q.2.length : Nat)) 1 = (q.2.length : Int) := rfl
    have hl24 := hq.2.1
    have hc := hq.2.2.2 j (by omega)
    refine aw_loc at_115_61 rfl rfl ?_
    refine aw_loc at_115_62 rfl rfl ?_
    refine aw_get at_115_63 rfl fl_12_40 ho rfl ?_
    refine aw_pure (st' := ax_i (1) :: _) at_115_66 rfl rfl ?_
    refine ax_ild at_115_67 rfl r10 (k := 1) rfl (by decide) (by decide) ?_
    rw [zt]
    refine ax_icmp_ge at_115_68 ⟨by omega, by omega⟩ ⟨by omega, by omega⟩ (fun z => absurd z (by omega)) (fun _ => ?_)
    refine aw_loc at_115_71 rfl rfl ?_
    refine aw_get at_115_72 rfl fl_12_37 ho rfl ?_
    refine aw_pure (st' := ax_i (64) :: _) at_115_75 rfl rfl ?_
    refine aw_loc at_115_77 rfl rfl ?_
    refine ax_add at_115_78 rfl ?_
    refine aw_loc at_115_79 rfl rfl ?_
    refine aw_get at_115_80 rfl fl_12_28 ho rfl ?_
    refine aw_pure (st' := ax_i (48) :: _) at_115_83 rfl rfl ?_
    refine aw_loc at_115_85 rfl rfl ?_
    refine ax_mul at_115_86 rfl ?_
    refine aw_pure (st' := ax_i (24) :: _) at_115_87 rfl rfl ?_
    refine ax_add at_115_89 rfl ?_
    refine aw_loc at_115_90 rfl rfl ?_
    refine ax_add at_115_91 rfl ?_
    refine ax_ild at_115_92 rfl r6 (k := 48 * k + 24 + j) (by omega) (by omega) (by decide) ?_
    rw [hc]
    refine ax_ist (k := 64 + j) at_115_93 rfl r9 (by omega) (by omega) (by decide) ?_
    rw [ow_succ2 ((ow (F 9) 0 (fun i => co (q.1.getD i 0)) q.1.length)) (fun i => co (q.2.getD i 0)) 64 j rfl]
    have h2 : mst (ai_wr S1 442 (.inl (0, ai_I 192 (ax_f (ow (ow (F 9) 0 (fun i => co (q.1.getD i 0)) q.1.length) 64 (fun i => co (q.2.getD i 0)) (j + 1)))))) T D n rc wt kp sx sc (fup (fup F 10 (ax_up (ax_up (F 10) 0 (q.1.length : Nat)) 1 (q.2.length : Nat))) 9 (ow (ow (F 9) 0 (fun i => co (q.1.getD i 0)) q.1.length) 64 (fun i => co (q.2.getD i 0)) (j + 1))) B := by
      have := mst_wr (i := 9) (R := (ow (ow (F 9) 0 (fun i => co (q.1.getD i 0)) q.1.length) 64 (fun i => co (q.2.getD i 0)) (j + 1))) h1 (by decide)
      rw [fup_two] at this
      exact this
    have f2 := f1.tr (fr_md (S := S1) (a := 442) (x := .inl (0, ai_I 192 (ax_f (ow (ow (F 9) 0 (fun i => co (q.1.getD i 0)) q.1.length) 64 (fun i => co (q.2.getD i 0)) (j + 1))))) (by decide) (by decide))
    refine ax_inc at_115_94 rfl rfl rfl ?_
    refine aw_goto at_115_97 ?_
    have := ih (j + 1) _ (by omega) f2 h2
    rw [Int.natCast_add] at this
    exact this
set_option maxHeartbeats 4000000 in
theorem r_m_getP1 {k : Nat} {q : List Int × List Int} (h : mst S T D n rc wt kp sx sc F B) (hq : qsl (F 6) (F 7) (F 8) k q) (hk : k < 62) : ∀ (m j : Nat) (S1 : ai_S), j + m = q.1.length → fr 432 452 S S1 → mst S1 T D n rc wt kp sx sc (fup (fup F 10 (ax_up (ax_up (F 10) 0 (q.1.length : Nat)) 1 (q.2.length : Nat))) 9 (ow (F 9) 0 (fun i => co (q.1.getD i 0)) j)) B → ai_aw L xs d ai_m115 (fun (o : ai_O) => ∃ v S', o = (.inl v, S') ∧ v = none ∧ fr 432 452 S S' ∧ mst S' T D n rc wt kp sx sc (fup (fup F 10 (ax_up (ax_up (F 10) 0 (q.1.length : Nat)) 1 (q.2.length : Nat))) 9 (ow (ow (F 9) 0 (fun i => co (q.1.getD i 0)) q.1.length) 64 (fun i => co (q.2.getD i 0)) q.2.length)) B) (26, [some (.ref 432), some (ax_i (k : Nat)), some (ax_i (j : Nat))], [], S1) := by
  intro m
  induction m with
  | zero =>
    intro j S1 hj f1 h1
    have ho := h1.1
    have r6 : ai_arr S1 439 0 = some (2976, ax_f ((fup (fup F 10 (ax_up (ax_up (F 10) 0 (q.1.length : Nat)) 1 (q.2.length : Nat))) 9 (ow (F 9) 0 (fun i => co (q.1.getD i 0)) j)) 6)) := h1.2.1 6 (by decide)
    have r9 : ai_arr S1 442 0 = some (192, ax_f ((fup (fup F 10 (ax_up (ax_up (F 10) 0 (q.1.length : Nat)) 1 (q.2.length : Nat))) 9 (ow (F 9) 0 (fun i => co (q.1.getD i 0)) j)) 9)) := h1.2.1 9 (by decide)
    have r10 : ai_arr S1 443 0 = some (3, ax_f ((fup (fup F 10 (ax_up (ax_up (F 10) 0 (q.1.length : Nat)) 1 (q.2.length : Nat))) 9 (ow (F 9) 0 (fun i => co (q.1.getD i 0)) j)) 10)) := h1.2.1 10 (by decide)
    rw [show (fup (fup F 10 (ax_up (ax_up (F 10) 0 (q.1.length : Nat)) 1 (q.2.length : Nat))) 9 (ow (F 9) 0 (fun i => co (q.1.getD i 0)) j)) 6 = F 6 from (fup_ne (by decide)).trans (fup_ne (by decide))] at r6
    rw [show (fup (fup F 10 (ax_up (ax_up (F 10) 0 (q.1.length : Nat)) 1 (q.2.length : Nat))) 9 (ow (F 9) 0 (fun i => co (q.1.getD i 0)) j)) 9 = (ow (F 9) 0 (fun i => co (q.1.getD i 0)) j) from fup_get _ _ _] at r9
    rw [show (fup (fup F 10 (ax_up (ax_up (F 10) 0 (q.1.length : Nat)) 1 (q.2.length : Nat))) 9 (ow (F 9) 0 (fun i => co (q.1.getD i 0)) j)) 10 = (ax_up (ax_up (F 10) 0 (q.1.length : Nat)) 1 (q.2.length : Nat)) from (fup_ne (by decide)).trans (fup_get _ _ _)] at r10
    have zt : (ax_up (ax_up (F 10) 0 (q.1.length : Nat)) 1 (q.2.length : Nat)) 0 = (q.1.length : Int) := rfl
    have hl24 := hq.2.1
    obtain rfl : j = q.1.length := by omega
    refine aw_loc at_115_26 rfl rfl ?_
    refine aw_loc at_115_27 rfl rfl ?_
    refine aw_get at_115_28 rfl fl_12_40 ho rfl ?_
    refine aw_pure (st' := ax_i (0) :: _) at_115_31 rfl rfl ?_
    refine ax_ild at_115_32 rfl r10 (k := 0) rfl (by decide) (by decide) ?_
    rw [zt]
    refine ax_icmp_ge at_115_33 ⟨by omega, by omega⟩ ⟨by omega, by omega⟩ (fun _ => ?_) (fun z => absurd z (by omega))
    show ai_aw L xs d ai_m115 _ (59, _, _, _)
    refine aw_pure (st' := ax_i (0) :: _) at_115_59 rfl rfl ?_
    refine aw_loc at_115_60 rfl rfl ?_
    exact r_m_getP2 h hq hk q.2.length 0 S1 (by omega) f1 (by rw [ow_zero]; exact h1)
  | succ m ih =>
    intro j S1 hj f1 h1
    have ho := h1.1
    have r6 : ai_arr S1 439 0 = some (2976, ax_f ((fup (fup F 10 (ax_up (ax_up (F 10) 0 (q.1.length : Nat)) 1 (q.2.length : Nat))) 9 (ow (F 9) 0 (fun i => co (q.1.getD i 0)) j)) 6)) := h1.2.1 6 (by decide)
    have r9 : ai_arr S1 442 0 = some (192, ax_f ((fup (fup F 10 (ax_up (ax_up (F 10) 0 (q.1.length : Nat)) 1 (q.2.length : Nat))) 9 (ow (F 9) 0 (fun i => co (q.1.getD i 0)) j)) 9)) := h1.2.1 9 (by decide)
    have r10 : ai_arr S1 443 0 = some (3, ax_f ((fup (fup F 10 (ax_up (ax_up (F 10) 0 (q.1.length : Nat)) 1 (q.2.length : Nat))) 9 (ow (F 9) 0 (fun i => co (q.1.getD i 0)) j)) 10)) := h1.2.1 10 (by decide)
    rw [show (fup (fup F 10 (ax_up (ax_up (F 10) 0 (q.1.length : Nat)) 1 (q.2.length : Nat))) 9 (ow (F 9) 0 (fun i => co (q.1.getD i 0)) j)) 6 = F 6 from (fup_ne (by decide)).trans (fup_ne (by decide))] at r6
    rw [show (fup (fup F 10 (ax_up (ax_up (F 10) 0 (q.1.length : Nat)) 1 (q.2.length : Nat))) 9 (ow (F 9) 0 (fun i => co (q.1.getD i 0)) j)) 9 = (ow (F 9) 0 (fun i => co (q.1.getD i 0)) j) from fup_get _ _ _] at r9
    rw [show (fup (fup F 10 (ax_up (ax_up (F 10) 0 (q.1.length : Nat)) 1 (q.2.length : Nat))) 9 (ow (F 9) 0 (fun i => co (q.1.getD i 0)) j)) 10 = (ax_up (ax_up (F 10) 0 (q.1.length : Nat)) 1 (q.2.length : Nat)) from (fup_ne (by decide)).trans (fup_get _ _ _)] at r10
    have zt : (ax_up (ax_up (F 10) 0 (q.1.length : Nat)) 1 (q.2.length : Nat)) 0 = (q.1.length : Int) := rfl
    have hl24 := hq.2.1
    have hc := hq.2.2.1 j (by omega)
    refine aw_loc at_115_26 rfl rfl ?_
    refine aw_loc at_115_27 rfl rfl ?_
    refine aw_get at_115_28 rfl fl_12_40 ho rfl ?_
    refine aw_pure (st' := ax_i (0) :: _) at_115_31 rfl rfl ?_
    refine ax_ild at_115_32 rfl r10 (k := 0) rfl (by decide) (by decide) ?_
    rw [zt]
    refine ax_icmp_ge at_115_33 ⟨by omega, by omega⟩ ⟨by omega, by omega⟩ (fun z => absurd z (by omega)) (fun _ => ?_)
    refine aw_loc at_115_36 rfl rfl ?_
    refine aw_get at_115_37 rfl fl_12_37 ho rfl ?_
    refine aw_loc at_115_40 rfl rfl ?_
    refine aw_loc at_115_41 rfl rfl ?_
    refine aw_get at_115_42 rfl fl_12_28 ho rfl ?_
    refine aw_pure (st' := ax_i (48) :: _) at_115_45 rfl rfl ?_
    refine aw_loc at_115_47 rfl rfl ?_
    refine ax_mul at_115_48 rfl ?_
    refine aw_loc at_115_49 rfl rfl ?_
    refine ax_add at_115_50 rfl ?_
    refine ax_ild at_115_51 rfl r6 (k := 48 * k + j) (by omega) (by omega) (by decide) ?_
    rw [hc]
    refine ax_ist (k := 0 + j) at_115_52 rfl r9 (by omega) (by omega) (by decide) ?_
    rw [ow_succ2 (F 9) (fun i => co (q.1.getD i 0)) 0 j rfl]
    have h2 : mst (ai_wr S1 442 (.inl (0, ai_I 192 (ax_f (ow (F 9) 0 (fun i => co (q.1.getD i 0)) (j + 1)))))) T D n rc wt kp sx sc (fup (fup F 10 (ax_up (ax_up (F 10) 0 (q.1.length : Nat)) 1 (q.2.length : Nat))) 9 (ow (F 9) 0 (fun i => co (q.1.getD i 0)) (j + 1))) B := by
      have := mst_wr (i := 9) (R := (ow (F 9) 0 (fun i => co (q.1.getD i 0)) (j + 1))) h1 (by decide)
      rw [fup_two] at this
      exact this
    have f2 := f1.tr (fr_md (S := S1) (a := 442) (x := .inl (0, ai_I 192 (ax_f (ow (F 9) 0 (fun i => co (q.1.getD i 0)) (j + 1))))) (by decide) (by decide))
    refine ax_inc at_115_53 rfl rfl rfl ?_
    refine aw_goto at_115_56 ?_
    have := ih (j + 1) _ (by omega) f2 h2
    rw [Int.natCast_add] at this
    exact this
set_option maxHeartbeats 4000000 in
theorem r_m_getP {k : Nat} {q : List Int × List Int} (h : mst S T D n rc wt kp sx sc F B) (hq : qsl (F 6) (F 7) (F 8) k q) (hk : k < 62) (hx : xr (F 9)) (hk1 : al (kn P 129) q.1) (hk2 : al (kn P 129) q.2) : ai_rn L xs (d + 1) 115 [.ref 432, ax_i (k : Nat)] S (fun v S' => v = none ∧ fr 432 452 S S' ∧ ∃ X Z, mst S' T D n rc wt kp sx sc (fup (fup F 9 X) 10 Z) B ∧ mwd X Z 0 q.1 ∧ mwd X Z 1 q.2 ∧ xr X) := by
  have ho := h.1
  have r7 : ai_arr S 440 0 = some (62, ax_f (F 7)) := h.2.1 7 (by decide)
  have r8 : ai_arr S 441 0 = some (62, ax_f (F 8)) := h.2.1 8 (by decide)
  have r10 : ai_arr S 443 0 = some (3, ax_f (F 10)) := h.2.1 10 (by decide)
  refine ai_rn_of (M := ai_m115) rfl (by decide) (Nat.le_of_ble_eq_true rfl) ?_
  refine aw_loc at_115_0 rfl rfl ?_
  refine aw_get at_115_1 rfl fl_12_40 ho rfl ?_
  refine aw_pure (st' := ax_i (0) :: _) at_115_4 rfl rfl ?_
  refine aw_loc at_115_5 rfl rfl ?_
  refine aw_get at_115_6 rfl fl_12_31 ho rfl ?_
  refine aw_loc at_115_9 rfl rfl ?_
  refine ax_ild at_115_10 rfl r7 (k := k) rfl hk (by decide) ?_
  rw [hq.1.1]
  refine ax_ist (k := 0) at_115_11 rfl r10 rfl (by decide) (by decide) ?_
  have h2 : mst (ai_wr S 443 (.inl (0, ai_I 3 (ax_f (ax_up (F 10) 0 (q.1.length : Nat)))))) T D n rc wt kp sx sc (fup F 10 (ax_up (F 10) 0 (q.1.length : Nat))) B := mst_wr (i := 10) h (by decide)
  have f2 := fr_md (S := S) (a := 443) (x := .inl (0, ai_I 3 (ax_f (ax_up (F 10) 0 (q.1.length : Nat))))) (by decide) (by decide)
  generalize ai_wr S 443 (.inl (0, ai_I 3 (ax_f (ax_up (F 10) 0 (q.1.length : Nat))))) = S2 at h2 f2 ⊢
  have ho := h2.1
  have r7 : ai_arr S2 440 0 = some (62, ax_f ((fup F 10 (ax_up (F 10) 0 (q.1.length : Nat))) 7)) := h2.2.1 7 (by decide)
  have r8 : ai_arr S2 441 0 = some (62, ax_f ((fup F 10 (ax_up (F 10) 0 (q.1.length : Nat))) 8)) := h2.2.1 8 (by decide)
  have r10 : ai_arr S2 443 0 = some (3, ax_f ((fup F 10 (ax_up (F 10) 0 (q.1.length : Nat))) 10)) := h2.2.1 10 (by decide)
  rw [show fup F 10 (ax_up (F 10) 0 (q.1.length : Nat)) 8 = F 8 from fup_ne (by decide)] at r8
  rw [fup_get] at r10
  refine aw_loc at_115_12 rfl rfl ?_
  refine aw_get at_115_13 rfl fl_12_40 ho rfl ?_
  refine aw_pure (st' := ax_i (1) :: _) at_115_16 rfl rfl ?_
  refine aw_loc at_115_17 rfl rfl ?_
  refine aw_get at_115_18 rfl fl_12_34 ho rfl ?_
  refine aw_loc at_115_21 rfl rfl ?_
  refine ax_ild at_115_22 rfl r8 (k := k) rfl hk (by decide) ?_
  rw [hq.1.2]
  refine ax_ist (k := 1) at_115_23 rfl r10 rfl (by decide) (by decide) ?_
  have h3 : mst (ai_wr S2 443 (.inl (0, ai_I 3 (ax_f (ax_up (ax_up (F 10) 0 (q.1.length : Nat)) 1 (q.2.length : Nat)))))) T D n rc wt kp sx sc (fup F 10 (ax_up (ax_up (F 10) 0 (q.1.length : Nat)) 1 (q.2.length : Nat))) B := by
    have := mst_wr (i := 10) (R := (ax_up (ax_up (F 10) 0 (q.1.length : Nat)) 1 (q.2.length : Nat))) h2 (by decide)
    rw [fup_two] at this
    exact this
  have f3 := f2.tr (fr_md (S := S2) (a := 443) (x := .inl (0, ai_I 3 (ax_f (ax_up (ax_up (F 10) 0 (q.1.length : Nat)) 1 (q.2.length : Nat))))) (by decide) (by decide))
  refine aw_pure (st' := ax_i (0) :: _) at_115_24 rfl rfl ?_
  refine aw_loc at_115_25 rfl rfl ?_
  refine ai_aw_mono (r_m_getP1 h hq hk q.1.length 0 _ (by omega) f3 (by rw [ow_zero, show fup (fup F 10 (ax_up (ax_up (F 10) 0 (q.1.length : Nat)) 1 (q.2.length : Nat))) 9 (F 9) = fup F 10 (ax_up (ax_up (F 10) 0 (q.1.length : Nat)) 1 (q.2.length : Nat)) from fup_self _ _]; exact h3)) ?_
  rintro o ⟨v, S9, rfl, rfl, f9, h9⟩
  refine ⟨_, _, rfl, rfl, f9, (ow (ow (F 9) 0 (fun i => co (q.1.getD i 0)) q.1.length) 64 (fun i => co (q.2.getD i 0)) q.2.length), (ax_up (ax_up (F 10) 0 (q.1.length : Nat)) 1 (q.2.length : Nat)), ?_, ⟨?_, fun i hi h64 => ?_⟩, ⟨?_, fun i hi h64 => ?_⟩, xr_ow (xr_ow hx (fun i hi => ?_)) (fun i hi => ?_)⟩
  · rw [fup_comm F (show 9 ≠ 10 by decide)]; exact h9
  · show (q.1.length : Int) = _; have := hq.2.1; omega
  · rw [ow_out (by have := hq.2.1; omega), show 64 * 0 + i = 0 + i by omega, ow_in hi]
  · show (q.2.length : Int) = _; have := hq.2.1; omega
  · rw [show 64 * 1 + i = 64 + i by omega, ow_in hi]
  · have := co_in (hk1 (q.1.getD i 0) (by rw [getD_eq hi]; exact List.getElem_mem _)); show 0 ≤ co (q.1.getD i 0) ∧ co (q.1.getD i 0) < 1000; omega
  · have := co_in (hk2 (q.2.getD i 0) (by rw [getD_eq hi]; exact List.getElem_mem _)); show 0 ≤ co (q.2.getD i 0) ∧ co (q.2.getD i 0) < 1000; omega
set_option maxHeartbeats 4000000 in
theorem r_m_setR2 {k : Nat} {l r : List Int} (h : mst S T D n rc wt kp sx sc F B) (h0 : mwd (F 9) (F 10) 0 l) (h1 : mwd (F 9) (F 10) 1 r) (hl : l.length ≤ 24) (hr : r.length ≤ 24) (hk : k < 15) : ∀ (m j : Nat) (S1 : ai_S), j + m = r.length → fr 432 452 S S1 → mst S1 T D n rc wt kp sx sc (fup (fup (fup F 4 (ax_up (F 4) k (l.length : Nat))) 5 (ax_up (F 5) k (r.length : Nat))) 3 (ow (ow (F 3) (48 * k) (fun i => co (l.getD i 0)) l.length) (48 * k + 24) (fun i => co (r.getD i 0)) j)) B → ai_aw L xs d ai_m132 (fun (o : ai_O) => ∃ v S', o = (.inl v, S') ∧ v = none ∧ fr 432 452 S S' ∧ mst S' T D n rc wt kp sx sc (fup (fup (fup F 4 (ax_up (F 4) k (l.length : Nat))) 5 (ax_up (F 5) k (r.length : Nat))) 3 (ow (ow (F 3) (48 * k) (fun i => co (l.getD i 0)) l.length) (48 * k + 24) (fun i => co (r.getD i 0)) r.length)) B) (61, [some (.ref 432), some (ax_i (k : Nat)), some (ax_i (j : Nat))], [], S1) := by
  have zt := mwd_len h1 (by omega)
  intro m
  induction m with
  | zero =>
    intro j S1 hj f1 g1
    have ho := g1.1
    have r3 : ai_arr S1 436 0 = some (720, ax_f ((fup (fup (fup F 4 (ax_up (F 4) k (l.length : Nat))) 5 (ax_up (F 5) k (r.length : Nat))) 3 (ow (ow (F 3) (48 * k) (fun i => co (l.getD i 0)) l.length) (48 * k + 24) (fun i => co (r.getD i 0)) j)) 3)) := g1.2.1 3 (by decide)
    have r9 : ai_arr S1 442 0 = some (192, ax_f ((fup (fup (fup F 4 (ax_up (F 4) k (l.length : Nat))) 5 (ax_up (F 5) k (r.length : Nat))) 3 (ow (ow (F 3) (48 * k) (fun i => co (l.getD i 0)) l.length) (48 * k + 24) (fun i => co (r.getD i 0)) j)) 9)) := g1.2.1 9 (by decide)
    have r10 : ai_arr S1 443 0 = some (3, ax_f ((fup (fup (fup F 4 (ax_up (F 4) k (l.length : Nat))) 5 (ax_up (F 5) k (r.length : Nat))) 3 (ow (ow (F 3) (48 * k) (fun i => co (l.getD i 0)) l.length) (48 * k + 24) (fun i => co (r.getD i 0)) j)) 10)) := g1.2.1 10 (by decide)
    rw [show (fup (fup (fup F 4 (ax_up (F 4) k (l.length : Nat))) 5 (ax_up (F 5) k (r.length : Nat))) 3 (ow (ow (F 3) (48 * k) (fun i => co (l.getD i 0)) l.length) (48 * k + 24) (fun i => co (r.getD i 0)) j)) 3 = (ow (ow (F 3) (48 * k) (fun i => co (l.getD i 0)) l.length) (48 * k + 24) (fun i => co (r.getD i 0)) j) from fup_get _ _ _] at r3
    rw [show (fup (fup (fup F 4 (ax_up (F 4) k (l.length : Nat))) 5 (ax_up (F 5) k (r.length : Nat))) 3 (ow (ow (F 3) (48 * k) (fun i => co (l.getD i 0)) l.length) (48 * k + 24) (fun i => co (r.getD i 0)) j)) 9 = F 9 from (fup_ne (by decide)).trans ((fup_ne (by decide)).trans (fup_ne (by decide)))] at r9
    rw [show (fup (fup (fup F 4 (ax_up (F 4) k (l.length : Nat))) 5 (ax_up (F 5) k (r.length : Nat))) 3 (ow (ow (F 3) (48 * k) (fun i => co (l.getD i 0)) l.length) (48 * k + 24) (fun i => co (r.getD i 0)) j)) 10 = F 10 from (fup_ne (by decide)).trans ((fup_ne (by decide)).trans (fup_ne (by decide)))] at r10
    obtain rfl : j = r.length := by omega
    refine aw_loc at_132_61 rfl rfl ?_
    refine aw_loc at_132_62 rfl rfl ?_
    refine aw_get at_132_63 rfl fl_12_40 ho rfl ?_
    refine aw_pure (st' := ax_i (1) :: _) at_132_66 rfl rfl ?_
    refine ax_ild at_132_67 rfl r10 (k := 1) rfl (by decide) (by decide) ?_
    rw [zt]
    refine ax_icmp_ge at_132_68 ⟨by omega, by omega⟩ ⟨by omega, by omega⟩ (fun _ => ?_) (fun z => absurd z (by omega))
    exact aw_vret at_132_100 rfl ⟨_, _, rfl, rfl, f1, g1⟩
  | succ m ih =>
    intro j S1 hj f1 g1
    have ho := g1.1
    have r3 : ai_arr S1 436 0 = some (720, ax_f ((fup (fup (fup F 4 (ax_up (F 4) k (l.length : Nat))) 5 (ax_up (F 5) k (r.length : Nat))) 3 (ow (ow (F 3) (48 * k) (fun i => co (l.getD i 0)) l.length) (48 * k + 24) (fun i => co (r.getD i 0)) j)) 3)) := g1.2.1 3 (by decide)
    have r9 : ai_arr S1 442 0 = some (192, ax_f ((fup (fup (fup F 4 (ax_up (F 4) k (l.length : Nat))) 5 (ax_up (F 5) k (r.length : Nat))) 3 (ow (ow (F 3) (48 * k) (fun i => co (l.getD i 0)) l.length) (48 * k + 24) (fun i => co (r.getD i 0)) j)) 9)) := g1.2.1 9 (by decide)
    have r10 : ai_arr S1 443 0 = some (3, ax_f ((fup (fup (fup F 4 (ax_up (F 4) k (l.length : Nat))) 5 (ax_up (F 5) k (r.length : Nat))) 3 (ow (ow (F 3) (48 * k) (fun i => co (l.getD i 0)) l.length) (48 * k + 24) (fun i => co (r.getD i 0)) j)) 10)) := g1.2.1 10 (by decide)
    rw [show (fup (fup (fup F 4 (ax_up (F 4) k (l.length : Nat))) 5 (ax_up (F 5) k (r.length : Nat))) 3 (ow (ow (F 3) (48 * k) (fun i => co (l.getD i 0)) l.length) (48 * k + 24) (fun i => co (r.getD i 0)) j)) 3 = (ow (ow (F 3) (48 * k) (fun i => co (l.getD i 0)) l.length) (48 * k + 24) (fun i => co (r.getD i 0)) j) from fup_get _ _ _] at r3
    rw [show (fup (fup (fup F 4 (ax_up (F 4) k (l.length : Nat))) 5 (ax_up (F 5) k (r.length : Nat))) 3 (ow (ow (F 3) (48 * k) (fun i => co (l.getD i 0)) l.length) (48 * k + 24) (fun i => co (r.getD i 0)) j)) 9 = F 9 from (fup_ne (by decide)).trans ((fup_ne (by decide)).trans (fup_ne (by decide)))] at r9
    rw [show (fup (fup (fup F 4 (ax_up (F 4) k (l.length : Nat))) 5 (ax_up (F 5) k (r.length : Nat))) 3 (ow (ow (F 3) (48 * k) (fun i => co (l.getD i 0)) l.length) (48 * k + 24) (fun i => co (r.getD i 0)) j)) 10 = F 10 from (fup_ne (by decide)).trans ((fup_ne (by decide)).trans (fup_ne (by decide)))] at r10
    have hc := h1.2 j (by omega) (by omega)
    refine aw_loc at_132_61 rfl rfl ?_
    refine aw_loc at_132_62 rfl rfl ?_
    refine aw_get at_132_63 rfl fl_12_40 ho rfl ?_
    refine aw_pure (st' := ax_i (1) :: _) at_132_66 rfl rfl ?_
    refine ax_ild at_132_67 rfl r10 (k := 1) rfl (by decide) (by decide) ?_
    rw [zt]
    refine ax_icmp_ge at_132_68 ⟨by omega, by omega⟩ ⟨by omega, by omega⟩ (fun z => absurd z (by omega)) (fun _ => ?_)
    refine aw_loc at_132_71 rfl rfl ?_
    refine aw_get at_132_72 rfl fl_12_19 ho rfl ?_
    refine aw_pure (st' := ax_i (48) :: _) at_132_75 rfl rfl ?_
    refine aw_loc at_132_77 rfl rfl ?_
    refine ax_mul at_132_78 rfl ?_
    refine aw_pure (st' := ax_i (24) :: _) at_132_79 rfl rfl ?_
    refine ax_add at_132_81 rfl ?_
    refine aw_loc at_132_82 rfl rfl ?_
    refine ax_add at_132_83 rfl ?_
    refine aw_loc at_132_84 rfl rfl ?_
    refine aw_get at_132_85 rfl fl_12_37 ho rfl ?_
    refine aw_pure (st' := ax_i (64) :: _) at_132_88 rfl rfl ?_
    refine aw_loc at_132_90 rfl rfl ?_
    refine ax_add at_132_91 rfl ?_
    refine ax_ild at_132_92 rfl r9 (k := 64 * 1 + j) (by omega) (by omega) (by decide) ?_
    rw [hc]
    refine ax_ist (k := 48 * k + 24 + j) at_132_93 rfl r3 (by omega) (by omega) (by decide) ?_
    rw [ow_succ2 ((ow (F 3) (48 * k) (fun i => co (l.getD i 0)) l.length)) (fun i => co (r.getD i 0)) (48 * k + 24) j rfl]
    have h2 : mst (ai_wr S1 436 (.inl (0, ai_I 720 (ax_f (ow (ow (F 3) (48 * k) (fun i => co (l.getD i 0)) l.length) (48 * k + 24) (fun i => co (r.getD i 0)) (j + 1)))))) T D n rc wt kp sx sc (fup (fup (fup F 4 (ax_up (F 4) k (l.length : Nat))) 5 (ax_up (F 5) k (r.length : Nat))) 3 (ow (ow (F 3) (48 * k) (fun i => co (l.getD i 0)) l.length) (48 * k + 24) (fun i => co (r.getD i 0)) (j + 1))) B := by
      have := mst_wr (i := 3) (R := (ow (ow (F 3) (48 * k) (fun i => co (l.getD i 0)) l.length) (48 * k + 24) (fun i => co (r.getD i 0)) (j + 1))) g1 (by decide)
      rw [fup_two] at this
      exact this
    have f2 := f1.tr (fr_md (S := S1) (a := 436) (x := .inl (0, ai_I 720 (ax_f (ow (ow (F 3) (48 * k) (fun i => co (l.getD i 0)) l.length) (48 * k + 24) (fun i => co (r.getD i 0)) (j + 1))))) (by decide) (by decide))
    refine ax_inc at_132_94 rfl rfl rfl ?_
    refine aw_goto at_132_97 ?_
    have := ih (j + 1) _ (by omega) f2 h2
    rw [Int.natCast_add] at this
    exact this
set_option maxHeartbeats 4000000 in
theorem r_m_setR1 {k : Nat} {l r : List Int} (h : mst S T D n rc wt kp sx sc F B) (h0 : mwd (F 9) (F 10) 0 l) (h1 : mwd (F 9) (F 10) 1 r) (hl : l.length ≤ 24) (hr : r.length ≤ 24) (hk : k < 15) : ∀ (m j : Nat) (S1 : ai_S), j + m = l.length → fr 432 452 S S1 → mst S1 T D n rc wt kp sx sc (fup (fup (fup F 4 (ax_up (F 4) k (l.length : Nat))) 5 (ax_up (F 5) k (r.length : Nat))) 3 (ow (F 3) (48 * k) (fun i => co (l.getD i 0)) j)) B → ai_aw L xs d ai_m132 (fun (o : ai_O) => ∃ v S', o = (.inl v, S') ∧ v = none ∧ fr 432 452 S S' ∧ mst S' T D n rc wt kp sx sc (fup (fup (fup F 4 (ax_up (F 4) k (l.length : Nat))) 5 (ax_up (F 5) k (r.length : Nat))) 3 (ow (ow (F 3) (48 * k) (fun i => co (l.getD i 0)) l.length) (48 * k + 24) (fun i => co (r.getD i 0)) r.length)) B) (26, [some (.ref 432), some (ax_i (k : Nat)), some (ax_i (j : Nat))], [], S1) := by
  have zt := mwd_len h0 (by omega)
  intro m
  induction m with
  | zero =>
    intro j S1 hj f1 g1
    have ho := g1.1
    have r3 : ai_arr S1 436 0 = some (720, ax_f ((fup (fup (fup F 4 (ax_up (F 4) k (l.length : Nat))) 5 (ax_up (F 5) k (r.length : Nat))) 3 (ow (F 3) (48 * k) (fun i => co (l.getD i 0)) j)) 3)) := g1.2.1 3 (by decide)
    have r9 : ai_arr S1 442 0 = some (192, ax_f ((fup (fup (fup F 4 (ax_up (F 4) k (l.length : Nat))) 5 (ax_up (F 5) k (r.length : Nat))) 3 (ow (F 3) (48 * k) (fun i => co (l.getD i 0)) j)) 9)) := g1.2.1 9 (by decide)
    have r10 : ai_arr S1 443 0 = some (3, ax_f ((fup (fup (fup F 4 (ax_up (F 4) k (l.length : Nat))) 5 (ax_up (F 5) k (r.length : Nat))) 3 (ow (F 3) (48 * k) (fun i => co (l.getD i 0)) j)) 10)) := g1.2.1 10 (by decide)
    rw [show (fup (fup (fup F 4 (ax_up (F 4) k (l.length : Nat))) 5 (ax_up (F 5) k (r.length : Nat))) 3 (ow (F 3) (48 * k) (fun i => co (l.getD i 0)) j)) 3 = (ow (F 3) (48 * k) (fun i => co (l.getD i 0)) j) from fup_get _ _ _] at r3
    rw [show (fup (fup (fup F 4 (ax_up (F 4) k (l.length : Nat))) 5 (ax_up (F 5) k (r.length : Nat))) 3 (ow (F 3) (48 * k) (fun i => co (l.getD i 0)) j)) 9 = F 9 from (fup_ne (by decide)).trans ((fup_ne (by decide)).trans (fup_ne (by decide)))] at r9
    rw [show (fup (fup (fup F 4 (ax_up (F 4) k (l.length : Nat))) 5 (ax_up (F 5) k (r.length : Nat))) 3 (ow (F 3) (48 * k) (fun i => co (l.getD i 0)) j)) 10 = F 10 from (fup_ne (by decide)).trans ((fup_ne (by decide)).trans (fup_ne (by decide)))] at r10
    obtain rfl : j = l.length := by omega
    refine aw_loc at_132_26 rfl rfl ?_
    refine aw_loc at_132_27 rfl rfl ?_
    refine aw_get at_132_28 rfl fl_12_40 ho rfl ?_
    refine aw_pure (st' := ax_i (0) :: _) at_132_31 rfl rfl ?_
    refine ax_ild at_132_32 rfl r10 (k := 0) rfl (by decide) (by decide) ?_
    rw [zt]
    refine ax_icmp_ge at_132_33 ⟨by omega, by omega⟩ ⟨by omega, by omega⟩ (fun _ => ?_) (fun z => absurd z (by omega))
    show ai_aw L xs d ai_m132 _ (59, _, _, _)
    refine aw_pure (st' := ax_i (0) :: _) at_132_59 rfl rfl ?_
    refine aw_loc at_132_60 rfl rfl ?_
    exact r_m_setR2 h h0 h1 hl hr hk r.length 0 S1 (by omega) f1 (by rw [ow_zero]; exact g1)
  | succ m ih =>
    intro j S1 hj f1 g1
    have ho := g1.1
    have r3 : ai_arr S1 436 0 = some (720, ax_f ((fup (fup (fup F 4 (ax_up (F 4) k (l.length : Nat))) 5 (ax_up (F 5) k (r.length : Nat))) 3 (ow (F 3) (48 * k) (fun i => co (l.getD i 0)) j)) 3)) := g1.2.1 3 (by decide)
    have r9 : ai_arr S1 442 0 = some (192, ax_f ((fup (fup (fup F 4 (ax_up (F 4) k (l.length : Nat))) 5 (ax_up (F 5) k (r.length : Nat))) 3 (ow (F 3) (48 * k) (fun i => co (l.getD i 0)) j)) 9)) := g1.2.1 9 (by decide)
    have r10 : ai_arr S1 443 0 = some (3, ax_f ((fup (fup (fup F 4 (ax_up (F 4) k (l.length : Nat))) 5 (ax_up (F 5) k (r.length : Nat))) 3 (ow (F 3) (48 * k) (fun i => co (l.getD i 0)) j)) 10)) := g1.2.1 10 (by decide)
    rw [show (fup (fup (fup F 4 (ax_up (F 4) k (l.length : Nat))) 5 (ax_up (F 5) k (r.length : Nat))) 3 (ow (F 3) (48 * k) (fun i => co (l.getD i 0)) j)) 3 = (ow (F 3) (48 * k) (fun i => co (l.getD i 0)) j) from fup_get _ _ _] at r3
    rw [show (fup (fup (fup F 4 (ax_up (F 4) k (l.length : Nat))) 5 (ax_up (F 5) k (r.length : Nat))) 3 (ow (F 3) (48 * k) (fun i => co (l.getD i 0)) j)) 9 = F 9 from (fup_ne (by decide)).trans ((fup_ne (by decide)).trans (fup_ne (by decide)))] at r9
    rw [show (fup (fup (fup F 4 (ax_up (F 4) k (l.length : Nat))) 5 (ax_up (F 5) k (r.length : Nat))) 3 (ow (F 3) (48 * k) (fun i => co (l.getD i 0)) j)) 10 = F 10 from (fup_ne (by decide)).trans ((fup_ne (by decide)).trans (fup_ne (by decide)))] at r10
    have hc := h0.2 j (by omega) (by omega)
    refine aw_loc at_132_26 rfl rfl ?_
    refine aw_loc at_132_27 rfl rfl ?_
    refine aw_get at_132_28 rfl fl_12_40 ho rfl ?_
    refine aw_pure (st' := ax_i (0) :: _) at_132_31 rfl rfl ?_
    refine ax_ild at_132_32 rfl r10 (k := 0) rfl (by decide) (by decide) ?_
    rw [zt]
    refine ax_icmp_ge at_132_33 ⟨by omega, by omega⟩ ⟨by omega, by omega⟩ (fun z => absurd z (by omega)) (fun _ => ?_)
    refine aw_loc at_132_36 rfl rfl ?_
    refine aw_get at_132_37 rfl fl_12_19 ho rfl ?_
    refine aw_pure (st' := ax_i (48) :: _) at_132_40 rfl rfl ?_
    refine aw_loc at_132_42 rfl rfl ?_
    refine ax_mul at_132_43 rfl ?_
    refine aw_loc at_132_44 rfl rfl ?_
    refine ax_add at_132_45 rfl ?_
    refine aw_loc at_132_46 rfl rfl ?_
    refine aw_get at_132_47 rfl fl_12_37 ho rfl ?_
    refine aw_loc at_132_50 rfl rfl ?_
    refine ax_ild at_132_51 rfl r9 (k := 64 * 0 + j) (by omega) (by omega) (by decide) ?_
    rw [hc]
    refine ax_ist (k := 48 * k + j) at_132_52 rfl r3 (by omega) (by omega) (by decide) ?_
    rw [ow_succ2 (F 3) (fun i => co (l.getD i 0)) (48 * k) j rfl]
    have h2 : mst (ai_wr S1 436 (.inl (0, ai_I 720 (ax_f (ow (F 3) (48 * k) (fun i => co (l.getD i 0)) (j + 1)))))) T D n rc wt kp sx sc (fup (fup (fup F 4 (ax_up (F 4) k (l.length : Nat))) 5 (ax_up (F 5) k (r.length : Nat))) 3 (ow (F 3) (48 * k) (fun i => co (l.getD i 0)) (j + 1))) B := by
      have := mst_wr (i := 3) (R := (ow (F 3) (48 * k) (fun i => co (l.getD i 0)) (j + 1))) g1 (by decide)
      rw [fup_two] at this
      exact this
    have f2 := f1.tr (fr_md (S := S1) (a := 436) (x := .inl (0, ai_I 720 (ax_f (ow (F 3) (48 * k) (fun i => co (l.getD i 0)) (j + 1))))) (by decide) (by decide))
    refine ax_inc at_132_53 rfl rfl rfl ?_
    refine aw_goto at_132_56 ?_
    have := ih (j + 1) _ (by omega) f2 h2
    rw [Int.natCast_add] at this
    exact this
set_option maxHeartbeats 4000000 in
theorem r_m_setR {k : Nat} {l r : List Int} (h : mst S T D n rc wt kp sx sc F B) (h0 : mwd (F 9) (F 10) 0 l) (h1 : mwd (F 9) (F 10) 1 r) (hl : l.length ≤ 24) (hr : r.length ≤ 24) (hk : k < 15) : ai_rn L xs (d + 1) 132 [.ref 432, ax_i (k : Nat)] S (fun v S' => v = none ∧ fr 432 452 S S' ∧ ∃ F', mst S' T D n rc wt kp sx sc F' B ∧ (∀ i, i ≠ 3 → i ≠ 4 → i ≠ 5 → F' i = F i) ∧ qsl (F' 3) (F' 4) (F' 5) k (l, r) ∧ (∀ j q, j ≠ k → qsl (F 3) (F 4) (F 5) j q → qsl (F' 3) (F' 4) (F' 5) j q) ∧ (xr (F 3) → al (kn P 129) l → al (kn P 129) r → xr (F' 3))) := by
  have ho := h.1
  have r4 : ai_arr S 437 0 = some (15, ax_f (F 4)) := h.2.1 4 (by decide)
  have r5 : ai_arr S 438 0 = some (15, ax_f (F 5)) := h.2.1 5 (by decide)
  have r10 : ai_arr S 443 0 = some (3, ax_f (F 10)) := h.2.1 10 (by decide)
  have z0 := mwd_len h0 (by omega)
  have z1 := mwd_len h1 (by omega)
  refine ai_rn_of (M := ai_m132) rfl (by decide) (Nat.le_of_ble_eq_true rfl) ?_
  refine aw_loc at_132_0 rfl rfl ?_
  refine aw_get at_132_1 rfl fl_12_22 ho rfl ?_
  refine aw_loc at_132_4 rfl rfl ?_
  refine aw_loc at_132_5 rfl rfl ?_
  refine aw_get at_132_6 rfl fl_12_40 ho rfl ?_
  refine aw_pure (st' := ax_i (0) :: _) at_132_9 rfl rfl ?_
  refine ax_ild at_132_10 rfl r10 (k := 0) rfl (by decide) (by decide) ?_
  rw [z0]
  refine ax_ist (k := k) at_132_11 rfl r4 rfl hk (by decide) ?_
  have h2 : mst (ai_wr S 437 (.inl (0, ai_I 15 (ax_f (ax_up (F 4) k (l.length : Nat)))))) T D n rc wt kp sx sc (fup F 4 (ax_up (F 4) k (l.length : Nat))) B := mst_wr (i := 4) h (by decide)
  have f2 := fr_md (S := S) (a := 437) (x := .inl (0, ai_I 15 (ax_f (ax_up (F 4) k (l.length : Nat))))) (by decide) (by decide)
  generalize ai_wr S 437 (.inl (0, ai_I 15 (ax_f (ax_up (F 4) k (l.length : Nat))))) = S2 at h2 f2 ⊢
  have ho := h2.1
  have r4 : ai_arr S2 437 0 = some (15, ax_f ((fup F 4 (ax_up (F 4) k (l.length : Nat))) 4)) := h2.2.1 4 (by decide)
  have r5 : ai_arr S2 438 0 = some (15, ax_f ((fup F 4 (ax_up (F 4) k (l.length : Nat))) 5)) := h2.2.1 5 (by decide)
  have r10 : ai_arr S2 443 0 = some (3, ax_f ((fup F 4 (ax_up (F 4) k (l.length : Nat))) 10)) := h2.2.1 10 (by decide)
  rw [show fup F 4 (ax_up (F 4) k (l.length : Nat)) 5 = F 5 from fup_ne (by decide)] at r5
  rw [show fup F 4 (ax_up (F 4) k (l.length : Nat)) 10 = F 10 from fup_ne (by decide)] at r10
  refine aw_loc at_132_12 rfl rfl ?_
  refine aw_get at_132_13 rfl fl_12_25 ho rfl ?_
  refine aw_loc at_132_16 rfl rfl ?_
  refine aw_loc at_132_17 rfl rfl ?_
  refine aw_get at_132_18 rfl fl_12_40 ho rfl ?_
  refine aw_pure (st' := ax_i (1) :: _) at_132_21 rfl rfl ?_
  refine ax_ild at_132_22 rfl r10 (k := 1) rfl (by decide) (by decide) ?_
  rw [z1]
  refine ax_ist (k := k) at_132_23 rfl r5 rfl hk (by decide) ?_
  have h3 : mst (ai_wr S2 438 (.inl (0, ai_I 15 (ax_f (ax_up (F 5) k (r.length : Nat)))))) T D n rc wt kp sx sc (fup (fup F 4 (ax_up (F 4) k (l.length : Nat))) 5 (ax_up (F 5) k (r.length : Nat))) B := mst_wr (i := 5) h2 (by decide)
  have f3 := f2.tr (fr_md (S := S2) (a := 438) (x := .inl (0, ai_I 15 (ax_f (ax_up (F 5) k (r.length : Nat))))) (by decide) (by decide))
  refine aw_pure (st' := ax_i (0) :: _) at_132_24 rfl rfl ?_
  refine aw_loc at_132_25 rfl rfl ?_
  refine ai_aw_mono (r_m_setR1 h h0 h1 hl hr hk l.length 0 _ (by omega) f3 (by rw [ow_zero, show fup (fup (fup F 4 (ax_up (F 4) k (l.length : Nat))) 5 (ax_up (F 5) k (r.length : Nat))) 3 (F 3) = (fup (fup F 4 (ax_up (F 4) k (l.length : Nat))) 5 (ax_up (F 5) k (r.length : Nat))) by have := fup_self (fup (fup F 4 (ax_up (F 4) k (l.length : Nat))) 5 (ax_up (F 5) k (r.length : Nat))) 3; rw [show (fup (fup F 4 (ax_up (F 4) k (l.length : Nat))) 5 (ax_up (F 5) k (r.length : Nat))) 3 = F 3 from (fup_ne (by decide)).trans (fup_ne (by decide))] at this; exact this]; exact h3)) ?_
  rintro o ⟨v, S9, rfl, rfl, f9, h9⟩
  refine ⟨_, _, rfl, rfl, f9, _, h9, fun i a b c => (fup_ne a).trans ((fup_ne c).trans (fup_ne b)), ?_, fun j q hj hq => ?_, fun hxx k1 k2 => ?_⟩
  · rw [show (fup (fup (fup F 4 (ax_up (F 4) k (l.length : Nat))) 5 (ax_up (F 5) k (r.length : Nat))) 3 (ow (ow (F 3) (48 * k) (fun i => co (l.getD i 0)) l.length) (48 * k + 24) (fun i => co (r.getD i 0)) r.length)) 3 = (ow (ow (F 3) (48 * k) (fun i => co (l.getD i 0)) l.length) (48 * k + 24) (fun i => co (r.getD i 0)) r.length) from fup_get _ _ _, show (fup (fup (fup F 4 (ax_up (F 4) k (l.length : Nat))) 5 (ax_up (F 5) k (r.length : Nat))) 3 (ow (ow (F 3) (48 * k) (fun i => co (l.getD i 0)) l.length) (48 * k + 24) (fun i => co (r.getD i 0)) r.length)) 4 = (ax_up (F 4) k (l.length : Nat)) from (fup_ne (by decide)).trans ((fup_ne (by decide)).trans (fup_get _ _ _)), show (fup (fup (fup F 4 (ax_up (F 4) k (l.length : Nat))) 5 (ax_up (F 5) k (r.length : Nat))) 3 (ow (ow (F 3) (48 * k) (fun i => co (l.getD i 0)) l.length) (48 * k + 24) (fun i => co (r.getD i 0)) r.length)) 5 = (ax_up (F 5) k (r.length : Nat)) from (fup_ne (by decide)).trans (fup_get _ _ _)]
    refine ⟨⟨if_pos rfl, if_pos rfl⟩, ⟨hl, hr⟩, fun i hi => ?_, fun i hi => ow_in hi⟩
    have hi2 : i < l.length := hi
    rw [ow_out (by omega), ow_in hi2]
  · rw [show (fup (fup (fup F 4 (ax_up (F 4) k (l.length : Nat))) 5 (ax_up (F 5) k (r.length : Nat))) 3 (ow (ow (F 3) (48 * k) (fun i => co (l.getD i 0)) l.length) (48 * k + 24) (fun i => co (r.getD i 0)) r.length)) 3 = (ow (ow (F 3) (48 * k) (fun i => co (l.getD i 0)) l.length) (48 * k + 24) (fun i => co (r.getD i 0)) r.length) from fup_get _ _ _, show (fup (fup (fup F 4 (ax_up (F 4) k (l.length : Nat))) 5 (ax_up (F 5) k (r.length : Nat))) 3 (ow (ow (F 3) (48 * k) (fun i => co (l.getD i 0)) l.length) (48 * k + 24) (fun i => co (r.getD i 0)) r.length)) 4 = (ax_up (F 4) k (l.length : Nat)) from (fup_ne (by decide)).trans ((fup_ne (by decide)).trans (fup_get _ _ _)), show (fup (fup (fup F 4 (ax_up (F 4) k (l.length : Nat))) 5 (ax_up (F 5) k (r.length : Nat))) 3 (ow (ow (F 3) (48 * k) (fun i => co (l.getD i 0)) l.length) (48 * k + 24) (fun i => co (r.getD i 0)) r.length)) 5 = (ax_up (F 5) k (r.length : Nat)) from (fup_ne (by decide)).trans (fup_get _ _ _)]
    have q24 := hq.2.1
    refine ⟨⟨(if_neg hj).trans hq.1.1, (if_neg hj).trans hq.1.2⟩, q24, fun i hi => ?_, fun i hi => ?_⟩
    · rw [ow_out (by omega), ow_out (by omega)]; exact hq.2.2.1 i hi
    · rw [ow_out (by omega), ow_out (by omega)]; exact hq.2.2.2 i hi
  · rw [show (fup (fup (fup F 4 (ax_up (F 4) k (l.length : Nat))) 5 (ax_up (F 5) k (r.length : Nat))) 3 (ow (ow (F 3) (48 * k) (fun i => co (l.getD i 0)) l.length) (48 * k + 24) (fun i => co (r.getD i 0)) r.length)) 3 = (ow (ow (F 3) (48 * k) (fun i => co (l.getD i 0)) l.length) (48 * k + 24) (fun i => co (r.getD i 0)) r.length) from fup_get _ _ _]
    refine xr_ow (xr_ow hxx (fun i hi => ?_)) (fun i hi => ?_)
    · have := co_in (k1 (l.getD i 0) (by rw [getD_eq hi]; exact List.getElem_mem _)); show 0 ≤ co (l.getD i 0) ∧ co (l.getD i 0) < 1000; omega
    · have := co_in (k2 (r.getD i 0) (by rw [getD_eq hi]; exact List.getElem_mem _)); show 0 ≤ co (r.getD i 0) ∧ co (r.getD i 0) < 1000; omega
set_option maxHeartbeats 4000000 in
theorem r_m_setP2 {k : Nat} {l r : List Int} (h : mst S T D n rc wt kp sx sc F B) (h0 : mwd (F 9) (F 10) 0 l) (h1 : mwd (F 9) (F 10) 1 r) (hl : l.length ≤ 24) (hr : r.length ≤ 24) (hk : k < 62) : ∀ (m j : Nat) (S1 : ai_S), j + m = r.length → fr 432 452 S S1 → mst S1 T D n rc wt kp sx sc (fup (fup (fup F 7 (ax_up (F 7) k (l.length : Nat))) 8 (ax_up (F 8) k (r.length : Nat))) 6 (ow (ow (F 6) (48 * k) (fun i => co (l.getD i 0)) l.length) (48 * k + 24) (fun i => co (r.getD i 0)) j)) B → ai_aw L xs d ai_m111 (fun (o : ai_O) => ∃ v S', o = (.inl v, S') ∧ v = none ∧ fr 432 452 S S' ∧ mst S' T D n rc wt kp sx sc (fup (fup (fup F 7 (ax_up (F 7) k (l.length : Nat))) 8 (ax_up (F 8) k (r.length : Nat))) 6 (ow (ow (F 6) (48 * k) (fun i => co (l.getD i 0)) l.length) (48 * k + 24) (fun i => co (r.getD i 0)) r.length)) B) (61, [some (.ref 432), some (ax_i (k : Nat)), some (ax_i (j : Nat))], [], S1) := by
  have zt := mwd_len h1 (by omega)
  intro m
  induction m with
  | zero =>
    intro j S1 hj f1 g1
    have ho := g1.1
    have r6 : ai_arr S1 439 0 = some (2976, ax_f ((fup (fup (fup F 7 (ax_up (F 7) k (l.length : Nat))) 8 (ax_up (F 8) k (r.length : Nat))) 6 (ow (ow (F 6) (48 * k) (fun i => co (l.getD i 0)) l.length) (48 * k + 24) (fun i => co (r.getD i 0)) j)) 6)) := g1.2.1 6 (by decide)
    have r9 : ai_arr S1 442 0 = some (192, ax_f ((fup (fup (fup F 7 (ax_up (F 7) k (l.length : Nat))) 8 (ax_up (F 8) k (r.length : Nat))) 6 (ow (ow (F 6) (48 * k) (fun i => co (l.getD i 0)) l.length) (48 * k + 24) (fun i => co (r.getD i 0)) j)) 9)) := g1.2.1 9 (by decide)
    have r10 : ai_arr S1 443 0 = some (3, ax_f ((fup (fup (fup F 7 (ax_up (F 7) k (l.length : Nat))) 8 (ax_up (F 8) k (r.length : Nat))) 6 (ow (ow (F 6) (48 * k) (fun i => co (l.getD i 0)) l.length) (48 * k + 24) (fun i => co (r.getD i 0)) j)) 10)) := g1.2.1 10 (by decide)
    rw [show (fup (fup (fup F 7 (ax_up (F 7) k (l.length : Nat))) 8 (ax_up (F 8) k (r.length : Nat))) 6 (ow (ow (F 6) (48 * k) (fun i => co (l.getD i 0)) l.length) (48 * k + 24) (fun i => co (r.getD i 0)) j)) 6 = (ow (ow (F 6) (48 * k) (fun i => co (l.getD i 0)) l.length) (48 * k + 24) (fun i => co (r.getD i 0)) j) from fup_get _ _ _] at r6
    rw [show (fup (fup (fup F 7 (ax_up (F 7) k (l.length : Nat))) 8 (ax_up (F 8) k (r.length : Nat))) 6 (ow (ow (F 6) (48 * k) (fun i => co (l.getD i 0)) l.length) (48 * k + 24) (fun i => co (r.getD i 0)) j)) 9 = F 9 from (fup_ne (by decide)).trans ((fup_ne (by decide)).trans (fup_ne (by decide)))] at r9
    rw [show (fup (fup (fup F 7 (ax_up (F 7) k (l.length : Nat))) 8 (ax_up (F 8) k (r.length : Nat))) 6 (ow (ow (F 6) (48 * k) (fun i => co (l.getD i 0)) l.length) (48 * k + 24) (fun i => co (r.getD i 0)) j)) 10 = F 10 from (fup_ne (by decide)).trans ((fup_ne (by decide)).trans (fup_ne (by decide)))] at r10
    obtain rfl : j = r.length := by omega
    refine aw_loc at_111_61 rfl rfl ?_
    refine aw_loc at_111_62 rfl rfl ?_
    refine aw_get at_111_63 rfl fl_12_40 ho rfl ?_
    refine aw_pure (st' := ax_i (1) :: _) at_111_66 rfl rfl ?_
    refine ax_ild at_111_67 rfl r10 (k := 1) rfl (by decide) (by decide) ?_
    rw [zt]
    refine ax_icmp_ge at_111_68 ⟨by omega, by omega⟩ ⟨by omega, by omega⟩ (fun _ => ?_) (fun z => absurd z (by omega))
    exact aw_vret at_111_100 rfl ⟨_, _, rfl, rfl, f1, g1⟩
  | succ m ih =>
    intro j S1 hj f1 g1
    have ho := g1.1
    have r6 : ai_arr S1 439 0 = some (2976, ax_f ((fup (fup (fup F 7 (ax_up (F 7) k (l.length : Nat))) 8 (ax_up (F 8) k (r.length : Nat))) 6 (ow (ow (F 6) (48 * k) (fun i => co (l.getD i 0)) l.length) (48 * k + 24) (fun i => co (r.getD i 0)) j)) 6)) := g1.2.1 6 (by decide)
    have r9 : ai_arr S1 442 0 = some (192, ax_f ((fup (fup (fup F 7 (ax_up (F 7) k (l.length : Nat))) 8 (ax_up (F 8) k (r.length : Nat))) 6 (ow (ow (F 6) (48 * k) (fun i => co (l.getD i 0)) l.length) (48 * k + 24) (fun i => co (r.getD i 0)) j)) 9)) := g1.2.1 9 (by decide)
    have r10 : ai_arr S1 443 0 = some (3, ax_f ((fup (fup (fup F 7 (ax_up (F 7) k (l.length : Nat))) 8 (ax_up (F 8) k (r.length : Nat))) 6 (ow (ow (F 6) (48 * k) (fun i => co (l.getD i 0)) l.length) (48 * k + 24) (fun i => co (r.getD i 0)) j)) 10)) := g1.2.1 10 (by decide)
    rw [show (fup (fup (fup F 7 (ax_up (F 7) k (l.length : Nat))) 8 (ax_up (F 8) k (r.length : Nat))) 6 (ow (ow (F 6) (48 * k) (fun i => co (l.getD i 0)) l.length) (48 * k + 24) (fun i => co (r.getD i 0)) j)) 6 = (ow (ow (F 6) (48 * k) (fun i => co (l.getD i 0)) l.length) (48 * k + 24) (fun i => co (r.getD i 0)) j) from fup_get _ _ _] at r6
    rw [show (fup (fup (fup F 7 (ax_up (F 7) k (l.length : Nat))) 8 (ax_up (F 8) k (r.length : Nat))) 6 (ow (ow (F 6) (48 * k) (fun i => co (l.getD i 0)) l.length) (48 * k + 24) (fun i => co (r.getD i 0)) j)) 9 = F 9 from (fup_ne (by decide)).trans ((fup_ne (by decide)).trans (fup_ne (by decide)))] at r9
    rw [show (fup (fup (fup F 7 (ax_up (F 7) k (l.length : Nat))) 8 (ax_up (F 8) k (r.length : Nat))) 6 (ow (ow (F 6) (48 * k) (fun i => co (l.getD i 0)) l.length) (48 * k + 24) (fun i => co (r.getD i 0)) j)) 10 = F 10 from (fup_ne (by decide)).trans ((fup_ne (by decide)).trans (fup_ne (by decide)))] at r10
    have hc := h1.2 j (by omega) (by omega)
    refine aw_loc at_111_61 rfl rfl ?_
    refine aw_loc at_111_62 rfl rfl ?_
    refine aw_get at_111_63 rfl fl_12_40 ho rfl ?_
    refine aw_pure (st' := ax_i (1) :: _) at_111_66 rfl rfl ?_
    refine ax_ild at_111_67 rfl r10 (k := 1) rfl (by decide) (by decide) ?_
    rw [zt]
    refine ax_icmp_ge at_111_68 ⟨by omega, by omega⟩ ⟨by omega, by omega⟩ (fun z => absurd z (by omega)) (fun _ => ?_)
    refine aw_loc at_111_71 rfl rfl ?_
    refine aw_get at_111_72 rfl fl_12_28 ho rfl ?_
    refine aw_pure (st' := ax_i (48) :: _) at_111_75 rfl rfl ?_
    refine aw_loc at_111_77 rfl rfl ?_
    refine ax_mul at_111_78 rfl ?_
    refine aw_pure (st' := ax_i (24) :: _) at_111_79 rfl rfl ?_
    refine ax_add at_111_81 rfl ?_
    refine aw_loc at_111_82 rfl rfl ?_
    refine ax_add at_111_83 rfl ?_
    refine aw_loc at_111_84 rfl rfl ?_
    refine aw_get at_111_85 rfl fl_12_37 ho rfl ?_
    refine aw_pure (st' := ax_i (64) :: _) at_111_88 rfl rfl ?_
    refine aw_loc at_111_90 rfl rfl ?_
    refine ax_add at_111_91 rfl ?_
    refine ax_ild at_111_92 rfl r9 (k := 64 * 1 + j) (by omega) (by omega) (by decide) ?_
    rw [hc]
    refine ax_ist (k := 48 * k + 24 + j) at_111_93 rfl r6 (by omega) (by omega) (by decide) ?_
    rw [ow_succ2 ((ow (F 6) (48 * k) (fun i => co (l.getD i 0)) l.length)) (fun i => co (r.getD i 0)) (48 * k + 24) j rfl]
    have h2 : mst (ai_wr S1 439 (.inl (0, ai_I 2976 (ax_f (ow (ow (F 6) (48 * k) (fun i => co (l.getD i 0)) l.length) (48 * k + 24) (fun i => co (r.getD i 0)) (j + 1)))))) T D n rc wt kp sx sc (fup (fup (fup F 7 (ax_up (F 7) k (l.length : Nat))) 8 (ax_up (F 8) k (r.length : Nat))) 6 (ow (ow (F 6) (48 * k) (fun i => co (l.getD i 0)) l.length) (48 * k + 24) (fun i => co (r.getD i 0)) (j + 1))) B := by
      have := mst_wr (i := 6) (R := (ow (ow (F 6) (48 * k) (fun i => co (l.getD i 0)) l.length) (48 * k + 24) (fun i => co (r.getD i 0)) (j + 1))) g1 (by decide)
      rw [fup_two] at this
      exact this
    have f2 := f1.tr (fr_md (S := S1) (a := 439) (x := .inl (0, ai_I 2976 (ax_f (ow (ow (F 6) (48 * k) (fun i => co (l.getD i 0)) l.length) (48 * k + 24) (fun i => co (r.getD i 0)) (j + 1))))) (by decide) (by decide))
    refine ax_inc at_111_94 rfl rfl rfl ?_
    refine aw_goto at_111_97 ?_
    have := ih (j + 1) _ (by omega) f2 h2
    rw [Int.natCast_add] at this
    exact this
set_option maxHeartbeats 4000000 in
theorem r_m_setP1 {k : Nat} {l r : List Int} (h : mst S T D n rc wt kp sx sc F B) (h0 : mwd (F 9) (F 10) 0 l) (h1 : mwd (F 9) (F 10) 1 r) (hl : l.length ≤ 24) (hr : r.length ≤ 24) (hk : k < 62) : ∀ (m j : Nat) (S1 : ai_S), j + m = l.length → fr 432 452 S S1 → mst S1 T D n rc wt kp sx sc (fup (fup (fup F 7 (ax_up (F 7) k (l.length : Nat))) 8 (ax_up (F 8) k (r.length : Nat))) 6 (ow (F 6) (48 * k) (fun i => co (l.getD i 0)) j)) B → ai_aw L xs d ai_m111 (fun (o : ai_O) => ∃ v S', o = (.inl v, S') ∧ v = none ∧ fr 432 452 S S' ∧ mst S' T D n rc wt kp sx sc (fup (fup (fup F 7 (ax_up (F 7) k (l.length : Nat))) 8 (ax_up (F 8) k (r.length : Nat))) 6 (ow (ow (F 6) (48 * k) (fun i => co (l.getD i 0)) l.length) (48 * k + 24) (fun i => co (r.getD i 0)) r.length)) B) (26, [some (.ref 432), some (ax_i (k : Nat)), some (ax_i (j : Nat))], [], S1) := by
  have zt := mwd_len h0 (by omega)
  intro m
  induction m with
  | zero =>
    intro j S1 hj f1 g1
    have ho := g1.1
    have r6 : ai_arr S1 439 0 = some (2976, ax_f ((fup (fup (fup F 7 (ax_up (F 7) k (l.length : Nat))) 8 (ax_up (F 8) k (r.length : Nat))) 6 (ow (F 6) (48 * k) (fun i => co (l.getD i 0)) j)) 6)) := g1.2.1 6 (by decide)
    have r9 : ai_arr S1 442 0 = some (192, ax_f ((fup (fup (fup F 7 (ax_up (F 7) k (l.length : Nat))) 8 (ax_up (F 8) k (r.length : Nat))) 6 (ow (F 6) (48 * k) (fun i => co (l.getD i 0)) j)) 9)) := g1.2.1 9 (by decide)
    have r10 : ai_arr S1 443 0 = some (3, ax_f ((fup (fup (fup F 7 (ax_up (F 7) k (l.length : Nat))) 8 (ax_up (F 8) k (r.length : Nat))) 6 (ow (F 6) (48 * k) (fun i => co (l.getD i 0)) j)) 10)) := g1.2.1 10 (by decide)
    rw [show (fup (fup (fup F 7 (ax_up (F 7) k (l.length : Nat))) 8 (ax_up (F 8) k (r.length : Nat))) 6 (ow (F 6) (48 * k) (fun i => co (l.getD i 0)) j)) 6 = (ow (F 6) (48 * k) (fun i => co (l.getD i 0)) j) from fup_get _ _ _] at r6
    rw [show (fup (fup (fup F 7 (ax_up (F 7) k (l.length : Nat))) 8 (ax_up (F 8) k (r.length : Nat))) 6 (ow (F 6) (48 * k) (fun i => co (l.getD i 0)) j)) 9 = F 9 from (fup_ne (by decide)).trans ((fup_ne (by decide)).trans (fup_ne (by decide)))] at r9
    rw [show (fup (fup (fup F 7 (ax_up (F 7) k (l.length : Nat))) 8 (ax_up (F 8) k (r.length : Nat))) 6 (ow (F 6) (48 * k) (fun i => co (l.getD i 0)) j)) 10 = F 10 from (fup_ne (by decide)).trans ((fup_ne (by decide)).trans (fup_ne (by decide)))] at r10
    obtain rfl : j = l.length := by omega
    refine aw_loc at_111_26 rfl rfl ?_
    refine aw_loc at_111_27 rfl rfl ?_
    refine aw_get at_111_28 rfl fl_12_40 ho rfl ?_
    refine aw_pure (st' := ax_i (0) :: _) at_111_31 rfl rfl ?_
    refine ax_ild at_111_32 rfl r10 (k := 0) rfl (by decide) (by decide) ?_
    rw [zt]
    refine ax_icmp_ge at_111_33 ⟨by omega, by omega⟩ ⟨by omega, by omega⟩ (fun _ => ?_) (fun z => absurd z (by omega))
    show ai_aw L xs d ai_m111 _ (59, _, _, _)
    refine aw_pure (st' := ax_i (0) :: _) at_111_59 rfl rfl ?_
    refine aw_loc at_111_60 rfl rfl ?_
    exact r_m_setP2 h h0 h1 hl hr hk r.length 0 S1 (by omega) f1 (by rw [ow_zero]; exact g1)
  | succ m ih =>
    intro j S1 hj f1 g1
    have ho := g1.1
    have r6 : ai_arr S1 439 0 = some (2976, ax_f ((fup (fup (fup F 7 (ax_up (F 7) k (l.length : Nat))) 8 (ax_up (F 8) k (r.length : Nat))) 6 (ow (F 6) (48 * k) (fun i => co (l.getD i 0)) j)) 6)) := g1.2.1 6 (by decide)
    have r9 : ai_arr S1 442 0 = some (192, ax_f ((fup (fup (fup F 7 (ax_up (F 7) k (l.length : Nat))) 8 (ax_up (F 8) k (r.length : Nat))) 6 (ow (F 6) (48 * k) (fun i => co (l.getD i 0)) j)) 9)) := g1.2.1 9 (by decide)
    have r10 : ai_arr S1 443 0 = some (3, ax_f ((fup (fup (fup F 7 (ax_up (F 7) k (l.length : Nat))) 8 (ax_up (F 8) k (r.length : Nat))) 6 (ow (F 6) (48 * k) (fun i => co (l.getD i 0)) j)) 10)) := g1.2.1 10 (by decide)
    rw [show (fup (fup (fup F 7 (ax_up (F 7) k (l.length : Nat))) 8 (ax_up (F 8) k (r.length : Nat))) 6 (ow (F 6) (48 * k) (fun i => co (l.getD i 0)) j)) 6 = (ow (F 6) (48 * k) (fun i => co (l.getD i 0)) j) from fup_get _ _ _] at r6
    rw [show (fup (fup (fup F 7 (ax_up (F 7) k (l.length : Nat))) 8 (ax_up (F 8) k (r.length : Nat))) 6 (ow (F 6) (48 * k) (fun i => co (l.getD i 0)) j)) 9 = F 9 from (fup_ne (by decide)).trans ((fup_ne (by decide)).trans (fup_ne (by decide)))] at r9
    rw [show (fup (fup (fup F 7 (ax_up (F 7) k (l.length : Nat))) 8 (ax_up (F 8) k (r.length : Nat))) 6 (ow (F 6) (48 * k) (fun i => co (l.getD i 0)) j)) 10 = F 10 from (fup_ne (by decide)).trans ((fup_ne (by decide)).trans (fup_ne (by decide)))] at r10
    have hc := h0.2 j (by omega) (by omega)
    refine aw_loc at_111_26 rfl rfl ?_
    refine aw_loc at_111_27 rfl rfl ?_
    refine aw_get at_111_28 rfl fl_12_40 ho rfl ?_
    refine aw_pure (st' := ax_i (0) :: _) at_111_31 rfl rfl ?_
    refine ax_ild at_111_32 rfl r10 (k := 0) rfl (by decide) (by decide) ?_
    rw [zt]
    refine ax_icmp_ge at_111_33 ⟨by omega, by omega⟩ ⟨by omega, by omega⟩ (fun z => absurd z (by omega)) (fun _ => ?_)
    refine aw_loc at_111_36 rfl rfl ?_
    refine aw_get at_111_37 rfl fl_12_28 ho rfl ?_
    refine aw_pure (st' := ax_i (48) :: _) at_111_40 rfl rfl ?_
    refine aw_loc at_111_42 rfl rfl ?_
    refine ax_mul at_111_43 rfl ?_
    refine aw_loc at_111_44 rfl rfl ?_
    refine ax_add at_111_45 rfl ?_
    refine aw_loc at_111_46 rfl rfl ?_
    refine aw_get at_111_47 rfl fl_12_37 ho rfl ?_
    refine aw_loc at_111_50 rfl rfl ?_
    refine ax_ild at_111_51 rfl r9 (k := 64 * 0 + j) (by omega) (by omega) (by decide) ?_
    rw [hc]
    refine ax_ist (k := 48 * k + j) at_111_52 rfl r6 (by omega) (by omega) (by decide) ?_
    rw [ow_succ2 (F 6) (fun i => co (l.getD i 0)) (48 * k) j rfl]
    have h2 : mst (ai_wr S1 439 (.inl (0, ai_I 2976 (ax_f (ow (F 6) (48 * k) (fun i => co (l.getD i 0)) (j + 1)))))) T D n rc wt kp sx sc (fup (fup (fup F 7 (ax_up (F 7) k (l.length : Nat))) 8 (ax_up (F 8) k (r.length : Nat))) 6 (ow (F 6) (48 * k) (fun i => co (l.getD i 0)) (j + 1))) B := by
      have := mst_wr (i := 6) (R := (ow (F 6) (48 * k) (fun i => co (l.getD i 0)) (j + 1))) g1 (by decide)
      rw [fup_two] at this
      exact this
    have f2 := f1.tr (fr_md (S := S1) (a := 439) (x := .inl (0, ai_I 2976 (ax_f (ow (F 6) (48 * k) (fun i => co (l.getD i 0)) (j + 1))))) (by decide) (by decide))
    refine ax_inc at_111_53 rfl rfl rfl ?_
    refine aw_goto at_111_56 ?_
    have := ih (j + 1) _ (by omega) f2 h2
    rw [Int.natCast_add] at this
    exact this
set_option maxHeartbeats 4000000 in
theorem r_m_setP {k : Nat} {l r : List Int} (h : mst S T D n rc wt kp sx sc F B) (h0 : mwd (F 9) (F 10) 0 l) (h1 : mwd (F 9) (F 10) 1 r) (hl : l.length ≤ 24) (hr : r.length ≤ 24) (hk : k < 62) : ai_rn L xs (d + 1) 111 [.ref 432, ax_i (k : Nat)] S (fun v S' => v = none ∧ fr 432 452 S S' ∧ ∃ F', mst S' T D n rc wt kp sx sc F' B ∧ (∀ i, i ≠ 6 → i ≠ 7 → i ≠ 8 → F' i = F i) ∧ qsl (F' 6) (F' 7) (F' 8) k (l, r) ∧ (∀ j q, j ≠ k → qsl (F 6) (F 7) (F 8) j q → qsl (F' 6) (F' 7) (F' 8) j q) ∧ (xr (F 6) → al (kn P 129) l → al (kn P 129) r → xr (F' 6))) := by
  have ho := h.1
  have r7 : ai_arr S 440 0 = some (62, ax_f (F 7)) := h.2.1 7 (by decide)
  have r8 : ai_arr S 441 0 = some (62, ax_f (F 8)) := h.2.1 8 (by decide)
  have r10 : ai_arr S 443 0 = some (3, ax_f (F 10)) := h.2.1 10 (by decide)
  have z0 := mwd_len h0 (by omega)
  have z1 := mwd_len h1 (by omega)
  refine ai_rn_of (M := ai_m111) rfl (by decide) (Nat.le_of_ble_eq_true rfl) ?_
  refine aw_loc at_111_0 rfl rfl ?_
  refine aw_get at_111_1 rfl fl_12_31 ho rfl ?_
  refine aw_loc at_111_4 rfl rfl ?_
  refine aw_loc at_111_5 rfl rfl ?_
  refine aw_get at_111_6 rfl fl_12_40 ho rfl ?_
  refine aw_pure (st' := ax_i (0) :: _) at_111_9 rfl rfl ?_
  refine ax_ild at_111_10 rfl r10 (k := 0) rfl (by decide) (by decide) ?_
  rw [z0]
  refine ax_ist (k := k) at_111_11 rfl r7 rfl hk (by decide) ?_
  have h2 : mst (ai_wr S 440 (.inl (0, ai_I 62 (ax_f (ax_up (F 7) k (l.length : Nat)))))) T D n rc wt kp sx sc (fup F 7 (ax_up (F 7) k (l.length : Nat))) B := mst_wr (i := 7) h (by decide)
  have f2 := fr_md (S := S) (a := 440) (x := .inl (0, ai_I 62 (ax_f (ax_up (F 7) k (l.length : Nat))))) (by decide) (by decide)
  generalize ai_wr S 440 (.inl (0, ai_I 62 (ax_f (ax_up (F 7) k (l.length : Nat))))) = S2 at h2 f2 ⊢
  have ho := h2.1
  have r7 : ai_arr S2 440 0 = some (62, ax_f ((fup F 7 (ax_up (F 7) k (l.length : Nat))) 7)) := h2.2.1 7 (by decide)
  have r8 : ai_arr S2 441 0 = some (62, ax_f ((fup F 7 (ax_up (F 7) k (l.length : Nat))) 8)) := h2.2.1 8 (by decide)
  have r10 : ai_arr S2 443 0 = some (3, ax_f ((fup F 7 (ax_up (F 7) k (l.length : Nat))) 10)) := h2.2.1 10 (by decide)
  rw [show fup F 7 (ax_up (F 7) k (l.length : Nat)) 8 = F 8 from fup_ne (by decide)] at r8
  rw [show fup F 7 (ax_up (F 7) k (l.length : Nat)) 10 = F 10 from fup_ne (by decide)] at r10
  refine aw_loc at_111_12 rfl rfl ?_
  refine aw_get at_111_13 rfl fl_12_34 ho rfl ?_
  refine aw_loc at_111_16 rfl rfl ?_
  refine aw_loc at_111_17 rfl rfl ?_
  refine aw_get at_111_18 rfl fl_12_40 ho rfl ?_
  refine aw_pure (st' := ax_i (1) :: _) at_111_21 rfl rfl ?_
  refine ax_ild at_111_22 rfl r10 (k := 1) rfl (by decide) (by decide) ?_
  rw [z1]
  refine ax_ist (k := k) at_111_23 rfl r8 rfl hk (by decide) ?_
  have h3 : mst (ai_wr S2 441 (.inl (0, ai_I 62 (ax_f (ax_up (F 8) k (r.length : Nat)))))) T D n rc wt kp sx sc (fup (fup F 7 (ax_up (F 7) k (l.length : Nat))) 8 (ax_up (F 8) k (r.length : Nat))) B := mst_wr (i := 8) h2 (by decide)
  have f3 := f2.tr (fr_md (S := S2) (a := 441) (x := .inl (0, ai_I 62 (ax_f (ax_up (F 8) k (r.length : Nat))))) (by decide) (by decide))
  refine aw_pure (st' := ax_i (0) :: _) at_111_24 rfl rfl ?_
  refine aw_loc at_111_25 rfl rfl ?_
  refine ai_aw_mono (r_m_setP1 h h0 h1 hl hr hk l.length 0 _ (by omega) f3 (by rw [ow_zero, show fup (fup (fup F 7 (ax_up (F 7) k (l.length : Nat))) 8 (ax_up (F 8) k (r.length : Nat))) 6 (F 6) = (fup (fup F 7 (ax_up (F 7) k (l.length : Nat))) 8 (ax_up (F 8) k (r.length : Nat))) by have := fup_self (fup (fup F 7 (ax_up (F 7) k (l.length : Nat))) 8 (ax_up (F 8) k (r.length : Nat))) 6; rw [show (fup (fup F 7 (ax_up (F 7) k (l.length : Nat))) 8 (ax_up (F 8) k (r.length : Nat))) 6 = F 6 from (fup_ne (by decide)).trans (fup_ne (by decide))] at this; exact this]; exact h3)) ?_
  rintro o ⟨v, S9, rfl, rfl, f9, h9⟩
  refine ⟨_, _, rfl, rfl, f9, _, h9, fun i a b c => (fup_ne a).trans ((fup_ne c).trans (fup_ne b)), ?_, fun j q hj hq => ?_, fun hxx k1 k2 => ?_⟩
  · rw [show (fup (fup (fup F 7 (ax_up (F 7) k (l.length : Nat))) 8 (ax_up (F 8) k (r.length : Nat))) 6 (ow (ow (F 6) (48 * k) (fun i => co (l.getD i 0)) l.length) (48 * k + 24) (fun i => co (r.getD i 0)) r.length)) 6 = (ow (ow (F 6) (48 * k) (fun i => co (l.getD i 0)) l.length) (48 * k + 24) (fun i => co (r.getD i 0)) r.length) from fup_get _ _ _, show (fup (fup (fup F 7 (ax_up (F 7) k (l.length : Nat))) 8 (ax_up (F 8) k (r.length : Nat))) 6 (ow (ow (F 6) (48 * k) (fun i => co (l.getD i 0)) l.length) (48 * k + 24) (fun i => co (r.getD i 0)) r.length)) 7 = (ax_up (F 7) k (l.length : Nat)) from (fup_ne (by decide)).trans ((fup_ne (by decide)).trans (fup_get _ _ _)), show (fup (fup (fup F 7 (ax_up (F 7) k (l.length : Nat))) 8 (ax_up (F 8) k (r.length : Nat))) 6 (ow (ow (F 6) (48 * k) (fun i => co (l.getD i 0)) l.length) (48 * k + 24) (fun i => co (r.getD i 0)) r.length)) 8 = (ax_up (F 8) k (r.length : Nat)) from (fup_ne (by decide)).trans (fup_get _ _ _)]
    refine ⟨⟨if_pos rfl, if_pos rfl⟩, ⟨hl, hr⟩, fun i hi => ?_, fun i hi => ow_in hi⟩
    have hi2 : i < l.length := hi
    rw [ow_out (by omega), ow_in hi2]
  · rw [show (fup (fup (fup F 7 (ax_up (F 7) k (l.length : Nat))) 8 (ax_up (F 8) k (r.length : Nat))) 6 (ow (ow (F 6) (48 * k) (fun i => co (l.getD i 0)) l.length) (48 * k + 24) (fun i => co (r.getD i 0)) r.length)) 6 = (ow (ow (F 6) (48 * k) (fun i => co (l.getD i 0)) l.length) (48 * k + 24) (fun i => co (r.getD i 0)) r.length) from fup_get _ _ _, show (fup (fup (fup F 7 (ax_up (F 7) k (l.length : Nat))) 8 (ax_up (F 8) k (r.length : Nat))) 6 (ow (ow (F 6) (48 * k) (fun i => co (l.getD i 0)) l.length) (48 * k + 24) (fun i => co (r.getD i 0)) r.length)) 7 = (ax_up (F 7) k (l.length : Nat)) from (fup_ne (by decide)).trans ((fup_ne (by decide)).trans (fup_get _ _ _)), show (fup (fup (fup F 7 (ax_up (F 7) k (l.length : Nat))) 8 (ax_up (F 8) k (r.length : Nat))) 6 (ow (ow (F 6) (48 * k) (fun i => co (l.getD i 0)) l.length) (48 * k + 24) (fun i => co (r.getD i 0)) r.length)) 8 = (ax_up (F 8) k (r.length : Nat)) from (fup_ne (by decide)).trans (fup_get _ _ _)]
    have q24 := hq.2.1
    refine ⟨⟨(if_neg hj).trans hq.1.1, (if_neg hj).trans hq.1.2⟩, q24, fun i hi => ?_, fun i hi => ?_⟩
    · rw [ow_out (by omega), ow_out (by omega)]; exact hq.2.2.1 i hi
    · rw [ow_out (by omega), ow_out (by omega)]; exact hq.2.2.2 i hi
  · rw [show (fup (fup (fup F 7 (ax_up (F 7) k (l.length : Nat))) 8 (ax_up (F 8) k (r.length : Nat))) 6 (ow (ow (F 6) (48 * k) (fun i => co (l.getD i 0)) l.length) (48 * k + 24) (fun i => co (r.getD i 0)) r.length)) 6 = (ow (ow (F 6) (48 * k) (fun i => co (l.getD i 0)) l.length) (48 * k + 24) (fun i => co (r.getD i 0)) r.length) from fup_get _ _ _]
    refine xr_ow (xr_ow hxx (fun i hi => ?_)) (fun i hi => ?_)
    · have := co_in (k1 (l.getD i 0) (by rw [getD_eq hi]; exact List.getElem_mem _)); show 0 ≤ co (l.getD i 0) ∧ co (l.getD i 0) < 1000; omega
    · have := co_in (k2 (r.getD i 0) (by rw [getD_eq hi]; exact List.getElem_mem _)); show 0 ≤ co (r.getD i 0) ∧ co (r.getD i 0) < 1000; omega
end MB

/-! Nodes that come together, as the landed code does it. -/
section OV
variable {L : Nat} {xs : Nat → Int32} {d : Nat} {S S' : ai_S} {P R LT EN ND PA SE ST e : Nat → Int} {nn dp : Int}
/-- the overlap's fields and rows -/
def ovf (dp : Int) (e : Nat → Int) : List Value := [.ref 1, .ref 426, .ref 427, .ref 428, .ref 429, .ref 430, .ref 431, ax_i dp, ax_i (e 0), ax_i (e 1), ax_i (e 2), ax_i (e 3)]
def ovo (S : ai_S) (LT EN ND PA SE ST : Nat → Int) (dp : Int) (e : Nat → Int) : Prop := ai_obj S 425 10 = some (ovf dp e) ∧ ai_arr S 426 1 = some (96, ax_f LT) ∧ ai_arr S 427 0 = some (96, ax_f EN) ∧ ai_arr S 428 0 = some (96, ax_f ND) ∧ ai_arr S 429 0 = some (108, ax_f PA) ∧ ai_arr S 430 2 = some (108, ax_f SE) ∧ ai_arr S 431 0 = some (216, ax_f ST)
theorem ovo_dp {dp2 : Int} (h : ovo S LT EN ND PA SE ST dp e) : ovo (ai_wr S 425 (.inr (10, ovf dp2 e))) LT EN ND PA SE ST dp2 e := by
  obtain ⟨h1, h2, h3, h4, h5, h6, h7⟩ := h
  exact ⟨ai_obj_wrS (by have := (ai_arr_inv h7).1; omega), (ai_arr_wr (by decide)).trans h2, (ai_arr_wr (by decide)).trans h3, (ai_arr_wr (by decide)).trans h4, (ai_arr_wr (by decide)).trans h5, (ai_arr_wr (by decide)).trans h6, (ai_arr_wr (by decide)).trans h7⟩
theorem ovo_e {e2 : Nat → Int} (h : ovo S LT EN ND PA SE ST dp e) : ovo (ai_wr S 425 (.inr (10, ovf dp e2))) LT EN ND PA SE ST dp e2 := by
  obtain ⟨h1, h2, h3, h4, h5, h6, h7⟩ := h
  exact ⟨ai_obj_wrS (by have := (ai_arr_inv h7).1; omega), (ai_arr_wr (by decide)).trans h2, (ai_arr_wr (by decide)).trans h3, (ai_arr_wr (by decide)).trans h4, (ai_arr_wr (by decide)).trans h5, (ai_arr_wr (by decide)).trans h6, (ai_arr_wr (by decide)).trans h7⟩
theorem ovo_lt {F : Nat → Int} (h : ovo S LT EN ND PA SE ST dp e) : ovo (ai_wr S 426 (.inl (1, ai_I 96 (ax_f F)))) F EN ND PA SE ST dp e := by
  obtain ⟨h1, h2, h3, h4, h5, h6, h7⟩ := h
  exact ⟨(ai_obj_wr (by decide)).trans h1, ai_arr_wrS (ai_arr_inv h2).1, (ai_arr_wr (by decide)).trans h3, (ai_arr_wr (by decide)).trans h4, (ai_arr_wr (by decide)).trans h5, (ai_arr_wr (by decide)).trans h6, (ai_arr_wr (by decide)).trans h7⟩
theorem ovo_en {F : Nat → Int} (h : ovo S LT EN ND PA SE ST dp e) : ovo (ai_wr S 427 (.inl (0, ai_I 96 (ax_f F)))) LT F ND PA SE ST dp e := by
  obtain ⟨h1, h2, h3, h4, h5, h6, h7⟩ := h
  exact ⟨(ai_obj_wr (by decide)).trans h1, (ai_arr_wr (by decide)).trans h2, ai_arr_wrS (ai_arr_inv h3).1, (ai_arr_wr (by decide)).trans h4, (ai_arr_wr (by decide)).trans h5, (ai_arr_wr (by decide)).trans h6, (ai_arr_wr (by decide)).trans h7⟩
theorem ovo_nd {F : Nat → Int} (h : ovo S LT EN ND PA SE ST dp e) : ovo (ai_wr S 428 (.inl (0, ai_I 96 (ax_f F)))) LT EN F PA SE ST dp e := by
  obtain ⟨h1, h2, h3, h4, h5, h6, h7⟩ := h
  exact ⟨(ai_obj_wr (by decide)).trans h1, (ai_arr_wr (by decide)).trans h2, (ai_arr_wr (by decide)).trans h3, ai_arr_wrS (ai_arr_inv h4).1, (ai_arr_wr (by decide)).trans h5, (ai_arr_wr (by decide)).trans h6, (ai_arr_wr (by decide)).trans h7⟩
theorem ovo_pa {F : Nat → Int} (h : ovo S LT EN ND PA SE ST dp e) : ovo (ai_wr S 429 (.inl (0, ai_I 108 (ax_f F)))) LT EN ND F SE ST dp e := by
  obtain ⟨h1, h2, h3, h4, h5, h6, h7⟩ := h
  exact ⟨(ai_obj_wr (by decide)).trans h1, (ai_arr_wr (by decide)).trans h2, (ai_arr_wr (by decide)).trans h3, (ai_arr_wr (by decide)).trans h4, ai_arr_wrS (ai_arr_inv h5).1, (ai_arr_wr (by decide)).trans h6, (ai_arr_wr (by decide)).trans h7⟩
theorem ovo_se {F : Nat → Int} (h : ovo S LT EN ND PA SE ST dp e) : ovo (ai_wr S 430 (.inl (2, ai_I 108 (ax_f F)))) LT EN ND PA F ST dp e := by
  obtain ⟨h1, h2, h3, h4, h5, h6, h7⟩ := h
  exact ⟨(ai_obj_wr (by decide)).trans h1, (ai_arr_wr (by decide)).trans h2, (ai_arr_wr (by decide)).trans h3, (ai_arr_wr (by decide)).trans h4, (ai_arr_wr (by decide)).trans h5, ai_arr_wrS (ai_arr_inv h6).1, (ai_arr_wr (by decide)).trans h7⟩
theorem ovo_st {F : Nat → Int} (h : ovo S LT EN ND PA SE ST dp e) : ovo (ai_wr S 431 (.inl (0, ai_I 216 (ax_f F)))) LT EN ND PA SE F dp e := by
  obtain ⟨h1, h2, h3, h4, h5, h6, h7⟩ := h
  exact ⟨(ai_obj_wr (by decide)).trans h1, (ai_arr_wr (by decide)).trans h2, (ai_arr_wr (by decide)).trans h3, (ai_arr_wr (by decide)).trans h4, (ai_arr_wr (by decide)).trans h5, (ai_arr_wr (by decide)).trans h6, ai_arr_wrS (ai_arr_inv h7).1⟩
theorem fr_ov {a : Nat} {x : ai_C} (h1 : 425 ≤ a) (h2 : a < 432) : fr 425 432 S (ai_wr S a x) := fr_wr.mn h1 (by omega)
/-- a row of ways -/
def pav (PA : Nat → Int) (par : Nat → Nat) : Prop := ∀ n, n < 108 → PA n = (par n : Int) ∧ par n < 108
theorem pav_up {par : Nat → Nat} {a b : Nat} (h : pav PA par) (hb : b < 108) : pav (ax_up PA a b) (n_up par a b) := by
  intro n hn
  unfold ax_up n_up
  by_cases e : n = a
  · rw [if_pos e, if_pos e]; exact ⟨rfl, hb⟩
  · rw [if_neg e, if_neg e]; exact h n hn
/-- pairs on the stack, the last one first -/
def skr (ST : Nat → Int) : List (Nat × Nat) → Prop
  | [] => True
  | q :: l => ST (2 * l.length) = (q.1 : Int) ∧ ST (2 * l.length + 1) = (q.2 : Int) ∧ skr ST l
theorem skr_up {i : Nat} {v : Int} : ∀ (l : List (Nat × Nat)), 2 * l.length ≤ i → skr ST l → skr (ax_up ST i v) l
  | [], _, _ => True.intro
  | q :: l, hi, h => by
    rw [List.length_cons] at hi
    refine ⟨?_, ?_, skr_up l (by omega) h.2.2⟩
    · unfold ax_up
      rw [if_neg (by omega)]
      exact h.1
    · unfold ax_up
      rw [if_neg (by omega)]
      exact h.2.1
theorem skr_push {l : List (Nat × Nat)} {a b : Nat} (h : skr ST l) : skr (ax_up (ax_up ST (2 * l.length) a) (2 * l.length + 1) b) ((a, b) :: l) := by
  refine ⟨?_, ?_, skr_up l (by omega) (skr_up l (by omega) h)⟩
  · unfold ax_up
    rw [if_neg (by omega), if_pos rfl]
  · unfold ax_up
    rw [if_pos rfl]
/-- what is laid at the places D -/
def ovs (A : Int → Nat) (P LT EN ND : Nat → Int) (D : Nat → Prop) (Y : Nat → Int) (en : Nat → Nat) : Prop := ∀ i, D i → i < 96 ∧ (0 ≤ LT i ∧ LT i < 65536) ∧ (97 ≤ Y i ∧ Y i < 129) ∧ (LT i < 117 ↔ Y i < 117) ∧ (Y i < 117 → LT i = Y i) ∧ ND i = (ndo Y i : Int) ∧ EN i = (en i : Int) ∧ at256 P (LT i) = (A (Y i) : Int)
theorem ovs_dok {A : Int → Nat} {D : Nat → Prop} {Y : Nat → Int} {en : Nat → Nat} (h : ovs A P LT EN ND D Y en) : dok D Y := fun i hi => ⟨(h i hi).1, (h i hi).2.2.1.2⟩
theorem at_36_0 : ai_at ai_m36 0 = some (.iconst 0, 1) := rfl
theorem at_36_1 : ai_at ai_m36 1 = some (.istore_n 3, 1) := rfl
theorem at_36_2 : ai_at ai_m36 2 = some (.iload_n 3, 1) := rfl
theorem at_36_3 : ai_at ai_m36 3 = some (.bipush 108, 2) := rfl
theorem at_36_5 : ai_at ai_m36 5 = some (.if_icmp .ge 16, 3) := rfl
theorem at_36_8 : ai_at ai_m36 8 = some (.aload_n 0, 1) := rfl
theorem at_36_9 : ai_at ai_m36 9 = some (.getfield 22, 3) := rfl
theorem at_36_12 : ai_at ai_m36 12 = some (.iload_n 3, 1) := rfl
theorem at_36_13 : ai_at ai_m36 13 = some (.iload_n 3, 1) := rfl
theorem at_36_14 : ai_at ai_m36 14 = some (.iastore, 1) := rfl
theorem at_36_15 : ai_at ai_m36 15 = some (.iinc 3 1, 3) := rfl
theorem at_36_18 : ai_at ai_m36 18 = some (.goto (-16), 3) := rfl
theorem at_36_21 : ai_at ai_m36 21 = some (.aload_n 0, 1) := rfl
theorem at_36_22 : ai_at ai_m36 22 = some (.iconst 0, 1) := rfl
theorem at_36_23 : ai_at ai_m36 23 = some (.putfield 32, 3) := rfl
theorem at_36_26 : ai_at ai_m36 26 = some (.aload_n 0, 1) := rfl
theorem at_36_27 : ai_at ai_m36 27 = some (.iload_n 1, 1) := rfl
theorem at_36_28 : ai_at ai_m36 28 = some (.iload_n 2, 1) := rfl
theorem at_36_29 : ai_at ai_m36 29 = some (.invokevirtual 93, 3) := rfl
theorem at_36_32 : ai_at ai_m36 32 = some (.iconst 0, 1) := rfl
theorem at_36_33 : ai_at ai_m36 33 = some (.istore_n 3, 1) := rfl
theorem at_36_34 : ai_at ai_m36 34 = some (.iload_n 3, 1) := rfl
theorem at_36_35 : ai_at ai_m36 35 = some (.sipush 432, 3) := rfl
theorem at_36_38 : ai_at ai_m36 38 = some (.if_icmp .ge 64, 3) := rfl
theorem at_36_41 : ai_at ai_m36 41 = some (.aload_n 0, 1) := rfl
theorem at_36_42 : ai_at ai_m36 42 = some (.getfield 32, 3) := rfl
theorem at_36_45 : ai_at ai_m36 45 = some (.iconst 1, 1) := rfl
theorem at_36_46 : ai_at ai_m36 46 = some (.if_icmp .le 56, 3) := rfl
theorem at_36_49 : ai_at ai_m36 49 = some (.aload_n 0, 1) := rfl
theorem at_36_50 : ai_at ai_m36 50 = some (.dup, 1) := rfl
theorem at_36_51 : ai_at ai_m36 51 = some (.getfield 32, 3) := rfl
theorem at_36_54 : ai_at ai_m36 54 = some (.iconst 2, 1) := rfl
theorem at_36_55 : ai_at ai_m36 55 = some (.isub, 1) := rfl
theorem at_36_56 : ai_at ai_m36 56 = some (.putfield 32, 3) := rfl
theorem at_36_59 : ai_at ai_m36 59 = some (.aload_n 0, 1) := rfl
theorem at_36_60 : ai_at ai_m36 60 = some (.aload_n 0, 1) := rfl
theorem at_36_61 : ai_at ai_m36 61 = some (.aload_n 0, 1) := rfl
theorem at_36_62 : ai_at ai_m36 62 = some (.getfield 29, 3) := rfl
theorem at_36_65 : ai_at ai_m36 65 = some (.aload_n 0, 1) := rfl
theorem at_36_66 : ai_at ai_m36 66 = some (.getfield 32, 3) := rfl
theorem at_36_69 : ai_at ai_m36 69 = some (.iaload, 1) := rfl
theorem at_36_70 : ai_at ai_m36 70 = some (.invokevirtual 97, 3) := rfl
theorem at_36_73 : ai_at ai_m36 73 = some (.aload_n 0, 1) := rfl
theorem at_36_74 : ai_at ai_m36 74 = some (.aload_n 0, 1) := rfl
theorem at_36_75 : ai_at ai_m36 75 = some (.getfield 29, 3) := rfl
theorem at_36_78 : ai_at ai_m36 78 = some (.aload_n 0, 1) := rfl
theorem at_36_79 : ai_at ai_m36 79 = some (.getfield 32, 3) := rfl
theorem at_36_82 : ai_at ai_m36 82 = some (.iconst 1, 1) := rfl
theorem at_36_83 : ai_at ai_m36 83 = some (.iadd, 1) := rfl
theorem at_36_84 : ai_at ai_m36 84 = some (.iaload, 1) := rfl
theorem at_36_85 : ai_at ai_m36 85 = some (.invokevirtual 97, 3) := rfl
theorem at_36_88 : ai_at ai_m36 88 = some (.invokevirtual 101, 3) := rfl
theorem at_36_91 : ai_at ai_m36 91 = some (.ifCond .ne 5, 3) := rfl
theorem at_36_94 : ai_at ai_m36 94 = some (.iconst 0, 1) := rfl
theorem at_36_95 : ai_at ai_m36 95 = some (.ireturn, 1) := rfl
theorem at_36_96 : ai_at ai_m36 96 = some (.iinc 3 1, 3) := rfl
theorem at_36_99 : ai_at ai_m36 99 = some (.goto (-65), 3) := rfl
theorem at_36_102 : ai_at ai_m36 102 = some (.aload_n 0, 1) := rfl
theorem at_36_103 : ai_at ai_m36 103 = some (.getfield 32, 3) := rfl
theorem at_36_106 : ai_at ai_m36 106 = some (.ifCond .ne 7, 3) := rfl
theorem at_36_109 : ai_at ai_m36 109 = some (.iconst 1, 1) := rfl
theorem at_36_110 : ai_at ai_m36 110 = some (.goto 4, 3) := rfl
theorem at_36_114 : ai_at ai_m36 114 = some (.ireturn, 1) := rfl
theorem at_37_0 : ai_at ai_m37 0 = some (.aload_n 0, 1) := rfl
theorem at_37_1 : ai_at ai_m37 1 = some (.getfield 32, 3) := rfl
theorem at_37_4 : ai_at ai_m37 4 = some (.iconst 1, 1) := rfl
theorem at_37_5 : ai_at ai_m37 5 = some (.iadd, 1) := rfl
theorem at_37_6 : ai_at ai_m37 6 = some (.aload_n 0, 1) := rfl
theorem at_37_7 : ai_at ai_m37 7 = some (.getfield 29, 3) := rfl
theorem at_37_10 : ai_at ai_m37 10 = some (.arraylength, 1) := rfl
theorem at_37_11 : ai_at ai_m37 11 = some (.if_icmp .ge 35, 3) := rfl
theorem at_37_14 : ai_at ai_m37 14 = some (.aload_n 0, 1) := rfl
theorem at_37_15 : ai_at ai_m37 15 = some (.getfield 29, 3) := rfl
theorem at_37_18 : ai_at ai_m37 18 = some (.aload_n 0, 1) := rfl
theorem at_37_19 : ai_at ai_m37 19 = some (.getfield 32, 3) := rfl
theorem at_37_22 : ai_at ai_m37 22 = some (.iload_n 1, 1) := rfl
theorem at_37_23 : ai_at ai_m37 23 = some (.iastore, 1) := rfl
theorem at_37_24 : ai_at ai_m37 24 = some (.aload_n 0, 1) := rfl
theorem at_37_25 : ai_at ai_m37 25 = some (.getfield 29, 3) := rfl
theorem at_37_28 : ai_at ai_m37 28 = some (.aload_n 0, 1) := rfl
theorem at_37_29 : ai_at ai_m37 29 = some (.getfield 32, 3) := rfl
theorem at_37_32 : ai_at ai_m37 32 = some (.iconst 1, 1) := rfl
theorem at_37_33 : ai_at ai_m37 33 = some (.iadd, 1) := rfl
theorem at_37_34 : ai_at ai_m37 34 = some (.iload_n 2, 1) := rfl
theorem at_37_35 : ai_at ai_m37 35 = some (.iastore, 1) := rfl
theorem at_37_36 : ai_at ai_m37 36 = some (.aload_n 0, 1) := rfl
theorem at_37_37 : ai_at ai_m37 37 = some (.dup, 1) := rfl
theorem at_37_38 : ai_at ai_m37 38 = some (.getfield 32, 3) := rfl
theorem at_37_41 : ai_at ai_m37 41 = some (.iconst 2, 1) := rfl
theorem at_37_42 : ai_at ai_m37 42 = some (.iadd, 1) := rfl
theorem at_37_43 : ai_at ai_m37 43 = some (.putfield 32, 3) := rfl
theorem at_37_46 : ai_at ai_m37 46 = some (.return_, 1) := rfl
theorem at_38_0 : ai_at ai_m38 0 = some (.aload_n 0, 1) := rfl
theorem at_38_1 : ai_at ai_m38 1 = some (.getfield 19, 3) := rfl
theorem at_38_4 : ai_at ai_m38 4 = some (.iload_n 1, 1) := rfl
theorem at_38_5 : ai_at ai_m38 5 = some (.iaload, 1) := rfl
theorem at_38_6 : ai_at ai_m38 6 = some (.istore_n 2, 1) := rfl
theorem at_38_7 : ai_at ai_m38 7 = some (.iconst 0, 1) := rfl
theorem at_38_8 : ai_at ai_m38 8 = some (.istore_n 3, 1) := rfl
theorem at_38_9 : ai_at ai_m38 9 = some (.iload_n 3, 1) := rfl
theorem at_38_10 : ai_at ai_m38 10 = some (.bipush 108, 2) := rfl
theorem at_38_12 : ai_at ai_m38 12 = some (.if_icmp .ge 26, 3) := rfl
theorem at_38_15 : ai_at ai_m38 15 = some (.aload_n 0, 1) := rfl
theorem at_38_16 : ai_at ai_m38 16 = some (.getfield 22, 3) := rfl
theorem at_38_19 : ai_at ai_m38 19 = some (.iload_n 2, 1) := rfl
theorem at_38_20 : ai_at ai_m38 20 = some (.iaload, 1) := rfl
theorem at_38_21 : ai_at ai_m38 21 = some (.iload_n 2, 1) := rfl
theorem at_38_22 : ai_at ai_m38 22 = some (.if_icmp .eq 16, 3) := rfl
theorem at_38_25 : ai_at ai_m38 25 = some (.aload_n 0, 1) := rfl
theorem at_38_26 : ai_at ai_m38 26 = some (.getfield 22, 3) := rfl
theorem at_38_29 : ai_at ai_m38 29 = some (.iload_n 2, 1) := rfl
theorem at_38_30 : ai_at ai_m38 30 = some (.iaload, 1) := rfl
theorem at_38_31 : ai_at ai_m38 31 = some (.istore_n 2, 1) := rfl
theorem at_38_32 : ai_at ai_m38 32 = some (.iinc 3 1, 3) := rfl
theorem at_38_35 : ai_at ai_m38 35 = some (.goto (-26), 3) := rfl
theorem at_38_38 : ai_at ai_m38 38 = some (.iload_n 2, 1) := rfl
theorem at_38_39 : ai_at ai_m38 39 = some (.ireturn, 1) := rfl
theorem at_39_0 : ai_at ai_m39 0 = some (.iload_n 1, 1) := rfl
theorem at_39_1 : ai_at ai_m39 1 = some (.iload_n 2, 1) := rfl
theorem at_39_2 : ai_at ai_m39 2 = some (.if_icmp .ne 5, 3) := rfl
theorem at_39_5 : ai_at ai_m39 5 = some (.iconst 1, 1) := rfl
theorem at_39_6 : ai_at ai_m39 6 = some (.ireturn, 1) := rfl
theorem at_39_7 : ai_at ai_m39 7 = some (.iload_n 1, 1) := rfl
theorem at_39_8 : ai_at ai_m39 8 = some (.bipush 96, 2) := rfl
theorem at_39_10 : ai_at ai_m39 10 = some (.if_icmp .lt 12, 3) := rfl
theorem at_39_13 : ai_at ai_m39 13 = some (.aload_n 0, 1) := rfl
theorem at_39_14 : ai_at ai_m39 14 = some (.getfield 22, 3) := rfl
theorem at_39_17 : ai_at ai_m39 17 = some (.iload_n 1, 1) := rfl
theorem at_39_18 : ai_at ai_m39 18 = some (.iload_n 2, 1) := rfl
theorem at_39_19 : ai_at ai_m39 19 = some (.iastore, 1) := rfl
theorem at_39_20 : ai_at ai_m39 20 = some (.iconst 1, 1) := rfl
theorem at_39_21 : ai_at ai_m39 21 = some (.ireturn, 1) := rfl
theorem at_39_22 : ai_at ai_m39 22 = some (.iload_n 2, 1) := rfl
theorem at_39_23 : ai_at ai_m39 23 = some (.bipush 96, 2) := rfl
theorem at_39_25 : ai_at ai_m39 25 = some (.if_icmp .lt 12, 3) := rfl
theorem at_39_28 : ai_at ai_m39 28 = some (.aload_n 0, 1) := rfl
theorem at_39_29 : ai_at ai_m39 29 = some (.getfield 22, 3) := rfl
theorem at_39_32 : ai_at ai_m39 32 = some (.iload_n 2, 1) := rfl
theorem at_39_33 : ai_at ai_m39 33 = some (.iload_n 1, 1) := rfl
theorem at_39_34 : ai_at ai_m39 34 = some (.iastore, 1) := rfl
theorem at_39_35 : ai_at ai_m39 35 = some (.iconst 1, 1) := rfl
theorem at_39_36 : ai_at ai_m39 36 = some (.ireturn, 1) := rfl
theorem at_39_37 : ai_at ai_m39 37 = some (.aload_n 0, 1) := rfl
theorem at_39_38 : ai_at ai_m39 38 = some (.getfield 11, 3) := rfl
theorem at_39_41 : ai_at ai_m39 41 = some (.iload_n 1, 1) := rfl
theorem at_39_42 : ai_at ai_m39 42 = some (.caload, 1) := rfl
theorem at_39_43 : ai_at ai_m39 43 = some (.aload_n 0, 1) := rfl
theorem at_39_44 : ai_at ai_m39 44 = some (.getfield 11, 3) := rfl
theorem at_39_47 : ai_at ai_m39 47 = some (.iload_n 2, 1) := rfl
theorem at_39_48 : ai_at ai_m39 48 = some (.caload, 1) := rfl
theorem at_39_49 : ai_at ai_m39 49 = some (.if_icmp .eq 5, 3) := rfl
theorem at_39_52 : ai_at ai_m39 52 = some (.iconst 0, 1) := rfl
theorem at_39_53 : ai_at ai_m39 53 = some (.ireturn, 1) := rfl
theorem at_39_54 : ai_at ai_m39 54 = some (.aload_n 0, 1) := rfl
theorem at_39_55 : ai_at ai_m39 55 = some (.getfield 22, 3) := rfl
theorem at_39_58 : ai_at ai_m39 58 = some (.iload_n 2, 1) := rfl
theorem at_39_59 : ai_at ai_m39 59 = some (.iload_n 1, 1) := rfl
theorem at_39_60 : ai_at ai_m39 60 = some (.iastore, 1) := rfl
theorem at_39_61 : ai_at ai_m39 61 = some (.aload_n 0, 1) := rfl
theorem at_39_62 : ai_at ai_m39 62 = some (.iload_n 1, 1) := rfl
theorem at_39_63 : ai_at ai_m39 63 = some (.iload_n 2, 1) := rfl
theorem at_39_64 : ai_at ai_m39 64 = some (.invokevirtual 104, 3) := rfl
theorem at_39_67 : ai_at ai_m39 67 = some (.iconst 1, 1) := rfl
theorem at_39_68 : ai_at ai_m39 68 = some (.ireturn, 1) := rfl
theorem at_40_0 : ai_at ai_m40 0 = some (.iload_n 1, 1) := rfl
theorem at_40_1 : ai_at ai_m40 1 = some (.iconst 1, 1) := rfl
theorem at_40_2 : ai_at ai_m40 2 = some (.iadd, 1) := rfl
theorem at_40_3 : ai_at ai_m40 3 = some (.istore_n 3, 1) := rfl
theorem at_40_4 : ai_at ai_m40 4 = some (.iload_n 2, 1) := rfl
theorem at_40_5 : ai_at ai_m40 5 = some (.iconst 1, 1) := rfl
theorem at_40_6 : ai_at ai_m40 6 = some (.iadd, 1) := rfl
theorem at_40_7 : ai_at ai_m40 7 = some (.istore 4, 2) := rfl
theorem at_40_9 : ai_at ai_m40 9 = some (.aload_n 0, 1) := rfl
theorem at_40_10 : ai_at ai_m40 10 = some (.getfield 48, 3) := rfl
theorem at_40_13 : ai_at ai_m40 13 = some (.aload_n 0, 1) := rfl
theorem at_40_14 : ai_at ai_m40 14 = some (.getfield 11, 3) := rfl
theorem at_40_17 : ai_at ai_m40 17 = some (.iload_n 1, 1) := rfl
theorem at_40_18 : ai_at ai_m40 18 = some (.caload, 1) := rfl
theorem at_40_19 : ai_at ai_m40 19 = some (.invokevirtual 107, 3) := rfl
theorem at_40_22 : ai_at ai_m40 22 = some (.istore 5, 2) := rfl
theorem at_40_24 : ai_at ai_m40 24 = some (.iload 5, 2) := rfl
theorem at_40_26 : ai_at ai_m40 26 = some (.ifCond .le 32, 3) := rfl
theorem at_40_29 : ai_at ai_m40 29 = some (.aload_n 0, 1) := rfl
theorem at_40_30 : ai_at ai_m40 30 = some (.iload_n 3, 1) := rfl
theorem at_40_31 : ai_at ai_m40 31 = some (.iload 4, 2) := rfl
theorem at_40_33 : ai_at ai_m40 33 = some (.invokevirtual 93, 3) := rfl
theorem at_40_36 : ai_at ai_m40 36 = some (.aload_n 0, 1) := rfl
theorem at_40_37 : ai_at ai_m40 37 = some (.getfield 15, 3) := rfl
theorem at_40_40 : ai_at ai_m40 40 = some (.iload_n 3, 1) := rfl
theorem at_40_41 : ai_at ai_m40 41 = some (.iaload, 1) := rfl
theorem at_40_42 : ai_at ai_m40 42 = some (.istore_n 3, 1) := rfl
theorem at_40_43 : ai_at ai_m40 43 = some (.aload_n 0, 1) := rfl
theorem at_40_44 : ai_at ai_m40 44 = some (.getfield 15, 3) := rfl
theorem at_40_47 : ai_at ai_m40 47 = some (.iload 4, 2) := rfl
theorem at_40_49 : ai_at ai_m40 49 = some (.iaload, 1) := rfl
theorem at_40_50 : ai_at ai_m40 50 = some (.istore 4, 2) := rfl
theorem at_40_52 : ai_at ai_m40 52 = some (.iinc 5 (-1), 3) := rfl
theorem at_40_55 : ai_at ai_m40 55 = some (.goto (-31), 3) := rfl
theorem at_40_58 : ai_at ai_m40 58 = some (.return_, 1) := rfl
theorem fl_3_11 : ai_fld 3 11 = some (10, 1, false) := by decide +kernel
theorem fl_3_15 : ai_fld 3 15 = some (10, 2, false) := by decide +kernel
theorem fl_3_19 : ai_fld 3 19 = some (10, 3, false) := by decide +kernel
theorem fl_3_22 : ai_fld 3 22 = some (10, 4, false) := by decide +kernel
theorem fl_3_29 : ai_fld 3 29 = some (10, 6, false) := by decide +kernel
theorem fl_3_32 : ai_fld 3 32 = some (10, 7, false) := by decide +kernel
theorem fl_3_48 : ai_fld 3 48 = some (10, 0, false) := by decide +kernel
theorem mt_3_93 : ai_mth 3 93 = some (0, 37, 2, 10) := by decide +kernel
theorem mt_3_97 : ai_mth 3 97 = some (0, 38, 1, 10) := by decide +kernel
theorem mt_3_101 : ai_mth 3 101 = some (0, 39, 2, 10) := by decide +kernel
theorem mt_3_104 : ai_mth 3 104 = some (0, 40, 2, 10) := by decide +kernel
theorem mt_3_107 : ai_mth 3 107 = some (0, 82, 1, 1) := by decide +kernel
set_option maxHeartbeats 2000000 in
theorem r_cls1 {par : Nat → Nat} {i n0 : Nat} (h : ovo S LT EN ND PA SE ST dp e) (hp : pav PA par) : ∀ (k c n : Nat), c + k = 108 → n < 108 → rep par n0 = itr par k n → ai_aw L xs d ai_m38 (fun o => ∃ v S', o = (.inl v, S') ∧ S' = S ∧ v = some (ax_i (rep par n0 : Nat))) (9, [some (.ref 425), some (ax_i (i : Nat)), some (ax_i (n : Nat)), some (ax_i (c : Nat))], [], S) := by
  have kout : ∀ (n c : Nat), rep par n0 = n → ai_aw L xs d ai_m38 (fun o => ∃ v S', o = (.inl v, S') ∧ S' = S ∧ v = some (ax_i (rep par n0 : Nat))) (38, [some (.ref 425), some (ax_i (i : Nat)), some (ax_i (n : Nat)), some (ax_i (c : Nat))], [], S) := by
    intro n c hr
    refine aw_loc at_38_38 rfl rfl ?_
    exact ax_ret at_38_39 rfl ⟨_, _, rfl, rfl, by rw [hr]⟩
  intro k
  induction k with
  | zero =>
    intro c n hc hn hr
    refine aw_loc at_38_9 rfl rfl ?_
    refine aw_pure (st' := ax_i (108) :: _) at_38_10 rfl rfl ?_
    refine ax_icmp_ge at_38_12 ⟨by omega, by omega⟩ ⟨by omega, by omega⟩ (fun _ => kout n c hr) (fun z => absurd z (by omega))
  | succ k ih =>
    intro c n hc hn hr
    have hpn := hp n hn
    refine aw_loc at_38_9 rfl rfl ?_
    refine aw_pure (st' := ax_i (108) :: _) at_38_10 rfl rfl ?_
    refine ax_icmp_ge at_38_12 ⟨by omega, by omega⟩ ⟨by omega, by omega⟩ (fun z => absurd z (by omega)) (fun _ => ?_)
    refine aw_loc at_38_15 rfl rfl ?_
    refine aw_get at_38_16 rfl fl_3_22 h.1 rfl ?_
    refine aw_loc at_38_19 rfl rfl ?_
    refine ax_ild at_38_20 rfl h.2.2.2.2.1 (k := n) rfl (by omega) (by decide) ?_
    rw [hpn.1]
    refine aw_loc at_38_21 rfl rfl ?_
    refine ax_icmp_eq at_38_22 ⟨by omega, by omega⟩ ⟨by omega, by omega⟩ (fun z => kout n c (by rw [hr]; exact itr_fix (by omega) _)) (fun z => ?_)
    refine aw_loc at_38_25 rfl rfl ?_
    refine aw_get at_38_26 rfl fl_3_22 h.1 rfl ?_
    refine aw_loc at_38_29 rfl rfl ?_
    refine ax_ild at_38_30 rfl h.2.2.2.2.1 (k := n) rfl (by omega) (by decide) ?_
    rw [hpn.1]
    refine aw_loc at_38_31 rfl rfl ?_
    refine ax_inc at_38_32 rfl rfl rfl ?_
    refine aw_goto at_38_35 ?_
    have := ih (c + 1) (par n) (by omega) hpn.2 hr
    rw [Int.natCast_add] at this
    exact this
set_option maxHeartbeats 2000000 in
theorem r_cls {par : Nat → Nat} {i n0 : Nat} (h : ovo S LT EN ND PA SE ST dp e) (hp : pav PA par) (hi : i < 96) (hn : ND i = (n0 : Int)) (hn2 : n0 < 108) : ai_rn L xs (d + 1) 38 [.ref 425, ax_i (i : Nat)] S (fun v S' => S' = S ∧ v = some (ax_i (rep par n0 : Nat))) := by
  refine ai_rn_of (M := ai_m38) rfl (by decide) (Nat.le_of_ble_eq_true rfl) ?_
  refine aw_loc at_38_0 rfl rfl ?_
  refine aw_get at_38_1 rfl fl_3_19 h.1 rfl ?_
  refine aw_loc at_38_4 rfl rfl ?_
  refine ax_ild at_38_5 rfl h.2.2.2.1 (k := i) rfl (by omega) (by decide) ?_
  rw [hn]
  refine aw_loc at_38_6 rfl rfl ?_
  refine aw_pure (st' := ax_i (0) :: _) at_38_7 rfl rfl ?_
  refine aw_loc at_38_8 rfl rfl ?_
  exact r_cls1 h hp 108 0 n0 (by omega) hn2 rfl
set_option maxHeartbeats 2000000 in
theorem r_pushB {st : List (Nat × Nat)} {a b : Nat} (h : ovo S LT EN ND PA SE ST (2 * (st.length : Int)) e) (hk : skr ST st) (hl : st.length < 108) : ai_rn L xs (d + 1) 37 [.ref 425, ax_i (a : Nat), ax_i (b : Nat)] S (fun v S' => v = none ∧ fr 425 432 S S' ∧ ∃ ST', ovo S' LT EN ND PA SE ST' (2 * ((((a, b) :: st : List (Nat × Nat)).length : Nat) : Int)) e ∧ skr ST' ((a, b) :: st)) := by
  refine ai_rn_of (M := ai_m37) rfl (by decide) (Nat.le_of_ble_eq_true rfl) ?_
  refine aw_loc at_37_0 rfl rfl ?_
  refine aw_get at_37_1 rfl fl_3_32 h.1 rfl ?_
  refine aw_pure (st' := ax_i (1) :: _) at_37_4 rfl rfl ?_
  refine ax_add at_37_5 rfl ?_
  refine aw_loc at_37_6 rfl rfl ?_
  refine aw_get at_37_7 rfl fl_3_29 h.1 rfl ?_
  refine ai_arr_len at_37_10 rfl h.2.2.2.2.2.2 (by decide) ?_
  refine ax_icmp_ge at_37_11 ⟨by omega, by omega⟩ ⟨by omega, by omega⟩ (fun z => absurd z (by omega)) (fun _ => ?_)
  refine aw_loc at_37_14 rfl rfl ?_
  refine aw_get at_37_15 rfl fl_3_29 h.1 rfl ?_
  refine aw_loc at_37_18 rfl rfl ?_
  refine aw_get at_37_19 rfl fl_3_32 h.1 rfl ?_
  refine aw_loc at_37_22 rfl rfl ?_
  refine ax_ist (k := 2 * st.length) at_37_23 rfl h.2.2.2.2.2.2 (by omega) (by omega) (by decide) ?_
  have h1 := ovo_st (F := ax_up ST (2 * st.length) a) h
  refine aw_loc at_37_24 rfl rfl ?_
  refine aw_get at_37_25 rfl fl_3_29 h1.1 rfl ?_
  refine aw_loc at_37_28 rfl rfl ?_
  refine aw_get at_37_29 rfl fl_3_32 h1.1 rfl ?_
  refine aw_pure (st' := ax_i (1) :: _) at_37_32 rfl rfl ?_
  refine ax_add at_37_33 rfl ?_
  refine aw_loc at_37_34 rfl rfl ?_
  refine ax_ist (k := 2 * st.length + 1) at_37_35 rfl h1.2.2.2.2.2.2 (by omega) (by omega) (by decide) ?_
  have h2 := ovo_st (F := ax_up (ax_up ST (2 * st.length) a) (2 * st.length + 1) b) h1
  refine aw_loc at_37_36 rfl rfl ?_
  refine aw_pure at_37_37 rfl rfl ?_
  refine aw_get at_37_38 rfl fl_3_32 h2.1 rfl ?_
  refine aw_pure (st' := ax_i (2) :: _) at_37_41 rfl rfl ?_
  refine ax_add at_37_42 rfl ?_
  refine aw_put at_37_43 rfl fl_3_32 h2.1 (Nat.le_of_ble_eq_true rfl) rfl (by decide +kernel) ?_
  refine aw_vret at_37_46 rfl ⟨_, _, rfl, rfl, ((fr_ov (by decide) (by decide)).tr (fr_ov (by decide) (by decide))).tr (fr_ov (by decide) (by decide)), ax_up (ax_up ST (2 * st.length) a) (2 * st.length + 1) b, ?_, skr_push hk⟩
  have h3 := ovo_dp (dp2 := 2 * (st.length : Int) + 2) h2
  rw [show (2 : Int) * ((((a, b) :: st : List (Nat × Nat)).length : Nat) : Int) = 2 * (st.length : Int) + 2 by rw [List.length_cons]; omega]
  exact h3
set_option maxHeartbeats 4000000 in
theorem r_pushT {A : Int → Nat} {D : Nat → Prop} {Y : Nat → Int} {en : Nat → Nat} {Tm : Nat → List Int} {st : List (Nat × Nat)} {r s : Nat} (hA2 : ∀ c, A c ≤ 2) (hs : sy S P R nn) (hv : ovs A P LT EN ND D Y en) (ht : tps A D Y (chp en) Tm) (h : ovo S LT EN ND PA SE ST (2 * (st.length : Int)) e) (hk : skr ST st) (hl : st.length + A (Y r) ≤ 108) (hr : D r) (hsD : D s) (hY : Y r = Y s) : ai_rn L xs (d + 2) 40 [.ref 425, ax_i (r : Nat), ax_i (s : Nat)] S (fun v S' => v = none ∧ fr 425 432 S S' ∧ ∃ ST' st', ovo S' LT EN ND PA SE ST' (2 * (st'.length : Int)) e ∧ skr ST' st' ∧ st'.length = st.length + A (Y r) ∧ (∀ q, q ∈ st' → q ∈ st ∨ ∃ k, k < A (Y r) ∧ q = (chp en r k, chp en s k)) ∧ (∀ q, q ∈ st → q ∈ st') ∧ ∀ k, k < A (Y r) → (chp en r k, chp en s k) ∈ st') := by
  have hvr := hv r hr
  have hvs := hv s hsD
  have hcr := ht.1 r hr
  have hcs := ht.1 s hsD
  rw [← hY] at hcs
  have kout : ∀ (S9 : ai_S) (ST9 : Nat → Int) (st9 : List (Nat × Nat)) (x y n5 : Int), n5 = 0 → fr 425 432 S S9 → ovo S9 LT EN ND PA SE ST9 (2 * (st9.length : Int)) e → skr ST9 st9 → st9.length = st.length + A (Y r) → (∀ q, q ∈ st9 → q ∈ st ∨ ∃ k, k < A (Y r) ∧ q = (chp en r k, chp en s k)) → (∀ q, q ∈ st → q ∈ st9) → (∀ k, k < A (Y r) → (chp en r k, chp en s k) ∈ st9) → ai_aw L xs (d + 1) ai_m40 (fun o => ∃ v S', o = (.inl v, S') ∧ v = none ∧ fr 425 432 S S' ∧ ∃ ST' st', ovo S' LT EN ND PA SE ST' (2 * (st'.length : Int)) e ∧ skr ST' st' ∧ st'.length = st.length + A (Y r) ∧ (∀ q, q ∈ st' → q ∈ st ∨ ∃ k, k < A (Y r) ∧ q = (chp en r k, chp en s k)) ∧ (∀ q, q ∈ st → q ∈ st') ∧ ∀ k, k < A (Y r) → (chp en r k, chp en s k) ∈ st') (24, [some (.ref 425), some (ax_i (r : Nat)), some (ax_i (s : Nat)), some (ax_i x), some (ax_i y), some (ax_i n5)], [], S9) := by
    intro S9 ST9 st9 x y n5 g0 g1 g2 g3 g4 g5 g6 g7
    refine aw_loc at_40_24 rfl rfl ?_
    refine ax_if_le at_40_26 ⟨by omega, by omega⟩ (fun _ => ?_) (fun z => absurd z (by omega))
    exact aw_vret at_40_58 rfl ⟨_, _, rfl, rfl, g1, ST9, st9, g2, g3, g4, g5, g6, g7⟩
  have e0 : ∀ i, chp en i 0 = i + 1 := fun i => rfl
  have e1 : ∀ i, chp en i 1 = en (i + 1) := fun i => rfl
  refine ai_rn_of (M := ai_m40) rfl (by decide) (Nat.le_of_ble_eq_true rfl) ?_
  refine aw_loc at_40_0 rfl rfl ?_
  refine aw_pure (st' := ax_i (1) :: _) at_40_1 rfl rfl ?_
  refine ax_add at_40_2 rfl ?_
  refine aw_loc at_40_3 rfl rfl ?_
  refine aw_loc at_40_4 rfl rfl ?_
  refine aw_pure (st' := ax_i (1) :: _) at_40_5 rfl rfl ?_
  refine ax_add at_40_6 rfl ?_
  refine aw_loc at_40_7 rfl rfl ?_
  refine aw_loc at_40_9 rfl rfl ?_
  refine aw_get at_40_10 rfl fl_3_48 h.1 rfl ?_
  refine aw_loc at_40_13 rfl rfl ?_
  refine aw_get at_40_14 rfl fl_3_11 h.1 rfl ?_
  refine aw_loc at_40_17 rfl rfl ?_
  refine ax_cld at_40_18 rfl h.2.1 (k := r) rfl (by omega) (by decide) ?_
  refine aw_cv (a := 1) [ax_i (LT r)] [] at_40_19 mt_3_107 (Or.inl rfl) rfl rfl (Nat.le_of_ble_eq_true rfl) ⟨_, hs.1⟩ ((r_places hs hvr.2.1).mono ?_)
  rintro v S0 ⟨hS, rfl⟩
  have hS2 := hS.symm
  subst hS2
  rw [hvr.2.2.2.2.2.2.2]
  refine aw_loc at_40_22 rfl rfl ?_
  have hA9 := hA2 (Y r)
  obtain hn | hn | hn : A (Y r) = 0 ∨ A (Y r) = 1 ∨ A (Y r) = 2 := by omega
  · skip
    exact kout S ST st _ _ _ (by omega) fr.rf h hk (by omega) (fun q hq => Or.inl hq) (fun q hq => hq) (fun k hk => by omega)
  · skip
    have c0 := hv _ (hcr 0 (by omega))
    have c1 := hv _ (hcs 0 (by omega))
    rw [e0] at c0 c1
    rw [show (r : Int) + 1 = ((r + 1 : Nat) : Int) by omega, show (s : Int) + 1 = ((s + 1 : Nat) : Int) by omega]
    refine aw_loc at_40_24 rfl rfl ?_
    refine ax_if_le at_40_26 ⟨by omega, by omega⟩ (fun z => absurd z (by omega)) (fun _ => ?_)
    refine aw_loc at_40_29 rfl rfl ?_
    refine aw_loc at_40_30 rfl rfl ?_
    refine aw_loc at_40_31 rfl rfl ?_
    refine aw_cv (a := 425) [ax_i ((r + 1 : Nat) : Int), ax_i ((s + 1 : Nat) : Int)] [] at_40_33 mt_3_93 (Or.inl rfl) rfl rfl (Nat.le_of_ble_eq_true rfl) ⟨_, h.1⟩ ((r_pushB h hk (by omega)).mono ?_)
    rintro v S1 ⟨rfl, f1, ST1, h1, k1⟩
    refine aw_loc at_40_36 rfl rfl ?_
    refine aw_get at_40_37 rfl fl_3_15 h1.1 rfl ?_
    refine aw_loc at_40_40 rfl rfl ?_
    refine ax_ild at_40_41 rfl h1.2.2.1 (k := r + 1) rfl (by omega) (by decide) ?_
    rw [c0.2.2.2.2.2.2.1]
    refine aw_loc at_40_42 rfl rfl ?_
    refine aw_loc at_40_43 rfl rfl ?_
    refine aw_get at_40_44 rfl fl_3_15 h1.1 rfl ?_
    refine aw_loc at_40_47 rfl rfl ?_
    refine ax_ild at_40_49 rfl h1.2.2.1 (k := s + 1) rfl (by omega) (by decide) ?_
    rw [c1.2.2.2.2.2.2.1]
    refine aw_loc at_40_50 rfl rfl ?_
    refine ax_inc at_40_52 rfl rfl rfl ?_
    refine aw_goto at_40_55 ?_
    exact kout S1 ST1 _ _ _ _ (by omega) f1 h1 k1 (by rw [List.length_cons, hn]) (fun q hq => (List.mem_cons.1 hq).elim (fun h => Or.inr ⟨0, by omega, by rw [h, e0, e0]⟩) Or.inl) (fun q hq => List.mem_cons_of_mem _ hq) (fun k hk => by rw [show k = 0 by omega, e0, e0]; exact List.mem_cons_self ..)
  · skip
    have c0 := hv _ (hcr 0 (by omega))
    have c1 := hv _ (hcs 0 (by omega))
    rw [e0] at c0 c1
    rw [show (r : Int) + 1 = ((r + 1 : Nat) : Int) by omega, show (s : Int) + 1 = ((s + 1 : Nat) : Int) by omega]
    refine aw_loc at_40_24 rfl rfl ?_
    refine ax_if_le at_40_26 ⟨by omega, by omega⟩ (fun z => absurd z (by omega)) (fun _ => ?_)
    refine aw_loc at_40_29 rfl rfl ?_
    refine aw_loc at_40_30 rfl rfl ?_
    refine aw_loc at_40_31 rfl rfl ?_
    refine aw_cv (a := 425) [ax_i ((r + 1 : Nat) : Int), ax_i ((s + 1 : Nat) : Int)] [] at_40_33 mt_3_93 (Or.inl rfl) rfl rfl (Nat.le_of_ble_eq_true rfl) ⟨_, h.1⟩ ((r_pushB h hk (by omega)).mono ?_)
    rintro v S1 ⟨rfl, f1, ST1, h1, k1⟩
    refine aw_loc at_40_36 rfl rfl ?_
    refine aw_get at_40_37 rfl fl_3_15 h1.1 rfl ?_
    refine aw_loc at_40_40 rfl rfl ?_
    refine ax_ild at_40_41 rfl h1.2.2.1 (k := r + 1) rfl (by omega) (by decide) ?_
    rw [c0.2.2.2.2.2.2.1]
    refine aw_loc at_40_42 rfl rfl ?_
    refine aw_loc at_40_43 rfl rfl ?_
    refine aw_get at_40_44 rfl fl_3_15 h1.1 rfl ?_
    refine aw_loc at_40_47 rfl rfl ?_
    refine ax_ild at_40_49 rfl h1.2.2.1 (k := s + 1) rfl (by omega) (by decide) ?_
    rw [c1.2.2.2.2.2.2.1]
    refine aw_loc at_40_50 rfl rfl ?_
    refine ax_inc at_40_52 rfl rfl rfl ?_
    refine aw_goto at_40_55 ?_
    have c2 := hv _ (hcr 1 (by omega))
    have c3 := hv _ (hcs 1 (by omega))
    rw [e1] at c2 c3
    refine aw_loc at_40_24 rfl rfl ?_
    refine ax_if_le at_40_26 ⟨by omega, by omega⟩ (fun z => absurd z (by omega)) (fun _ => ?_)
    refine aw_loc at_40_29 rfl rfl ?_
    refine aw_loc at_40_30 rfl rfl ?_
    refine aw_loc at_40_31 rfl rfl ?_
    refine aw_cv (a := 425) [ax_i (en (r + 1) : Nat), ax_i (en (s + 1) : Nat)] [] at_40_33 mt_3_93 (Or.inl rfl) rfl rfl (Nat.le_of_ble_eq_true rfl) ⟨_, h1.1⟩ ((r_pushB h1 k1 (by rw [List.length_cons]; omega)).mono ?_)
    rintro v S2 ⟨rfl, f2, ST2, h2, k2⟩
    refine aw_loc at_40_36 rfl rfl ?_
    refine aw_get at_40_37 rfl fl_3_15 h2.1 rfl ?_
    refine aw_loc at_40_40 rfl rfl ?_
    refine ax_ild at_40_41 rfl h2.2.2.1 (k := en (r + 1)) rfl (by omega) (by decide) ?_
    refine aw_loc at_40_42 rfl rfl ?_
    refine aw_loc at_40_43 rfl rfl ?_
    refine aw_get at_40_44 rfl fl_3_15 h2.1 rfl ?_
    refine aw_loc at_40_47 rfl rfl ?_
    refine ax_ild at_40_49 rfl h2.2.2.1 (k := en (s + 1)) rfl (by omega) (by decide) ?_
    refine aw_loc at_40_50 rfl rfl ?_
    refine ax_inc at_40_52 rfl rfl rfl ?_
    refine aw_goto at_40_55 ?_
    refine kout S2 ST2 _ _ _ _ (by omega) (f1.tr f2) h2 k2 (by rw [List.length_cons, List.length_cons, hn]) (fun q hq => ?_) (fun q hq => List.mem_cons_of_mem _ (List.mem_cons_of_mem _ hq)) (fun k hk => ?_)
    · rcases List.mem_cons.1 hq with h | hq
      · exact Or.inr ⟨1, by omega, by rw [h, e1, e1]⟩
      · exact (List.mem_cons.1 hq).elim (fun h => Or.inr ⟨0, by omega, by rw [h, e0, e0]⟩) Or.inl
    · obtain rfl | rfl : k = 0 ∨ k = 1 := by omega
      · rw [e0, e0]; exact List.mem_cons_of_mem _ (List.mem_cons_self ..)
      · rw [e1, e1]; exact List.mem_cons_self ..
set_option maxHeartbeats 4000000 in
theorem r_join {A : Int → Nat} {D : Nat → Prop} {Y : Nat → Int} {en : Nat → Nat} {Tm : Nat → List Int} {st : List (Nat × Nat)} {r s : Nat} {par : Nat → Nat} (hA2 : ∀ c, A c ≤ 2) (hs : sy S P R nn) (hv : ovs A P LT EN ND D Y en) (ht : tps A D Y (chp en) Tm) (h : ovo S LT EN ND PA SE ST (2 * (st.length : Int)) e) (hk : skr ST st) (hp : pav PA par) (hl : st.length + A (Y r) ≤ 108) (hr1 : r < 108) (hs1 : s < 108) (hr : r < 96 → D r ∧ Y r < 117) (hsD : s < 96 → D s ∧ Y s < 117) : ai_rn L xs (d + 3) 39 [.ref 425, ax_i (r : Nat), ax_i (s : Nat)] S (fun v S' => fr 425 432 S S' ∧ ∃ z, v = some (ax_i z) ∧ ((z = 0 ∧ S' = S ∧ r ≠ s ∧ r < 96 ∧ s < 96 ∧ Y r ≠ Y s) ∨ (z = 1 ∧ ∃ PA' ST' par' st', ovo S' LT EN ND PA' SE ST' (2 * (st'.length : Int)) e ∧ skr ST' st' ∧ pav PA' par' ∧ ((r = s ∧ par' = par ∧ st' = st) ∨ (r ≠ s ∧ 96 ≤ r ∧ par' = n_up par r s ∧ st' = st) ∨ (r ≠ s ∧ r < 96 ∧ 96 ≤ s ∧ par' = n_up par s r ∧ st' = st) ∨ (r ≠ s ∧ r < 96 ∧ s < 96 ∧ Y r = Y s ∧ par' = n_up par s r ∧ st'.length = st.length + A (Y r) ∧ (∀ q, q ∈ st' → q ∈ st ∨ ∃ k, k < A (Y r) ∧ q = (chp en r k, chp en s k)) ∧ (∀ q, q ∈ st → q ∈ st') ∧ ∀ k, k < A (Y r) → (chp en r k, chp en s k) ∈ st'))))) := by
  refine ai_rn_of (M := ai_m39) rfl (by decide) (Nat.le_of_ble_eq_true rfl) ?_
  refine aw_loc at_39_0 rfl rfl ?_
  refine aw_loc at_39_1 rfl rfl ?_
  refine ax_icmp_ne at_39_2 ⟨by omega, by omega⟩ ⟨by omega, by omega⟩ (fun z => ?_) (fun z => ?_)
  · skip
    have hrs : r ≠ s := by omega
    refine aw_loc at_39_7 rfl rfl ?_
    refine aw_pure (st' := ax_i (96) :: _) at_39_8 rfl rfl ?_
    refine ax_icmp_lt at_39_10 ⟨by omega, by omega⟩ ⟨by omega, by omega⟩ (fun z2 => ?_) (fun z2 => ?_)
    · skip
      have hvr := hv r (hr (by omega)).1
      refine aw_loc at_39_22 rfl rfl ?_
      refine aw_pure (st' := ax_i (96) :: _) at_39_23 rfl rfl ?_
      refine ax_icmp_lt at_39_25 ⟨by omega, by omega⟩ ⟨by omega, by omega⟩ (fun z3 => ?_) (fun z3 => ?_)
      · skip
        have hvs := hv s (hsD (by omega)).1
        have hYr := (hr (by omega)).2
        have hYs := (hsD (by omega)).2
        have el1 := hvr.2.2.2.2.1 hYr
        have el2 := hvs.2.2.2.2.1 hYs
        have b1 := hvr.2.1
        have b2 := hvs.2.1
        refine aw_loc at_39_37 rfl rfl ?_
        refine aw_get at_39_38 rfl fl_3_11 h.1 rfl ?_
        refine aw_loc at_39_41 rfl rfl ?_
        refine ax_cld at_39_42 rfl h.2.1 (k := r) rfl (by omega) (by decide) ?_
        refine aw_loc at_39_43 rfl rfl ?_
        refine aw_get at_39_44 rfl fl_3_11 h.1 rfl ?_
        refine aw_loc at_39_47 rfl rfl ?_
        refine ax_cld at_39_48 rfl h.2.1 (k := s) rfl (by omega) (by decide) ?_
        refine ax_icmp_eq at_39_49 ⟨by omega, by omega⟩ ⟨by omega, by omega⟩ (fun z4 => ?_) (fun z4 => ?_)
        · skip
          have hY : Y r = Y s := by omega
          refine aw_loc at_39_54 rfl rfl ?_
          refine aw_get at_39_55 rfl fl_3_22 h.1 rfl ?_
          refine aw_loc at_39_58 rfl rfl ?_
          refine aw_loc at_39_59 rfl rfl ?_
          refine ax_ist (k := s) at_39_60 rfl h.2.2.2.2.1 rfl (by omega) (by decide) ?_
          have h1 := ovo_pa (F := ax_up PA s r) h
          have f1 : fr 425 432 S _ := fr_ov (a := 429) (x := .inl (0, ai_I 108 (ax_f (ax_up PA s r)))) (by decide) (by decide)
          refine aw_loc at_39_61 rfl rfl ?_
          refine aw_loc at_39_62 rfl rfl ?_
          refine aw_loc at_39_63 rfl rfl ?_
          refine aw_cv (a := 425) [ax_i (r : Nat), ax_i (s : Nat)] [] at_39_64 mt_3_104 (Or.inl rfl) rfl rfl (Nat.le_of_ble_eq_true rfl) ⟨_, h1.1⟩ ((r_pushT hA2 (f1.sy hs (by decide)) hv ht h1 hk hl (hr (by omega)).1 (hsD (by omega)).1 hY).mono ?_)
          rintro v S2 ⟨rfl, f2, ST2, st2, h2, k2, q1, q2, q3, q4⟩
          refine aw_pure (st' := ax_i (1) :: _) at_39_67 rfl rfl ?_
          exact ax_retZ at_39_68 rfl (Or.inr rfl) ⟨_, _, rfl, f1.tr f2, 1, rfl, Or.inr ⟨rfl, _, ST2, _, st2, h2, k2, pav_up hp (by omega), Or.inr (Or.inr (Or.inr ⟨hrs, by omega, by omega, hY, rfl, q1, q2, q3, q4⟩))⟩⟩
        · skip
          refine aw_pure (st' := ax_i (0) :: _) at_39_52 rfl rfl ?_
          exact ax_retZ at_39_53 rfl (Or.inl rfl) ⟨_, _, rfl, fr.rf, 0, rfl, Or.inl ⟨rfl, rfl, hrs, by omega, by omega, by omega⟩⟩
      · skip
        refine aw_loc at_39_28 rfl rfl ?_
        refine aw_get at_39_29 rfl fl_3_22 h.1 rfl ?_
        refine aw_loc at_39_32 rfl rfl ?_
        refine aw_loc at_39_33 rfl rfl ?_
        refine ax_ist (k := s) at_39_34 rfl h.2.2.2.2.1 rfl (by omega) (by decide) ?_
        refine aw_pure (st' := ax_i (1) :: _) at_39_35 rfl rfl ?_
        exact ax_retZ at_39_36 rfl (Or.inr rfl) ⟨_, _, rfl, fr_ov (by decide) (by decide), 1, rfl, Or.inr ⟨rfl, _, ST, _, st, ovo_pa h, hk, pav_up hp (by omega), Or.inr (Or.inr (Or.inl ⟨hrs, by omega, by omega, rfl, rfl⟩))⟩⟩
    · skip
      refine aw_loc at_39_13 rfl rfl ?_
      refine aw_get at_39_14 rfl fl_3_22 h.1 rfl ?_
      refine aw_loc at_39_17 rfl rfl ?_
      refine aw_loc at_39_18 rfl rfl ?_
      refine ax_ist (k := r) at_39_19 rfl h.2.2.2.2.1 rfl (by omega) (by decide) ?_
      refine aw_pure (st' := ax_i (1) :: _) at_39_20 rfl rfl ?_
      exact ax_retZ at_39_21 rfl (Or.inr rfl) ⟨_, _, rfl, fr_ov (by decide) (by decide), 1, rfl, Or.inr ⟨rfl, _, ST, _, st, ovo_pa h, hk, pav_up hp (by omega), Or.inr (Or.inl ⟨hrs, by omega, rfl, rfl⟩)⟩⟩
  · skip
    refine aw_pure (st' := ax_i (1) :: _) at_39_5 rfl rfl ?_
    exact ax_retZ at_39_6 rfl (Or.inr rfl) ⟨_, _, rfl, fr.rf, 1, rfl, Or.inr ⟨rfl, PA, ST, par, st, h, hk, hp, Or.inl ⟨by omega, rfl, rfl⟩⟩⟩
set_option maxHeartbeats 8000000 in
theorem r_merge1 {A : Int → Nat} {D : Nat → Prop} {Y : Nat → Int} {en : Nat → Nat} {Tm : Nat → List Int} {p0 q0 : Nat} (hA : ∀ c, 117 ≤ c → A c = 0) (hA2 : ∀ c, A c ≤ 2) (hs : sy S P R nn) (hv : ovs A P LT EN ND D Y en) (ht : tps A D Y (chp en) Tm) : ∀ (k c : Nat) (S1 : ai_S) (PA ST : Nat → Int) (par : Nat → Nat) (st : List (Nat × Nat)), fr 425 432 S S1 → ovo S1 LT EN ND PA SE ST (2 * (st.length : Int)) e → skr ST st → pav PA par → ufi A D Y (chp en) Tm p0 q0 par st → c + k = 432 → st.length + nrt par 96 ≤ 97 → st.length + 2 * nrt par 96 ≤ k → ai_aw L xs (d + 3) ai_m36 (fun o => ∃ v S', o = (.inl v, S') ∧ fr 425 432 S S' ∧ ∃ z, v = some (ax_i z) ∧ ((z = 0 ∧ (∃ PA' ST' dp', ovo S' LT EN ND PA' SE ST' dp' e) ∧ ¬ ∃ g, gs A g ∧ (Tm p0).flatMap g = (Tm q0).flatMap g) ∨ (z = 1 ∧ ∃ PA' ST' par', ovo S' LT EN ND PA' SE ST' 0 e ∧ pav PA' par' ∧ ufi A D Y (chp en) Tm p0 q0 par' []))) (34, [some (.ref 425), some (ax_i (p0 : Nat)), some (ax_i (q0 : Nat)), some (ax_i (c : Nat))], [], S1) := by
  have kend : ∀ (c : Nat) (S1 : ai_S) (PA ST : Nat → Int) (par : Nat → Nat), fr 425 432 S S1 → ovo S1 LT EN ND PA SE ST 0 e → pav PA par → ufi A D Y (chp en) Tm p0 q0 par [] → ai_aw L xs (d + 3) ai_m36 (fun o => ∃ v S', o = (.inl v, S') ∧ fr 425 432 S S' ∧ ∃ z, v = some (ax_i z) ∧ ((z = 0 ∧ (∃ PA' ST' dp', ovo S' LT EN ND PA' SE ST' dp' e) ∧ ¬ ∃ g, gs A g ∧ (Tm p0).flatMap g = (Tm q0).flatMap g) ∨ (z = 1 ∧ ∃ PA' ST' par', ovo S' LT EN ND PA' SE ST' 0 e ∧ pav PA' par' ∧ ufi A D Y (chp en) Tm p0 q0 par' []))) (102, [some (.ref 425), some (ax_i (p0 : Nat)), some (ax_i (q0 : Nat)), some (ax_i (c : Nat))], [], S1) := by
    intro c S1 PA ST par f1 h1 hp hu
    refine aw_loc at_36_102 rfl rfl ?_
    refine aw_get at_36_103 rfl fl_3_32 h1.1 rfl ?_
    refine ax_if_ne at_36_106 ⟨by decide, by decide⟩ (fun z => absurd rfl z) (fun _ => ?_)
    refine aw_pure (st' := ax_i (1) :: _) at_36_109 rfl rfl ?_
    refine aw_goto at_36_110 ?_
    exact ax_retZ at_36_114 rfl (Or.inr rfl) ⟨_, _, rfl, f1, 1, rfl, Or.inr ⟨rfl, PA, ST, par, h1, hp, hu⟩⟩
  intro k
  induction k with
  | zero =>
    intro c S1 PA ST par st f1 h1 hk hp hu hc h96 h97
    obtain rfl : st = [] := List.length_eq_zero_iff.1 (by omega)
    refine aw_loc at_36_34 rfl rfl ?_
    refine aw_pure (st' := ax_i (432) :: _) at_36_35 rfl rfl ?_
    refine ax_icmp_ge at_36_38 ⟨by omega, by omega⟩ ⟨by omega, by omega⟩ (fun _ => kend c S1 PA ST par f1 h1 hp hu) (fun z => absurd z (by omega))
  | succ k ih =>
    intro c S1 PA ST par st f1 h1 hk hp hu hc h96 h97
    refine aw_loc at_36_34 rfl rfl ?_
    refine aw_pure (st' := ax_i (432) :: _) at_36_35 rfl rfl ?_
    refine ax_icmp_ge at_36_38 ⟨by omega, by omega⟩ ⟨by omega, by omega⟩ (fun z => absurd z (by omega)) (fun _ => ?_)
    refine aw_loc at_36_41 rfl rfl ?_
    refine aw_get at_36_42 rfl fl_3_32 h1.1 rfl ?_
    refine aw_pure (st' := ax_i (1) :: _) at_36_45 rfl rfl ?_
    cases st with
    | nil =>
      refine ax_icmp_le at_36_46 ⟨by decide, by decide⟩ ⟨by decide, by decide⟩ (fun _ => kend c S1 PA ST par f1 h1 hp hu) (fun z => absurd z (by decide))
    | cons q st =>
      obtain ⟨a, b⟩ := q
      rw [List.length_cons] at h96 h97
      rw [show (2 : Int) * ((((a, b) :: st : List (Nat × Nat)).length : Nat) : Int) = 2 * (st.length : Int) + 2 by rw [List.length_cons]; omega] at h1 ⊢
      refine ax_icmp_le at_36_46 ⟨by omega, by omega⟩ ⟨by omega, by omega⟩ (fun z => absurd z (by omega)) (fun _ => ?_)
      obtain ⟨ka, kb, hk⟩ := hk
      have hab : D a ∧ D b := hu.2.2.2.2 (a, b) (List.mem_cons_self ..)
      have hva := hv a hab.1
      have hvb := hv b hab.2
      have hdk := ovs_dok hv
      refine aw_loc at_36_49 rfl rfl ?_
      refine aw_pure at_36_50 rfl rfl ?_
      refine aw_get at_36_51 rfl fl_3_32 h1.1 rfl ?_
      refine aw_pure (st' := ax_i (2) :: _) at_36_54 rfl rfl ?_
      refine ax_sub at_36_55 rfl ?_
      refine aw_put at_36_56 rfl fl_3_32 h1.1 (Nat.le_of_ble_eq_true rfl) rfl (by decide +kernel) ?_
      refine (show ai_aw L xs (d + 3) ai_m36 _ (59, _, _, ai_wr S1 425 (.inr (10, ovf (2 * (st.length : Int) + 2 - 2) e))) from ?_)
      rw [show 2 * (st.length : Int) + 2 - 2 = 2 * (st.length : Int) by omega]
      have h2 := ovo_dp (dp2 := 2 * (st.length : Int)) h1
      have f2 : fr 425 432 S _ := f1.tr (fr_ov (a := 425) (x := .inr (10, ovf (2 * (st.length : Int)) e)) (by decide) (by decide))
      generalize ai_wr S1 425 (.inr (10, ovf (2 * (st.length : Int)) e)) = S2 at h2 f2 ⊢
      refine aw_loc at_36_59 rfl rfl ?_
      refine aw_loc at_36_60 rfl rfl ?_
      refine aw_loc at_36_61 rfl rfl ?_
      refine aw_get at_36_62 rfl fl_3_29 h2.1 rfl ?_
      refine aw_loc at_36_65 rfl rfl ?_
      refine aw_get at_36_66 rfl fl_3_32 h2.1 rfl ?_
      refine ax_ild at_36_69 rfl h2.2.2.2.2.2.2 (k := 2 * st.length) (by omega) (by omega) (by decide) ?_
      rw [ka]
      refine aw_cv (a := 425) [ax_i (a : Nat)] [.ref 425] at_36_70 mt_3_97 (Or.inl rfl) rfl rfl (Nat.le_of_ble_eq_true rfl) ⟨_, h2.1⟩ ((r_cls h2 hp hva.1 hva.2.2.2.2.2.1 (ndo_lt hdk hab.1)).mono ?_)
      rintro v S0 ⟨hS, rfl⟩
      have hS2 := hS.symm
      subst hS2
      refine aw_loc at_36_73 rfl rfl ?_
      refine aw_loc at_36_74 rfl rfl ?_
      refine aw_get at_36_75 rfl fl_3_29 h2.1 rfl ?_
      refine aw_loc at_36_78 rfl rfl ?_
      refine aw_get at_36_79 rfl fl_3_32 h2.1 rfl ?_
      refine aw_pure (st' := ax_i (1) :: _) at_36_82 rfl rfl ?_
      refine ax_add at_36_83 rfl ?_
      refine ax_ild at_36_84 rfl h2.2.2.2.2.2.2 (k := 2 * st.length + 1) (by omega) (by omega) (by decide) ?_
      rw [kb]
      refine aw_cv (a := 425) [ax_i (b : Nat)] [ax_i (rep par (ndo Y a) : Nat), .ref 425] at_36_85 mt_3_97 (Or.inl rfl) rfl rfl (Nat.le_of_ble_eq_true rfl) ⟨_, h2.1⟩ ((r_cls h2 hp hvb.1 hvb.2.2.2.2.2.1 (ndo_lt hdk hab.2)).mono ?_)
      rintro v S0 ⟨hS, rfl⟩
      have hS2 := hS.symm
      subst hS2
      have hDa := ufi_DN hu (ndo_DN hdk hab.1)
      have hDb := ufi_DN hu (ndo_DN hdk hab.2)
      have hA9 := hA2 (Y (rep par (ndo Y a)))
      obtain ⟨rk, hrk⟩ := id hu.1
      have fa := rep_fix hrk (ndo_lt hdk hab.1)
      have fb := rep_fix hrk (ndo_lt hdk hab.2)
      refine aw_cv (a := 425) [ax_i (rep par (ndo Y a) : Nat), ax_i (rep par (ndo Y b) : Nat)] [] at_36_88 mt_3_101 (Or.inl rfl) rfl rfl (Nat.le_of_ble_eq_true rfl) ⟨_, h2.1⟩ ((r_join hA2 (f2.sy hs (by decide)) hv ht h2 hk hp (by omega) hDa.1.1 hDb.1.1 hDa.1.2.1 hDb.1.2.1).mono ?_)
      rintro v S3 ⟨f3, z, rfl, hz⟩
      have f4 := f2.tr f3
      rcases hz with ⟨rfl, hS3, z1, z2, z3, z4⟩ | ⟨rfl, PA3, ST3, par3, st3, h3, k3, p3, hz⟩
      · skip
        refine ax_if_ne at_36_91 ⟨by decide, by decide⟩ (fun z => absurd rfl z) (fun _ => ?_)
        refine aw_pure (st' := ax_i (0) :: _) at_36_94 rfl rfl ?_
        exact ax_retZ at_36_95 rfl (Or.inl rfl) ⟨_, _, rfl, f4, 0, rfl, Or.inl ⟨rfl, ⟨_, _, _, by rw [hS3]; exact h2⟩, ufi_clash hA ht hdk hu z2 z3 z4⟩⟩
      · skip
        refine ax_if_ne at_36_91 ⟨by decide, by decide⟩ (fun _ => ?_) (fun z => absurd z (by decide))
        show ai_aw L xs (d + 3) ai_m36 _ (96, _, _, _)
        refine ax_inc at_36_96 rfl rfl rfl ?_
        refine aw_goto at_36_99 ?_
        have hnew : ufi A D Y (chp en) Tm p0 q0 par3 st3 ∧ st3.length + nrt par3 96 ≤ 97 ∧ st3.length + 2 * nrt par3 96 ≤ k := by
          rcases hz with ⟨e1, rfl, rfl⟩ | ⟨e1, e2, rfl, rfl⟩ | ⟨e1, e2, e3, rfl, rfl⟩ | ⟨e1, e2, e3, e4, rfl, q1, q2, q3, q4⟩
          · exact ⟨ufi_same hdk hu e1, by omega, by omega⟩
          · rw [nrt_off par _ _ 96 e2]
            exact ⟨ufi_join hA ht hdk hu (Or.inr ⟨rfl, rfl⟩) (Ne.symm e1) (Or.inl ⟨e2, rfl⟩), by omega, by omega⟩
          · rw [nrt_off par _ _ 96 e3]
            exact ⟨ufi_join hA ht hdk hu (Or.inl ⟨rfl, rfl⟩) e1 (Or.inl ⟨e3, rfl⟩), by omega, by omega⟩
          · have := nrt_up par _ _ fb e1 96 e3
            exact ⟨ufi_join hA ht hdk hu (Or.inl ⟨rfl, rfl⟩) e1 (Or.inr ⟨e3, e2, e4, q2, q3, q4⟩), by omega, by omega⟩
        have := ih (c + 1) S3 PA3 ST3 par3 st3 f4 h3 k3 p3 hnew.1 (by omega) hnew.2.1 hnew.2.2
        rw [Int.natCast_add] at this
        exact this
set_option maxHeartbeats 2000000 in
theorem r_merge0 {Q : ai_O → Prop} {p q : Int} (h : ovo S LT EN ND PA SE ST dp e) : ∀ (k c : Nat), c + k = 108 → ai_aw L xs d ai_m36 Q (21, [some (.ref 425), some (ax_i p), some (ax_i q), some (ax_i (108 : Nat))], [], ai_wr S 429 (.inl (0, ai_I 108 (ax_f (fun i => if i < 108 then (i : Int) else PA i))))) → ai_aw L xs d ai_m36 Q (2, [some (.ref 425), some (ax_i p), some (ax_i q), some (ax_i (c : Nat))], [], ai_wr S 429 (.inl (0, ai_I 108 (ax_f (fun i => if i < c then (i : Int) else PA i))))) := by
  intro k
  induction k with
  | zero =>
    intro c hc hcont
    have h1 := ovo_pa (F := fun i => if i < c then (i : Int) else PA i) h
    obtain rfl : c = 108 := by omega
    refine aw_loc at_36_2 rfl rfl ?_
    refine aw_pure (st' := ax_i (108) :: _) at_36_3 rfl rfl ?_
    refine ax_icmp_ge at_36_5 ⟨by omega, by omega⟩ ⟨by omega, by omega⟩ (fun _ => hcont) (fun z => absurd z (by omega))
  | succ k ih =>
    intro c hc hcont
    have h1 := ovo_pa (F := fun i => if i < c then (i : Int) else PA i) h
    refine aw_loc at_36_2 rfl rfl ?_
    refine aw_pure (st' := ax_i (108) :: _) at_36_3 rfl rfl ?_
    refine ax_icmp_ge at_36_5 ⟨by omega, by omega⟩ ⟨by omega, by omega⟩ (fun z => absurd z (by omega)) (fun _ => ?_)
    refine aw_loc at_36_8 rfl rfl ?_
    refine aw_get at_36_9 rfl fl_3_22 h1.1 rfl ?_
    refine aw_loc at_36_12 rfl rfl ?_
    refine aw_loc at_36_13 rfl rfl ?_
    refine ax_ist (k := c) at_36_14 rfl h1.2.2.2.2.1 rfl (by omega) (by decide) ?_
    rw [ai_wr_wr, show ax_up (fun i => if i < c then (i : Int) else PA i) c c = fun i => if i < c + 1 then (i : Int) else PA i by funext i; unfold ax_up; by_cases e : i = c; rw [if_pos e, if_pos (by omega), e]; rw [if_neg e]; show (if i < c then (i : Int) else PA i) = (if i < c + 1 then (i : Int) else PA i); by_cases e2 : i < c; rw [if_pos e2, if_pos (by omega)]; rw [if_neg e2, if_neg (by omega)]]
    refine ax_inc at_36_15 rfl rfl rfl ?_
    refine aw_goto at_36_18 ?_
    have := ih (c + 1) (by omega) hcont
    rw [Int.natCast_add] at this
    exact this
set_option maxHeartbeats 4000000 in
theorem r_merge {A : Int → Nat} {D : Nat → Prop} {Y : Nat → Int} {en : Nat → Nat} {Tm : Nat → List Int} {p0 q0 : Nat} (hA : ∀ c, 117 ≤ c → A c = 0) (hA2 : ∀ c, A c ≤ 2) (hs : sy S P R nn) (hv : ovs A P LT EN ND D Y en) (ht : tps A D Y (chp en) Tm) (h : ovo S LT EN ND PA SE ST dp e) (hD : D p0 ∧ D q0) : ai_rn L xs (d + 4) 36 [.ref 425, ax_i (p0 : Nat), ax_i (q0 : Nat)] S (fun v S' => fr 425 432 S S' ∧ ∃ z, v = some (ax_i z) ∧ ((z = 0 ∧ (∃ PA' ST' dp', ovo S' LT EN ND PA' SE ST' dp' e) ∧ ¬ ∃ g, gs A g ∧ (Tm p0).flatMap g = (Tm q0).flatMap g) ∨ (z = 1 ∧ ∃ PA' ST' par', ovo S' LT EN ND PA' SE ST' 0 e ∧ pav PA' par' ∧ ufi A D Y (chp en) Tm p0 q0 par' []))) := by
  refine ai_rn_of (M := ai_m36) rfl (by decide) (Nat.le_of_ble_eq_true rfl) ?_
  refine aw_pure (st' := ax_i (0) :: _) at_36_0 rfl rfl ?_
  refine aw_loc at_36_1 rfl rfl ?_
  refine (show ai_aw L xs (d + 3) ai_m36 _ (2, [some (.ref 425), some (ax_i (p0 : Nat)), some (ax_i (q0 : Nat)), some (ax_i ((0 : Nat) : Int))], [], S) from ?_)
  have hst : ai_wr S 429 (.inl (0, ai_I 108 (ax_f (fun i => if i < 0 then (i : Int) else PA i)))) = S := by
    rw [show (fun i => if i < 0 then ((i : Nat) : Int) else PA i) = PA by funext i; exact if_neg (by omega)]
    exact ai_wr_id (ai_arr_inv h.2.2.2.2.1).2
  have hgo := r_merge0 (L := L) (xs := xs) (d := d + 3) (Q := (fun o => ∃ v S', o = (.inl v, S') ∧ fr 425 432 S S' ∧ ∃ z, v = some (ax_i z) ∧ ((z = 0 ∧ (∃ PA' ST' dp', ovo S' LT EN ND PA' SE ST' dp' e) ∧ ¬ ∃ g, gs A g ∧ (Tm p0).flatMap g = (Tm q0).flatMap g) ∨ (z = 1 ∧ ∃ PA' ST' par', ovo S' LT EN ND PA' SE ST' 0 e ∧ pav PA' par' ∧ ufi A D Y (chp en) Tm p0 q0 par' [])))) (p := (p0 : Nat)) (q := (q0 : Nat)) h 108 0 (by omega)
  rw [hst] at hgo
  refine hgo ?_
  have h1 := ovo_pa (F := fun i => if i < 108 then (i : Int) else PA i) h
  have f1 : fr 425 432 S (ai_wr S 429 (.inl (0, ai_I 108 (ax_f (fun i => if i < 108 then (i : Int) else PA i))))) := fr_ov (by decide) (by decide)
  generalize ai_wr S 429 (.inl (0, ai_I 108 (ax_f (fun i => if i < 108 then (i : Int) else PA i)))) = S1 at h1 f1 ⊢
  refine aw_loc at_36_21 rfl rfl ?_
  refine aw_pure (st' := ax_i (0) :: _) at_36_22 rfl rfl ?_
  refine aw_put at_36_23 rfl fl_3_32 h1.1 (Nat.le_of_ble_eq_true rfl) rfl (by decide +kernel) ?_
  have h2 := ovo_dp (dp2 := 0) h1
  have f2 : fr 425 432 S (ai_wr S1 425 (.inr (10, ovf 0 e))) := f1.tr (fr_ov (by decide) (by decide))
  refine (show ai_aw L xs (d + 3) ai_m36 _ (26, _, _, ai_wr S1 425 (.inr (10, ovf 0 e))) from ?_)
  generalize ai_wr S1 425 (.inr (10, ovf 0 e)) = S2 at h2 f2 ⊢
  refine aw_loc at_36_26 rfl rfl ?_
  refine aw_loc at_36_27 rfl rfl ?_
  refine aw_loc at_36_28 rfl rfl ?_
  refine aw_cv (a := 425) [ax_i (p0 : Nat), ax_i (q0 : Nat)] [] at_36_29 mt_3_93 (Or.inl rfl) rfl rfl (Nat.le_of_ble_eq_true rfl) ⟨_, h2.1⟩ ((r_pushB (st := []) h2 True.intro (by decide)).mono ?_)
  rintro v S3 ⟨rfl, f3, ST3, h3, k3⟩
  refine aw_pure (st' := ax_i (0) :: _) at_36_32 rfl rfl ?_
  refine aw_loc at_36_33 rfl rfl ?_
  have hn := nrt_le (fun n => n) 96
  exact r_merge1 hA hA2 hs hv ht 432 0 S3 _ ST3 (fun n => n) [(p0, q0)] (f2.tr f3) h3 k3 (fun n hn => ⟨if_pos hn, hn⟩) (ufi_first hD) (by omega) (by rw [List.length_singleton]; omega) (by rw [List.length_singleton]; omega)
end OV

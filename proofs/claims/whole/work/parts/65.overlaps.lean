/-! The engine: a rule is entered; overlaps are added. -/
section EO
variable {L : Nat} {xs : Nat → Int32} {d : Nat} {S S' : ai_S} {P R P' : Nat → Int} {nn sx sc : Int} {Rs Vs ks : rls} {l r : List Int}
theorem i32_div2 : ∀ i : Nat, i < 64 → Int32.ofInt (i : Int) / Int32.ofInt 2 = Int32.ofInt ((i / 2 : Nat) : Int) := by decide +kernel
theorem i32_rem2 : ∀ i : Nat, i < 64 → Int32.ofInt (i : Int) - Int32.ofInt (i : Int) / Int32.ofInt 2 * Int32.ofInt 2 = Int32.ofInt ((i % 2 : Nat) : Int) := by decide +kernel
theorem ax_div2 {M : ai_M} {Q : ai_O → Prop} {pc len i : Nat} {lv : ai_L} {st : List Value} (ha : ai_at M pc = some (.idiv, len)) (ht : ai_thr M pc = none) (hi : i < 64) (k : ai_aw L xs d M Q (pc + len, lv, ax_i ((i / 2 : Nat) : Int) :: st, S)) : ai_aw L xs d M Q (pc, lv, ax_i 2 :: ax_i (i : Nat) :: st, S) := by
  refine aw_pure ha ht ?_ k
  show (if Int32.ofInt 2 = 0 then none else some (Value.int (Int32.ofInt (i : Int) / Int32.ofInt 2))).map (· :: st) = _
  rw [if_neg (by decide), i32_div2 i hi]
  rfl
theorem ax_rem2 {M : ai_M} {Q : ai_O → Prop} {pc len i : Nat} {lv : ai_L} {st : List Value} (ha : ai_at M pc = some (.irem, len)) (ht : ai_thr M pc = none) (hi : i < 64) (k : ai_aw L xs d M Q (pc + len, lv, ax_i ((i % 2 : Nat) : Int) :: st, S)) : ai_aw L xs d M Q (pc, lv, ax_i 2 :: ax_i (i : Nat) :: st, S) := by
  refine aw_pure ha ht ?_ k
  show (if Int32.ofInt 2 = 0 then none else some (Value.int (Int32.ofInt (i : Int) - Int32.ofInt (i : Int) / Int32.ofInt 2 * Int32.ofInt 2))).map (· :: st) = _
  rw [if_neg (by decide), i32_rem2 i hi]
  rfl
theorem frp.ovo {Q : Nat → Prop} {LT EN ND PA SE ST e : Nat → Int} {dp : Int} (h : frp Q S S') (hr : ovo S LT EN ND PA SE ST dp e) (k : ∀ c, 425 ≤ c → c < 432 → ¬ Q c) : ovo S' LT EN ND PA SE ST dp e := by
  obtain ⟨h1, h2, h3, h4, h5, h6, h7⟩ := hr
  exact ⟨(h.obj (k _ (by decide) (by decide))).trans h1, (h.arr (k _ (by decide) (by decide))).trans h2, (h.arr (k _ (by decide) (by decide))).trans h3, (h.arr (k _ (by decide) (by decide))).trans h4, (h.arr (k _ (by decide) (by decide))).trans h5, (h.arr (k _ (by decide) (by decide))).trans h6, (h.arr (k _ (by decide) (by decide))).trans h7⟩
/-- the overlap as it lies there -/
def ovg (S : ai_S) : Prop := ∃ LT EN ND PA SE ST dp e, ovo S LT EN ND PA SE ST dp e ∧ (∀ i, 0 ≤ LT i ∧ LT i < 65536) ∧ ∀ n, SE n = 0 ∨ SE n = 1
theorem okr_twb {A : Int → Nat} {u v : List Int × List Int} (hu : okr A P' u) (hv : okr A P' v) : twb A u v := by
  have key : ∀ w : List Int, al (kn P' 123) w → al (fun c => 97 ≤ c ∧ c < 123) w := fun w hw c hc => by
    have := kn_lt (hw c hc)
    show 97 ≤ c ∧ c < 123
    omega
  exact ⟨⟨hu.1.1.1, hu.1.1.2, hv.1.1.1, hv.1.1.2⟩, ⟨hu.1.2.1.1, hu.1.2.1.2, hv.1.2.1.1, hv.1.2.1.2⟩, key _ hu.1.2.2.1.1, key _ hu.1.2.2.1.2, key _ hv.1.2.2.1.1, key _ hv.1.2.2.1.2⟩
theorem erase_mid {α : Type} (a : List α) (x : α) (b : List α) : (a ++ x :: b).eraseIdx a.length = a ++ b := by
  induction a with
  | nil => rfl
  | cons y a ih => show y :: (a ++ x :: b).eraseIdx a.length = y :: (a ++ b); rw [ih]
theorem getD_mid {α : Type} (a : List α) (x : α) (b : List α) (z : α) : (a ++ x :: b).getD a.length z = x := by
  rw [List.getD_eq_getElem?_getD, List.getElem?_append_right (Nat.le_refl _), Nat.sub_self]
  rfl
theorem at_27_0 : ai_at ai_m27 0 = some (.iload_n 1, 1) := rfl
theorem at_27_1 : ai_at ai_m27 1 = some (.iconst 1, 1) := rfl
theorem at_27_2 : ai_at ai_m27 2 = some (.if_icmp .ne 17, 3) := rfl
theorem at_27_5 : ai_at ai_m27 5 = some (.aload_n 0, 1) := rfl
theorem at_27_6 : ai_at ai_m27 6 = some (.getfield 37, 3) := rfl
theorem at_27_9 : ai_at ai_m27 9 = some (.aload_n 0, 1) := rfl
theorem at_27_10 : ai_at ai_m27 10 = some (.getfield 33, 3) := rfl
theorem at_27_13 : ai_at ai_m27 13 = some (.invokevirtual 101, 3) := rfl
theorem at_27_16 : ai_at ai_m27 16 = some (.goto 14, 3) := rfl
theorem at_27_19 : ai_at ai_m27 19 = some (.aload_n 0, 1) := rfl
theorem at_27_20 : ai_at ai_m27 20 = some (.getfield 37, 3) := rfl
theorem at_27_23 : ai_at ai_m27 23 = some (.aload_n 0, 1) := rfl
theorem at_27_24 : ai_at ai_m27 24 = some (.getfield 33, 3) := rfl
theorem at_27_27 : ai_at ai_m27 27 = some (.invokevirtual 137, 3) := rfl
theorem at_27_30 : ai_at ai_m27 30 = some (.aload_n 0, 1) := rfl
theorem at_27_31 : ai_at ai_m27 31 = some (.getfield 26, 3) := rfl
theorem at_27_34 : ai_at ai_m27 34 = some (.aload_n 0, 1) := rfl
theorem at_27_35 : ai_at ai_m27 35 = some (.getfield 37, 3) := rfl
theorem at_27_38 : ai_at ai_m27 38 = some (.invokevirtual 85, 3) := rfl
theorem at_27_41 : ai_at ai_m27 41 = some (.pop, 1) := rfl
theorem at_27_42 : ai_at ai_m27 42 = some (.aload_n 0, 1) := rfl
theorem at_27_43 : ai_at ai_m27 43 = some (.getfield 20, 3) := rfl
theorem at_27_46 : ai_at ai_m27 46 = some (.iconst 0, 1) := rfl
theorem at_27_47 : ai_at ai_m27 47 = some (.putfield 82, 3) := rfl
theorem at_27_50 : ai_at ai_m27 50 = some (.iconst 0, 1) := rfl
theorem at_27_51 : ai_at ai_m27 51 = some (.istore_n 2, 1) := rfl
theorem at_27_52 : ai_at ai_m27 52 = some (.aload_n 0, 1) := rfl
theorem at_27_53 : ai_at ai_m27 53 = some (.getfield 54, 3) := rfl
theorem at_27_56 : ai_at ai_m27 56 = some (.getfield 82, 3) := rfl
theorem at_27_59 : ai_at ai_m27 59 = some (.istore_n 3, 1) := rfl
theorem at_27_60 : ai_at ai_m27 60 = some (.iload_n 3, 1) := rfl
theorem at_27_61 : ai_at ai_m27 61 = some (.ifCond .le 68, 3) := rfl
theorem at_27_64 : ai_at ai_m27 64 = some (.aload_n 0, 1) := rfl
theorem at_27_65 : ai_at ai_m27 65 = some (.getfield 62, 3) := rfl
theorem at_27_68 : ai_at ai_m27 68 = some (.aload_n 0, 1) := rfl
theorem at_27_69 : ai_at ai_m27 69 = some (.getfield 54, 3) := rfl
theorem at_27_72 : ai_at ai_m27 72 = some (.getfield 97, 3) := rfl
theorem at_27_75 : ai_at ai_m27 75 = some (.iload_n 2, 1) := rfl
theorem at_27_76 : ai_at ai_m27 76 = some (.aaload, 1) := rfl
theorem at_27_77 : ai_at ai_m27 77 = some (.getfield 107, 3) := rfl
theorem at_27_80 : ai_at ai_m27 80 = some (.aload_n 0, 1) := rfl
theorem at_27_81 : ai_at ai_m27 81 = some (.getfield 37, 3) := rfl
theorem at_27_84 : ai_at ai_m27 84 = some (.getfield 107, 3) := rfl
theorem at_27_87 : ai_at ai_m27 87 = some (.invokevirtual 140, 3) := rfl
theorem at_27_90 : ai_at ai_m27 90 = some (.ifCond .eq 30, 3) := rfl
theorem at_27_93 : ai_at ai_m27 93 = some (.aload_n 0, 1) := rfl
theorem at_27_94 : ai_at ai_m27 94 = some (.getfield 20, 3) := rfl
theorem at_27_97 : ai_at ai_m27 97 = some (.aload_n 0, 1) := rfl
theorem at_27_98 : ai_at ai_m27 98 = some (.getfield 54, 3) := rfl
theorem at_27_101 : ai_at ai_m27 101 = some (.getfield 97, 3) := rfl
theorem at_27_104 : ai_at ai_m27 104 = some (.iload_n 2, 1) := rfl
theorem at_27_105 : ai_at ai_m27 105 = some (.aaload, 1) := rfl
theorem at_27_106 : ai_at ai_m27 106 = some (.invokevirtual 89, 3) := rfl
theorem at_27_109 : ai_at ai_m27 109 = some (.aload_n 0, 1) := rfl
theorem at_27_110 : ai_at ai_m27 110 = some (.getfield 54, 3) := rfl
theorem at_27_113 : ai_at ai_m27 113 = some (.iload_n 2, 1) := rfl
theorem at_27_114 : ai_at ai_m27 114 = some (.invokevirtual 104, 3) := rfl
theorem at_27_117 : ai_at ai_m27 117 = some (.goto 6, 3) := rfl
theorem at_27_120 : ai_at ai_m27 120 = some (.iinc 2 1, 3) := rfl
theorem at_27_123 : ai_at ai_m27 123 = some (.iinc 3 (-1), 3) := rfl
theorem at_27_126 : ai_at ai_m27 126 = some (.goto (-66), 3) := rfl
theorem at_27_129 : ai_at ai_m27 129 = some (.aload_n 0, 1) := rfl
theorem at_27_130 : ai_at ai_m27 130 = some (.getfield 54, 3) := rfl
theorem at_27_133 : ai_at ai_m27 133 = some (.aload_n 0, 1) := rfl
theorem at_27_134 : ai_at ai_m27 134 = some (.getfield 37, 3) := rfl
theorem at_27_137 : ai_at ai_m27 137 = some (.invokevirtual 89, 3) := rfl
theorem at_27_140 : ai_at ai_m27 140 = some (.return_, 1) := rfl
theorem at_31_0 : ai_at ai_m31 0 = some (.aload_n 0, 1) := rfl
theorem at_31_1 : ai_at ai_m31 1 = some (.getfield 54, 3) := rfl
theorem at_31_4 : ai_at ai_m31 4 = some (.getfield 82, 3) := rfl
theorem at_31_7 : ai_at ai_m31 7 = some (.iconst 1, 1) := rfl
theorem at_31_8 : ai_at ai_m31 8 = some (.isub, 1) := rfl
theorem at_31_9 : ai_at ai_m31 9 = some (.istore_n 1, 1) := rfl
theorem at_31_10 : ai_at ai_m31 10 = some (.iconst 0, 1) := rfl
theorem at_31_11 : ai_at ai_m31 11 = some (.istore_n 2, 1) := rfl
theorem at_31_12 : ai_at ai_m31 12 = some (.iload_n 2, 1) := rfl
theorem at_31_13 : ai_at ai_m31 13 = some (.iconst 2, 1) := rfl
theorem at_31_14 : ai_at ai_m31 14 = some (.iload_n 1, 1) := rfl
theorem at_31_15 : ai_at ai_m31 15 = some (.imul, 1) := rfl
theorem at_31_16 : ai_at ai_m31 16 = some (.if_icmp .gt 115, 3) := rfl
theorem at_31_19 : ai_at ai_m31 19 = some (.iload_n 2, 1) := rfl
theorem at_31_20 : ai_at ai_m31 20 = some (.iconst 2, 1) := rfl
theorem at_31_21 : ai_at ai_m31 21 = some (.irem, 1) := rfl
theorem at_31_22 : ai_at ai_m31 22 = some (.ifCond .ne 7, 3) := rfl
theorem at_31_25 : ai_at ai_m31 25 = some (.iload_n 1, 1) := rfl
theorem at_31_26 : ai_at ai_m31 26 = some (.goto 6, 3) := rfl
theorem at_31_29 : ai_at ai_m31 29 = some (.iload_n 2, 1) := rfl
theorem at_31_30 : ai_at ai_m31 30 = some (.iconst 2, 1) := rfl
theorem at_31_31 : ai_at ai_m31 31 = some (.idiv, 1) := rfl
theorem at_31_32 : ai_at ai_m31 32 = some (.istore_n 3, 1) := rfl
theorem at_31_33 : ai_at ai_m31 33 = some (.iload_n 2, 1) := rfl
theorem at_31_34 : ai_at ai_m31 34 = some (.iconst 2, 1) := rfl
theorem at_31_35 : ai_at ai_m31 35 = some (.irem, 1) := rfl
theorem at_31_36 : ai_at ai_m31 36 = some (.ifCond .ne 9, 3) := rfl
theorem at_31_39 : ai_at ai_m31 39 = some (.iload_n 2, 1) := rfl
theorem at_31_40 : ai_at ai_m31 40 = some (.iconst 2, 1) := rfl
theorem at_31_41 : ai_at ai_m31 41 = some (.idiv, 1) := rfl
theorem at_31_42 : ai_at ai_m31 42 = some (.goto 4, 3) := rfl
theorem at_31_45 : ai_at ai_m31 45 = some (.iload_n 1, 1) := rfl
theorem at_31_46 : ai_at ai_m31 46 = some (.istore 4, 2) := rfl
theorem at_31_48 : ai_at ai_m31 48 = some (.aload_n 0, 1) := rfl
theorem at_31_49 : ai_at ai_m31 49 = some (.getfield 78, 3) := rfl
theorem at_31_52 : ai_at ai_m31 52 = some (.aload_n 0, 1) := rfl
theorem at_31_53 : ai_at ai_m31 53 = some (.getfield 54, 3) := rfl
theorem at_31_56 : ai_at ai_m31 56 = some (.getfield 97, 3) := rfl
theorem at_31_59 : ai_at ai_m31 59 = some (.iload_n 3, 1) := rfl
theorem at_31_60 : ai_at ai_m31 60 = some (.aaload, 1) := rfl
theorem at_31_61 : ai_at ai_m31 61 = some (.aload_n 0, 1) := rfl
theorem at_31_62 : ai_at ai_m31 62 = some (.getfield 54, 3) := rfl
theorem at_31_65 : ai_at ai_m31 65 = some (.getfield 97, 3) := rfl
theorem at_31_68 : ai_at ai_m31 68 = some (.iload 4, 2) := rfl
theorem at_31_70 : ai_at ai_m31 70 = some (.aaload, 1) := rfl
theorem at_31_71 : ai_at ai_m31 71 = some (.invokevirtual 150, 3) := rfl
theorem at_31_74 : ai_at ai_m31 74 = some (.iload_n 3, 1) := rfl
theorem at_31_75 : ai_at ai_m31 75 = some (.iload 4, 2) := rfl
theorem at_31_77 : ai_at ai_m31 77 = some (.if_icmp .ne 7, 3) := rfl
theorem at_31_80 : ai_at ai_m31 80 = some (.iconst 1, 1) := rfl
theorem at_31_81 : ai_at ai_m31 81 = some (.goto 4, 3) := rfl
theorem at_31_84 : ai_at ai_m31 84 = some (.iconst 0, 1) := rfl
theorem at_31_85 : ai_at ai_m31 85 = some (.istore 5, 2) := rfl
theorem at_31_87 : ai_at ai_m31 87 = some (.iload 5, 2) := rfl
theorem at_31_89 : ai_at ai_m31 89 = some (.bipush 24, 2) := rfl
theorem at_31_91 : ai_at ai_m31 91 = some (.if_icmp .ge 34, 3) := rfl
theorem at_31_94 : ai_at ai_m31 94 = some (.aload_n 0, 1) := rfl
theorem at_31_95 : ai_at ai_m31 95 = some (.getfield 78, 3) := rfl
theorem at_31_98 : ai_at ai_m31 98 = some (.iload 5, 2) := rfl
theorem at_31_100 : ai_at ai_m31 100 = some (.aload_n 0, 1) := rfl
theorem at_31_101 : ai_at ai_m31 101 = some (.getfield 33, 3) := rfl
theorem at_31_104 : ai_at ai_m31 104 = some (.invokevirtual 154, 3) := rfl
theorem at_31_107 : ai_at ai_m31 107 = some (.ifCond .eq 12, 3) := rfl
theorem at_31_110 : ai_at ai_m31 110 = some (.aload_n 0, 1) := rfl
theorem at_31_111 : ai_at ai_m31 111 = some (.invokevirtual 147, 3) := rfl
theorem at_31_114 : ai_at ai_m31 114 = some (.ifCond .ne 5, 3) := rfl
theorem at_31_117 : ai_at ai_m31 117 = some (.iconst 0, 1) := rfl
theorem at_31_118 : ai_at ai_m31 118 = some (.ireturn, 1) := rfl
theorem at_31_119 : ai_at ai_m31 119 = some (.iinc 5 1, 3) := rfl
theorem at_31_122 : ai_at ai_m31 122 = some (.goto (-35), 3) := rfl
theorem at_31_125 : ai_at ai_m31 125 = some (.iinc 2 1, 3) := rfl
theorem at_31_128 : ai_at ai_m31 128 = some (.goto (-116), 3) := rfl
theorem at_31_131 : ai_at ai_m31 131 = some (.iconst 1, 1) := rfl
theorem at_31_132 : ai_at ai_m31 132 = some (.ireturn, 1) := rfl
theorem fl_2_78 : ai_fld 2 78 = some (5, 5, false) := by decide +kernel
theorem mt_2_104 : ai_mth 2 104 = some (0, 58, 1, 6) := by decide +kernel
theorem mt_2_140 : ai_mth 2 140 = some (0, 77, 2, 8) := by decide +kernel
theorem mt_2_150 : ai_mth 2 150 = some (0, 33, 2, 10) := by decide +kernel
theorem mt_2_154 : ai_mth 2 154 = some (0, 35, 2, 10) := by decide +kernel
set_option maxHeartbeats 8000000 in
theorem r_enter1 {q : List Int × List Int} {dir : Int} (hs : sy S P R nn) (hP : ∀ i, 0 ≤ P i ∧ P i ≤ 2) (hA : ∀ c, 117 ≤ c → Ar P c = 0) (he : en S sx sc) (hqo : okr (Ar P) P' q) (hlR : Rs.length < 14) (hok : ∀ (keep : rls) (x : List Int × List Int) (rest ks1 : rls), keep ++ (x :: rest).filter (fun x => !hib (Ar P) q.1 x.1) = (Rs.filter fun x => !hib (Ar P) q.1 x.1) → ks1 ++ (x :: rest).filter (fun x => hib (Ar P) q.1 x.1) = (Rs.filter fun x => hib (Ar P) q.1 x.1) → okr (Ar P) P' x) : ∀ (rest keep ks1 : rls) (S1 : ai_S), frp (fun c => (12 ≤ c ∧ c < 84) ∨ (326 ≤ c ∧ c < 400) ∨ (405 ≤ c ∧ c < 410) ∨ (412 ≤ c ∧ c < 417)) S S1 → wkh S1 → pw S1 405 q.1 q.2 → plv S1 12 14 (keep ++ rest) → plv S1 326 14 ks1 → keep ++ rest.filter (fun x => !hib (Ar P) q.1 x.1) = (Rs.filter fun x => !hib (Ar P) q.1 x.1) → ks1 ++ rest.filter (fun x => hib (Ar P) q.1 x.1) = (Rs.filter fun x => hib (Ar P) q.1 x.1) → keep.length + rest.length < 14 → ai_aw L xs (d + 3) ai_m27 (fun o => ∃ v S', o = (.inl v, S') ∧ v = none ∧ frp (fun c => (12 ≤ c ∧ c < 84) ∨ (326 ≤ c ∧ c < 400) ∨ (405 ≤ c ∧ c < 410) ∨ (412 ≤ c ∧ c < 417)) S S' ∧ wkh S' ∧ plv S' 12 14 ((Rs.filter fun x => !hib (Ar P) q.1 x.1) ++ [q]) ∧ plv S' 326 14 (Rs.filter fun x => hib (Ar P) q.1 x.1)) (60, [some (.ref 11), some (ax_i dir), some (ax_i (keep.length : Nat)), some (ax_i (rest.length : Nat))], [], S1) := by
  intro rest
  induction rest with
  | nil =>
    intro keep ks1 S1 f1 w1 hq1 p1 v1 e1 e2 hl
    have he1 := f1.en he (by omega)
    obtain ⟨fa, ga, h1, h2, h3, h4, h5, h6, h7, h8⟩ := id p1
    obtain ⟨fb, gb, j1, j2, j3, j4, j5, j6, j7, j8⟩ := id v1
    have ho5 := (pw_tw hq1).1
    rw [List.append_nil] at p1 h1
    rw [List.filter_nil, List.append_nil] at e1 e2
    refine aw_loc at_27_60 rfl rfl ?_
    refine ax_if_le at_27_61 ⟨by decide, by decide⟩ (fun _ => ?_) (fun z => absurd z (by decide))
    show ai_aw L xs (d + 3) ai_m27 _ (129, _, _, _)
    refine aw_loc at_27_129 rfl rfl ?_
    refine aw_get at_27_130 rfl fl_2_54 he1 rfl ?_
    refine aw_loc at_27_133 rfl rfl ?_
    refine aw_get at_27_134 rfl fl_2_37 he1 rfl ?_
    refine aw_cv (a := 12) [.ref 405] [] at_27_137 mt_2_89 (Or.inl rfl) rfl rfl (Nat.le_of_ble_eq_true rfl) ⟨_, h1⟩ ((r_add p1 (by decide) hq1 (by decide)).mono ?_)
    rintro v S2 ⟨rfl, hadd, -⟩
    obtain ⟨f2, p2⟩ := hadd (by rw [List.length_nil] at hl; omega)
    have f3 : frp (fun c => (12 ≤ c ∧ c < 84) ∨ (326 ≤ c ∧ c < 400) ∨ (405 ≤ c ∧ c < 410) ∨ (412 ≤ c ∧ c < 417)) S S2 := f1.tr (f2.pp (fun c h1 h2 => by omega))
    have w2 : wkh S2 := by obtain ⟨⟨q0, a1⟩, ⟨x5, y5, a2⟩, E0, B0, pl0, a3⟩ := w1; exact ⟨⟨q0, f2.rv a1 (by decide)⟩, ⟨x5, y5, f2.pw a2 (by decide)⟩, E0, B0, pl0, f2.rwo a3 (by decide)⟩
    exact aw_vret at_27_140 rfl ⟨_, _, rfl, rfl, f3, w2, by rw [← e1]; exact p2, by rw [← e2]; exact f2.plv v1 (by decide)⟩
  | cons x rest ih =>
    intro keep ks1 S1 f1 w1 hq1 p1 v1 e1 e2 hl
    have he1 := f1.en he (by omega)
    obtain ⟨fa, ga, h1, h2, h3, h4, h5, h6, h7, h8⟩ := id p1
    obtain ⟨fb, gb, j1, j2, j3, j4, j5, j6, j7, j8⟩ := id v1
    have ho5 := (pw_tw hq1).1
    rw [List.length_cons] at hl
    rw [show (((x :: rest : rls).length : Nat) : Int) = (rest.length : Int) + 1 by rw [List.length_cons]; omega]
    have hkl : keep.length < (keep ++ x :: rest).length := by rw [List.length_append, List.length_cons]; omega
    have hpx := h8 keep.length hkl
    rw [getD_mid] at hpx
    obtain ⟨Tl, nl, Tr, nr, hpr, hwd1, hwd2⟩ := id hpx
    have hg := h4 keep.length (by omega)
    have hx9 : okr (Ar P) P' x := hok keep x rest ks1 e1 e2
    obtain ⟨⟨q0, wa1⟩, ⟨x5, y5, wa2⟩, E0, B0, pl0, wa3⟩ := id w1
    have hq5 := pw_tw hq1
    refine aw_loc at_27_60 rfl rfl ?_
    refine ax_if_le at_27_61 ⟨by omega, by omega⟩ (fun z => absurd z (by omega)) (fun _ => ?_)
    refine aw_loc at_27_64 rfl rfl ?_
    refine aw_get at_27_65 rfl fl_2_62 he1 rfl ?_
    refine aw_loc at_27_68 rfl rfl ?_
    refine aw_get at_27_69 rfl fl_2_54 he1 rfl ?_
    refine aw_get at_27_72 rfl fl_2_97 h1 rfl ?_
    refine aw_loc at_27_75 rfl rfl ?_
    refine ax_ald (k := keep.length) at_27_76 rfl h2 rfl (by omega) (by decide) (h3 _ (by omega)) ?_
    refine aw_get at_27_77 rfl fl_2_107 hpr.1 rfl ?_
    refine aw_loc at_27_80 rfl rfl ?_
    refine aw_get at_27_81 rfl fl_2_37 he1 rfl ?_
    refine aw_get at_27_84 rfl fl_2_107 ho5 rfl ?_
    refine aw_cv (a := 412) [.ref (ga keep.length + 1), .ref 406] [] at_27_87 mt_2_140 (Or.inl rfl) rfl rfl (Nat.le_of_ble_eq_true rfl) ⟨_, wa3.1⟩ ((r_hasI (f1.sy hs (by omega) (by omega) (by omega)) hP hA wa3 ⟨_, _, hpr.2.1, hwd1⟩ hq5.2.1 hx9.1.2.1.1 hqo.1.2.1.1 (fun c hc => by have := kn_lt (hqo.1.2.2.1.1 c hc); show c < 123; omega) hx9.1.1.1 hqo.1.1.1 hqo.2.2.2.1 (by omega) (by decide)).mono ?_)
    rintro v S2 ⟨f2, ⟨E2, B2, pl2, hr2⟩, z2, rfl, hz2⟩
    have hz29 := hz2.le
    have f3 : frp (fun c => (12 ≤ c ∧ c < 84) ∨ (326 ≤ c ∧ c < 400) ∨ (405 ≤ c ∧ c < 410) ∨ (412 ≤ c ∧ c < 417)) S S2 := f1.tr (f2.pp (fun c h1 h2 => by omega))
    have p2 := f2.plv p1 (by decide)
    have v2 := f2.plv v1 (by decide)
    have hq2 := f2.pw hq1 (by decide)
    have w2 : wkh S2 := ⟨⟨q0, f2.rv wa1 (by decide)⟩, ⟨x5, y5, f2.pw wa2 (by decide)⟩, E2, B2, pl2, hr2⟩
    have he2 := f3.en he (by omega)
    rw [List.filter_cons] at e1 e2
    refine ax_if_eq at_27_90 ⟨by omega, by omega⟩ (fun z => ?_) (fun z => ?_)
    · skip
      have hh : hib (Ar P) q.1 x.1 = false := by rcases hz2 with ⟨-, h9⟩ | ⟨h9, -⟩; exact eq_false_of_ne_true h9; omega
      rw [if_pos (by rw [hh]; rfl)] at e1
      rw [if_neg (by rw [hh]; intro h; cases h)] at e2
      refine ax_inc at_27_120 rfl rfl rfl ?_
      refine ax_inc at_27_123 rfl rfl rfl ?_
      refine aw_goto at_27_126 ?_
      have := ih (keep ++ [x]) ks1 S2 f3 w2 hq2 (by rw [List.append_assoc]; exact p2) v2 (by rw [List.append_assoc]; exact e1) e2 (by rw [List.length_append, List.length_singleton]; omega)
      rw [show (((keep ++ [x]).length : Nat) : Int) = (keep.length : Int) + 1 by rw [List.length_append, List.length_singleton]; omega] at this
      rw [show (rest.length : Int) + 1 + -1 = (rest.length : Int) by omega]
      exact this
    · skip
      have hh : hib (Ar P) q.1 x.1 = true := (hz2.resolve_left (fun h => z h.1)).2
      rw [if_neg (by rw [hh]; intro h; cases h)] at e1
      rw [if_pos hh] at e2
      obtain ⟨fa, ga, h1, h2, h3, h4, h5, h6, h7, h8⟩ := id p2
      obtain ⟨fb, gb, j1, j2, j3, j4, j5, j6, j7, j8⟩ := id v2
      have hpx := h8 keep.length hkl
      rw [getD_mid] at hpx
      have hg := h4 keep.length (by omega)
      have hk9 : ks1.length < 14 := by have := congrArg List.length e2; rw [List.length_append, List.length_cons] at this; have h9 := List.length_filter_le (fun x => hib (Ar P) q.1 x.1) Rs; omega
      refine aw_loc at_27_93 rfl rfl ?_
      refine aw_get at_27_94 rfl fl_2_20 he2 rfl ?_
      refine aw_loc at_27_97 rfl rfl ?_
      refine aw_get at_27_98 rfl fl_2_54 he2 rfl ?_
      refine aw_get at_27_101 rfl fl_2_97 h1 rfl ?_
      refine aw_loc at_27_104 rfl rfl ?_
      refine ax_ald (k := keep.length) at_27_105 rfl h2 rfl (by omega) (by decide) (h3 _ (by omega)) ?_
      refine aw_cv (a := 326) [.ref (ga keep.length)] [] at_27_106 mt_2_89 (Or.inl rfl) rfl rfl (Nat.le_of_ble_eq_true rfl) ⟨_, j1⟩ ((r_add v2 (by decide) hpx (by omega)).mono ?_)
      rintro v S3 ⟨rfl, hadd, -⟩
      obtain ⟨f4, v3⟩ := hadd hk9
      have f5 : frp (fun c => (12 ≤ c ∧ c < 84) ∨ (326 ≤ c ∧ c < 400) ∨ (405 ≤ c ∧ c < 410) ∨ (412 ≤ c ∧ c < 417)) S S3 := f3.tr (f4.pp (fun c h1 h2 => by omega))
      have p3 := f4.plv p2 (by decide)
      have hq3 := f4.pw hq2 (by decide)
      have he3 := f5.en he (by omega)
      have w3 : wkh S3 := ⟨⟨q0, f4.rv (f2.rv wa1 (by decide)) (by decide)⟩, ⟨x5, y5, f4.pw (f2.pw wa2 (by decide)) (by decide)⟩, E2, B2, pl2, f4.rwo hr2 (by decide)⟩
      obtain ⟨fa3, ga3, h1, -⟩ := id p3
      refine aw_loc at_27_109 rfl rfl ?_
      refine aw_get at_27_110 rfl fl_2_54 he3 rfl ?_
      refine aw_loc at_27_113 rfl rfl ?_
      refine aw_cv (a := 12) [ax_i (keep.length : Nat)] [] at_27_114 mt_2_104 (Or.inl rfl) rfl rfl (Nat.le_of_ble_eq_true rfl) ⟨_, h1⟩ ((r_remove p3 (by decide) hkl).mono ?_)
      rintro v S4 ⟨rfl, f6, p4⟩
      rw [erase_mid] at p4
      have f7 : frp (fun c => (12 ≤ c ∧ c < 84) ∨ (326 ≤ c ∧ c < 400) ∨ (405 ≤ c ∧ c < 410) ∨ (412 ≤ c ∧ c < 417)) S S4 := f5.tr (f6.pp (fun c h1 h2 => by omega))
      have w4 : wkh S4 := by obtain ⟨⟨q0, a1⟩, ⟨x5, y5, a2⟩, E0, B0, pl0, a3⟩ := w3; exact ⟨⟨q0, f6.rv a1 (by decide)⟩, ⟨x5, y5, f6.pw a2 (by decide)⟩, E0, B0, pl0, f6.rwo a3 (by decide)⟩
      refine aw_goto at_27_117 ?_
      refine ax_inc at_27_123 rfl rfl rfl ?_
      refine aw_goto at_27_126 ?_
      have := ih keep (ks1 ++ [x]) S4 f7 w4 (f6.pw hq3 (by decide)) p4 (f6.plv v3 (by decide)) e1 (by rw [List.append_assoc]; exact e2) (by omega)
      rw [show (rest.length : Int) + 1 + -1 = (rest.length : Int) by omega]
      exact this
set_option maxHeartbeats 8000000 in
theorem r_enterR {a b : List Int} {dir : Int} (hs : sy S P R nn) (hP : ∀ i, 0 ≤ P i ∧ P i ≤ 2) (hA : ∀ c, 117 ≤ c → Ar P c = 0) (he : en S sx sc) (hp : plv S 12 14 Rs) (hR : ∀ q, q ∈ Rs → okr (Ar P) P' q) (hk : ∃ ks, plv S 326 14 ks) (hw : wkh S) (hx : pw S 400 l r) (hdir : (dir = 1 ∧ a = l ∧ b = r) ∨ (dir = -1 ∧ a = r ∧ b = l)) (la : a.length ≤ 24) (lb : b.length ≤ 24) (ka : al (kn P' 129) a) (kb : al (kn P' 129) b) (hqo : okr (Ar P) P' (rnp a b)) (hlR : Rs.length < 14) : ai_rn L xs (d + 4) 27 [.ref 11, ax_i dir] S (fun v S' => v = none ∧ frp (fun c => (12 ≤ c ∧ c < 84) ∨ (326 ≤ c ∧ c < 400) ∨ (405 ≤ c ∧ c < 410) ∨ (412 ≤ c ∧ c < 417)) S S' ∧ wkh S' ∧ plv S' 12 14 ((Rs.filter fun x => !hib (Ar P) (rnp a b).1 x.1) ++ [rnp a b]) ∧ plv S' 326 14 (Rs.filter fun x => hib (Ar P) (rnp a b).1 x.1)) := by
  obtain ⟨⟨q0, wa1⟩, ⟨x5, y5, wa2⟩, E0, B0, pl0, wa3⟩ := id hw
  have ho4 := (pw_tw hx).1
  have ho5 := (pw_tw wa2).1
  obtain ⟨ks0, hk⟩ := hk
  have krest : ∀ (S1 : ai_S), fr 405 410 S S1 → pw S1 405 a b → ai_aw L xs (d + 3) ai_m27 (fun o => ∃ v S', o = (.inl v, S') ∧ v = none ∧ frp (fun c => (12 ≤ c ∧ c < 84) ∨ (326 ≤ c ∧ c < 400) ∨ (405 ≤ c ∧ c < 410) ∨ (412 ≤ c ∧ c < 417)) S S' ∧ wkh S' ∧ plv S' 12 14 ((Rs.filter fun x => !hib (Ar P) (rnp a b).1 x.1) ++ [rnp a b]) ∧ plv S' 326 14 (Rs.filter fun x => hib (Ar P) (rnp a b).1 x.1)) (30, [some (.ref 11), some (ax_i dir), none, none], [], S1) := by
    intro S1 f1 p5
    have he1 : en S1 sx sc := (f1.obj (by decide)).trans he
    have wr1 := f1.rv wa1 (by decide)
    have ho5 := (pw_tw p5).1
    refine aw_loc at_27_30 rfl rfl ?_
    refine aw_get at_27_31 rfl fl_2_26 he1 rfl ?_
    refine aw_loc at_27_34 rfl rfl ?_
    refine aw_get at_27_35 rfl fl_2_37 he1 rfl ?_
    refine aw_cv (a := 398) [.ref 405] [] at_27_38 mt_2_85 (Or.inl rfl) rfl rfl (Nat.le_of_ble_eq_true rfl) ⟨_, wr1.1⟩ ((r_rename2 p5 wr1 la lb ka kb (by decide)).mono ?_)
    rintro v S2 ⟨rfl, f2, hq2, p2⟩
    have f12 : frp (fun c => (12 ≤ c ∧ c < 84) ∨ (326 ≤ c ∧ c < 400) ∨ (405 ≤ c ∧ c < 410) ∨ (412 ≤ c ∧ c < 417)) S S2 := (f1.pp (fun c h1 h2 => by omega)).tr (f2.mn (fun c h => by rcases h with h | h | h <;> omega))
    have he2 := f12.en he (by omega)
    have hk2 := f2.plv (f1.plv hk (by decide)) (by omega)
    have hp2 := f2.plv (f1.plv hp (by decide)) (by omega)
    have w2 : wkh S2 := ⟨hq2, ⟨_, _, p2⟩, E0, B0, pl0, f2.rwo (f1.rwo wa3 (by decide)) (by omega)⟩
    obtain ⟨fb, gb, j1, -⟩ := id hk2
    refine aw_pure at_27_41 rfl rfl ?_
    refine aw_loc at_27_42 rfl rfl ?_
    refine aw_get at_27_43 rfl fl_2_20 he2 rfl ?_
    refine aw_pure (st' := ax_i (0) :: _) at_27_46 rfl rfl ?_
    refine aw_put at_27_47 rfl fl_2_82 j1 (Nat.le_of_ble_eq_true rfl) rfl (by decide +kernel) ?_
    refine (show ai_aw L xs (d + 3) ai_m27 _ (50, _, _, ai_wr S2 326 (.inr (6, [.ref (326 + 1), ax_i 0]))) from ?_)
    have hk3 := plv_none hk2
    have f3 : fr 326 398 S2 (ai_wr S2 326 (.inr (6, [.ref (326 + 1), ax_i 0]))) := fr_wr.mn (by decide) (by decide)
    have hp3 := f3.plv hp2 (by decide)
    have p3 := f3.pw p2 (by decide)
    have f13 : frp (fun c => (12 ≤ c ∧ c < 84) ∨ (326 ≤ c ∧ c < 400) ∨ (405 ≤ c ∧ c < 410) ∨ (412 ≤ c ∧ c < 417)) S _ := f12.tr (f3.pp (fun c h1 h2 => by omega))
    have w3 : wkh (ai_wr S2 326 (.inr (6, [.ref (326 + 1), ax_i 0]))) := by obtain ⟨⟨q0, a1⟩, ⟨x5, y5, a2⟩, E0, B0, pl0, a3⟩ := w2; exact ⟨⟨q0, f3.rv a1 (by decide)⟩, ⟨x5, y5, f3.pw a2 (by decide)⟩, E0, B0, pl0, f3.rwo a3 (by decide)⟩
    generalize ai_wr S2 326 (.inr (6, [.ref (326 + 1), ax_i 0])) = S3 at hk3 f3 hp3 p3 f13 w3 ⊢
    have he3 := f13.en he (by omega)
    obtain ⟨fc, gc, h1, -⟩ := id hp3
    refine aw_pure (st' := ax_i (0) :: _) at_27_50 rfl rfl ?_
    refine aw_loc at_27_51 rfl rfl ?_
    refine aw_loc at_27_52 rfl rfl ?_
    refine aw_get at_27_53 rfl fl_2_54 he3 rfl ?_
    refine aw_get at_27_56 rfl fl_2_82 h1 rfl ?_
    refine aw_loc at_27_59 rfl rfl ?_
    refine r_enter1 hs hP hA he hqo hlR (fun keep x rest ks1 e1 e2 => ?_) Rs [] [] S3 f13 w3 p3 (by rw [List.nil_append]; exact hp3) hk3 rfl rfl (by rw [List.length_nil]; omega)
    by_cases g : hib (Ar P) (rnp a b).1 x.1 = true
    · have : x ∈ Rs.filter fun x => hib (Ar P) (rnp a b).1 x.1 := by rw [← e2, List.filter_cons, if_pos g]; exact List.mem_append.2 (Or.inr (List.mem_cons_self ..))
      exact hR x (List.mem_filter.1 this).1
    · have : x ∈ Rs.filter fun x => !hib (Ar P) (rnp a b).1 x.1 := by rw [← e1, List.filter_cons, if_pos (by rw [eq_false_of_ne_true g]; rfl)]; exact List.mem_append.2 (Or.inr (List.mem_cons_self ..))
      exact hR x (List.mem_filter.1 this).1
  have pp5 := (pw_tw wa2).1
  refine ai_rn_of (M := ai_m27) rfl (by decide) (Nat.le_of_ble_eq_true rfl) ?_
  refine aw_loc at_27_0 rfl rfl ?_
  refine aw_pure (st' := ax_i (1) :: _) at_27_1 rfl rfl ?_
  rcases hdir with ⟨hd1, hab⟩ | ⟨hd1, hab⟩
  · skip
    subst hd1
    refine ax_icmp_ne at_27_2 ⟨by decide, by decide⟩ ⟨by decide, by decide⟩ (fun z => absurd rfl z) (fun _ => ?_)
    refine aw_loc at_27_5 rfl rfl ?_
    refine aw_get at_27_6 rfl fl_2_37 he rfl ?_
    refine aw_loc at_27_9 rfl rfl ?_
    refine aw_get at_27_10 rfl fl_2_33 he rfl ?_
    refine aw_cv (a := 405) [.ref 400] [] at_27_13 mt_2_101 (Or.inl rfl) rfl rfl (Nat.le_of_ble_eq_true rfl) ⟨_, pp5⟩ ((r_pcopy wa2 hx (by decide)).mono ?_)
    rintro v S1 ⟨rfl, hpq⟩
    refine aw_goto at_27_16 ?_
    have := krest S1 (fr_pq hpq) (by rw [hab.1, hab.2]; exact pq_pw hpq wa2)
    exact this
  · skip
    subst hd1
    refine ax_icmp_ne at_27_2 ⟨by decide, by decide⟩ ⟨by decide, by decide⟩ (fun _ => ?_) (fun z => absurd z (by decide))
    refine aw_loc at_27_19 rfl rfl ?_
    refine aw_get at_27_20 rfl fl_2_37 he rfl ?_
    refine aw_loc at_27_23 rfl rfl ?_
    refine aw_get at_27_24 rfl fl_2_33 he rfl ?_
    refine aw_cv (a := 405) [.ref 400] [] at_27_27 mt_2_137 (Or.inl rfl) rfl rfl (Nat.le_of_ble_eq_true rfl) ⟨_, pp5⟩ ((r_pxcopy wa2 hx (by decide)).mono ?_)
    rintro v S1 ⟨rfl, hpq⟩
    have := krest S1 (fr_pq hpq) (by rw [hab.1, hab.2]; exact pq_pw hpq wa2)
    exact this
set_option maxHeartbeats 16000000 in
theorem r_ovl1 {u v : List Int × List Int} {la ia ua lo : Int} {Q : ai_O → Prop} {res : rls × Bool} (hs : sy S P R nn) (hP : ∀ i, 0 ≤ P i ∧ P i ≤ 2) (hA : ∀ c, 117 ≤ c → Ar P c = 0) (he : en S sx sc) (hp : plv S 12 14 Rs) (hR : ∀ q, q ∈ Rs → okr (Ar P) P' q) (hu : okr (Ar P) P' u) (hv : okr (Ar P) P' v) (htw : twb (Ar P) u v) (kgood : ∀ (S9 : ai_S) (V9 : rls) (p9 : Int), frp (fun c => (84 ≤ c ∧ c < 326) ∨ (398 ≤ c ∧ c < 410) ∨ (412 ≤ c ∧ c < 417) ∨ (425 ≤ c ∧ c < 432)) S S9 → wkh S9 → (∃ x y, pw S9 400 x y) → plv S9 84 48 V9 → (∀ q, q ∈ V9 → okv (Ar P) P' q) → ovg S9 → (V9, true) = res → ai_aw L xs (d + 5) ai_m31 Q (125, [some (.ref 11), some (ax_i la), some (ax_i ia), some (ax_i ua), some (ax_i lo), some (ax_i p9)], [], S9)) (kbad : ∀ (S9 : ai_S) (V9 : rls), frp (fun c => (84 ≤ c ∧ c < 326) ∨ (398 ≤ c ∧ c < 410) ∨ (412 ≤ c ∧ c < 417) ∨ (425 ≤ c ∧ c < 432)) S S9 → wkh S9 → (∃ x y, pw S9 400 x y) → plv S9 84 48 V9 → (∀ q, q ∈ V9 → okv (Ar P) P' q) → ovg S9 → res = (V9, false) → Q (.inl (some (ax_i 0)), S9)) : ∀ (m p : Nat) (S1 : ai_S) (V : rls), frp (fun c => (84 ≤ c ∧ c < 326) ∨ (398 ≤ c ∧ c < 410) ∨ (412 ≤ c ∧ c < 417) ∨ (425 ≤ c ∧ c < 432)) S S1 → wkh S1 → (∃ x y, pw S1 400 x y) → plv S1 84 48 V → (∀ q, q ∈ V → okv (Ar P) P' q) → (∃ LT EN ND PA SE ST dp e, ovo S1 LT EN ND PA SE ST dp e ∧ ovq (Ar P) LT EN ND e u v ∧ ∀ n, SE n = 0 ∨ SE n = 1) → p + m = 24 → ovp (Ar P) Rs u v p m V = res → ai_aw L xs (d + 5) ai_m31 Q (87, [some (.ref 11), some (ax_i la), some (ax_i ia), some (ax_i ua), some (ax_i lo), some (ax_i (p : Nat))], [], S1) := by
  intro m
  induction m with
  | zero =>
    intro p S1 V f1 w1 hx1 v1 hV1 hov hpm hd
    obtain ⟨x1, y1, px1⟩ := hx1
    have ho4 := (pw_tw px1).1
    have he1 := f1.en he (by omega)
    obtain ⟨LT, EN, ND, PA, SE, ST, dp, e, h0, hq0, h01⟩ := hov
    refine aw_loc at_31_87 rfl rfl ?_
    refine aw_pure (st' := ax_i (24) :: _) at_31_89 rfl rfl ?_
    refine ax_icmp_ge at_31_91 ⟨by omega, by omega⟩ ⟨by omega, by omega⟩ (fun _ => ?_) (fun z => absurd z (by omega))
    exact kgood S1 V _ f1 w1 ⟨_, _, px1⟩ v1 hV1 ⟨LT, EN, ND, PA, SE, ST, dp, e, h0, hq0.2.2.2.2.2, h01⟩ hd
  | succ m ih =>
    intro p S1 V f1 w1 hx1 v1 hV1 hov hpm hd
    obtain ⟨x1, y1, px1⟩ := hx1
    have ho4 := (pw_tw px1).1
    have he1 := f1.en he (by omega)
    obtain ⟨LT, EN, ND, PA, SE, ST, dp, e, h0, hq0, h01⟩ := hov
    have knext : ∀ (S9 : ai_S) (V9 : rls), frp (fun c => (84 ≤ c ∧ c < 326) ∨ (398 ≤ c ∧ c < 410) ∨ (412 ≤ c ∧ c < 417) ∨ (425 ≤ c ∧ c < 432)) S S9 → wkh S9 → (∃ x y, pw S9 400 x y) → plv S9 84 48 V9 → (∀ q, q ∈ V9 → okv (Ar P) P' q) → (∃ LT EN ND PA SE ST dp e, ovo S9 LT EN ND PA SE ST dp e ∧ ovq (Ar P) LT EN ND e u v ∧ ∀ n, SE n = 0 ∨ SE n = 1) → cpo (Ar P) Rs V u v p = some V9 → ai_aw L xs (d + 5) ai_m31 Q (119, [some (.ref 11), some (ax_i la), some (ax_i ia), some (ax_i ua), some (ax_i lo), some (ax_i (p : Nat))], [], S9) := by
      intro S9 V9 a1 a2 a3 a4 a5 a6 a7
      refine ax_inc at_31_119 rfl rfl rfl ?_
      refine aw_goto at_31_122 ?_
      have hd9 : ovp (Ar P) Rs u v (p + 1) m V9 = res := by
        rw [← hd]
        conv => rhs; unfold ovp
        rw [a7]
      have := ih (p + 1) S9 V9 a1 a2 a3 a4 a5 a6 (by omega) hd9
      rw [Int.natCast_add] at this
      exact this
    refine aw_loc at_31_87 rfl rfl ?_
    refine aw_pure (st' := ax_i (24) :: _) at_31_89 rfl rfl ?_
    refine ax_icmp_ge at_31_91 ⟨by omega, by omega⟩ ⟨by omega, by omega⟩ (fun z => absurd z (by omega)) (fun _ => ?_)
    refine aw_loc at_31_94 rfl rfl ?_
    refine aw_get at_31_95 rfl fl_2_78 he1 rfl ?_
    refine aw_loc at_31_98 rfl rfl ?_
    refine aw_loc at_31_100 rfl rfl ?_
    refine aw_get at_31_101 rfl fl_2_33 he1 rfl ?_
    refine aw_cv (a := 425) [ax_i (p : Nat), .ref 400] [] at_31_104 mt_2_154 (Or.inl rfl) rfl rfl (Nat.le_of_ble_eq_true rfl) ⟨_, h0.1⟩ ((r_findP (f1.sy hs (by omega) (by omega) (by omega)) hP hA h0 h01 hq0 htw hu.2.2.2.1 px1 (by omega)).mono ?_)
    rintro v S2 ⟨f2, ⟨PA2, SE2, ST2, dp2, h2, g2⟩, z2, rfl, hz2⟩
    have hz29 : z2 = 0 ∨ z2 = 1 := hz2.imp (fun h => h.1) (fun h => h.1)
    have f12 : frp (fun c => (84 ≤ c ∧ c < 326) ∨ (398 ≤ c ∧ c < 410) ∨ (412 ≤ c ∧ c < 417) ∨ (425 ≤ c ∧ c < 432)) S S2 := f1.tr (f2.mn (fun c h => by rcases h with h | h <;> omega))
    have w2 : wkh S2 := by obtain ⟨⟨q0, a1⟩, ⟨x5, y5, a2⟩, E0, B0, pl0, a3⟩ := w1; exact ⟨⟨q0, f2.rv a1 (by omega) (by omega)⟩, ⟨x5, y5, f2.pw a2 (by omega)⟩, E0, B0, pl0, f2.rwo a3 (by omega)⟩
    have v2 := f2.plv v1 (by omega)
    refine ax_if_eq at_31_107 ⟨by omega, by omega⟩ (fun z => ?_) (fun z => ?_)
    · skip
      obtain ⟨a1, a2⟩ := (hz2.resolve_right (fun h => by have := h.1; omega)).2
      exact knext S2 V f12 w2 ⟨_, _, a2⟩ v2 hV1 ⟨LT, EN, ND, PA2, SE2, ST2, dp2, e, h2, hq0, g2⟩ (a1 Rs V)
    · skip
      obtain ⟨b1, b2, fm, b3, b4, b5⟩ := (hz2.resolve_left (fun h => z h.1)).2
      have hK := b5 (kn P' 129) (fun c hc g => by rcases hc with hc | hc | hc | hc; exact kn_sym (hu.1.2.2.1.1 c hc) g; exact kn_sym (hu.1.2.2.1.2 c hc) g; exact kn_sym (hv.1.2.2.1.1 c hc) g; exact kn_sym (hv.1.2.2.1.2 c hc) g) (fun c g1 g2 => kn_var g1 g2)
      have hcp := cpo_some (Vs := V) hA (okr_rok hR) hu.1.1.2 hv.1.1 b1 b2 b3
      have ht1 : ts (Ar P) 1 ((cpl (Ar P) u (swp v) p).flatMap fm) := gs_ts hA b3.1 (cpl_ts hA hu.1.1.2 (ts_map hA sw_inv.1 _ 1 hv.1.1.1) (by show p < (v.1.map sw).length; rw [List.length_map]; exact b1))
      have ht2 : ts (Ar P) 1 ((swp v).2.flatMap fm) := gs_ts hA b3.1 (ts_map hA sw_inv.1 _ 1 hv.1.1.2)
      have he2 := f12.en he (by omega)
      refine aw_loc at_31_110 rfl rfl ?_
      refine aw_cv (a := 11) [] [] at_31_111 mt_2_147 (Or.inl rfl) rfl rfl (Nat.le_of_ble_eq_true rfl) ⟨_, he2⟩ ((r_addH (P' := P') (f12.sy hs (by omega) (by omega) (by omega)) hP hA he2 (f12.plv hp (by omega)) hR v2 w2 b4 ht1 ht2 hK.1 hK.2).mono ?_)
      rintro v S3 ⟨f3, w3, hx3, z3, rfl, hz3⟩
      have hz39 : z3 = 0 ∨ z3 = 1 := hz3.imp (fun h => h.1) (fun h => h.1)
      have f13 : frp (fun c => (84 ≤ c ∧ c < 326) ∨ (398 ≤ c ∧ c < 410) ∨ (412 ≤ c ∧ c < 417) ∨ (425 ≤ c ∧ c < 432)) S S3 := f12.tr (f3.mn (fun c h => by rcases h with h | h | h <;> omega))
      have h3 := f3.ovo h2 (by omega)
      refine ax_if_ne at_31_114 ⟨by omega, by omega⟩ (fun z => ?_) (fun z => ?_)
      · skip
        obtain ⟨V3, c1, c2⟩ := (hz3.resolve_left (fun h => z h.1)).2
        exact knext S3 V3 f13 w3 hx3 c2 (ah_okv hA hR hV1 ht1 ht2 hK.1 hK.2 c1).1 ⟨LT, EN, ND, PA2, SE2, ST2, dp2, e, h3, hq0, g2⟩ (hcp.trans c1)
      · skip
        obtain ⟨c1, c2⟩ := (hz3.resolve_right (fun h => by have := h.1; omega)).2
        have hd2 : ovp (Ar P) Rs u v p (m + 1) V = (V, false) := by unfold ovp; rw [hcp, c1]
        refine aw_pure (st' := ax_i (0) :: _) at_31_117 rfl rfl ?_
        exact ax_retZ at_31_118 rfl (Or.inl rfl) (kbad S3 V f13 w3 hx3 c2 hV1 ⟨LT, EN, ND, PA2, SE2, ST2, dp2, e, h3, hq0.2.2.2.2.2, g2⟩ (hd2.symm.trans hd).symm)
set_option maxHeartbeats 16000000 in
theorem r_ovl2 (hs : sy S P R nn) (hP : ∀ i, 0 ≤ P i ∧ P i ≤ 2) (hA : ∀ c, 117 ≤ c → Ar P c = 0) (he : en S sx sc) (hp : plv S 12 14 Rs) (hR : ∀ q, q ∈ Rs → okr (Ar P) P' q) (hRl : 0 < Rs.length ∧ Rs.length ≤ 14) : ∀ (m i : Nat) (S1 : ai_S) (V : rls) (x3 x4 x5 : Option Value), frp (fun c => (84 ≤ c ∧ c < 326) ∨ (398 ≤ c ∧ c < 410) ∨ (412 ≤ c ∧ c < 417) ∨ (425 ≤ c ∧ c < 432)) S S1 → wkh S1 → (∃ x y, pw S1 400 x y) → plv S1 84 48 V → (∀ q, q ∈ V → okv (Ar P) P' q) → ovg S1 → i + m = 2 * (Rs.length - 1) + 1 → (ovi (Ar P) Rs (Rs.length - 1) 0 (2 * (Rs.length - 1) + 1) Vs) = ovi (Ar P) Rs (Rs.length - 1) i m V → ai_aw L xs (d + 5) ai_m31 (fun o => ∃ v S', o = (.inl v, S') ∧ frp (fun c => (84 ≤ c ∧ c < 326) ∨ (398 ≤ c ∧ c < 410) ∨ (412 ≤ c ∧ c < 417) ∨ (425 ≤ c ∧ c < 432)) S S' ∧ wkh S' ∧ ovg S' ∧ (∃ x y, pw S' 400 x y) ∧ plv S' 84 48 (ovi (Ar P) Rs (Rs.length - 1) 0 (2 * (Rs.length - 1) + 1) Vs).1 ∧ (∀ q, q ∈ (ovi (Ar P) Rs (Rs.length - 1) 0 (2 * (Rs.length - 1) + 1) Vs).1 → okv (Ar P) P' q) ∧ ∃ z, v = some (ax_i z) ∧ bz z ((ovi (Ar P) Rs (Rs.length - 1) 0 (2 * (Rs.length - 1) + 1) Vs).2 = true)) (12, [some (.ref 11), some (ax_i ((Rs.length - 1 : Nat) : Int)), some (ax_i (i : Nat)), x3, x4, x5], [], S1) := by
  intro m
  induction m with
  | zero =>
    intro i S1 V x3 x4 x5 f1 w1 hx1 v1 hV1 hov him hd
    refine aw_loc at_31_12 rfl rfl ?_
    refine aw_pure (st' := ax_i (2) :: _) at_31_13 rfl rfl ?_
    refine aw_loc at_31_14 rfl rfl ?_
    refine ax_mul at_31_15 rfl ?_
    refine ax_icmp_gt at_31_16 ⟨by omega, by omega⟩ ⟨by omega, by omega⟩ (fun _ => ?_) (fun z => absurd z (by omega))
    show ai_aw L xs (d + 5) ai_m31 _ (131, _, _, _)
    refine aw_pure (st' := ax_i (1) :: _) at_31_131 rfl rfl ?_
    exact ax_retZ at_31_132 rfl (Or.inr rfl) ⟨_, _, rfl, f1, w1, hov, hx1, by rw [hd]; exact v1, by rw [hd]; exact hV1, 1, rfl, Or.inr ⟨rfl, by rw [hd]; rfl⟩⟩
  | succ m ih =>
    intro i S1 V x3 x4 x5 f1 w1 hx1 v1 hV1 hov him hd
    have he1 := f1.en he (by omega)
    have hp1 := f1.plv hp (by omega)
    obtain ⟨fa, ga, h1, h2, h3, h4, h5, h6, h7, h8⟩ := id hp1
    have kmid : ∀ (a b : Nat), a = (if i % 2 = 0 then Rs.length - 1 else i / 2) → b = (if i % 2 = 0 then i / 2 else Rs.length - 1) → ai_aw L xs (d + 5) ai_m31 (fun o => ∃ v S', o = (.inl v, S') ∧ frp (fun c => (84 ≤ c ∧ c < 326) ∨ (398 ≤ c ∧ c < 410) ∨ (412 ≤ c ∧ c < 417) ∨ (425 ≤ c ∧ c < 432)) S S' ∧ wkh S' ∧ ovg S' ∧ (∃ x y, pw S' 400 x y) ∧ plv S' 84 48 (ovi (Ar P) Rs (Rs.length - 1) 0 (2 * (Rs.length - 1) + 1) Vs).1 ∧ (∀ q, q ∈ (ovi (Ar P) Rs (Rs.length - 1) 0 (2 * (Rs.length - 1) + 1) Vs).1 → okv (Ar P) P' q) ∧ ∃ z, v = some (ax_i z) ∧ bz z ((ovi (Ar P) Rs (Rs.length - 1) 0 (2 * (Rs.length - 1) + 1) Vs).2 = true)) (48, [some (.ref 11), some (ax_i ((Rs.length - 1 : Nat) : Int)), some (ax_i (i : Nat)), some (ax_i (a : Nat)), some (ax_i (b : Nat)), x5], [], S1) := by
      intro a b ha hb
      have ha9 : a < Rs.length := by rw [ha]; split <;> omega
      have hb9 : b < Rs.length := by rw [hb]; split <;> omega
      have hua : okr (Ar P) P' (Rs.getD a q_no) := hR _ (mem_getD.2 ⟨a, ha9, rfl⟩)
      have hub : okr (Ar P) P' (Rs.getD b q_no) := hR _ (mem_getD.2 ⟨b, hb9, rfl⟩)
      obtain ⟨LT, EN, ND, PA, SE, ST, dp, e, g0, gL, g01⟩ := hov
      have hga := h4 a (by omega)
      have hgb := h4 b (by omega)
      refine aw_loc at_31_48 rfl rfl ?_
      refine aw_get at_31_49 rfl fl_2_78 he1 rfl ?_
      refine aw_loc at_31_52 rfl rfl ?_
      refine aw_get at_31_53 rfl fl_2_54 he1 rfl ?_
      refine aw_get at_31_56 rfl fl_2_97 h1 rfl ?_
      refine aw_loc at_31_59 rfl rfl ?_
      refine ax_ald (k := a) at_31_60 rfl h2 rfl (by omega) (by decide) (h3 _ (by omega)) ?_
      refine aw_loc at_31_61 rfl rfl ?_
      refine aw_get at_31_62 rfl fl_2_54 he1 rfl ?_
      refine aw_get at_31_65 rfl fl_2_97 h1 rfl ?_
      refine aw_loc at_31_68 rfl rfl ?_
      refine ax_ald (k := b) at_31_70 rfl h2 rfl (by omega) (by decide) (h3 _ (by omega)) ?_
      refine aw_cv (a := 425) [.ref (ga a), .ref (ga b)] [] at_31_71 mt_2_150 (Or.inl rfl) rfl rfl (Nat.le_of_ble_eq_true rfl) ⟨_, g0.1⟩ ((r_begin (f1.sy hs (by omega) (by omega) (by omega)) hP g0 gL (h8 a ha9) (h8 b hb9) (okr_twb hua hub) (by omega) (by omega)).mono ?_)
      rintro v S2 ⟨rfl, f2, LT2, EN2, ND2, e2, k0, kq⟩
      have f12 : frp (fun c => (84 ≤ c ∧ c < 326) ∨ (398 ≤ c ∧ c < 410) ∨ (412 ≤ c ∧ c < 417) ∨ (425 ≤ c ∧ c < 432)) S S2 := f1.tr (f2.pp (fun c h1 h2 => by omega))
      have w2 : wkh S2 := by obtain ⟨⟨q0, a1⟩, ⟨x5, y5, a2⟩, E0, B0, pl0, a3⟩ := w1; exact ⟨⟨q0, f2.rv a1 (by decide)⟩, ⟨x5, y5, f2.pw a2 (by decide)⟩, E0, B0, pl0, f2.rwo a3 (by decide)⟩
      have hx2 : ∃ x y, pw S2 400 x y := by obtain ⟨x, y, px⟩ := hx1; exact ⟨x, y, f2.pw px (by decide)⟩
      have v2 := f2.plv v1 (by decide)
      have hgo : ∀ p0 : Nat, p0 = (if a = b then 1 else 0) → ai_aw L xs (d + 5) ai_m31 (fun o => ∃ v S', o = (.inl v, S') ∧ frp (fun c => (84 ≤ c ∧ c < 326) ∨ (398 ≤ c ∧ c < 410) ∨ (412 ≤ c ∧ c < 417) ∨ (425 ≤ c ∧ c < 432)) S S' ∧ wkh S' ∧ ovg S' ∧ (∃ x y, pw S' 400 x y) ∧ plv S' 84 48 (ovi (Ar P) Rs (Rs.length - 1) 0 (2 * (Rs.length - 1) + 1) Vs).1 ∧ (∀ q, q ∈ (ovi (Ar P) Rs (Rs.length - 1) 0 (2 * (Rs.length - 1) + 1) Vs).1 → okv (Ar P) P' q) ∧ ∃ z, v = some (ax_i z) ∧ bz z ((ovi (Ar P) Rs (Rs.length - 1) 0 (2 * (Rs.length - 1) + 1) Vs).2 = true)) (87, [some (.ref 11), some (ax_i ((Rs.length - 1 : Nat) : Int)), some (ax_i (i : Nat)), some (ax_i (a : Nat)), some (ax_i (b : Nat)), some (ax_i (p0 : Nat))], [], S2) := by
        intro p0 hp0
        have hp09 : p0 ≤ 1 := by rw [hp0]; split <;> omega
        have hres : ovp (Ar P) Rs (Rs.getD a q_no) (Rs.getD b q_no) p0 (24 - p0) V = ovr (Ar P) Rs a b V := by unfold ovr; rw [← hp0]; have := ovp_more (A := Ar P) (Rs := Rs) (u := Rs.getD a q_no) (l := Rs.getD b q_no) (24 - p0) p0 p0 V (by have := hub.1.2.1.1; omega); rw [show 24 - p0 + p0 = 24 by omega] at this; exact this.symm
        have hdo : ovi (Ar P) Rs (Rs.length - 1) i (m + 1) V = if (ovr (Ar P) Rs a b V).2 = true then ovi (Ar P) Rs (Rs.length - 1) (i + 1) m (ovr (Ar P) Rs a b V).1 else ((ovr (Ar P) Rs a b V).1, false) := by rw [ha, hb]; rfl
        refine r_ovl1 (u := Rs.getD a q_no) (v := Rs.getD b q_no) hs hP hA he hp hR hua hub (okr_twb hua hub) (fun S9 V9 p9 a1 a2 a3 a4 a5 a6 a7 => ?_) (fun S9 V9 a1 a2 a3 a4 a5 a6 a7 => ?_) (24 - p0) p0 S2 V f12 w2 hx2 v2 hV1 ⟨LT2, EN2, ND2, PA, SE, ST, dp, e2, k0, kq, g01⟩ (by omega) hres
        · rw [← a7, if_pos rfl] at hdo
          refine ax_inc at_31_125 rfl rfl rfl ?_
          refine aw_goto at_31_128 ?_
          have := ih (i + 1) S9 V9 (some (ax_i (a : Nat))) (some (ax_i (b : Nat))) (some (ax_i p9)) a1 a2 a3 a4 a5 a6 (by omega) (hd.trans hdo)
          rw [Int.natCast_add] at this
          exact this
        · rw [a7, if_neg (by intro h; cases h)] at hdo
          have hd3 := hd.trans hdo
          exact ⟨_, _, rfl, a1, a2, a6, a3, by rw [hd3]; exact a4, by rw [hd3]; exact a5, 0, rfl, Or.inl ⟨rfl, by rw [hd3]; intro h; cases h⟩⟩
      refine aw_loc at_31_74 rfl rfl ?_
      refine aw_loc at_31_75 rfl rfl ?_
      refine ax_icmp_ne at_31_77 ⟨by omega, by omega⟩ ⟨by omega, by omega⟩ (fun z => ?_) (fun z => ?_)
      · skip
        refine aw_pure (st' := ax_i (0) :: _) at_31_84 rfl rfl ?_
        refine aw_loc at_31_85 rfl rfl ?_
        exact hgo 0 (by rw [if_neg (by omega)])
      · skip
        refine aw_pure (st' := ax_i (1) :: _) at_31_80 rfl rfl ?_
        refine aw_goto at_31_81 ?_
        refine aw_loc at_31_85 rfl rfl ?_
        exact hgo 1 (by rw [if_pos (by omega)])
    refine aw_loc at_31_12 rfl rfl ?_
    refine aw_pure (st' := ax_i (2) :: _) at_31_13 rfl rfl ?_
    refine aw_loc at_31_14 rfl rfl ?_
    refine ax_mul at_31_15 rfl ?_
    refine ax_icmp_gt at_31_16 ⟨by omega, by omega⟩ ⟨by omega, by omega⟩ (fun z => absurd z (by omega)) (fun _ => ?_)
    refine aw_loc at_31_19 rfl rfl ?_
    refine aw_pure (st' := ax_i (2) :: _) at_31_20 rfl rfl ?_
    refine ax_rem2 at_31_21 rfl (by omega) ?_
    rcases Nat.mod_two_eq_zero_or_one i with hm | hm
    · skip
      refine ax_if_ne at_31_22 ⟨by omega, by omega⟩ (fun z => absurd z (by omega)) (fun _ => ?_)
      refine aw_loc at_31_25 rfl rfl ?_
      refine aw_goto at_31_26 ?_
      refine aw_loc at_31_32 rfl rfl ?_
      refine aw_loc at_31_33 rfl rfl ?_
      refine aw_pure (st' := ax_i (2) :: _) at_31_34 rfl rfl ?_
      refine ax_rem2 at_31_35 rfl (by omega) ?_
      refine ax_if_ne at_31_36 ⟨by omega, by omega⟩ (fun z => absurd z (by omega)) (fun _ => ?_)
      refine aw_loc at_31_39 rfl rfl ?_
      refine aw_pure (st' := ax_i (2) :: _) at_31_40 rfl rfl ?_
      refine ax_div2 at_31_41 rfl (by omega) ?_
      refine aw_goto at_31_42 ?_
      refine aw_loc at_31_46 rfl rfl ?_
      exact kmid (Rs.length - 1) (i / 2) (by rw [if_pos hm]) (by rw [if_pos hm])
    · skip
      refine ax_if_ne at_31_22 ⟨by omega, by omega⟩ (fun _ => ?_) (fun z => absurd z (by omega))
      refine aw_loc at_31_29 rfl rfl ?_
      refine aw_pure (st' := ax_i (2) :: _) at_31_30 rfl rfl ?_
      refine ax_div2 at_31_31 rfl (by omega) ?_
      refine aw_loc at_31_32 rfl rfl ?_
      refine aw_loc at_31_33 rfl rfl ?_
      refine aw_pure (st' := ax_i (2) :: _) at_31_34 rfl rfl ?_
      refine ax_rem2 at_31_35 rfl (by omega) ?_
      refine ax_if_ne at_31_36 ⟨by omega, by omega⟩ (fun _ => ?_) (fun z => absurd z (by omega))
      refine aw_loc at_31_45 rfl rfl ?_
      refine aw_loc at_31_46 rfl rfl ?_
      exact kmid (i / 2) (Rs.length - 1) (by rw [if_neg (by omega)]) (by rw [if_neg (by omega)])
set_option maxHeartbeats 4000000 in
theorem r_ovl (hs : sy S P R nn) (hP : ∀ i, 0 ≤ P i ∧ P i ≤ 2) (hA : ∀ c, 117 ≤ c → Ar P c = 0) (he : en S sx sc) (hp : plv S 12 14 Rs) (hR : ∀ q, q ∈ Rs → okr (Ar P) P' q) (hRl : 0 < Rs.length ∧ Rs.length ≤ 14) (hv : plv S 84 48 Vs) (hV : ∀ q, q ∈ Vs → okv (Ar P) P' q) (hw : wkh S) (hx : ∃ x y, pw S 400 x y) (hov : ovg S) : ai_rn L xs (d + 6) 31 [.ref 11] S (fun v S' => frp (fun c => (84 ≤ c ∧ c < 326) ∨ (398 ≤ c ∧ c < 410) ∨ (412 ≤ c ∧ c < 417) ∨ (425 ≤ c ∧ c < 432)) S S' ∧ wkh S' ∧ ovg S' ∧ (∃ x y, pw S' 400 x y) ∧ plv S' 84 48 (ovi (Ar P) Rs (Rs.length - 1) 0 (2 * (Rs.length - 1) + 1) Vs).1 ∧ (∀ q, q ∈ (ovi (Ar P) Rs (Rs.length - 1) 0 (2 * (Rs.length - 1) + 1) Vs).1 → okv (Ar P) P' q) ∧ ∃ z, v = some (ax_i z) ∧ bz z ((ovi (Ar P) Rs (Rs.length - 1) 0 (2 * (Rs.length - 1) + 1) Vs).2 = true)) := by
  obtain ⟨fa, ga, h1, -⟩ := id hp
  refine ai_rn_of (M := ai_m31) rfl (by decide) (Nat.le_of_ble_eq_true rfl) ?_
  refine aw_loc at_31_0 rfl rfl ?_
  refine aw_get at_31_1 rfl fl_2_54 he rfl ?_
  refine aw_get at_31_4 rfl fl_2_82 h1 rfl ?_
  refine aw_pure (st' := ax_i (1) :: _) at_31_7 rfl rfl ?_
  refine ax_sub at_31_8 rfl ?_
  rw [show (Rs.length : Int) - 1 = ((Rs.length - 1 : Nat) : Int) by omega]
  refine aw_loc at_31_9 rfl rfl ?_
  refine aw_pure (st' := ax_i (0) :: _) at_31_10 rfl rfl ?_
  refine aw_loc at_31_11 rfl rfl ?_
  exact r_ovl2 hs hP hA he hp hR hRl (2 * (Rs.length - 1) + 1) 0 S Vs _ _ _ frp.rf hw hx hv hV hov (by omega) rfl
end EO

/-! The reference: rules that are taken back, right sides that are brought to their ends. -/
section MP
variable {L : Nat} {xs : Nat → Int32} {d : Nat} {S S' : ai_S} {T D n rc wt kp sx sc : Int} {F : Nat → Nat → Int} {B : Nat → Int} {P : Nat → Int} {A : Int → Nat} {Rs Vs : rls}
/-- the kept pairs -/
def mkl (F : Nat → Nat → Int) (ks : rls) : Prop := ∀ j, j < ks.length → qsl (F 6) (F 7) (F 8) (48 + j) (ks.getD j q_no)
def eq3 (F F' : Nat → Nat → Int) : Prop := ∀ i, i < 3 → F' i = F i
theorem eq3.tr {F F' F'' : Nat → Nat → Int} (h1 : eq3 F F') (h2 : eq3 F' F'') : eq3 F F'' := fun i h => (h2 i h).trans (h1 i h)
theorem erase_get {l : rls} {k j : Nat} {z : List Int × List Int} : (l.eraseIdx k).getD j z = if j < k then l.getD j z else l.getD (j + 1) z := by
  rw [List.getD_eq_getElem?_getD, List.getElem?_eraseIdx]
  split <;> rw [List.getD_eq_getElem?_getD]
theorem set_get2 {l : rls} {k j : Nat} {v z : List Int × List Int} (hk : k < l.length) : (l.set k v).getD j z = if j = k then v else l.getD j z := by
  rw [List.getD_eq_getElem?_getD, List.getElem?_set]
  by_cases h : k = j
  · rw [if_pos h, if_pos h.symm, if_pos hk]
    rfl
  · rw [if_neg h, if_neg (fun e => h e.symm), List.getD_eq_getElem?_getD]
theorem snoc_get {l : rls} {j : Nat} {v z : List Int × List Int} (hj : j < l.length + 1) : (l ++ [v]).getD j z = if j = l.length then v else l.getD j z := by
  rw [List.getD_eq_getElem?_getD, List.getElem?_append]
  by_cases h : j = l.length
  · rw [if_pos h, if_neg (by omega), h, Nat.sub_self]
    rfl
  · rw [if_neg h, if_pos (by omega), List.getD_eq_getElem?_getD]
theorem mgg_st {S1 : ai_S} {F' : Nat → Nat → Int} {kp' sx' sc' : Int} (h : mgg S A T D n Rs Vs kp sx sc F B) (h1 : mst S1 T D n (Rs.length : Int) (Vs.length : Int) kp' sx' sc' F' B) (he : ∀ i, i < 9 → F' i = F i) (x9 : xr (F' 9)) (x13 : F' 13 = F 13) : mgg S1 A T D n Rs Vs kp' sx' sc' F' B :=
  ⟨h1, ⟨mpk_eqo (eqo_9 he) h.2.1.1, h.2.1.2⟩, ⟨mrl_eqo (eqo_9 he) h.2.2.1.1, h.2.2.1.2.1, by rw [he 0 (by decide)]; exact h.2.2.1.2.2⟩, ⟨mpl_eq he h.2.2.2.1.1, h.2.2.2.1.2.1, by rw [he 0 (by decide)]; exact h.2.2.2.1.2.2⟩, x9, by rw [he 6 (by decide)]; exact h.2.2.2.2.2.1, by rw [x13]; exact h.2.2.2.2.2.2⟩
theorem at_133_0 : ai_at ai_m133 0 = some (.aload_n 0, 1) := rfl
theorem at_133_1 : ai_at ai_m133 1 = some (.iconst 0, 1) := rfl
theorem at_133_2 : ai_at ai_m133 2 = some (.putfield 196, 3) := rfl
theorem at_133_5 : ai_at ai_m133 5 = some (.iconst 0, 1) := rfl
theorem at_133_6 : ai_at ai_m133 6 = some (.istore_n 1, 1) := rfl
theorem at_133_7 : ai_at ai_m133 7 = some (.iload_n 1, 1) := rfl
theorem at_133_8 : ai_at ai_m133 8 = some (.aload_n 0, 1) := rfl
theorem at_133_9 : ai_at ai_m133 9 = some (.getfield 113, 3) := rfl
theorem at_133_12 : ai_at ai_m133 12 = some (.if_icmp .ge 88, 3) := rfl
theorem at_133_15 : ai_at ai_m133 15 = some (.aload_n 0, 1) := rfl
theorem at_133_16 : ai_at ai_m133 16 = some (.iload_n 1, 1) := rfl
theorem at_133_17 : ai_at ai_m133 17 = some (.invokevirtual 199, 3) := rfl
theorem at_133_20 : ai_at ai_m133 20 = some (.iconst 0, 1) := rfl
theorem at_133_21 : ai_at ai_m133 21 = some (.istore_n 2, 1) := rfl
theorem at_133_22 : ai_at ai_m133 22 = some (.iconst 0, 1) := rfl
theorem at_133_23 : ai_at ai_m133 23 = some (.istore_n 3, 1) := rfl
theorem at_133_24 : ai_at ai_m133 24 = some (.iload_n 3, 1) := rfl
theorem at_133_25 : ai_at ai_m133 25 = some (.aload_n 0, 1) := rfl
theorem at_133_26 : ai_at ai_m133 26 = some (.getfield 40, 3) := rfl
theorem at_133_29 : ai_at ai_m133 29 = some (.iconst 0, 1) := rfl
theorem at_133_30 : ai_at ai_m133 30 = some (.iaload, 1) := rfl
theorem at_133_31 : ai_at ai_m133 31 = some (.if_icmp .ge 30, 3) := rfl
theorem at_133_34 : ai_at ai_m133 34 = some (.iload_n 2, 1) := rfl
theorem at_133_35 : ai_at ai_m133 35 = some (.ifCond .ne 14, 3) := rfl
theorem at_133_38 : ai_at ai_m133 38 = some (.aload_n 0, 1) := rfl
theorem at_133_39 : ai_at ai_m133 39 = some (.iconst 0, 1) := rfl
theorem at_133_40 : ai_at ai_m133 40 = some (.iload_n 3, 1) := rfl
theorem at_133_41 : ai_at ai_m133 41 = some (.bipush 14, 2) := rfl
theorem at_133_43 : ai_at ai_m133 43 = some (.invokevirtual 124, 3) := rfl
theorem at_133_46 : ai_at ai_m133 46 = some (.ifCond .eq 7, 3) := rfl
theorem at_133_49 : ai_at ai_m133 49 = some (.iconst 1, 1) := rfl
theorem at_133_50 : ai_at ai_m133 50 = some (.goto 4, 3) := rfl
theorem at_133_53 : ai_at ai_m133 53 = some (.iconst 0, 1) := rfl
theorem at_133_54 : ai_at ai_m133 54 = some (.istore_n 2, 1) := rfl
theorem at_133_55 : ai_at ai_m133 55 = some (.iinc 3 1, 3) := rfl
theorem at_133_58 : ai_at ai_m133 58 = some (.goto (-34), 3) := rfl
theorem at_133_61 : ai_at ai_m133 61 = some (.iload_n 2, 1) := rfl
theorem at_133_62 : ai_at ai_m133 62 = some (.ifCond .eq 32, 3) := rfl
theorem at_133_65 : ai_at ai_m133 65 = some (.aload_n 0, 1) := rfl
theorem at_133_66 : ai_at ai_m133 66 = some (.bipush 48, 2) := rfl
theorem at_133_68 : ai_at ai_m133 68 = some (.aload_n 0, 1) := rfl
theorem at_133_69 : ai_at ai_m133 69 = some (.getfield 196, 3) := rfl
theorem at_133_72 : ai_at ai_m133 72 = some (.iadd, 1) := rfl
theorem at_133_73 : ai_at ai_m133 73 = some (.invokevirtual 168, 3) := rfl
theorem at_133_76 : ai_at ai_m133 76 = some (.aload_n 0, 1) := rfl
theorem at_133_77 : ai_at ai_m133 77 = some (.dup, 1) := rfl
theorem at_133_78 : ai_at ai_m133 78 = some (.getfield 196, 3) := rfl
theorem at_133_81 : ai_at ai_m133 81 = some (.iconst 1, 1) := rfl
theorem at_133_82 : ai_at ai_m133 82 = some (.iadd, 1) := rfl
theorem at_133_83 : ai_at ai_m133 83 = some (.putfield 196, 3) := rfl
theorem at_133_86 : ai_at ai_m133 86 = some (.aload_n 0, 1) := rfl
theorem at_133_87 : ai_at ai_m133 87 = some (.iload_n 1, 1) := rfl
theorem at_133_88 : ai_at ai_m133 88 = some (.invokevirtual 202, 3) := rfl
theorem at_133_91 : ai_at ai_m133 91 = some (.goto 6, 3) := rfl
theorem at_133_94 : ai_at ai_m133 94 = some (.iinc 1 1, 3) := rfl
theorem at_133_97 : ai_at ai_m133 97 = some (.goto (-90), 3) := rfl
theorem at_133_100 : ai_at ai_m133 100 = some (.return_, 1) := rfl
theorem at_136_0 : ai_at ai_m136 0 = some (.iconst 0, 1) := rfl
theorem at_136_1 : ai_at ai_m136 1 = some (.istore_n 1, 1) := rfl
theorem at_136_2 : ai_at ai_m136 2 = some (.iload_n 1, 1) := rfl
theorem at_136_3 : ai_at ai_m136 3 = some (.iconst 1, 1) := rfl
theorem at_136_4 : ai_at ai_m136 4 = some (.iadd, 1) := rfl
theorem at_136_5 : ai_at ai_m136 5 = some (.aload_n 0, 1) := rfl
theorem at_136_6 : ai_at ai_m136 6 = some (.getfield 113, 3) := rfl
theorem at_136_9 : ai_at ai_m136 9 = some (.if_icmp .ge 47, 3) := rfl
theorem at_136_12 : ai_at ai_m136 12 = some (.aload_n 0, 1) := rfl
theorem at_136_13 : ai_at ai_m136 13 = some (.getfield 150, 3) := rfl
theorem at_136_16 : ai_at ai_m136 16 = some (.ifCond .ne 40, 3) := rfl
theorem at_136_19 : ai_at ai_m136 19 = some (.aload_n 0, 1) := rfl
theorem at_136_20 : ai_at ai_m136 20 = some (.iload_n 1, 1) := rfl
theorem at_136_21 : ai_at ai_m136 21 = some (.invokevirtual 199, 3) := rfl
theorem at_136_24 : ai_at ai_m136 24 = some (.aload_n 0, 1) := rfl
theorem at_136_25 : ai_at ai_m136 25 = some (.iconst 1, 1) := rfl
theorem at_136_26 : ai_at ai_m136 26 = some (.invokevirtual 147, 3) := rfl
theorem at_136_29 : ai_at ai_m136 29 = some (.ifCond .ge 11, 3) := rfl
theorem at_136_32 : ai_at ai_m136 32 = some (.aload_n 0, 1) := rfl
theorem at_136_33 : ai_at ai_m136 33 = some (.iconst 3, 1) := rfl
theorem at_136_34 : ai_at ai_m136 34 = some (.putfield 150, 3) := rfl
theorem at_136_37 : ai_at ai_m136 37 = some (.goto 13, 3) := rfl
theorem at_136_40 : ai_at ai_m136 40 = some (.aload_n 0, 1) := rfl
theorem at_136_41 : ai_at ai_m136 41 = some (.invokevirtual 157, 3) := rfl
theorem at_136_44 : ai_at ai_m136 44 = some (.istore_n 2, 1) := rfl
theorem at_136_45 : ai_at ai_m136 45 = some (.aload_n 0, 1) := rfl
theorem at_136_46 : ai_at ai_m136 46 = some (.iload_n 1, 1) := rfl
theorem at_136_47 : ai_at ai_m136 47 = some (.invokevirtual 205, 3) := rfl
theorem at_136_50 : ai_at ai_m136 50 = some (.iinc 1 1, 3) := rfl
theorem at_136_53 : ai_at ai_m136 53 = some (.goto (-51), 3) := rfl
theorem at_136_56 : ai_at ai_m136 56 = some (.return_, 1) := rfl
theorem fl_12_196 : ai_fld 12 196 = some (11, 11, false) := by decide +kernel
theorem mt_12_199 : ai_mth 12 199 = some (0, 134, 1, 11) := by decide +kernel
theorem mt_12_202 : ai_mth 12 202 = some (0, 135, 1, 11) := by decide +kernel
theorem mt_12_205 : ai_mth 12 205 = some (0, 132, 1, 11) := by decide +kernel
set_option maxHeartbeats 8000000 in
theorem r_m_prune0 {q x : List Int × List Int} {k : Int} {F1 : Nat → Nat → Int} {Q : ai_O → Prop} (hpk : mpk A F1) (hw : mwd (F1 9) (F1 10) 0 x.1) (hx9 : xr (F1 9)) (hkx : al (kn (F1 0) 129) x.1) (htx : ts A 1 x.1) (hxl : x.1.length ≤ 24) (hq : qsl (F1 3) (F1 4) (F1 5) 14 q) (hqo : okr A (F1 0) q) (kk : ∀ (s9 : Int) (S2 : ai_S) (F2 : Nat → Nat → Int) (p : Nat), (s9 = 0 ∨ s9 = 1) → (hib A q.1 x.1 = true ↔ s9 = 1) → fr 432 452 S S2 → (∀ i, i ≠ 11 → i ≠ 12 → F2 i = F1 i) → mst S2 T D n rc wt kp sx sc F2 B → ai_aw L xs (d + 3) ai_m133 Q (61, [some (.ref 432), some (ax_i k), some (ax_i s9), some (ax_i (p : Nat))], [], S2)) : ∀ (m p : Nat) (s9 : Int) (S2 : ai_S) (F2 : Nat → Nat → Int), p + m = x.1.length → (s9 = 0 ∨ s9 = 1) → (hib A q.1 x.1 = true ↔ s9 = 1 ∨ hib A q.1 (x.1.drop p) = true) → fr 432 452 S S2 → (∀ i, i ≠ 11 → i ≠ 12 → F2 i = F1 i) → mst S2 T D n rc wt kp sx sc F2 B → ai_aw L xs (d + 3) ai_m133 Q (24, [some (.ref 432), some (ax_i k), some (ax_i s9), some (ax_i (p : Nat))], [], S2) := by
  have hz := mwd_len hw (by omega)
  intro m
  induction m with
  | zero =>
    intro p s9 S2 F2 hp hs9 hh f2 e2 h2
    have hs99 : s9 = 0 ∨ s9 = 1 := hs9
    have e10 : F2 10 = F1 10 := e2 10 (by decide) (by decide)
    have ho := h2.1
    have r10 : ai_arr S2 443 0 = some (3, ax_f (F2 10)) := h2.2.1 10 (by decide)
    rw [show F2 10 = F1 10 from e10] at r10
    obtain rfl : p = x.1.length := by omega
    rw [hib_end (Nat.le_refl _)] at hh
    refine aw_loc at_133_24 rfl rfl ?_
    refine aw_loc at_133_25 rfl rfl ?_
    refine aw_get at_133_26 rfl fl_12_40 ho rfl ?_
    refine aw_pure (st' := ax_i (0) :: _) at_133_29 rfl rfl ?_
    refine ax_ild at_133_30 rfl r10 (k := 0) rfl (by decide) (by decide) ?_
    rw [hz]
    refine ax_icmp_ge at_133_31 ⟨by omega, by omega⟩ ⟨by omega, by omega⟩ (fun _ => kk s9 S2 F2 (x.1.length) hs9 (hh.trans ⟨fun g => g.resolve_right (fun g2 => by cases g2), Or.inl⟩) f2 e2 h2) (fun z => absurd z (by omega))
  | succ m ih =>
    intro p s9 S2 F2 hp hs9 hh f2 e2 h2
    have hs99 : s9 = 0 ∨ s9 = 1 := hs9
    have e10 : F2 10 = F1 10 := e2 10 (by decide) (by decide)
    have ho := h2.1
    have r10 : ai_arr S2 443 0 = some (3, ax_f (F2 10)) := h2.2.1 10 (by decide)
    rw [show F2 10 = F1 10 from e10] at r10
    rw [hib_at (show p < x.1.length by omega), Bool.or_eq_true] at hh
    have knx : ∀ (s' : Int) (S3 : ai_S) (F3 : Nat → Nat → Int), (s' = 0 ∨ s' = 1) → (hib A q.1 x.1 = true ↔ s' = 1 ∨ hib A q.1 (x.1.drop (p + 1)) = true) → fr 432 452 S S3 → (∀ i, i ≠ 11 → i ≠ 12 → F3 i = F1 i) → mst S3 T D n rc wt kp sx sc F3 B → ai_aw L xs (d + 3) ai_m133 Q (54, [some (.ref 432), some (ax_i k), some (ax_i s9), some (ax_i (p : Nat))], [ax_i s'], S3) := by
      intro s' S3 F3 g1 g2 g3 g4 g5
      refine aw_loc at_133_54 rfl rfl ?_
      refine ax_inc at_133_55 rfl rfl rfl ?_
      refine aw_goto at_133_58 ?_
      have := ih (p + 1) s' S3 F3 (by omega) g1 g2 g3 g4 g5
      rw [Int.natCast_add] at this
      exact this
    refine aw_loc at_133_24 rfl rfl ?_
    refine aw_loc at_133_25 rfl rfl ?_
    refine aw_get at_133_26 rfl fl_12_40 ho rfl ?_
    refine aw_pure (st' := ax_i (0) :: _) at_133_29 rfl rfl ?_
    refine ax_ild at_133_30 rfl r10 (k := 0) rfl (by decide) (by decide) ?_
    rw [hz]
    refine ax_icmp_ge at_133_31 ⟨by omega, by omega⟩ ⟨by omega, by omega⟩ (fun z => absurd z (by omega)) (fun _ => ?_)
    refine aw_loc at_133_34 rfl rfl ?_
    refine ax_if_ne at_133_35 ⟨by omega, by omega⟩ (fun y => ?_) (fun y => ?_)
    · skip
      refine aw_pure (st' := ax_i (1) :: _) at_133_49 rfl rfl ?_
      refine aw_goto at_133_50 ?_
      exact knx 1 S2 F2 (Or.inr rfl) ⟨fun _ => Or.inl rfl, fun _ => hh.2 (Or.inl (hs9.resolve_left y))⟩ f2 e2 h2
    · skip
      have s0 : s9 = 0 := by omega
      refine aw_loc at_133_38 rfl rfl ?_
      refine aw_pure (st' := ax_i (0) :: _) at_133_39 rfl rfl ?_
      refine aw_loc at_133_40 rfl rfl ?_
      refine aw_pure (st' := ax_i (14) :: _) at_133_41 rfl rfl ?_
      refine aw_cv (a := 432) [ax_i ((0 : Nat) : Int), ax_i (p : Nat), ax_i ((14 : Nat) : Int)] [] at_133_43 mt_12_124 (Or.inl rfl) rfl rfl (Nat.le_of_ble_eq_true rfl) ⟨_, ho⟩ ((r_m_fits (d := d) (t := 0) (k := 14) (N := 1) h2 (by rw [e2 0 (by decide) (by decide)]; exact hpk.1) (by rw [e2 0 (by decide) (by decide)]; exact hpk.2) (by rw [e2 9 (by decide) (by decide)]; exact hx9) (by rw [e2 9 (by decide) (by decide)]; exact mwd_cw hw (by omega)) (by rw [e2 0 (by decide) (by decide)]; exact hkx) htx (by decide) hxl (by rw [e2 3 (by decide) (by decide), e2 4 (by decide) (by decide), e2 5 (by decide) (by decide)]; exact hq) (by rw [e2 0 (by decide) (by decide)]; exact hqo.1.2.2.1.1) (by decide) hqo.1.1.1 (by omega)).mono ?_)
      rintro v S3 ⟨f3, FR, TO, h3, z, rfl, hz3, -⟩
      have hz39 := hz3.le
      have f23 := f2.tr f3
      have e3 : ∀ i, i ≠ 11 → i ≠ 12 → (fup (fup F2 11 FR) 12 TO) i = F1 i := fun i a b => ((fup_ne b).trans (fup_ne a)).trans (e2 i a b)
      refine ax_if_eq at_133_46 ⟨by omega, by omega⟩ (fun y2 => ?_) (fun y2 => ?_)
      · skip
        refine aw_pure (st' := ax_i (0) :: _) at_133_53 rfl rfl ?_
        exact knx 0 S3 _ (Or.inl rfl) (hh.trans ⟨fun g => g.elim (fun g => by omega) (fun g => g.elim (fun g => absurd g (hz3.resolve_right (fun g => by have := g.1; omega)).2) Or.inr), fun g => g.elim (fun g => by omega) (fun g => Or.inr (Or.inr g))⟩) f23 e3 h3
      · skip
        refine aw_pure (st' := ax_i (1) :: _) at_133_49 rfl rfl ?_
        refine aw_goto at_133_50 ?_
        exact knx 1 S3 _ (Or.inr rfl) ⟨fun _ => Or.inl rfl, fun _ => hh.2 (Or.inr (Or.inl (hz3.resolve_left (fun g => y2 g.1)).2))⟩ f23 e3 h3
set_option maxHeartbeats 40000000 in
theorem r_m_prune1 {q : List Int × List Int} (hqo : okr A (F 0) q) : ∀ (rest keep ks1 : rls) (S1 : ai_S) (F1 : Nat → Nat → Int) (x2 x3 : Option Value), fr 432 452 S S1 → eq3 F F1 → qsl (F1 3) (F1 4) (F1 5) 14 q → mkl F1 ks1 → mgg S1 A T D n (keep ++ rest) Vs (ks1.length : Int) sx sc F1 B → keep ++ rest.filter (fun x => !hib A q.1 x.1) = (Rs.filter fun x => !hib A q.1 x.1) → ks1 ++ rest.filter (fun x => hib A q.1 x.1) = (Rs.filter fun x => hib A q.1 x.1) → keep.length + rest.length + ks1.length < 14 → ai_aw L xs (d + 3) ai_m133 (fun (o : ai_O) => ∃ v S', o = (.inl v, S') ∧ v = none ∧ fr 432 452 S S' ∧ ∃ F', eq3 F F' ∧ qsl (F' 3) (F' 4) (F' 5) 14 q ∧ mkl F' (Rs.filter fun x => hib A q.1 x.1) ∧ mgg S' A T D n (Rs.filter fun x => !hib A q.1 x.1) Vs ((Rs.filter fun x => hib A q.1 x.1).length : Int) sx sc F' B) (7, [some (.ref 432), some (ax_i (keep.length : Nat)), x2, x3], [], S1) := by
  intro rest
  induction rest with
  | nil =>
    intro keep ks1 S1 F1 x2 x3 f1 e1 hq hk h1 c1 c2 hlen
    rw [List.append_nil] at h1
    rw [List.filter_nil, List.append_nil] at c1 c2
    have ho := h1.1.1
    refine aw_loc at_133_7 rfl rfl ?_
    refine aw_loc at_133_8 rfl rfl ?_
    refine aw_get at_133_9 rfl fl_12_113 ho rfl ?_
    refine ax_icmp_ge at_133_12 ⟨by omega, by have := h1.2.2.1.2.1; omega⟩ ⟨by omega, by have := h1.2.2.1.2.1; omega⟩ (fun _ => ?_) (fun z => absurd z (by omega))
    show ai_aw L xs (d + 3) ai_m133 _ (100, _, _, _)
    rw [c2] at hk h1
    rw [c1] at h1
    exact aw_vret at_133_100 rfl ⟨_, _, rfl, rfl, f1, F1, e1, hq, hk, h1⟩
  | cons x rest ih =>
    intro keep ks1 S1 F1 x2 x3 f1 e1 hq hk h1 c1 c2 hlen
    have ho := h1.1.1
    have hlr : (keep ++ x :: rest).length = keep.length + (rest.length + 1) := by rw [List.length_append, List.length_cons]
    have hl14 := h1.2.2.1.2.1
    rw [List.length_cons] at hlen
    have hxo : okr A (F1 0) x := h1.2.2.1.2.2 x (List.mem_append.2 (Or.inr (List.mem_cons_self ..)))
    have hqx := h1.2.2.1.1 keep.length (by omega)
    rw [getD_mid] at hqx
    have e10 : F1 0 = F 0 := e1 0 (by decide)
    rw [List.filter_cons] at c1 c2
    refine aw_loc at_133_7 rfl rfl ?_
    refine aw_loc at_133_8 rfl rfl ?_
    refine aw_get at_133_9 rfl fl_12_113 ho rfl ?_
    rw [hlr]
    refine ax_icmp_ge at_133_12 ⟨by omega, by omega⟩ ⟨by omega, by omega⟩ (fun z => absurd z (by omega)) (fun _ => ?_)
    have hm1 := h1.1
    refine aw_loc at_133_15 rfl rfl ?_
    refine aw_loc at_133_16 rfl rfl ?_
    refine aw_cv (a := 432) [ax_i (keep.length : Nat)] [] at_133_17 mt_12_199 (Or.inl rfl) rfl rfl (Nat.le_of_ble_eq_true rfl) ⟨_, ho⟩ ((r_m_getR (d := d + 2) (P := F1 0) hm1 hqx (by omega) h1.2.2.2.2.1 (al_kn (by decide) hxo.1.2.2.1.1) (al_kn (by decide) hxo.1.2.2.1.2)).mono ?_)
    rintro v S2 ⟨rfl, f2, X, Z, h2x, w0, w1, hxX⟩
    obtain ⟨F2, e2, rfl, rfl, h2⟩ : ∃ F2 : Nat → Nat → Int, (∀ i, i ≠ 9 → i ≠ 10 → F2 i = F1 i) ∧ F2 9 = X ∧ F2 10 = Z ∧ mst S2 T D n ((keep ++ x :: rest).length : Int) (Vs.length : Int) (ks1.length : Int) sx sc F2 B := ⟨_, fun i a b => (fup_ne b).trans (fup_ne a), (fup_ne (by decide)).trans (fup_get _ _ _), fup_get _ _ _, h2x⟩
    have m2 : mgg S2 A T D n (keep ++ x :: rest) Vs (ks1.length : Int) sx sc F2 B := mgg_st h1 h2 (fun i hi => e2 i (by omega) (by omega)) hxX (e2 13 (by decide) (by decide))
    have q2 : qsl (F2 3) (F2 4) (F2 5) 14 q := by rw [e2 3 (by decide) (by decide), e2 4 (by decide) (by decide), e2 5 (by decide) (by decide)]; exact hq
    have z2 : F2 0 = F 0 := (e2 0 (by decide) (by decide)).trans e10
    have k2 : mkl F2 ks1 := fun j hj => by rw [e2 6 (by decide) (by decide), e2 7 (by decide) (by decide), e2 8 (by decide) (by decide)]; exact hk j hj
    have e32 : eq3 F F2 := fun i hi => (e2 i (by omega) (by omega)).trans (e1 i hi)
    refine aw_pure (st' := ax_i (0) :: _) at_133_20 rfl rfl ?_
    refine aw_loc at_133_21 rfl rfl ?_
    refine aw_pure (st' := ax_i (0) :: _) at_133_22 rfl rfl ?_
    refine aw_loc at_133_23 rfl rfl ?_
    have hx0 : okr A (F2 0) x := by rw [z2, ← e10]; exact hxo
    refine r_m_prune0 (q := q) (x := x) m2.2.1.1 w0 hxX (al_kn (by decide) hx0.1.2.2.1.1) hx0.1.1.1 hx0.1.2.1.1 q2 (by rw [z2]; exact hqo) ?_ x.1.length 0 0 S2 F2 (by omega) (Or.inl rfl) ⟨fun g => Or.inr g, fun g => g.resolve_left (by omega)⟩ (f1.tr f2) (fun i _ _ => rfl) h2
    intro s9 S3 F3 p hs9 hh f3 e3 h3
    have x13 : F3 13 = F2 13 := e3 13 (by decide) (by decide)
    have m3 : mgg S3 A T D n (keep ++ x :: rest) Vs (ks1.length : Int) sx sc F3 B := mgg_st m2 h3 (fun i hi => e3 i (by omega) (by omega)) (by rw [e3 9 (by decide) (by decide)]; exact hxX) x13
    have q3 : qsl (F3 3) (F3 4) (F3 5) 14 q := by rw [e3 3 (by decide) (by decide), e3 4 (by decide) (by decide), e3 5 (by decide) (by decide)]; exact q2
    have k3 : mkl F3 ks1 := fun j hj => by rw [e3 6 (by decide) (by decide), e3 7 (by decide) (by decide), e3 8 (by decide) (by decide)]; exact k2 j hj
    have e33 : eq3 F F3 := fun i hi => (e3 i (by omega) (by omega)).trans (e32 i hi)
    have z3 : F3 0 = F 0 := e33 0 (by decide)
    have ho := h3.1
    refine aw_loc at_133_61 rfl rfl ?_
    refine ax_if_eq at_133_62 ⟨by omega, by omega⟩ (fun y => ?_) (fun y => ?_)
    · skip
      have hf : ¬ hib A q.1 x.1 = true := fun g => by have := hh.1 g; omega
      rw [if_neg hf] at c2
      rw [if_pos (by rw [eq_false_of_ne_true hf]; rfl)] at c1
      show ai_aw L xs (d + 3) ai_m133 _ (94, _, _, _)
      refine ax_inc at_133_94 rfl rfl rfl ?_
      refine aw_goto at_133_97 ?_
      have := fun y2 y3 => ih (keep ++ [x]) ks1 S3 F3 y2 y3 f3 e33 q3 k3 (by rw [List.append_assoc]; exact m3) (by rw [List.append_assoc]; exact c1) c2 (by rw [List.length_append, List.length_singleton]; omega)
      rw [List.length_append, List.length_singleton, Int.natCast_add] at this
      exact this _ _
    · skip
      have hf : hib A q.1 x.1 = true := hh.2 (by omega)
      rw [if_pos hf] at c2
      rw [if_neg (by rw [hf]; decide)] at c1
      have hx3 : okr A (F3 0) x := by rw [z3, ← e10]; exact hxo
      refine aw_loc at_133_65 rfl rfl ?_
      refine aw_pure (st' := ax_i (48) :: _) at_133_66 rfl rfl ?_
      refine aw_loc at_133_68 rfl rfl ?_
      refine aw_get at_133_69 rfl fl_12_196 ho rfl ?_
      refine ax_add at_133_72 rfl ?_
      rw [show (48 : Int) + (ks1.length : Int) = ((48 + ks1.length : Nat) : Int) by omega]
      refine aw_cv (a := 432) [ax_i ((48 + ks1.length : Nat) : Int)] [] at_133_73 mt_12_168 (Or.inl rfl) rfl rfl (Nat.le_of_ble_eq_true rfl) ⟨_, ho⟩ ((r_m_setP (d := d + 2) (P := F3 0) (l := x.1) (r := x.2) h3 (by rw [e3 9 (by decide) (by decide), e3 10 (by decide) (by decide)]; exact w0) (by rw [e3 9 (by decide) (by decide), e3 10 (by decide) (by decide)]; exact w1) hx3.1.2.1.1 hx3.1.2.1.2 (by omega)).mono ?_)
      rintro v S4 ⟨rfl, f4, F4, h4, e4, s4, t4, x46⟩
      have ho := h4.1
      refine aw_loc at_133_76 rfl rfl ?_
      refine aw_pure at_133_77 rfl rfl ?_
      refine aw_get at_133_78 rfl fl_12_196 ho rfl ?_
      refine aw_pure (st' := ax_i (1) :: _) at_133_81 rfl rfl ?_
      refine ax_add at_133_82 rfl ?_
      refine aw_put at_133_83 rfl fl_12_196 ho (Nat.le_of_ble_eq_true rfl) rfl (by decide +kernel) ?_
      have h5 : mst (ai_wr S4 432 (.inr (11, mf T D n ((keep ++ x :: rest).length : Int) (Vs.length : Int) ((ks1.length : Int) + 1) sx sc))) T D n ((keep ++ x :: rest).length : Int) (Vs.length : Int) ((ks1.length : Int) + 1) sx sc F4 B := mst_fl h4
      have f5 : fr 432 452 S (ai_wr S4 432 (.inr (11, mf T D n ((keep ++ x :: rest).length : Int) (Vs.length : Int) ((ks1.length : Int) + 1) sx sc))) := (f3.tr f4).tr (fr_md (by decide) (by decide))
      show ai_aw L xs (d + 3) ai_m133 _ (86, _, _, (ai_wr S4 432 (.inr (11, mf T D n ((keep ++ x :: rest).length : Int) (Vs.length : Int) ((ks1.length : Int) + 1) sx sc))))
      generalize (ai_wr S4 432 (.inr (11, mf T D n ((keep ++ x :: rest).length : Int) (Vs.length : Int) ((ks1.length : Int) + 1) sx sc))) = S5 at h5 f5 ⊢
      have ho := h5.1
      refine aw_loc at_133_86 rfl rfl ?_
      refine aw_loc at_133_87 rfl rfl ?_
      refine aw_cv (a := 432) [ax_i (keep.length : Nat)] [] at_133_88 mt_12_202 (Or.inl rfl) rfl rfl (Nat.le_of_ble_eq_true rfl) ⟨_, ho⟩ ((r_m_dropR (d := d + 2) (k := keep.length) (c := keep.length + rest.length) h5 (by rw [hlr]; omega) (by omega) (by omega)).mono ?_)
      rintro v S6 ⟨rfl, f6, F6, h6, e6, t6⟩
      refine aw_goto at_133_91 ?_
      refine aw_goto at_133_97 ?_
      have e36 : eq3 F F6 := fun i hi => ((e6 i (by omega) (by omega) (by omega)).trans (e4 i (by omega) (by omega) (by omega))).trans (e33 i hi)
      have z60 : F6 0 = F3 0 := (e6 0 (by decide) (by decide) (by decide)).trans (e4 0 (by decide) (by decide) (by decide))
      have z66 : F6 6 = F4 6 := e6 6 (by decide) (by decide) (by decide)
      have z67 : F6 7 = F4 7 := e6 7 (by decide) (by decide) (by decide)
      have z68 : F6 8 = F4 8 := e6 8 (by decide) (by decide) (by decide)
      have z69 : F6 9 = F4 9 := e6 9 (by decide) (by decide) (by decide)
      have z613 : F6 13 = F4 13 := e6 13 (by decide) (by decide) (by decide)
      have z43 : F4 3 = F3 3 := e4 3 (by decide) (by decide) (by decide)
      have z44 : F4 4 = F3 4 := e4 4 (by decide) (by decide) (by decide)
      have z45 : F4 5 = F3 5 := e4 5 (by decide) (by decide) (by decide)
      have z49 : F4 9 = F3 9 := e4 9 (by decide) (by decide) (by decide)
      have z413 : F4 13 = F3 13 := e4 13 (by decide) (by decide) (by decide)
      have hl9 : (keep ++ rest).length = keep.length + rest.length := List.length_append
      have hkl : (ks1 ++ [x]).length = ks1.length + 1 := by rw [List.length_append, List.length_singleton]
      have m6 : mgg S6 A T D n (keep ++ rest) Vs ((ks1 ++ [x]).length : Int) sx sc F6 B := by
        refine ⟨by rw [hl9, hkl, Int.natCast_add ks1.length]; exact h6, ⟨by unfold mpk; rw [z60]; exact m3.2.1.1, m3.2.1.2⟩, ⟨fun j hj => ?_, by omega, fun q hq9 => by rw [z60]; exact m3.2.2.1.2.2 q (by rcases List.mem_append.1 hq9 with g | g; exact List.mem_append.2 (Or.inl g); exact List.mem_append.2 (Or.inr (List.mem_cons_of_mem _ g)))⟩, ⟨fun j hj => ?_, m3.2.2.2.1.2.1, by rw [z60]; exact m3.2.2.2.1.2.2⟩, by rw [z69, z49]; exact m3.2.2.2.2.1, by rw [z66]; exact x46 m3.2.2.2.2.2.1 (al_kn (by decide) hx3.1.2.2.1.1) (al_kn (by decide) hx3.1.2.2.1.2), by rw [z613, z413]; exact m3.2.2.2.2.2.2⟩
        · have hs9 : keep ++ rest = (keep ++ x :: rest).eraseIdx keep.length := (erase_mid _ _ _).symm
          rw [hs9, erase_get]
          refine t6 j _ ?_
          rw [z43, z44, z45]
          by_cases hjk : j < keep.length
          · rw [if_pos hjk]; exact Or.inr ⟨Or.inl hjk, m3.2.2.1.1 j (by omega)⟩
          · rw [if_neg hjk]; exact Or.inl ⟨by omega, by omega, m3.2.2.1.1 (j + 1) (by omega)⟩
        · rw [z66, z67, z68]
          exact t4 j _ (by have := m3.2.2.2.1.2.1; omega) (m3.2.2.2.1.1 j hj)
      refine ih keep (ks1 ++ [x]) S6 F6 _ _ (f5.tr f6) e36 (t6 14 q (Or.inr ⟨Or.inr (by omega), by rw [z43, z44, z45]; exact q3⟩)) (fun j hj => ?_) m6 c1 (by rw [List.append_assoc]; exact c2) (by rw [hkl]; omega)
      rw [hkl] at hj
      rw [z66, z67, z68, snoc_get hj]
      by_cases hjk : j = ks1.length
      · rw [if_pos hjk, hjk]; exact s4
      · rw [if_neg hjk]; exact t4 _ _ (by omega) (k3 j (by omega))
set_option maxHeartbeats 4000000 in
theorem r_m_prune {q : List Int × List Int} (h : mgg S A T D n Rs Vs kp sx sc F B) (hqo : okr A (F 0) q) (hq : qsl (F 3) (F 4) (F 5) 14 q) (hlR : Rs.length < 14) : ai_rn L xs (d + 4) 133 [.ref 432] S (fun v S' => v = none ∧ fr 432 452 S S' ∧ ∃ F', eq3 F F' ∧ qsl (F' 3) (F' 4) (F' 5) 14 q ∧ mkl F' (Rs.filter fun x => hib A q.1 x.1) ∧ mgg S' A T D n (Rs.filter fun x => !hib A q.1 x.1) Vs ((Rs.filter fun x => hib A q.1 x.1).length : Int) sx sc F' B) := by
  have ho := h.1.1
  refine ai_rn_of (M := ai_m133) rfl (by decide) (Nat.le_of_ble_eq_true rfl) ?_
  refine aw_loc at_133_0 rfl rfl ?_
  refine aw_pure (st' := ax_i (0) :: _) at_133_1 rfl rfl ?_
  refine aw_put at_133_2 rfl fl_12_196 ho (Nat.le_of_ble_eq_true rfl) rfl (by decide +kernel) ?_
  have h2 := mgg_st h (mst_fl (T' := T) (D' := D) (n' := n) (rc' := (Rs.length : Int)) (wt' := (Vs.length : Int)) (kp' := 0) (sx' := sx) (sc' := sc) h.1) (fun i _ => rfl) h.2.2.2.2.1 rfl
  refine aw_pure (st' := ax_i (0) :: _) at_133_5 rfl rfl ?_
  refine aw_loc at_133_6 rfl rfl ?_
  exact r_m_prune1 hqo Rs [] [] _ F _ _ (fr_md (by decide) (by decide)) (fun i _ => rfl) hq (fun j hj => absurd hj (Nat.not_lt_zero _)) h2 rfl rfl (by show 0 + Rs.length + 0 < 14; omega)
set_option maxHeartbeats 40000000 in
theorem r_m_red1 {res : rls × Bool} : ∀ (m k : Nat) (S1 : ai_S) (F1 : Nat → Nat → Int) (R1 : rls) (x2 : Option Value), k + m + 1 = R1.length → R1.length = Rs.length → fr 432 452 S S1 → eq3 F F1 → kpt F F1 → mgg S1 A T D n R1 Vs kp 0 sc F1 B → stl A k m R1 = res → ai_aw L xs (d + 5) ai_m136 (fun (o : ai_O) => ∃ v S', o = (.inl v, S') ∧ v = none ∧ fr 432 452 S S' ∧ ∃ F', eq3 F F' ∧ kpt F F' ∧ mgg S' A T D n res.1 Vs kp (if res.2 = true then 0 else 3) sc F' B) (2, [some (.ref 432), some (ax_i (k : Nat)), x2], [], S1) := by
  have kfull : ∀ (S1 : ai_S) (F1 : Nat → Nat → Int) (R1 : rls) (k : Nat) (x2 : Option Value), k ≤ 15 → fr 432 452 S S1 → eq3 F F1 → kpt F F1 → mgg S1 A T D n R1 Vs kp 3 sc F1 B → res = (R1, false) → ai_aw L xs (d + 5) ai_m136 (fun (o : ai_O) => ∃ v S', o = (.inl v, S') ∧ v = none ∧ fr 432 452 S S' ∧ ∃ F', eq3 F F' ∧ kpt F F' ∧ mgg S' A T D n res.1 Vs kp (if res.2 = true then 0 else 3) sc F' B) (2, [some (.ref 432), some (ax_i (k : Nat)), x2], [], S1) := by
    intro S1 F1 R1 k x2 hk f1 e1 k1 h1 hres
    have hl := h1.2.2.1.2.1
    have ho := h1.1.1
    have ko : ai_aw L xs (d + 5) ai_m136 (fun (o : ai_O) => ∃ v S', o = (.inl v, S') ∧ v = none ∧ fr 432 452 S S' ∧ ∃ F', eq3 F F' ∧ kpt F F' ∧ mgg S' A T D n res.1 Vs kp (if res.2 = true then 0 else 3) sc F' B) (56, [some (.ref 432), some (ax_i (k : Nat)), x2], [], S1) := aw_vret at_136_56 rfl ⟨_, _, rfl, rfl, f1, F1, e1, k1, by rw [hres]; exact h1⟩
    refine aw_loc at_136_2 rfl rfl ?_
    refine aw_pure (st' := ax_i (1) :: _) at_136_3 rfl rfl ?_
    refine ax_add at_136_4 rfl ?_
    refine aw_loc at_136_5 rfl rfl ?_
    refine aw_get at_136_6 rfl fl_12_113 ho rfl ?_
    refine ax_icmp_ge at_136_9 ⟨by omega, by omega⟩ ⟨by omega, by omega⟩ (fun _ => ko) (fun _ => ?_)
    refine aw_loc at_136_12 rfl rfl ?_
    refine aw_get at_136_13 rfl fl_12_150 ho rfl ?_
    refine ax_if_ne at_136_16 ⟨by decide, by decide⟩ (fun _ => ko) (fun z => absurd z (by decide))
  intro m
  induction m with
  | zero =>
    intro k S1 F1 R1 x2 hk hrl f1 e1 k1 h1 hres
    have hl := h1.2.2.1.2.1
    have ho := h1.1.1
    refine aw_loc at_136_2 rfl rfl ?_
    refine aw_pure (st' := ax_i (1) :: _) at_136_3 rfl rfl ?_
    refine ax_add at_136_4 rfl ?_
    refine aw_loc at_136_5 rfl rfl ?_
    refine aw_get at_136_6 rfl fl_12_113 ho rfl ?_
    refine ax_icmp_ge at_136_9 ⟨by omega, by omega⟩ ⟨by omega, by omega⟩ (fun _ => ?_) (fun z => absurd z (by omega))
    show ai_aw L xs (d + 5) ai_m136 _ (56, _, _, _)
    exact aw_vret at_136_56 rfl ⟨_, _, rfl, rfl, f1, F1, e1, k1, by rw [← hres]; exact h1⟩
  | succ m ih =>
    intro k S1 F1 R1 x2 hk hrl f1 e1 k1 h1 hres
    have hl := h1.2.2.1.2.1
    have ho := h1.1.1
    have hqx := h1.2.2.1.1 k (by omega)
    have hxo := h1.2.2.1.2.2 _ (ind_mem (show k < R1.length by omega))
    have hst : stl A k (m + 1) R1 = (match nf A R1 40 (R1.getD k q_no).2 with | none => (R1, false) | some w => stl A (k + 1) m (R1.set k ((R1.getD k q_no).1, w.1))) := rfl
    rw [hres] at hst
    generalize hx9 : R1.getD k q_no = x at hqx hxo hst
    refine aw_loc at_136_2 rfl rfl ?_
    refine aw_pure (st' := ax_i (1) :: _) at_136_3 rfl rfl ?_
    refine ax_add at_136_4 rfl ?_
    refine aw_loc at_136_5 rfl rfl ?_
    refine aw_get at_136_6 rfl fl_12_113 ho rfl ?_
    refine ax_icmp_ge at_136_9 ⟨by omega, by omega⟩ ⟨by omega, by omega⟩ (fun z => absurd z (by omega)) (fun _ => ?_)
    refine aw_loc at_136_12 rfl rfl ?_
    refine aw_get at_136_13 rfl fl_12_150 ho rfl ?_
    refine ax_if_ne at_136_16 ⟨by decide, by decide⟩ (fun z => absurd rfl z) (fun _ => ?_)
    refine aw_loc at_136_19 rfl rfl ?_
    refine aw_loc at_136_20 rfl rfl ?_
    refine aw_cv (a := 432) [ax_i (k : Nat)] [] at_136_21 mt_12_199 (Or.inl rfl) rfl rfl (Nat.le_of_ble_eq_true rfl) ⟨_, ho⟩ ((r_m_getR (d := d + 4) (P := F1 0) h1.1 hqx (by omega) h1.2.2.2.2.1 (al_kn (by decide) hxo.1.2.2.1.1) (al_kn (by decide) hxo.1.2.2.1.2)).mono ?_)
    rintro v S2 ⟨rfl, f2, X, Z, h2x, w0, w1, hxX⟩
    obtain ⟨F2, e2, rfl, rfl, h2⟩ : ∃ F2 : Nat → Nat → Int, (∀ i, i ≠ 9 → i ≠ 10 → F2 i = F1 i) ∧ F2 9 = X ∧ F2 10 = Z ∧ mst S2 T D n (R1.length : Int) (Vs.length : Int) kp 0 sc F2 B := ⟨_, fun i a b => (fup_ne b).trans (fup_ne a), (fup_ne (by decide)).trans (fup_get _ _ _), fup_get _ _ _, h2x⟩
    have m2 : mgg S2 A T D n R1 Vs kp 0 sc F2 B := mgg_st h1 h2 (fun i hi => e2 i (by omega) (by omega)) hxX (e2 13 (by decide) (by decide))
    have z2 : F2 0 = F1 0 := e2 0 (by decide) (by decide)
    have ho := h2.1
    have hA := m2.2.1.1.2.2
    refine aw_loc at_136_24 rfl rfl ?_
    refine aw_pure (st' := ax_i (1) :: _) at_136_25 rfl rfl ?_
    refine aw_cv (a := 432) [ax_i ((1 : Nat) : Int)] [] at_136_26 mt_12_147 (Or.inl rfl) rfl rfl (Nat.le_of_ble_eq_true rfl) ⟨_, ho⟩ ((r_m_norm (d := d) (t := 1) h2 m2.2.1.1 (by decide) rfl m2.2.2.1.2.1 m2.2.2.1.1 m2.2.2.1.2.2 hxX (mwd_mwl w1) (by rw [z2]; exact al_kn (by decide) hxo.1.2.2.1.2) hxo.1.1.2).mono ?_)
    rintro v S3 ⟨f3, F3, h3, e3, xr3, o3, z, rfl, hz⟩
    have ho := h3.1
    have e39 : ∀ i, i < 9 → F3 i = F2 i := fun i hi => e3 i (by omega) (by omega) (by omega) (by omega)
    have e93 : ∀ i, i < 9 → F3 i = F1 i := fun i hi => (e39 i hi).trans (e2 i (by omega) (by omega))
    have f13 := (f1.tr f2).tr f3
    have eq33 : eq3 F F3 := fun i hi => (e93 i (by omega)).trans (e1 i hi)
    have kp3 : kpt F F3 := k1.tr (kpt.eq e93)
    have x13 : F3 13 = F2 13 := e3 13 (by decide) (by decide) (by decide) (by decide)
    rcases hz with ⟨n1, hz1, -⟩ | ⟨y, n1, hz1, wy⟩
    · skip
      rw [n1] at hst
      refine ax_if_ge at_136_29 ⟨by omega, by omega⟩ (fun z9 => absurd z9 (by omega)) (fun _ => ?_)
      refine aw_loc at_136_32 rfl rfl ?_
      refine aw_pure (st' := ax_i (3) :: _) at_136_33 rfl rfl ?_
      refine aw_put at_136_34 rfl fl_12_150 ho (Nat.le_of_ble_eq_true rfl) rfl (by decide +kernel) ?_
      have m4 := mgg_st m2 (mst_fl (T' := T) (D' := D) (n' := n) (rc' := (R1.length : Int)) (wt' := (Vs.length : Int)) (kp' := kp) (sx' := 3) (sc' := sc) h3) e39 xr3 x13
      refine aw_goto at_136_37 ?_
      refine ax_inc at_136_50 rfl rfl rfl ?_
      refine aw_goto at_136_53 ?_
      rw [show (k : Int) + 1 = ((k + 1 : Nat) : Int) by omega]
      exact kfull _ F3 R1 (k + 1) _ (by omega) (f13.tr (fr_md (by decide) (by decide))) eq33 kp3 m4 hst
    · skip
      rw [n1] at hst
      have hst2 : res = stl A (k + 1) m (R1.set k (x.1, y.1)) := hst
      have ly := nf_le hA (Rs := R1) 40 x.2 n1
      have ky := nf_kn hA m2.2.2.1.2.2 hxo.1.1.2 (by rw [z2]; exact hxo.1.2.2.1.2) (show nf A R1 40 x.2 = some (y.1, y.2) from n1)
      refine ax_if_ge at_136_29 ⟨by omega, by omega⟩ (fun _ => ?_) (fun z9 => absurd z9 (by omega))
      show ai_aw L xs (d + 5) ai_m136 _ (40, _, _, _)
      have z3 : F3 0 = F2 0 := e39 0 (by decide)
      have w03 := (o3 0 (by decide) (by decide)).2 _ w0
      refine aw_loc at_136_40 rfl rfl ?_
      refine aw_cv (a := 432) [] [] at_136_41 mt_12_157 (Or.inl rfl) rfl rfl (Nat.le_of_ble_eq_true rfl) ⟨_, ho⟩ ((r_m_ren (d := d + 4) h3 w03 wy hxo.1.2.1.1 (by omega) (by rw [z3, z2]; exact al_kn (by decide) hxo.1.2.2.1.1) (by rw [z3]; exact al_kn (by decide) ky.2.1) xr3).mono ?_)
      rintro v S4 ⟨f4, rfl, X4, NA, h4x, w04, w14, hxX4⟩
      have hstl := stl_okr (P := F1 0) hA 1 k R1 (by omega) h1.2.2.1.2.2
      have hs1 : stl A k 1 R1 = (R1.set k (x.1, y.1), true) := by
        show (match nf A R1 40 (R1.getD k q_no).2 with | none => (R1, false) | some w => stl A (k + 1) 0 (R1.set k ((R1.getD k q_no).1, w.1))) = _
        rw [hx9, n1]
        rfl
      rw [hs1] at hstl
      have hnew : okr A (F1 0) (x.1, y.1) := hstl.1 _ (by have := ind_mem (Rs := R1.set k (x.1, y.1)) (k := k) (by rw [List.length_set]; omega); rw [set_get2 (by omega), if_pos rfl] at this; exact this)
      have hrn : rnp x.1 y.1 = (x.1, y.1) := hnew.1.2.2.2
      rw [hrn] at w04 w14
      obtain ⟨F4, e4, rfl, t4, h4⟩ : ∃ F4 : Nat → Nat → Int, (∀ i, i ≠ 9 → i ≠ 17 → F4 i = F3 i) ∧ F4 9 = X4 ∧ F4 10 = F3 10 ∧ mst S4 T D n (R1.length : Int) (Vs.length : Int) kp 0 sc F4 B := ⟨_, fun i a b => (fup_ne b).trans (fup_ne a), (fup_ne (by decide)).trans (fup_get _ _ _), (fup_ne (by decide)).trans (fup_ne (by decide)), h4x⟩
      rw [← t4] at w04 w14
      have ho := h4.1
      refine aw_loc at_136_44 rfl rfl ?_
      refine aw_loc at_136_45 rfl rfl ?_
      refine aw_loc at_136_46 rfl rfl ?_
      refine aw_cv (a := 432) [ax_i (k : Nat)] [] at_136_47 mt_12_205 (Or.inl rfl) rfl rfl (Nat.le_of_ble_eq_true rfl) ⟨_, ho⟩ ((r_m_setR (d := d + 4) (P := F1 0) (k := k) h4 w04 w14 hnew.1.2.1.1 hnew.1.2.1.2 (by omega)).mono ?_)
      rintro v S5 ⟨rfl, f5, F5, h5, e5, s5, t5, -⟩
      have e94 : ∀ i, i < 9 → F4 i = F1 i := fun i hi => (e4 i (by omega) (by omega)).trans (e93 i hi)
      refine ax_inc at_136_50 rfl rfl rfl ?_
      refine aw_goto at_136_53 ?_
      rw [show (k : Int) + 1 = ((k + 1 : Nat) : Int) by omega]
      have z50 : F5 0 = F1 0 := (e5 0 (by decide) (by decide) (by decide)).trans (e94 0 (by decide))
      have z56 : F5 6 = F1 6 := (e5 6 (by decide) (by decide) (by decide)).trans (e94 6 (by decide))
      have z57 : F5 7 = F1 7 := (e5 7 (by decide) (by decide) (by decide)).trans (e94 7 (by decide))
      have z58 : F5 8 = F1 8 := (e5 8 (by decide) (by decide) (by decide)).trans (e94 8 (by decide))
      have z59 : F5 9 = F4 9 := e5 9 (by decide) (by decide) (by decide)
      have z513 : F5 13 = F2 13 := ((e5 13 (by decide) (by decide) (by decide)).trans (e4 13 (by decide) (by decide))).trans x13
      refine ih (k + 1) S5 F5 (R1.set k (x.1, y.1)) _ (by rw [List.length_set]; omega) (by rw [List.length_set]; exact hrl) ((f13.tr f4).tr f5) (fun i hi => ((e5 i (by omega) (by omega) (by omega)).trans (e94 i (by omega))).trans (e1 i hi)) (k1.tr (fun j q _ hq => by rw [z56, z57, z58]; exact hq)) ⟨by rw [List.length_set]; exact h5, ⟨by unfold mpk; rw [z50]; exact h1.2.1.1, h1.2.1.2⟩, ⟨fun j hj => ?_, by rw [List.length_set]; exact hl, by rw [z50]; exact hstl.1⟩, ⟨fun j hj => by rw [z56, z57, z58]; exact h1.2.2.2.1.1 j hj, h1.2.2.2.1.2.1, by rw [z50]; exact h1.2.2.2.1.2.2⟩, by rw [z59]; exact hxX4, by rw [z56]; exact h1.2.2.2.2.2.1, by rw [z513]; exact m2.2.2.2.2.2.2⟩ hst2.symm
      rw [List.length_set] at hj
      rw [set_get2 (by omega)]
      by_cases hjk : j = k
      · rw [if_pos hjk, hjk]; exact s5
      · rw [if_neg hjk]; exact t5 j _ hjk (by rw [e94 3 (by decide), e94 4 (by decide), e94 5 (by decide)]; exact h1.2.2.1.1 j hj)
set_option maxHeartbeats 4000000 in
theorem r_m_red (h : mgg S A T D n Rs Vs kp 0 sc F B) (h0 : 0 < Rs.length) : ai_rn L xs (d + 6) 136 [.ref 432] S (fun v S' => v = none ∧ fr 432 452 S S' ∧ ∃ F', eq3 F F' ∧ kpt F F' ∧ mgg S' A T D n (stl A 0 (Rs.length - 1) Rs).1 Vs kp (if (stl A 0 (Rs.length - 1) Rs).2 = true then 0 else 3) sc F' B) := by
  refine ai_rn_of (M := ai_m136) rfl (by decide) (Nat.le_of_ble_eq_true rfl) ?_
  refine aw_pure (st' := ax_i (0) :: _) at_136_0 rfl rfl ?_
  refine aw_loc at_136_1 rfl rfl ?_
  exact r_m_red1 (Rs := Rs) (Rs.length - 1) 0 S F Rs _ (by omega) rfl fr.rf (fun i _ => rfl) (kpt.rf _) h rfl
end MP

/-! The reference: two rules are laid. -/
section MY
variable {L : Nat} {xs : Nat → Int32} {d : Nat} {S S' : ai_S} {T D n rc wt kp sx sc : Int} {F : Nat → Nat → Int} {B : Nat → Int} {P : Nat → Int} {A : Int → Nat}
/-- a code of the other rule -/
def ot6 (c : Int) : Int := if c < 8 then c else c + 6
theorem ot6_co {c : Int} (h : kn P 123 c) : ot6 (co c) = co (sw c) ∧ kn P 129 (sw c) := by
  have h1 := kn_lt h
  by_cases hc : c < 117
  · have e : sw c = c := if_pos hc
    rw [e]
    refine ⟨?_, kn_mono (by decide) h⟩
    unfold ot6 co
    rw [if_pos hc, if_pos (by omega)]
  · have e : sw c = c + 6 := by unfold sw; rw [if_neg hc, if_pos (by omega)]
    rw [e]
    refine ⟨?_, kn_var (by omega) (by omega)⟩
    unfold ot6 co
    rw [if_neg hc, if_neg (by omega), if_neg (by omega)]
    omega
theorem al_sw {w : List Int} (h : al (kn P 123) w) : al (kn P 129) (w.map sw) := by
  intro c hc
  obtain ⟨x, hx, rfl⟩ := List.mem_map.1 hc
  exact (ot6_co (h x hx)).2
/-- what is laid -/
def mly (C : Nat → Int) (l v : List Int × List Int) : Prop := cw C 0 l.1 ∧ cw C 96 l.2 ∧ cw C 32 v.1 ∧ cw C 64 v.2
theorem at_141_0 : ai_at ai_m141 0 = some (.iconst 0, 1) := rfl
theorem at_141_1 : ai_at ai_m141 1 = some (.istore_n 3, 1) := rfl
theorem at_141_2 : ai_at ai_m141 2 = some (.iload_n 3, 1) := rfl
theorem at_141_3 : ai_at ai_m141 3 = some (.aload_n 0, 1) := rfl
theorem at_141_4 : ai_at ai_m141 4 = some (.getfield 22, 3) := rfl
theorem at_141_7 : ai_at ai_m141 7 = some (.iload_n 2, 1) := rfl
theorem at_141_8 : ai_at ai_m141 8 = some (.iaload, 1) := rfl
theorem at_141_9 : ai_at ai_m141 9 = some (.if_icmp .ge 28, 3) := rfl
theorem at_141_12 : ai_at ai_m141 12 = some (.aload_n 0, 1) := rfl
theorem at_141_13 : ai_at ai_m141 13 = some (.getfield 49, 3) := rfl
theorem at_141_16 : ai_at ai_m141 16 = some (.iconst 0, 1) := rfl
theorem at_141_17 : ai_at ai_m141 17 = some (.iload_n 3, 1) := rfl
theorem at_141_18 : ai_at ai_m141 18 = some (.iadd, 1) := rfl
theorem at_141_19 : ai_at ai_m141 19 = some (.aload_n 0, 1) := rfl
theorem at_141_20 : ai_at ai_m141 20 = some (.getfield 19, 3) := rfl
theorem at_141_23 : ai_at ai_m141 23 = some (.bipush 48, 2) := rfl
theorem at_141_25 : ai_at ai_m141 25 = some (.iload_n 2, 1) := rfl
theorem at_141_26 : ai_at ai_m141 26 = some (.imul, 1) := rfl
theorem at_141_27 : ai_at ai_m141 27 = some (.iload_n 3, 1) := rfl
theorem at_141_28 : ai_at ai_m141 28 = some (.iadd, 1) := rfl
theorem at_141_29 : ai_at ai_m141 29 = some (.iaload, 1) := rfl
theorem at_141_30 : ai_at ai_m141 30 = some (.iastore, 1) := rfl
theorem at_141_31 : ai_at ai_m141 31 = some (.iinc 3 1, 3) := rfl
theorem at_141_34 : ai_at ai_m141 34 = some (.goto (-32), 3) := rfl
theorem at_141_37 : ai_at ai_m141 37 = some (.iconst 0, 1) := rfl
theorem at_141_38 : ai_at ai_m141 38 = some (.istore_n 3, 1) := rfl
theorem at_141_39 : ai_at ai_m141 39 = some (.iload_n 3, 1) := rfl
theorem at_141_40 : ai_at ai_m141 40 = some (.aload_n 0, 1) := rfl
theorem at_141_41 : ai_at ai_m141 41 = some (.getfield 25, 3) := rfl
theorem at_141_44 : ai_at ai_m141 44 = some (.iload_n 2, 1) := rfl
theorem at_141_45 : ai_at ai_m141 45 = some (.iaload, 1) := rfl
theorem at_141_46 : ai_at ai_m141 46 = some (.if_icmp .ge 32, 3) := rfl
theorem at_141_49 : ai_at ai_m141 49 = some (.aload_n 0, 1) := rfl
theorem at_141_50 : ai_at ai_m141 50 = some (.getfield 49, 3) := rfl
theorem at_141_53 : ai_at ai_m141 53 = some (.bipush 96, 2) := rfl
theorem at_141_55 : ai_at ai_m141 55 = some (.iload_n 3, 1) := rfl
theorem at_141_56 : ai_at ai_m141 56 = some (.iadd, 1) := rfl
theorem at_141_57 : ai_at ai_m141 57 = some (.aload_n 0, 1) := rfl
theorem at_141_58 : ai_at ai_m141 58 = some (.getfield 19, 3) := rfl
theorem at_141_61 : ai_at ai_m141 61 = some (.bipush 48, 2) := rfl
theorem at_141_63 : ai_at ai_m141 63 = some (.iload_n 2, 1) := rfl
theorem at_141_64 : ai_at ai_m141 64 = some (.imul, 1) := rfl
theorem at_141_65 : ai_at ai_m141 65 = some (.bipush 24, 2) := rfl
theorem at_141_67 : ai_at ai_m141 67 = some (.iadd, 1) := rfl
theorem at_141_68 : ai_at ai_m141 68 = some (.iload_n 3, 1) := rfl
theorem at_141_69 : ai_at ai_m141 69 = some (.iadd, 1) := rfl
theorem at_141_70 : ai_at ai_m141 70 = some (.iaload, 1) := rfl
theorem at_141_71 : ai_at ai_m141 71 = some (.iastore, 1) := rfl
theorem at_141_72 : ai_at ai_m141 72 = some (.iinc 3 1, 3) := rfl
theorem at_141_75 : ai_at ai_m141 75 = some (.goto (-36), 3) := rfl
theorem at_141_78 : ai_at ai_m141 78 = some (.iconst 0, 1) := rfl
theorem at_141_79 : ai_at ai_m141 79 = some (.istore_n 3, 1) := rfl
theorem at_141_80 : ai_at ai_m141 80 = some (.iload_n 3, 1) := rfl
theorem at_141_81 : ai_at ai_m141 81 = some (.aload_n 0, 1) := rfl
theorem at_141_82 : ai_at ai_m141 82 = some (.getfield 22, 3) := rfl
theorem at_141_85 : ai_at ai_m141 85 = some (.iload_n 1, 1) := rfl
theorem at_141_86 : ai_at ai_m141 86 = some (.iaload, 1) := rfl
theorem at_141_87 : ai_at ai_m141 87 = some (.if_icmp .ge 32, 3) := rfl
theorem at_141_90 : ai_at ai_m141 90 = some (.aload_n 0, 1) := rfl
theorem at_141_91 : ai_at ai_m141 91 = some (.getfield 49, 3) := rfl
theorem at_141_94 : ai_at ai_m141 94 = some (.bipush 32, 2) := rfl
theorem at_141_96 : ai_at ai_m141 96 = some (.iload_n 3, 1) := rfl
theorem at_141_97 : ai_at ai_m141 97 = some (.iadd, 1) := rfl
theorem at_141_98 : ai_at ai_m141 98 = some (.aload_n 0, 1) := rfl
theorem at_141_99 : ai_at ai_m141 99 = some (.getfield 19, 3) := rfl
theorem at_141_102 : ai_at ai_m141 102 = some (.bipush 48, 2) := rfl
theorem at_141_104 : ai_at ai_m141 104 = some (.iload_n 1, 1) := rfl
theorem at_141_105 : ai_at ai_m141 105 = some (.imul, 1) := rfl
theorem at_141_106 : ai_at ai_m141 106 = some (.iload_n 3, 1) := rfl
theorem at_141_107 : ai_at ai_m141 107 = some (.iadd, 1) := rfl
theorem at_141_108 : ai_at ai_m141 108 = some (.iaload, 1) := rfl
theorem at_141_109 : ai_at ai_m141 109 = some (.invokestatic 172, 3) := rfl
theorem at_141_112 : ai_at ai_m141 112 = some (.iastore, 1) := rfl
theorem at_141_113 : ai_at ai_m141 113 = some (.iinc 3 1, 3) := rfl
theorem at_141_116 : ai_at ai_m141 116 = some (.goto (-36), 3) := rfl
theorem at_141_119 : ai_at ai_m141 119 = some (.iconst 0, 1) := rfl
theorem at_141_120 : ai_at ai_m141 120 = some (.istore_n 3, 1) := rfl
theorem at_141_121 : ai_at ai_m141 121 = some (.iload_n 3, 1) := rfl
theorem at_141_122 : ai_at ai_m141 122 = some (.aload_n 0, 1) := rfl
theorem at_141_123 : ai_at ai_m141 123 = some (.getfield 25, 3) := rfl
theorem at_141_126 : ai_at ai_m141 126 = some (.iload_n 1, 1) := rfl
theorem at_141_127 : ai_at ai_m141 127 = some (.iaload, 1) := rfl
theorem at_141_128 : ai_at ai_m141 128 = some (.if_icmp .ge 35, 3) := rfl
theorem at_141_131 : ai_at ai_m141 131 = some (.aload_n 0, 1) := rfl
theorem at_141_132 : ai_at ai_m141 132 = some (.getfield 49, 3) := rfl
theorem at_141_135 : ai_at ai_m141 135 = some (.bipush 64, 2) := rfl
theorem at_141_137 : ai_at ai_m141 137 = some (.iload_n 3, 1) := rfl
theorem at_141_138 : ai_at ai_m141 138 = some (.iadd, 1) := rfl
theorem at_141_139 : ai_at ai_m141 139 = some (.aload_n 0, 1) := rfl
theorem at_141_140 : ai_at ai_m141 140 = some (.getfield 19, 3) := rfl
theorem at_141_143 : ai_at ai_m141 143 = some (.bipush 48, 2) := rfl
theorem at_141_145 : ai_at ai_m141 145 = some (.iload_n 1, 1) := rfl
theorem at_141_146 : ai_at ai_m141 146 = some (.imul, 1) := rfl
theorem at_141_147 : ai_at ai_m141 147 = some (.bipush 24, 2) := rfl
theorem at_141_149 : ai_at ai_m141 149 = some (.iadd, 1) := rfl
theorem at_141_150 : ai_at ai_m141 150 = some (.iload_n 3, 1) := rfl
theorem at_141_151 : ai_at ai_m141 151 = some (.iadd, 1) := rfl
theorem at_141_152 : ai_at ai_m141 152 = some (.iaload, 1) := rfl
theorem at_141_153 : ai_at ai_m141 153 = some (.invokestatic 172, 3) := rfl
theorem at_141_156 : ai_at ai_m141 156 = some (.iastore, 1) := rfl
theorem at_141_157 : ai_at ai_m141 157 = some (.iinc 3 1, 3) := rfl
theorem at_141_160 : ai_at ai_m141 160 = some (.goto (-39), 3) := rfl
theorem at_141_163 : ai_at ai_m141 163 = some (.return_, 1) := rfl
theorem mt_12_172 : ai_mth 12 172 = some (2, 142, 1, 11) := by decide +kernel
set_option maxHeartbeats 4000000 in
theorem r_m_lay1 {a b : Nat} {u l : List Int × List Int} {C : Nat → Int} {Q : ai_O → Prop} (hqa : qsl (F 3) (F 4) (F 5) a u) (hqb : qsl (F 3) (F 4) (F 5) b l) (ha : a < 15) (hb : b < 15) (ku : al (kn (F 0) 123) u.1 ∧ al (kn (F 0) 123) u.2) (kl : al (kn (F 0) 123) l.1 ∧ al (kn (F 0) 123) l.2) : ∀ (m j : Nat) (S1 : ai_S), j + m = l.1.length → fr 432 452 S S1 → mst S1 T D n rc wt kp sx sc (fup F 13 (ow C 0 (fun i => F 3 (48 * b + i)) j)) B → (∀ S2, fr 432 452 S S2 → mst S2 T D n rc wt kp sx sc (fup F 13 (ow C 0 (fun i => F 3 (48 * b + i)) l.1.length)) B → ai_aw L xs (d + 1) ai_m141 Q (37, [some (.ref 432), some (ax_i (a : Nat)), some (ax_i (b : Nat)), some (ax_i (l.1.length : Nat))], [], S2)) → ai_aw L xs (d + 1) ai_m141 Q (2, [some (.ref 432), some (ax_i (a : Nat)), some (ax_i (b : Nat)), some (ax_i (j : Nat))], [], S1) := by
  have hlen : F 4 b = (l.1.length : Int) := hqb.1.1
  have hl24 := hqb.2.1.1
  have hcw := hqb.2.2.1
  intro m
  induction m with
  | zero =>
    intro j S1 hj f1 h1 kk
    have ho := h1.1
    have r3 : ai_arr S1 436 0 = some (720, ax_f ((fup F 13 (ow C 0 (fun i => F 3 (48 * b + i)) j)) 3)) := h1.2.1 3 (by decide)
    rw [show (fup F 13 (ow C 0 (fun i => F 3 (48 * b + i)) j)) 3 = F 3 from fup_ne (by decide)] at r3
    have r4 : ai_arr S1 437 0 = some (15, ax_f ((fup F 13 (ow C 0 (fun i => F 3 (48 * b + i)) j)) 4)) := h1.2.1 4 (by decide)
    rw [show (fup F 13 (ow C 0 (fun i => F 3 (48 * b + i)) j)) 4 = F 4 from fup_ne (by decide)] at r4
    have r13 : ai_arr S1 446 0 = some (128, ax_f ((fup F 13 (ow C 0 (fun i => F 3 (48 * b + i)) j)) 13)) := h1.2.1 13 (by decide)
    rw [show (fup F 13 (ow C 0 (fun i => F 3 (48 * b + i)) j)) 13 = ow C 0 (fun i => F 3 (48 * b + i)) j from fup_get _ _ _] at r13
    obtain rfl : j = l.1.length := by omega
    refine aw_loc at_141_2 rfl rfl ?_
    refine aw_loc at_141_3 rfl rfl ?_
    refine aw_get at_141_4 rfl fl_12_22 ho rfl ?_
    refine aw_loc at_141_7 rfl rfl ?_
    refine ax_ild at_141_8 rfl r4 (k := b) rfl (by omega) (by decide) ?_
    rw [hlen]
    refine ax_icmp_ge at_141_9 ⟨by omega, by omega⟩ ⟨by omega, by omega⟩ (fun _ => kk S1 f1 h1) (fun z => absurd z (by omega))
  | succ m ih =>
    intro j S1 hj f1 h1 kk
    have ho := h1.1
    have r3 : ai_arr S1 436 0 = some (720, ax_f ((fup F 13 (ow C 0 (fun i => F 3 (48 * b + i)) j)) 3)) := h1.2.1 3 (by decide)
    rw [show (fup F 13 (ow C 0 (fun i => F 3 (48 * b + i)) j)) 3 = F 3 from fup_ne (by decide)] at r3
    have r4 : ai_arr S1 437 0 = some (15, ax_f ((fup F 13 (ow C 0 (fun i => F 3 (48 * b + i)) j)) 4)) := h1.2.1 4 (by decide)
    rw [show (fup F 13 (ow C 0 (fun i => F 3 (48 * b + i)) j)) 4 = F 4 from fup_ne (by decide)] at r4
    have r13 : ai_arr S1 446 0 = some (128, ax_f ((fup F 13 (ow C 0 (fun i => F 3 (48 * b + i)) j)) 13)) := h1.2.1 13 (by decide)
    rw [show (fup F 13 (ow C 0 (fun i => F 3 (48 * b + i)) j)) 13 = ow C 0 (fun i => F 3 (48 * b + i)) j from fup_get _ _ _] at r13
    have hco := hcw j (by omega)
    have hkj := kn_at kl.1 (show j < l.1.length by omega)
    have hcj := co_in (kn_mono (show (123 : Int) ≤ 129 by decide) hkj)
    refine aw_loc at_141_2 rfl rfl ?_
    refine aw_loc at_141_3 rfl rfl ?_
    refine aw_get at_141_4 rfl fl_12_22 ho rfl ?_
    refine aw_loc at_141_7 rfl rfl ?_
    refine ax_ild at_141_8 rfl r4 (k := b) rfl (by omega) (by decide) ?_
    rw [hlen]
    refine ax_icmp_ge at_141_9 ⟨by omega, by omega⟩ ⟨by omega, by omega⟩ (fun z => absurd z (by omega)) (fun _ => ?_)
    refine aw_loc at_141_12 rfl rfl ?_
    refine aw_get at_141_13 rfl fl_12_49 ho rfl ?_
    refine aw_pure (st' := ax_i (0) :: _) at_141_16 rfl rfl ?_
    refine aw_loc at_141_17 rfl rfl ?_
    refine ax_add at_141_18 rfl ?_
    refine aw_loc at_141_19 rfl rfl ?_
    refine aw_get at_141_20 rfl fl_12_19 ho rfl ?_
    refine aw_pure (st' := ax_i (48) :: _) at_141_23 rfl rfl ?_
    refine aw_loc at_141_25 rfl rfl ?_
    refine ax_mul at_141_26 rfl ?_
    refine aw_loc at_141_27 rfl rfl ?_
    refine ax_add at_141_28 rfl ?_
    refine ax_ild at_141_29 rfl r3 (k := 48 * b + j) (by omega) (by omega) (by decide) ?_
    refine ax_ist (k := 0 + j) at_141_30 rfl r13 (by omega) (by omega) (by decide) ?_
    rw [ow_succ2 C (fun i => F 3 (48 * b + i)) 0 j (show _ = _ from rfl)]
    have h2 : mst (ai_wr S1 446 (.inl (0, ai_I 128 (ax_f (ow C 0 (fun i => F 3 (48 * b + i)) (j + 1)))))) T D n rc wt kp sx sc (fup F 13 (ow C 0 (fun i => F 3 (48 * b + i)) (j + 1))) B := by
      have := mst_wr (i := 13) (R := (ow C 0 (fun i => F 3 (48 * b + i)) (j + 1))) h1 (by decide)
      rw [fup_two] at this
      exact this
    refine ax_inc at_141_31 rfl rfl rfl ?_
    refine aw_goto at_141_34 ?_
    have := ih (j + 1) _ (by omega) (f1.tr (fr_md (by decide) (by decide))) h2 kk
    rw [Int.natCast_add] at this
    exact this
set_option maxHeartbeats 4000000 in
theorem r_m_lay2 {a b : Nat} {u l : List Int × List Int} {C : Nat → Int} {Q : ai_O → Prop} (hqa : qsl (F 3) (F 4) (F 5) a u) (hqb : qsl (F 3) (F 4) (F 5) b l) (ha : a < 15) (hb : b < 15) (ku : al (kn (F 0) 123) u.1 ∧ al (kn (F 0) 123) u.2) (kl : al (kn (F 0) 123) l.1 ∧ al (kn (F 0) 123) l.2) : ∀ (m j : Nat) (S1 : ai_S), j + m = l.2.length → fr 432 452 S S1 → mst S1 T D n rc wt kp sx sc (fup F 13 (ow C 96 (fun i => F 3 (48 * b + 24 + i)) j)) B → (∀ S2, fr 432 452 S S2 → mst S2 T D n rc wt kp sx sc (fup F 13 (ow C 96 (fun i => F 3 (48 * b + 24 + i)) l.2.length)) B → ai_aw L xs (d + 1) ai_m141 Q (78, [some (.ref 432), some (ax_i (a : Nat)), some (ax_i (b : Nat)), some (ax_i (l.2.length : Nat))], [], S2)) → ai_aw L xs (d + 1) ai_m141 Q (39, [some (.ref 432), some (ax_i (a : Nat)), some (ax_i (b : Nat)), some (ax_i (j : Nat))], [], S1) := by
  have hlen : F 5 b = (l.2.length : Int) := hqb.1.2
  have hl24 := hqb.2.1.2
  have hcw := hqb.2.2.2
  intro m
  induction m with
  | zero =>
    intro j S1 hj f1 h1 kk
    have ho := h1.1
    have r3 : ai_arr S1 436 0 = some (720, ax_f ((fup F 13 (ow C 96 (fun i => F 3 (48 * b + 24 + i)) j)) 3)) := h1.2.1 3 (by decide)
    rw [show (fup F 13 (ow C 96 (fun i => F 3 (48 * b + 24 + i)) j)) 3 = F 3 from fup_ne (by decide)] at r3
    have r5 : ai_arr S1 438 0 = some (15, ax_f ((fup F 13 (ow C 96 (fun i => F 3 (48 * b + 24 + i)) j)) 5)) := h1.2.1 5 (by decide)
    rw [show (fup F 13 (ow C 96 (fun i => F 3 (48 * b + 24 + i)) j)) 5 = F 5 from fup_ne (by decide)] at r5
    have r13 : ai_arr S1 446 0 = some (128, ax_f ((fup F 13 (ow C 96 (fun i => F 3 (48 * b + 24 + i)) j)) 13)) := h1.2.1 13 (by decide)
    rw [show (fup F 13 (ow C 96 (fun i => F 3 (48 * b + 24 + i)) j)) 13 = ow C 96 (fun i => F 3 (48 * b + 24 + i)) j from fup_get _ _ _] at r13
    obtain rfl : j = l.2.length := by omega
    refine aw_loc at_141_39 rfl rfl ?_
    refine aw_loc at_141_40 rfl rfl ?_
    refine aw_get at_141_41 rfl fl_12_25 ho rfl ?_
    refine aw_loc at_141_44 rfl rfl ?_
    refine ax_ild at_141_45 rfl r5 (k := b) rfl (by omega) (by decide) ?_
    rw [hlen]
    refine ax_icmp_ge at_141_46 ⟨by omega, by omega⟩ ⟨by omega, by omega⟩ (fun _ => kk S1 f1 h1) (fun z => absurd z (by omega))
  | succ m ih =>
    intro j S1 hj f1 h1 kk
    have ho := h1.1
    have r3 : ai_arr S1 436 0 = some (720, ax_f ((fup F 13 (ow C 96 (fun i => F 3 (48 * b + 24 + i)) j)) 3)) := h1.2.1 3 (by decide)
    rw [show (fup F 13 (ow C 96 (fun i => F 3 (48 * b + 24 + i)) j)) 3 = F 3 from fup_ne (by decide)] at r3
    have r5 : ai_arr S1 438 0 = some (15, ax_f ((fup F 13 (ow C 96 (fun i => F 3 (48 * b + 24 + i)) j)) 5)) := h1.2.1 5 (by decide)
    rw [show (fup F 13 (ow C 96 (fun i => F 3 (48 * b + 24 + i)) j)) 5 = F 5 from fup_ne (by decide)] at r5
    have r13 : ai_arr S1 446 0 = some (128, ax_f ((fup F 13 (ow C 96 (fun i => F 3 (48 * b + 24 + i)) j)) 13)) := h1.2.1 13 (by decide)
    rw [show (fup F 13 (ow C 96 (fun i => F 3 (48 * b + 24 + i)) j)) 13 = ow C 96 (fun i => F 3 (48 * b + 24 + i)) j from fup_get _ _ _] at r13
    have hco := hcw j (by omega)
    have hkj := kn_at kl.2 (show j < l.2.length by omega)
    have hcj := co_in (kn_mono (show (123 : Int) ≤ 129 by decide) hkj)
    refine aw_loc at_141_39 rfl rfl ?_
    refine aw_loc at_141_40 rfl rfl ?_
    refine aw_get at_141_41 rfl fl_12_25 ho rfl ?_
    refine aw_loc at_141_44 rfl rfl ?_
    refine ax_ild at_141_45 rfl r5 (k := b) rfl (by omega) (by decide) ?_
    rw [hlen]
    refine ax_icmp_ge at_141_46 ⟨by omega, by omega⟩ ⟨by omega, by omega⟩ (fun z => absurd z (by omega)) (fun _ => ?_)
    refine aw_loc at_141_49 rfl rfl ?_
    refine aw_get at_141_50 rfl fl_12_49 ho rfl ?_
    refine aw_pure (st' := ax_i (96) :: _) at_141_53 rfl rfl ?_
    refine aw_loc at_141_55 rfl rfl ?_
    refine ax_add at_141_56 rfl ?_
    refine aw_loc at_141_57 rfl rfl ?_
    refine aw_get at_141_58 rfl fl_12_19 ho rfl ?_
    refine aw_pure (st' := ax_i (48) :: _) at_141_61 rfl rfl ?_
    refine aw_loc at_141_63 rfl rfl ?_
    refine ax_mul at_141_64 rfl ?_
    refine aw_pure (st' := ax_i (24) :: _) at_141_65 rfl rfl ?_
    refine ax_add at_141_67 rfl ?_
    refine aw_loc at_141_68 rfl rfl ?_
    refine ax_add at_141_69 rfl ?_
    refine ax_ild at_141_70 rfl r3 (k := 48 * b + 24 + j) (by omega) (by omega) (by decide) ?_
    refine ax_ist (k := 96 + j) at_141_71 rfl r13 (by omega) (by omega) (by decide) ?_
    rw [ow_succ2 C (fun i => F 3 (48 * b + 24 + i)) 96 j (show _ = _ from rfl)]
    have h2 : mst (ai_wr S1 446 (.inl (0, ai_I 128 (ax_f (ow C 96 (fun i => F 3 (48 * b + 24 + i)) (j + 1)))))) T D n rc wt kp sx sc (fup F 13 (ow C 96 (fun i => F 3 (48 * b + 24 + i)) (j + 1))) B := by
      have := mst_wr (i := 13) (R := (ow C 96 (fun i => F 3 (48 * b + 24 + i)) (j + 1))) h1 (by decide)
      rw [fup_two] at this
      exact this
    refine ax_inc at_141_72 rfl rfl rfl ?_
    refine aw_goto at_141_75 ?_
    have := ih (j + 1) _ (by omega) (f1.tr (fr_md (by decide) (by decide))) h2 kk
    rw [Int.natCast_add] at this
    exact this
set_option maxHeartbeats 4000000 in
theorem r_m_lay3 {a b : Nat} {u l : List Int × List Int} {C : Nat → Int} {Q : ai_O → Prop} (hqa : qsl (F 3) (F 4) (F 5) a u) (hqb : qsl (F 3) (F 4) (F 5) b l) (ha : a < 15) (hb : b < 15) (ku : al (kn (F 0) 123) u.1 ∧ al (kn (F 0) 123) u.2) (kl : al (kn (F 0) 123) l.1 ∧ al (kn (F 0) 123) l.2) : ∀ (m j : Nat) (S1 : ai_S), j + m = u.1.length → fr 432 452 S S1 → mst S1 T D n rc wt kp sx sc (fup F 13 (ow C 32 (fun i => ot6 (F 3 (48 * a + i))) j)) B → (∀ S2, fr 432 452 S S2 → mst S2 T D n rc wt kp sx sc (fup F 13 (ow C 32 (fun i => ot6 (F 3 (48 * a + i))) u.1.length)) B → ai_aw L xs (d + 1) ai_m141 Q (119, [some (.ref 432), some (ax_i (a : Nat)), some (ax_i (b : Nat)), some (ax_i (u.1.length : Nat))], [], S2)) → ai_aw L xs (d + 1) ai_m141 Q (80, [some (.ref 432), some (ax_i (a : Nat)), some (ax_i (b : Nat)), some (ax_i (j : Nat))], [], S1) := by
  have hlen : F 4 a = (u.1.length : Int) := hqa.1.1
  have hl24 := hqa.2.1.1
  have hcw := hqa.2.2.1
  intro m
  induction m with
  | zero =>
    intro j S1 hj f1 h1 kk
    have ho := h1.1
    have r3 : ai_arr S1 436 0 = some (720, ax_f ((fup F 13 (ow C 32 (fun i => ot6 (F 3 (48 * a + i))) j)) 3)) := h1.2.1 3 (by decide)
    rw [show (fup F 13 (ow C 32 (fun i => ot6 (F 3 (48 * a + i))) j)) 3 = F 3 from fup_ne (by decide)] at r3
    have r4 : ai_arr S1 437 0 = some (15, ax_f ((fup F 13 (ow C 32 (fun i => ot6 (F 3 (48 * a + i))) j)) 4)) := h1.2.1 4 (by decide)
    rw [show (fup F 13 (ow C 32 (fun i => ot6 (F 3 (48 * a + i))) j)) 4 = F 4 from fup_ne (by decide)] at r4
    have r13 : ai_arr S1 446 0 = some (128, ax_f ((fup F 13 (ow C 32 (fun i => ot6 (F 3 (48 * a + i))) j)) 13)) := h1.2.1 13 (by decide)
    rw [show (fup F 13 (ow C 32 (fun i => ot6 (F 3 (48 * a + i))) j)) 13 = ow C 32 (fun i => ot6 (F 3 (48 * a + i))) j from fup_get _ _ _] at r13
    obtain rfl : j = u.1.length := by omega
    refine aw_loc at_141_80 rfl rfl ?_
    refine aw_loc at_141_81 rfl rfl ?_
    refine aw_get at_141_82 rfl fl_12_22 ho rfl ?_
    refine aw_loc at_141_85 rfl rfl ?_
    refine ax_ild at_141_86 rfl r4 (k := a) rfl (by omega) (by decide) ?_
    rw [hlen]
    refine ax_icmp_ge at_141_87 ⟨by omega, by omega⟩ ⟨by omega, by omega⟩ (fun _ => kk S1 f1 h1) (fun z => absurd z (by omega))
  | succ m ih =>
    intro j S1 hj f1 h1 kk
    have ho := h1.1
    have r3 : ai_arr S1 436 0 = some (720, ax_f ((fup F 13 (ow C 32 (fun i => ot6 (F 3 (48 * a + i))) j)) 3)) := h1.2.1 3 (by decide)
    rw [show (fup F 13 (ow C 32 (fun i => ot6 (F 3 (48 * a + i))) j)) 3 = F 3 from fup_ne (by decide)] at r3
    have r4 : ai_arr S1 437 0 = some (15, ax_f ((fup F 13 (ow C 32 (fun i => ot6 (F 3 (48 * a + i))) j)) 4)) := h1.2.1 4 (by decide)
    rw [show (fup F 13 (ow C 32 (fun i => ot6 (F 3 (48 * a + i))) j)) 4 = F 4 from fup_ne (by decide)] at r4
    have r13 : ai_arr S1 446 0 = some (128, ax_f ((fup F 13 (ow C 32 (fun i => ot6 (F 3 (48 * a + i))) j)) 13)) := h1.2.1 13 (by decide)
    rw [show (fup F 13 (ow C 32 (fun i => ot6 (F 3 (48 * a + i))) j)) 13 = ow C 32 (fun i => ot6 (F 3 (48 * a + i))) j from fup_get _ _ _] at r13
    have hco := hcw j (by omega)
    have hkj := kn_at ku.1 (show j < u.1.length by omega)
    have hcj := co_in (kn_mono (show (123 : Int) ≤ 129 by decide) hkj)
    refine aw_loc at_141_80 rfl rfl ?_
    refine aw_loc at_141_81 rfl rfl ?_
    refine aw_get at_141_82 rfl fl_12_22 ho rfl ?_
    refine aw_loc at_141_85 rfl rfl ?_
    refine ax_ild at_141_86 rfl r4 (k := a) rfl (by omega) (by decide) ?_
    rw [hlen]
    refine ax_icmp_ge at_141_87 ⟨by omega, by omega⟩ ⟨by omega, by omega⟩ (fun z => absurd z (by omega)) (fun _ => ?_)
    refine aw_loc at_141_90 rfl rfl ?_
    refine aw_get at_141_91 rfl fl_12_49 ho rfl ?_
    refine aw_pure (st' := ax_i (32) :: _) at_141_94 rfl rfl ?_
    refine aw_loc at_141_96 rfl rfl ?_
    refine ax_add at_141_97 rfl ?_
    refine aw_loc at_141_98 rfl rfl ?_
    refine aw_get at_141_99 rfl fl_12_19 ho rfl ?_
    refine aw_pure (st' := ax_i (48) :: _) at_141_102 rfl rfl ?_
    refine aw_loc at_141_104 rfl rfl ?_
    refine ax_mul at_141_105 rfl ?_
    refine aw_loc at_141_106 rfl rfl ?_
    refine ax_add at_141_107 rfl ?_
    refine ax_ild at_141_108 rfl r3 (k := 48 * a + j) (by omega) (by omega) (by decide) ?_
    have hcb : 0 ≤ F 3 (48 * a + j) ∧ F 3 (48 * a + j) < 1000 := by rw [hco]; omega
    refine aw_cs [ax_i (F 3 (48 * a + j))] [ax_i (32 + (j : Int)), .ref 446] at_141_109 rfl mt_12_172 (Or.inl rfl) rfl rfl (Nat.le_of_ble_eq_true rfl) ((r_m_other hcb).mono ?_)
    rintro v S0 ⟨hS, rfl⟩
    have hS2 := hS.symm
    subst hS2
    refine ax_ist (k := 32 + j) at_141_112 rfl r13 (by omega) (by omega) (by decide) ?_
    rw [ow_succ2 C (fun i => ot6 (F 3 (48 * a + i))) 32 j (v := if F 3 (48 * a + j) < 8 then F 3 (48 * a + j) else F 3 (48 * a + j) + 6) rfl]
    have h2 : mst (ai_wr S1 446 (.inl (0, ai_I 128 (ax_f (ow C 32 (fun i => ot6 (F 3 (48 * a + i))) (j + 1)))))) T D n rc wt kp sx sc (fup F 13 (ow C 32 (fun i => ot6 (F 3 (48 * a + i))) (j + 1))) B := by
      have := mst_wr (i := 13) (R := (ow C 32 (fun i => ot6 (F 3 (48 * a + i))) (j + 1))) h1 (by decide)
      rw [fup_two] at this
      exact this
    refine ax_inc at_141_113 rfl rfl rfl ?_
    refine aw_goto at_141_116 ?_
    have := ih (j + 1) _ (by omega) (f1.tr (fr_md (by decide) (by decide))) h2 kk
    rw [Int.natCast_add] at this
    exact this
set_option maxHeartbeats 4000000 in
theorem r_m_lay4 {a b : Nat} {u l : List Int × List Int} {C : Nat → Int} {Q : ai_O → Prop} (hqa : qsl (F 3) (F 4) (F 5) a u) (hqb : qsl (F 3) (F 4) (F 5) b l) (ha : a < 15) (hb : b < 15) (ku : al (kn (F 0) 123) u.1 ∧ al (kn (F 0) 123) u.2) (kl : al (kn (F 0) 123) l.1 ∧ al (kn (F 0) 123) l.2) : ∀ (m j : Nat) (S1 : ai_S), j + m = u.2.length → fr 432 452 S S1 → mst S1 T D n rc wt kp sx sc (fup F 13 (ow C 64 (fun i => ot6 (F 3 (48 * a + 24 + i))) j)) B → (∀ S2, fr 432 452 S S2 → mst S2 T D n rc wt kp sx sc (fup F 13 (ow C 64 (fun i => ot6 (F 3 (48 * a + 24 + i))) u.2.length)) B → ai_aw L xs (d + 1) ai_m141 Q (163, [some (.ref 432), some (ax_i (a : Nat)), some (ax_i (b : Nat)), some (ax_i (u.2.length : Nat))], [], S2)) → ai_aw L xs (d + 1) ai_m141 Q (121, [some (.ref 432), some (ax_i (a : Nat)), some (ax_i (b : Nat)), some (ax_i (j : Nat))], [], S1) := by
  have hlen : F 5 a = (u.2.length : Int) := hqa.1.2
  have hl24 := hqa.2.1.2
  have hcw := hqa.2.2.2
  intro m
  induction m with
  | zero =>
    intro j S1 hj f1 h1 kk
    have ho := h1.1
    have r3 : ai_arr S1 436 0 = some (720, ax_f ((fup F 13 (ow C 64 (fun i => ot6 (F 3 (48 * a + 24 + i))) j)) 3)) := h1.2.1 3 (by decide)
    rw [show (fup F 13 (ow C 64 (fun i => ot6 (F 3 (48 * a + 24 + i))) j)) 3 = F 3 from fup_ne (by decide)] at r3
    have r5 : ai_arr S1 438 0 = some (15, ax_f ((fup F 13 (ow C 64 (fun i => ot6 (F 3 (48 * a + 24 + i))) j)) 5)) := h1.2.1 5 (by decide)
    rw [show (fup F 13 (ow C 64 (fun i => ot6 (F 3 (48 * a + 24 + i))) j)) 5 = F 5 from fup_ne (by decide)] at r5
    have r13 : ai_arr S1 446 0 = some (128, ax_f ((fup F 13 (ow C 64 (fun i => ot6 (F 3 (48 * a + 24 + i))) j)) 13)) := h1.2.1 13 (by decide)
    rw [show (fup F 13 (ow C 64 (fun i => ot6 (F 3 (48 * a + 24 + i))) j)) 13 = ow C 64 (fun i => ot6 (F 3 (48 * a + 24 + i))) j from fup_get _ _ _] at r13
    obtain rfl : j = u.2.length := by omega
    refine aw_loc at_141_121 rfl rfl ?_
    refine aw_loc at_141_122 rfl rfl ?_
    refine aw_get at_141_123 rfl fl_12_25 ho rfl ?_
    refine aw_loc at_141_126 rfl rfl ?_
    refine ax_ild at_141_127 rfl r5 (k := a) rfl (by omega) (by decide) ?_
    rw [hlen]
    refine ax_icmp_ge at_141_128 ⟨by omega, by omega⟩ ⟨by omega, by omega⟩ (fun _ => kk S1 f1 h1) (fun z => absurd z (by omega))
  | succ m ih =>
    intro j S1 hj f1 h1 kk
    have ho := h1.1
    have r3 : ai_arr S1 436 0 = some (720, ax_f ((fup F 13 (ow C 64 (fun i => ot6 (F 3 (48 * a + 24 + i))) j)) 3)) := h1.2.1 3 (by decide)
    rw [show (fup F 13 (ow C 64 (fun i => ot6 (F 3 (48 * a + 24 + i))) j)) 3 = F 3 from fup_ne (by decide)] at r3
    have r5 : ai_arr S1 438 0 = some (15, ax_f ((fup F 13 (ow C 64 (fun i => ot6 (F 3 (48 * a + 24 + i))) j)) 5)) := h1.2.1 5 (by decide)
    rw [show (fup F 13 (ow C 64 (fun i => ot6 (F 3 (48 * a + 24 + i))) j)) 5 = F 5 from fup_ne (by decide)] at r5
    have r13 : ai_arr S1 446 0 = some (128, ax_f ((fup F 13 (ow C 64 (fun i => ot6 (F 3 (48 * a + 24 + i))) j)) 13)) := h1.2.1 13 (by decide)
    rw [show (fup F 13 (ow C 64 (fun i => ot6 (F 3 (48 * a + 24 + i))) j)) 13 = ow C 64 (fun i => ot6 (F 3 (48 * a + 24 + i))) j from fup_get _ _ _] at r13
    have hco := hcw j (by omega)
    have hkj := kn_at ku.2 (show j < u.2.length by omega)
    have hcj := co_in (kn_mono (show (123 : Int) ≤ 129 by decide) hkj)
    refine aw_loc at_141_121 rfl rfl ?_
    refine aw_loc at_141_122 rfl rfl ?_
    refine aw_get at_141_123 rfl fl_12_25 ho rfl ?_
    refine aw_loc at_141_126 rfl rfl ?_
    refine ax_ild at_141_127 rfl r5 (k := a) rfl (by omega) (by decide) ?_
    rw [hlen]
    refine ax_icmp_ge at_141_128 ⟨by omega, by omega⟩ ⟨by omega, by omega⟩ (fun z => absurd z (by omega)) (fun _ => ?_)
    refine aw_loc at_141_131 rfl rfl ?_
    refine aw_get at_141_132 rfl fl_12_49 ho rfl ?_
    refine aw_pure (st' := ax_i (64) :: _) at_141_135 rfl rfl ?_
    refine aw_loc at_141_137 rfl rfl ?_
    refine ax_add at_141_138 rfl ?_
    refine aw_loc at_141_139 rfl rfl ?_
    refine aw_get at_141_140 rfl fl_12_19 ho rfl ?_
    refine aw_pure (st' := ax_i (48) :: _) at_141_143 rfl rfl ?_
    refine aw_loc at_141_145 rfl rfl ?_
    refine ax_mul at_141_146 rfl ?_
    refine aw_pure (st' := ax_i (24) :: _) at_141_147 rfl rfl ?_
    refine ax_add at_141_149 rfl ?_
    refine aw_loc at_141_150 rfl rfl ?_
    refine ax_add at_141_151 rfl ?_
    refine ax_ild at_141_152 rfl r3 (k := 48 * a + 24 + j) (by omega) (by omega) (by decide) ?_
    have hcb : 0 ≤ F 3 (48 * a + 24 + j) ∧ F 3 (48 * a + 24 + j) < 1000 := by rw [hco]; omega
    refine aw_cs [ax_i (F 3 (48 * a + 24 + j))] [ax_i (64 + (j : Int)), .ref 446] at_141_153 rfl mt_12_172 (Or.inl rfl) rfl rfl (Nat.le_of_ble_eq_true rfl) ((r_m_other hcb).mono ?_)
    rintro v S0 ⟨hS, rfl⟩
    have hS2 := hS.symm
    subst hS2
    refine ax_ist (k := 64 + j) at_141_156 rfl r13 (by omega) (by omega) (by decide) ?_
    rw [ow_succ2 C (fun i => ot6 (F 3 (48 * a + 24 + i))) 64 j (v := if F 3 (48 * a + 24 + j) < 8 then F 3 (48 * a + 24 + j) else F 3 (48 * a + 24 + j) + 6) rfl]
    have h2 : mst (ai_wr S1 446 (.inl (0, ai_I 128 (ax_f (ow C 64 (fun i => ot6 (F 3 (48 * a + 24 + i))) (j + 1)))))) T D n rc wt kp sx sc (fup F 13 (ow C 64 (fun i => ot6 (F 3 (48 * a + 24 + i))) (j + 1))) B := by
      have := mst_wr (i := 13) (R := (ow C 64 (fun i => ot6 (F 3 (48 * a + 24 + i))) (j + 1))) h1 (by decide)
      rw [fup_two] at this
      exact this
    refine ax_inc at_141_157 rfl rfl rfl ?_
    refine aw_goto at_141_160 ?_
    have := ih (j + 1) _ (by omega) (f1.tr (fr_md (by decide) (by decide))) h2 kk
    rw [Int.natCast_add] at this
    exact this
set_option maxHeartbeats 8000000 in
theorem r_m_lay {a b : Nat} {u l : List Int × List Int} (h : mst S T D n rc wt kp sx sc F B) (hqa : qsl (F 3) (F 4) (F 5) a u) (hqb : qsl (F 3) (F 4) (F 5) b l) (ha : a < 15) (hb : b < 15) (ku : al (kn (F 0) 123) u.1 ∧ al (kn (F 0) 123) u.2) (kl : al (kn (F 0) 123) l.1 ∧ al (kn (F 0) 123) l.2) (hxc : xr (F 13)) : ai_rn L xs (d + 2) 141 [.ref 432, ax_i (a : Nat), ax_i (b : Nat)] S (fun v S' => v = none ∧ fr 432 452 S S' ∧ ∃ C, mst S' T D n rc wt kp sx sc (fup F 13 C) B ∧ mly C l (swp u) ∧ xr C) := by
  have l1 := hqb.2.1
  have l2 := hqa.2.1
  refine ai_rn_of (M := ai_m141) rfl (by decide) (Nat.le_of_ble_eq_true rfl) ?_
  refine aw_pure (st' := ax_i (0) :: _) at_141_0 rfl rfl ?_
  refine aw_loc at_141_1 rfl rfl ?_
  refine r_m_lay1 (C := F 13) hqa hqb ha hb ku kl l.1.length 0 S (by omega) fr.rf (by rw [ow_zero, fup_self]; exact h) (fun S1 f1 h1 => ?_)
  refine aw_pure (st' := ax_i (0) :: _) at_141_37 rfl rfl ?_
  refine aw_loc at_141_38 rfl rfl ?_
  refine r_m_lay2 (C := (ow (F 13) 0 (fun i => F 3 (48 * b + i)) l.1.length)) hqa hqb ha hb ku kl l.2.length 0 S1 (by omega) f1 (by rw [ow_zero]; exact h1) (fun S2 f2 h2 => ?_)
  refine aw_pure (st' := ax_i (0) :: _) at_141_78 rfl rfl ?_
  refine aw_loc at_141_79 rfl rfl ?_
  refine r_m_lay3 (C := (ow (ow (F 13) 0 (fun i => F 3 (48 * b + i)) l.1.length) 96 (fun i => F 3 (48 * b + 24 + i)) l.2.length)) hqa hqb ha hb ku kl u.1.length 0 S2 (by omega) f2 (by rw [ow_zero]; exact h2) (fun S3 f3 h3 => ?_)
  refine aw_pure (st' := ax_i (0) :: _) at_141_119 rfl rfl ?_
  refine aw_loc at_141_120 rfl rfl ?_
  refine r_m_lay4 (C := (ow (ow (ow (F 13) 0 (fun i => F 3 (48 * b + i)) l.1.length) 96 (fun i => F 3 (48 * b + 24 + i)) l.2.length) 32 (fun i => ot6 (F 3 (48 * a + i))) u.1.length)) hqa hqb ha hb ku kl u.2.length 0 S3 (by omega) f3 (by rw [ow_zero]; exact h3) (fun S4 f4 h4 => ?_)
  refine aw_vret at_141_163 rfl ⟨_, _, rfl, rfl, f4, _, h4, ⟨fun i hi => ?_, fun i hi => ?_, fun i hi => ?_, fun i hi => ?_⟩, ?_⟩
  · rw [ow_out (by omega), ow_out (by omega), ow_out (by omega), ow_in hi]; exact hqb.2.2.1 i hi
  · rw [ow_out (by omega), ow_out (by omega), ow_in hi]; exact hqb.2.2.2 i hi
  · have hi' : i < u.1.length := by rw [show (swp u).1 = u.1.map sw from rfl, List.length_map] at hi; exact hi
    rw [ow_out (by omega), ow_in hi', show (swp u).1 = u.1.map sw from rfl, sw_get hi']
    show ot6 (F 3 _) = _
    rw [hqa.2.2.1 i hi']
    exact (ot6_co (kn_at ku.1 hi')).1
  · have hi' : i < u.2.length := by rw [show (swp u).2 = u.2.map sw from rfl, List.length_map] at hi; exact hi
    rw [ow_in hi', show (swp u).2 = u.2.map sw from rfl, sw_get hi']
    show ot6 (F 3 _) = _
    rw [hqa.2.2.2 i hi']
    exact (ot6_co (kn_at ku.2 hi')).1
  · refine xr_ow (xr_ow (xr_ow (xr_ow hxc ?_) ?_) ?_) ?_
    · intro i hi
      have h9 := co_in (kn_mono (show (123 : Int) ≤ 129 by decide) (kn_at kl.1 hi))
      have h8 := hqb.2.2.1 i hi
      show 0 ≤ F 3 _ ∧ F 3 _ < 1000
      rw [h8]
      omega
    · intro i hi
      have h9 := co_in (kn_mono (show (123 : Int) ≤ 129 by decide) (kn_at kl.2 hi))
      have h8 := hqb.2.2.2 i hi
      show 0 ≤ F 3 _ ∧ F 3 _ < 1000
      rw [h8]
      omega
    · intro i hi
      have h9 := co_in (kn_mono (show (123 : Int) ≤ 129 by decide) (kn_at ku.1 hi))
      have h8 := hqa.2.2.1 i hi
      show 0 ≤ ot6 (F 3 _) ∧ ot6 (F 3 _) < 1000
      rw [h8]
      unfold ot6
      split <;> omega
    · intro i hi
      have h9 := co_in (kn_mono (show (123 : Int) ≤ 129 by decide) (kn_at ku.2 hi))
      have h8 := hqa.2.2.2 i hi
      show 0 ≤ ot6 (F 3 _) ∧ ot6 (F 3 _) < 1000
      rw [h8]
      unfold ot6
      split <;> omega
/-- where a term that is laid ends -/
def men (A : Int → Nat) (x v : List Int) (i : Nat) : Nat := if i < x.length then i + tl A 1 (x.drop i) else i + tl A 1 (v.drop (i - 32))
/-- the letters that are laid -/
abbrev mlY (C : Nat → Int) (i : Nat) : Int := lt' (C i)
theorem lt_co {N c : Int} (h : kn P N c) : lt' (co c) = c := by
  have h1 := kn_lt h
  unfold lt' co
  by_cases hc : c < 117
  · rw [if_pos hc, if_pos (by omega)]; omega
  · rw [if_neg hc, if_neg (by omega)]; omega
theorem cw_lf {C : Nat → Int} {b i : Nat} {w : List Int} (hc : cw C b w) (hk : al (kn P 129) w) (hb : b + w.length ≤ 128) (hi : i < w.length) : mlY C (b + i) = w.getD i 0 ∧ mlf P C (mlY C) (b + i) := by
  have h1 := kn_at hk hi
  have h2 : mlY C (b + i) = w.getD i 0 := by
    show lt' (C (b + i)) = _
    rw [hc i hi, lt_co h1]
  exact ⟨h2, by omega, by rw [h2]; exact h1, by rw [h2]; exact hc i hi⟩
theorem cw_sl {C : Nat → Int} {b : Nat} {w : List Int} (hc : cw C b w) (hk : al (kn P 129) w) (hb : b + w.length ≤ 128) : sl (mlY C) b w.length = w := sl_word _ w b (fun i hi => (cw_lf hc hk hb hi).1)
theorem m_laid {C : Nat → Int} {x v : List Int} (hp : (∀ i, -1 ≤ P i ∧ P i ≤ 2) ∧ sam A P) (hA2 : ∀ c, A c ≤ 2) (hxc : xr C) (c1 : cw C 0 x) (c2 : cw C 32 v) (t1 : ts A 1 x) (t2 : ts A 1 v) (k1 : al (kn P 129) x) (k2 : al (kn P 129) v) (l1 : x.length ≤ 24) (l2 : v.length ≤ 24) :
    mlc A P C (D2 x v 32) (mlY C) (men A x v) (T2 A x v 32) ∧ (∀ p a, D2 x v 32 p → p ≤ a → a < men A x v p → D2 x v 32 a) ∧ (∀ p, D2 x v 32 p → T2 A x v 32 p = sl (mlY C) p (men A x v p - p)) ∧ ∀ p, D2 x v 32 p → p < men A x v p := by
  have y1 : ∀ i, i < x.length → mlY C i = x.getD i 0 ∧ mlf P C (mlY C) i := fun i hi => by
    have := cw_lf c1 k1 (by omega) hi
    rw [Nat.zero_add] at this
    exact this
  have y2 : ∀ i, i < v.length → mlY C (32 + i) = v.getD i 0 ∧ mlf P C (mlY C) (32 + i) := fun i hi => cw_lf c2 k2 (by omega) hi
  have n1 : ∀ i, i < x.length → men A x v i = i + tl A 1 (x.drop i) := fun i hi => if_pos hi
  have n2 : ∀ i, i < v.length → men A x v (32 + i) = 32 + i + tl A 1 (v.drop i) := fun i hi => by
    unfold men
    rw [if_neg (by omega), Nat.add_sub_cancel_left]
  have b1 : ∀ i, i < x.length → i + tl A 1 (x.drop i) ≤ x.length := fun i hi => by
    have := tl_le (A := A) (x.drop i) 1
    rw [List.length_drop] at this
    omega
  have b2 : ∀ i, i < v.length → i + tl A 1 (v.drop i) ≤ v.length := fun i hi => by
    have := tl_le (A := A) (v.drop i) 1
    rw [List.length_drop] at this
    omega
  have p1 : ∀ (w : List Int) (i : Nat), i < w.length → 0 < tl A 1 (w.drop i) := fun w i hi => tl_pos (by decide) (fun h => by
    have := congrArg List.length h
    rw [List.length_drop] at this
    have h0 : ([] : List Int).length = 0 := rfl
    omega)
  have s2 : ∀ i, i < v.length → T2 A x v 32 (32 + i) = sb A v i := fun i hi => by
    unfold T2
    rw [if_neg (by omega), Nat.add_sub_cancel_left]
  refine ⟨⟨hp, hxc, hA2, tps_two hA2 t1 t2 (by omega) (fun i hi => (y1 i hi).1) (fun i hi => (y2 i hi).1) n1 n2, fun i hi => ?_⟩, fun p a hd h1 h2 => ?_, fun p hd => ?_, fun p hd => ?_⟩
  · rcases hi with hi | ⟨hi1, hi2⟩
    · refine ⟨by omega, (y1 i hi).2, ?_⟩
      obtain ⟨m, hm⟩ := ts_drop x 1 t1 i hi
      have he := nd_end hp.2 (cw_drop (i := i) c1) (al_drop k1 i) hm
      rw [Nat.zero_add] at he
      have := b1 i hi
      unfold mle
      rw [n1 i hi, Nat.add_sub_cancel_left]
      exact ⟨⟨by omega, by omega⟩, he.1, he.2.1⟩
    · obtain ⟨j, rfl⟩ : ∃ j, i = 32 + j := ⟨i - 32, by omega⟩
      have hj : j < v.length := by omega
      refine ⟨by omega, (y2 j hj).2, ?_⟩
      obtain ⟨m, hm⟩ := ts_drop v 1 t2 j hj
      have he := nd_end hp.2 (cw_drop (i := j) c2) (al_drop k2 j) hm
      have := b2 j hj
      unfold mle
      rw [n2 j hj, Nat.add_sub_cancel_left]
      exact ⟨⟨by omega, by omega⟩, he.1, he.2.1⟩
  · rcases hd with hd | ⟨hd1, hd2⟩
    · rw [n1 p hd] at h2
      have := b1 p hd
      exact .inl (by omega)
    · obtain ⟨j, rfl⟩ : ∃ j, p = 32 + j := ⟨p - 32, by omega⟩
      rw [n2 j (by omega)] at h2
      have := b2 j (by omega)
      exact .inr ⟨by omega, by omega⟩
  · rcases hd with hd | ⟨hd1, hd2⟩
    · rw [n1 p hd, Nat.add_sub_cancel_left, show T2 A x v 32 p = sb A x p from if_pos hd]
      exact sb_sl fun i hi => (y1 i hi).1
    · obtain ⟨j, rfl⟩ : ∃ j, p = 32 + j := ⟨p - 32, by omega⟩
      rw [n2 j (by omega), Nat.add_sub_cancel_left, s2 j (by omega), sb_sl (T := fun i => mlY C (32 + i)) fun i hi => (y2 i hi).1]
      unfold sl
      refine List.map_congr_left fun i _ => ?_
      show mlY C (32 + (j + i)) = mlY C (32 + j + i)
      rw [Nat.add_assoc]
  · rcases hd with hd | ⟨hd1, hd2⟩
    · rw [n1 p hd]
      have := p1 x p hd
      omega
    · obtain ⟨j, rfl⟩ : ∃ j, p = 32 + j := ⟨p - 32, by omega⟩
      rw [n2 j (by omega)]
      have := p1 v j (by omega)
      omega
/-- the letters of what is put -/
theorem ldi_al {Dm : Nat → Prop} {Y : Nat → Int} {ch : Nat → Nat → Nat} {Tm : Nat → List Int} {a0 b0 : Nat} {ld : lds_t} {sq : List (Nat × Nat)} {f : Int → List Int} {K : Int → Prop} (hA : ∀ c, 117 ≤ c → A c = 0) (ht : tps A Dm Y ch Tm) (h : ldi A Dm Y Tm a0 b0 ld sq f) (hK : ∀ i, Dm i → al K (Tm i)) : ∀ c, K c → al K (f c) := by
  obtain ⟨rk, hrk⟩ := h.2.2.2.2.2
  have key : ∀ (N M : Nat) (c : Int), (f c).length = N → rk c = M → K c → al K (f c) := by
    intro N
    induction N using Nat.strongRecOn with
    | _ N ihN =>
      intro M
      induction M using Nat.strongRecOn with
      | _ M ihM =>
        intro c hN hM hc
        by_cases hs : c < 117
        · rw [h.1.1.1 c hs]
          intro x hx
          rw [List.mem_singleton.1 hx]
          exact hc
        · cases hl : ld c with
          | none =>
            rw [h.1.2.2.1 c (by omega) hl]
            intro x hx
            rw [List.mem_singleton.1 hx]
            exact hc
          | some b =>
            have hb := (h.1.2.2.2 c b hl).2
            have e := h.1.2.1 c b hl
            have hTb := ht.2.1 b hb
            have hYb : Y b ∈ Tm b := by rw [hTb]; exact List.mem_cons_self ..
            by_cases hv : 117 ≤ Y b
            · have e2 := tps_var hA ht hb hv
              rw [e2, List.flatMap_cons, List.flatMap_nil, List.append_nil] at e
              rw [e]
              exact ihM _ (by have := hrk c b hl hv; omega) (Y b) (by rw [← e]; exact hN) rfl (hK b hb _ hYb)
            · have e3 := h.1.1.1 (Y b) (by omega)
              intro x hx
              rw [e] at hx
              obtain ⟨y, hy, hxy⟩ := List.mem_flatMap.1 hx
              have hKy := hK b hb y hy
              rw [hTb] at hy e
              rw [List.flatMap_cons, e3] at e
              rcases List.mem_cons.1 hy with rfl | hy
              · rw [e3] at hxy
                rw [List.mem_singleton.1 hxy]
                exact hKy
              · have h9 := flat_le (f := f) (c := y) _ hy
                have h10 := congrArg List.length e
                rw [List.length_append] at h10
                have h11 : ([Y b] : List Int).length = 1 := rfl
                exact ihN (f y).length (by omega) _ y rfl rfl hKy x hxy
  exact fun c hc => key _ _ c rfl rfl hc
theorem al_flat {K : Int → Prop} {f : Int → List Int} (hf : ∀ c, K c → al K (f c)) {w : List Int} (hw : al K w) : al K (w.flatMap f) := by
  intro x hx
  obtain ⟨y, hy, hxy⟩ := List.mem_flatMap.1 hx
  exact hf y (hw y hy) x hxy
end MY

/-! Matching, as the landed code does it. -/
section IN
variable {L : Nat} {xs : Nat → Int32} {d : Nat} {S : ai_S} {A : Int → Nat}
/-- the rewriter's fields -/
def rwf (pl : Int) : List Value := [.ref 1, .ref 12, .ref 413, .ref 414, .ref 415, ax_i pl]
theorem at_75_0 : ai_at ai_m75 0 = some (.aload_n 1, 1) := rfl
theorem at_75_1 : ai_at ai_m75 1 = some (.getfield 60, 3) := rfl
theorem at_75_4 : ai_at ai_m75 4 = some (.iload_n 2, 1) := rfl
theorem at_75_5 : ai_at ai_m75 5 = some (.caload, 1) := rfl
theorem at_75_6 : ai_at ai_m75 6 = some (.aload_n 3, 1) := rfl
theorem at_75_7 : ai_at ai_m75 7 = some (.getfield 60, 3) := rfl
theorem at_75_10 : ai_at ai_m75 10 = some (.iconst 0, 1) := rfl
theorem at_75_11 : ai_at ai_m75 11 = some (.caload, 1) := rfl
theorem at_75_12 : ai_at ai_m75 12 = some (.if_icmp .eq 5, 3) := rfl
theorem at_75_15 : ai_at ai_m75 15 = some (.iconst 0, 1) := rfl
theorem at_75_16 : ai_at ai_m75 16 = some (.ireturn, 1) := rfl
theorem at_75_17 : ai_at ai_m75 17 = some (.aload_n 0, 1) := rfl
theorem at_75_18 : ai_at ai_m75 18 = some (.getfield 15, 3) := rfl
theorem at_75_21 : ai_at ai_m75 21 = some (.iconst (-1), 1) := rfl
theorem at_75_22 : ai_at ai_m75 22 = some (.invokestatic 83, 3) := rfl
theorem at_75_25 : ai_at ai_m75 25 = some (.iload_n 2, 1) := rfl
theorem at_75_26 : ai_at ai_m75 26 = some (.istore 4, 2) := rfl
theorem at_75_28 : ai_at ai_m75 28 = some (.iconst 0, 1) := rfl
theorem at_75_29 : ai_at ai_m75 29 = some (.istore 5, 2) := rfl
theorem at_75_31 : ai_at ai_m75 31 = some (.iload 5, 2) := rfl
theorem at_75_33 : ai_at ai_m75 33 = some (.aload_n 3, 1) := rfl
theorem at_75_34 : ai_at ai_m75 34 = some (.getfield 64, 3) := rfl
theorem at_75_37 : ai_at ai_m75 37 = some (.if_icmp .ge 132, 3) := rfl
theorem at_75_40 : ai_at ai_m75 40 = some (.aload_n 3, 1) := rfl
theorem at_75_41 : ai_at ai_m75 41 = some (.getfield 60, 3) := rfl
theorem at_75_44 : ai_at ai_m75 44 = some (.iload 5, 2) := rfl
theorem at_75_46 : ai_at ai_m75 46 = some (.caload, 1) := rfl
theorem at_75_47 : ai_at ai_m75 47 = some (.istore 6, 2) := rfl
theorem at_75_49 : ai_at ai_m75 49 = some (.iload 4, 2) := rfl
theorem at_75_51 : ai_at ai_m75 51 = some (.aload_n 1, 1) := rfl
theorem at_75_52 : ai_at ai_m75 52 = some (.getfield 64, 3) := rfl
theorem at_75_55 : ai_at ai_m75 55 = some (.if_icmp .ge 23, 3) := rfl
theorem at_75_58 : ai_at ai_m75 58 = some (.iload 6, 2) := rfl
theorem at_75_60 : ai_at ai_m75 60 = some (.invokestatic 89, 3) := rfl
theorem at_75_63 : ai_at ai_m75 63 = some (.ifCond .ne 17, 3) := rfl
theorem at_75_66 : ai_at ai_m75 66 = some (.iload 6, 2) := rfl
theorem at_75_68 : ai_at ai_m75 68 = some (.aload_n 1, 1) := rfl
theorem at_75_69 : ai_at ai_m75 69 = some (.getfield 60, 3) := rfl
theorem at_75_72 : ai_at ai_m75 72 = some (.iload 4, 2) := rfl
theorem at_75_74 : ai_at ai_m75 74 = some (.caload, 1) := rfl
theorem at_75_75 : ai_at ai_m75 75 = some (.if_icmp .eq 5, 3) := rfl
theorem at_75_78 : ai_at ai_m75 78 = some (.iconst 0, 1) := rfl
theorem at_75_79 : ai_at ai_m75 79 = some (.ireturn, 1) := rfl
theorem at_75_80 : ai_at ai_m75 80 = some (.iload 6, 2) := rfl
theorem at_75_82 : ai_at ai_m75 82 = some (.invokestatic 89, 3) := rfl
theorem at_75_85 : ai_at ai_m75 85 = some (.ifCond .ne 9, 3) := rfl
theorem at_75_88 : ai_at ai_m75 88 = some (.iinc 4 1, 3) := rfl
theorem at_75_91 : ai_at ai_m75 91 = some (.goto 72, 3) := rfl
theorem at_75_94 : ai_at ai_m75 94 = some (.iload 6, 2) := rfl
theorem at_75_96 : ai_at ai_m75 96 = some (.bipush 117, 2) := rfl
theorem at_75_98 : ai_at ai_m75 98 = some (.isub, 1) := rfl
theorem at_75_99 : ai_at ai_m75 99 = some (.istore 7, 2) := rfl
theorem at_75_101 : ai_at ai_m75 101 = some (.aload_n 0, 1) := rfl
theorem at_75_102 : ai_at ai_m75 102 = some (.getfield 9, 3) := rfl
theorem at_75_105 : ai_at ai_m75 105 = some (.iload 4, 2) := rfl
theorem at_75_107 : ai_at ai_m75 107 = some (.iaload, 1) := rfl
theorem at_75_108 : ai_at ai_m75 108 = some (.iload 4, 2) := rfl
theorem at_75_110 : ai_at ai_m75 110 = some (.isub, 1) := rfl
theorem at_75_111 : ai_at ai_m75 111 = some (.istore 8, 2) := rfl
theorem at_75_113 : ai_at ai_m75 113 = some (.aload_n 0, 1) := rfl
theorem at_75_114 : ai_at ai_m75 114 = some (.getfield 15, 3) := rfl
theorem at_75_117 : ai_at ai_m75 117 = some (.iload 7, 2) := rfl
theorem at_75_119 : ai_at ai_m75 119 = some (.iaload, 1) := rfl
theorem at_75_120 : ai_at ai_m75 120 = some (.ifCond .ge 15, 3) := rfl
theorem at_75_123 : ai_at ai_m75 123 = some (.aload_n 0, 1) := rfl
theorem at_75_124 : ai_at ai_m75 124 = some (.getfield 15, 3) := rfl
theorem at_75_127 : ai_at ai_m75 127 = some (.iload 7, 2) := rfl
theorem at_75_129 : ai_at ai_m75 129 = some (.iload 4, 2) := rfl
theorem at_75_131 : ai_at ai_m75 131 = some (.iastore, 1) := rfl
theorem at_75_132 : ai_at ai_m75 132 = some (.goto 24, 3) := rfl
theorem at_75_135 : ai_at ai_m75 135 = some (.aload_n 1, 1) := rfl
theorem at_75_136 : ai_at ai_m75 136 = some (.iload 4, 2) := rfl
theorem at_75_138 : ai_at ai_m75 138 = some (.aload_n 1, 1) := rfl
theorem at_75_139 : ai_at ai_m75 139 = some (.aload_n 0, 1) := rfl
theorem at_75_140 : ai_at ai_m75 140 = some (.getfield 15, 3) := rfl
theorem at_75_143 : ai_at ai_m75 143 = some (.iload 7, 2) := rfl
theorem at_75_145 : ai_at ai_m75 145 = some (.iaload, 1) := rfl
theorem at_75_146 : ai_at ai_m75 146 = some (.iload 8, 2) := rfl
theorem at_75_148 : ai_at ai_m75 148 = some (.invokevirtual 93, 3) := rfl
theorem at_75_151 : ai_at ai_m75 151 = some (.ifCond .ne 5, 3) := rfl
theorem at_75_154 : ai_at ai_m75 154 = some (.iconst 0, 1) := rfl
theorem at_75_155 : ai_at ai_m75 155 = some (.ireturn, 1) := rfl
theorem at_75_156 : ai_at ai_m75 156 = some (.iload 4, 2) := rfl
theorem at_75_158 : ai_at ai_m75 158 = some (.iload 8, 2) := rfl
theorem at_75_160 : ai_at ai_m75 160 = some (.iadd, 1) := rfl
theorem at_75_161 : ai_at ai_m75 161 = some (.istore 4, 2) := rfl
theorem at_75_163 : ai_at ai_m75 163 = some (.iinc 5 1, 3) := rfl
theorem at_75_166 : ai_at ai_m75 166 = some (.goto (-135), 3) := rfl
theorem at_75_169 : ai_at ai_m75 169 = some (.iconst 1, 1) := rfl
theorem at_75_170 : ai_at ai_m75 170 = some (.ireturn, 1) := rfl
theorem fl_8_9 : ai_fld 8 9 = some (8, 2, false) := by decide +kernel
theorem fl_8_15 : ai_fld 8 15 = some (8, 3, false) := by decide +kernel
theorem fl_8_60 : ai_fld 8 60 = some (4, 0, true) := by decide +kernel
theorem fl_8_64 : ai_fld 8 64 = some (4, 1, true) := by decide +kernel
theorem mt_8_83 : ai_mth 8 83 = some (2, 158, 2, 0) := by decide +kernel
theorem mt_8_89 : ai_mth 8 89 = some (3, 12, 1, 0) := by decide +kernel
theorem mt_8_93 : ai_mth 8 93 = some (0, 88, 4, 4) := by decide +kernel
set_option maxHeartbeats 4000000 in
theorem r_inst1 {a b n m f0 N : Nat} {T U E : Nat → Int} {pl : Int} {w p : List Int} (hA : ∀ c, 117 ≤ c → A c = 0) (ho : ai_obj S 412 8 = some (rwf pl)) (hE : ai_arr S 413 0 = some (24, ax_f E)) (ha : tm S a T n) (hT : wd T n w) (hb : tm S b U m) (hU : wd U m p) (hwl : w.length ≤ 24) (hpl : p.length ≤ 24) (hEv : ∀ j : Nat, j < w.length → E j = (j : Int) + tl A 1 (w.drop j)) (hpv : al (fun c => c < 123) p) (hN : ts A N w) (hsa : a + 1 < 412 ∨ 416 < a) (hsb : b + 1 < 412 ∨ 416 < b) (hl : 414 < S.1) {r0 : Option sgm} : ∀ (p' : List Int) (i at' : Nat) (s : sgm) (B : Nat → Int) (nn kk : Nat) (x6 x7 x8 : Option Value), p.drop i = p' → i ≤ p.length → at' ≤ w.length → mtf A p' (w.drop at') s = r0 → ts A nn p' → ts A (nn + kk) (w.drop at') → rpB A w B s → ai_aw L xs (d + 1) ai_m75 (fun o => ∃ v S', o = (.inl v, S') ∧ ∃ B' z, S' = ai_wr S 414 (.inl (0, ai_I 6 (ax_f (B')))) ∧ v = some (ax_i z) ∧ bz z (r0.isSome = true) ∧ ∀ s, r0 = some s → rpB A w B' s) (31, [some (.ref 412), some (.ref a), some (ax_i (f0 : Nat)), some (.ref b), some (ax_i (at' : Nat)), some (ax_i (i : Nat)), x6, x7, x8], [], ai_wr S 414 (.inl (0, ai_I 6 (ax_f (B))))) := by
  have en : n = w.length := by rw [hT.1]; omega
  subst en
  have em : m = p.length := by rw [hU.1]; omega
  subst em
  intro p'
  induction p' with
  | nil =>
    intro i at' s B nn kk x6 x7 x8 hp' hi2 hat hr hn1 hn2 hB
    have ho2 := (ai_obj_wr (a := 414) (x := .inl (0, ai_I 6 (ax_f (B)))) (show 412 ≠ 414 by decide)).trans ho
    have ha2 : tm (ai_wr S 414 (.inl (0, ai_I 6 (ax_f (B))))) a T w.length := ⟨(ai_obj_wr (by omega)).trans ha.1, (ai_arr_wr (by omega)).trans ha.2⟩
    have hb2 : tm (ai_wr S 414 (.inl (0, ai_I 6 (ax_f (B))))) b U p.length := ⟨(ai_obj_wr (by omega)).trans hb.1, (ai_arr_wr (by omega)).trans hb.2⟩
    have hE2 : ai_arr (ai_wr S 414 (.inl (0, ai_I 6 (ax_f (B))))) 413 0 = some (24, ax_f E) := (ai_arr_wr (by decide)).trans hE
    have hB2 : ai_arr (ai_wr S 414 (.inl (0, ai_I 6 (ax_f (B))))) 414 0 = some (6, ax_f B) := ai_arr_wrS hl
    have hi : p.length ≤ i := List.drop_eq_nil_iff.1 hp'
    have hr' : some s = r0 := hr
    refine aw_loc at_75_31 rfl rfl ?_
    refine aw_loc at_75_33 rfl rfl ?_
    refine aw_get at_75_34 rfl fl_8_64 hb2.1 rfl ?_
    refine ax_icmp_ge at_75_37 ⟨by omega, by omega⟩ ⟨by omega, by omega⟩ (fun _ => ?_) (fun z => absurd z (by omega))
    show ai_aw L xs (d + 1) ai_m75 _ (169, _, _, _)
    refine aw_pure (st' := ax_i (1) :: _) at_75_169 rfl rfl ?_
    exact ax_retZ at_75_170 rfl (Or.inr rfl) ⟨_, _, rfl, B, 1, rfl, rfl, Or.inr ⟨rfl, by rw [← hr']; rfl⟩, fun s2 hs2 => by rw [← Option.some.inj (hr'.trans hs2)]; exact hB⟩
  | cons c p' ih =>
    intro i at' s B nn kk x6 x7 x8 hp' hi2 hat hr hn1 hn2 hB
    have ho2 := (ai_obj_wr (a := 414) (x := .inl (0, ai_I 6 (ax_f (B)))) (show 412 ≠ 414 by decide)).trans ho
    have ha2 : tm (ai_wr S 414 (.inl (0, ai_I 6 (ax_f (B))))) a T w.length := ⟨(ai_obj_wr (by omega)).trans ha.1, (ai_arr_wr (by omega)).trans ha.2⟩
    have hb2 : tm (ai_wr S 414 (.inl (0, ai_I 6 (ax_f (B))))) b U p.length := ⟨(ai_obj_wr (by omega)).trans hb.1, (ai_arr_wr (by omega)).trans hb.2⟩
    have hE2 : ai_arr (ai_wr S 414 (.inl (0, ai_I 6 (ax_f (B))))) 413 0 = some (24, ax_f E) := (ai_arr_wr (by decide)).trans hE
    have hB2 : ai_arr (ai_wr S 414 (.inl (0, ai_I 6 (ax_f (B))))) 414 0 = some (6, ax_f B) := ai_arr_wrS hl
    have hi : i < p.length := by have := congrArg List.length hp'; rw [List.length_drop, List.length_cons] at this; omega
    have hpc := drop_cons hi
    rw [hp'] at hpc
    have hc0 : c = p.getD i 0 := (List.cons.inj hpc).1
    have hp1 : p.drop (i + 1) = p' := (List.cons.inj hpc).2.symm
    have hUi : U i = c := (hU.2.1 i hi (by omega)).trans hc0.symm
    have hcv : c < 123 := hpv c (by rw [hc0, getD_eq hi]; exact List.getElem_mem _)
    have hc65 := hU.2.2 i
    rw [hUi] at hc65
    obtain ⟨m, rfl⟩ : ∃ m, nn = m + 1 := by
      cases nn with
      | zero => exact hn1.elim
      | succ m => exact ⟨m, rfl⟩
    have hn3 : ts A (m + kk + 1) (w.drop at') := by rw [show m + kk + 1 = m + 1 + kk by omega]; exact hn2
    have hat2 := ts_lt hn3
    have hTa : T at' = w.getD at' 0 := hT.2.1 at' hat2 (by omega)
    have hT65 := hT.2.2 at'
    have hn1' : ts A (m + A c) p' := hn1
    refine aw_loc at_75_31 rfl rfl ?_
    refine aw_loc at_75_33 rfl rfl ?_
    refine aw_get at_75_34 rfl fl_8_64 hb2.1 rfl ?_
    refine ax_icmp_ge at_75_37 ⟨by omega, by omega⟩ ⟨by omega, by omega⟩ (fun z => absurd z (by omega)) (fun _ => ?_)
    refine aw_loc at_75_40 rfl rfl ?_
    refine aw_get at_75_41 rfl fl_8_60 hb2.1 rfl ?_
    refine aw_loc at_75_44 rfl rfl ?_
    refine ax_cld at_75_46 rfl hb2.2 (k := i) rfl (by omega) (by decide) ?_
    refine aw_loc at_75_47 rfl rfl ?_
    rw [hUi]
    refine aw_loc at_75_49 rfl rfl ?_
    refine aw_loc at_75_51 rfl rfl ?_
    refine aw_get at_75_52 rfl fl_8_64 ha2.1 rfl ?_
    refine ax_icmp_ge at_75_55 ⟨by omega, by omega⟩ ⟨by omega, by omega⟩ (fun z => absurd z (by omega)) (fun _ => ?_)
    refine aw_loc at_75_58 rfl rfl ?_
    refine aw_cs [ax_i c] [] at_75_60 rfl mt_8_89 (Or.inr (Or.inl rfl)) rfl rfl (Nat.le_of_ble_eq_true rfl) ((r_isVar (by omega)).mono ?_)
    rintro v S0 ⟨hS, r1, rfl, hr1⟩
    have hS2 := hS.symm
    subst hS2
    have hr19 := hr1.le
    unfold bz at hr1
    refine ax_if_ne at_75_63 ⟨by omega, by omega⟩ (fun z => ?_) (fun z => ?_)
    · skip
      have hv : 117 ≤ c := by omega
      refine aw_loc at_75_80 rfl rfl ?_
      refine aw_cs [ax_i c] [] at_75_82 rfl mt_8_89 (Or.inr (Or.inl rfl)) rfl rfl (Nat.le_of_ble_eq_true rfl) ((r_isVar (by omega)).mono ?_)
      rintro v S0 ⟨hS, r2, rfl, hr2⟩
      have hS2 := hS.symm
      subst hS2
      have hr29 := hr2.le
      unfold bz at hr2
      refine ax_if_ne at_75_85 ⟨by omega, by omega⟩ (fun _ => ?_) (fun z => absurd hv (by omega))
      show ai_aw L xs (d + 1) ai_m75 _ (94, _, _, _)
      have hEa := hEv at' hat2
      have e8 : E at' - (at' : Int) = ((tl A 1 (w.drop at') : Nat) : Int) := by rw [hEa]; omega
      have htl := tl_le (A := A) (w.drop at') 1
      rw [List.length_drop] at htl
      have hBk := hB.1 (c - 117).toNat (by omega)
      rw [hA c hv, Nat.add_zero] at hn1'
      have hn4 : ts A (m + kk) (w.drop (at' + tl A 1 (w.drop at'))) := ts_skip (by rw [Nat.add_comm 1]; exact hn3)
      refine aw_loc at_75_94 rfl rfl ?_
      refine aw_pure (st' := ax_i (117) :: _) at_75_96 rfl rfl ?_
      refine ax_sub at_75_98 rfl ?_
      refine aw_loc at_75_99 rfl rfl ?_
      refine aw_loc at_75_101 rfl rfl ?_
      refine aw_get at_75_102 rfl fl_8_9 ho2 rfl ?_
      refine aw_loc at_75_105 rfl rfl ?_
      refine ax_ild at_75_107 rfl hE2 (k := at') rfl (by omega) (by decide) ?_
      refine aw_loc at_75_108 rfl rfl ?_
      refine ax_sub at_75_110 rfl ?_
      refine aw_loc at_75_111 rfl rfl ?_
      rw [e8]
      refine aw_loc at_75_113 rfl rfl ?_
      refine aw_get at_75_114 rfl fl_8_15 ho2 rfl ?_
      refine aw_loc at_75_117 rfl rfl ?_
      refine ax_ild at_75_119 rfl hB2 (k := (c - 117).toNat) (by omega) (by omega) (by decide) ?_
      rcases hB.2 c hv hcv with ⟨hs0, hb0⟩ | ⟨b0, hb0, hb1, hs0⟩
      · skip
        refine ax_if_ge at_75_120 ⟨by omega, by omega⟩ (fun z => absurd z (by omega)) (fun _ => ?_)
        rw [mtf_new hat2 hv hs0] at hr
        refine aw_loc at_75_123 rfl rfl ?_
        refine aw_get at_75_124 rfl fl_8_15 ho2 rfl ?_
        refine aw_loc at_75_127 rfl rfl ?_
        refine aw_loc at_75_129 rfl rfl ?_
        refine ax_ist (k := (c - 117).toNat) at_75_131 rfl hB2 (by omega) (by omega) (by decide) ?_
        rw [ai_wr_wr]
        refine aw_goto at_75_132 ?_
        refine aw_loc at_75_156 rfl rfl ?_
        refine aw_loc at_75_158 rfl rfl ?_
        refine ax_add at_75_160 rfl ?_
        refine aw_loc at_75_161 rfl rfl ?_
        refine ax_inc at_75_163 rfl rfl rfl ?_
        refine aw_goto at_75_166 ?_
        have := fun y6 y7 y8 => ih (i + 1) (at' + tl A 1 (w.drop at')) (s_up s c (sb A w at')) (ax_up B (c - 117).toNat at') m kk y6 y7 y8 hp1 (by omega) (by omega) hr hn1' hn4 (rpB_up hB ⟨hv, hcv⟩ hat2 hwl)
        rw [Int.natCast_add, Int.natCast_add] at this
        exact this _ _ _
      · skip
        refine ax_if_ge at_75_120 ⟨by omega, by omega⟩ (fun _ => ?_) (fun z => absurd z (by omega))
        show ai_aw L xs (d + 1) ai_m75 _ (135, _, _, _)
        rw [mtf_old hat2 hv hs0] at hr
        refine aw_loc at_75_135 rfl rfl ?_
        refine aw_loc at_75_136 rfl rfl ?_
        refine aw_loc at_75_138 rfl rfl ?_
        refine aw_loc at_75_139 rfl rfl ?_
        refine aw_get at_75_140 rfl fl_8_15 ho2 rfl ?_
        refine aw_loc at_75_143 rfl rfl ?_
        refine ax_ild at_75_145 rfl hB2 (k := (c - 117).toNat) (by omega) (by omega) (by decide) ?_
        rw [hb0]
        refine aw_loc at_75_146 rfl rfl ?_
        refine aw_cv (a := a) [ax_i (at' : Nat), .ref a, ax_i (b0 : Nat), ax_i (tl A 1 (w.drop at') : Nat)] [] at_75_148 mt_8_93 (Or.inl rfl) rfl rfl (Nat.le_of_ble_eq_true rfl) ⟨_, ha2.1⟩ ((r_samePart ha2 ha2 hT.2.2 hT.2.2 (by omega) (by omega) (by omega)).mono ?_)
        rintro v S0 ⟨hS, r3, rfl, hr3⟩
        have hS2 := hS.symm
        subst hS2
        have hr39 := hr3.le
        have hsm := same_iff hN hwl (fun i hi => hT.2.1 i hi (by omega)) hat2 hb1
        refine ax_if_ne at_75_151 ⟨by omega, by omega⟩ (fun z => ?_) (fun z => ?_)
        · skip
          have hp9 := hsm.1 ((hr3.resolve_left (fun h => z h.1)).2)
          rw [if_pos hp9] at hr
          refine aw_loc at_75_156 rfl rfl ?_
          refine aw_loc at_75_158 rfl rfl ?_
          refine ax_add at_75_160 rfl ?_
          refine aw_loc at_75_161 rfl rfl ?_
          refine ax_inc at_75_163 rfl rfl rfl ?_
          refine aw_goto at_75_166 ?_
          have := fun y6 y7 y8 => ih (i + 1) (at' + tl A 1 (w.drop at')) s B m kk y6 y7 y8 hp1 (by omega) (by omega) hr hn1' hn4 hB
          rw [Int.natCast_add, Int.natCast_add] at this
          exact this _ _ _
        · skip
          have hp9 : ¬ sb A w b0 = sb A w at' := fun h => (hr3.elim (fun h2 => h2.2 (hsm.2 h)) (fun h2 => absurd (z.symm.trans h2.1) (by decide)))
          rw [if_neg hp9] at hr
          refine aw_pure (st' := ax_i (0) :: _) at_75_154 rfl rfl ?_
          exact ax_retZ at_75_155 rfl (Or.inl rfl) ⟨_, _, rfl, B, 0, rfl, rfl, Or.inl ⟨rfl, by rw [← hr]; intro h; cases h⟩, fun s2 hs2 => by rw [← hr] at hs2; cases hs2⟩
    · skip
      have hv : c < 117 := by omega
      rw [mtf_sym hat2 hv] at hr
      refine aw_loc at_75_66 rfl rfl ?_
      refine aw_loc at_75_68 rfl rfl ?_
      refine aw_get at_75_69 rfl fl_8_60 ha2.1 rfl ?_
      refine aw_loc at_75_72 rfl rfl ?_
      refine ax_cld at_75_74 rfl ha2.2 (k := at') rfl (by omega) (by decide) ?_
      refine ax_icmp_eq at_75_75 ⟨by omega, by omega⟩ ⟨by omega, by omega⟩ (fun z3 => ?_) (fun z3 => ?_)
      · skip
        rw [hTa] at z3
        rw [if_pos z3] at hr
        have hn4 := ts_next hat2 hn3
        rw [← z3, show m + kk + A c = m + A c + kk by omega] at hn4
        refine aw_loc at_75_80 rfl rfl ?_
        refine aw_cs [ax_i c] [] at_75_82 rfl mt_8_89 (Or.inr (Or.inl rfl)) rfl rfl (Nat.le_of_ble_eq_true rfl) ((r_isVar (by omega)).mono ?_)
        rintro v S0 ⟨hS, r2, rfl, hr2⟩
        have hS2 := hS.symm
        subst hS2
        have hr29 := hr2.le
        unfold bz at hr2
        refine ax_if_ne at_75_85 ⟨by omega, by omega⟩ (fun z4 => absurd hv (by omega)) (fun _ => ?_)
        refine ax_inc at_75_88 rfl rfl rfl ?_
        refine aw_goto at_75_91 ?_
        refine ax_inc at_75_163 rfl rfl rfl ?_
        refine aw_goto at_75_166 ?_
        have := fun y6 y7 y8 => ih (i + 1) (at' + 1) s B (m + A c) kk y6 y7 y8 hp1 (by omega) (by omega) hr hn1' hn4 hB
        rw [Int.natCast_add, Int.natCast_add] at this
        exact this _ _ _
      · skip
        rw [hTa] at z3
        rw [if_neg z3] at hr
        refine aw_pure (st' := ax_i (0) :: _) at_75_78 rfl rfl ?_
        exact ax_retZ at_75_79 rfl (Or.inl rfl) ⟨_, _, rfl, B, 0, rfl, rfl, Or.inl ⟨rfl, by rw [← hr]; intro h; cases h⟩, fun s2 hs2 => by rw [← hr] at hs2; cases hs2⟩
set_option maxHeartbeats 2000000 in
theorem r_inst {B : Nat → Int} {a b n m f0 N : Nat} {T U E : Nat → Int} {pl : Int} {w p : List Int} (hA : ∀ c, 117 ≤ c → A c = 0) (ho : ai_obj S 412 8 = some (rwf pl)) (hE : ai_arr S 413 0 = some (24, ax_f E)) (ha : tm S a T n) (hT : wd T n w) (hb : tm S b U m) (hU : wd U m p) (hwl : w.length ≤ 24) (hpl : p.length ≤ 24) (hEv : ∀ j : Nat, j < w.length → E j = (j : Int) + tl A 1 (w.drop j)) (hpv : al (fun c => c < 123) p) (hN : ts A N w) (hsa : a + 1 < 412 ∨ 416 < a) (hsb : b + 1 < 412 ∨ 416 < b) (hB : ai_arr S 414 0 = some (6, ax_f B)) (hpt : ts A 1 p) (hp0 : ∃ c u, p = c :: u ∧ c < 117) (hf : f0 < w.length) : ai_rn L xs (d + 2) 75 [.ref 412, .ref a, ax_i (f0 : Nat), .ref b] S (fun v S' => ∃ B' z, S' = ai_wr S 414 (.inl (0, ai_I 6 (ax_f (B')))) ∧ v = some (ax_i z) ∧ bz z ((mtf A p (w.drop f0) s_no).isSome = true) ∧ ∀ s, mtf A p (w.drop f0) s_no = some s → rpB A w B' s) := by
  have hl : 414 < S.1 := (ai_arr_inv hB).1
  obtain ⟨c, u, hpc, hc⟩ := hp0
  have hlen : 0 < p.length := by rw [hpc, List.length_cons]; omega
  have hU0 : U 0 = c := (hU.2.1 0 hlen (by omega)).trans (by rw [hpc]; rfl)
  have hTf : T f0 = w.getD f0 0 := hT.2.1 f0 hf (by omega)
  have h65 := hT.2.2 f0
  have h66 := hU.2.2 0
  obtain ⟨kk, hkk⟩ := ts_drop w N hN f0 hf
  refine ai_rn_of (M := ai_m75) rfl (by decide) (Nat.le_of_ble_eq_true rfl) ?_
  refine aw_loc at_75_0 rfl rfl ?_
  refine aw_get at_75_1 rfl fl_8_60 ha.1 rfl ?_
  refine aw_loc at_75_4 rfl rfl ?_
  refine ax_cld at_75_5 rfl ha.2 (k := f0) rfl (by omega) (by decide) ?_
  refine aw_loc at_75_6 rfl rfl ?_
  refine aw_get at_75_7 rfl fl_8_60 hb.1 rfl ?_
  refine aw_pure (st' := ax_i (0) :: _) at_75_10 rfl rfl ?_
  refine ax_cld at_75_11 rfl hb.2 (k := 0) rfl (by omega) (by decide) ?_
  refine ax_icmp_eq at_75_12 ⟨by omega, by omega⟩ ⟨by omega, by omega⟩ (fun z => ?_) (fun z => ?_)
  · skip
    refine aw_loc at_75_17 rfl rfl ?_
    refine aw_get at_75_18 rfl fl_8_15 ho rfl ?_
    refine aw_pure (st' := ax_i (-1) :: _) at_75_21 rfl rfl ?_
    refine aw_cs [.ref 414, ax_i (-1)] [] at_75_22 rfl mt_8_83 (Or.inl rfl) rfl rfl (Nat.le_of_ble_eq_true rfl) ((r_fill hB (by decide)).mono ?_)
    rintro v S0 ⟨rfl, rfl⟩
    refine aw_loc at_75_25 rfl rfl ?_
    refine aw_loc at_75_26 rfl rfl ?_
    refine aw_pure (st' := ax_i (0) :: _) at_75_28 rfl rfl ?_
    refine aw_loc at_75_29 rfl rfl ?_
    exact r_inst1 (f0 := f0) hA ho hE ha hT hb hU hwl hpl hEv hpv hN hsa hsb hl p 0 f0 s_no (fi B (-1) 6) 1 kk _ _ _ rfl (by omega) (by omega) rfl hpt hkk (rpB_eq (rpB_none w) (fun i hi => if_pos hi))
  · skip
    have hr : mtf A p (w.drop f0) s_no = none := by rw [hpc, mtf_sym hf hc, if_neg (fun h => z (by rw [hTf, hU0, h]))]
    refine aw_pure (st' := ax_i (0) :: _) at_75_15 rfl rfl ?_
    exact ax_retZ at_75_16 rfl (Or.inl rfl) ⟨_, _, rfl, B, 0, (ai_wr_id (ai_arr_inv hB).2).symm, rfl, Or.inl ⟨rfl, by rw [hr]; intro h; cases h⟩, fun s2 hs2 => by rw [hr] at hs2; cases hs2⟩
end IN

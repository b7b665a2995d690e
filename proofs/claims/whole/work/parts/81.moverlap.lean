/-! The reference: the overlaps of two rules. -/
section MV
variable {L : Nat} {xs : Nat → Int32} {d : Nat} {S S' : ai_S} {T D n rc wt kp sx sc : Int} {F : Nat → Nat → Int} {B : Nat → Int} {P : Nat → Int} {A : Int → Nat} {Rs Vs : rls} {G O U : Nat → Int}
/-- the reference with its rules and its waiting ones -/
def mgg (S : ai_S) (A : Int → Nat) (T D n : Int) (Rs Vs : rls) (kp sx sc : Int) (F : Nat → Nat → Int) (B : Nat → Int) : Prop := mst S T D n (Rs.length : Int) (Vs.length : Int) kp sx sc F B ∧ (mpk A F ∧ ∀ c, A c ≤ 2) ∧ (mrl F Rs ∧ Rs.length ≤ 14 ∧ ∀ q, q ∈ Rs → okr A (F 0) q) ∧ (mpl F Vs ∧ Vs.length ≤ 48 ∧ ∀ q, q ∈ Vs → okv A (F 0) q) ∧ xr (F 9) ∧ xr (F 6) ∧ xr (F 13)
/-- the first rows stay -/
def eqo (F F' : Nat → Nat → Int) : Prop := ∀ i, i < 6 → F' i = F i
theorem eqo.rf (F : Nat → Nat → Int) : eqo F F := fun _ _ => rfl
theorem eqo.tr {F F' F'' : Nat → Nat → Int} (h1 : eqo F F') (h2 : eqo F' F'') : eqo F F'' := fun i h => (h2 i h).trans (h1 i h)
theorem eqa.o {F F' : Nat → Nat → Int} (h : eqa F F') : eqo F F' := fun i hi => h i (by omega) (by omega) (by omega) (by omega) (by omega) (by omega) (by omega) (by omega)
theorem kpt.rf (F : Nat → Nat → Int) : kpt F F := fun _ _ _ h => h
theorem kpt.tr {F F' F'' : Nat → Nat → Int} (h1 : kpt F F') (h2 : kpt F' F'') : kpt F F'' := fun j q a h => h2 j q a (h1 j q a h)
theorem kpt.eq {F F' : Nat → Nat → Int} (h : ∀ i, i < 9 → F' i = F i) : kpt F F' := fun j q _ hq => by rw [h 6 (by decide), h 7 (by decide), h 8 (by decide)]; exact hq
theorem mrl_eqo {F F' : Nat → Nat → Int} (h : eqo F F') (hr : mrl F Rs) : mrl F' Rs := fun k hk => by rw [h 3 (by decide), h 4 (by decide), h 5 (by decide)]; exact hr k hk
theorem mpk_eqo {F F' : Nat → Nat → Int} (h : eqo F F') (hr : mpk A F) : mpk A F' := by unfold mpk; rw [h 0 (by decide)]; exact hr
theorem mpl_eq {F F' : Nat → Nat → Int} (h : ∀ i, i < 9 → F' i = F i) (hr : mpl F Vs) : mpl F' Vs := fun k hk => by rw [h 6 (by decide), h 7 (by decide), h 8 (by decide)]; exact hr k hk
theorem eqo_9 {F F' : Nat → Nat → Int} (h : ∀ i, i < 9 → F' i = F i) : eqo F F' := fun i hi => h i (by omega)
theorem mgg_eq {F' : Nat → Nat → Int} {S1 : ai_S} (h : mgg S A T D n Rs Vs kp sx sc F B) (h1 : mst S1 T D n (Rs.length : Int) (Vs.length : Int) kp sx sc F' B) (he : ∀ i, i < 9 → F' i = F i) (x9 : xr (F' 9)) (x13 : xr (F' 13)) : mgg S1 A T D n Rs Vs kp sx sc F' B :=
  ⟨h1, ⟨mpk_eqo (eqo_9 he) h.2.1.1, h.2.1.2⟩, ⟨mrl_eqo (eqo_9 he) h.2.2.1.1, h.2.2.1.2.1, by rw [he 0 (by decide)]; exact h.2.2.1.2.2⟩, ⟨mpl_eq he h.2.2.2.1.1, h.2.2.2.1.2.1, by rw [he 0 (by decide)]; exact h.2.2.2.1.2.2⟩, x9, by rw [he 6 (by decide)]; exact h.2.2.2.2.2.1, x13⟩
theorem mrw_10 {Z : Nat → Int} : fup (mrw F G O U) 10 Z = mrw (fup F 10 Z) G O U := by
  unfold mrw
  rw [fup_comm _ (show 16 ≠ 10 by decide), fup_comm _ (show 15 ≠ 10 by decide), fup_comm _ (show 14 ≠ 10 by decide)]
theorem mwl_stay {X Z : Nat → Int} {t s : Nat} {w : List Int} (hn : s ≠ t) (h1 : ∀ i, (i < 64 * t ∨ 64 * t + 64 ≤ i) → X i = F 9 i) (h2 : ∀ i, i ≠ t → Z i = F 10 i) (h : mwl (F 9) (F 10) s w) : mwl X Z s w := by
  unfold mwl mwd
  rw [h2 s hn]
  refine h.imp (fun g => ⟨g.1, g.2.1, fun i a b => ?_⟩) id
  rw [h1 (64 * s + i) (by omega)]
  exact g.2.2 i a b
theorem ind_mem {k : Nat} (h : k < Rs.length) : Rs.getD k q_no ∈ Rs := mem_getD.2 ⟨k, h, rfl⟩
theorem at_140_0 : ai_at ai_m140 0 = some (.iload_n 1, 1) := rfl
theorem at_140_1 : ai_at ai_m140 1 = some (.iload_n 2, 1) := rfl
theorem at_140_2 : ai_at ai_m140 2 = some (.if_icmp .ne 7, 3) := rfl
theorem at_140_5 : ai_at ai_m140 5 = some (.iconst 1, 1) := rfl
theorem at_140_6 : ai_at ai_m140 6 = some (.goto 4, 3) := rfl
theorem at_140_9 : ai_at ai_m140 9 = some (.iconst 0, 1) := rfl
theorem at_140_10 : ai_at ai_m140 10 = some (.istore_n 3, 1) := rfl
theorem at_140_11 : ai_at ai_m140 11 = some (.iload_n 3, 1) := rfl
theorem at_140_12 : ai_at ai_m140 12 = some (.aload_n 0, 1) := rfl
theorem at_140_13 : ai_at ai_m140 13 = some (.getfield 22, 3) := rfl
theorem at_140_16 : ai_at ai_m140 16 = some (.iload_n 2, 1) := rfl
theorem at_140_17 : ai_at ai_m140 17 = some (.iaload, 1) := rfl
theorem at_140_18 : ai_at ai_m140 18 = some (.if_icmp .ge 126, 3) := rfl
theorem at_140_21 : ai_at ai_m140 21 = some (.aload_n 0, 1) := rfl
theorem at_140_22 : ai_at ai_m140 22 = some (.getfield 150, 3) := rfl
theorem at_140_25 : ai_at ai_m140 25 = some (.ifCond .ne 119, 3) := rfl
theorem at_140_28 : ai_at ai_m140 28 = some (.aload_n 0, 1) := rfl
theorem at_140_29 : ai_at ai_m140 29 = some (.iload_n 1, 1) := rfl
theorem at_140_30 : ai_at ai_m140 30 = some (.iload_n 2, 1) := rfl
theorem at_140_31 : ai_at ai_m140 31 = some (.invokevirtual 184, 3) := rfl
theorem at_140_34 : ai_at ai_m140 34 = some (.aload_n 0, 1) := rfl
theorem at_140_35 : ai_at ai_m140 35 = some (.getfield 49, 3) := rfl
theorem at_140_38 : ai_at ai_m140 38 = some (.iconst 0, 1) := rfl
theorem at_140_39 : ai_at ai_m140 39 = some (.iload_n 3, 1) := rfl
theorem at_140_40 : ai_at ai_m140 40 = some (.iadd, 1) := rfl
theorem at_140_41 : ai_at ai_m140 41 = some (.iaload, 1) := rfl
theorem at_140_42 : ai_at ai_m140 42 = some (.bipush 8, 2) := rfl
theorem at_140_44 : ai_at ai_m140 44 = some (.if_icmp .ge 94, 3) := rfl
theorem at_140_47 : ai_at ai_m140 47 = some (.aload_n 0, 1) := rfl
theorem at_140_48 : ai_at ai_m140 48 = some (.iconst 0, 1) := rfl
theorem at_140_49 : ai_at ai_m140 49 = some (.iload_n 3, 1) := rfl
theorem at_140_50 : ai_at ai_m140 50 = some (.iadd, 1) := rfl
theorem at_140_51 : ai_at ai_m140 51 = some (.bipush 32, 2) := rfl
theorem at_140_53 : ai_at ai_m140 53 = some (.invokevirtual 187, 3) := rfl
theorem at_140_56 : ai_at ai_m140 56 = some (.ifCond .eq 82, 3) := rfl
theorem at_140_59 : ai_at ai_m140 59 = some (.aload_n 0, 1) := rfl
theorem at_140_60 : ai_at ai_m140 60 = some (.getfield 40, 3) := rfl
theorem at_140_63 : ai_at ai_m140 63 = some (.iconst 0, 1) := rfl
theorem at_140_64 : ai_at ai_m140 64 = some (.iconst 0, 1) := rfl
theorem at_140_65 : ai_at ai_m140 65 = some (.iastore, 1) := rfl
theorem at_140_66 : ai_at ai_m140 66 = some (.aload_n 0, 1) := rfl
theorem at_140_67 : ai_at ai_m140 67 = some (.getfield 40, 3) := rfl
theorem at_140_70 : ai_at ai_m140 70 = some (.iconst 1, 1) := rfl
theorem at_140_71 : ai_at ai_m140 71 = some (.iconst 0, 1) := rfl
theorem at_140_72 : ai_at ai_m140 72 = some (.iastore, 1) := rfl
theorem at_140_73 : ai_at ai_m140 73 = some (.aload_n 0, 1) := rfl
theorem at_140_74 : ai_at ai_m140 74 = some (.iconst 0, 1) := rfl
theorem at_140_75 : ai_at ai_m140 75 = some (.iconst 0, 1) := rfl
theorem at_140_76 : ai_at ai_m140 76 = some (.iconst 0, 1) := rfl
theorem at_140_77 : ai_at ai_m140 77 = some (.iload_n 3, 1) := rfl
theorem at_140_78 : ai_at ai_m140 78 = some (.iadd, 1) := rfl
theorem at_140_79 : ai_at ai_m140 79 = some (.invokevirtual 190, 3) := rfl
theorem at_140_82 : ai_at ai_m140 82 = some (.aload_n 0, 1) := rfl
theorem at_140_83 : ai_at ai_m140 83 = some (.iconst 0, 1) := rfl
theorem at_140_84 : ai_at ai_m140 84 = some (.bipush 64, 2) := rfl
theorem at_140_86 : ai_at ai_m140 86 = some (.bipush 64, 2) := rfl
theorem at_140_88 : ai_at ai_m140 88 = some (.aload_n 0, 1) := rfl
theorem at_140_89 : ai_at ai_m140 89 = some (.getfield 25, 3) := rfl
theorem at_140_92 : ai_at ai_m140 92 = some (.iload_n 1, 1) := rfl
theorem at_140_93 : ai_at ai_m140 93 = some (.iaload, 1) := rfl
theorem at_140_94 : ai_at ai_m140 94 = some (.iadd, 1) := rfl
theorem at_140_95 : ai_at ai_m140 95 = some (.invokevirtual 190, 3) := rfl
theorem at_140_98 : ai_at ai_m140 98 = some (.aload_n 0, 1) := rfl
theorem at_140_99 : ai_at ai_m140 99 = some (.iconst 0, 1) := rfl
theorem at_140_100 : ai_at ai_m140 100 = some (.aload_n 0, 1) := rfl
theorem at_140_101 : ai_at ai_m140 101 = some (.iconst 0, 1) := rfl
theorem at_140_102 : ai_at ai_m140 102 = some (.iload_n 3, 1) := rfl
theorem at_140_103 : ai_at ai_m140 103 = some (.iadd, 1) := rfl
theorem at_140_104 : ai_at ai_m140 104 = some (.invokevirtual 178, 3) := rfl
theorem at_140_107 : ai_at ai_m140 107 = some (.iconst 0, 1) := rfl
theorem at_140_108 : ai_at ai_m140 108 = some (.aload_n 0, 1) := rfl
theorem at_140_109 : ai_at ai_m140 109 = some (.getfield 22, 3) := rfl
theorem at_140_112 : ai_at ai_m140 112 = some (.iload_n 2, 1) := rfl
theorem at_140_113 : ai_at ai_m140 113 = some (.iaload, 1) := rfl
theorem at_140_114 : ai_at ai_m140 114 = some (.iadd, 1) := rfl
theorem at_140_115 : ai_at ai_m140 115 = some (.invokevirtual 190, 3) := rfl
theorem at_140_118 : ai_at ai_m140 118 = some (.aload_n 0, 1) := rfl
theorem at_140_119 : ai_at ai_m140 119 = some (.iconst 1, 1) := rfl
theorem at_140_120 : ai_at ai_m140 120 = some (.bipush 96, 2) := rfl
theorem at_140_122 : ai_at ai_m140 122 = some (.bipush 96, 2) := rfl
theorem at_140_124 : ai_at ai_m140 124 = some (.aload_n 0, 1) := rfl
theorem at_140_125 : ai_at ai_m140 125 = some (.getfield 25, 3) := rfl
theorem at_140_128 : ai_at ai_m140 128 = some (.iload_n 2, 1) := rfl
theorem at_140_129 : ai_at ai_m140 129 = some (.iaload, 1) := rfl
theorem at_140_130 : ai_at ai_m140 130 = some (.iadd, 1) := rfl
theorem at_140_131 : ai_at ai_m140 131 = some (.invokevirtual 190, 3) := rfl
theorem at_140_134 : ai_at ai_m140 134 = some (.aload_n 0, 1) := rfl
theorem at_140_135 : ai_at ai_m140 135 = some (.invokevirtual 193, 3) := rfl
theorem at_140_138 : ai_at ai_m140 138 = some (.iinc 3 1, 3) := rfl
theorem at_140_141 : ai_at ai_m140 141 = some (.goto (-130), 3) := rfl
theorem at_140_144 : ai_at ai_m140 144 = some (.return_, 1) := rfl
theorem mt_12_184 : ai_mth 12 184 = some (0, 141, 2, 11) := by decide +kernel
theorem mt_12_187 : ai_mth 12 187 = some (0, 143, 2, 11) := by decide +kernel
theorem mt_12_190 : ai_mth 12 190 = some (0, 147, 3, 11) := by decide +kernel
theorem mt_12_193 : ai_mth 12 193 = some (0, 137, 0, 11) := by decide +kernel
set_option maxHeartbeats 80000000 in
theorem r_m_ovl1 {a b : Nat} {res : rls × Bool} (hRl : Rs.length ≤ 14) (hR : ∀ q, q ∈ Rs → okr A (F 0) q) (ha : a < Rs.length) (hb : b < Rs.length) : ∀ (m p : Nat) (S1 : ai_S) (F1 : Nat → Nat → Int) (V : rls), p + m = 24 → fr 432 452 S S1 → eqo F F1 → kpt F F1 → mgg S1 A T D n Rs V kp 0 sc F1 B → ovp A Rs (Rs.getD a q_no) (Rs.getD b q_no) p m V = res → ai_aw L xs (d + 6) ai_m140 (fun (o : ai_O) => ∃ v S', o = (.inl v, S') ∧ v = none ∧ fr 432 452 S S' ∧ ∃ F', eqo F F' ∧ kpt F F' ∧ mgg S' A T D n Rs res.1 kp (if res.2 = true then 0 else 3) sc F' B) (11, [some (.ref 432), some (ax_i (a : Nat)), some (ax_i (b : Nat)), some (ax_i (p : Nat))], [], S1) := by
  have hu := hR _ (ind_mem ha)
  have hl := hR _ (ind_mem hb)
  generalize hu9 : Rs.getD a q_no = u at hu ⊢
  generalize hl9 : Rs.getD b q_no = l at hl ⊢
  have lu := hu.1.2.1
  have ll := hl.1.2.1
  have kout : ∀ (S1 : ai_S) (F1 : Nat → Nat → Int) (p : Nat), fr 432 452 S S1 → eqo F F1 → kpt F F1 → mgg S1 A T D n Rs res.1 kp (if res.2 = true then 0 else 3) sc F1 B → ai_aw L xs (d + 6) ai_m140 (fun (o : ai_O) => ∃ v S', o = (.inl v, S') ∧ v = none ∧ fr 432 452 S S' ∧ ∃ F', eqo F F' ∧ kpt F F' ∧ mgg S' A T D n Rs res.1 kp (if res.2 = true then 0 else 3) sc F' B) (144, [some (.ref 432), some (ax_i (a : Nat)), some (ax_i (b : Nat)), some (ax_i (p : Nat))], [], S1) := fun S1 F1 p f1 e1 k1 h1 => aw_vret at_140_144 rfl ⟨_, _, rfl, rfl, f1, F1, e1, k1, h1⟩
  have kfull : ∀ (S1 : ai_S) (F1 : Nat → Nat → Int) (V : rls) (p : Nat), p ≤ 24 → fr 432 452 S S1 → eqo F F1 → kpt F F1 → mgg S1 A T D n Rs V kp 3 sc F1 B → res = (V, false) → ai_aw L xs (d + 6) ai_m140 (fun (o : ai_O) => ∃ v S', o = (.inl v, S') ∧ v = none ∧ fr 432 452 S S' ∧ ∃ F', eqo F F' ∧ kpt F F' ∧ mgg S' A T D n Rs res.1 kp (if res.2 = true then 0 else 3) sc F' B) (11, [some (.ref 432), some (ax_i (a : Nat)), some (ax_i (b : Nat)), some (ax_i (p : Nat))], [], S1) := by
    intro S1 F1 V p hp f1 e1 k1 h1 hres
    have hq := h1.2.2.1.1 b hb
    rw [hl9] at hq
    have hlen : F1 4 b = (l.1.length : Int) := hq.1.1
    have ko := kout S1 F1 p f1 e1 k1 (by rw [hres]; exact h1)
    have ho := h1.1.1
    have r4 : ai_arr S1 437 0 = some (15, ax_f (F1 4)) := h1.1.2.1 4 (by decide)
    refine aw_loc at_140_11 rfl rfl ?_
    refine aw_loc at_140_12 rfl rfl ?_
    refine aw_get at_140_13 rfl fl_12_22 ho rfl ?_
    refine aw_loc at_140_16 rfl rfl ?_
    refine ax_ild at_140_17 rfl r4 (k := b) rfl (by omega) (by decide) ?_
    rw [hlen]
    refine ax_icmp_ge at_140_18 ⟨by omega, by omega⟩ ⟨by omega, by omega⟩ (fun _ => ko) (fun _ => ?_)
    refine aw_loc at_140_21 rfl rfl ?_
    refine aw_get at_140_22 rfl fl_12_150 ho rfl ?_
    refine ax_if_ne at_140_25 ⟨by decide, by decide⟩ (fun _ => ko) (fun z => absurd z (by decide))
  intro m
  induction m with
  | zero =>
    intro p S1 F1 V hp f1 e1 k1 h1 hres
    have hq := h1.2.2.1.1 b hb
    rw [hl9] at hq
    have hlen : F1 4 b = (l.1.length : Int) := hq.1.1
    have ho := h1.1.1
    have r4 : ai_arr S1 437 0 = some (15, ax_f (F1 4)) := h1.1.2.1 4 (by decide)
    refine aw_loc at_140_11 rfl rfl ?_
    refine aw_loc at_140_12 rfl rfl ?_
    refine aw_get at_140_13 rfl fl_12_22 ho rfl ?_
    refine aw_loc at_140_16 rfl rfl ?_
    refine ax_ild at_140_17 rfl r4 (k := b) rfl (by omega) (by decide) ?_
    rw [hlen]
    refine ax_icmp_ge at_140_18 ⟨by omega, by omega⟩ ⟨by omega, by omega⟩ (fun _ => kout S1 F1 p f1 e1 k1 (by rw [← hres, ovp_past _ _ _ (by omega)]; exact h1)) (fun z => absurd z (by omega))
  | succ m ih =>
    intro p S1 F1 V hp f1 e1 k1 h1 hres
    have hq := h1.2.2.1.1 b hb
    rw [hl9] at hq
    have hlen : F1 4 b = (l.1.length : Int) := hq.1.1
    have ho := h1.1.1
    have r4 : ai_arr S1 437 0 = some (15, ax_f (F1 4)) := h1.1.2.1 4 (by decide)
    refine aw_loc at_140_11 rfl rfl ?_
    refine aw_loc at_140_12 rfl rfl ?_
    refine aw_get at_140_13 rfl fl_12_22 ho rfl ?_
    refine aw_loc at_140_16 rfl rfl ?_
    refine ax_ild at_140_17 rfl r4 (k := b) rfl (by omega) (by decide) ?_
    rw [hlen]
    refine ax_icmp_ge at_140_18 ⟨by omega, by omega⟩ ⟨by omega, by omega⟩ (fun _ => kout S1 F1 p f1 e1 k1 (by rw [← hres, ovp_past _ _ _ (by omega)]; exact h1)) (fun z => ?_)
    have hpl : p < l.1.length := by omega
    refine aw_loc at_140_21 rfl rfl ?_
    refine aw_get at_140_22 rfl fl_12_150 ho rfl ?_
    refine ax_if_ne at_140_25 ⟨by decide, by decide⟩ (fun z => absurd rfl z) (fun _ => ?_)
    have hcp : ∀ V', cpo A Rs V u l p = some V' → ovp A Rs u l (p + 1) m V' = res := fun V' h9 => by rw [← hres]; show _ = (match cpo A Rs V u l p with | none => (V, false) | some V => ovp A Rs u l (p + 1) m V); rw [h9]
    have kskip : ∀ (S2 : ai_S) (F2 : Nat → Nat → Int), fr 432 452 S S2 → (∀ i, i < 9 → F2 i = F1 i) → xr (F2 9) → xr (F2 13) → mst S2 T D n (Rs.length : Int) (V.length : Int) kp 0 sc F2 B → cpo A Rs V u l p = some V → ai_aw L xs (d + 6) ai_m140 (fun (o : ai_O) => ∃ v S', o = (.inl v, S') ∧ v = none ∧ fr 432 452 S S' ∧ ∃ F', eqo F F' ∧ kpt F F' ∧ mgg S' A T D n Rs res.1 kp (if res.2 = true then 0 else 3) sc F' B) (138, [some (.ref 432), some (ax_i (a : Nat)), some (ax_i (b : Nat)), some (ax_i (p : Nat))], [], S2) := by
      intro S2 F2 f2 e2 x9 x13 h2 hcpo
      refine ax_inc at_140_138 rfl rfl rfl ?_
      refine aw_goto at_140_141 ?_
      have := ih (p + 1) S2 F2 V (by omega) f2 (e1.tr (eqo_9 e2)) (k1.tr (kpt.eq e2)) (mgg_eq h1 h2 e2 x9 x13) (hcp V hcpo)
      rw [Int.natCast_add] at this
      exact this
    have q0 : F1 0 = F 0 := e1 0 (by decide)
    have hqu := h1.2.2.1.1 a ha
    rw [hu9] at hqu
    refine aw_loc at_140_28 rfl rfl ?_
    refine aw_loc at_140_29 rfl rfl ?_
    refine aw_loc at_140_30 rfl rfl ?_
    refine aw_cv (a := 432) [ax_i (a : Nat), ax_i (b : Nat)] [] at_140_31 mt_12_184 (Or.inl rfl) rfl rfl (Nat.le_of_ble_eq_true rfl) ⟨_, ho⟩ ((r_m_lay (d := d + 4) h1.1 hqu hq (by omega) (by omega) (by rw [q0]; exact hu.1.2.2.1) (by rw [q0]; exact hl.1.2.2.1) h1.2.2.2.2.2.2).mono ?_)
    rintro v S2 ⟨rfl, f2, C, h2x, hly, hxC⟩
    obtain ⟨F2, e2, rfl, h2⟩ : ∃ F2 : Nat → Nat → Int, (∀ i, i ≠ 13 → F2 i = F1 i) ∧ F2 13 = C ∧ mst S2 T D n (Rs.length : Int) (V.length : Int) kp 0 sc F2 B := ⟨_, fun i hi => fup_ne hi, fup_get _ _ _, h2x⟩
    have p0 : F2 0 = F 0 := (e2 0 (by decide)).trans q0
    have kl1 : al (kn (F 0) 129) l.1 := al_kn (by decide) hl.1.2.2.1.1
    have kl2 : al (kn (F 0) 129) l.2 := al_kn (by decide) hl.1.2.2.1.2
    have ku1 : al (kn (F 0) 129) (swp u).1 := al_sw hu.1.2.2.1.1
    have ku2 : al (kn (F 0) 129) (swp u).2 := al_sw hu.1.2.2.1.2
    have hA := h1.2.1.1.2.2
    have hA2 := h1.2.1.2
    have hpk : (∀ i, -1 ≤ F 0 i ∧ F 0 i ≤ 2) ∧ sam A (F 0) := by have := h1.2.1.1; unfold mpk at this; rw [q0] at this; exact this
    have su1 : (swp u).1.length = u.1.length := List.length_map _
    have su2 : (swp u).2.length = u.2.length := List.length_map _
    have tu1 : ts A 1 (swp u).1 := ts_map hA sw_inv.1 _ 1 hu.1.1.1
    have tu2 : ts A 1 (swp u).2 := ts_map hA sw_inv.1 _ 1 hu.1.1.2
    obtain ⟨hc, hen, hTm, hlq⟩ := m_laid hpk hA2 hxC hly.1 hly.2.2.1 hl.1.1.1 tu1 kl1 ku1 ll.1 (by omega)
    have hlf1 := fun i (hi : i < l.1.length) => cw_lf (P := F 0) hly.1 kl1 (by omega) hi
    have hc0 : F2 13 p = co (l.1.getD p 0) := by have := hly.1 p hpl; rw [Nat.zero_add] at this; exact this
    have hkp := kn_at kl1 hpl
    have hnp := co_in hkp
    have e29 : ∀ i, i < 9 → F2 i = F1 i := fun i hi => e2 i (by omega)
    have ho := h2.1
    have r13 : ai_arr S2 446 0 = some (128, ax_f (F2 13)) := h2.2.1 13 (by decide)
    refine aw_loc at_140_34 rfl rfl ?_
    refine aw_get at_140_35 rfl fl_12_49 ho rfl ?_
    refine aw_pure (st' := ax_i (0) :: _) at_140_38 rfl rfl ?_
    refine aw_loc at_140_39 rfl rfl ?_
    refine ax_add at_140_40 rfl ?_
    refine ax_ild at_140_41 rfl r13 (k := p) (by omega) (by omega) (by decide) ?_
    rw [hc0]
    refine aw_pure (st' := ax_i (8) :: _) at_140_42 rfl rfl ?_
    have x29 : xr (F2 9) := by rw [e2 9 (by decide)]; exact h1.2.2.2.2.1
    refine ax_icmp_ge at_140_44 ⟨by omega, by omega⟩ ⟨by omega, by omega⟩ (fun z => kskip S2 F2 (f1.tr f2) e29 x29 hxC h2 (cpo_none2 hA (fun ⟨_, h9, _⟩ => by omega))) (fun z => ?_)
    have hsy : l.1.getD p 0 < 117 := by omega
    refine aw_loc at_140_47 rfl rfl ?_
    refine aw_pure (st' := ax_i (0) :: _) at_140_48 rfl rfl ?_
    refine aw_loc at_140_49 rfl rfl ?_
    refine ax_add at_140_50 rfl ?_
    refine aw_pure (st' := ax_i (32) :: _) at_140_51 rfl rfl ?_
    rw [show (0 : Int) + (p : Int) = ((p : Nat) : Int) by omega]
    have hDp : D2 l.1 (swp u).1 32 p := Or.inl hpl
    have hD3 : D2 l.1 (swp u).1 32 32 := Or.inr ⟨Nat.le_refl _, by have := List.length_pos_iff.2 (ts_ne tu1); omega⟩
    have tp1 : T2 A l.1 (swp u).1 32 p = sb A l.1 p := if_pos hpl
    have tp2 : T2 A l.1 (swp u).1 32 32 = (swp u).1 := T2_second (by omega) tu1
    refine aw_cv (a := 432) [ax_i (p : Nat), ax_i ((32 : Nat) : Int)] [] at_140_53 mt_12_187 (Or.inl rfl) rfl rfl (Nat.le_of_ble_eq_true rfl) ⟨_, ho⟩ ((r_m_unite (d := d + 2) (F := F2) (G := F2 14) (O := F2 15) (U := F2 16) (by rw [mrw_self]; exact h2) (by rw [p0]; exact hc) hDp hD3).mono ?_)
    rintro v S3 ⟨f3, G3, O3, U3, h3, z3, rfl, hz3⟩
    have hz39 : z3 = 0 ∨ z3 = 1 := hz3.imp (fun g => g.1) (fun g => g.1)
    rw [tp1, tp2] at hz3
    have f13 := (f1.tr f2).tr f3
    refine ax_if_eq at_140_56 ⟨by omega, by omega⟩ (fun y => ?_) (fun y => ?_)
    · skip
      have hno := (hz3.resolve_right (fun g => by have := g.1; omega)).2
      exact kskip S3 _ f13 (fun i hi => (mrw_ne (by omega) (by omega) (by omega)).trans (e29 i hi)) (by rw [mrw_ne (by decide) (by decide) (by decide)]; exact x29) (by rw [mrw_ne (by decide) (by decide) (by decide)]; exact hxC) h3 (cpo_none2 hA (fun ⟨_, _, h9⟩ => hno h9))
    · skip
      obtain ⟨-, ld, f, hgl, hi⟩ := hz3.resolve_left (fun g => y g.1)
      have hmg := ldi_end hi
      rw [tp1, tp2] at hmg
      have hcpo : cpo A Rs V u l p = ah A Rs V ((cpl A (swp u) l p).flatMap f) (l.2.flatMap f) := cpo_some2 hA (fun q hq => (hR q hq).2) hu.1.1.2 hl.1.1 hpl hsy hmg
      have ho := h3.1
      have r10 : ai_arr S3 443 0 = some (3, ax_f ((mrw F2 G3 O3 U3) 10)) := h3.2.1 10 (by decide)
      rw [show (mrw F2 G3 O3 U3) 10 = F2 10 from mrw_ne (by decide) (by decide) (by decide)] at r10
      refine aw_loc at_140_59 rfl rfl ?_
      refine aw_get at_140_60 rfl fl_12_40 ho rfl ?_
      refine aw_pure (st' := ax_i (0) :: _) at_140_63 rfl rfl ?_
      refine aw_pure (st' := ax_i (0) :: _) at_140_64 rfl rfl ?_
      refine ax_ist (k := 0) at_140_65 rfl r10 rfl (by decide) (by decide) ?_
      have h4 : mst (ai_wr S3 443 (.inl (0, ai_I 3 (ax_f (ax_up (F2 10) 0 0))))) T D n (Rs.length : Int) (V.length : Int) kp 0 sc (mrw (fup F2 10 (ax_up (F2 10) 0 0)) G3 O3 U3) B := by
        have := mst_wr (i := 10) (R := (ax_up (F2 10) 0 0)) h3 (by decide)
        rw [mrw_10] at this
        exact this
      have f4 : fr 432 452 S (ai_wr S3 443 (.inl (0, ai_I 3 (ax_f (ax_up (F2 10) 0 0))))) := f13.tr (fr_md (by decide) (by decide))
      generalize (ai_wr S3 443 (.inl (0, ai_I 3 (ax_f (ax_up (F2 10) 0 0))))) = S4 at h4 f4 ⊢
      have ho := h4.1
      have r10 : ai_arr S4 443 0 = some (3, ax_f ((mrw (fup F2 10 (ax_up (F2 10) 0 0)) G3 O3 U3) 10)) := h4.2.1 10 (by decide)
      rw [show (mrw (fup F2 10 (ax_up (F2 10) 0 0)) G3 O3 U3) 10 = ax_up (F2 10) 0 0 from (mrw_ne (by decide) (by decide) (by decide)).trans (fup_get _ _ _)] at r10
      refine aw_loc at_140_66 rfl rfl ?_
      refine aw_get at_140_67 rfl fl_12_40 ho rfl ?_
      refine aw_pure (st' := ax_i (1) :: _) at_140_70 rfl rfl ?_
      refine aw_pure (st' := ax_i (0) :: _) at_140_71 rfl rfl ?_
      refine ax_ist (k := 1) at_140_72 rfl r10 rfl (by decide) (by decide) ?_
      have h5 : mst (ai_wr S4 443 (.inl (0, ai_I 3 (ax_f (ax_up (ax_up (F2 10) 0 0) 1 0))))) T D n (Rs.length : Int) (V.length : Int) kp 0 sc (mrw (fup F2 10 (ax_up (ax_up (F2 10) 0 0) 1 0)) G3 O3 U3) B := by
        have := mst_wr (i := 10) (R := (ax_up (ax_up (F2 10) 0 0) 1 0)) h4 (by decide)
        rw [mrw_10, fup_two] at this
        exact this
      have f5 : fr 432 452 S (ai_wr S4 443 (.inl (0, ai_I 3 (ax_f (ax_up (ax_up (F2 10) 0 0) 1 0))))) := f4.tr (fr_md (by decide) (by decide))
      generalize (ai_wr S4 443 (.inl (0, ai_I 3 (ax_f (ax_up (ax_up (F2 10) 0 0) 1 0))))) = S5 at h5 f5 ⊢
      obtain ⟨F5, e5, z50, z51, h5⟩ : ∃ F5 : Nat → Nat → Int, (∀ i, i ≠ 10 → F5 i = F2 i) ∧ F5 10 0 = 0 ∧ F5 10 1 = 0 ∧ mst S5 T D n (Rs.length : Int) (V.length : Int) kp 0 sc (mrw F5 G3 O3 U3) B := ⟨_, fun i hi => fup_ne hi, by rw [fup_get]; rfl, by rw [fup_get]; rfl, h5⟩
      have g5 : ∀ i, i ≠ 9 → i ≠ 10 → F5 i = F2 i := fun i _ h => e5 i h
      have x5 : xr (F5 9) := by rw [e5 9 (by decide)]; exact x29
      have w0 : mwl (F5 9) (F5 10) 0 [] := Or.inl ⟨Nat.zero_le _, z50, fun i hi => absurd hi (Nat.not_lt_zero _)⟩
      have v0 : mwl (F5 9) (F5 10) 1 [] := Or.inl ⟨Nat.zero_le _, z51, fun i hi => absurd hi (Nat.not_lt_zero _)⟩
      have ho := h5.1
      refine aw_loc at_140_73 rfl rfl ?_
      refine aw_pure (st' := ax_i (0) :: _) at_140_74 rfl rfl ?_
      refine aw_pure (st' := ax_i (0) :: _) at_140_75 rfl rfl ?_
      refine aw_pure (st' := ax_i (0) :: _) at_140_76 rfl rfl ?_
      refine aw_loc at_140_77 rfl rfl ?_
      refine ax_add at_140_78 rfl ?_
      rw [show (0 : Int) + (p : Int) = ((p : Nat) : Int) by omega]
      have s1 := cw_sl (P := F 0) hly.1 kl1 (by omega)
      have s2 := cw_sl (P := F 0) hly.2.1 kl2 (by omega)
      have s3 := cw_sl (P := F 0) hly.2.2.2 ku2 (by omega)
      have hmn : men A l.1 (swp u).1 p = p + tl A 1 (l.1.drop p) := if_pos hpl
      have hml : p + tl A 1 (l.1.drop p) ≤ l.1.length := by have := tl_le (A := A) (l.1.drop p) 1; rw [List.length_drop] at this; omega
      have c1 : ∀ a, a < l.1.length → mlf (F 0) (F2 13) (mlY (F2 13)) a := fun a h9 => by have := (hlf1 a h9).2; rw [Nat.zero_add] at this; exact this
      have c2 : ∀ a, 64 ≤ a → a < 64 + u.2.length → mlf (F 0) (F2 13) (mlY (F2 13)) a := fun a h8 h9 => by have := (cw_lf (P := F 0) (i := a - 64) hly.2.2.2 ku2 (by omega) (by omega)).2; rw [show 64 + (a - 64) = a by omega] at this; exact this
      have c4 : ∀ a, 96 ≤ a → a < 96 + l.2.length → mlf (F 0) (F2 13) (mlY (F2 13)) a := fun a h8 h9 => by have := (cw_lf (P := F 0) (i := a - 96) hly.2.1 kl2 (by omega) (by omega)).2; rw [show 96 + (a - 96) = a by omega] at this; exact this
      refine aw_cv (a := 432) [ax_i ((0 : Nat) : Int), ax_i ((0 : Nat) : Int), ax_i (p : Nat)] [] at_140_79 mt_12_190 (Or.inl rfl) rfl rfl (Nat.le_of_ble_eq_true rfl) ⟨_, ho⟩ ((r_m_spell (d := d + 3) (t := 0) (b0 := 0) (e0 := p) h5 (by rw [g5 0 (by decide) (by decide), g5 13 (by decide) (by decide), p0]; exact hc) hgl hi hen hTm hlq (by decide) w0 x5 ⟨Nat.zero_le _, by omega⟩ (by rw [g5 0 (by decide) (by decide), g5 13 (by decide) (by decide), p0]; exact fun a _ h9 => c1 a (by omega))).mono ?_)
      rintro v S6 ⟨rfl, q6, X, Z, O6, h6x, ww, xx, st1, st2⟩
      obtain ⟨F6, g6, rfl, rfl, h6⟩ : ∃ F9 : Nat → Nat → Int, (∀ i, i ≠ 9 → i ≠ 10 → F9 i = F2 i) ∧ F9 9 = X ∧ F9 10 = Z ∧ mst S6 T D n (Rs.length : Int) (V.length : Int) kp 0 sc (mrw F9 G3 O6 U3) B := ⟨_, fun i a b => ((fup_ne b).trans (fup_ne a)).trans (g5 i a b), (fup_ne (by decide)).trans (fup_get _ _ _), fup_get _ _ _, h6x⟩
      have x6 : xr (F6 9) := xx
      have f6 := f5.tr q6
      have w1 := ww
      have v1 := mwl_stay (s := 1) (t := 0) (by decide) st1 st2 v0
      have r4 : ai_arr S6 437 0 = some (15, ax_f (mrw F6 G3 O6 U3 4)) := h6.2.1 4 (by decide)
      rw [show mrw F6 G3 O6 U3 4 = F1 4 from ((mrw_ne (by decide) (by decide) (by decide)).trans (g6 4 (by decide) (by decide))).trans (e29 4 (by decide))] at r4
      have r5 : ai_arr S6 438 0 = some (15, ax_f (mrw F6 G3 O6 U3 5)) := h6.2.1 5 (by decide)
      rw [show mrw F6 G3 O6 U3 5 = F1 5 from ((mrw_ne (by decide) (by decide) (by decide)).trans (g6 5 (by decide) (by decide))).trans (e29 5 (by decide))] at r5
      have ho := h6.1
      have hla : F1 5 a = (u.2.length : Int) := hqu.1.2
      have hlb : F1 5 b = (l.2.length : Int) := hq.1.2
      refine aw_loc at_140_82 rfl rfl ?_
      refine aw_pure (st' := ax_i (0) :: _) at_140_83 rfl rfl ?_
      refine aw_pure (st' := ax_i (64) :: _) at_140_84 rfl rfl ?_
      refine aw_pure (st' := ax_i (64) :: _) at_140_86 rfl rfl ?_
      refine aw_loc at_140_88 rfl rfl ?_
      refine aw_get at_140_89 rfl fl_12_25 ho rfl ?_
      refine aw_loc at_140_92 rfl rfl ?_
      refine ax_ild at_140_93 rfl r5 (k := a) rfl (by omega) (by decide) ?_
      rw [hla]
      refine ax_add at_140_94 rfl ?_
      rw [show (64 : Int) + (u.2.length : Int) = ((64 + u.2.length : Nat) : Int) by omega]
      refine aw_cv (a := 432) [ax_i ((0 : Nat) : Int), ax_i ((64 : Nat) : Int), ax_i ((64 + u.2.length : Nat) : Int)] [] at_140_95 mt_12_190 (Or.inl rfl) rfl rfl (Nat.le_of_ble_eq_true rfl) ⟨_, ho⟩ ((r_m_spell (d := d + 3) (t := 0) (b0 := 64) (e0 := 64 + u.2.length) h6 (by rw [g6 0 (by decide) (by decide), g6 13 (by decide) (by decide), p0]; exact hc) hgl hi hen hTm hlq (by decide) w1 x6 ⟨by omega, by omega⟩ (by rw [g6 0 (by decide) (by decide), g6 13 (by decide) (by decide), p0]; exact c2)).mono ?_)
      rintro v S7 ⟨rfl, q7, X, Z, O7, h7x, ww, xx, st1, st2⟩
      obtain ⟨F7, g7, rfl, rfl, h7⟩ : ∃ F9 : Nat → Nat → Int, (∀ i, i ≠ 9 → i ≠ 10 → F9 i = F2 i) ∧ F9 9 = X ∧ F9 10 = Z ∧ mst S7 T D n (Rs.length : Int) (V.length : Int) kp 0 sc (mrw F9 G3 O7 U3) B := ⟨_, fun i a b => ((fup_ne b).trans (fup_ne a)).trans (g6 i a b), (fup_ne (by decide)).trans (fup_get _ _ _), fup_get _ _ _, h7x⟩
      have x7 : xr (F7 9) := xx
      have f7 := f6.tr q7
      have w2 := ww
      have v2 := mwl_stay (s := 1) (t := 0) (by decide) st1 st2 v1
      have r4 : ai_arr S7 437 0 = some (15, ax_f (mrw F7 G3 O7 U3 4)) := h7.2.1 4 (by decide)
      rw [show mrw F7 G3 O7 U3 4 = F1 4 from ((mrw_ne (by decide) (by decide) (by decide)).trans (g7 4 (by decide) (by decide))).trans (e29 4 (by decide))] at r4
      have r5 : ai_arr S7 438 0 = some (15, ax_f (mrw F7 G3 O7 U3 5)) := h7.2.1 5 (by decide)
      rw [show mrw F7 G3 O7 U3 5 = F1 5 from ((mrw_ne (by decide) (by decide) (by decide)).trans (g7 5 (by decide) (by decide))).trans (e29 5 (by decide))] at r5
      have ho := h7.1
      refine aw_loc at_140_98 rfl rfl ?_
      refine aw_pure (st' := ax_i (0) :: _) at_140_99 rfl rfl ?_
      refine aw_loc at_140_100 rfl rfl ?_
      refine aw_pure (st' := ax_i (0) :: _) at_140_101 rfl rfl ?_
      refine aw_loc at_140_102 rfl rfl ?_
      refine ax_add at_140_103 rfl ?_
      rw [show (0 : Int) + (p : Int) = ((p : Nat) : Int) by omega]
      refine aw_cv (a := 432) [ax_i (p : Nat)] [ax_i 0, .ref 432] at_140_104 mt_12_178 (Or.inl rfl) rfl rfl (Nat.le_of_ble_eq_true rfl) ⟨_, ho⟩ ((r_m_eic (en := men A l.1 (swp u).1) (d := d + 4) h7 (by rw [g7 0 (by decide) (by decide), p0]; exact hpk.1) (by rw [g7 13 (by decide) (by decide)]; exact hxC) (by rw [g7 0 (by decide) (by decide), g7 13 (by decide) (by decide), p0]; exact (hc.2.2.2.2 p hDp).2.2)).mono ?_)
      rintro v S0 ⟨hS, rfl⟩
      have hS2 := hS.symm
      subst hS2
      refine aw_pure (st' := ax_i (0) :: _) at_140_107 rfl rfl ?_
      refine aw_loc at_140_108 rfl rfl ?_
      refine aw_get at_140_109 rfl fl_12_22 ho rfl ?_
      refine aw_loc at_140_112 rfl rfl ?_
      refine ax_ild at_140_113 rfl r4 (k := b) rfl (by omega) (by decide) ?_
      rw [hlen]
      refine ax_add at_140_114 rfl ?_
      rw [show (0 : Int) + (l.1.length : Int) = ((l.1.length : Nat) : Int) by omega]
      refine aw_cv (a := 432) [ax_i ((0 : Nat) : Int), ax_i (men A l.1 (swp u).1 p : Nat), ax_i (l.1.length : Nat)] [] at_140_115 mt_12_190 (Or.inl rfl) rfl rfl (Nat.le_of_ble_eq_true rfl) ⟨_, ho⟩ ((r_m_spell (d := d + 3) (t := 0) (b0 := men A l.1 (swp u).1 p) (e0 := l.1.length) h7 (by rw [g7 0 (by decide) (by decide), g7 13 (by decide) (by decide), p0]; exact hc) hgl hi hen hTm hlq (by decide) w2 x7 ⟨by omega, by omega⟩ (by rw [g7 0 (by decide) (by decide), g7 13 (by decide) (by decide), p0]; exact fun a _ h9 => c1 a h9)).mono ?_)
      rintro v S8 ⟨rfl, q8, X, Z, O8, h8x, ww, xx, st1, st2⟩
      obtain ⟨F8, g8, rfl, rfl, h8⟩ : ∃ F9 : Nat → Nat → Int, (∀ i, i ≠ 9 → i ≠ 10 → F9 i = F2 i) ∧ F9 9 = X ∧ F9 10 = Z ∧ mst S8 T D n (Rs.length : Int) (V.length : Int) kp 0 sc (mrw F9 G3 O8 U3) B := ⟨_, fun i a b => ((fup_ne b).trans (fup_ne a)).trans (g7 i a b), (fup_ne (by decide)).trans (fup_get _ _ _), fup_get _ _ _, h8x⟩
      have x8 : xr (F8 9) := xx
      have f8 := f7.tr q8
      have w3 := ww
      have v3 := mwl_stay (s := 1) (t := 0) (by decide) st1 st2 v2
      have r4 : ai_arr S8 437 0 = some (15, ax_f (mrw F8 G3 O8 U3 4)) := h8.2.1 4 (by decide)
      rw [show mrw F8 G3 O8 U3 4 = F1 4 from ((mrw_ne (by decide) (by decide) (by decide)).trans (g8 4 (by decide) (by decide))).trans (e29 4 (by decide))] at r4
      have r5 : ai_arr S8 438 0 = some (15, ax_f (mrw F8 G3 O8 U3 5)) := h8.2.1 5 (by decide)
      rw [show mrw F8 G3 O8 U3 5 = F1 5 from ((mrw_ne (by decide) (by decide) (by decide)).trans (g8 5 (by decide) (by decide))).trans (e29 5 (by decide))] at r5
      have ho := h8.1
      refine aw_loc at_140_118 rfl rfl ?_
      refine aw_pure (st' := ax_i (1) :: _) at_140_119 rfl rfl ?_
      refine aw_pure (st' := ax_i (96) :: _) at_140_120 rfl rfl ?_
      refine aw_pure (st' := ax_i (96) :: _) at_140_122 rfl rfl ?_
      refine aw_loc at_140_124 rfl rfl ?_
      refine aw_get at_140_125 rfl fl_12_25 ho rfl ?_
      refine aw_loc at_140_128 rfl rfl ?_
      refine ax_ild at_140_129 rfl r5 (k := b) rfl (by omega) (by decide) ?_
      rw [hlb]
      refine ax_add at_140_130 rfl ?_
      rw [show (96 : Int) + (l.2.length : Int) = ((96 + l.2.length : Nat) : Int) by omega]
      refine aw_cv (a := 432) [ax_i ((1 : Nat) : Int), ax_i ((96 : Nat) : Int), ax_i ((96 + l.2.length : Nat) : Int)] [] at_140_131 mt_12_190 (Or.inl rfl) rfl rfl (Nat.le_of_ble_eq_true rfl) ⟨_, ho⟩ ((r_m_spell (d := d + 3) (t := 1) (b0 := 96) (e0 := 96 + l.2.length) h8 (by rw [g8 0 (by decide) (by decide), g8 13 (by decide) (by decide), p0]; exact hc) hgl hi hen hTm hlq (by decide) v3 x8 ⟨by omega, by omega⟩ (by rw [g8 0 (by decide) (by decide), g8 13 (by decide) (by decide), p0]; exact c4)).mono ?_)
      rintro v S9 ⟨rfl, q9, X, Z, O9, h9x, ww, xx, st1, st2⟩
      obtain ⟨F9, g9, rfl, rfl, h9⟩ : ∃ F9 : Nat → Nat → Int, (∀ i, i ≠ 9 → i ≠ 10 → F9 i = F2 i) ∧ F9 9 = X ∧ F9 10 = Z ∧ mst S9 T D n (Rs.length : Int) (V.length : Int) kp 0 sc (mrw F9 G3 O9 U3) B := ⟨_, fun i a b => ((fup_ne b).trans (fup_ne a)).trans (g8 i a b), (fup_ne (by decide)).trans (fup_get _ _ _), fup_get _ _ _, h9x⟩
      have x9 : xr (F9 9) := xx
      have f9 := f8.tr q9
      have v4 := ww
      have w4 := mwl_stay (s := 0) (t := 1) (by decide) st1 st2 w3
      have r4 : ai_arr S9 437 0 = some (15, ax_f (mrw F9 G3 O9 U3 4)) := h9.2.1 4 (by decide)
      rw [show mrw F9 G3 O9 U3 4 = F1 4 from ((mrw_ne (by decide) (by decide) (by decide)).trans (g9 4 (by decide) (by decide))).trans (e29 4 (by decide))] at r4
      have r5 : ai_arr S9 438 0 = some (15, ax_f (mrw F9 G3 O9 U3 5)) := h9.2.1 5 (by decide)
      rw [show mrw F9 G3 O9 U3 5 = F1 5 from ((mrw_ne (by decide) (by decide) (by decide)).trans (g9 5 (by decide) (by decide))).trans (e29 5 (by decide))] at r5
      have ho := h9.1
      have t1 : sl (mlY (F2 13)) 0 (p - 0) = l.1.take p := by rw [Nat.sub_zero, ← sl_take (mlY (F2 13)) p 0 l.1.length (by omega), s1]
      have t2 : sl (mlY (F2 13)) 64 (64 + u.2.length - 64) = (swp u).2 := by rw [show 64 + u.2.length - 64 = (swp u).2.length by omega]; exact s3
      have t3 : sl (mlY (F2 13)) (men A l.1 (swp u).1 p) (l.1.length - men A l.1 (swp u).1 p) = l.1.drop (p + tl A 1 (l.1.drop p)) := by
        have h9 := sl_drop (mlY (F2 13)) (p + tl A 1 (l.1.drop p)) 0 l.1.length
        rw [s1, Nat.zero_add] at h9
        rw [hmn]; exact h9.symm
      have t4 : sl (mlY (F2 13)) 96 (96 + l.2.length - 96) = l.2 := by rw [Nat.add_sub_cancel_left]; exact s2
      rw [t1, t2, t3, List.nil_append] at w4
      rw [t4, List.nil_append] at v4
      have hw9 : (l.1.take p).flatMap f ++ (swp u).2.flatMap f ++ (l.1.drop (p + tl A 1 (l.1.drop p))).flatMap f = (cpl A (swp u) l p).flatMap f := by unfold cpl; rw [List.flatMap_append, List.flatMap_append, List.append_assoc]
      rw [hw9] at w4
      have hKf := ldi_al (K := kn (F 0) 129) hA hc.2.2.2.1 hi (fun i hd => by
        rw [hTm i hd]
        intro x hx9
        obtain ⟨j, hj, rfl⟩ := sl_mem hx9
        exact (hc.2.2.2.2 _ (hen i (i + j) hd (by omega) (by omega))).2.1.2.1)
      have kc : al (kn (F 0) 129) ((cpl A (swp u) l p).flatMap f) := al_flat hKf (fun x hx9 => by
        unfold cpl at hx9
        rcases List.mem_append.1 hx9 with h9 | h9
        · exact kl1 x (List.mem_of_mem_take h9)
        · rcases List.mem_append.1 h9 with h9 | h9
          · exact ku2 x h9
          · exact kl1 x (List.mem_of_mem_drop h9))
      have kr : al (kn (F 0) 129) (l.2.flatMap f) := al_flat hKf kl2
      have tc : ts A 1 ((cpl A (swp u) l p).flatMap f) := gs_ts hA hi.1.1 (cpl_ts hA tu2 hl.1.1.1 hpl)
      have tr : ts A 1 (l.2.flatMap f) := gs_ts hA hi.1.1 hl.1.1.2
      obtain ⟨Fa, ga, ga9, ga10, ga13, ha0⟩ : ∃ Fa : Nat → Nat → Int, (∀ i, i < 9 → Fa i = F1 i) ∧ Fa 9 = F9 9 ∧ Fa 10 = F9 10 ∧ Fa 13 = F2 13 ∧ mst S9 T D n (Rs.length : Int) (V.length : Int) kp 0 sc Fa B := ⟨_, fun i hi => ((mrw_ne (by omega) (by omega) (by omega)).trans (g9 i (by omega) (by omega))).trans (e29 i hi), mrw_ne (by decide) (by decide) (by decide), mrw_ne (by decide) (by decide) (by decide), (mrw_ne (by decide) (by decide) (by decide)).trans (g9 13 (by decide) (by decide)), h9⟩
      have m9 : mgg S9 A T D n Rs V kp 0 sc Fa B := mgg_eq h1 ha0 ga (by rw [ga9]; exact x9) (by rw [ga13]; exact hxC)
      have a0 : Fa 0 = F 0 := (ga 0 (by decide)).trans q0
      rw [← ga9, ← ga10] at w4 v4
      have ho := ha0.1
      refine aw_loc at_140_134 rfl rfl ?_
      refine aw_cv (a := 432) [] [] at_140_135 mt_12_193 (Or.inl rfl) rfl rfl (Nat.le_of_ble_eq_true rfl) ⟨_, ho⟩ ((r_m_add (d := d) ha0 m9.2.1.1 rfl m9.2.2.1.2.1 m9.2.2.1.1 m9.2.2.1.2.2 m9.2.2.2.1.1 rfl m9.2.2.2.1.2.1 m9.2.2.2.1.2.2 m9.2.2.2.2.1 m9.2.2.2.2.2.1 w4 v4 tc tr (by rw [a0]; exact kc) (by rw [a0]; exact kr)).mono ?_)
      rintro v Sb ⟨rfl, fb, Fb, eb, xb9, xb6, kb, hb9⟩
      have eo := eb.o
      have b0 : Fb 0 = Fa 0 := eo 0 (by decide)
      have b13 : Fb 13 = Fa 13 := eb 13 (by decide) (by decide) (by decide) (by decide) (by decide) (by decide) (by decide) (by decide)
      have xb13 : xr (Fb 13) := by rw [b13, ga13]; exact hxC
      have eb1 := (e1.tr (eqo_9 ga)).tr eo
      have kb1 := (k1.tr (kpt.eq ga)).tr kb
      refine ax_inc at_140_138 rfl rfl rfl ?_
      refine aw_goto at_140_141 ?_
      rw [show (p : Int) + 1 = ((p + 1 : Nat) : Int) by omega]
      rcases hb9 with ⟨h8, hm8, hv8⟩ | ⟨V', h8, hm8, hv8⟩
      · refine kfull Sb Fb V (p + 1) (by omega) (f9.tr fb) eb1 kb1 ⟨hm8, ⟨mpk_eqo eo m9.2.1.1, hA2⟩, ⟨mrl_eqo eo m9.2.2.1.1, m9.2.2.1.2.1, by rw [b0]; exact m9.2.2.1.2.2⟩, ⟨hv8, m9.2.2.2.1.2.1, by rw [b0]; exact m9.2.2.2.1.2.2⟩, xb9, xb6, xb13⟩ ?_
        rw [← hres]
        show (match cpo A Rs V u l p with | none => (V, false) | some V => ovp A Rs u l (p + 1) m V) = _
        rw [hcpo, h8]
      · have hk8 := ah_okv hA m9.2.2.1.2.2 m9.2.2.2.1.2.2 tc tr (by rw [a0]; exact kc) (by rw [a0]; exact kr) h8
        exact ih (p + 1) Sb Fb V' (by omega) (f9.tr fb) eb1 kb1 ⟨hm8, ⟨mpk_eqo eo m9.2.1.1, hA2⟩, ⟨mrl_eqo eo m9.2.2.1.1, m9.2.2.1.2.1, by rw [b0]; exact m9.2.2.1.2.2⟩, ⟨hv8, hk8.2 m9.2.2.2.1.2.1, by rw [b0]; exact hk8.1⟩, xb9, xb6, xb13⟩ (hcp V' (hcpo.trans h8))
set_option maxHeartbeats 4000000 in
theorem r_m_ovl {a b : Nat} (h : mgg S A T D n Rs Vs kp 0 sc F B) (ha : a < Rs.length) (hb : b < Rs.length) : ai_rn L xs (d + 7) 140 [.ref 432, ax_i (a : Nat), ax_i (b : Nat)] S (fun v S' => v = none ∧ fr 432 452 S S' ∧ ∃ F', eqo F F' ∧ kpt F F' ∧ mgg S' A T D n Rs (ovr A Rs a b Vs).1 kp (if (ovr A Rs a b Vs).2 = true then 0 else 3) sc F' B) := by
  have hRl := h.2.2.1.2.1
  have kin : ∀ p0 : Nat, p0 = (if a = b then 1 else 0) → ai_aw L xs (d + 6) ai_m140 (fun (o : ai_O) => ∃ v S', o = (.inl v, S') ∧ v = none ∧ fr 432 452 S S' ∧ ∃ F', eqo F F' ∧ kpt F F' ∧ mgg S' A T D n Rs (ovr A Rs a b Vs).1 kp (if (ovr A Rs a b Vs).2 = true then 0 else 3) sc F' B) (10, [some (.ref 432), some (ax_i (a : Nat)), some (ax_i (b : Nat)), none], [ax_i (p0 : Nat)], S) := by
    intro p0 hp0
    refine aw_loc at_140_10 rfl rfl ?_
    have hov : ovp A Rs (Rs.getD a q_no) (Rs.getD b q_no) p0 (24 - p0) Vs = ovr A Rs a b Vs := by
      unfold ovr
      rw [hp0]
      by_cases e : a = b
      · rw [if_pos e]
        exact (ovp_more 23 1 1 Vs (by have := (h.2.2.1.2.2 _ (ind_mem hb)).1.2.1.1; omega)).symm
      · rw [if_neg e]
    exact r_m_ovl1 hRl h.2.2.1.2.2 ha hb (24 - p0) p0 S F Vs (by split at hp0 <;> omega) fr.rf (eqo.rf _) (kpt.rf _) h hov
  refine ai_rn_of (M := ai_m140) rfl (by decide) (Nat.le_of_ble_eq_true rfl) ?_
  refine aw_loc at_140_0 rfl rfl ?_
  refine aw_loc at_140_1 rfl rfl ?_
  refine ax_icmp_ne at_140_2 ⟨by omega, by omega⟩ ⟨by omega, by omega⟩ (fun y => ?_) (fun y => ?_)
  · skip
    refine aw_pure (st' := ax_i (0) :: _) at_140_9 rfl rfl ?_
    exact kin 0 (if_neg (by omega)).symm
  · skip
    refine aw_pure (st' := ax_i (1) :: _) at_140_5 rfl rfl ?_
    refine aw_goto at_140_6 ?_
    exact kin 1 (if_pos (by omega)).symm
end MV

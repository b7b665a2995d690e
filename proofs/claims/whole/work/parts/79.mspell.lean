/-! The reference: writing out what is put. -/
section MS
variable {L : Nat} {xs : Nat → Int32} {d : Nat} {S S' : ai_S} {T D n rc wt kp sx sc : Int} {F : Nat → Nat → Int} {B : Nat → Int} {P : Nat → Int} {A : Int → Nat}
variable {G O U V : Nat → Int} {ld : lds_t} {Dm : Nat → Prop} {Y : Nat → Int} {en : Nat → Nat} {Tm : Nat → List Int} {f : Int → List Int}
theorem mrw_xz {X Z X' Z' : Nat → Int} : fup (fup (mrw (fup (fup F 9 X) 10 Z) G O U) 9 X') 10 Z' = mrw (fup (fup F 9 X') 10 Z') G O U := by
  funext i
  unfold mrw
  by_cases h9 : i = 9
  · subst h9; rfl
  by_cases h10 : i = 10
  · subst h10; rfl
  unfold fup
  simp only [if_neg h9, if_neg h10]
/-- the letters of stretches -/
def lts (Y : Nat → Int) (sg : List (Nat × Nat)) : List Int := sg.flatMap fun s => sl Y s.1 (s.2 - s.1)
theorem lts_cons (s : Nat × Nat) (l : List (Nat × Nat)) : lts Y (s :: l) = sl Y s.1 (s.2 - s.1) ++ lts Y l := rfl
/-- stretches that wait: all but the last one belong to terms, and what is put into these grows -/
def spk (P C : Nat → Int) (Dm : Nat → Prop) (Y : Nat → Int) (en : Nat → Nat) (ld : lds_t) (W : Nat → List Int) : Nat → List (Nat × Nat) → Prop
  | _, [] => True
  | k, s :: l => ((s.1 ≤ s.2 ∧ s.2 ≤ 128) ∧ ∀ a, s.1 ≤ a → a < s.2 → mlf P C Y a) ∧ (l = [] ∨ ((∃ p, Dm p ∧ p ≤ s.1 ∧ s.2 = en p ∧ (Y p < 117 ∨ ld (Y p) = none) ∧ k < (W p).length ∧ spk P C Dm Y en ld W (W p).length l)))
theorem spk_mono {P C : Nat → Int} {W : Nat → List Int} {k k' : Nat} (hk : k' ≤ k) : ∀ {l : List (Nat × Nat)}, spk P C Dm Y en ld W k l → spk P C Dm Y en ld W k' l
  | [], _ => True.intro
  | s :: l, h => ⟨h.1, h.2.imp id (fun ⟨p, a, b, c, e, g, i⟩ => ⟨p, a, b, c, e, by omega, i⟩)⟩
theorem spk_tail {P C : Nat → Int} {W : Nat → List Int} {k : Nat} {s : Nat × Nat} {l : List (Nat × Nat)} (h : spk P C Dm Y en ld W k (s :: l)) : spk P C Dm Y en ld W 0 l := by
  rcases h.2 with rfl | ⟨p, a, b, c, e, g, i⟩
  · exact True.intro
  · exact spk_mono (Nat.zero_le _) i
theorem spk_next {P C : Nat → Int} {W : Nat → List Int} {k a e : Nat} {l : List (Nat × Nat)} (h : spk P C Dm Y en ld W k ((a, e) :: l)) (hae : a < e) : spk P C Dm Y en ld W k ((a + 1, e) :: l) :=
  ⟨⟨⟨hae, h.1.1.2⟩, fun x h1 h2 => h.1.2 x (by have : a + 1 ≤ x := h1; show a ≤ x; omega) h2⟩, h.2.imp id (fun ⟨p, b, c, e, g, i⟩ => ⟨p, b, by have : p ≤ a := c; show p ≤ a + 1; omega, e, g, i⟩)⟩
theorem spk_few {P C : Nat → Int} {W : Nat → List Int} (hN : ∀ i, Dm i → i < 56) {k : Nat} {l : List (Nat × Nat)} (h : spk P C Dm Y en ld W k l) : l.length ≤ 57 := by
  have h1 : ∀ (l : List (Nat × Nat)) (k : Nat), spk P C Dm Y en ld W k l → ∃ ps : List Nat, ps.Nodup ∧ (∀ p, p ∈ ps → Dm p ∧ k < (W p).length) ∧ l.length ≤ ps.length + 1 := by
    intro l
    induction l with
    | nil => intro k _; exact ⟨[], List.nodup_nil, fun p hp => (by cases hp), Nat.zero_le _⟩
    | cons s l ih =>
      intro k h
      rcases h.2 with rfl | ⟨p, a, b, c, e, g, i⟩
      · exact ⟨[], List.nodup_nil, fun p hp => (by cases hp), Nat.le_refl _⟩
      · obtain ⟨ps, n1, n2, n3⟩ := ih _ i
        refine ⟨p :: ps, List.nodup_cons.2 ⟨fun hm => by have := (n2 p hm).2; omega, n1⟩, fun q hq => ?_, by rw [List.length_cons, List.length_cons]; omega⟩
        rcases List.mem_cons.1 hq with rfl | hq
        · exact ⟨a, g⟩
        · exact ⟨(n2 q hq).1, by have := (n2 q hq).2; omega⟩
  obtain ⟨ps, n1, n2, n3⟩ := h1 l k h
  have := few 56 ps n1 (fun x hx => hN x (n2 x hx).1)
  omega
def msm (g : Int → Nat) : List Int → Nat
  | [] => 0
  | c :: u => g c + msm g u
theorem msm_app (g : Int → Nat) : ∀ (u v : List Int), msm g (u ++ v) = msm g u + msm g v
  | [], v => (Nat.zero_add _).symm
  | c :: u, v => by
    show g c + msm g (u ++ v) = g c + msm g u + msm g v
    rw [msm_app g u v]
    omega
/-- how much a letter costs -/
def gmf (ld : lds_t) (f : Int → List Int) (c : Int) : Nat := if (ld c).isSome then 3 * (f c).length else 1
theorem gmf_none {c : Int} (h : ld c = none) : gmf ld f c = 1 := by unfold gmf; rw [h]; rfl
theorem gmf_some {c : Int} {b : Nat} (h : ld c = some b) : gmf ld f c = 3 * (f c).length := by unfold gmf; rw [h]; rfl
theorem msm_le (hf : ∀ c, f c ≠ []) : ∀ u : List Int, msm (gmf ld f) u ≤ 3 * (u.flatMap f).length
  | [] => Nat.zero_le _
  | c :: u => by
    have h1 := msm_le hf u
    have h2 := List.length_pos_iff.2 (hf c)
    show gmf ld f c + msm (gmf ld f) u ≤ _
    rw [List.flatMap_cons, List.length_append]
    have h3 : gmf ld f c ≤ 3 * (f c).length := by unfold gmf; split <;> omega
    omega
theorem flat_le {c : Int} : ∀ u : List Int, c ∈ u → (f c).length ≤ (u.flatMap f).length
  | [], h => by cases h
  | x :: u, h => by
    rw [List.flatMap_cons, List.length_append]
    rcases List.mem_cons.1 h with rfl | h
    · omega
    · have := flat_le (c := c) u h; omega
theorem sl_in (T : Nat → Int) {j m a : Nat} (h1 : j ≤ a) (h2 : a < j + m) : T a ∈ sl T j m := List.mem_map.2 ⟨a - j, List.mem_range.2 (by omega), by rw [show j + (a - j) = a by omega]⟩
theorem at_147_0 : ai_at ai_m147 0 = some (.iconst 1, 1) := rfl
theorem at_147_1 : ai_at ai_m147 1 = some (.istore 4, 2) := rfl
theorem at_147_3 : ai_at ai_m147 3 = some (.aload_n 0, 1) := rfl
theorem at_147_4 : ai_at ai_m147 4 = some (.getfield 55, 3) := rfl
theorem at_147_7 : ai_at ai_m147 7 = some (.sipush 200, 3) := rfl
theorem at_147_10 : ai_at ai_m147 10 = some (.iload_n 2, 1) := rfl
theorem at_147_11 : ai_at ai_m147 11 = some (.iastore, 1) := rfl
theorem at_147_12 : ai_at ai_m147 12 = some (.aload_n 0, 1) := rfl
theorem at_147_13 : ai_at ai_m147 13 = some (.getfield 55, 3) := rfl
theorem at_147_16 : ai_at ai_m147 16 = some (.sipush 300, 3) := rfl
theorem at_147_19 : ai_at ai_m147 19 = some (.iload_n 3, 1) := rfl
theorem at_147_20 : ai_at ai_m147 20 = some (.iastore, 1) := rfl
theorem at_147_21 : ai_at ai_m147 21 = some (.iload 4, 2) := rfl
theorem at_147_23 : ai_at ai_m147 23 = some (.ifCond .le 148, 3) := rfl
theorem at_147_26 : ai_at ai_m147 26 = some (.aload_n 0, 1) := rfl
theorem at_147_27 : ai_at ai_m147 27 = some (.getfield 40, 3) := rfl
theorem at_147_30 : ai_at ai_m147 30 = some (.iload_n 1, 1) := rfl
theorem at_147_31 : ai_at ai_m147 31 = some (.iaload, 1) := rfl
theorem at_147_32 : ai_at ai_m147 32 = some (.bipush 24, 2) := rfl
theorem at_147_34 : ai_at ai_m147 34 = some (.if_icmp .gt 137, 3) := rfl
theorem at_147_37 : ai_at ai_m147 37 = some (.aload_n 0, 1) := rfl
theorem at_147_38 : ai_at ai_m147 38 = some (.getfield 55, 3) := rfl
theorem at_147_41 : ai_at ai_m147 41 = some (.sipush 200, 3) := rfl
theorem at_147_44 : ai_at ai_m147 44 = some (.iload 4, 2) := rfl
theorem at_147_46 : ai_at ai_m147 46 = some (.iadd, 1) := rfl
theorem at_147_47 : ai_at ai_m147 47 = some (.iconst 1, 1) := rfl
theorem at_147_48 : ai_at ai_m147 48 = some (.isub, 1) := rfl
theorem at_147_49 : ai_at ai_m147 49 = some (.iaload, 1) := rfl
theorem at_147_50 : ai_at ai_m147 50 = some (.istore 5, 2) := rfl
theorem at_147_52 : ai_at ai_m147 52 = some (.iload 5, 2) := rfl
theorem at_147_54 : ai_at ai_m147 54 = some (.aload_n 0, 1) := rfl
theorem at_147_55 : ai_at ai_m147 55 = some (.getfield 55, 3) := rfl
theorem at_147_58 : ai_at ai_m147 58 = some (.sipush 300, 3) := rfl
theorem at_147_61 : ai_at ai_m147 61 = some (.iload 4, 2) := rfl
theorem at_147_63 : ai_at ai_m147 63 = some (.iadd, 1) := rfl
theorem at_147_64 : ai_at ai_m147 64 = some (.iconst 1, 1) := rfl
theorem at_147_65 : ai_at ai_m147 65 = some (.isub, 1) := rfl
theorem at_147_66 : ai_at ai_m147 66 = some (.iaload, 1) := rfl
theorem at_147_67 : ai_at ai_m147 67 = some (.if_icmp .ne 9, 3) := rfl
theorem at_147_70 : ai_at ai_m147 70 = some (.iinc 4 (-1), 3) := rfl
theorem at_147_73 : ai_at ai_m147 73 = some (.goto 95, 3) := rfl
theorem at_147_76 : ai_at ai_m147 76 = some (.aload_n 0, 1) := rfl
theorem at_147_77 : ai_at ai_m147 77 = some (.getfield 55, 3) := rfl
theorem at_147_80 : ai_at ai_m147 80 = some (.sipush 200, 3) := rfl
theorem at_147_83 : ai_at ai_m147 83 = some (.iload 4, 2) := rfl
theorem at_147_85 : ai_at ai_m147 85 = some (.iadd, 1) := rfl
theorem at_147_86 : ai_at ai_m147 86 = some (.iconst 1, 1) := rfl
theorem at_147_87 : ai_at ai_m147 87 = some (.isub, 1) := rfl
theorem at_147_88 : ai_at ai_m147 88 = some (.iload 5, 2) := rfl
theorem at_147_90 : ai_at ai_m147 90 = some (.iconst 1, 1) := rfl
theorem at_147_91 : ai_at ai_m147 91 = some (.iadd, 1) := rfl
theorem at_147_92 : ai_at ai_m147 92 = some (.iastore, 1) := rfl
theorem at_147_93 : ai_at ai_m147 93 = some (.aload_n 0, 1) := rfl
theorem at_147_94 : ai_at ai_m147 94 = some (.iload 5, 2) := rfl
theorem at_147_96 : ai_at ai_m147 96 = some (.invokevirtual 175, 3) := rfl
theorem at_147_99 : ai_at ai_m147 99 = some (.istore 6, 2) := rfl
theorem at_147_101 : ai_at ai_m147 101 = some (.aload_n 0, 1) := rfl
theorem at_147_102 : ai_at ai_m147 102 = some (.getfield 49, 3) := rfl
theorem at_147_105 : ai_at ai_m147 105 = some (.iload 5, 2) := rfl
theorem at_147_107 : ai_at ai_m147 107 = some (.iaload, 1) := rfl
theorem at_147_108 : ai_at ai_m147 108 = some (.bipush 8, 2) := rfl
theorem at_147_110 : ai_at ai_m147 110 = some (.if_icmp .lt 10, 3) := rfl
theorem at_147_113 : ai_at ai_m147 113 = some (.iload 6, 2) := rfl
theorem at_147_115 : ai_at ai_m147 115 = some (.iload 5, 2) := rfl
theorem at_147_117 : ai_at ai_m147 117 = some (.if_icmp .ne 18, 3) := rfl
theorem at_147_120 : ai_at ai_m147 120 = some (.aload_n 0, 1) := rfl
theorem at_147_121 : ai_at ai_m147 121 = some (.iload_n 1, 1) := rfl
theorem at_147_122 : ai_at ai_m147 122 = some (.aload_n 0, 1) := rfl
theorem at_147_123 : ai_at ai_m147 123 = some (.getfield 49, 3) := rfl
theorem at_147_126 : ai_at ai_m147 126 = some (.iload 5, 2) := rfl
theorem at_147_128 : ai_at ai_m147 128 = some (.iaload, 1) := rfl
theorem at_147_129 : ai_at ai_m147 129 = some (.invokevirtual 92, 3) := rfl
theorem at_147_132 : ai_at ai_m147 132 = some (.goto 36, 3) := rfl
theorem at_147_135 : ai_at ai_m147 135 = some (.aload_n 0, 1) := rfl
theorem at_147_136 : ai_at ai_m147 136 = some (.getfield 55, 3) := rfl
theorem at_147_139 : ai_at ai_m147 139 = some (.sipush 200, 3) := rfl
theorem at_147_142 : ai_at ai_m147 142 = some (.iload 4, 2) := rfl
theorem at_147_144 : ai_at ai_m147 144 = some (.iadd, 1) := rfl
theorem at_147_145 : ai_at ai_m147 145 = some (.iload 6, 2) := rfl
theorem at_147_147 : ai_at ai_m147 147 = some (.iastore, 1) := rfl
theorem at_147_148 : ai_at ai_m147 148 = some (.aload_n 0, 1) := rfl
theorem at_147_149 : ai_at ai_m147 149 = some (.getfield 55, 3) := rfl
theorem at_147_152 : ai_at ai_m147 152 = some (.sipush 300, 3) := rfl
theorem at_147_155 : ai_at ai_m147 155 = some (.iload 4, 2) := rfl
theorem at_147_157 : ai_at ai_m147 157 = some (.iadd, 1) := rfl
theorem at_147_158 : ai_at ai_m147 158 = some (.aload_n 0, 1) := rfl
theorem at_147_159 : ai_at ai_m147 159 = some (.iload 6, 2) := rfl
theorem at_147_161 : ai_at ai_m147 161 = some (.invokevirtual 178, 3) := rfl
theorem at_147_164 : ai_at ai_m147 164 = some (.iastore, 1) := rfl
theorem at_147_165 : ai_at ai_m147 165 = some (.iinc 4 1, 3) := rfl
theorem at_147_168 : ai_at ai_m147 168 = some (.goto (-147), 3) := rfl
theorem at_147_171 : ai_at ai_m147 171 = some (.return_, 1) := rfl
set_option maxHeartbeats 80000000 in
theorem r_m_spell1 {a0 c0 t b0 e0 : Nat} {sq : List (Nat × Nat)} {Wt : List Int} (hc : mlc A (F 0) (F 13) Dm Y en Tm) (hgl : ldr G ld) (hi : ldi A Dm Y Tm a0 c0 ld sq f) (hen : ∀ p a, Dm p → p ≤ a → a < en p → Dm a) (hTm : ∀ p, Dm p → Tm p = sl Y p (en p - p)) (hlq : ∀ p, Dm p → p < en p) (ht : t < 2) : ∀ (m : Nat) (sg : List (Nat × Nat)) (w : List Int) (X Z O : Nat → Int) (S1 : ai_S) (x5 x6 : Option Value), msm (gmf ld f) (lts Y sg) + sg.length ≤ m → spk (F 0) (F 13) Dm Y en ld (wst Tm f) 0 sg → mwd X Z t w → w.length ≤ 25 → w ++ (lts Y sg).flatMap f = Wt → rsk O 200 (sg.map Prod.fst) → rsk O 300 (sg.map Prod.snd) → xr X → ((∀ i, (i < 64 * t ∨ 64 * t + 64 ≤ i) → X i = F 9 i) ∧ (∀ i, i ≠ t → Z i = F 10 i)) → fr 432 452 S S1 → mst S1 T D n rc wt kp sx sc (mrw (fup (fup F 9 X) 10 Z) G O U) B → ai_aw L xs (d + 2) ai_m147 (fun (o : ai_O) => ∃ v S', o = (.inl v, S') ∧ v = none ∧ fr 432 452 S S' ∧ ∃ X Z O', mst S' T D n rc wt kp sx sc (mrw (fup (fup F 9 X) 10 Z) G O' U) B ∧ mwl X Z t Wt ∧ xr X ∧ (∀ i, (i < 64 * t ∨ 64 * t + 64 ≤ i) → X i = F 9 i) ∧ (∀ i, i ≠ t → Z i = F 10 i)) (21, [some (.ref 432), some (ax_i (t : Nat)), some (ax_i (b0 : Nat)), some (ax_i (e0 : Nat)), some (ax_i (sg.length : Nat)), x5, x6], [], S1) := by
  have hA := hc.1.2.2
  have htp := hc.2.2.2.1
  have hne := fun c => gs_ne hi.1.1 c
  obtain ⟨rk, hrk⟩ := hi.2.2.2.2.2
  have hg : mld Dm Y G ld rk := ⟨hgl, hi.1.2.2.2, hrk⟩
  intro m
  induction m with
  | zero =>
    intro sg w X Z O S1 x5 x6 hm hk hw hwl hW hr2 hr3 hx hst f1 h1
    cases sg with
    | cons s sg => rw [List.length_cons] at hm; omega
    | nil =>
      refine aw_loc at_147_21 rfl rfl ?_
      refine ax_if_le at_147_23 ⟨by decide, by decide⟩ (fun _ => ?_) (fun z => absurd z (by decide))
      show ai_aw L xs (d + 2) ai_m147 _ (171, _, _, _)
      have hW2 : w = Wt := by rw [← hW]; exact (List.append_nil w).symm
      rw [hW2] at hw
      exact aw_vret at_147_171 rfl ⟨_, _, rfl, rfl, f1, X, Z, O, h1, mwd_mwl hw, hx, hst⟩
  | succ m ih =>
    intro sg w X Z O S1 x5 x6 hm hk hw hwl hW hr2 hr3 hx hst f1 h1
    cases sg with
    | nil =>
      refine aw_loc at_147_21 rfl rfl ?_
      refine ax_if_le at_147_23 ⟨by decide, by decide⟩ (fun _ => ?_) (fun z => absurd z (by decide))
      show ai_aw L xs (d + 2) ai_m147 _ (171, _, _, _)
      have hW2 : w = Wt := by rw [← hW]; exact (List.append_nil w).symm
      rw [hW2] at hw
      exact aw_vret at_147_171 rfl ⟨_, _, rfl, rfl, f1, X, Z, O, h1, mwd_mwl hw, hx, hst⟩
    | cons s l =>
      obtain ⟨a, e⟩ := s
      have hlen := spk_few (fun i hi => (hc.2.2.2.2 i hi).1) hk
      rw [List.length_cons] at hlen hm
      have e2 : O (200 + (l.map Prod.fst).length) = (a : Int) := hr2.1
      have e3 : O (300 + (l.map Prod.snd).length) = (e : Int) := hr3.1
      rw [List.length_map] at e2 e3
      have hz := mwd_len hw (by omega)
      have hae : a ≤ e := hk.1.1.1
      have he9 : e ≤ 128 := hk.1.1.2
      have hlf := fun x (h1 : a ≤ x) (h2 : x < e) => hk.1.2 x h1 h2
      have z0 : (fup (fup F 9 X) 10 Z) 0 = F 0 := (fup_ne (by decide)).trans (fup_ne (by decide))
      have e13 : (fup (fup F 9 X) 10 Z) 13 = F 13 := (fup_ne (by decide)).trans (fup_ne (by decide))
      have hc' : mlc A ((fup (fup F 9 X) 10 Z) 0) ((fup (fup F 9 X) 10 Z) 13) Dm Y en Tm := by rw [z0, e13]; exact hc
      have ho := h1.1
      have r10 : ai_arr S1 443 0 = some (3, ax_f ((mrw (fup (fup F 9 X) 10 Z) G O U) 10)) := h1.2.1 10 (by decide)
      rw [show (mrw (fup (fup F 9 X) 10 Z) G O U) 10 = Z from (mrw_ne (by decide) (by decide) (by decide)).trans (fup_get _ _ _)] at r10
      have r15 : ai_arr S1 448 0 = some (400, ax_f ((mrw (fup (fup F 9 X) 10 Z) G O U) 15)) := h1.2.1 15 (by decide)
      rw [show (mrw (fup (fup F 9 X) 10 Z) G O U) 15 = O from mrw_15] at r15
      show ai_aw L xs (d + 2) ai_m147 _ (21, [some (.ref 432), some (ax_i (t : Nat)), some (ax_i (b0 : Nat)), some (ax_i (e0 : Nat)), some (ax_i (l.length + 1 : Nat)), x5, x6], [], S1)
      refine aw_loc at_147_21 rfl rfl ?_
      refine ax_if_le at_147_23 ⟨by omega, by omega⟩ (fun z => absurd z (by omega)) (fun _ => ?_)
      refine aw_loc at_147_26 rfl rfl ?_
      refine aw_get at_147_27 rfl fl_12_40 ho rfl ?_
      refine aw_loc at_147_30 rfl rfl ?_
      refine ax_ild at_147_31 rfl r10 (k := t) rfl (by omega) (by decide) ?_
      rw [hz]
      refine aw_pure (st' := ax_i (24) :: _) at_147_32 rfl rfl ?_
      refine ax_icmp_gt at_147_34 ⟨by omega, by omega⟩ ⟨by omega, by omega⟩ (fun hgt => ?_) (fun hle => ?_)
      · skip
        show ai_aw L xs (d + 2) ai_m147 _ (171, _, _, _)
        exact aw_vret at_147_171 rfl ⟨_, _, rfl, rfl, f1, X, Z, O, h1, Or.inr ⟨by rw [← hW, List.length_append]; omega, by omega, by omega⟩, hx, hst⟩
      · skip
        refine aw_loc at_147_37 rfl rfl ?_
        refine aw_get at_147_38 rfl fl_12_55 ho rfl ?_
        refine aw_pure (st' := ax_i (200) :: _) at_147_41 rfl rfl ?_
        refine aw_loc at_147_44 rfl rfl ?_
        refine ax_add at_147_46 rfl ?_
        refine aw_pure (st' := ax_i (1) :: _) at_147_47 rfl rfl ?_
        refine ax_sub at_147_48 rfl ?_
        refine ax_ild at_147_49 rfl r15 (k := 200 + l.length) (by omega) (by omega) (by decide) ?_
        rw [e2]
        refine aw_loc at_147_50 rfl rfl ?_
        refine aw_loc at_147_52 rfl rfl ?_
        refine aw_loc at_147_54 rfl rfl ?_
        refine aw_get at_147_55 rfl fl_12_55 ho rfl ?_
        refine aw_pure (st' := ax_i (300) :: _) at_147_58 rfl rfl ?_
        refine aw_loc at_147_61 rfl rfl ?_
        refine ax_add at_147_63 rfl ?_
        refine aw_pure (st' := ax_i (1) :: _) at_147_64 rfl rfl ?_
        refine ax_sub at_147_65 rfl ?_
        refine ax_ild at_147_66 rfl r15 (k := 300 + l.length) (by omega) (by omega) (by decide) ?_
        rw [e3]
        refine ax_icmp_ne at_147_67 ⟨by omega, by omega⟩ ⟨by omega, by omega⟩ (fun hne9 => ?_) (fun heq => ?_)
        · skip
          have hlt : a < e := by omega
          have la := hlf a (Nat.le_refl _) hlt
          have na := co_in la.2.1
          have a9 := la.1
          have ka := kn_lt la.2.1
          have hl9 : lts Y ((a, e) :: l) = Y a :: lts Y ((a + 1, e) :: l) := by
            rw [lts_cons, lts_cons]
            show sl Y a (e - a) ++ _ = Y a :: (sl Y (a + 1) (e - (a + 1)) ++ _)
            rw [show e - a = e - (a + 1) + 1 by omega, sl_cons]
            rfl
          rw [hl9] at hm hW
          have hm2 : gmf ld f (Y a) + msm (gmf ld f) (lts Y ((a + 1, e) :: l)) + (l.length + 1) ≤ m + 1 := hm
          rw [List.flatMap_cons] at hW
          refine aw_loc at_147_76 rfl rfl ?_
          refine aw_get at_147_77 rfl fl_12_55 ho rfl ?_
          refine aw_pure (st' := ax_i (200) :: _) at_147_80 rfl rfl ?_
          refine aw_loc at_147_83 rfl rfl ?_
          refine ax_add at_147_85 rfl ?_
          refine aw_pure (st' := ax_i (1) :: _) at_147_86 rfl rfl ?_
          refine ax_sub at_147_87 rfl ?_
          refine aw_loc at_147_88 rfl rfl ?_
          refine aw_pure (st' := ax_i (1) :: _) at_147_90 rfl rfl ?_
          refine ax_add at_147_91 rfl ?_
          rw [show (a : Int) + 1 = ((a + 1 : Nat) : Int) by omega]
          refine ax_ist (k := 200 + l.length) at_147_92 rfl r15 (by omega) (by omega) (by decide) ?_
          have h2 : mst (ai_wr S1 448 (.inl (0, ai_I 400 (ax_f (ax_up O (200 + l.length) ((a + 1 : Nat) : Int)))))) T D n rc wt kp sx sc (mrw (fup (fup F 9 X) 10 Z) G (ax_up O (200 + l.length) ((a + 1 : Nat) : Int)) U) B := mst_w15 h1
          have f2 : fr 432 452 S (ai_wr S1 448 (.inl (0, ai_I 400 (ax_f (ax_up O (200 + l.length) ((a + 1 : Nat) : Int)))))) := f1.tr (fr_md (by decide) (by decide))
          have q2 : rsk (ax_up O (200 + l.length) ((a + 1 : Nat) : Int)) 200 ((a + 1) :: l.map Prod.fst) := by have := rsk_push (a := a + 1) hr2.2; rw [List.length_map] at this; exact this
          have q3 : rsk (ax_up O (200 + l.length) ((a + 1 : Nat) : Int)) 300 (e :: l.map Prod.snd) := rsk_up _ (by right; omega) hr3
          generalize (ai_wr S1 448 (.inl (0, ai_I 400 (ax_f (ax_up O (200 + l.length) ((a + 1 : Nat) : Int)))))) = S2 at h2 f2 ⊢
          generalize (ax_up O (200 + l.length) ((a + 1 : Nat) : Int)) = O2 at h2 q2 q3
          have ho := h2.1
          have r13 : ai_arr S2 446 0 = some (128, ax_f ((mrw (fup (fup F 9 X) 10 Z) G O2 U) 13)) := h2.2.1 13 (by decide)
          rw [show (mrw (fup (fup F 9 X) 10 Z) G O2 U) 13 = F 13 from (mrw_ne (by decide) (by decide) (by decide)).trans ((fup_ne (by decide)).trans (fup_ne (by decide)))] at r13
          have r15 : ai_arr S2 448 0 = some (400, ax_f ((mrw (fup (fup F 9 X) 10 Z) G O2 U) 15)) := h2.2.1 15 (by decide)
          rw [show (mrw (fup (fup F 9 X) 10 Z) G O2 U) 15 = O2 from mrw_15] at r15
          refine aw_loc at_147_93 rfl rfl ?_
          refine aw_loc at_147_94 rfl rfl ?_
          refine aw_cv (a := 432) [ax_i (a : Nat)] [] at_147_96 mt_12_175 (Or.inl rfl) rfl rfl (Nat.le_of_ble_eq_true rfl) ⟨_, ho⟩ ((r_m_fol (d := d + 1) h2 hc' hg (by rw [z0, e13]; exact la)).mono ?_)
          rintro v S0 ⟨hS, q, rfl, hgo⟩
          have hS2 := hS.symm
          subst hS2
          refine aw_loc at_147_99 rfl rfl ?_
          have kput : f (Y a) = [Y a] → ld (Y a) = none → ai_aw L xs (d + 2) ai_m147 (fun (o : ai_O) => ∃ v S', o = (.inl v, S') ∧ v = none ∧ fr 432 452 S S' ∧ ∃ X Z O', mst S' T D n rc wt kp sx sc (mrw (fup (fup F 9 X) 10 Z) G O' U) B ∧ mwl X Z t Wt ∧ xr X ∧ (∀ i, (i < 64 * t ∨ 64 * t + 64 ≤ i) → X i = F 9 i) ∧ (∀ i, i ≠ t → Z i = F 10 i)) (120, [some (.ref 432), some (ax_i (t : Nat)), some (ax_i (b0 : Nat)), some (ax_i (e0 : Nat)), some (ax_i (l.length + 1 : Nat)), some (ax_i (a : Nat)), some (ax_i (q : Nat))], [], S2) := by
            intro hfa hna
            rw [hfa] at hW
            rw [gmf_none hna] at hm2
            refine aw_loc at_147_120 rfl rfl ?_
            refine aw_loc at_147_121 rfl rfl ?_
            refine aw_loc at_147_122 rfl rfl ?_
            refine aw_get at_147_123 rfl fl_12_49 ho rfl ?_
            refine aw_loc at_147_126 rfl rfl ?_
            refine ax_ild at_147_128 rfl r13 (k := a) rfl (by omega) (by decide) ?_
            rw [la.2.2]
            have e9 : (mrw (fup (fup F 9 X) 10 Z) G O2 U) 9 = X := (mrw_ne (by decide) (by decide) (by decide)).trans ((fup_ne (by decide)).trans (fup_get _ _ _))
            have e10 : (mrw (fup (fup F 9 X) 10 Z) G O2 U) 10 = Z := (mrw_ne (by decide) (by decide) (by decide)).trans (fup_get _ _ _)
            refine aw_cv (a := 432) [ax_i (t : Nat), ax_i (co (Y a))] [] at_147_129 mt_12_92 (Or.inl rfl) rfl rfl (Nat.le_of_ble_eq_true rfl) ⟨_, ho⟩ ((r_m_putw (d := d + 1) (u := w) h2 (by rw [e9]; exact hx) (by rw [e9, e10]; exact hw) (by omega) la.2.1).mono ?_)
            rintro v S3 ⟨rfl, f3, X3, Z3, h3, hw3, hx3, hs3, hs4⟩
            rw [mrw_xz] at h3
            rw [e9] at hs3
            rw [e10] at hs4
            refine aw_goto at_147_132 ?_
            refine aw_goto at_147_168 ?_
            exact ih ((a + 1, e) :: l) (w ++ [Y a]) X3 Z3 O2 S3 _ _ (by rw [List.length_cons]; omega) (spk_next hk hlt) hw3 (by rw [List.length_append]; show w.length + 1 ≤ 25; omega) (by rw [List.append_assoc]; exact hW) q2 q3 hx3 ⟨fun i hi => (hs3 i hi).trans (hst.1 i hi), fun i hi => (hs4 i hi).trans (hst.2 i hi)⟩ (f2.tr f3) h3
          refine aw_loc at_147_101 rfl rfl ?_
          refine aw_get at_147_102 rfl fl_12_49 ho rfl ?_
          refine aw_loc at_147_105 rfl rfl ?_
          refine ax_ild at_147_107 rfl r13 (k := a) rfl (by omega) (by decide) ?_
          rw [la.2.2]
          refine aw_pure (st' := ax_i (8) :: _) at_147_108 rfl rfl ?_
          refine ax_icmp_lt at_147_110 ⟨by omega, by omega⟩ ⟨by omega, by omega⟩ (fun z => kput (hi.1.1.1 _ (by omega)) (by cases h9 : ld (Y a) with | none => rfl | some b => have := (hi.1.2.2.2 _ _ h9).1; omega)) (fun z => ?_)
          have hv : 117 ≤ Y a := by omega
          rcases hgo with ⟨hqa, hun⟩ | ⟨b, _, hb, hf⟩
          · skip
            have hna := hun.resolve_left (by omega)
            refine aw_loc at_147_113 rfl rfl ?_
            refine aw_loc at_147_115 rfl rfl ?_
            refine ax_icmp_ne at_147_117 ⟨by omega, by omega⟩ ⟨by omega, by omega⟩ (fun z => absurd (by omega) z) (fun _ => kput (hi.1.2.2.1 _ hv hna) hna)
          · skip
            have hqa : q ≠ a := fun e9 => by have := hf.2.1; rw [e9, hb] at this; rcases this with h9 | h9; omega; cases h9
            have hDq := hf.1
            have mq := (hc.2.2.2.2 q hDq)
            have q9 := mq.1
            have mq1 := mq.2.2.1
            have hfq : f (Y a) = wst Tm f q := (hi.1.2.1 _ _ hb).trans (hf.2.2.1 f hi.1.1 hi.1.2.1).symm
            refine aw_loc at_147_113 rfl rfl ?_
            refine aw_loc at_147_115 rfl rfl ?_
            refine ax_icmp_ne at_147_117 ⟨by omega, by omega⟩ ⟨by omega, by omega⟩ (fun _ => ?_) (fun z => absurd (by omega) hqa)
            show ai_aw L xs (d + 2) ai_m147 _ (135, _, _, _)
            refine aw_loc at_147_135 rfl rfl ?_
            refine aw_get at_147_136 rfl fl_12_55 ho rfl ?_
            refine aw_pure (st' := ax_i (200) :: _) at_147_139 rfl rfl ?_
            refine aw_loc at_147_142 rfl rfl ?_
            refine ax_add at_147_144 rfl ?_
            refine aw_loc at_147_145 rfl rfl ?_
            refine ax_ist (k := 200 + ((a + 1) :: l.map Prod.fst).length) at_147_147 rfl r15 (by rw [List.length_cons, List.length_map]; omega) (by rw [List.length_cons, List.length_map]; omega) (by decide) ?_
            have h3 : mst (ai_wr S2 448 (.inl (0, ai_I 400 (ax_f (ax_up O2 (200 + ((a + 1) :: l.map Prod.fst).length) (q : Nat)))))) T D n rc wt kp sx sc (mrw (fup (fup F 9 X) 10 Z) G (ax_up O2 (200 + ((a + 1) :: l.map Prod.fst).length) (q : Nat)) U) B := mst_w15 h2
            have f3 : fr 432 452 S (ai_wr S2 448 (.inl (0, ai_I 400 (ax_f (ax_up O2 (200 + ((a + 1) :: l.map Prod.fst).length) (q : Nat)))))) := f2.tr (fr_md (by decide) (by decide))
            have u2 : rsk (ax_up O2 (200 + ((a + 1) :: l.map Prod.fst).length) (q : Nat)) 200 (q :: (a + 1) :: l.map Prod.fst) := rsk_push q2
            have u3 : rsk (ax_up O2 (200 + ((a + 1) :: l.map Prod.fst).length) (q : Nat)) 300 (e :: l.map Prod.snd) := rsk_up _ (by right; rw [List.length_cons, List.length_map]; omega) q3
            generalize (ai_wr S2 448 (.inl (0, ai_I 400 (ax_f (ax_up O2 (200 + ((a + 1) :: l.map Prod.fst).length) (q : Nat)))))) = S3 at h3 f3 ⊢
            generalize (ax_up O2 (200 + ((a + 1) :: l.map Prod.fst).length) (q : Nat)) = O3 at h3 u2 u3
            have ho := h3.1
            have r15 : ai_arr S3 448 0 = some (400, ax_f ((mrw (fup (fup F 9 X) 10 Z) G O3 U) 15)) := h3.2.1 15 (by decide)
            rw [show (mrw (fup (fup F 9 X) 10 Z) G O3 U) 15 = O3 from mrw_15] at r15
            refine aw_loc at_147_148 rfl rfl ?_
            refine aw_get at_147_149 rfl fl_12_55 ho rfl ?_
            refine aw_pure (st' := ax_i (300) :: _) at_147_152 rfl rfl ?_
            refine aw_loc at_147_155 rfl rfl ?_
            refine ax_add at_147_157 rfl ?_
            refine aw_loc at_147_158 rfl rfl ?_
            refine aw_loc at_147_159 rfl rfl ?_
            refine aw_cv (a := 432) [ax_i (q : Nat)] [ax_i (300 + ((l.length + 1 : Nat) : Int)), .ref 448] at_147_161 mt_12_178 (Or.inl rfl) rfl rfl (Nat.le_of_ble_eq_true rfl) ⟨_, ho⟩ ((r_m_eic (en := en) (d := d) h3 (by rw [z0]; exact hc.1.1) (by rw [e13]; exact hc.2.1) (by rw [z0, e13]; exact mq.2.2)).mono ?_)
            rintro v S0 ⟨hS, rfl⟩
            have hS2 := hS.symm
            subst hS2
            refine ax_ist (k := 300 + (e :: l.map Prod.snd).length) at_147_164 rfl r15 (by rw [List.length_cons, List.length_map]; omega) (by rw [List.length_cons, List.length_map]; omega) (by decide) ?_
            refine ax_inc at_147_165 rfl rfl rfl ?_
            refine aw_goto at_147_168 ?_
            have hTq : Tm q = Y q :: sl Y (q + 1) (en q - (q + 1)) := by
              have h9 := hTm q hDq
              have h10 := hlq q hDq
              rw [h9, show en q - q = en q - (q + 1) + 1 by omega, sl_cons]
            have hq0 : ld (Y q) = none := by
              rcases hf.2.1 with h9 | h9
              · cases h8 : ld (Y q) with
                | none => rfl
                | some b2 => have := (hi.1.2.2.2 _ _ h8).1; omega
              · exact h9
            have hcost : msm (gmf ld f) (Tm q) + 2 ≤ 3 * (f (Y a)).length := by
              have h9 := msm_le (ld := ld) hne (sl Y (q + 1) (en q - (q + 1)))
              have h10 := List.length_pos_iff.2 (hne (Y q))
              rw [hfq]
              unfold wst
              rw [hTq, List.flatMap_cons, List.length_append]
              show gmf ld f (Y q) + msm (gmf ld f) (sl Y (q + 1) (en q - (q + 1))) + 2 ≤ _
              rw [gmf_none hq0]
              omega
            rw [gmf_some hb] at hm2
            have hlq2 : lts Y ((q, en q) :: (a + 1, e) :: l) = Tm q ++ lts Y ((a + 1, e) :: l) := by rw [lts_cons, hTm q hDq]
            have hpk : spk (F 0) (F 13) Dm Y en ld (wst Tm f) 0 ((q, en q) :: (a + 1, e) :: l) := by
              refine ⟨⟨mq1, fun x g1 g2 => (hc.2.2.2.2 x (hen q x hDq g1 g2)).2.1⟩, Or.inr ⟨q, hDq, Nat.le_refl _, rfl, hf.2.1, by rw [← hfq]; exact List.length_pos_iff.2 (hne _), ?_⟩⟩
              have hk2 := spk_next hk hlt
              refine ⟨hk2.1, hk.2.imp id (fun ⟨p, g1, g2, g3, g4, g5, g6⟩ => ⟨p, g1, by have : p ≤ a := g2; show p ≤ a + 1; omega, g3, g4, ?_, g6⟩)⟩
              have hpa : p ≠ a := fun e9 => by rw [e9, hb] at g4; rcases g4 with h9 | h9; omega; cases h9
              have g2' : p ≤ a := g2
              have g3' : e = en p := g3
              have hTp : Tm p = Y p :: sl Y (p + 1) (en p - (p + 1)) := by
                rw [hTm p g1, show en p - p = en p - (p + 1) + 1 by omega, sl_cons]
              rw [← hfq]
              unfold wst
              rw [hTp, List.flatMap_cons, List.length_append]
              have h10 := List.length_pos_iff.2 (hne (Y p))
              have h11 := flat_le (f := f) (c := Y a) (sl Y (p + 1) (en p - (p + 1))) (sl_in Y (by omega) (by omega))
              omega
            have := ih ((q, en q) :: (a + 1, e) :: l) w X Z _ _ (some (ax_i (a : Nat))) (some (ax_i (q : Nat))) (by rw [hlq2, msm_app, List.length_cons, List.length_cons]; omega) hpk hw hwl (by rw [hlq2, List.flatMap_append, ← hW, hfq]) (rsk_up _ (by left; simp only [List.length_map, List.length_cons]; omega) u2) (rsk_push (a := en q) u3) hx hst (f3.tr (fr_md (by decide) (by decide))) (mst_w15 h3)
            rw [List.length_cons, List.length_cons, Int.natCast_add] at this
            exact this
        · skip
          obtain rfl : a = e := by omega
          refine ax_inc at_147_70 rfl rfl rfl ?_
          rw [show ((l.length + 1 : Nat) : Int) + -1 = (l.length : Int) by omega]
          refine aw_goto at_147_73 ?_
          refine aw_goto at_147_168 ?_
          have hl9 : lts Y ((a, a) :: l) = lts Y l := by rw [lts_cons]; show sl Y a (a - a) ++ _ = _; rw [Nat.sub_self]; rfl
          rw [hl9] at hm hW
          exact ih l w X Z O S1 _ _ (by omega) (spk_tail hk) hw hwl hW hr2.2 hr3.2 hx hst f1 h1
set_option maxHeartbeats 8000000 in
theorem r_m_spell {a0 c0 t b0 e0 : Nat} {sq : List (Nat × Nat)} {w : List Int} (h : mst S T D n rc wt kp sx sc (mrw F G O U) B) (hc : mlc A (F 0) (F 13) Dm Y en Tm) (hgl : ldr G ld) (hi : ldi A Dm Y Tm a0 c0 ld sq f) (hen : ∀ p a, Dm p → p ≤ a → a < en p → Dm a) (hTm : ∀ p, Dm p → Tm p = sl Y p (en p - p)) (hlq : ∀ p, Dm p → p < en p) (ht : t < 2) (hw : mwl (F 9) (F 10) t w) (hx : xr (F 9)) (hbe : b0 ≤ e0 ∧ e0 ≤ 128) (hlf : ∀ a, b0 ≤ a → a < e0 → mlf (F 0) (F 13) Y a) : ai_rn L xs (d + 3) 147 [.ref 432, ax_i (t : Nat), ax_i (b0 : Nat), ax_i (e0 : Nat)] S (fun v S' => v = none ∧ fr 432 452 S S' ∧ ∃ X Z O', mst S' T D n rc wt kp sx sc (mrw (fup (fup F 9 X) 10 Z) G O' U) B ∧ mwl X Z t (w ++ (sl Y b0 (e0 - b0)).flatMap f) ∧ xr X ∧ (∀ i, (i < 64 * t ∨ 64 * t + 64 ≤ i) → X i = F 9 i) ∧ (∀ i, i ≠ t → Z i = F 10 i)) := by
  have ho := h.1
  have r15 : ai_arr S 448 0 = some (400, ax_f ((mrw F G O U) 15)) := h.2.1 15 (by decide)
  rw [show (mrw F G O U) 15 = O from mrw_15] at r15
  refine ai_rn_of (M := ai_m147) rfl (by decide) (Nat.le_of_ble_eq_true rfl) ?_
  refine aw_pure (st' := ax_i (1) :: _) at_147_0 rfl rfl ?_
  refine aw_loc at_147_1 rfl rfl ?_
  refine aw_loc at_147_3 rfl rfl ?_
  refine aw_get at_147_4 rfl fl_12_55 ho rfl ?_
  refine aw_pure (st' := ax_i (200) :: _) at_147_7 rfl rfl ?_
  refine aw_loc at_147_10 rfl rfl ?_
  refine ax_ist (k := 200) at_147_11 rfl r15 rfl (by decide) (by decide) ?_
  have h2 : mst (ai_wr S 448 (.inl (0, ai_I 400 (ax_f (ax_up O 200 (b0 : Nat)))))) T D n rc wt kp sx sc (mrw F G (ax_up O 200 (b0 : Nat)) U) B := mst_w15 h
  have f2 := fr_md (S := S) (a := 448) (x := .inl (0, ai_I 400 (ax_f (ax_up O 200 (b0 : Nat))))) (by decide) (by decide)
  generalize ai_wr S 448 (.inl (0, ai_I 400 (ax_f (ax_up O 200 (b0 : Nat))))) = S2 at h2 f2 ⊢
  have ho := h2.1
  have r15 : ai_arr S2 448 0 = some (400, ax_f ((mrw F G (ax_up O 200 (b0 : Nat)) U) 15)) := h2.2.1 15 (by decide)
  rw [show (mrw F G (ax_up O 200 (b0 : Nat)) U) 15 = ax_up O 200 (b0 : Nat) from mrw_15] at r15
  refine aw_loc at_147_12 rfl rfl ?_
  refine aw_get at_147_13 rfl fl_12_55 ho rfl ?_
  refine aw_pure (st' := ax_i (300) :: _) at_147_16 rfl rfl ?_
  refine aw_loc at_147_19 rfl rfl ?_
  refine ax_ist (k := 300) at_147_20 rfl r15 rfl (by decide) (by decide) ?_
  have h3 : mst (ai_wr S2 448 (.inl (0, ai_I 400 (ax_f (ax_up (ax_up O 200 (b0 : Nat)) 300 (e0 : Nat)))))) T D n rc wt kp sx sc (mrw F G (ax_up (ax_up O 200 (b0 : Nat)) 300 (e0 : Nat)) U) B := mst_w15 h2
  have f3 := f2.tr (fr_md (S := S2) (a := 448) (x := .inl (0, ai_I 400 (ax_f (ax_up (ax_up O 200 (b0 : Nat)) 300 (e0 : Nat))))) (by decide) (by decide))
  generalize ai_wr S2 448 (.inl (0, ai_I 400 (ax_f (ax_up (ax_up O 200 (b0 : Nat)) 300 (e0 : Nat))))) = S3 at h3 f3 ⊢
  have eF : fup (fup F 9 (F 9)) 10 (F 10) = F := fup_id F
  rw [← eF] at h3
  rcases hw with ⟨hl, hw⟩ | ⟨hl, hz1, hz2⟩
  · exact r_m_spell1 (Wt := w ++ (sl Y b0 (e0 - b0)).flatMap f) hc hgl hi hen hTm hlq ht _ [(b0, e0)] w (F 9) (F 10) _ S3 _ _ (Nat.le_refl _) ⟨⟨hbe, hlf⟩, Or.inl rfl⟩ hw (by omega) (by rw [lts_cons]; show w ++ (sl Y b0 (e0 - b0) ++ []).flatMap f = _; rw [List.append_nil]) ⟨rfl, True.intro⟩ ⟨rfl, True.intro⟩ hx ⟨fun i _ => rfl, fun i _ => rfl⟩ f3 h3
  · skip
    rw [eF] at h3
    have ho := h3.1
    have r10 : ai_arr S3 443 0 = some (3, ax_f ((mrw F G (ax_up (ax_up O 200 (b0 : Nat)) 300 (e0 : Nat)) U) 10)) := h3.2.1 10 (by decide)
    rw [show (mrw F G (ax_up (ax_up O 200 (b0 : Nat)) 300 (e0 : Nat)) U) 10 = F 10 from mrw_ne (by decide) (by decide) (by decide)] at r10
    refine aw_loc at_147_21 rfl rfl ?_
    refine ax_if_le at_147_23 ⟨by decide, by decide⟩ (fun z => absurd z (by decide)) (fun _ => ?_)
    refine aw_loc at_147_26 rfl rfl ?_
    refine aw_get at_147_27 rfl fl_12_40 ho rfl ?_
    refine aw_loc at_147_30 rfl rfl ?_
    refine ax_ild at_147_31 rfl r10 (k := t) rfl (by omega) (by decide) ?_
    refine aw_pure (st' := ax_i (24) :: _) at_147_32 rfl rfl ?_
    refine ax_icmp_gt at_147_34 ⟨by omega, by omega⟩ ⟨by omega, by omega⟩ (fun _ => ?_) (fun z => absurd z (by omega))
    show ai_aw L xs (d + 2) ai_m147 _ (171, _, _, _)
    rw [← eF] at h3
    exact aw_vret at_147_171 rfl ⟨_, _, rfl, rfl, f3, F 9, F 10, _, h3, Or.inr ⟨by rw [List.length_append]; omega, hz1, hz2⟩, hx, fun i _ => rfl, fun i _ => rfl⟩
end MS

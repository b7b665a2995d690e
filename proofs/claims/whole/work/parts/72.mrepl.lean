/-! The reference: rewriting and normal forms. -/
def rcl (s : sgm) (c : Int) : List Int := rc s c
theorem rcl_sym {s : sgm} {c : Int} (h : c < 117) : rcl s c = [c] := if_pos h
theorem rcl_var {s : sgm} {c : Int} {t : List Int} (h : 117 ≤ c) (ht : s c = some t) : rcl s c = t := by
  unfold rcl rc
  rw [if_neg (by omega), ht]
  rfl
theorem rcl_take {s : sgm} {r : List Int} {j : Nat} (hj : j < r.length) : rb s (r.take (j + 1)) = rb s (r.take j) ++ rcl s (r.getD j 0) := rb_take hj
section MN
variable {L : Nat} {xs : Nat → Int32} {d : Nat} {S S' : ai_S} {T D n rc wt kp sx sc : Int} {F : Nat → Nat → Int} {B : Nat → Int} {P : Nat → Int} {A : Int → Nat}
theorem fup_id (F : Nat → Nat → Int) : fup (fup F 9 (F 9)) 10 (F 10) = F := by
  rw [fup_self, fup_self]
/-- a code is put into a slot -/
theorem r_m_putw {t : Nat} {u : List Int} {c : Int} (h : mst S T D n rc wt kp sx sc F B) (hx : xr (F 9)) (hu : mwd (F 9) (F 10) t u) (ht : t < 3) (hc : kn P 129 c) : ai_rn L xs (d + 1) 108 [.ref 432, ax_i (t : Nat), ax_i (co c)] S (fun v S' => v = none ∧ fr 432 452 S S' ∧ ∃ X Z, mst S' T D n rc wt kp sx sc (fup (fup F 9 X) 10 Z) B ∧ mwd X Z t (u ++ [c]) ∧ xr X ∧ (∀ i, (i < 64 * t ∨ 64 * t + 64 ≤ i) → X i = F 9 i) ∧ ∀ i, i ≠ t → Z i = F 10 i) := by
  have r9 : ai_arr S 442 0 = some (192, ax_f (F 9)) := h.2.1 9 (by decide)
  have r10 : ai_arr S 443 0 = some (3, ax_f (F 10)) := h.2.1 10 (by decide)
  have hco := co_in hc
  refine (r_m_put h.1 r9 r10 ht hu.1 (by omega) (c := co c)).mono ?_
  rintro v S1 ⟨rfl, k1, k2⟩
  by_cases hz : u.length < 64
  · have e := k1 (by omega)
    rw [show min u.length 64 = u.length by omega] at e
    subst e
    refine ⟨rfl, fr_mt, _, _, mst_mt h, ⟨?_, fun i hi h64 => ?_⟩, xr_up hx (by omega), fun i hi => if_neg (by omega), fun i hi => if_neg hi⟩
    · show (if t = t then _ else _) = _
      rw [if_pos rfl, List.length_append, List.length_singleton]
      omega
    · rw [List.length_append, List.length_singleton] at hi
      unfold ax_up
      by_cases ei : i = u.length
      · rw [if_pos (by omega), ei, List.getD_eq_getElem?_getD, List.getElem?_append_right (Nat.le_refl _), Nat.sub_self]
        rfl
      · rw [if_neg (by omega), hu.2 i (by omega) h64, List.getD_eq_getElem?_getD, List.getD_eq_getElem?_getD, List.getElem?_append_left (by omega)]
  · have e := k2 (by omega)
    subst e
    refine ⟨rfl, fr.rf, F 9, F 10, by rw [fup_id]; exact h, ⟨?_, fun i hi h64 => ?_⟩, hx, fun i _ => rfl, fun i _ => rfl⟩
    · rw [hu.1, List.length_append, List.length_singleton]
      omega
    · rw [hu.2 i (by omega) h64, List.getD_eq_getElem?_getD, List.getD_eq_getElem?_getD, List.getElem?_append_left (by omega)]
/-- what is built in the third slot -/
def stw (F : Nat → Nat → Int) (X Z : Nat → Int) (u : List Int) : Prop := mwd X Z 2 u ∧ xr X ∧ (∀ i, i < 128 → X i = F 9 i) ∧ Z 0 = F 10 0 ∧ Z 1 = F 10 1
theorem r_m_puts {u : List Int} {c : Int} {X Z : Nat → Int} (h : mst S T D n rc wt kp sx sc (fup (fup F 9 X) 10 Z) B) (hw : stw F X Z u) (hc : kn P 129 c) : ai_rn L xs (d + 1) 108 [.ref 432, ax_i ((2 : Nat) : Int), ax_i (co c)] S (fun v S' => v = none ∧ fr 432 452 S S' ∧ ∃ X' Z', mst S' T D n rc wt kp sx sc (fup (fup F 9 X') 10 Z') B ∧ stw F X' Z' (u ++ [c])) := by
  have e9 : fup (fup F 9 X) 10 Z 9 = X := (fup_ne (by decide)).trans (fup_get _ _ _)
  have e10 : fup (fup F 9 X) 10 Z 10 = Z := fup_get _ _ _
  refine (r_m_putw (t := 2) h (by rw [e9]; exact hw.2.1) (by rw [e9, e10]; exact hw.1) (by decide) hc).mono ?_
  rintro v S1 ⟨rfl, f1, X', Z', h1, h2, h3, h4, h5⟩
  rw [fup_four] at h1
  rw [e9] at h4
  rw [e10] at h5
  exact ⟨rfl, f1, X', Z', h1, h2, h3, fun i hi => (h4 i (by omega)).trans (hw.2.2.1 i hi), (h5 0 (by decide)).trans hw.2.2.2.1, (h5 1 (by decide)).trans hw.2.2.2.2⟩
theorem at_122_0 : ai_at ai_m122 0 = some (.aload_n 0, 1) := rfl
theorem at_122_1 : ai_at ai_m122 1 = some (.getfield 40, 3) := rfl
theorem at_122_4 : ai_at ai_m122 4 = some (.iconst 2, 1) := rfl
theorem at_122_5 : ai_at ai_m122 5 = some (.iconst 0, 1) := rfl
theorem at_122_6 : ai_at ai_m122 6 = some (.iastore, 1) := rfl
theorem at_122_7 : ai_at ai_m122 7 = some (.iconst 0, 1) := rfl
theorem at_122_8 : ai_at ai_m122 8 = some (.istore 4, 2) := rfl
theorem at_122_10 : ai_at ai_m122 10 = some (.iload 4, 2) := rfl
theorem at_122_12 : ai_at ai_m122 12 = some (.iload_n 2, 1) := rfl
theorem at_122_13 : ai_at ai_m122 13 = some (.if_icmp .ge 26, 3) := rfl
theorem at_122_16 : ai_at ai_m122 16 = some (.aload_n 0, 1) := rfl
theorem at_122_17 : ai_at ai_m122 17 = some (.iconst 2, 1) := rfl
theorem at_122_18 : ai_at ai_m122 18 = some (.aload_n 0, 1) := rfl
theorem at_122_19 : ai_at ai_m122 19 = some (.getfield 37, 3) := rfl
theorem at_122_22 : ai_at ai_m122 22 = some (.bipush 64, 2) := rfl
theorem at_122_24 : ai_at ai_m122 24 = some (.iload_n 1, 1) := rfl
theorem at_122_25 : ai_at ai_m122 25 = some (.imul, 1) := rfl
theorem at_122_26 : ai_at ai_m122 26 = some (.iload 4, 2) := rfl
theorem at_122_28 : ai_at ai_m122 28 = some (.iadd, 1) := rfl
theorem at_122_29 : ai_at ai_m122 29 = some (.iaload, 1) := rfl
theorem at_122_30 : ai_at ai_m122 30 = some (.invokevirtual 92, 3) := rfl
theorem at_122_33 : ai_at ai_m122 33 = some (.iinc 4 1, 3) := rfl
theorem at_122_36 : ai_at ai_m122 36 = some (.goto (-26), 3) := rfl
theorem at_122_39 : ai_at ai_m122 39 = some (.iconst 0, 1) := rfl
theorem at_122_40 : ai_at ai_m122 40 = some (.istore 4, 2) := rfl
theorem at_122_42 : ai_at ai_m122 42 = some (.iload 4, 2) := rfl
theorem at_122_44 : ai_at ai_m122 44 = some (.aload_n 0, 1) := rfl
theorem at_122_45 : ai_at ai_m122 45 = some (.getfield 25, 3) := rfl
theorem at_122_48 : ai_at ai_m122 48 = some (.iload_n 3, 1) := rfl
theorem at_122_49 : ai_at ai_m122 49 = some (.iaload, 1) := rfl
theorem at_122_50 : ai_at ai_m122 50 = some (.if_icmp .ge 108, 3) := rfl
theorem at_122_53 : ai_at ai_m122 53 = some (.aload_n 0, 1) := rfl
theorem at_122_54 : ai_at ai_m122 54 = some (.getfield 19, 3) := rfl
theorem at_122_57 : ai_at ai_m122 57 = some (.bipush 48, 2) := rfl
theorem at_122_59 : ai_at ai_m122 59 = some (.iload_n 3, 1) := rfl
theorem at_122_60 : ai_at ai_m122 60 = some (.imul, 1) := rfl
theorem at_122_61 : ai_at ai_m122 61 = some (.bipush 24, 2) := rfl
theorem at_122_63 : ai_at ai_m122 63 = some (.iadd, 1) := rfl
theorem at_122_64 : ai_at ai_m122 64 = some (.iload 4, 2) := rfl
theorem at_122_66 : ai_at ai_m122 66 = some (.iadd, 1) := rfl
theorem at_122_67 : ai_at ai_m122 67 = some (.iaload, 1) := rfl
theorem at_122_68 : ai_at ai_m122 68 = some (.istore 5, 2) := rfl
theorem at_122_70 : ai_at ai_m122 70 = some (.iload 5, 2) := rfl
theorem at_122_72 : ai_at ai_m122 72 = some (.bipush 8, 2) := rfl
theorem at_122_74 : ai_at ai_m122 74 = some (.if_icmp .ge 10, 3) := rfl
theorem at_122_77 : ai_at ai_m122 77 = some (.aload_n 0, 1) := rfl
theorem at_122_78 : ai_at ai_m122 78 = some (.iconst 2, 1) := rfl
theorem at_122_79 : ai_at ai_m122 79 = some (.iload 5, 2) := rfl
theorem at_122_81 : ai_at ai_m122 81 = some (.invokevirtual 92, 3) := rfl
theorem at_122_84 : ai_at ai_m122 84 = some (.iload 5, 2) := rfl
theorem at_122_86 : ai_at ai_m122 86 = some (.bipush 8, 2) := rfl
theorem at_122_88 : ai_at ai_m122 88 = some (.if_icmp .ge 7, 3) := rfl
theorem at_122_91 : ai_at ai_m122 91 = some (.iconst 0, 1) := rfl
theorem at_122_92 : ai_at ai_m122 92 = some (.goto 13, 3) := rfl
theorem at_122_95 : ai_at ai_m122 95 = some (.aload_n 0, 1) := rfl
theorem at_122_96 : ai_at ai_m122 96 = some (.getfield 43, 3) := rfl
theorem at_122_99 : ai_at ai_m122 99 = some (.iload 5, 2) := rfl
theorem at_122_101 : ai_at ai_m122 101 = some (.bipush 8, 2) := rfl
theorem at_122_103 : ai_at ai_m122 103 = some (.isub, 1) := rfl
theorem at_122_104 : ai_at ai_m122 104 = some (.iaload, 1) := rfl
theorem at_122_105 : ai_at ai_m122 105 = some (.istore 6, 2) := rfl
theorem at_122_107 : ai_at ai_m122 107 = some (.iload 5, 2) := rfl
theorem at_122_109 : ai_at ai_m122 109 = some (.bipush 8, 2) := rfl
theorem at_122_111 : ai_at ai_m122 111 = some (.if_icmp .lt 41, 3) := rfl
theorem at_122_114 : ai_at ai_m122 114 = some (.iload 6, 2) := rfl
theorem at_122_116 : ai_at ai_m122 116 = some (.aload_n 0, 1) := rfl
theorem at_122_117 : ai_at ai_m122 117 = some (.getfield 46, 3) := rfl
theorem at_122_120 : ai_at ai_m122 120 = some (.iload 5, 2) := rfl
theorem at_122_122 : ai_at ai_m122 122 = some (.bipush 8, 2) := rfl
theorem at_122_124 : ai_at ai_m122 124 = some (.isub, 1) := rfl
theorem at_122_125 : ai_at ai_m122 125 = some (.iaload, 1) := rfl
theorem at_122_126 : ai_at ai_m122 126 = some (.if_icmp .ge 26, 3) := rfl
theorem at_122_129 : ai_at ai_m122 129 = some (.aload_n 0, 1) := rfl
theorem at_122_130 : ai_at ai_m122 130 = some (.iconst 2, 1) := rfl
theorem at_122_131 : ai_at ai_m122 131 = some (.aload_n 0, 1) := rfl
theorem at_122_132 : ai_at ai_m122 132 = some (.getfield 37, 3) := rfl
theorem at_122_135 : ai_at ai_m122 135 = some (.bipush 64, 2) := rfl
theorem at_122_137 : ai_at ai_m122 137 = some (.iload_n 1, 1) := rfl
theorem at_122_138 : ai_at ai_m122 138 = some (.imul, 1) := rfl
theorem at_122_139 : ai_at ai_m122 139 = some (.iload 6, 2) := rfl
theorem at_122_141 : ai_at ai_m122 141 = some (.iadd, 1) := rfl
theorem at_122_142 : ai_at ai_m122 142 = some (.iaload, 1) := rfl
theorem at_122_143 : ai_at ai_m122 143 = some (.invokevirtual 92, 3) := rfl
theorem at_122_146 : ai_at ai_m122 146 = some (.iinc 6 1, 3) := rfl
theorem at_122_149 : ai_at ai_m122 149 = some (.goto (-42), 3) := rfl
theorem at_122_152 : ai_at ai_m122 152 = some (.iinc 4 1, 3) := rfl
theorem at_122_155 : ai_at ai_m122 155 = some (.goto (-113), 3) := rfl
theorem at_122_158 : ai_at ai_m122 158 = some (.aload_n 0, 1) := rfl
theorem at_122_159 : ai_at ai_m122 159 = some (.iload_n 1, 1) := rfl
theorem at_122_160 : ai_at ai_m122 160 = some (.iload_n 2, 1) := rfl
theorem at_122_161 : ai_at ai_m122 161 = some (.invokevirtual 116, 3) := rfl
theorem at_122_164 : ai_at ai_m122 164 = some (.istore 4, 2) := rfl
theorem at_122_166 : ai_at ai_m122 166 = some (.iload 4, 2) := rfl
theorem at_122_168 : ai_at ai_m122 168 = some (.aload_n 0, 1) := rfl
theorem at_122_169 : ai_at ai_m122 169 = some (.getfield 40, 3) := rfl
theorem at_122_172 : ai_at ai_m122 172 = some (.iload_n 1, 1) := rfl
theorem at_122_173 : ai_at ai_m122 173 = some (.iaload, 1) := rfl
theorem at_122_174 : ai_at ai_m122 174 = some (.if_icmp .ge 26, 3) := rfl
theorem at_122_177 : ai_at ai_m122 177 = some (.aload_n 0, 1) := rfl
theorem at_122_178 : ai_at ai_m122 178 = some (.iconst 2, 1) := rfl
theorem at_122_179 : ai_at ai_m122 179 = some (.aload_n 0, 1) := rfl
theorem at_122_180 : ai_at ai_m122 180 = some (.getfield 37, 3) := rfl
theorem at_122_183 : ai_at ai_m122 183 = some (.bipush 64, 2) := rfl
theorem at_122_185 : ai_at ai_m122 185 = some (.iload_n 1, 1) := rfl
theorem at_122_186 : ai_at ai_m122 186 = some (.imul, 1) := rfl
theorem at_122_187 : ai_at ai_m122 187 = some (.iload 4, 2) := rfl
theorem at_122_189 : ai_at ai_m122 189 = some (.iadd, 1) := rfl
theorem at_122_190 : ai_at ai_m122 190 = some (.iaload, 1) := rfl
theorem at_122_191 : ai_at ai_m122 191 = some (.invokevirtual 92, 3) := rfl
theorem at_122_194 : ai_at ai_m122 194 = some (.iinc 4 1, 3) := rfl
theorem at_122_197 : ai_at ai_m122 197 = some (.goto (-31), 3) := rfl
theorem at_122_200 : ai_at ai_m122 200 = some (.aload_n 0, 1) := rfl
theorem at_122_201 : ai_at ai_m122 201 = some (.iconst 2, 1) := rfl
theorem at_122_202 : ai_at ai_m122 202 = some (.iload_n 1, 1) := rfl
theorem at_122_203 : ai_at ai_m122 203 = some (.invokevirtual 103, 3) := rfl
theorem at_122_206 : ai_at ai_m122 206 = some (.return_, 1) := rfl
set_option maxHeartbeats 8000000 in
theorem r_m_rep1 {t p k : Nat} {w : List Int} {Q : ai_O → Prop} (hw : mwd (F 9) (F 10) t w) (hkw : al (kn (F 0) 129) w) (hwl : w.length ≤ 24) (ht : t < 2) (hp : p < w.length) : ∀ (m i : Nat) (S1 : ai_S) (X Z : Nat → Int) (y5 y6 : Option Value), i + m = p → fr 432 452 S S1 → mst S1 T D n rc wt kp sx sc (fup (fup F 9 X) 10 Z) B → stw F X Z (w.take i) → (∀ (S2 : ai_S) (X Z : Nat → Int) (y5 y6 : Option Value), fr 432 452 S S2 → mst S2 T D n rc wt kp sx sc (fup (fup F 9 X) 10 Z) B → stw F X Z (w.take p) → ai_aw L xs (d + 1) ai_m122 Q (39, [some (.ref 432), some (ax_i (t : Nat)), some (ax_i (p : Nat)), some (ax_i (k : Nat)), some (ax_i (p : Nat)), y5, y6], [], S2)) → ai_aw L xs (d + 1) ai_m122 Q (10, [some (.ref 432), some (ax_i (t : Nat)), some (ax_i (p : Nat)), some (ax_i (k : Nat)), some (ax_i (i : Nat)), y5, y6], [], S1) := by
  intro m
  induction m with
  | zero =>
    intro i S1 X Z y5 y6 hi f1 h1 hu hc
    have ho := h1.1
    have r9 : ai_arr S1 442 0 = some (192, ax_f ((fup (fup F 9 X) 10 Z) 9)) := h1.2.1 9 (by decide)
    rw [show (fup (fup F 9 X) 10 Z) 9 = X from (fup_ne (by decide)).trans (fup_get _ _ _)] at r9
    have r10 : ai_arr S1 443 0 = some (3, ax_f ((fup (fup F 9 X) 10 Z) 10)) := h1.2.1 10 (by decide)
    rw [show (fup (fup F 9 X) 10 Z) 10 = Z from fup_get _ _ _] at r10
    obtain rfl : i = p := by omega
    refine aw_loc at_122_10 rfl rfl ?_
    refine aw_loc at_122_12 rfl rfl ?_
    refine ax_icmp_ge at_122_13 ⟨by omega, by omega⟩ ⟨by omega, by omega⟩ (fun _ => hc S1 X Z y5 y6 f1 h1 hu) (fun z => absurd z (by omega))
  | succ m ih =>
    intro i S1 X Z y5 y6 hi f1 h1 hu hc
    have ho := h1.1
    have r9 : ai_arr S1 442 0 = some (192, ax_f ((fup (fup F 9 X) 10 Z) 9)) := h1.2.1 9 (by decide)
    rw [show (fup (fup F 9 X) 10 Z) 9 = X from (fup_ne (by decide)).trans (fup_get _ _ _)] at r9
    have r10 : ai_arr S1 443 0 = some (3, ax_f ((fup (fup F 9 X) 10 Z) 10)) := h1.2.1 10 (by decide)
    rw [show (fup (fup F 9 X) 10 Z) 10 = Z from fup_get _ _ _] at r10
    have hiw : i < w.length := by omega
    have hXi : X (64 * t + i) = co (w.getD i 0) := (hu.2.2.1 _ (by omega)).trans (hw.2 i hiw (by omega))
    have hkc := hkw (w.getD i 0) (by rw [getD_eq hiw]; exact List.getElem_mem _)
    refine aw_loc at_122_10 rfl rfl ?_
    refine aw_loc at_122_12 rfl rfl ?_
    refine ax_icmp_ge at_122_13 ⟨by omega, by omega⟩ ⟨by omega, by omega⟩ (fun z => absurd z (by omega)) (fun _ => ?_)
    refine aw_loc at_122_16 rfl rfl ?_
    refine aw_pure (st' := ax_i (2) :: _) at_122_17 rfl rfl ?_
    refine aw_loc at_122_18 rfl rfl ?_
    refine aw_get at_122_19 rfl fl_12_37 ho rfl ?_
    refine aw_pure (st' := ax_i (64) :: _) at_122_22 rfl rfl ?_
    refine aw_loc at_122_24 rfl rfl ?_
    refine ax_mul at_122_25 rfl ?_
    refine aw_loc at_122_26 rfl rfl ?_
    refine ax_add at_122_28 rfl ?_
    refine ax_ild at_122_29 rfl r9 (k := 64 * t + i) (by omega) (by omega) (by decide) ?_
    rw [hXi]
    refine aw_cv (a := 432) [ax_i ((2 : Nat) : Int), ax_i (co (w.getD i 0))] [] at_122_30 mt_12_92 (Or.inl rfl) rfl rfl (Nat.le_of_ble_eq_true rfl) ⟨_, ho⟩ ((r_m_puts h1 hu hkc).mono ?_)
    rintro v S2 ⟨rfl, f2, X2, Z2, h2, hu2⟩
    have e : w.take i ++ [w.getD i 0] = w.take (i + 1) := by rw [List.take_add_one, List.getD_eq_getElem?_getD, List.getElem?_eq_getElem hiw]; rfl
    rw [e] at hu2
    refine ax_inc at_122_33 rfl rfl rfl ?_
    refine aw_goto at_122_36 ?_
    have := ih (i + 1) S2 X2 Z2 y5 y6 (by omega) (f1.tr f2) h2 hu2 hc
    rw [Int.natCast_add] at this
    exact this
set_option maxHeartbeats 8000000 in
theorem r_m_rep2 {t p k i b e : Nat} {w acc : List Int} {c : Int} {Q : ai_O → Prop} (hw : mwd (F 9) (F 10) t w) (hkw : al (kn (F 0) 129) w) (hwl : w.length ≤ 24) (ht : t < 2) (hcv : 117 ≤ c ∧ c < 123) (hto : F 12 (c - 117).toNat = (e : Int)) (hbe : b ≤ e) (hew : e ≤ w.length) (hcc : 0 ≤ co c ∧ co c < 20 ∧ (c < 117 ↔ co c < 8)) : ∀ (m j : Nat) (S1 : ai_S) (X Z : Nat → Int), (j + m = e ∧ b ≤ j) → fr 432 452 S S1 → mst S1 T D n rc wt kp sx sc (fup (fup F 9 X) 10 Z) B → stw F X Z (acc ++ sl (fun i => w.getD i 0) b (j - b)) → (∀ (S2 : ai_S) (X Z : Nat → Int) (y6 : Int), fr 432 452 S S2 → mst S2 T D n rc wt kp sx sc (fup (fup F 9 X) 10 Z) B → stw F X Z (acc ++ sl (fun i => w.getD i 0) b (e - b)) → ai_aw L xs (d + 1) ai_m122 Q (152, [some (.ref 432), some (ax_i (t : Nat)), some (ax_i (p : Nat)), some (ax_i (k : Nat)), some (ax_i (i : Nat)), some (ax_i (co c)), some (ax_i y6)], [], S2)) → ai_aw L xs (d + 1) ai_m122 Q (107, [some (.ref 432), some (ax_i (t : Nat)), some (ax_i (p : Nat)), some (ax_i (k : Nat)), some (ax_i (i : Nat)), some (ax_i (co c)), some (ax_i (j : Nat))], [], S1) := by
  intro m
  induction m with
  | zero =>
    intro j S1 X Z hj f1 h1 hu hc
    have ho := h1.1
    have r9 : ai_arr S1 442 0 = some (192, ax_f ((fup (fup F 9 X) 10 Z) 9)) := h1.2.1 9 (by decide)
    rw [show (fup (fup F 9 X) 10 Z) 9 = X from (fup_ne (by decide)).trans (fup_get _ _ _)] at r9
    have r10 : ai_arr S1 443 0 = some (3, ax_f ((fup (fup F 9 X) 10 Z) 10)) := h1.2.1 10 (by decide)
    rw [show (fup (fup F 9 X) 10 Z) 10 = Z from fup_get _ _ _] at r10
    have r12 : ai_arr S1 445 0 = some (20, ax_f ((fup (fup F 9 X) 10 Z) 12)) := h1.2.1 12 (by decide)
    rw [show (fup (fup F 9 X) 10 Z) 12 = F 12 from (fup_ne (by decide)).trans (fup_ne (by decide))] at r12
    have ecc : co c - 8 = c - 117 := by unfold co; rw [if_neg (by omega)]; omega
    have h8 : 8 ≤ co c := by omega
    obtain rfl : j = e := by omega
    refine aw_loc at_122_107 rfl rfl ?_
    refine aw_pure (st' := ax_i (8) :: _) at_122_109 rfl rfl ?_
    refine ax_icmp_lt at_122_111 ⟨by omega, by omega⟩ ⟨by omega, by omega⟩ (fun z => absurd z (by omega)) (fun _ => ?_)
    refine aw_loc at_122_114 rfl rfl ?_
    refine aw_loc at_122_116 rfl rfl ?_
    refine aw_get at_122_117 rfl fl_12_46 ho rfl ?_
    refine aw_loc at_122_120 rfl rfl ?_
    refine aw_pure (st' := ax_i (8) :: _) at_122_122 rfl rfl ?_
    refine ax_sub at_122_124 rfl ?_
    rw [ecc]
    refine ax_ild (k := (c - 117).toNat) at_122_125 rfl r12 (by omega) (by omega) (by decide) ?_
    rw [hto]
    refine ax_icmp_ge at_122_126 ⟨by omega, by omega⟩ ⟨by omega, by omega⟩ (fun _ => hc S1 X Z _ f1 h1 hu) (fun z => absurd z (by omega))
  | succ m ih =>
    intro j S1 X Z hj f1 h1 hu hc
    have ho := h1.1
    have r9 : ai_arr S1 442 0 = some (192, ax_f ((fup (fup F 9 X) 10 Z) 9)) := h1.2.1 9 (by decide)
    rw [show (fup (fup F 9 X) 10 Z) 9 = X from (fup_ne (by decide)).trans (fup_get _ _ _)] at r9
    have r10 : ai_arr S1 443 0 = some (3, ax_f ((fup (fup F 9 X) 10 Z) 10)) := h1.2.1 10 (by decide)
    rw [show (fup (fup F 9 X) 10 Z) 10 = Z from fup_get _ _ _] at r10
    have r12 : ai_arr S1 445 0 = some (20, ax_f ((fup (fup F 9 X) 10 Z) 12)) := h1.2.1 12 (by decide)
    rw [show (fup (fup F 9 X) 10 Z) 12 = F 12 from (fup_ne (by decide)).trans (fup_ne (by decide))] at r12
    have ecc : co c - 8 = c - 117 := by unfold co; rw [if_neg (by omega)]; omega
    have h8 : 8 ≤ co c := by omega
    have hiw : j < w.length := by omega
    have hXi : X (64 * t + j) = co (w.getD j 0) := (hu.2.2.1 _ (by omega)).trans (hw.2 j hiw (by omega))
    have hkc := hkw (w.getD j 0) (by rw [getD_eq hiw]; exact List.getElem_mem _)
    refine aw_loc at_122_107 rfl rfl ?_
    refine aw_pure (st' := ax_i (8) :: _) at_122_109 rfl rfl ?_
    refine ax_icmp_lt at_122_111 ⟨by omega, by omega⟩ ⟨by omega, by omega⟩ (fun z => absurd z (by omega)) (fun _ => ?_)
    refine aw_loc at_122_114 rfl rfl ?_
    refine aw_loc at_122_116 rfl rfl ?_
    refine aw_get at_122_117 rfl fl_12_46 ho rfl ?_
    refine aw_loc at_122_120 rfl rfl ?_
    refine aw_pure (st' := ax_i (8) :: _) at_122_122 rfl rfl ?_
    refine ax_sub at_122_124 rfl ?_
    rw [ecc]
    refine ax_ild (k := (c - 117).toNat) at_122_125 rfl r12 (by omega) (by omega) (by decide) ?_
    rw [hto]
    refine ax_icmp_ge at_122_126 ⟨by omega, by omega⟩ ⟨by omega, by omega⟩ (fun z => absurd z (by omega)) (fun _ => ?_)
    refine aw_loc at_122_129 rfl rfl ?_
    refine aw_pure (st' := ax_i (2) :: _) at_122_130 rfl rfl ?_
    refine aw_loc at_122_131 rfl rfl ?_
    refine aw_get at_122_132 rfl fl_12_37 ho rfl ?_
    refine aw_pure (st' := ax_i (64) :: _) at_122_135 rfl rfl ?_
    refine aw_loc at_122_137 rfl rfl ?_
    refine ax_mul at_122_138 rfl ?_
    refine aw_loc at_122_139 rfl rfl ?_
    refine ax_add at_122_141 rfl ?_
    refine ax_ild at_122_142 rfl r9 (k := 64 * t + j) (by omega) (by omega) (by decide) ?_
    rw [hXi]
    refine aw_cv (a := 432) [ax_i ((2 : Nat) : Int), ax_i (co (w.getD j 0))] [] at_122_143 mt_12_92 (Or.inl rfl) rfl rfl (Nat.le_of_ble_eq_true rfl) ⟨_, ho⟩ ((r_m_puts h1 hu hkc).mono ?_)
    rintro v S2 ⟨rfl, f2, X2, Z2, h2, hu2⟩
    have e9 : acc ++ sl (fun i => w.getD i 0) b (j - b) ++ [w.getD j 0] = acc ++ sl (fun i => w.getD i 0) b (j + 1 - b) := by rw [List.append_assoc, show j + 1 - b = j - b + 1 by omega, sl_succ, show b + (j - b) = j by omega]
    rw [e9] at hu2
    refine ax_inc at_122_146 rfl rfl rfl ?_
    refine aw_goto at_122_149 ?_
    have := ih (j + 1) S2 X2 Z2 (by omega) (f1.tr f2) h2 hu2 hc
    rw [Int.natCast_add] at this
    exact this
set_option maxHeartbeats 8000000 in
theorem r_m_rep3 {t p k : Nat} {w : List Int} {q : List Int × List Int} {s : sgm} {Q : ai_O → Prop} (hw : mwd (F 9) (F 10) t w) (hkw : al (kn (F 0) 129) w) (hwl : w.length ≤ 24) (ht : t < 2) (hq : qsl (F 3) (F 4) (F 5) k q) (hk : k < 15) (hkr : al (kn (F 0) 123) q.2) (hB : rpM A w (F 11) (F 12) s) (hbd : ∀ c, c ∈ q.2 → 117 ≤ c → ∃ t, s c = some t) : ∀ (m i : Nat) (S1 : ai_S) (X Z : Nat → Int) (y5 y6 : Option Value), i + m = q.2.length → fr 432 452 S S1 → mst S1 T D n rc wt kp sx sc (fup (fup F 9 X) 10 Z) B → stw F X Z (w.take p ++ rb s (q.2.take i)) → (∀ (S2 : ai_S) (X Z : Nat → Int) (y5 y6 : Option Value), fr 432 452 S S2 → mst S2 T D n rc wt kp sx sc (fup (fup F 9 X) 10 Z) B → stw F X Z (w.take p ++ rb s q.2) → ai_aw L xs (d + 1) ai_m122 Q (158, [some (.ref 432), some (ax_i (t : Nat)), some (ax_i (p : Nat)), some (ax_i (k : Nat)), some (ax_i (q.2.length : Nat)), y5, y6], [], S2)) → ai_aw L xs (d + 1) ai_m122 Q (42, [some (.ref 432), some (ax_i (t : Nat)), some (ax_i (p : Nat)), some (ax_i (k : Nat)), some (ax_i (i : Nat)), y5, y6], [], S1) := by
  have hqr := hq.1.2
  have hq24 := hq.2.1
  intro m
  induction m with
  | zero =>
    intro i S1 X Z y5 y6 hi f1 h1 hu hc
    have ho := h1.1
    have r3 : ai_arr S1 436 0 = some (720, ax_f ((fup (fup F 9 X) 10 Z) 3)) := h1.2.1 3 (by decide)
    rw [show (fup (fup F 9 X) 10 Z) 3 = F 3 from (fup_ne (by decide)).trans (fup_ne (by decide))] at r3
    have r5 : ai_arr S1 438 0 = some (15, ax_f ((fup (fup F 9 X) 10 Z) 5)) := h1.2.1 5 (by decide)
    rw [show (fup (fup F 9 X) 10 Z) 5 = F 5 from (fup_ne (by decide)).trans (fup_ne (by decide))] at r5
    have r11 : ai_arr S1 444 0 = some (20, ax_f ((fup (fup F 9 X) 10 Z) 11)) := h1.2.1 11 (by decide)
    rw [show (fup (fup F 9 X) 10 Z) 11 = F 11 from (fup_ne (by decide)).trans (fup_ne (by decide))] at r11
    obtain rfl : i = q.2.length := by omega
    rw [List.take_length] at hu
    refine aw_loc at_122_42 rfl rfl ?_
    refine aw_loc at_122_44 rfl rfl ?_
    refine aw_get at_122_45 rfl fl_12_25 ho rfl ?_
    refine aw_loc at_122_48 rfl rfl ?_
    refine ax_ild at_122_49 rfl r5 (k := k) rfl hk (by decide) ?_
    rw [hqr]
    refine ax_icmp_ge at_122_50 ⟨by omega, by omega⟩ ⟨by omega, by omega⟩ (fun _ => hc S1 X Z y5 y6 f1 h1 hu) (fun z => absurd z (by omega))
  | succ m ih =>
    intro i S1 X Z y5 y6 hi f1 h1 hu hc
    have ho := h1.1
    have r3 : ai_arr S1 436 0 = some (720, ax_f ((fup (fup F 9 X) 10 Z) 3)) := h1.2.1 3 (by decide)
    rw [show (fup (fup F 9 X) 10 Z) 3 = F 3 from (fup_ne (by decide)).trans (fup_ne (by decide))] at r3
    have r5 : ai_arr S1 438 0 = some (15, ax_f ((fup (fup F 9 X) 10 Z) 5)) := h1.2.1 5 (by decide)
    rw [show (fup (fup F 9 X) 10 Z) 5 = F 5 from (fup_ne (by decide)).trans (fup_ne (by decide))] at r5
    have r11 : ai_arr S1 444 0 = some (20, ax_f ((fup (fup F 9 X) 10 Z) 11)) := h1.2.1 11 (by decide)
    rw [show (fup (fup F 9 X) 10 Z) 11 = F 11 from (fup_ne (by decide)).trans (fup_ne (by decide))] at r11
    have hiq : i < q.2.length := by omega
    have hUi : F 3 (48 * k + 24 + i) = co (q.2.getD i 0) := hq.2.2.2 i hiq
    have hcm : q.2.getD i 0 ∈ q.2 := by rw [getD_eq hiq]; exact List.getElem_mem _
    have hck := hkr _ hcm
    have hc9 := kn_lt hck
    have hcc := co_in (kn_mono (by decide) hck)
    generalize hcd : q.2.getD i 0 = c at *
    have knext : ∀ (S2 : ai_S) (X Z : Nat → Int) (y6 : Int), fr 432 452 S S2 → mst S2 T D n rc wt kp sx sc (fup (fup F 9 X) 10 Z) B → stw F X Z (w.take p ++ rb s (q.2.take i) ++ rcl s c) → ai_aw L xs (d + 1) ai_m122 Q (152, [some (.ref 432), some (ax_i (t : Nat)), some (ax_i (p : Nat)), some (ax_i (k : Nat)), some (ax_i (i : Nat)), some (ax_i (co c)), some (ax_i y6)], [], S2) := by
      intro S2 X2 Z2 y9 f2 h2 hu2
      rw [List.append_assoc, ← hcd, ← rcl_take hiq] at hu2
      refine ax_inc at_122_152 rfl rfl rfl ?_
      refine aw_goto at_122_155 ?_
      have := ih (i + 1) S2 X2 Z2 (some (ax_i (co c))) (some (ax_i y9)) (by omega) f2 h2 hu2 hc
      rw [Int.natCast_add] at this
      exact this
    refine aw_loc at_122_42 rfl rfl ?_
    refine aw_loc at_122_44 rfl rfl ?_
    refine aw_get at_122_45 rfl fl_12_25 ho rfl ?_
    refine aw_loc at_122_48 rfl rfl ?_
    refine ax_ild at_122_49 rfl r5 (k := k) rfl hk (by decide) ?_
    rw [hqr]
    refine ax_icmp_ge at_122_50 ⟨by omega, by omega⟩ ⟨by omega, by omega⟩ (fun z => absurd z (by omega)) (fun _ => ?_)
    refine aw_loc at_122_53 rfl rfl ?_
    refine aw_get at_122_54 rfl fl_12_19 ho rfl ?_
    refine aw_pure (st' := ax_i (48) :: _) at_122_57 rfl rfl ?_
    refine aw_loc at_122_59 rfl rfl ?_
    refine ax_mul at_122_60 rfl ?_
    refine aw_pure (st' := ax_i (24) :: _) at_122_61 rfl rfl ?_
    refine ax_add at_122_63 rfl ?_
    refine aw_loc at_122_64 rfl rfl ?_
    refine ax_add at_122_66 rfl ?_
    refine ax_ild at_122_67 rfl r3 (k := 48 * k + 24 + i) (by omega) (by omega) (by decide) ?_
    rw [hUi]
    refine aw_loc at_122_68 rfl rfl ?_
    refine aw_loc at_122_70 rfl rfl ?_
    refine aw_pure (st' := ax_i (8) :: _) at_122_72 rfl rfl ?_
    refine ax_icmp_ge at_122_74 ⟨by omega, by omega⟩ ⟨by omega, by omega⟩ (fun z => ?_) (fun z => ?_)
    · skip
      have hv : 117 ≤ c := by omega
      have hcv : c < 123 := by omega
      have ecc : co c - 8 = c - 117 := by unfold co; rw [if_neg (by omega)]; omega
      obtain ⟨b, hb1, hb2, hb3, hb4⟩ : ∃ b : Nat, F 11 (c - 117).toNat = (b : Int) ∧ F 12 (c - 117).toNat = ((b + tl A 1 (w.drop b) : Nat) : Int) ∧ b < w.length ∧ s c = some (sb A w b) := by
        rcases hB.2 c hv hcv with g | g
        · obtain ⟨tt, htt⟩ := hbd c (by rw [← hcd]; rw [getD_eq hiq]; exact List.getElem_mem _) hv
          rw [g.1] at htt; cases htt
        · exact g
      have htb := tl_le (A := A) (w.drop b) 1
      rw [List.length_drop] at htb
      refine aw_loc at_122_84 rfl rfl ?_
      refine aw_pure (st' := ax_i (8) :: _) at_122_86 rfl rfl ?_
      refine ax_icmp_ge at_122_88 ⟨by omega, by omega⟩ ⟨by omega, by omega⟩ (fun _ => ?_) (fun y => absurd y (by omega))
      refine aw_loc at_122_95 rfl rfl ?_
      refine aw_get at_122_96 rfl fl_12_43 ho rfl ?_
      refine aw_loc at_122_99 rfl rfl ?_
      refine aw_pure (st' := ax_i (8) :: _) at_122_101 rfl rfl ?_
      refine ax_sub at_122_103 rfl ?_
      rw [ecc]
      refine ax_ild (k := (c - 117).toNat) at_122_104 rfl r11 (by omega) (by omega) (by decide) ?_
      rw [hb1]
      refine aw_loc at_122_105 rfl rfl ?_
      have esb : sl (fun i => w.getD i 0) b (b + tl A 1 (w.drop b) - b) = sb A w b := by rw [show b + tl A 1 (w.drop b) - b = tl A 1 (w.drop b) by omega]; exact (sb_sl (fun i _ => rfl)).symm
      refine r_m_rep2 (i := i) (acc := w.take p ++ rb s (q.2.take i)) hw hkw hwl ht ⟨hv, hcv⟩ hb2 (by omega) (by omega) hcc (tl A 1 (w.drop b)) b S1 X Z ⟨by omega, Nat.le_refl _⟩ f1 h1 (by rw [Nat.sub_self]; show stw F X Z (_ ++ []); rw [List.append_nil]; exact hu) (fun S2 X2 Z2 y9 f2 h2 hu2 => ?_)
      rw [esb] at hu2
      exact knext S2 X2 Z2 y9 f2 h2 (by rw [rcl_var hv hb4]; exact hu2)
    · skip
      have hv : c < 117 := by omega
      refine aw_loc at_122_77 rfl rfl ?_
      refine aw_pure (st' := ax_i (2) :: _) at_122_78 rfl rfl ?_
      refine aw_loc at_122_79 rfl rfl ?_
      refine aw_cv (a := 432) [ax_i ((2 : Nat) : Int), ax_i (co c)] [] at_122_81 mt_12_92 (Or.inl rfl) rfl rfl (Nat.le_of_ble_eq_true rfl) ⟨_, ho⟩ ((r_m_puts h1 hu (kn_mono (by decide) hck)).mono ?_)
      rintro v S2 ⟨rfl, f2, X2, Z2, h2, hu2⟩
      refine aw_loc at_122_84 rfl rfl ?_
      refine aw_pure (st' := ax_i (8) :: _) at_122_86 rfl rfl ?_
      refine ax_icmp_ge at_122_88 ⟨by omega, by omega⟩ ⟨by omega, by omega⟩ (fun y => absurd y (by omega)) (fun _ => ?_)
      refine aw_pure (st' := ax_i (0) :: _) at_122_91 rfl rfl ?_
      refine aw_goto at_122_92 ?_
      refine aw_loc at_122_105 rfl rfl ?_
      refine aw_loc at_122_107 rfl rfl ?_
      refine aw_pure (st' := ax_i (8) :: _) at_122_109 rfl rfl ?_
      refine ax_icmp_lt at_122_111 ⟨by omega, by omega⟩ ⟨by omega, by omega⟩ (fun _ => ?_) (fun y => absurd y (by omega))
      exact knext S2 X2 Z2 0 (f1.tr f2) h2 (by rw [rcl_sym hv]; exact hu2)
set_option maxHeartbeats 8000000 in
theorem r_m_rep4 {t p k e : Nat} {w acc : List Int} {Q : ai_O → Prop} (hw : mwd (F 9) (F 10) t w) (hkw : al (kn (F 0) 129) w) (hwl : w.length ≤ 24) (ht : t < 2) : ∀ (m i : Nat) (S1 : ai_S) (X Z : Nat → Int) (y5 y6 : Option Value), (i + m = w.length ∧ e ≤ i) → fr 432 452 S S1 → mst S1 T D n rc wt kp sx sc (fup (fup F 9 X) 10 Z) B → stw F X Z (acc ++ sl (fun i => w.getD i 0) e (i - e)) → (∀ (S2 : ai_S) (X Z : Nat → Int) (y5 y6 : Option Value), fr 432 452 S S2 → mst S2 T D n rc wt kp sx sc (fup (fup F 9 X) 10 Z) B → stw F X Z (acc ++ sl (fun i => w.getD i 0) e (w.length - e)) → ai_aw L xs (d + 1) ai_m122 Q (200, [some (.ref 432), some (ax_i (t : Nat)), some (ax_i (p : Nat)), some (ax_i (k : Nat)), some (ax_i (w.length : Nat)), y5, y6], [], S2)) → ai_aw L xs (d + 1) ai_m122 Q (166, [some (.ref 432), some (ax_i (t : Nat)), some (ax_i (p : Nat)), some (ax_i (k : Nat)), some (ax_i (i : Nat)), y5, y6], [], S1) := by
  have hzt := mwd_len hw (by omega)
  intro m
  induction m with
  | zero =>
    intro i S1 X Z y5 y6 hi f1 h1 hu hc
    have ho := h1.1
    have r9 : ai_arr S1 442 0 = some (192, ax_f ((fup (fup F 9 X) 10 Z) 9)) := h1.2.1 9 (by decide)
    rw [show (fup (fup F 9 X) 10 Z) 9 = X from (fup_ne (by decide)).trans (fup_get _ _ _)] at r9
    have r10 : ai_arr S1 443 0 = some (3, ax_f ((fup (fup F 9 X) 10 Z) 10)) := h1.2.1 10 (by decide)
    rw [show (fup (fup F 9 X) 10 Z) 10 = Z from fup_get _ _ _] at r10
    have hZt : Z t = (w.length : Int) := by obtain rfl | rfl : t = 0 ∨ t = 1 := (by omega); rw [hu.2.2.2.1]; exact hzt; rw [hu.2.2.2.2]; exact hzt
    obtain rfl : i = w.length := by omega
    refine aw_loc at_122_166 rfl rfl ?_
    refine aw_loc at_122_168 rfl rfl ?_
    refine aw_get at_122_169 rfl fl_12_40 ho rfl ?_
    refine aw_loc at_122_172 rfl rfl ?_
    refine ax_ild at_122_173 rfl r10 (k := t) rfl (by omega) (by decide) ?_
    rw [hZt]
    refine ax_icmp_ge at_122_174 ⟨by omega, by omega⟩ ⟨by omega, by omega⟩ (fun _ => hc S1 X Z y5 y6 f1 h1 hu) (fun z => absurd z (by omega))
  | succ m ih =>
    intro i S1 X Z y5 y6 hi f1 h1 hu hc
    have ho := h1.1
    have r9 : ai_arr S1 442 0 = some (192, ax_f ((fup (fup F 9 X) 10 Z) 9)) := h1.2.1 9 (by decide)
    rw [show (fup (fup F 9 X) 10 Z) 9 = X from (fup_ne (by decide)).trans (fup_get _ _ _)] at r9
    have r10 : ai_arr S1 443 0 = some (3, ax_f ((fup (fup F 9 X) 10 Z) 10)) := h1.2.1 10 (by decide)
    rw [show (fup (fup F 9 X) 10 Z) 10 = Z from fup_get _ _ _] at r10
    have hZt : Z t = (w.length : Int) := by obtain rfl | rfl : t = 0 ∨ t = 1 := (by omega); rw [hu.2.2.2.1]; exact hzt; rw [hu.2.2.2.2]; exact hzt
    have hiw : i < w.length := by omega
    have hXi : X (64 * t + i) = co (w.getD i 0) := (hu.2.2.1 _ (by omega)).trans (hw.2 i hiw (by omega))
    have hkc := hkw (w.getD i 0) (by rw [getD_eq hiw]; exact List.getElem_mem _)
    refine aw_loc at_122_166 rfl rfl ?_
    refine aw_loc at_122_168 rfl rfl ?_
    refine aw_get at_122_169 rfl fl_12_40 ho rfl ?_
    refine aw_loc at_122_172 rfl rfl ?_
    refine ax_ild at_122_173 rfl r10 (k := t) rfl (by omega) (by decide) ?_
    rw [hZt]
    refine ax_icmp_ge at_122_174 ⟨by omega, by omega⟩ ⟨by omega, by omega⟩ (fun z => absurd z (by omega)) (fun _ => ?_)
    refine aw_loc at_122_177 rfl rfl ?_
    refine aw_pure (st' := ax_i (2) :: _) at_122_178 rfl rfl ?_
    refine aw_loc at_122_179 rfl rfl ?_
    refine aw_get at_122_180 rfl fl_12_37 ho rfl ?_
    refine aw_pure (st' := ax_i (64) :: _) at_122_183 rfl rfl ?_
    refine aw_loc at_122_185 rfl rfl ?_
    refine ax_mul at_122_186 rfl ?_
    refine aw_loc at_122_187 rfl rfl ?_
    refine ax_add at_122_189 rfl ?_
    refine ax_ild at_122_190 rfl r9 (k := 64 * t + i) (by omega) (by omega) (by decide) ?_
    rw [hXi]
    refine aw_cv (a := 432) [ax_i ((2 : Nat) : Int), ax_i (co (w.getD i 0))] [] at_122_191 mt_12_92 (Or.inl rfl) rfl rfl (Nat.le_of_ble_eq_true rfl) ⟨_, ho⟩ ((r_m_puts h1 hu hkc).mono ?_)
    rintro v S2 ⟨rfl, f2, X2, Z2, h2, hu2⟩
    have e9 : acc ++ sl (fun i => w.getD i 0) e (i - e) ++ [w.getD i 0] = acc ++ sl (fun i => w.getD i 0) e (i + 1 - e) := by rw [List.append_assoc, show i + 1 - e = i - e + 1 by omega, sl_succ, show e + (i - e) = i by omega]
    rw [e9] at hu2
    refine ax_inc at_122_194 rfl rfl rfl ?_
    refine aw_goto at_122_197 ?_
    have := ih (i + 1) S2 X2 Z2 y5 y6 (by omega) (f1.tr f2) h2 hu2 hc
    rw [Int.natCast_add] at this
    exact this
set_option maxHeartbeats 16000000 in
theorem r_m_repl {t p k N : Nat} {w : List Int} {q : List Int × List Int} {s : sgm} (h : mst S T D n rc wt kp sx sc F B) (hPr : ∀ i, -1 ≤ F 0 i ∧ F 0 i ≤ 2) (hs : sam A (F 0)) (hx : xr (F 9)) (hw : mwd (F 9) (F 10) t w) (hkw : al (kn (F 0) 129) w) (hwl : w.length ≤ 24) (ht : t < 2) (hN : ts A N w) (hp : p < w.length) (hq : qsl (F 3) (F 4) (F 5) k q) (hk : k < 15) (hkr : al (kn (F 0) 123) q.2) (hB : rpM A w (F 11) (F 12) s) (hbd : ∀ c, c ∈ q.2 → 117 ≤ c → ∃ t, s c = some t) : ai_rn L xs (d + 3) 122 [.ref 432, ax_i (t : Nat), ax_i (p : Nat), ax_i (k : Nat)] S (fun v S' => v = none ∧ fr 432 452 S S' ∧ ∃ X Z, mst S' T D n rc wt kp sx sc (fup (fup F 9 X) 10 Z) B ∧ mwd X Z t (w.take p ++ (rb s q.2 ++ w.drop (p + tl A 1 (w.drop p)))) ∧ xr X ∧ ∀ s, s < 2 → s ≠ t → Z s = F 10 s ∧ ∀ w', mwd (F 9) (F 10) s w' → mwd X Z s w') := by
  have ho := h.1
  have r10 : ai_arr S 443 0 = some (3, ax_f (F 10)) := h.2.1 10 (by decide)
  have htl := tl_le (A := A) (w.drop p) 1
  rw [List.length_drop] at htl
  refine ai_rn_of (M := ai_m122) rfl (by decide) (Nat.le_of_ble_eq_true rfl) ?_
  refine aw_loc at_122_0 rfl rfl ?_
  refine aw_get at_122_1 rfl fl_12_40 ho rfl ?_
  refine aw_pure (st' := ax_i (2) :: _) at_122_4 rfl rfl ?_
  refine aw_pure (st' := ax_i (0) :: _) at_122_5 rfl rfl ?_
  refine ax_ist (k := 2) at_122_6 rfl r10 rfl (by decide) (by decide) ?_
  have h1 : mst (ai_wr S 443 (.inl (0, ai_I 3 (ax_f (ax_up (F 10) 2 0))))) T D n rc wt kp sx sc (fup (fup F 9 (F 9)) 10 (ax_up (F 10) 2 0)) B := by
    rw [fup_self]
    exact mst_wr (i := 10) h (by decide)
  have f1 := fr_md (S := S) (a := 443) (x := .inl (0, ai_I 3 (ax_f (ax_up (F 10) 2 0)))) (by decide) (by decide)
  have hu0 : stw F (F 9) (ax_up (F 10) 2 0) (w.take 0) := ⟨⟨rfl, fun i hi => absurd hi (by simp)⟩, hx, fun i _ => rfl, rfl, rfl⟩
  refine aw_pure (st' := ax_i (0) :: _) at_122_7 rfl rfl ?_
  refine aw_loc at_122_8 rfl rfl ?_
  refine r_m_rep1 hw hkw hwl ht hp p 0 _ (F 9) (ax_up (F 10) 2 0) _ _ (by omega) f1 h1 hu0 (fun S2 X2 Z2 y5 y6 f2 h2 hu2 => ?_)
  refine aw_pure (st' := ax_i (0) :: _) at_122_39 rfl rfl ?_
  refine aw_loc at_122_40 rfl rfl ?_
  refine r_m_rep3 hw hkw hwl ht hq hk hkr hB hbd q.2.length 0 S2 X2 Z2 _ _ (by omega) f2 h2 (by show stw F X2 Z2 (w.take p ++ []); rw [List.append_nil]; exact hu2) (fun S3 X3 Z3 z5 z6 f3 h3 hu3 => ?_)
  have e0 : (fup (fup F 9 X3) 10 Z3) 0 = F 0 := (fup_ne (by decide)).trans (fup_ne (by decide))
  have e9 : (fup (fup F 9 X3) 10 Z3) 9 = X3 := (fup_ne (by decide)).trans (fup_get _ _ _)
  have hcw3 : cw X3 (64 * t) w := fun i hi => (hu3.2.2.1 _ (by omega)).trans (hw.2 i hi (by omega))
  refine aw_loc at_122_158 rfl rfl ?_
  refine aw_loc at_122_159 rfl rfl ?_
  refine aw_loc at_122_160 rfl rfl ?_
  have ho := h3.1
  refine aw_cv (a := 432) [ax_i (t : Nat), ax_i (p : Nat)] [] at_122_161 mt_12_116 (Or.inl rfl) rfl rfl (Nat.le_of_ble_eq_true rfl) ⟨_, ho⟩ ((r_m_endw (d := d) h3 (by rw [e0]; exact hPr) (by rw [e0]; exact hs) (by rw [e9]; exact hu3.2.1) (by rw [e9]; exact hcw3) (by rw [e0]; exact hkw) hN hp (by omega) (by omega)).mono ?_)
  rintro v S0 ⟨hS, rfl⟩
  have hS2 := hS.symm
  subst hS2
  refine aw_loc at_122_164 rfl rfl ?_
  refine r_m_rep4 (d := d + 1) (e := p + tl A 1 (w.drop p)) (acc := w.take p ++ rb s q.2) hw hkw hwl ht (w.length - (p + tl A 1 (w.drop p))) (p + tl A 1 (w.drop p)) S3 X3 Z3 _ _ ⟨by omega, Nat.le_refl _⟩ f3 h3 (by rw [Nat.sub_self]; show stw F X3 Z3 (_ ++ []); rw [List.append_nil]; exact hu3) (fun S4 X4 Z4 u5 u6 f4 h4 hu4 => ?_)
  have esl : sl (fun i => w.getD i 0) (p + tl A 1 (w.drop p)) (w.length - (p + tl A 1 (w.drop p))) = w.drop (p + tl A 1 (w.drop p)) := by have a1 := sl_word (fun i => w.getD i 0) w 0 (fun i _ => by rw [Nat.zero_add]); have a2 := sl_drop (fun i => w.getD i 0) (p + tl A 1 (w.drop p)) 0 w.length; rw [a1, Nat.zero_add] at a2; exact a2.symm
  rw [esl, List.append_assoc] at hu4
  have r9 : ai_arr S4 442 0 = some (192, ax_f X4) := by have := h4.2.1 9 (by decide); rw [show (fup (fup F 9 X4) 10 Z4) 9 = X4 from (fup_ne (by decide)).trans (fup_get _ _ _)] at this; exact this
  have r10 : ai_arr S4 443 0 = some (3, ax_f Z4) := by have := h4.2.1 10 (by decide); rw [show (fup (fup F 9 X4) 10 Z4) 10 = Z4 from fup_get _ _ _] at this; exact this
  have ho := h4.1
  refine aw_loc at_122_200 rfl rfl ?_
  refine aw_pure (st' := ax_i (2) :: _) at_122_201 rfl rfl ?_
  refine aw_loc at_122_202 rfl rfl ?_
  refine aw_cv (a := 432) [ax_i ((2 : Nat) : Int), ax_i (t : Nat)] [] at_122_203 mt_12_103 (Or.inl rfl) rfl rfl (Nat.le_of_ble_eq_true rfl) ⟨_, ho⟩ ((r_m_copy ho (z := min (w.take p ++ (rb s q.2 ++ w.drop (p + tl A 1 (w.drop p)))).length 64) (by decide) (by omega) (by omega) hu4.1.1 (by omega) r9 r10).mono ?_)
  rintro v S5 ⟨rfl, rfl⟩
  have h5 := mst_mt (X := ow X4 (64 * t) (fun i => X4 (64 * 2 + i)) (min (w.take p ++ (rb s q.2 ++ w.drop (p + tl A 1 (w.drop p)))).length 64)) (Z := ax_up Z4 t ((min (w.take p ++ (rb s q.2 ++ w.drop (p + tl A 1 (w.drop p)))).length 64 : Nat) : Int)) h4
  rw [fup_four] at h5
  refine aw_vret at_122_206 rfl ⟨_, _, rfl, rfl, f4.tr fr_mt, _, _, h5, ⟨if_pos rfl, fun i hi h64 => ?_⟩, xr_ow hu4.2.1 (fun i _ => hu4.2.1 _), fun s2 hs2 hne => ⟨?_, fun w2 hm => ⟨?_, fun i hi h64 => ?_⟩⟩⟩
  · rw [ow_in (by omega)]; exact hu4.1.2 i hi h64
  · show (if s2 = t then _ else Z4 s2) = _; rw [if_neg hne]; obtain rfl | rfl : s2 = 0 ∨ s2 = 1 := (by omega); exact hu4.2.2.2.1; exact hu4.2.2.2.2
  · show (if s2 = t then _ else Z4 s2) = _; rw [if_neg hne]; obtain rfl | rfl : s2 = 0 ∨ s2 = 1 := (by omega); rw [hu4.2.2.2.1]; exact hm.1; rw [hu4.2.2.2.2]; exact hm.1
  · rw [ow_out (by omega), hu4.2.2.1 _ (by omega)]; exact hm.2 i hi h64
end MN

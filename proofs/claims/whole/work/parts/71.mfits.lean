/-! The reference: matching. -/
section MM
variable {L : Nat} {xs : Nat → Int32} {d : Nat} {S S' : ai_S} {T D n rc wt kp sx sc : Int} {F : Nat → Nat → Int} {B : Nat → Int} {P : Nat → Int} {A : Int → Nat}
/-- by variable: where that begins and ends which is put for it -/
def rpM (A : Int → Nat) (w : List Int) (FR TO : Nat → Int) (s : sgm) : Prop := (∀ i : Nat, i < 20 → -1 ≤ FR i ∧ FR i < 64) ∧ ∀ c, 117 ≤ c → c < 123 → (s c = none ∧ FR (c - 117).toNat = -1) ∨ ∃ b : Nat, FR (c - 117).toNat = (b : Int) ∧ TO (c - 117).toNat = ((b + tl A 1 (w.drop b) : Nat) : Int) ∧ b < w.length ∧ s c = some (sb A w b)
theorem rpM_put {w : List Int} {FR TO : Nat → Int} {s : sgm} (h : rpM A w FR TO s) {c : Int} {b : Nat} (hc : 117 ≤ c ∧ c < 123) (hb : b < w.length) (hw : w.length ≤ 24) : rpM A w (ax_up FR (c - 117).toNat b) (ax_up TO (c - 117).toNat ((b + tl A 1 (w.drop b) : Nat) : Int)) (s_up s c (sb A w b)) := by
  refine ⟨fun i hi => ?_, fun x h1 h2 => ?_⟩
  · unfold ax_up
    split
    · omega
    · exact h.1 i hi
  · unfold ax_up s_up
    by_cases e : x = c
    · subst e
      exact .inr ⟨b, if_pos rfl, if_pos rfl, hb, if_pos rfl⟩
    · rw [if_neg e, if_neg (show ¬ (x - 117).toNat = (c - 117).toNat by omega), if_neg (show ¬ (x - 117).toNat = (c - 117).toNat by omega)]
      exact h.2 x h1 h2
theorem s_up_same {s : sgm} {c : Int} {t : List Int} (h : s c = some t) : s_up s c t = s := by
  funext x
  unfold s_up
  by_cases e : x = c
  · rw [if_pos e, e, h]
  · rw [if_neg e]
/-- two terms of a slot are the same if they are as long and their codes are the same -/
theorem same_iff2 {w : List Int} {X : Nat → Int} {b p q : Nat} (hx : cw X b w) (hk : al (kn P 129) w) (hp : p < w.length) (hq : q < w.length) : sb A w p = sb A w q ↔ (tl A 1 (w.drop p) = tl A 1 (w.drop q) ∧ ∀ i, i < tl A 1 (w.drop p) → X (b + p + i) = X (b + q + i)) := by
  have b1 := tl_le (A := A) (w.drop p) 1
  have b2 := tl_le (A := A) (w.drop q) 1
  rw [List.length_drop] at b1 b2
  have e1 := sb_sl (A := A) (p := p) (T := fun i => w.getD i 0) (w := w) (fun i _ => rfl)
  have e2 := sb_sl (A := A) (p := q) (T := fun i => w.getD i 0) (w := w) (fun i _ => rfl)
  have km : ∀ i, i < w.length → kn P 129 (w.getD i 0) := fun i hi => hk _ (by rw [getD_eq hi]; exact List.getElem_mem _)
  rw [e1, e2]
  constructor
  · intro h
    have hl := congrArg List.length h
    rw [sl_len, sl_len] at hl
    refine ⟨hl, fun i hi => ?_⟩
    rw [← hl] at h
    have := congrArg (fun l => l.getD i 0) h
    simp only [sl_get _ _ _ _ hi] at this
    rw [Nat.add_assoc, Nat.add_assoc, hx (p + i) (by omega), hx (q + i) (by omega)]
    exact congrArg co this
  · rintro ⟨hl, h⟩
    rw [← hl]
    refine List.map_congr_left fun i hi => ?_
    have hi := List.mem_range.1 hi
    have := h i hi
    rw [Nat.add_assoc, Nat.add_assoc, hx (p + i) (by omega), hx (q + i) (by omega)] at this
    exact co_inj (km _ (by omega)) (km _ (by omega)) this
theorem mwd_cw {X Z : Nat → Int} {t : Nat} {w : List Int} (h : mwd X Z t w) (hl : w.length ≤ 64) : cw X (64 * t) w := fun i hi => h.2 i hi (by omega)
theorem at_119_0 : ai_at ai_m119 0 = some (.iconst 0, 1) := rfl
theorem at_119_1 : ai_at ai_m119 1 = some (.istore 4, 2) := rfl
theorem at_119_3 : ai_at ai_m119 3 = some (.iload 4, 2) := rfl
theorem at_119_5 : ai_at ai_m119 5 = some (.bipush 20, 2) := rfl
theorem at_119_7 : ai_at ai_m119 7 = some (.if_icmp .ge 17, 3) := rfl
theorem at_119_10 : ai_at ai_m119 10 = some (.aload_n 0, 1) := rfl
theorem at_119_11 : ai_at ai_m119 11 = some (.getfield 43, 3) := rfl
theorem at_119_14 : ai_at ai_m119 14 = some (.iload 4, 2) := rfl
theorem at_119_16 : ai_at ai_m119 16 = some (.iconst (-1), 1) := rfl
theorem at_119_17 : ai_at ai_m119 17 = some (.iastore, 1) := rfl
theorem at_119_18 : ai_at ai_m119 18 = some (.iinc 4 1, 3) := rfl
theorem at_119_21 : ai_at ai_m119 21 = some (.goto (-18), 3) := rfl
theorem at_119_24 : ai_at ai_m119 24 = some (.iload_n 2, 1) := rfl
theorem at_119_25 : ai_at ai_m119 25 = some (.istore 4, 2) := rfl
theorem at_119_27 : ai_at ai_m119 27 = some (.iconst 0, 1) := rfl
theorem at_119_28 : ai_at ai_m119 28 = some (.istore 5, 2) := rfl
theorem at_119_30 : ai_at ai_m119 30 = some (.iload 5, 2) := rfl
theorem at_119_32 : ai_at ai_m119 32 = some (.aload_n 0, 1) := rfl
theorem at_119_33 : ai_at ai_m119 33 = some (.getfield 22, 3) := rfl
theorem at_119_36 : ai_at ai_m119 36 = some (.iload_n 3, 1) := rfl
theorem at_119_37 : ai_at ai_m119 37 = some (.iaload, 1) := rfl
theorem at_119_38 : ai_at ai_m119 38 = some (.if_icmp .ge 196, 3) := rfl
theorem at_119_41 : ai_at ai_m119 41 = some (.aload_n 0, 1) := rfl
theorem at_119_42 : ai_at ai_m119 42 = some (.getfield 19, 3) := rfl
theorem at_119_45 : ai_at ai_m119 45 = some (.bipush 48, 2) := rfl
theorem at_119_47 : ai_at ai_m119 47 = some (.iload_n 3, 1) := rfl
theorem at_119_48 : ai_at ai_m119 48 = some (.imul, 1) := rfl
theorem at_119_49 : ai_at ai_m119 49 = some (.iload 5, 2) := rfl
theorem at_119_51 : ai_at ai_m119 51 = some (.iadd, 1) := rfl
theorem at_119_52 : ai_at ai_m119 52 = some (.iaload, 1) := rfl
theorem at_119_53 : ai_at ai_m119 53 = some (.bipush 8, 2) := rfl
theorem at_119_55 : ai_at ai_m119 55 = some (.isub, 1) := rfl
theorem at_119_56 : ai_at ai_m119 56 = some (.istore 6, 2) := rfl
theorem at_119_58 : ai_at ai_m119 58 = some (.iload 6, 2) := rfl
theorem at_119_60 : ai_at ai_m119 60 = some (.ifCond .ge 38, 3) := rfl
theorem at_119_63 : ai_at ai_m119 63 = some (.aload_n 0, 1) := rfl
theorem at_119_64 : ai_at ai_m119 64 = some (.getfield 37, 3) := rfl
theorem at_119_67 : ai_at ai_m119 67 = some (.bipush 64, 2) := rfl
theorem at_119_69 : ai_at ai_m119 69 = some (.iload_n 1, 1) := rfl
theorem at_119_70 : ai_at ai_m119 70 = some (.imul, 1) := rfl
theorem at_119_71 : ai_at ai_m119 71 = some (.iload 4, 2) := rfl
theorem at_119_73 : ai_at ai_m119 73 = some (.iadd, 1) := rfl
theorem at_119_74 : ai_at ai_m119 74 = some (.iaload, 1) := rfl
theorem at_119_75 : ai_at ai_m119 75 = some (.aload_n 0, 1) := rfl
theorem at_119_76 : ai_at ai_m119 76 = some (.getfield 19, 3) := rfl
theorem at_119_79 : ai_at ai_m119 79 = some (.bipush 48, 2) := rfl
theorem at_119_81 : ai_at ai_m119 81 = some (.iload_n 3, 1) := rfl
theorem at_119_82 : ai_at ai_m119 82 = some (.imul, 1) := rfl
theorem at_119_83 : ai_at ai_m119 83 = some (.iload 5, 2) := rfl
theorem at_119_85 : ai_at ai_m119 85 = some (.iadd, 1) := rfl
theorem at_119_86 : ai_at ai_m119 86 = some (.iaload, 1) := rfl
theorem at_119_87 : ai_at ai_m119 87 = some (.if_icmp .eq 5, 3) := rfl
theorem at_119_90 : ai_at ai_m119 90 = some (.iconst 0, 1) := rfl
theorem at_119_91 : ai_at ai_m119 91 = some (.ireturn, 1) := rfl
theorem at_119_92 : ai_at ai_m119 92 = some (.iinc 4 1, 3) := rfl
theorem at_119_95 : ai_at ai_m119 95 = some (.goto 133, 3) := rfl
theorem at_119_98 : ai_at ai_m119 98 = some (.aload_n 0, 1) := rfl
theorem at_119_99 : ai_at ai_m119 99 = some (.iload_n 1, 1) := rfl
theorem at_119_100 : ai_at ai_m119 100 = some (.iload 4, 2) := rfl
theorem at_119_102 : ai_at ai_m119 102 = some (.invokevirtual 116, 3) := rfl
theorem at_119_105 : ai_at ai_m119 105 = some (.istore 7, 2) := rfl
theorem at_119_107 : ai_at ai_m119 107 = some (.aload_n 0, 1) := rfl
theorem at_119_108 : ai_at ai_m119 108 = some (.getfield 43, 3) := rfl
theorem at_119_111 : ai_at ai_m119 111 = some (.iload 6, 2) := rfl
theorem at_119_113 : ai_at ai_m119 113 = some (.iaload, 1) := rfl
theorem at_119_114 : ai_at ai_m119 114 = some (.ifCond .lt 50, 3) := rfl
theorem at_119_117 : ai_at ai_m119 117 = some (.aload_n 0, 1) := rfl
theorem at_119_118 : ai_at ai_m119 118 = some (.getfield 46, 3) := rfl
theorem at_119_121 : ai_at ai_m119 121 = some (.iload 6, 2) := rfl
theorem at_119_123 : ai_at ai_m119 123 = some (.iaload, 1) := rfl
theorem at_119_124 : ai_at ai_m119 124 = some (.aload_n 0, 1) := rfl
theorem at_119_125 : ai_at ai_m119 125 = some (.getfield 43, 3) := rfl
theorem at_119_128 : ai_at ai_m119 128 = some (.iload 6, 2) := rfl
theorem at_119_130 : ai_at ai_m119 130 = some (.iaload, 1) := rfl
theorem at_119_131 : ai_at ai_m119 131 = some (.isub, 1) := rfl
theorem at_119_132 : ai_at ai_m119 132 = some (.iload 7, 2) := rfl
theorem at_119_134 : ai_at ai_m119 134 = some (.iload 4, 2) := rfl
theorem at_119_136 : ai_at ai_m119 136 = some (.isub, 1) := rfl
theorem at_119_137 : ai_at ai_m119 137 = some (.if_icmp .ne 25, 3) := rfl
theorem at_119_140 : ai_at ai_m119 140 = some (.aload_n 0, 1) := rfl
theorem at_119_141 : ai_at ai_m119 141 = some (.iload_n 1, 1) := rfl
theorem at_119_142 : ai_at ai_m119 142 = some (.aload_n 0, 1) := rfl
theorem at_119_143 : ai_at ai_m119 143 = some (.getfield 43, 3) := rfl
theorem at_119_146 : ai_at ai_m119 146 = some (.iload 6, 2) := rfl
theorem at_119_148 : ai_at ai_m119 148 = some (.iaload, 1) := rfl
theorem at_119_149 : ai_at ai_m119 149 = some (.iload 4, 2) := rfl
theorem at_119_151 : ai_at ai_m119 151 = some (.iload 7, 2) := rfl
theorem at_119_153 : ai_at ai_m119 153 = some (.iload 4, 2) := rfl
theorem at_119_155 : ai_at ai_m119 155 = some (.isub, 1) := rfl
theorem at_119_156 : ai_at ai_m119 156 = some (.invokevirtual 120, 3) := rfl
theorem at_119_159 : ai_at ai_m119 159 = some (.ifCond .ne 5, 3) := rfl
theorem at_119_162 : ai_at ai_m119 162 = some (.iconst 0, 1) := rfl
theorem at_119_163 : ai_at ai_m119 163 = some (.ireturn, 1) := rfl
theorem at_119_164 : ai_at ai_m119 164 = some (.aload_n 0, 1) := rfl
theorem at_119_165 : ai_at ai_m119 165 = some (.getfield 43, 3) := rfl
theorem at_119_168 : ai_at ai_m119 168 = some (.iload 6, 2) := rfl
theorem at_119_170 : ai_at ai_m119 170 = some (.aload_n 0, 1) := rfl
theorem at_119_171 : ai_at ai_m119 171 = some (.getfield 43, 3) := rfl
theorem at_119_174 : ai_at ai_m119 174 = some (.iload 6, 2) := rfl
theorem at_119_176 : ai_at ai_m119 176 = some (.iaload, 1) := rfl
theorem at_119_177 : ai_at ai_m119 177 = some (.ifCond .ge 8, 3) := rfl
theorem at_119_180 : ai_at ai_m119 180 = some (.iload 4, 2) := rfl
theorem at_119_182 : ai_at ai_m119 182 = some (.goto 10, 3) := rfl
theorem at_119_185 : ai_at ai_m119 185 = some (.aload_n 0, 1) := rfl
theorem at_119_186 : ai_at ai_m119 186 = some (.getfield 43, 3) := rfl
theorem at_119_189 : ai_at ai_m119 189 = some (.iload 6, 2) := rfl
theorem at_119_191 : ai_at ai_m119 191 = some (.iaload, 1) := rfl
theorem at_119_192 : ai_at ai_m119 192 = some (.iastore, 1) := rfl
theorem at_119_193 : ai_at ai_m119 193 = some (.aload_n 0, 1) := rfl
theorem at_119_194 : ai_at ai_m119 194 = some (.getfield 46, 3) := rfl
theorem at_119_197 : ai_at ai_m119 197 = some (.iload 6, 2) := rfl
theorem at_119_199 : ai_at ai_m119 199 = some (.aload_n 0, 1) := rfl
theorem at_119_200 : ai_at ai_m119 200 = some (.getfield 43, 3) := rfl
theorem at_119_203 : ai_at ai_m119 203 = some (.iload 6, 2) := rfl
theorem at_119_205 : ai_at ai_m119 205 = some (.iaload, 1) := rfl
theorem at_119_206 : ai_at ai_m119 206 = some (.iload 4, 2) := rfl
theorem at_119_208 : ai_at ai_m119 208 = some (.if_icmp .ne 8, 3) := rfl
theorem at_119_211 : ai_at ai_m119 211 = some (.iload 7, 2) := rfl
theorem at_119_213 : ai_at ai_m119 213 = some (.goto 10, 3) := rfl
theorem at_119_216 : ai_at ai_m119 216 = some (.aload_n 0, 1) := rfl
theorem at_119_217 : ai_at ai_m119 217 = some (.getfield 46, 3) := rfl
theorem at_119_220 : ai_at ai_m119 220 = some (.iload 6, 2) := rfl
theorem at_119_222 : ai_at ai_m119 222 = some (.iaload, 1) := rfl
theorem at_119_223 : ai_at ai_m119 223 = some (.iastore, 1) := rfl
theorem at_119_224 : ai_at ai_m119 224 = some (.iload 7, 2) := rfl
theorem at_119_226 : ai_at ai_m119 226 = some (.istore 4, 2) := rfl
theorem at_119_228 : ai_at ai_m119 228 = some (.iinc 5 1, 3) := rfl
theorem at_119_231 : ai_at ai_m119 231 = some (.goto (-201), 3) := rfl
theorem at_119_234 : ai_at ai_m119 234 = some (.iconst 1, 1) := rfl
theorem at_119_235 : ai_at ai_m119 235 = some (.ireturn, 1) := rfl
theorem at_121_0 : ai_at ai_m121 0 = some (.iconst 1, 1) := rfl
theorem at_121_1 : ai_at ai_m121 1 = some (.istore 5, 2) := rfl
theorem at_121_3 : ai_at ai_m121 3 = some (.iconst 0, 1) := rfl
theorem at_121_4 : ai_at ai_m121 4 = some (.istore 6, 2) := rfl
theorem at_121_6 : ai_at ai_m121 6 = some (.iload 6, 2) := rfl
theorem at_121_8 : ai_at ai_m121 8 = some (.iload 4, 2) := rfl
theorem at_121_10 : ai_at ai_m121 10 = some (.if_icmp .ge 52, 3) := rfl
theorem at_121_13 : ai_at ai_m121 13 = some (.iload 5, 2) := rfl
theorem at_121_15 : ai_at ai_m121 15 = some (.ifCond .eq 38, 3) := rfl
theorem at_121_18 : ai_at ai_m121 18 = some (.aload_n 0, 1) := rfl
theorem at_121_19 : ai_at ai_m121 19 = some (.getfield 37, 3) := rfl
theorem at_121_22 : ai_at ai_m121 22 = some (.bipush 64, 2) := rfl
theorem at_121_24 : ai_at ai_m121 24 = some (.iload_n 1, 1) := rfl
theorem at_121_25 : ai_at ai_m121 25 = some (.imul, 1) := rfl
theorem at_121_26 : ai_at ai_m121 26 = some (.iload_n 2, 1) := rfl
theorem at_121_27 : ai_at ai_m121 27 = some (.iadd, 1) := rfl
theorem at_121_28 : ai_at ai_m121 28 = some (.iload 6, 2) := rfl
theorem at_121_30 : ai_at ai_m121 30 = some (.iadd, 1) := rfl
theorem at_121_31 : ai_at ai_m121 31 = some (.iaload, 1) := rfl
theorem at_121_32 : ai_at ai_m121 32 = some (.aload_n 0, 1) := rfl
theorem at_121_33 : ai_at ai_m121 33 = some (.getfield 37, 3) := rfl
theorem at_121_36 : ai_at ai_m121 36 = some (.bipush 64, 2) := rfl
theorem at_121_38 : ai_at ai_m121 38 = some (.iload_n 1, 1) := rfl
theorem at_121_39 : ai_at ai_m121 39 = some (.imul, 1) := rfl
theorem at_121_40 : ai_at ai_m121 40 = some (.iload_n 3, 1) := rfl
theorem at_121_41 : ai_at ai_m121 41 = some (.iadd, 1) := rfl
theorem at_121_42 : ai_at ai_m121 42 = some (.iload 6, 2) := rfl
theorem at_121_44 : ai_at ai_m121 44 = some (.iadd, 1) := rfl
theorem at_121_45 : ai_at ai_m121 45 = some (.iaload, 1) := rfl
theorem at_121_46 : ai_at ai_m121 46 = some (.if_icmp .ne 7, 3) := rfl
theorem at_121_49 : ai_at ai_m121 49 = some (.iconst 1, 1) := rfl
theorem at_121_50 : ai_at ai_m121 50 = some (.goto 4, 3) := rfl
theorem at_121_53 : ai_at ai_m121 53 = some (.iconst 0, 1) := rfl
theorem at_121_54 : ai_at ai_m121 54 = some (.istore 5, 2) := rfl
theorem at_121_56 : ai_at ai_m121 56 = some (.iinc 6 1, 3) := rfl
theorem at_121_59 : ai_at ai_m121 59 = some (.goto (-53), 3) := rfl
theorem at_121_62 : ai_at ai_m121 62 = some (.iload 5, 2) := rfl
theorem at_121_64 : ai_at ai_m121 64 = some (.ireturn, 1) := rfl
theorem fl_12_43 : ai_fld 12 43 = some (11, 19, false) := by decide +kernel
theorem fl_12_46 : ai_fld 12 46 = some (11, 20, false) := by decide +kernel
theorem mt_12_116 : ai_mth 12 116 = some (0, 120, 2, 11) := by decide +kernel
theorem mt_12_120 : ai_mth 12 120 = some (0, 121, 4, 11) := by decide +kernel
set_option maxHeartbeats 4000000 in
theorem r_m_strt1 {t a b nn : Nat} (h : mst S T D n rc wt kp sx sc F B) (hx : xr (F 9)) (ht : t < 3) (ha : a + nn ≤ 64) (hb : b + nn ≤ 64) : ∀ (m k : Nat) (s : Int), k + m = nn → bz s (∀ i, i < k → F 9 (64 * t + a + i) = F 9 (64 * t + b + i)) → ai_aw L xs d ai_m121 (fun (o : ai_O) => ∃ v S', o = (.inl v, S') ∧ S' = S ∧ ∃ z, v = some (ax_i z) ∧ bz z (∀ i, i < nn → F 9 (64 * t + a + i) = F 9 (64 * t + b + i))) (6, [some (.ref 432), some (ax_i (t : Nat)), some (ax_i (a : Nat)), some (ax_i (b : Nat)), some (ax_i (nn : Nat)), some (ax_i s), some (ax_i (k : Nat))], [], S) := by
  have ho := h.1
  have r9 : ai_arr S 442 0 = some (192, ax_f (F 9)) := h.2.1 9 (by decide)
  intro m
  induction m with
  | zero =>
    intro k s hk hs
    have hs9 := hs.le
    obtain rfl : k = nn := by omega
    refine aw_loc at_121_6 rfl rfl ?_
    refine aw_loc at_121_8 rfl rfl ?_
    refine ax_icmp_ge at_121_10 ⟨by omega, by omega⟩ ⟨by omega, by omega⟩ (fun _ => ?_) (fun z => absurd z (by omega))
    show ai_aw L xs d ai_m121 _ (62, _, _, _)
    refine aw_loc at_121_62 rfl rfl ?_
    exact ax_retZ at_121_64 rfl hs9 ⟨_, _, rfl, rfl, s, rfl, hs⟩
  | succ m ih =>
    intro k s hk hs
    have hs9 := hs.le
    have x1 := hx (64 * t + a + k)
    have x2 := hx (64 * t + b + k)
    have knx : ∀ s' : Int, bz s' (∀ i, i < k + 1 → F 9 (64 * t + a + i) = F 9 (64 * t + b + i)) → ai_aw L xs d ai_m121 (fun (o : ai_O) => ∃ v S', o = (.inl v, S') ∧ S' = S ∧ ∃ z, v = some (ax_i z) ∧ bz z (∀ i, i < nn → F 9 (64 * t + a + i) = F 9 (64 * t + b + i))) (54, [some (.ref 432), some (ax_i (t : Nat)), some (ax_i (a : Nat)), some (ax_i (b : Nat)), some (ax_i (nn : Nat)), some (ax_i s), some (ax_i (k : Nat))], [ax_i s'], S) := by
      intro s' hs'
      refine aw_loc at_121_54 rfl rfl ?_
      refine ax_inc at_121_56 rfl rfl rfl ?_
      refine aw_goto at_121_59 ?_
      have := ih (k + 1) s' (by omega) hs'
      rw [Int.natCast_add] at this
      exact this
    refine aw_loc at_121_6 rfl rfl ?_
    refine aw_loc at_121_8 rfl rfl ?_
    refine ax_icmp_ge at_121_10 ⟨by omega, by omega⟩ ⟨by omega, by omega⟩ (fun z => absurd z (by omega)) (fun _ => ?_)
    refine aw_loc at_121_13 rfl rfl ?_
    refine ax_if_eq at_121_15 ⟨by omega, by omega⟩ (fun z => ?_) (fun z => ?_)
    · skip
      refine aw_pure (st' := ax_i (0) :: _) at_121_53 rfl rfl ?_
      exact knx 0 (Or.inl ⟨rfl, fun h9 => (hs.resolve_right (fun g => by have := g.1; omega)).2 (fun i hi => h9 i (by omega))⟩)
    · skip
      have ho1 := (hs.resolve_left (fun g => z g.1)).2
      refine aw_loc at_121_18 rfl rfl ?_
      refine aw_get at_121_19 rfl fl_12_37 ho rfl ?_
      refine aw_pure (st' := ax_i (64) :: _) at_121_22 rfl rfl ?_
      refine aw_loc at_121_24 rfl rfl ?_
      refine ax_mul at_121_25 rfl ?_
      refine aw_loc at_121_26 rfl rfl ?_
      refine ax_add at_121_27 rfl ?_
      refine aw_loc at_121_28 rfl rfl ?_
      refine ax_add at_121_30 rfl ?_
      refine ax_ild at_121_31 rfl r9 (k := 64 * t + a + k) (by omega) (by omega) (by decide) ?_
      refine aw_loc at_121_32 rfl rfl ?_
      refine aw_get at_121_33 rfl fl_12_37 ho rfl ?_
      refine aw_pure (st' := ax_i (64) :: _) at_121_36 rfl rfl ?_
      refine aw_loc at_121_38 rfl rfl ?_
      refine ax_mul at_121_39 rfl ?_
      refine aw_loc at_121_40 rfl rfl ?_
      refine ax_add at_121_41 rfl ?_
      refine aw_loc at_121_42 rfl rfl ?_
      refine ax_add at_121_44 rfl ?_
      refine ax_ild at_121_45 rfl r9 (k := 64 * t + b + k) (by omega) (by omega) (by decide) ?_
      refine ax_icmp_ne at_121_46 ⟨by omega, by omega⟩ ⟨by omega, by omega⟩ (fun y => ?_) (fun y => ?_)
      · skip
        refine aw_pure (st' := ax_i (0) :: _) at_121_53 rfl rfl ?_
        exact knx 0 (Or.inl ⟨rfl, fun h9 => y (h9 k (by omega))⟩)
      · skip
        refine aw_pure (st' := ax_i (1) :: _) at_121_49 rfl rfl ?_
        refine aw_goto at_121_50 ?_
        exact knx 1 (Or.inr ⟨rfl, fun i hi => by by_cases e : i = k; rw [e]; exact y; exact ho1 i (by omega)⟩)
theorem r_m_strt {t a b nn : Nat} (h : mst S T D n rc wt kp sx sc F B) (hx : xr (F 9)) (ht : t < 3) (ha : a + nn ≤ 64) (hb : b + nn ≤ 64) : ai_rn L xs (d + 1) 121 [.ref 432, ax_i (t : Nat), ax_i (a : Nat), ax_i (b : Nat), ax_i (nn : Nat)] S (fun v S' => S' = S ∧ ∃ z, v = some (ax_i z) ∧ bz z (∀ i, i < nn → F 9 (64 * t + a + i) = F 9 (64 * t + b + i))) := by
  refine ai_rn_of (M := ai_m121) rfl (by decide) (Nat.le_of_ble_eq_true rfl) ?_
  refine aw_pure (st' := ax_i (1) :: _) at_121_0 rfl rfl ?_
  refine aw_loc at_121_1 rfl rfl ?_
  refine aw_pure (st' := ax_i (0) :: _) at_121_3 rfl rfl ?_
  refine aw_loc at_121_4 rfl rfl ?_
  exact r_m_strt1 h hx ht ha hb nn 0 1 (by omega) (Or.inr ⟨rfl, fun i hi => by omega⟩)
/-- where a term of a slot ends -/
theorem r_m_endw {t p : Nat} {w : List Int} {N : Nat} (h : mst S T D n rc wt kp sx sc F B) (hPr : ∀ i, -1 ≤ F 0 i ∧ F 0 i ≤ 2) (hs : sam A (F 0)) (hx : xr (F 9)) (hw : cw (F 9) (64 * t) w) (hk : al (kn (F 0) 129) w) (hN : ts A N w) (hp : p < w.length) (ht : t < 3) (hl : w.length ≤ 64) : ai_rn L xs (d + 2) 120 [.ref 432, ax_i (t : Nat), ax_i (p : Nat)] S (fun v S' => S' = S ∧ v = some (ax_i ((p + tl A 1 (w.drop p) : Nat) : Int))) := by
  obtain ⟨m, hm⟩ := ts_drop w N hN p hp
  have he := nd_end hs (cw_drop (i := p) hw) (al_drop hk p) hm
  have hle := tl_le (A := A) (w.drop p) 1
  rw [List.length_drop] at hle
  have r0 : ai_arr S 433 0 = some (8, ax_f (F 0)) := h.2.1 0 (by decide)
  have r9 : ai_arr S 442 0 = some (192, ax_f (F 9)) := h.2.1 9 (by decide)
  refine (r_m_end h.1 r0 hPr r9 hx (by omega) he.1 he.2.1).mono ?_
  rintro v S1 ⟨hS, rfl⟩
  exact ⟨hS, by rw [Int.natCast_add]⟩
set_option maxHeartbeats 16000000 in
theorem r_m_fits1 {t p k N : Nat} {w : List Int} {q : List Int × List Int} {r0 : Option sgm} (h : mst S T D n rc wt kp sx sc F B) (hPr : ∀ i, -1 ≤ F 0 i ∧ F 0 i ≤ 2) (hs : sam A (F 0)) (hx : xr (F 9)) (hw : cw (F 9) (64 * t) w) (hkw : al (kn (F 0) 129) w) (hN : ts A N w) (ht : t < 3) (hwl : w.length ≤ 24) (hq : qsl (F 3) (F 4) (F 5) k q) (hkq : al (kn (F 0) 123) q.1) (hk : k < 15) : ∀ (p' : List Int) (i a : Nat) (s : sgm) (FR TO : Nat → Int) (S1 : ai_S) (nn kk : Nat) (x6 x7 : Option Value), q.1.drop i = p' → i ≤ q.1.length → a ≤ w.length → mtf A p' (w.drop a) s = r0 → ts A nn p' → ts A (nn + kk) (w.drop a) → rpM A w FR TO s → fr 432 452 S S1 → mst S1 T D n rc wt kp sx sc (fup (fup F 11 FR) 12 TO) B → ai_aw L xs (d + 2) ai_m119 (fun (o : ai_O) => ∃ v S', o = (.inl v, S') ∧ fr 432 452 S S' ∧ ∃ FR TO, mst S' T D n rc wt kp sx sc (fup (fup F 11 FR) 12 TO) B ∧ ∃ z, v = some (ax_i z) ∧ bz z (r0.isSome = true) ∧ ∀ s, r0 = some s → rpM A w FR TO s) (30, [some (.ref 432), some (ax_i (t : Nat)), some (ax_i (p : Nat)), some (ax_i (k : Nat)), some (ax_i (a : Nat)), some (ax_i (i : Nat)), x6, x7], [], S1) := by
  have hA := hs.2
  have hq24 := hq.2.1
  have hqk := hq.1.1
  intro p'
  induction p' with
  | nil =>
    intro i a s FR TO S1 nn kk x6 x7 hp' hi2 hat hr hn1 hn2 hB f1 h1
    have ho := h1.1
    have r3 : ai_arr S1 436 0 = some (720, ax_f ((fup (fup F 11 FR) 12 TO) 3)) := h1.2.1 3 (by decide)
    rw [show (fup (fup F 11 FR) 12 TO) 3 = F 3 from (fup_ne (by decide)).trans (fup_ne (by decide))] at r3
    have r4 : ai_arr S1 437 0 = some (15, ax_f ((fup (fup F 11 FR) 12 TO) 4)) := h1.2.1 4 (by decide)
    rw [show (fup (fup F 11 FR) 12 TO) 4 = F 4 from (fup_ne (by decide)).trans (fup_ne (by decide))] at r4
    have r9 : ai_arr S1 442 0 = some (192, ax_f ((fup (fup F 11 FR) 12 TO) 9)) := h1.2.1 9 (by decide)
    rw [show (fup (fup F 11 FR) 12 TO) 9 = F 9 from (fup_ne (by decide)).trans (fup_ne (by decide))] at r9
    have r11 : ai_arr S1 444 0 = some (20, ax_f ((fup (fup F 11 FR) 12 TO) 11)) := h1.2.1 11 (by decide)
    rw [show (fup (fup F 11 FR) 12 TO) 11 = FR from (fup_ne (by decide)).trans (fup_get _ _ _)] at r11
    have r12 : ai_arr S1 445 0 = some (20, ax_f ((fup (fup F 11 FR) 12 TO) 12)) := h1.2.1 12 (by decide)
    rw [show (fup (fup F 11 FR) 12 TO) 12 = TO from fup_get _ _ _] at r12
    have hi : q.1.length ≤ i := List.drop_eq_nil_iff.1 hp'
    have hr' : some s = r0 := hr
    refine aw_loc at_119_30 rfl rfl ?_
    refine aw_loc at_119_32 rfl rfl ?_
    refine aw_get at_119_33 rfl fl_12_22 ho rfl ?_
    refine aw_loc at_119_36 rfl rfl ?_
    refine ax_ild at_119_37 rfl r4 (k := k) rfl hk (by decide) ?_
    rw [hqk]
    refine ax_icmp_ge at_119_38 ⟨by omega, by omega⟩ ⟨by omega, by omega⟩ (fun _ => ?_) (fun z => absurd z (by omega))
    show ai_aw L xs (d + 2) ai_m119 _ (234, _, _, _)
    refine aw_pure (st' := ax_i (1) :: _) at_119_234 rfl rfl ?_
    exact ax_retZ at_119_235 rfl (Or.inr rfl) ⟨_, _, rfl, f1, FR, TO, h1, 1, rfl, Or.inr ⟨rfl, by rw [← hr']; rfl⟩, fun s2 hs2 => by rw [← Option.some.inj (hr'.trans hs2)]; exact hB⟩
  | cons c p' ih =>
    intro i a s FR TO S1 nn kk x6 x7 hp' hi2 hat hr hn1 hn2 hB f1 h1
    have ho := h1.1
    have r3 : ai_arr S1 436 0 = some (720, ax_f ((fup (fup F 11 FR) 12 TO) 3)) := h1.2.1 3 (by decide)
    rw [show (fup (fup F 11 FR) 12 TO) 3 = F 3 from (fup_ne (by decide)).trans (fup_ne (by decide))] at r3
    have r4 : ai_arr S1 437 0 = some (15, ax_f ((fup (fup F 11 FR) 12 TO) 4)) := h1.2.1 4 (by decide)
    rw [show (fup (fup F 11 FR) 12 TO) 4 = F 4 from (fup_ne (by decide)).trans (fup_ne (by decide))] at r4
    have r9 : ai_arr S1 442 0 = some (192, ax_f ((fup (fup F 11 FR) 12 TO) 9)) := h1.2.1 9 (by decide)
    rw [show (fup (fup F 11 FR) 12 TO) 9 = F 9 from (fup_ne (by decide)).trans (fup_ne (by decide))] at r9
    have r11 : ai_arr S1 444 0 = some (20, ax_f ((fup (fup F 11 FR) 12 TO) 11)) := h1.2.1 11 (by decide)
    rw [show (fup (fup F 11 FR) 12 TO) 11 = FR from (fup_ne (by decide)).trans (fup_get _ _ _)] at r11
    have r12 : ai_arr S1 445 0 = some (20, ax_f ((fup (fup F 11 FR) 12 TO) 12)) := h1.2.1 12 (by decide)
    rw [show (fup (fup F 11 FR) 12 TO) 12 = TO from fup_get _ _ _] at r12
    have hi : i < q.1.length := by have := congrArg List.length hp'; rw [List.length_drop, List.length_cons] at this; omega
    have hpc := drop_cons hi
    rw [hp'] at hpc
    have hc0 : c = q.1.getD i 0 := (List.cons.inj hpc).1
    have hp1 : q.1.drop (i + 1) = p' := (List.cons.inj hpc).2.symm
    have hUi : F 3 (48 * k + i) = co c := by rw [hq.2.2.1 i hi, ← hc0]
    have hcm : c ∈ q.1 := by rw [hc0, getD_eq hi]; exact List.getElem_mem _
    have hck := hkq c hcm
    have hc9 := kn_lt hck
    have hcc := co_in (kn_mono (by decide) hck)
    obtain ⟨m, rfl⟩ : ∃ m, nn = m + 1 := by
      cases nn with
      | zero => exact hn1.elim
      | succ m => exact ⟨m, rfl⟩
    have hn3 : ts A (m + kk + 1) (w.drop a) := by rw [show m + kk + 1 = m + 1 + kk by omega]; exact hn2
    have hat2 := ts_lt hn3
    have hn1' : ts A (m + A c) p' := hn1
    have hxa := hx (64 * t + a)
    have hwa := hw a hat2
    have hwk := hkw (w.getD a 0) (by rw [getD_eq hat2]; exact List.getElem_mem _)
    have kfl : ∀ (y6 y7 : Option Value), r0 = none → ∀ pc9, (pc9 = 90 ∨ pc9 = 162) → ai_aw L xs (d + 2) ai_m119 (fun (o : ai_O) => ∃ v S', o = (.inl v, S') ∧ fr 432 452 S S' ∧ ∃ FR TO, mst S' T D n rc wt kp sx sc (fup (fup F 11 FR) 12 TO) B ∧ ∃ z, v = some (ax_i z) ∧ bz z (r0.isSome = true) ∧ ∀ s, r0 = some s → rpM A w FR TO s) (pc9, [some (.ref 432), some (ax_i (t : Nat)), some (ax_i (p : Nat)), some (ax_i (k : Nat)), some (ax_i (a : Nat)), some (ax_i (i : Nat)), y6, y7], [], S1) := by
      intro y6 y7 hno pc9 hpc9
      rcases hpc9 with rfl | rfl
      · skip
        refine aw_pure (st' := ax_i (0) :: _) at_119_90 rfl rfl ?_
        exact ax_retZ at_119_91 rfl (Or.inl rfl) ⟨_, _, rfl, f1, FR, TO, h1, 0, rfl, Or.inl ⟨rfl, by rw [hno]; intro h; cases h⟩, fun s2 hs2 => by rw [hno] at hs2; cases hs2⟩
      · skip
        refine aw_pure (st' := ax_i (0) :: _) at_119_162 rfl rfl ?_
        exact ax_retZ at_119_163 rfl (Or.inl rfl) ⟨_, _, rfl, f1, FR, TO, h1, 0, rfl, Or.inl ⟨rfl, by rw [hno]; intro h; cases h⟩, fun s2 hs2 => by rw [hno] at hs2; cases hs2⟩
    refine aw_loc at_119_30 rfl rfl ?_
    refine aw_loc at_119_32 rfl rfl ?_
    refine aw_get at_119_33 rfl fl_12_22 ho rfl ?_
    refine aw_loc at_119_36 rfl rfl ?_
    refine ax_ild at_119_37 rfl r4 (k := k) rfl hk (by decide) ?_
    rw [hqk]
    refine ax_icmp_ge at_119_38 ⟨by omega, by omega⟩ ⟨by omega, by omega⟩ (fun z => absurd z (by omega)) (fun _ => ?_)
    refine aw_loc at_119_41 rfl rfl ?_
    refine aw_get at_119_42 rfl fl_12_19 ho rfl ?_
    refine aw_pure (st' := ax_i (48) :: _) at_119_45 rfl rfl ?_
    refine aw_loc at_119_47 rfl rfl ?_
    refine ax_mul at_119_48 rfl ?_
    refine aw_loc at_119_49 rfl rfl ?_
    refine ax_add at_119_51 rfl ?_
    refine ax_ild at_119_52 rfl r3 (k := 48 * k + i) (by omega) (by omega) (by decide) ?_
    rw [hUi]
    refine aw_pure (st' := ax_i (8) :: _) at_119_53 rfl rfl ?_
    refine ax_sub at_119_55 rfl ?_
    refine aw_loc at_119_56 rfl rfl ?_
    refine aw_loc at_119_58 rfl rfl ?_
    refine ax_if_ge at_119_60 ⟨by omega, by omega⟩ (fun z => ?_) (fun z => ?_)
    · skip
      have hv : 117 ≤ c := by omega
      have hcv : c < 123 := by omega
      have ecc : co c - 8 = c - 117 := by unfold co; rw [if_neg (by omega)]; omega
      rw [ecc]
      rw [hA c hv, Nat.add_zero] at hn1'
      have htl := tl_le (A := A) (w.drop a) 1
      rw [List.length_drop] at htl
      have hn4 : ts A (m + kk) (w.drop (a + tl A 1 (w.drop a))) := ts_skip (by rw [Nat.add_comm 1]; exact hn3)
      have hBk := hB.1 (c - 117).toNat (by omega)
      refine aw_loc at_119_98 rfl rfl ?_
      refine aw_loc at_119_99 rfl rfl ?_
      refine aw_loc at_119_100 rfl rfl ?_
      refine aw_cv (a := 432) [ax_i (t : Nat), ax_i (a : Nat)] [] at_119_102 mt_12_116 (Or.inl rfl) rfl rfl (Nat.le_of_ble_eq_true rfl) ⟨_, ho⟩ ((r_m_endw h1 (by rw [show (fup (fup F 11 FR) 12 TO) 0 = F 0 from (fup_ne (by decide)).trans (fup_ne (by decide))]; exact hPr) (by rw [show (fup (fup F 11 FR) 12 TO) 0 = F 0 from (fup_ne (by decide)).trans (fup_ne (by decide))]; exact hs) (by rw [show (fup (fup F 11 FR) 12 TO) 9 = F 9 from (fup_ne (by decide)).trans (fup_ne (by decide))]; exact hx) (by rw [show (fup (fup F 11 FR) 12 TO) 9 = F 9 from (fup_ne (by decide)).trans (fup_ne (by decide))]; exact hw) (by rw [show (fup (fup F 11 FR) 12 TO) 0 = F 0 from (fup_ne (by decide)).trans (fup_ne (by decide))]; exact hkw) hN hat2 ht (by omega)).mono ?_)
      rintro v S0 ⟨hS, rfl⟩
      have hS2 := hS.symm
      subst hS2
      have kst : ∀ (b : Nat), b < w.length → (b = a ∨ (FR (c - 117).toNat = (b : Int) ∧ TO (c - 117).toNat = ((b + tl A 1 (w.drop b) : Nat) : Int))) → (FR (c - 117).toNat = -1 ∧ b = a ∨ FR (c - 117).toNat = (b : Int)) → mtf A p' (w.drop (a + tl A 1 (w.drop a))) (s_up s c (sb A w b)) = r0 → ai_aw L xs (d + 2) ai_m119 (fun (o : ai_O) => ∃ v S', o = (.inl v, S') ∧ fr 432 452 S S' ∧ ∃ FR TO, mst S' T D n rc wt kp sx sc (fup (fup F 11 FR) 12 TO) B ∧ ∃ z, v = some (ax_i z) ∧ bz z (r0.isSome = true) ∧ ∀ s, r0 = some s → rpM A w FR TO s) (164, [some (.ref 432), some (ax_i (t : Nat)), some (ax_i (p : Nat)), some (ax_i (k : Nat)), some (ax_i (a : Nat)), some (ax_i (i : Nat)), some (ax_i (c - 117)), some (ax_i ((a + tl A 1 (w.drop a) : Nat) : Int))], [], S1) := by
        intro b hb hor hor2 hr9
        have htb := tl_le (A := A) (w.drop b) 1
        rw [List.length_drop] at htb
        have kto : ∀ (S2 : ai_S), fr 432 452 S S2 → mst S2 T D n rc wt kp sx sc (fup (fup F 11 (ax_up FR (c - 117).toNat b)) 12 TO) B → ai_aw L xs (d + 2) ai_m119 (fun (o : ai_O) => ∃ v S', o = (.inl v, S') ∧ fr 432 452 S S' ∧ ∃ FR TO, mst S' T D n rc wt kp sx sc (fup (fup F 11 FR) 12 TO) B ∧ ∃ z, v = some (ax_i z) ∧ bz z (r0.isSome = true) ∧ ∀ s, r0 = some s → rpM A w FR TO s) (193, [some (.ref 432), some (ax_i (t : Nat)), some (ax_i (p : Nat)), some (ax_i (k : Nat)), some (ax_i (a : Nat)), some (ax_i (i : Nat)), some (ax_i (c - 117)), some (ax_i ((a + tl A 1 (w.drop a) : Nat) : Int))], [], S2) := by
          intro S2 f2 h2
          have ho := h2.1
          have r11 : ai_arr S2 444 0 = some (20, ax_f ((fup (fup F 11 (ax_up FR (c - 117).toNat b)) 12 TO) 11)) := h2.2.1 11 (by decide)
          rw [show (fup (fup F 11 (ax_up FR (c - 117).toNat b)) 12 TO) 11 = ax_up FR (c - 117).toNat b from (fup_ne (by decide)).trans (fup_get _ _ _)] at r11
          have r12 : ai_arr S2 445 0 = some (20, ax_f ((fup (fup F 11 (ax_up FR (c - 117).toNat b)) 12 TO) 12)) := h2.2.1 12 (by decide)
          rw [show (fup (fup F 11 (ax_up FR (c - 117).toNat b)) 12 TO) 12 = TO from fup_get _ _ _] at r12
          have eb : ax_up FR (c - 117).toNat b (c - 117).toNat = (b : Int) := if_pos rfl
          have kend : ∀ v9 : Int, v9 = ((b + tl A 1 (w.drop b) : Nat) : Int) → ai_aw L xs (d + 2) ai_m119 (fun (o : ai_O) => ∃ v S', o = (.inl v, S') ∧ fr 432 452 S S' ∧ ∃ FR TO, mst S' T D n rc wt kp sx sc (fup (fup F 11 FR) 12 TO) B ∧ ∃ z, v = some (ax_i z) ∧ bz z (r0.isSome = true) ∧ ∀ s, r0 = some s → rpM A w FR TO s) (223, [some (.ref 432), some (ax_i (t : Nat)), some (ax_i (p : Nat)), some (ax_i (k : Nat)), some (ax_i (a : Nat)), some (ax_i (i : Nat)), some (ax_i (c - 117)), some (ax_i ((a + tl A 1 (w.drop a) : Nat) : Int))], [ax_i v9, ax_i (c - 117), .ref 445], S2) := by
            intro v9 hv9
            rw [hv9]
            refine ax_ist (k := (c - 117).toNat) at_119_223 rfl r12 (by omega) (by omega) (by decide) ?_
            have h3 : mst (ai_wr S2 445 (.inl (0, ai_I 20 (ax_f (ax_up TO (c - 117).toNat ((b + tl A 1 (w.drop b) : Nat) : Int)))))) T D n rc wt kp sx sc (fup (fup F 11 (ax_up FR (c - 117).toNat b)) 12 (ax_up TO (c - 117).toNat ((b + tl A 1 (w.drop b) : Nat) : Int))) B := by
              have := mst_wr (i := 12) (R := (ax_up TO (c - 117).toNat ((b + tl A 1 (w.drop b) : Nat) : Int))) h2 (by decide)
              rw [fup_two] at this
              exact this
            have f3 := f2.tr (fr_md (S := S2) (a := 445) (x := .inl (0, ai_I 20 (ax_f (ax_up TO (c - 117).toNat ((b + tl A 1 (w.drop b) : Nat) : Int))))) (by decide) (by decide))
            refine aw_loc at_119_224 rfl rfl ?_
            refine aw_loc at_119_226 rfl rfl ?_
            refine ax_inc at_119_228 rfl rfl rfl ?_
            refine aw_goto at_119_231 ?_
            have := fun y6 y7 => ih (i + 1) (a + tl A 1 (w.drop a)) (s_up s c (sb A w b)) _ _ _ m kk y6 y7 hp1 (by omega) (by omega) hr9 hn1' hn4 (rpM_put hB ⟨hv, hcv⟩ hb hwl) f3 h3
            rw [show ((i + 1 : Nat) : Int) = (i : Int) + 1 by omega] at this
            exact this _ _
          refine aw_loc at_119_193 rfl rfl ?_
          refine aw_get at_119_194 rfl fl_12_46 ho rfl ?_
          refine aw_loc at_119_197 rfl rfl ?_
          refine aw_loc at_119_199 rfl rfl ?_
          refine aw_get at_119_200 rfl fl_12_43 ho rfl ?_
          refine aw_loc at_119_203 rfl rfl ?_
          refine ax_ild at_119_205 rfl r11 (k := (c - 117).toNat) (by omega) (by omega) (by decide) ?_
          refine aw_loc at_119_206 rfl rfl ?_
          rw [eb]
          refine ax_icmp_ne at_119_208 ⟨by omega, by omega⟩ ⟨by omega, by omega⟩ (fun y => ?_) (fun y => ?_)
          · skip
            refine aw_loc at_119_216 rfl rfl ?_
            refine aw_get at_119_217 rfl fl_12_46 ho rfl ?_
            refine aw_loc at_119_220 rfl rfl ?_
            refine ax_ild at_119_222 rfl r12 (k := (c - 117).toNat) (by omega) (by omega) (by decide) ?_
            exact kend _ (hor.elim (fun e => absurd (by rw [e]) y) (fun e => e.2))
          · skip
            refine aw_loc at_119_211 rfl rfl ?_
            refine aw_goto at_119_213 ?_
            exact kend _ (by rw [show b = a by omega])
        have kfr : ∀ v9 : Int, v9 = (b : Int) → ai_aw L xs (d + 2) ai_m119 (fun (o : ai_O) => ∃ v S', o = (.inl v, S') ∧ fr 432 452 S S' ∧ ∃ FR TO, mst S' T D n rc wt kp sx sc (fup (fup F 11 FR) 12 TO) B ∧ ∃ z, v = some (ax_i z) ∧ bz z (r0.isSome = true) ∧ ∀ s, r0 = some s → rpM A w FR TO s) (192, [some (.ref 432), some (ax_i (t : Nat)), some (ax_i (p : Nat)), some (ax_i (k : Nat)), some (ax_i (a : Nat)), some (ax_i (i : Nat)), some (ax_i (c - 117)), some (ax_i ((a + tl A 1 (w.drop a) : Nat) : Int))], [ax_i v9, ax_i (c - 117), .ref 444], S1) := by
          intro v9 hv9
          rw [hv9]
          refine ax_ist (k := (c - 117).toNat) at_119_192 rfl r11 (by omega) (by omega) (by decide) ?_
          have h3 : mst (ai_wr S1 444 (.inl (0, ai_I 20 (ax_f (ax_up FR (c - 117).toNat b))))) T D n rc wt kp sx sc (fup (fup F 11 (ax_up FR (c - 117).toNat b)) 12 TO) B := by
            have := mst_wr (i := 11) (R := (ax_up FR (c - 117).toNat b)) h1 (by decide)
            rw [fup_comm _ (show 12 ≠ 11 by decide), fup_two] at this
            exact this
          exact kto _ (f1.tr (fr_md (by decide) (by decide))) h3
        refine aw_loc at_119_164 rfl rfl ?_
        refine aw_get at_119_165 rfl fl_12_43 ho rfl ?_
        refine aw_loc at_119_168 rfl rfl ?_
        refine aw_loc at_119_170 rfl rfl ?_
        refine aw_get at_119_171 rfl fl_12_43 ho rfl ?_
        refine aw_loc at_119_174 rfl rfl ?_
        refine ax_ild at_119_176 rfl r11 (k := (c - 117).toNat) (by omega) (by omega) (by decide) ?_
        refine ax_if_ge at_119_177 ⟨by omega, by omega⟩ (fun y => ?_) (fun y => ?_)
        · skip
          refine aw_loc at_119_185 rfl rfl ?_
          refine aw_get at_119_186 rfl fl_12_43 ho rfl ?_
          refine aw_loc at_119_189 rfl rfl ?_
          refine ax_ild at_119_191 rfl r11 (k := (c - 117).toNat) (by omega) (by omega) (by decide) ?_
          exact kfr _ (by omega)
        · skip
          refine aw_loc at_119_180 rfl rfl ?_
          refine aw_goto at_119_182 ?_
          exact kfr _ (by omega)
      refine aw_loc at_119_105 rfl rfl ?_
      refine aw_loc at_119_107 rfl rfl ?_
      refine aw_get at_119_108 rfl fl_12_43 ho rfl ?_
      refine aw_loc at_119_111 rfl rfl ?_
      refine ax_ild at_119_113 rfl r11 (k := (c - 117).toNat) (by omega) (by omega) (by decide) ?_
      rcases hB.2 c hv hcv with ⟨hs0, hb0⟩ | ⟨b0, hb0, hb0t, hb1, hs0⟩
      · skip
        refine ax_if_lt at_119_114 ⟨by omega, by omega⟩ (fun _ => ?_) (fun y => absurd y (by omega))
        rw [mtf_new hat2 hv hs0] at hr
        exact kst a hat2 (Or.inl rfl) (Or.inl ⟨hb0, rfl⟩) hr
      · skip
        refine ax_if_lt at_119_114 ⟨by omega, by omega⟩ (fun y => absurd y (by omega)) (fun _ => ?_)
        rw [mtf_old hat2 hv hs0] at hr
        have htb := tl_le (A := A) (w.drop b0) 1
        rw [List.length_drop] at htb
        have hsi := same_iff2 (A := A) hw hkw hb1 hat2
        refine aw_loc at_119_117 rfl rfl ?_
        refine aw_get at_119_118 rfl fl_12_46 ho rfl ?_
        refine aw_loc at_119_121 rfl rfl ?_
        refine ax_ild at_119_123 rfl r12 (k := (c - 117).toNat) (by omega) (by omega) (by decide) ?_
        rw [hb0t]
        refine aw_loc at_119_124 rfl rfl ?_
        refine aw_get at_119_125 rfl fl_12_43 ho rfl ?_
        refine aw_loc at_119_128 rfl rfl ?_
        refine ax_ild at_119_130 rfl r11 (k := (c - 117).toNat) (by omega) (by omega) (by decide) ?_
        rw [hb0]
        refine ax_sub at_119_131 rfl ?_
        refine aw_loc at_119_132 rfl rfl ?_
        refine aw_loc at_119_134 rfl rfl ?_
        refine ax_sub at_119_136 rfl ?_
        refine ax_icmp_ne at_119_137 ⟨by omega, by omega⟩ ⟨by omega, by omega⟩ (fun y => kfl _ _ (by rw [← hr, if_neg (fun e => y (by have := (hsi.1 e).1; omega))]) 162 (Or.inr rfl)) (fun y => ?_)
        refine aw_loc at_119_140 rfl rfl ?_
        refine aw_loc at_119_141 rfl rfl ?_
        refine aw_loc at_119_142 rfl rfl ?_
        refine aw_get at_119_143 rfl fl_12_43 ho rfl ?_
        refine aw_loc at_119_146 rfl rfl ?_
        refine ax_ild at_119_148 rfl r11 (k := (c - 117).toNat) (by omega) (by omega) (by decide) ?_
        rw [hb0]
        refine aw_loc at_119_149 rfl rfl ?_
        refine aw_loc at_119_151 rfl rfl ?_
        refine aw_loc at_119_153 rfl rfl ?_
        refine ax_sub at_119_155 rfl ?_
        rw [show ((a + tl A 1 (w.drop a) : Nat) : Int) - (a : Int) = ((tl A 1 (w.drop b0) : Nat) : Int) by omega]
        refine aw_cv (a := 432) [ax_i (t : Nat), ax_i (b0 : Nat), ax_i (a : Nat), ax_i (tl A 1 (w.drop b0) : Nat)] [] at_119_156 mt_12_120 (Or.inl rfl) rfl rfl (Nat.le_of_ble_eq_true rfl) ⟨_, ho⟩ ((r_m_strt h1 (by rw [show (fup (fup F 11 FR) 12 TO) 9 = F 9 from (fup_ne (by decide)).trans (fup_ne (by decide))]; exact hx) ht (by omega) (by omega)).mono ?_)
        rw [show (fup (fup F 11 FR) 12 TO) 9 = F 9 from (fup_ne (by decide)).trans (fup_ne (by decide))]
        rintro v S0 ⟨hS, z3, rfl, hz3⟩
        have hS2 := hS.symm
        subst hS2
        have hz39 := hz3.le
        refine ax_if_ne at_119_159 ⟨by omega, by omega⟩ (fun y2 => ?_) (fun y2 => kfl _ _ (by rw [← hr, if_neg (fun e => (hz3.resolve_right (fun g => by have := g.1; omega)).2 (hsi.1 e).2)]) 162 (Or.inr rfl))
        have esb := hsi.2 ⟨by omega, (hz3.resolve_left (fun g => y2 g.1)).2⟩
        rw [if_pos esb] at hr
        exact kst b0 hb1 (Or.inr ⟨hb0, hb0t⟩) (Or.inr hb0) (by rw [s_up_same hs0]; exact hr)
    · skip
      have hv : c < 117 := by omega
      rw [mtf_sym hat2 hv] at hr
      refine aw_loc at_119_63 rfl rfl ?_
      refine aw_get at_119_64 rfl fl_12_37 ho rfl ?_
      refine aw_pure (st' := ax_i (64) :: _) at_119_67 rfl rfl ?_
      refine aw_loc at_119_69 rfl rfl ?_
      refine ax_mul at_119_70 rfl ?_
      refine aw_loc at_119_71 rfl rfl ?_
      refine ax_add at_119_73 rfl ?_
      refine ax_ild at_119_74 rfl r9 (k := 64 * t + a) (by omega) (by omega) (by decide) ?_
      rw [hwa]
      refine aw_loc at_119_75 rfl rfl ?_
      refine aw_get at_119_76 rfl fl_12_19 ho rfl ?_
      refine aw_pure (st' := ax_i (48) :: _) at_119_79 rfl rfl ?_
      refine aw_loc at_119_81 rfl rfl ?_
      refine ax_mul at_119_82 rfl ?_
      refine aw_loc at_119_83 rfl rfl ?_
      refine ax_add at_119_85 rfl ?_
      refine ax_ild at_119_86 rfl r3 (k := 48 * k + i) (by omega) (by omega) (by decide) ?_
      rw [hUi]
      have hca := co_in hwk
      refine ax_icmp_eq at_119_87 ⟨by omega, by omega⟩ ⟨by omega, by omega⟩ (fun y => ?_) (fun y => kfl _ _ (by rw [← hr, if_neg (fun e => y (by rw [e]))]) 90 (Or.inl rfl))
      have ye := co_inj hwk hck y
      rw [if_pos ye.symm] at hr
      have hn4 := ts_next hat2 hn3
      rw [ye, show m + kk + A c = m + A c + kk by omega] at hn4
      show ai_aw L xs (d + 2) ai_m119 _ (92, _, _, _)
      refine ax_inc at_119_92 rfl rfl rfl ?_
      refine aw_goto at_119_95 ?_
      refine ax_inc at_119_228 rfl rfl rfl ?_
      refine aw_goto at_119_231 ?_
      have := fun y6 y7 => ih (i + 1) (a + 1) s FR TO S1 (m + A c) kk y6 y7 hp1 (by omega) (by omega) hr hn1' hn4 hB f1 h1
      rw [Int.natCast_add, Int.natCast_add] at this
      exact this _ _
set_option maxHeartbeats 4000000 in
theorem r_m_fits0 {t p k : Nat} {Q : ai_O → Prop} : ∀ (m j : Nat) (S1 : ai_S), j + m = 20 → fr 432 452 S S1 → mst S1 T D n rc wt kp sx sc (fup F 11 (fi (F 11) (-1) j)) B → (∀ S2, fr 432 452 S S2 → mst S2 T D n rc wt kp sx sc (fup F 11 (fi (F 11) (-1) 20)) B → ai_aw L xs d ai_m119 Q (24, [some (.ref 432), some (ax_i (t : Nat)), some (ax_i (p : Nat)), some (ax_i (k : Nat)), some (ax_i (20 : Nat)), none, none, none], [], S2)) → ai_aw L xs d ai_m119 Q (3, [some (.ref 432), some (ax_i (t : Nat)), some (ax_i (p : Nat)), some (ax_i (k : Nat)), some (ax_i (j : Nat)), none, none, none], [], S1) := by
  intro m
  induction m with
  | zero =>
    intro j S1 hj f1 h1 hc
    have ho := h1.1
    have r11 : ai_arr S1 444 0 = some (20, ax_f ((fup F 11 (fi (F 11) (-1) j)) 11)) := h1.2.1 11 (by decide)
    rw [show (fup F 11 (fi (F 11) (-1) j)) 11 = fi (F 11) (-1) j from fup_get _ _ _] at r11
    obtain rfl : j = 20 := by omega
    refine aw_loc at_119_3 rfl rfl ?_
    refine aw_pure (st' := ax_i (20) :: _) at_119_5 rfl rfl ?_
    refine ax_icmp_ge at_119_7 ⟨by omega, by omega⟩ ⟨by omega, by omega⟩ (fun _ => hc S1 f1 h1) (fun z => absurd z (by omega))
  | succ m ih =>
    intro j S1 hj f1 h1 hc
    have ho := h1.1
    have r11 : ai_arr S1 444 0 = some (20, ax_f ((fup F 11 (fi (F 11) (-1) j)) 11)) := h1.2.1 11 (by decide)
    rw [show (fup F 11 (fi (F 11) (-1) j)) 11 = fi (F 11) (-1) j from fup_get _ _ _] at r11
    refine aw_loc at_119_3 rfl rfl ?_
    refine aw_pure (st' := ax_i (20) :: _) at_119_5 rfl rfl ?_
    refine ax_icmp_ge at_119_7 ⟨by omega, by omega⟩ ⟨by omega, by omega⟩ (fun z => absurd z (by omega)) (fun _ => ?_)
    refine aw_loc at_119_10 rfl rfl ?_
    refine aw_get at_119_11 rfl fl_12_43 ho rfl ?_
    refine aw_loc at_119_14 rfl rfl ?_
    refine aw_pure (st' := ax_i (-1) :: _) at_119_16 rfl rfl ?_
    refine ax_ist (k := j) at_119_17 rfl r11 rfl (by omega) (by decide) ?_
    rw [fi_succ]
    have h2 : mst (ai_wr S1 444 (.inl (0, ai_I 20 (ax_f (fi (F 11) (-1) (j + 1)))))) T D n rc wt kp sx sc (fup F 11 (fi (F 11) (-1) (j + 1))) B := by
      have := mst_wr (i := 11) (R := fi (F 11) (-1) (j + 1)) h1 (by decide)
      rw [fup_two] at this
      exact this
    refine ax_inc at_119_18 rfl rfl rfl ?_
    refine aw_goto at_119_21 ?_
    have := ih (j + 1) _ (by omega) (f1.tr (fr_md (by decide) (by decide))) h2 hc
    rw [Int.natCast_add] at this
    exact this
set_option maxHeartbeats 4000000 in
theorem r_m_fits {t p k N : Nat} {w : List Int} {q : List Int × List Int} (h : mst S T D n rc wt kp sx sc F B) (hPr : ∀ i, -1 ≤ F 0 i ∧ F 0 i ≤ 2) (hs : sam A (F 0)) (hx : xr (F 9)) (hw : cw (F 9) (64 * t) w) (hkw : al (kn (F 0) 129) w) (hN : ts A N w) (ht : t < 3) (hwl : w.length ≤ 24) (hq : qsl (F 3) (F 4) (F 5) k q) (hkq : al (kn (F 0) 123) q.1) (hk : k < 15) (hqt : ts A 1 q.1) (hp : p < w.length) : ai_rn L xs (d + 3) 119 [.ref 432, ax_i (t : Nat), ax_i (p : Nat), ax_i (k : Nat)] S (fun v S' => fr 432 452 S S' ∧ ∃ FR TO, mst S' T D n rc wt kp sx sc (fup (fup F 11 FR) 12 TO) B ∧ ∃ z, v = some (ax_i z) ∧ bz z ((mtf A q.1 (w.drop p) s_no).isSome = true) ∧ ∀ s, mtf A q.1 (w.drop p) s_no = some s → rpM A w FR TO s) := by
  obtain ⟨kk, hkk⟩ := ts_drop w N hN p hp
  refine ai_rn_of (M := ai_m119) rfl (by decide) (Nat.le_of_ble_eq_true rfl) ?_
  refine aw_pure (st' := ax_i (0) :: _) at_119_0 rfl rfl ?_
  refine aw_loc at_119_1 rfl rfl ?_
  refine r_m_fits0 (F := F) 20 0 S (by omega) fr.rf (by rw [show fi (F 11) (-1) 0 = F 11 by funext i; exact if_neg (by omega), fup_self]; exact h) (fun S2 f2 h2 => ?_)
  refine aw_loc at_119_24 rfl rfl ?_
  refine aw_loc at_119_25 rfl rfl ?_
  refine aw_pure (st' := ax_i (0) :: _) at_119_27 rfl rfl ?_
  refine aw_loc at_119_28 rfl rfl ?_
  have e12 : fup (fup F 11 (fi (F 11) (-1) 20)) 12 (F 12) = fup F 11 (fi (F 11) (-1) 20) := by have := fup_self (fup F 11 (fi (F 11) (-1) 20)) 12; rw [show fup F 11 (fi (F 11) (-1) 20) 12 = F 12 from fup_ne (by decide)] at this; exact this
  exact r_m_fits1 h hPr hs hx hw hkw hN ht hwl hq hkq hk q.1 0 p s_no (fi (F 11) (-1) 20) (F 12) S2 1 kk _ _ rfl (by omega) (by omega) rfl hqt hkk ⟨fun i hi => by rw [show fi (F 11) (-1) 20 i = -1 from if_pos hi]; omega, fun c h1 h2 => Or.inl ⟨rfl, if_pos (by omega)⟩⟩ f2 (by rw [e12]; exact h2)
end MM

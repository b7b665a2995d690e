/-! The reference: the path order. -/
section MO2
variable {L : Nat} {xs : Nat → Int32} {d : Nat} {S S' : ai_S} {T D n rc wt kp sx sc : Int} {F : Nat → Nat → Int} {B : Nat → Int} {P : Nat → Int} {A : Int → Nat} {w1 w2 : List Int} {R : Int → Int}
theorem sp_chp (hA2 : ∀ c, A c ≤ 2) (w : List Int) (i : Nat) : sp A (A (w.getD i 0)) (w.drop (i + 1)) = (List.range' 0 (A (w.getD i 0))).map fun k => sb A w (chp (fun j => j + tl A 1 (w.drop j)) i k) := by
  have h := hA2 (w.getD i 0)
  generalize A (w.getD i 0) = m at h
  obtain rfl | rfl | rfl : m = 0 ∨ m = 1 ∨ m = 2 := by omega
  · rfl
  · rw [sp_at]; rfl
  · rw [sp_at, sp_at]; rfl
theorem fdf_rg (f : List Int → List Int → Prop) (a b : Nat → List Int) (k m : Nat) : fdf f ((List.range' k (m + 1)).map a) ((List.range' k (m + 1)).map b) ↔ (if a k = b k then fdf f ((List.range' (k + 1) m).map a) ((List.range' (k + 1) m).map b) else f (a k) (b k)) := Iff.rfl
/-- the child's place -/
abbrev chw (A : Int → Nat) (w : List Int) (i k : Nat) : Nat := chp (fun j => j + tl A 1 (w.drop j)) i k
/-- a term of the upper one is enough -/
def mup (A : Int → Nat) (R : Int → Int) (w1 w2 : List Int) (i j : Nat) : Prop := ∃ k, k < A (w1.getD i 0) ∧ (pgt A R (sb A w1 (chw A w1 i k)) (sb A w2 j) ∨ sb A w1 (chw A w1 i k) = sb A w2 j)
theorem pgt_ch (hA2 : ∀ c, A c ≤ 2) {i j : Nat} (hi : i < w1.length) (hj : j < w2.length) : pgt A R (sb A w1 i) (sb A w2 j) ↔ (∃ k, k < A (w1.getD i 0) ∧ (pgt A R (sb A w1 (chw A w1 i k)) (sb A w2 j) ∨ sb A w1 (chw A w1 i k) = sb A w2 j)) ∨ (w1.getD i 0 < 117 ∧ w2.getD j 0 < 117 ∧ (∀ k, k < A (w2.getD j 0) → pgt A R (sb A w1 i) (sb A w2 (chw A w2 j k))) ∧ (if w1.getD i 0 = w2.getD j 0 then fdf (pgt A R) ((List.range' 0 (A (w1.getD i 0))).map fun k => sb A w1 (chw A w1 i k)) ((List.range' 0 (A (w2.getD j 0))).map fun k => sb A w2 (chw A w2 j k)) else R (w2.getD j 0) < R (w1.getD i 0))) := by
  have h := pgt_at (A := A) (R := R) hi hj
  rw [← getD_eq hi, ← getD_eq hj, sp_chp hA2, sp_chp hA2] at h
  rw [h]
  refine or_congr ⟨?_, ?_⟩ (and_congr Iff.rfl (and_congr Iff.rfl (and_congr ⟨fun g k hk => ?_, fun g s hs => ?_⟩ Iff.rfl)))
  · rintro ⟨t, ht, g⟩
    obtain ⟨k, hk, rfl⟩ := List.mem_map.1 ht
    exact ⟨k, by have := List.mem_range'.1 hk; omega, g⟩
  · rintro ⟨k, hk, g⟩
    exact ⟨_, List.mem_map.2 ⟨k, List.mem_range'.2 ⟨k, hk, by omega⟩, rfl⟩, g⟩
  · exact g _ (List.mem_map.2 ⟨k, List.mem_range'.2 ⟨k, hk, by omega⟩, rfl⟩)
  · obtain ⟨k, hk, rfl⟩ := List.mem_map.1 hs
    exact g k (by have := List.mem_range'.1 hk; omega)
/-- two slots with their words -/
def mow (A : Int → Nat) (F : Nat → Nat → Int) (t s : Nat) (w1 w2 : List Int) : Prop := mpk A F ∧ xr (F 9) ∧ (mwd (F 9) (F 10) t w1 ∧ mwd (F 9) (F 10) s w2) ∧ (w1.length ≤ 24 ∧ w2.length ≤ 24) ∧ (al (kn (F 0) 129) w1 ∧ al (kn (F 0) 129) w2) ∧ (ts A 1 w1 ∧ ts A 1 w2) ∧ (t < 2 ∧ s < 2) ∧ ∀ c, A c ≤ 2
/-- the ranks that the reference has -/
def mrk (F : Nat → Nat → Int) (R : Int → Int) : Prop := (∀ i, 0 ≤ F 1 i ∧ F 1 i ≤ 1000) ∧ ∀ c e, kn (F 0) 117 c → kn (F 0) 117 e → (F 1 (e - 97).toNat < F 1 (c - 97).toNat ↔ R e < R c)
theorem mw_at {X Z : Nat → Int} {t i : Nat} {w : List Int} (h : mwd X Z t w) (hl : w.length ≤ 24) (hi : i < w.length) : X (64 * t + i) = co (w.getD i 0) := h.2 i hi (by omega)
theorem kn_at {N : Int} {w : List Int} {i : Nat} (h : al (kn P N) w) (hi : i < w.length) : kn P N (w.getD i 0) := h _ (by rw [getD_eq hi]; exact List.getElem_mem _)
theorem at_125_0 : ai_at ai_m125 0 = some (.aload_n 0, 1) := rfl
theorem at_125_1 : ai_at ai_m125 1 = some (.getfield 40, 3) := rfl
theorem at_125_4 : ai_at ai_m125 4 = some (.iload_n 1, 1) := rfl
theorem at_125_5 : ai_at ai_m125 5 = some (.iaload, 1) := rfl
theorem at_125_6 : ai_at ai_m125 6 = some (.iconst 1, 1) := rfl
theorem at_125_7 : ai_at ai_m125 7 = some (.isub, 1) := rfl
theorem at_125_8 : ai_at ai_m125 8 = some (.istore_n 3, 1) := rfl
theorem at_125_9 : ai_at ai_m125 9 = some (.iload_n 3, 1) := rfl
theorem at_125_10 : ai_at ai_m125 10 = some (.ifCond .lt 51, 3) := rfl
theorem at_125_13 : ai_at ai_m125 13 = some (.aload_n 0, 1) := rfl
theorem at_125_14 : ai_at ai_m125 14 = some (.getfield 40, 3) := rfl
theorem at_125_17 : ai_at ai_m125 17 = some (.iload_n 2, 1) := rfl
theorem at_125_18 : ai_at ai_m125 18 = some (.iaload, 1) := rfl
theorem at_125_19 : ai_at ai_m125 19 = some (.iconst 1, 1) := rfl
theorem at_125_20 : ai_at ai_m125 20 = some (.isub, 1) := rfl
theorem at_125_21 : ai_at ai_m125 21 = some (.istore 4, 2) := rfl
theorem at_125_23 : ai_at ai_m125 23 = some (.iload 4, 2) := rfl
theorem at_125_25 : ai_at ai_m125 25 = some (.ifCond .lt 30, 3) := rfl
theorem at_125_28 : ai_at ai_m125 28 = some (.aload_n 0, 1) := rfl
theorem at_125_29 : ai_at ai_m125 29 = some (.getfield 64, 3) := rfl
theorem at_125_32 : ai_at ai_m125 32 = some (.bipush 24, 2) := rfl
theorem at_125_34 : ai_at ai_m125 34 = some (.iload_n 3, 1) := rfl
theorem at_125_35 : ai_at ai_m125 35 = some (.imul, 1) := rfl
theorem at_125_36 : ai_at ai_m125 36 = some (.iload 4, 2) := rfl
theorem at_125_38 : ai_at ai_m125 38 = some (.iadd, 1) := rfl
theorem at_125_39 : ai_at ai_m125 39 = some (.aload_n 0, 1) := rfl
theorem at_125_40 : ai_at ai_m125 40 = some (.iload_n 1, 1) := rfl
theorem at_125_41 : ai_at ai_m125 41 = some (.iload_n 3, 1) := rfl
theorem at_125_42 : ai_at ai_m125 42 = some (.iload_n 2, 1) := rfl
theorem at_125_43 : ai_at ai_m125 43 = some (.iload 4, 2) := rfl
theorem at_125_45 : ai_at ai_m125 45 = some (.invokevirtual 144, 3) := rfl
theorem at_125_48 : ai_at ai_m125 48 = some (.bastore, 1) := rfl
theorem at_125_49 : ai_at ai_m125 49 = some (.iinc 4 (-1), 3) := rfl
theorem at_125_52 : ai_at ai_m125 52 = some (.goto (-29), 3) := rfl
theorem at_125_55 : ai_at ai_m125 55 = some (.iinc 3 (-1), 3) := rfl
theorem at_125_58 : ai_at ai_m125 58 = some (.goto (-49), 3) := rfl
theorem at_125_61 : ai_at ai_m125 61 = some (.aload_n 0, 1) := rfl
theorem at_125_62 : ai_at ai_m125 62 = some (.getfield 64, 3) := rfl
theorem at_125_65 : ai_at ai_m125 65 = some (.iconst 0, 1) := rfl
theorem at_125_66 : ai_at ai_m125 66 = some (.baload, 1) := rfl
theorem at_125_67 : ai_at ai_m125 67 = some (.ireturn, 1) := rfl
theorem at_126_0 : ai_at ai_m126 0 = some (.aload_n 0, 1) := rfl
theorem at_126_1 : ai_at ai_m126 1 = some (.getfield 37, 3) := rfl
theorem at_126_4 : ai_at ai_m126 4 = some (.bipush 64, 2) := rfl
theorem at_126_6 : ai_at ai_m126 6 = some (.iload_n 1, 1) := rfl
theorem at_126_7 : ai_at ai_m126 7 = some (.imul, 1) := rfl
theorem at_126_8 : ai_at ai_m126 8 = some (.iload_n 2, 1) := rfl
theorem at_126_9 : ai_at ai_m126 9 = some (.iadd, 1) := rfl
theorem at_126_10 : ai_at ai_m126 10 = some (.iaload, 1) := rfl
theorem at_126_11 : ai_at ai_m126 11 = some (.istore 5, 2) := rfl
theorem at_126_13 : ai_at ai_m126 13 = some (.aload_n 0, 1) := rfl
theorem at_126_14 : ai_at ai_m126 14 = some (.getfield 37, 3) := rfl
theorem at_126_17 : ai_at ai_m126 17 = some (.bipush 64, 2) := rfl
theorem at_126_19 : ai_at ai_m126 19 = some (.iload_n 3, 1) := rfl
theorem at_126_20 : ai_at ai_m126 20 = some (.imul, 1) := rfl
theorem at_126_21 : ai_at ai_m126 21 = some (.iload 4, 2) := rfl
theorem at_126_23 : ai_at ai_m126 23 = some (.iadd, 1) := rfl
theorem at_126_24 : ai_at ai_m126 24 = some (.iaload, 1) := rfl
theorem at_126_25 : ai_at ai_m126 25 = some (.istore 6, 2) := rfl
theorem at_126_27 : ai_at ai_m126 27 = some (.iload 6, 2) := rfl
theorem at_126_29 : ai_at ai_m126 29 = some (.bipush 8, 2) := rfl
theorem at_126_31 : ai_at ai_m126 31 = some (.if_icmp .lt 23, 3) := rfl
theorem at_126_34 : ai_at ai_m126 34 = some (.aload_n 0, 1) := rfl
theorem at_126_35 : ai_at ai_m126 35 = some (.iload_n 1, 1) := rfl
theorem at_126_36 : ai_at ai_m126 36 = some (.iload_n 2, 1) := rfl
theorem at_126_37 : ai_at ai_m126 37 = some (.iload 6, 2) := rfl
theorem at_126_39 : ai_at ai_m126 39 = some (.invokevirtual 134, 3) := rfl
theorem at_126_42 : ai_at ai_m126 42 = some (.ifCond .eq 12, 3) := rfl
theorem at_126_45 : ai_at ai_m126 45 = some (.iload 5, 2) := rfl
theorem at_126_47 : ai_at ai_m126 47 = some (.iload 6, 2) := rfl
theorem at_126_49 : ai_at ai_m126 49 = some (.if_icmp .eq 5, 3) := rfl
theorem at_126_52 : ai_at ai_m126 52 = some (.iconst 1, 1) := rfl
theorem at_126_53 : ai_at ai_m126 53 = some (.ireturn, 1) := rfl
theorem at_126_54 : ai_at ai_m126 54 = some (.iconst 0, 1) := rfl
theorem at_126_55 : ai_at ai_m126 55 = some (.istore 7, 2) := rfl
theorem at_126_57 : ai_at ai_m126 57 = some (.iload 7, 2) := rfl
theorem at_126_59 : ai_at ai_m126 59 = some (.aload_n 0, 1) := rfl
theorem at_126_60 : ai_at ai_m126 60 = some (.iload 5, 2) := rfl
theorem at_126_62 : ai_at ai_m126 62 = some (.invokevirtual 96, 3) := rfl
theorem at_126_65 : ai_at ai_m126 65 = some (.if_icmp .ge 50, 3) := rfl
theorem at_126_68 : ai_at ai_m126 68 = some (.aload_n 0, 1) := rfl
theorem at_126_69 : ai_at ai_m126 69 = some (.iload_n 1, 1) := rfl
theorem at_126_70 : ai_at ai_m126 70 = some (.iload_n 2, 1) := rfl
theorem at_126_71 : ai_at ai_m126 71 = some (.iload 7, 2) := rfl
theorem at_126_73 : ai_at ai_m126 73 = some (.invokevirtual 137, 3) := rfl
theorem at_126_76 : ai_at ai_m126 76 = some (.istore 8, 2) := rfl
theorem at_126_78 : ai_at ai_m126 78 = some (.aload_n 0, 1) := rfl
theorem at_126_79 : ai_at ai_m126 79 = some (.getfield 64, 3) := rfl
theorem at_126_82 : ai_at ai_m126 82 = some (.bipush 24, 2) := rfl
theorem at_126_84 : ai_at ai_m126 84 = some (.iload 8, 2) := rfl
theorem at_126_86 : ai_at ai_m126 86 = some (.imul, 1) := rfl
theorem at_126_87 : ai_at ai_m126 87 = some (.iload 4, 2) := rfl
theorem at_126_89 : ai_at ai_m126 89 = some (.iadd, 1) := rfl
theorem at_126_90 : ai_at ai_m126 90 = some (.baload, 1) := rfl
theorem at_126_91 : ai_at ai_m126 91 = some (.ifCond .ne 16, 3) := rfl
theorem at_126_94 : ai_at ai_m126 94 = some (.aload_n 0, 1) := rfl
theorem at_126_95 : ai_at ai_m126 95 = some (.iload_n 1, 1) := rfl
theorem at_126_96 : ai_at ai_m126 96 = some (.iload 8, 2) := rfl
theorem at_126_98 : ai_at ai_m126 98 = some (.iload_n 3, 1) := rfl
theorem at_126_99 : ai_at ai_m126 99 = some (.iload 4, 2) := rfl
theorem at_126_101 : ai_at ai_m126 101 = some (.invokevirtual 141, 3) := rfl
theorem at_126_104 : ai_at ai_m126 104 = some (.ifCond .eq 5, 3) := rfl
theorem at_126_107 : ai_at ai_m126 107 = some (.iconst 1, 1) := rfl
theorem at_126_108 : ai_at ai_m126 108 = some (.ireturn, 1) := rfl
theorem at_126_109 : ai_at ai_m126 109 = some (.iinc 7 1, 3) := rfl
theorem at_126_112 : ai_at ai_m126 112 = some (.goto (-55), 3) := rfl
theorem at_126_115 : ai_at ai_m126 115 = some (.iload 5, 2) := rfl
theorem at_126_117 : ai_at ai_m126 117 = some (.bipush 8, 2) := rfl
theorem at_126_119 : ai_at ai_m126 119 = some (.if_icmp .ge 10, 3) := rfl
theorem at_126_122 : ai_at ai_m126 122 = some (.iload 6, 2) := rfl
theorem at_126_124 : ai_at ai_m126 124 = some (.bipush 8, 2) := rfl
theorem at_126_126 : ai_at ai_m126 126 = some (.if_icmp .lt 5, 3) := rfl
theorem at_126_129 : ai_at ai_m126 129 = some (.iconst 0, 1) := rfl
theorem at_126_130 : ai_at ai_m126 130 = some (.ireturn, 1) := rfl
theorem at_126_131 : ai_at ai_m126 131 = some (.iconst 0, 1) := rfl
theorem at_126_132 : ai_at ai_m126 132 = some (.istore 7, 2) := rfl
theorem at_126_134 : ai_at ai_m126 134 = some (.iload 7, 2) := rfl
theorem at_126_136 : ai_at ai_m126 136 = some (.aload_n 0, 1) := rfl
theorem at_126_137 : ai_at ai_m126 137 = some (.iload 6, 2) := rfl
theorem at_126_139 : ai_at ai_m126 139 = some (.invokevirtual 96, 3) := rfl
theorem at_126_142 : ai_at ai_m126 142 = some (.if_icmp .ge 33, 3) := rfl
theorem at_126_145 : ai_at ai_m126 145 = some (.aload_n 0, 1) := rfl
theorem at_126_146 : ai_at ai_m126 146 = some (.getfield 64, 3) := rfl
theorem at_126_149 : ai_at ai_m126 149 = some (.bipush 24, 2) := rfl
theorem at_126_151 : ai_at ai_m126 151 = some (.iload_n 2, 1) := rfl
theorem at_126_152 : ai_at ai_m126 152 = some (.imul, 1) := rfl
theorem at_126_153 : ai_at ai_m126 153 = some (.aload_n 0, 1) := rfl
theorem at_126_154 : ai_at ai_m126 154 = some (.iload_n 3, 1) := rfl
theorem at_126_155 : ai_at ai_m126 155 = some (.iload 4, 2) := rfl
theorem at_126_157 : ai_at ai_m126 157 = some (.iload 7, 2) := rfl
theorem at_126_159 : ai_at ai_m126 159 = some (.invokevirtual 137, 3) := rfl
theorem at_126_162 : ai_at ai_m126 162 = some (.iadd, 1) := rfl
theorem at_126_163 : ai_at ai_m126 163 = some (.baload, 1) := rfl
theorem at_126_164 : ai_at ai_m126 164 = some (.ifCond .ne 5, 3) := rfl
theorem at_126_167 : ai_at ai_m126 167 = some (.iconst 0, 1) := rfl
theorem at_126_168 : ai_at ai_m126 168 = some (.ireturn, 1) := rfl
theorem at_126_169 : ai_at ai_m126 169 = some (.iinc 7 1, 3) := rfl
theorem at_126_172 : ai_at ai_m126 172 = some (.goto (-38), 3) := rfl
theorem at_126_175 : ai_at ai_m126 175 = some (.iload 5, 2) := rfl
theorem at_126_177 : ai_at ai_m126 177 = some (.iload 6, 2) := rfl
theorem at_126_179 : ai_at ai_m126 179 = some (.if_icmp .eq 26, 3) := rfl
theorem at_126_182 : ai_at ai_m126 182 = some (.aload_n 0, 1) := rfl
theorem at_126_183 : ai_at ai_m126 183 = some (.getfield 13, 3) := rfl
theorem at_126_186 : ai_at ai_m126 186 = some (.iload 5, 2) := rfl
theorem at_126_188 : ai_at ai_m126 188 = some (.iaload, 1) := rfl
theorem at_126_189 : ai_at ai_m126 189 = some (.aload_n 0, 1) := rfl
theorem at_126_190 : ai_at ai_m126 190 = some (.getfield 13, 3) := rfl
theorem at_126_193 : ai_at ai_m126 193 = some (.iload 6, 2) := rfl
theorem at_126_195 : ai_at ai_m126 195 = some (.iaload, 1) := rfl
theorem at_126_196 : ai_at ai_m126 196 = some (.if_icmp .le 7, 3) := rfl
theorem at_126_199 : ai_at ai_m126 199 = some (.iconst 1, 1) := rfl
theorem at_126_200 : ai_at ai_m126 200 = some (.goto 4, 3) := rfl
theorem at_126_203 : ai_at ai_m126 203 = some (.iconst 0, 1) := rfl
theorem at_126_204 : ai_at ai_m126 204 = some (.ireturn, 1) := rfl
theorem at_126_205 : ai_at ai_m126 205 = some (.iconst 0, 1) := rfl
theorem at_126_206 : ai_at ai_m126 206 = some (.istore 7, 2) := rfl
theorem at_126_208 : ai_at ai_m126 208 = some (.iload 7, 2) := rfl
theorem at_126_210 : ai_at ai_m126 210 = some (.aload_n 0, 1) := rfl
theorem at_126_211 : ai_at ai_m126 211 = some (.iload 5, 2) := rfl
theorem at_126_213 : ai_at ai_m126 213 = some (.invokevirtual 96, 3) := rfl
theorem at_126_216 : ai_at ai_m126 216 = some (.if_icmp .ge 57, 3) := rfl
theorem at_126_219 : ai_at ai_m126 219 = some (.aload_n 0, 1) := rfl
theorem at_126_220 : ai_at ai_m126 220 = some (.iload_n 1, 1) := rfl
theorem at_126_221 : ai_at ai_m126 221 = some (.iload_n 2, 1) := rfl
theorem at_126_222 : ai_at ai_m126 222 = some (.iload 7, 2) := rfl
theorem at_126_224 : ai_at ai_m126 224 = some (.invokevirtual 137, 3) := rfl
theorem at_126_227 : ai_at ai_m126 227 = some (.istore 8, 2) := rfl
theorem at_126_229 : ai_at ai_m126 229 = some (.aload_n 0, 1) := rfl
theorem at_126_230 : ai_at ai_m126 230 = some (.iload_n 3, 1) := rfl
theorem at_126_231 : ai_at ai_m126 231 = some (.iload 4, 2) := rfl
theorem at_126_233 : ai_at ai_m126 233 = some (.iload 7, 2) := rfl
theorem at_126_235 : ai_at ai_m126 235 = some (.invokevirtual 137, 3) := rfl
theorem at_126_238 : ai_at ai_m126 238 = some (.istore 9, 2) := rfl
theorem at_126_240 : ai_at ai_m126 240 = some (.aload_n 0, 1) := rfl
theorem at_126_241 : ai_at ai_m126 241 = some (.iload_n 1, 1) := rfl
theorem at_126_242 : ai_at ai_m126 242 = some (.iload 8, 2) := rfl
theorem at_126_244 : ai_at ai_m126 244 = some (.iload_n 3, 1) := rfl
theorem at_126_245 : ai_at ai_m126 245 = some (.iload 9, 2) := rfl
theorem at_126_247 : ai_at ai_m126 247 = some (.invokevirtual 141, 3) := rfl
theorem at_126_250 : ai_at ai_m126 250 = some (.ifCond .ne 17, 3) := rfl
theorem at_126_253 : ai_at ai_m126 253 = some (.aload_n 0, 1) := rfl
theorem at_126_254 : ai_at ai_m126 254 = some (.getfield 64, 3) := rfl
theorem at_126_257 : ai_at ai_m126 257 = some (.bipush 24, 2) := rfl
theorem at_126_259 : ai_at ai_m126 259 = some (.iload 8, 2) := rfl
theorem at_126_261 : ai_at ai_m126 261 = some (.imul, 1) := rfl
theorem at_126_262 : ai_at ai_m126 262 = some (.iload 9, 2) := rfl
theorem at_126_264 : ai_at ai_m126 264 = some (.iadd, 1) := rfl
theorem at_126_265 : ai_at ai_m126 265 = some (.baload, 1) := rfl
theorem at_126_266 : ai_at ai_m126 266 = some (.ireturn, 1) := rfl
theorem at_126_267 : ai_at ai_m126 267 = some (.iinc 7 1, 3) := rfl
theorem at_126_270 : ai_at ai_m126 270 = some (.goto (-62), 3) := rfl
theorem at_126_273 : ai_at ai_m126 273 = some (.iconst 0, 1) := rfl
theorem at_126_274 : ai_at ai_m126 274 = some (.ireturn, 1) := rfl
theorem at_127_0 : ai_at ai_m127 0 = some (.iconst 0, 1) := rfl
theorem at_127_1 : ai_at ai_m127 1 = some (.istore 4, 2) := rfl
theorem at_127_3 : ai_at ai_m127 3 = some (.iload_n 2, 1) := rfl
theorem at_127_4 : ai_at ai_m127 4 = some (.istore 5, 2) := rfl
theorem at_127_6 : ai_at ai_m127 6 = some (.iload 5, 2) := rfl
theorem at_127_8 : ai_at ai_m127 8 = some (.aload_n 0, 1) := rfl
theorem at_127_9 : ai_at ai_m127 9 = some (.iload_n 1, 1) := rfl
theorem at_127_10 : ai_at ai_m127 10 = some (.iload_n 2, 1) := rfl
theorem at_127_11 : ai_at ai_m127 11 = some (.invokevirtual 116, 3) := rfl
theorem at_127_14 : ai_at ai_m127 14 = some (.if_icmp .ge 37, 3) := rfl
theorem at_127_17 : ai_at ai_m127 17 = some (.iload 4, 2) := rfl
theorem at_127_19 : ai_at ai_m127 19 = some (.ifCond .ne 19, 3) := rfl
theorem at_127_22 : ai_at ai_m127 22 = some (.aload_n 0, 1) := rfl
theorem at_127_23 : ai_at ai_m127 23 = some (.getfield 37, 3) := rfl
theorem at_127_26 : ai_at ai_m127 26 = some (.bipush 64, 2) := rfl
theorem at_127_28 : ai_at ai_m127 28 = some (.iload_n 1, 1) := rfl
theorem at_127_29 : ai_at ai_m127 29 = some (.imul, 1) := rfl
theorem at_127_30 : ai_at ai_m127 30 = some (.iload 5, 2) := rfl
theorem at_127_32 : ai_at ai_m127 32 = some (.iadd, 1) := rfl
theorem at_127_33 : ai_at ai_m127 33 = some (.iaload, 1) := rfl
theorem at_127_34 : ai_at ai_m127 34 = some (.iload_n 3, 1) := rfl
theorem at_127_35 : ai_at ai_m127 35 = some (.if_icmp .ne 7, 3) := rfl
theorem at_127_38 : ai_at ai_m127 38 = some (.iconst 1, 1) := rfl
theorem at_127_39 : ai_at ai_m127 39 = some (.goto 4, 3) := rfl
theorem at_127_42 : ai_at ai_m127 42 = some (.iconst 0, 1) := rfl
theorem at_127_43 : ai_at ai_m127 43 = some (.istore 4, 2) := rfl
theorem at_127_45 : ai_at ai_m127 45 = some (.iinc 5 1, 3) := rfl
theorem at_127_48 : ai_at ai_m127 48 = some (.goto (-42), 3) := rfl
theorem at_127_51 : ai_at ai_m127 51 = some (.iload 4, 2) := rfl
theorem at_127_53 : ai_at ai_m127 53 = some (.ireturn, 1) := rfl
theorem at_128_0 : ai_at ai_m128 0 = some (.iload_n 3, 1) := rfl
theorem at_128_1 : ai_at ai_m128 1 = some (.ifCond .ne 9, 3) := rfl
theorem at_128_4 : ai_at ai_m128 4 = some (.iload_n 2, 1) := rfl
theorem at_128_5 : ai_at ai_m128 5 = some (.iconst 1, 1) := rfl
theorem at_128_6 : ai_at ai_m128 6 = some (.iadd, 1) := rfl
theorem at_128_7 : ai_at ai_m128 7 = some (.goto 11, 3) := rfl
theorem at_128_10 : ai_at ai_m128 10 = some (.aload_n 0, 1) := rfl
theorem at_128_11 : ai_at ai_m128 11 = some (.iload_n 1, 1) := rfl
theorem at_128_12 : ai_at ai_m128 12 = some (.iload_n 2, 1) := rfl
theorem at_128_13 : ai_at ai_m128 13 = some (.iconst 1, 1) := rfl
theorem at_128_14 : ai_at ai_m128 14 = some (.iadd, 1) := rfl
theorem at_128_15 : ai_at ai_m128 15 = some (.invokevirtual 116, 3) := rfl
theorem at_128_18 : ai_at ai_m128 18 = some (.ireturn, 1) := rfl
theorem at_129_0 : ai_at ai_m129 0 = some (.aload_n 0, 1) := rfl
theorem at_129_1 : ai_at ai_m129 1 = some (.iload_n 1, 1) := rfl
theorem at_129_2 : ai_at ai_m129 2 = some (.iload_n 2, 1) := rfl
theorem at_129_3 : ai_at ai_m129 3 = some (.invokevirtual 116, 3) := rfl
theorem at_129_6 : ai_at ai_m129 6 = some (.iload_n 2, 1) := rfl
theorem at_129_7 : ai_at ai_m129 7 = some (.isub, 1) := rfl
theorem at_129_8 : ai_at ai_m129 8 = some (.istore 5, 2) := rfl
theorem at_129_10 : ai_at ai_m129 10 = some (.aload_n 0, 1) := rfl
theorem at_129_11 : ai_at ai_m129 11 = some (.iload_n 3, 1) := rfl
theorem at_129_12 : ai_at ai_m129 12 = some (.iload 4, 2) := rfl
theorem at_129_14 : ai_at ai_m129 14 = some (.invokevirtual 116, 3) := rfl
theorem at_129_17 : ai_at ai_m129 17 = some (.iload 4, 2) := rfl
theorem at_129_19 : ai_at ai_m129 19 = some (.isub, 1) := rfl
theorem at_129_20 : ai_at ai_m129 20 = some (.iload 5, 2) := rfl
theorem at_129_22 : ai_at ai_m129 22 = some (.if_icmp .ne 7, 3) := rfl
theorem at_129_25 : ai_at ai_m129 25 = some (.iconst 1, 1) := rfl
theorem at_129_26 : ai_at ai_m129 26 = some (.goto 4, 3) := rfl
theorem at_129_29 : ai_at ai_m129 29 = some (.iconst 0, 1) := rfl
theorem at_129_30 : ai_at ai_m129 30 = some (.istore 6, 2) := rfl
theorem at_129_32 : ai_at ai_m129 32 = some (.iconst 0, 1) := rfl
theorem at_129_33 : ai_at ai_m129 33 = some (.istore 7, 2) := rfl
theorem at_129_35 : ai_at ai_m129 35 = some (.iload 7, 2) := rfl
theorem at_129_37 : ai_at ai_m129 37 = some (.iload 5, 2) := rfl
theorem at_129_39 : ai_at ai_m129 39 = some (.if_icmp .ge 53, 3) := rfl
theorem at_129_42 : ai_at ai_m129 42 = some (.iload 6, 2) := rfl
theorem at_129_44 : ai_at ai_m129 44 = some (.ifCond .eq 48, 3) := rfl
theorem at_129_47 : ai_at ai_m129 47 = some (.aload_n 0, 1) := rfl
theorem at_129_48 : ai_at ai_m129 48 = some (.getfield 37, 3) := rfl
theorem at_129_51 : ai_at ai_m129 51 = some (.bipush 64, 2) := rfl
theorem at_129_53 : ai_at ai_m129 53 = some (.iload_n 1, 1) := rfl
theorem at_129_54 : ai_at ai_m129 54 = some (.imul, 1) := rfl
theorem at_129_55 : ai_at ai_m129 55 = some (.iload_n 2, 1) := rfl
theorem at_129_56 : ai_at ai_m129 56 = some (.iadd, 1) := rfl
theorem at_129_57 : ai_at ai_m129 57 = some (.iload 7, 2) := rfl
theorem at_129_59 : ai_at ai_m129 59 = some (.iadd, 1) := rfl
theorem at_129_60 : ai_at ai_m129 60 = some (.iaload, 1) := rfl
theorem at_129_61 : ai_at ai_m129 61 = some (.aload_n 0, 1) := rfl
theorem at_129_62 : ai_at ai_m129 62 = some (.getfield 37, 3) := rfl
theorem at_129_65 : ai_at ai_m129 65 = some (.bipush 64, 2) := rfl
theorem at_129_67 : ai_at ai_m129 67 = some (.iload_n 3, 1) := rfl
theorem at_129_68 : ai_at ai_m129 68 = some (.imul, 1) := rfl
theorem at_129_69 : ai_at ai_m129 69 = some (.iload 4, 2) := rfl
theorem at_129_71 : ai_at ai_m129 71 = some (.iadd, 1) := rfl
theorem at_129_72 : ai_at ai_m129 72 = some (.iload 7, 2) := rfl
theorem at_129_74 : ai_at ai_m129 74 = some (.iadd, 1) := rfl
theorem at_129_75 : ai_at ai_m129 75 = some (.iaload, 1) := rfl
theorem at_129_76 : ai_at ai_m129 76 = some (.if_icmp .ne 7, 3) := rfl
theorem at_129_79 : ai_at ai_m129 79 = some (.iconst 1, 1) := rfl
theorem at_129_80 : ai_at ai_m129 80 = some (.goto 4, 3) := rfl
theorem at_129_83 : ai_at ai_m129 83 = some (.iconst 0, 1) := rfl
theorem at_129_84 : ai_at ai_m129 84 = some (.istore 6, 2) := rfl
theorem at_129_86 : ai_at ai_m129 86 = some (.iinc 7 1, 3) := rfl
theorem at_129_89 : ai_at ai_m129 89 = some (.goto (-54), 3) := rfl
theorem at_129_92 : ai_at ai_m129 92 = some (.iload 6, 2) := rfl
theorem at_129_94 : ai_at ai_m129 94 = some (.ireturn, 1) := rfl
theorem fl_12_13 : ai_fld 12 13 = some (11, 2, false) := by decide +kernel
theorem fl_12_64 : ai_fld 12 64 = some (11, 26, false) := by decide +kernel
theorem mt_12_134 : ai_mth 12 134 = some (0, 127, 3, 11) := by decide +kernel
theorem mt_12_137 : ai_mth 12 137 = some (0, 128, 3, 11) := by decide +kernel
theorem mt_12_141 : ai_mth 12 141 = some (0, 129, 4, 11) := by decide +kernel
theorem mt_12_144 : ai_mth 12 144 = some (0, 126, 4, 11) := by decide +kernel
set_option maxHeartbeats 4000000 in
theorem r_m_part {t i k : Nat} {w : List Int} (h : mst S T D n rc wt kp sx sc F B) (hpk : mpk A F) (hx : xr (F 9)) (hw : mwd (F 9) (F 10) t w) (hkw : al (kn (F 0) 129) w) (hwl : w.length ≤ 24) (ht : t < 3) (hN : ts A 1 w) (hk2 : k < 3) (hi : k ≠ 0 → i + 1 < w.length) (hi2 : i < 100) : ai_rn L xs (d + 3) 128 [.ref 432, ax_i (t : Nat), ax_i (i : Nat), ax_i (k : Nat)] S (fun v S' => S' = S ∧ v = some (ax_i (chw A w i k : Nat))) := by
  have ho := h.1
  refine ai_rn_of (M := ai_m128) rfl (by decide) (Nat.le_of_ble_eq_true rfl) ?_
  refine aw_loc at_128_0 rfl rfl ?_
  by_cases hk : k = 0
  · skip
    subst hk
    refine ax_if_ne at_128_1 ⟨by decide, by decide⟩ (fun y => absurd rfl y) (fun _ => ?_)
    refine aw_loc at_128_4 rfl rfl ?_
    refine aw_pure (st' := ax_i (1) :: _) at_128_5 rfl rfl ?_
    refine ax_add at_128_6 rfl ?_
    refine aw_goto at_128_7 ?_
    exact ax_ret at_128_18 rfl ⟨_, _, rfl, rfl, by show some (ax_i ((i : Int) + 1)) = some (ax_i ((i + 1 : Nat) : Int)); rw [Int.natCast_add]; rfl⟩
  · skip
    refine ax_if_ne at_128_1 ⟨by omega, by omega⟩ (fun _ => ?_) (fun y => absurd y (by omega))
    refine aw_loc at_128_10 rfl rfl ?_
    refine aw_loc at_128_11 rfl rfl ?_
    refine aw_loc at_128_12 rfl rfl ?_
    refine aw_pure (st' := ax_i (1) :: _) at_128_13 rfl rfl ?_
    refine ax_add at_128_14 rfl ?_
    rw [show (i : Int) + 1 = ((i + 1 : Nat) : Int) by omega]
    refine aw_cv (a := 432) [ax_i (t : Nat), ax_i ((i + 1 : Nat) : Int)] [] at_128_15 mt_12_116 (Or.inl rfl) rfl rfl (Nat.le_of_ble_eq_true rfl) ⟨_, ho⟩ ((r_m_endw (A := A) (N := 1) h hpk.1 hpk.2 hx (mwd_cw hw (by omega)) hkw hN (hi hk) (by omega) (by omega)).mono ?_)
    rintro v S0 ⟨hS, rfl⟩
    have hS2 := hS.symm
    subst hS2
    exact ax_ret at_128_18 rfl ⟨_, _, rfl, rfl, by rw [show chw A w i k = i + 1 + tl A 1 (w.drop (i + 1)) from if_neg hk]⟩
set_option maxHeartbeats 8000000 in
theorem r_m_comes1 {t i : Nat} {w : List Int} {g : Int} (h : mst S T D n rc wt kp sx sc F B) (hpk : mpk A F) (hx : xr (F 9)) (hw : mwd (F 9) (F 10) t w) (hkw : al (kn (F 0) 129) w) (hwl : w.length ≤ 24) (ht : t < 2) (hN : ts A 1 w) (hi : i < w.length) (hg : kn (F 0) 129 g) : ∀ (m k : Nat) (s9 : Int), (k + m = i + tl A 1 (w.drop i) ∧ i ≤ k) → bz s9 (∃ x, i ≤ x ∧ x < k ∧ w.getD x 0 = g) → ai_aw L xs (d + 2) ai_m127 (fun (o : ai_O) => ∃ v S', o = (.inl v, S') ∧ S' = S ∧ ∃ z, v = some (ax_i z) ∧ bz z (g ∈ sb A w i)) (6, [some (.ref 432), some (ax_i (t : Nat)), some (ax_i (i : Nat)), some (ax_i (co g)), some (ax_i s9), some (ax_i (k : Nat))], [], S) := by
  have ho := h.1
  have r9 : ai_arr S 442 0 = some (192, ax_f (F 9)) := h.2.1 9 (by decide)
  have htl := tl_le (A := A) (w.drop i) 1
  rw [List.length_drop] at htl
  have hsb := sb_sl (A := A) (p := i) (T := fun x => w.getD x 0) (w := w) (fun x _ => rfl)
  have hgc := co_in hg
  intro m
  induction m with
  | zero =>
    intro k s9 hk hs9
    have hs99 := hs9.le
    have hke : k = i + tl A 1 (w.drop i) := by omega
    refine aw_loc at_127_6 rfl rfl ?_
    refine aw_loc at_127_8 rfl rfl ?_
    refine aw_loc at_127_9 rfl rfl ?_
    refine aw_loc at_127_10 rfl rfl ?_
    refine aw_cv (a := 432) [ax_i (t : Nat), ax_i (i : Nat)] [ax_i (k : Nat)] at_127_11 mt_12_116 (Or.inl rfl) rfl rfl (Nat.le_of_ble_eq_true rfl) ⟨_, ho⟩ ((r_m_endw (A := A) (N := 1) h hpk.1 hpk.2 hx (mwd_cw hw (by omega)) hkw hN hi (by omega) (by omega)).mono ?_)
    rintro v S0 ⟨hS, rfl⟩
    have hS2 := hS.symm
    subst hS2
    refine ax_icmp_ge at_127_14 ⟨by omega, by omega⟩ ⟨by omega, by omega⟩ (fun _ => ?_) (fun z => absurd z (by omega))
    show ai_aw L xs (d + 2) ai_m127 _ (51, _, _, _)
    refine aw_loc at_127_51 rfl rfl ?_
    rw [hke] at hs9
    have hin : (∃ x, i ≤ x ∧ x < i + tl A 1 (w.drop i) ∧ w.getD x 0 = g) ↔ g ∈ sb A w i := by
      rw [hsb]
      constructor
      · rintro ⟨x, a, b, e⟩; rw [← e]; exact List.mem_map.2 ⟨x - i, List.mem_range.2 (by omega), by show w.getD (i + (x - i)) 0 = _; rw [show i + (x - i) = x by omega]⟩
      · intro hg2; obtain ⟨y, a, b⟩ := sl_mem hg2; exact ⟨i + y, by omega, by omega, b.symm⟩
    exact ax_retZ at_127_53 rfl hs99 ⟨_, _, rfl, rfl, s9, rfl, hs9.imp (fun g2 => ⟨g2.1, fun g3 => g2.2 (hin.2 g3)⟩) (fun g2 => ⟨g2.1, hin.1 g2.2⟩)⟩
  | succ m ih =>
    intro k s9 hk hs9
    have hs99 := hs9.le
    have hkw9 : k < w.length := by omega
    have hXk := mw_at hw hwl hkw9
    have hkn := kn_at hkw hkw9
    have hcn := co_in hkn
    have knx : ∀ s' : Int, bz s' (∃ x, i ≤ x ∧ x < k + 1 ∧ w.getD x 0 = g) → ai_aw L xs (d + 2) ai_m127 (fun (o : ai_O) => ∃ v S', o = (.inl v, S') ∧ S' = S ∧ ∃ z, v = some (ax_i z) ∧ bz z (g ∈ sb A w i)) (43, [some (.ref 432), some (ax_i (t : Nat)), some (ax_i (i : Nat)), some (ax_i (co g)), some (ax_i s9), some (ax_i (k : Nat))], [ax_i s'], S) := by
      intro s' hs'
      refine aw_loc at_127_43 rfl rfl ?_
      refine ax_inc at_127_45 rfl rfl rfl ?_
      refine aw_goto at_127_48 ?_
      have := ih (k + 1) s' (by omega) hs'
      rw [Int.natCast_add] at this
      exact this
    refine aw_loc at_127_6 rfl rfl ?_
    refine aw_loc at_127_8 rfl rfl ?_
    refine aw_loc at_127_9 rfl rfl ?_
    refine aw_loc at_127_10 rfl rfl ?_
    refine aw_cv (a := 432) [ax_i (t : Nat), ax_i (i : Nat)] [ax_i (k : Nat)] at_127_11 mt_12_116 (Or.inl rfl) rfl rfl (Nat.le_of_ble_eq_true rfl) ⟨_, ho⟩ ((r_m_endw (A := A) (N := 1) h hpk.1 hpk.2 hx (mwd_cw hw (by omega)) hkw hN hi (by omega) (by omega)).mono ?_)
    rintro v S0 ⟨hS, rfl⟩
    have hS2 := hS.symm
    subst hS2
    refine ax_icmp_ge at_127_14 ⟨by omega, by omega⟩ ⟨by omega, by omega⟩ (fun z => absurd z (by omega)) (fun _ => ?_)
    refine aw_loc at_127_17 rfl rfl ?_
    refine ax_if_ne at_127_19 ⟨by omega, by omega⟩ (fun y => ?_) (fun y => ?_)
    · skip
      obtain ⟨x, a, b, e⟩ := (hs9.resolve_left (fun g => y g.1)).2
      refine aw_pure (st' := ax_i (1) :: _) at_127_38 rfl rfl ?_
      refine aw_goto at_127_39 ?_
      exact knx 1 (Or.inr ⟨rfl, x, a, by omega, e⟩)
    · skip
      have hno := (hs9.resolve_right (fun g => by have := g.1; omega)).2
      refine aw_loc at_127_22 rfl rfl ?_
      refine aw_get at_127_23 rfl fl_12_37 ho rfl ?_
      refine aw_pure (st' := ax_i (64) :: _) at_127_26 rfl rfl ?_
      refine aw_loc at_127_28 rfl rfl ?_
      refine ax_mul at_127_29 rfl ?_
      refine aw_loc at_127_30 rfl rfl ?_
      refine ax_add at_127_32 rfl ?_
      refine ax_ild at_127_33 rfl r9 (k := 64 * t + k) (by omega) (by omega) (by decide) ?_
      rw [hXk]
      refine aw_loc at_127_34 rfl rfl ?_
      refine ax_icmp_ne at_127_35 ⟨by omega, by omega⟩ ⟨by omega, by omega⟩ (fun u => ?_) (fun u => ?_)
      · skip
        refine aw_pure (st' := ax_i (0) :: _) at_127_42 rfl rfl ?_
        exact knx 0 (Or.inl ⟨rfl, fun ⟨x, a, b, e⟩ => by by_cases e2 : x = k; exact u (by rw [← e, e2]); exact hno ⟨x, a, by omega, e⟩⟩)
      · skip
        refine aw_pure (st' := ax_i (1) :: _) at_127_38 rfl rfl ?_
        refine aw_goto at_127_39 ?_
        exact knx 1 (Or.inr ⟨rfl, k, by omega, by omega, co_inj hkn hg u⟩)
theorem r_m_comes {t i : Nat} {w : List Int} {g : Int} (h : mst S T D n rc wt kp sx sc F B) (hpk : mpk A F) (hx : xr (F 9)) (hw : mwd (F 9) (F 10) t w) (hkw : al (kn (F 0) 129) w) (hwl : w.length ≤ 24) (ht : t < 2) (hN : ts A 1 w) (hi : i < w.length) (hg : kn (F 0) 129 g) : ai_rn L xs (d + 3) 127 [.ref 432, ax_i (t : Nat), ax_i (i : Nat), ax_i (co g)] S (fun v S' => S' = S ∧ ∃ z, v = some (ax_i z) ∧ bz z (g ∈ sb A w i)) := by
  refine ai_rn_of (M := ai_m127) rfl (by decide) (Nat.le_of_ble_eq_true rfl) ?_
  refine aw_pure (st' := ax_i (0) :: _) at_127_0 rfl rfl ?_
  refine aw_loc at_127_1 rfl rfl ?_
  refine aw_loc at_127_3 rfl rfl ?_
  refine aw_loc at_127_4 rfl rfl ?_
  exact r_m_comes1 h hpk hx hw hkw hwl ht hN hi hg (tl A 1 (w.drop i)) i 0 ⟨by omega, Nat.le_refl _⟩ (Or.inl ⟨rfl, fun ⟨x, a, b, _⟩ => by omega⟩)
set_option maxHeartbeats 8000000 in
theorem r_m_samep1 {t s i j : Nat} (h : mst S T D n rc wt kp sx sc F B) (hm : mow A F t s w1 w2) (hi : i < w1.length) (hj : j < w2.length) : ∀ (m k : Nat) (s9 : Int), k + m = tl A 1 (w1.drop i) → bz s9 (tl A 1 (w2.drop j) = tl A 1 (w1.drop i) ∧ ∀ x, x < k → F 9 (64 * t + i + x) = F 9 (64 * s + j + x)) → ai_aw L xs (d + 2) ai_m129 (fun (o : ai_O) => ∃ v S', o = (.inl v, S') ∧ S' = S ∧ ∃ z, v = some (ax_i z) ∧ bz z (sb A w1 i = sb A w2 j)) (35, [some (.ref 432), some (ax_i (t : Nat)), some (ax_i (i : Nat)), some (ax_i (s : Nat)), some (ax_i (j : Nat)), some (ax_i (tl A 1 (w1.drop i) : Nat)), some (ax_i s9), some (ax_i (k : Nat))], [], S) := by
  have hm0 := hm
  obtain ⟨hpk, hx, ⟨m1, m2⟩, ⟨l1, l2⟩, ⟨k1, k2⟩, ⟨t1, t2⟩, ⟨ht, hs⟩, hA2⟩ := hm
  have ho := h.1
  have r9 : ai_arr S 442 0 = some (192, ax_f (F 9)) := h.2.1 9 (by decide)
  have b1 := tl_le (A := A) (w1.drop i) 1
  have b2 := tl_le (A := A) (w2.drop j) 1
  rw [List.length_drop] at b1 b2
  have hfin : (tl A 1 (w2.drop j) = tl A 1 (w1.drop i) ∧ ∀ x, x < tl A 1 (w1.drop i) → F 9 (64 * t + i + x) = F 9 (64 * s + j + x)) ↔ sb A w1 i = sb A w2 j := by
    have e1 := sb_sl (A := A) (p := i) (T := fun x => w1.getD x 0) (w := w1) (fun x _ => rfl)
    have e2 := sb_sl (A := A) (p := j) (T := fun x => w2.getD x 0) (w := w2) (fun x _ => rfl)
    rw [e1, e2]
    constructor
    · rintro ⟨hl, g⟩; rw [hl]; refine List.map_congr_left fun x hx2 => ?_; have hx3 := List.mem_range.1 hx2; have := g x hx3; rw [Nat.add_assoc, Nat.add_assoc, mw_at m1 l1 (show i + x < w1.length by omega), mw_at m2 l2 (show j + x < w2.length by omega)] at this; exact co_inj (kn_at k1 (by omega)) (kn_at k2 (by omega)) this
    · intro g; have hl := congrArg List.length g; rw [sl_len, sl_len] at hl; refine ⟨hl.symm, fun x hx2 => ?_⟩; rw [← hl] at g; have e3 := congrArg (fun l => l.getD x 0) g; simp only [sl_get _ _ _ _ hx2] at e3; rw [Nat.add_assoc, Nat.add_assoc, mw_at m1 l1 (show i + x < w1.length by omega), mw_at m2 l2 (show j + x < w2.length by omega)]; exact congrArg co e3
  have kend : ∀ (s9 : Int) (k : Nat), bz s9 (sb A w1 i = sb A w2 j) → ai_aw L xs (d + 2) ai_m129 (fun (o : ai_O) => ∃ v S', o = (.inl v, S') ∧ S' = S ∧ ∃ z, v = some (ax_i z) ∧ bz z (sb A w1 i = sb A w2 j)) (92, [some (.ref 432), some (ax_i (t : Nat)), some (ax_i (i : Nat)), some (ax_i (s : Nat)), some (ax_i (j : Nat)), some (ax_i (tl A 1 (w1.drop i) : Nat)), some (ax_i s9), some (ax_i (k : Nat))], [], S) := by
    intro s9 k hs9
    refine aw_loc at_129_92 rfl rfl ?_
    exact ax_retZ at_129_94 rfl hs9.le ⟨_, _, rfl, rfl, s9, rfl, hs9⟩
  intro m
  induction m with
  | zero =>
    intro k s9 hk hs9
    obtain rfl : k = tl A 1 (w1.drop i) := by omega
    refine aw_loc at_129_35 rfl rfl ?_
    refine aw_loc at_129_37 rfl rfl ?_
    refine ax_icmp_ge at_129_39 ⟨by omega, by omega⟩ ⟨by omega, by omega⟩ (fun _ => kend s9 _ (hs9.imp (fun g => ⟨g.1, fun g2 => g.2 (hfin.2 g2)⟩) (fun g => ⟨g.1, hfin.1 g.2⟩))) (fun z => absurd z (by omega))
  | succ m ih =>
    intro k s9 hk hs9
    have hs99 := hs9.le
    have x1 := hx (64 * t + i + k)
    have x2 := hx (64 * s + j + k)
    refine aw_loc at_129_35 rfl rfl ?_
    refine aw_loc at_129_37 rfl rfl ?_
    refine ax_icmp_ge at_129_39 ⟨by omega, by omega⟩ ⟨by omega, by omega⟩ (fun z => absurd z (by omega)) (fun _ => ?_)
    refine aw_loc at_129_42 rfl rfl ?_
    refine ax_if_eq at_129_44 ⟨by omega, by omega⟩ (fun z => kend s9 _ (Or.inl ⟨z, fun g => (hs9.resolve_right (fun g => by have := g.1; omega)).2 ⟨(hfin.2 g).1, fun x hx2 => (hfin.2 g).2 x (by omega)⟩⟩)) (fun z => ?_)
    have hp := (hs9.resolve_left (fun g => z g.1)).2
    have knx : ∀ s' : Int, bz s' (tl A 1 (w2.drop j) = tl A 1 (w1.drop i) ∧ ∀ x, x < k + 1 → F 9 (64 * t + i + x) = F 9 (64 * s + j + x)) → ai_aw L xs (d + 2) ai_m129 (fun (o : ai_O) => ∃ v S', o = (.inl v, S') ∧ S' = S ∧ ∃ z, v = some (ax_i z) ∧ bz z (sb A w1 i = sb A w2 j)) (84, [some (.ref 432), some (ax_i (t : Nat)), some (ax_i (i : Nat)), some (ax_i (s : Nat)), some (ax_i (j : Nat)), some (ax_i (tl A 1 (w1.drop i) : Nat)), some (ax_i s9), some (ax_i (k : Nat))], [ax_i s'], S) := by
      intro s' hs'
      refine aw_loc at_129_84 rfl rfl ?_
      refine ax_inc at_129_86 rfl rfl rfl ?_
      refine aw_goto at_129_89 ?_
      have := ih (k + 1) s' (by omega) hs'
      rw [Int.natCast_add] at this
      exact this
    refine aw_loc at_129_47 rfl rfl ?_
    refine aw_get at_129_48 rfl fl_12_37 ho rfl ?_
    refine aw_pure (st' := ax_i (64) :: _) at_129_51 rfl rfl ?_
    refine aw_loc at_129_53 rfl rfl ?_
    refine ax_mul at_129_54 rfl ?_
    refine aw_loc at_129_55 rfl rfl ?_
    refine ax_add at_129_56 rfl ?_
    refine aw_loc at_129_57 rfl rfl ?_
    refine ax_add at_129_59 rfl ?_
    refine ax_ild at_129_60 rfl r9 (k := 64 * t + i + k) (by omega) (by omega) (by decide) ?_
    refine aw_loc at_129_61 rfl rfl ?_
    refine aw_get at_129_62 rfl fl_12_37 ho rfl ?_
    refine aw_pure (st' := ax_i (64) :: _) at_129_65 rfl rfl ?_
    refine aw_loc at_129_67 rfl rfl ?_
    refine ax_mul at_129_68 rfl ?_
    refine aw_loc at_129_69 rfl rfl ?_
    refine ax_add at_129_71 rfl ?_
    refine aw_loc at_129_72 rfl rfl ?_
    refine ax_add at_129_74 rfl ?_
    refine ax_ild at_129_75 rfl r9 (k := 64 * s + j + k) (by omega) (by omega) (by decide) ?_
    refine ax_icmp_ne at_129_76 ⟨by omega, by omega⟩ ⟨by omega, by omega⟩ (fun y => ?_) (fun y => ?_)
    · skip
      refine aw_pure (st' := ax_i (0) :: _) at_129_83 rfl rfl ?_
      exact knx 0 (Or.inl ⟨rfl, fun g => y (g.2 k (by omega))⟩)
    · skip
      refine aw_pure (st' := ax_i (1) :: _) at_129_79 rfl rfl ?_
      refine aw_goto at_129_80 ?_
      exact knx 1 (Or.inr ⟨rfl, hp.1, fun x hx2 => by by_cases e : x = k; rw [e]; exact y; exact hp.2 x (by omega)⟩)
set_option maxHeartbeats 8000000 in
theorem r_m_samep {t s i j : Nat} (h : mst S T D n rc wt kp sx sc F B) (hm : mow A F t s w1 w2) (hi : i < w1.length) (hj : j < w2.length) : ai_rn L xs (d + 3) 129 [.ref 432, ax_i (t : Nat), ax_i (i : Nat), ax_i (s : Nat), ax_i (j : Nat)] S (fun v S' => S' = S ∧ ∃ z, v = some (ax_i z) ∧ bz z (sb A w1 i = sb A w2 j)) := by
  have hm0 := hm
  obtain ⟨hpk, hx, ⟨m1, m2⟩, ⟨l1, l2⟩, ⟨k1, k2⟩, ⟨t1, t2⟩, ⟨ht, hs⟩, hA2⟩ := hm
  have ho := h.1
  have b1 := tl_le (A := A) (w1.drop i) 1
  have b2 := tl_le (A := A) (w2.drop j) 1
  rw [List.length_drop] at b1 b2
  refine ai_rn_of (M := ai_m129) rfl (by decide) (Nat.le_of_ble_eq_true rfl) ?_
  refine aw_loc at_129_0 rfl rfl ?_
  refine aw_loc at_129_1 rfl rfl ?_
  refine aw_loc at_129_2 rfl rfl ?_
  refine aw_cv (a := 432) [ax_i (t : Nat), ax_i (i : Nat)] [] at_129_3 mt_12_116 (Or.inl rfl) rfl rfl (Nat.le_of_ble_eq_true rfl) ⟨_, ho⟩ ((r_m_endw (A := A) (N := 1) h hpk.1 hpk.2 hx (mwd_cw m1 (by omega)) k1 t1 hi (by omega) (by omega)).mono ?_)
  rintro v S0 ⟨hS, rfl⟩
  have hS2 := hS.symm
  subst hS2
  refine aw_loc at_129_6 rfl rfl ?_
  refine ax_sub at_129_7 rfl ?_
  rw [show ((i + tl A 1 (w1.drop i) : Nat) : Int) - (i : Int) = ((tl A 1 (w1.drop i) : Nat) : Int) by omega]
  refine aw_loc at_129_8 rfl rfl ?_
  refine aw_loc at_129_10 rfl rfl ?_
  refine aw_loc at_129_11 rfl rfl ?_
  refine aw_loc at_129_12 rfl rfl ?_
  refine aw_cv (a := 432) [ax_i (s : Nat), ax_i (j : Nat)] [] at_129_14 mt_12_116 (Or.inl rfl) rfl rfl (Nat.le_of_ble_eq_true rfl) ⟨_, ho⟩ ((r_m_endw (A := A) (N := 1) h hpk.1 hpk.2 hx (mwd_cw m2 (by omega)) k2 t2 hj (by omega) (by omega)).mono ?_)
  rintro v S0 ⟨hS, rfl⟩
  have hS2 := hS.symm
  subst hS2
  refine aw_loc at_129_17 rfl rfl ?_
  refine ax_sub at_129_19 rfl ?_
  refine aw_loc at_129_20 rfl rfl ?_
  have kin : ∀ s9 : Int, bz s9 (tl A 1 (w2.drop j) = tl A 1 (w1.drop i)) → ai_aw L xs (d + 2) ai_m129 (fun (o : ai_O) => ∃ v S', o = (.inl v, S') ∧ S' = S ∧ ∃ z, v = some (ax_i z) ∧ bz z (sb A w1 i = sb A w2 j)) (30, [some (.ref 432), some (ax_i (t : Nat)), some (ax_i (i : Nat)), some (ax_i (s : Nat)), some (ax_i (j : Nat)), some (ax_i (tl A 1 (w1.drop i) : Nat)), none, none], [ax_i s9], S) := by
    intro s9 hs9
    refine aw_loc at_129_30 rfl rfl ?_
    refine aw_pure (st' := ax_i (0) :: _) at_129_32 rfl rfl ?_
    refine aw_loc at_129_33 rfl rfl ?_
    exact r_m_samep1 h hm0 hi hj (tl A 1 (w1.drop i)) 0 s9 (by omega) (hs9.imp (fun g => ⟨g.1, fun g2 => g.2 g2.1⟩) (fun g => ⟨g.1, g.2, fun x hx2 => by omega⟩))
  refine ax_icmp_ne at_129_22 ⟨by omega, by omega⟩ ⟨by omega, by omega⟩ (fun y => ?_) (fun y => ?_)
  · skip
    refine aw_pure (st' := ax_i (0) :: _) at_129_29 rfl rfl ?_
    exact kin 0 (Or.inl ⟨rfl, fun g => y (by omega)⟩)
  · skip
    refine aw_pure (st' := ax_i (1) :: _) at_129_25 rfl rfl ?_
    refine aw_goto at_129_26 ?_
    exact kin 1 (Or.inr ⟨rfl, by omega⟩)
/-- an entry of the reference's table is right -/
def mtb (A : Int → Nat) (R : Int → Int) (w1 w2 : List Int) (B : Nat → Int) (i j : Nat) : Prop := B (24 * i + j) = 1 ↔ pgt A R (sb A w1 i) (sb A w2 j)
theorem chw_lt {i k : Nat} {w : List Int} (hA2 : ∀ c, A c ≤ 2) (hN : ts A 1 w) (hi : i < w.length) (hk : k < A (w.getD i 0)) : chw A w i k < w.length ∧ i < chw A w i k ∧ (k ≠ 0 → i + 1 < w.length) := by
  have h1 := (word_ch hA2 hN hi).1 k hk
  have h0 : chw A w i 0 < w.length := (word_ch hA2 hN hi).1 0 (by omega)
  refine ⟨h1, ?_, fun _ => h0⟩
  by_cases hz : k = 0
  · subst hz; show i < i + 1; omega
  · rw [show chw A w i k = i + 1 + tl A 1 (w.drop (i + 1)) from if_neg hz]; omega
set_option maxHeartbeats 40000000 in
theorem r_m_above {t s i j : Nat} (h : mst S T D n rc wt kp sx sc F B) (hm : mow A F t s w1 w2) (hi : i < w1.length) (hj : j < w2.length) (hrk : mrk F R) (htb : ∀ p q, (i < p ∨ (p = i ∧ j < q)) → p < w1.length → q < w2.length → mtb A R w1 w2 B p q) : ai_rn L xs (d + 5) 126 [.ref 432, ax_i (t : Nat), ax_i (i : Nat), ax_i (s : Nat), ax_i (j : Nat)] S (fun v S' => S' = S ∧ ∃ z, v = some (ax_i z) ∧ bz z (pgt A R (sb A w1 i) (sb A w2 j))) := by
  have hm0 := hm
  obtain ⟨hpk, hx, ⟨m1, m2⟩, ⟨l1, l2⟩, ⟨k1, k2⟩, ⟨t1, t2⟩, ⟨ht, hs⟩, hA2⟩ := hm
  have ho := h.1
  have r0 : ai_arr S 433 0 = some (8, ax_f (F 0)) := h.2.1 0 (by decide)
  have r1 : ai_arr S 434 0 = some (8, ax_f (F 1)) := h.2.1 1 (by decide)
  have r9 : ai_arr S 442 0 = some (192, ax_f (F 9)) := h.2.1 9 (by decide)
  have rB := h.2.2.1
  have hB := h.2.2.2
  have hA := hpk.2.2
  have hc1 := mw_at m1 l1 hi
  have hc2 := mw_at m2 l2 hj
  have hk1 := kn_at k1 hi
  have hk2 := kn_at k2 hj
  have hn1 := co_in hk1
  have hn2 := co_in hk2
  have hL1 := kn_lt hk1
  have hL2 := kn_lt hk2
  have ha1 := ar_co hpk.2 hk1
  have ha2 := ar_co hpk.2 hk2
  have hw1 := hA2 (w1.getD i 0)
  have hw2 := hA2 (w2.getD j 0)
  have hpg : (pgt A R (sb A w1 i) (sb A w2 j)) ↔ mup A R w1 w2 i j ∨ (w1.getD i 0 < 117 ∧ w2.getD j 0 < 117 ∧ (∀ k, k < A (w2.getD j 0) → pgt A R (sb A w1 i) (sb A w2 (chw A w2 j k))) ∧ (if w1.getD i 0 = w2.getD j 0 then fdf (pgt A R) ((List.range' 0 (A (w1.getD i 0))).map fun k => sb A w1 (chw A w1 i k)) ((List.range' 0 (A (w2.getD j 0))).map fun k => sb A w2 (chw A w2 j k)) else R (w2.getD j 0) < R (w1.getD i 0))) := pgt_ch (R := R) hA2 hi hj
  have hch1 := fun k hk => chw_lt (A := A) hA2 t1 hi (k := k) hk
  have hch2 := fun k hk => chw_lt (A := A) hA2 t2 hj (k := k) hk
  have kdif : w1.getD i 0 = w2.getD j 0 → ∀ (m k : Nat) (x8 x9 : Option Value), k + m = A (w1.getD i 0) → ((pgt A R (sb A w1 i) (sb A w2 j)) ↔ fdf (pgt A R) ((List.range' k m).map fun k => sb A w1 (chw A w1 i k)) ((List.range' k m).map fun k => sb A w2 (chw A w2 j k))) → ai_aw L xs (d + 4) ai_m126 (fun (o : ai_O) => ∃ v S', o = (.inl v, S') ∧ S' = S ∧ ∃ z, v = some (ax_i z) ∧ bz z (pgt A R (sb A w1 i) (sb A w2 j))) (208, [some (.ref 432), some (ax_i (t : Nat)), some (ax_i (i : Nat)), some (ax_i (s : Nat)), some (ax_i (j : Nat)), some (ax_i (co (w1.getD i 0))), some (ax_i (co (w2.getD j 0))), some (ax_i (k : Nat)), x8, x9], [], S) := by
    intro hce m
    have hAe : A (w2.getD j 0) = A (w1.getD i 0) := by rw [hce]
    induction m with
    | zero =>
      intro k x8 x9 hk hfd
      refine aw_loc at_126_208 rfl rfl ?_
      refine aw_loc at_126_210 rfl rfl ?_
      refine aw_loc at_126_211 rfl rfl ?_
      refine aw_cv (a := 432) [ax_i (co (w1.getD i 0))] [ax_i (k : Nat)] at_126_213 mt_12_96 (Or.inl rfl) rfl rfl (Nat.le_of_ble_eq_true rfl) ⟨_, ho⟩ ((r_m_places ho r0 (by omega)).mono ?_)
      rintro v S0 ⟨hS, rfl⟩
      have hS2 := hS.symm
      subst hS2
      rw [ha1]
      refine ax_icmp_ge at_126_216 ⟨by omega, by omega⟩ ⟨by omega, by omega⟩ (fun _ => ?_) (fun z => absurd z (by omega))
      show ai_aw L xs (d + 4) ai_m126 _ (273, _, _, _)
      refine aw_pure (st' := ax_i (0) :: _) at_126_273 rfl rfl ?_
      exact ax_retZ at_126_274 rfl (Or.inl rfl) ⟨_, _, rfl, rfl, 0, rfl, Or.inl ⟨rfl, fun g => hfd.1 g⟩⟩
    | succ m ih =>
      intro k x8 x9 hk hfd
      have q1 := hch1 k (by omega)
      have q2 := hch2 k (by omega)
      rw [fdf_rg] at hfd
      refine aw_loc at_126_208 rfl rfl ?_
      refine aw_loc at_126_210 rfl rfl ?_
      refine aw_loc at_126_211 rfl rfl ?_
      refine aw_cv (a := 432) [ax_i (co (w1.getD i 0))] [ax_i (k : Nat)] at_126_213 mt_12_96 (Or.inl rfl) rfl rfl (Nat.le_of_ble_eq_true rfl) ⟨_, ho⟩ ((r_m_places ho r0 (by omega)).mono ?_)
      rintro v S0 ⟨hS, rfl⟩
      have hS2 := hS.symm
      subst hS2
      rw [ha1]
      refine ax_icmp_ge at_126_216 ⟨by omega, by omega⟩ ⟨by omega, by omega⟩ (fun z => absurd z (by omega)) (fun _ => ?_)
      refine aw_loc at_126_219 rfl rfl ?_
      refine aw_loc at_126_220 rfl rfl ?_
      refine aw_loc at_126_221 rfl rfl ?_
      refine aw_loc at_126_222 rfl rfl ?_
      refine aw_cv (a := 432) [ax_i (t : Nat), ax_i (i : Nat), ax_i (k : Nat)] [] at_126_224 mt_12_137 (Or.inl rfl) rfl rfl (Nat.le_of_ble_eq_true rfl) ⟨_, ho⟩ ((r_m_part (d := d + 1) h hpk hx m1 k1 l1 (by omega) t1 (by omega) q1.2.2 (by omega)).mono ?_)
      rintro v S0 ⟨hS, rfl⟩
      have hS2 := hS.symm
      subst hS2
      refine aw_loc at_126_227 rfl rfl ?_
      refine aw_loc at_126_229 rfl rfl ?_
      refine aw_loc at_126_230 rfl rfl ?_
      refine aw_loc at_126_231 rfl rfl ?_
      refine aw_loc at_126_233 rfl rfl ?_
      refine aw_cv (a := 432) [ax_i (s : Nat), ax_i (j : Nat), ax_i (k : Nat)] [] at_126_235 mt_12_137 (Or.inl rfl) rfl rfl (Nat.le_of_ble_eq_true rfl) ⟨_, ho⟩ ((r_m_part (d := d + 1) h hpk hx m2 k2 l2 (by omega) t2 (by omega) q2.2.2 (by omega)).mono ?_)
      rintro v S0 ⟨hS, rfl⟩
      have hS2 := hS.symm
      subst hS2
      refine aw_loc at_126_238 rfl rfl ?_
      refine aw_loc at_126_240 rfl rfl ?_
      refine aw_loc at_126_241 rfl rfl ?_
      refine aw_loc at_126_242 rfl rfl ?_
      refine aw_loc at_126_244 rfl rfl ?_
      refine aw_loc at_126_245 rfl rfl ?_
      refine aw_cv (a := 432) [ax_i (t : Nat), ax_i (chw A w1 i k : Nat), ax_i (s : Nat), ax_i (chw A w2 j k : Nat)] [] at_126_247 mt_12_141 (Or.inl rfl) rfl rfl (Nat.le_of_ble_eq_true rfl) ⟨_, ho⟩ ((r_m_samep (d := d + 1) h hm0 q1.1 q2.1).mono ?_)
      rintro v S0 ⟨hS, z3, rfl, hz3⟩
      have hS2 := hS.symm
      subst hS2
      have hz39 := hz3.le
      refine ax_if_ne at_126_250 ⟨by omega, by omega⟩ (fun y => ?_) (fun y => ?_)
      · skip
        rw [if_pos (hz3.resolve_left (fun g => y g.1)).2] at hfd
        refine ax_inc at_126_267 rfl rfl rfl ?_
        refine aw_goto at_126_270 ?_
        have := fun y8 y9 => ih (k + 1) y8 y9 (by omega) hfd
        rw [Int.natCast_add] at this
        exact this _ _
      · skip
        rw [if_neg (hz3.resolve_right (fun g => by have := g.1; omega)).2] at hfd
        have hb := htb (chw A w1 i k) (chw A w2 j k) (Or.inl q1.2.1) q1.1 q2.1
        unfold mtb at hb
        have hz := hB (24 * chw A w1 i k + chw A w2 j k)
        refine aw_loc at_126_253 rfl rfl ?_
        refine aw_get at_126_254 rfl fl_12_64 ho rfl ?_
        refine aw_pure (st' := ax_i (24) :: _) at_126_257 rfl rfl ?_
        refine aw_loc at_126_259 rfl rfl ?_
        refine ax_mul at_126_261 rfl ?_
        refine aw_loc at_126_262 rfl rfl ?_
        refine ax_add at_126_264 rfl ?_
        refine ax_zld at_126_265 rfl rB (k := 24 * chw A w1 i k + chw A w2 j k) (by omega) (by omega) (by decide) ?_
        exact ax_retZ at_126_266 rfl hz ⟨_, _, rfl, rfl, _, rfl, by rcases hz with hz | hz; exact Or.inl ⟨hz, fun g => by have := hb.2 (hfd.1 g); omega⟩; exact Or.inr ⟨hz, hfd.2 (hb.1 hz)⟩⟩
  have klet : (∀ k, k < A (w2.getD j 0) → pgt A R (sb A w1 i) (sb A w2 (chw A w2 j k))) → ¬ mup A R w1 w2 i j → w1.getD i 0 < 117 → w2.getD j 0 < 117 → ∀ (x7 x8 x9 : Option Value), ai_aw L xs (d + 4) ai_m126 (fun (o : ai_O) => ∃ v S', o = (.inl v, S') ∧ S' = S ∧ ∃ z, v = some (ax_i z) ∧ bz z (pgt A R (sb A w1 i) (sb A w2 j))) (175, [some (.ref 432), some (ax_i (t : Nat)), some (ax_i (i : Nat)), some (ax_i (s : Nat)), some (ax_i (j : Nat)), some (ax_i (co (w1.getD i 0))), some (ax_i (co (w2.getD j 0))), x7, x8, x9], [], S) := by
    intro hall hnb hv1 hv2 x7 x8 x9
    have hrd : (pgt A R (sb A w1 i) (sb A w2 j)) ↔ (if w1.getD i 0 = w2.getD j 0 then fdf (pgt A R) ((List.range' 0 (A (w1.getD i 0))).map fun k => sb A w1 (chw A w1 i k)) ((List.range' 0 (A (w2.getD j 0))).map fun k => sb A w2 (chw A w2 j k)) else R (w2.getD j 0) < R (w1.getD i 0)) := hpg.trans ⟨fun g => (g.resolve_left hnb).2.2.2, fun g => Or.inr ⟨hv1, hv2, hall, g⟩⟩
    refine aw_loc at_126_175 rfl rfl ?_
    refine aw_loc at_126_177 rfl rfl ?_
    refine ax_icmp_eq at_126_179 ⟨by omega, by omega⟩ ⟨by omega, by omega⟩ (fun y => ?_) (fun y => ?_)
    · skip
      have ye := co_inj hk1 hk2 y
      rw [if_pos ye] at hrd
      rw [show A (w2.getD j 0) = A (w1.getD i 0) by rw [ye]] at hrd
      refine aw_pure (st' := ax_i (0) :: _) at_126_205 rfl rfl ?_
      refine aw_loc at_126_206 rfl rfl ?_
      exact kdif ye (A (w1.getD i 0)) 0 _ _ (by omega) hrd
    · skip
      rw [if_neg (fun e => y (by rw [e]))] at hrd
      have e1 : co (w1.getD i 0) = (((w1.getD i 0 - 97).toNat : Nat) : Int) := by unfold co; rw [if_pos hv1]; omega
      have e2 : co (w2.getD j 0) = (((w2.getD j 0 - 97).toNat : Nat) : Int) := by unfold co; rw [if_pos hv2]; omega
      have hr2 := hrk.2 _ _ (kn_sym hk1 hv1) (kn_sym hk2 hv2)
      have g1 := hrk.1 (w1.getD i 0 - 97).toNat
      have g2 := hrk.1 (w2.getD j 0 - 97).toNat
      refine aw_loc at_126_182 rfl rfl ?_
      refine aw_get at_126_183 rfl fl_12_13 ho rfl ?_
      refine aw_loc at_126_186 rfl rfl ?_
      refine ax_ild at_126_188 rfl r1 (k := (w1.getD i 0 - 97).toNat) e1 (by omega) (by decide) ?_
      refine aw_loc at_126_189 rfl rfl ?_
      refine aw_get at_126_190 rfl fl_12_13 ho rfl ?_
      refine aw_loc at_126_193 rfl rfl ?_
      refine ax_ild at_126_195 rfl r1 (k := (w2.getD j 0 - 97).toNat) e2 (by omega) (by decide) ?_
      refine ax_icmp_le at_126_196 ⟨by omega, by omega⟩ ⟨by omega, by omega⟩ (fun u => ?_) (fun u => ?_)
      · skip
        refine aw_pure (st' := ax_i (0) :: _) at_126_203 rfl rfl ?_
        exact ax_retZ at_126_204 rfl (Or.inl rfl) ⟨_, _, rfl, rfl, 0, rfl, Or.inl ⟨rfl, fun g => by have := hr2.2 (hrd.1 g); omega⟩⟩
      · skip
        refine aw_pure (st' := ax_i (1) :: _) at_126_199 rfl rfl ?_
        refine aw_goto at_126_200 ?_
        exact ax_retZ at_126_204 rfl (Or.inr rfl) ⟨_, _, rfl, rfl, 1, rfl, Or.inr ⟨rfl, hrd.2 (hr2.1 u)⟩⟩
  have kall : ¬ mup A R w1 w2 i j → w1.getD i 0 < 117 → w2.getD j 0 < 117 → ∀ (m k : Nat) (x8 x9 : Option Value), k + m = A (w2.getD j 0) → (∀ k', k' < k → pgt A R (sb A w1 i) (sb A w2 (chw A w2 j k'))) → ai_aw L xs (d + 4) ai_m126 (fun (o : ai_O) => ∃ v S', o = (.inl v, S') ∧ S' = S ∧ ∃ z, v = some (ax_i z) ∧ bz z (pgt A R (sb A w1 i) (sb A w2 j))) (134, [some (.ref 432), some (ax_i (t : Nat)), some (ax_i (i : Nat)), some (ax_i (s : Nat)), some (ax_i (j : Nat)), some (ax_i (co (w1.getD i 0))), some (ax_i (co (w2.getD j 0))), some (ax_i (k : Nat)), x8, x9], [], S) := by
    intro hnb hv1 hv2 m
    induction m with
    | zero =>
      intro k x8 x9 hk hal
      refine aw_loc at_126_134 rfl rfl ?_
      refine aw_loc at_126_136 rfl rfl ?_
      refine aw_loc at_126_137 rfl rfl ?_
      refine aw_cv (a := 432) [ax_i (co (w2.getD j 0))] [ax_i (k : Nat)] at_126_139 mt_12_96 (Or.inl rfl) rfl rfl (Nat.le_of_ble_eq_true rfl) ⟨_, ho⟩ ((r_m_places ho r0 (by omega)).mono ?_)
      rintro v S0 ⟨hS, rfl⟩
      have hS2 := hS.symm
      subst hS2
      rw [ha2]
      refine ax_icmp_ge at_126_142 ⟨by omega, by omega⟩ ⟨by omega, by omega⟩ (fun _ => klet (fun k9 hk9 => hal k9 (by omega)) hnb hv1 hv2 _ _ _) (fun z => absurd z (by omega))
    | succ m ih =>
      intro k x8 x9 hk hal
      have q2 := hch2 k (by omega)
      have hb := htb i (chw A w2 j k) (Or.inr ⟨rfl, q2.2.1⟩) hi q2.1
      unfold mtb at hb
      have hz := hB (24 * i + chw A w2 j k)
      refine aw_loc at_126_134 rfl rfl ?_
      refine aw_loc at_126_136 rfl rfl ?_
      refine aw_loc at_126_137 rfl rfl ?_
      refine aw_cv (a := 432) [ax_i (co (w2.getD j 0))] [ax_i (k : Nat)] at_126_139 mt_12_96 (Or.inl rfl) rfl rfl (Nat.le_of_ble_eq_true rfl) ⟨_, ho⟩ ((r_m_places ho r0 (by omega)).mono ?_)
      rintro v S0 ⟨hS, rfl⟩
      have hS2 := hS.symm
      subst hS2
      rw [ha2]
      refine ax_icmp_ge at_126_142 ⟨by omega, by omega⟩ ⟨by omega, by omega⟩ (fun z => absurd z (by omega)) (fun _ => ?_)
      refine aw_loc at_126_145 rfl rfl ?_
      refine aw_get at_126_146 rfl fl_12_64 ho rfl ?_
      refine aw_pure (st' := ax_i (24) :: _) at_126_149 rfl rfl ?_
      refine aw_loc at_126_151 rfl rfl ?_
      refine ax_mul at_126_152 rfl ?_
      refine aw_loc at_126_153 rfl rfl ?_
      refine aw_loc at_126_154 rfl rfl ?_
      refine aw_loc at_126_155 rfl rfl ?_
      refine aw_loc at_126_157 rfl rfl ?_
      refine aw_cv (a := 432) [ax_i (s : Nat), ax_i (j : Nat), ax_i (k : Nat)] [ax_i (24 * (i : Int)), .ref 451] at_126_159 mt_12_137 (Or.inl rfl) rfl rfl (Nat.le_of_ble_eq_true rfl) ⟨_, ho⟩ ((r_m_part (d := d + 1) h hpk hx m2 k2 l2 (by omega) t2 (by omega) q2.2.2 (by omega)).mono ?_)
      rintro v S0 ⟨hS, rfl⟩
      have hS2 := hS.symm
      subst hS2
      refine ax_add at_126_162 rfl ?_
      refine ax_zld at_126_163 rfl rB (k := 24 * i + chw A w2 j k) (by omega) (by omega) (by decide) ?_
      refine ax_if_ne at_126_164 ⟨by omega, by omega⟩ (fun y => ?_) (fun y => ?_)
      · skip
        refine ax_inc at_126_169 rfl rfl rfl ?_
        refine aw_goto at_126_172 ?_
        have := ih (k + 1) x8 x9 (by omega) (fun k' hk' => by by_cases e : k' = k; rw [e]; exact hb.1 (by omega); exact hal k' (by omega))
        rw [Int.natCast_add] at this
        exact this
      · skip
        refine aw_pure (st' := ax_i (0) :: _) at_126_167 rfl rfl ?_
        exact ax_retZ at_126_168 rfl (Or.inl rfl) ⟨_, _, rfl, rfl, 0, rfl, Or.inl ⟨rfl, fun g => by have := hb.2 (((hpg.1 g).resolve_left hnb).2.2.1 k (by omega)); omega⟩⟩
  have kup : ∀ (m k : Nat) (x8 x9 : Option Value), k + m = A (w1.getD i 0) → (∀ k', k' < k → ¬ (pgt A R (sb A w1 (chw A w1 i k')) (sb A w2 j) ∨ sb A w1 (chw A w1 i k') = sb A w2 j)) → ai_aw L xs (d + 4) ai_m126 (fun (o : ai_O) => ∃ v S', o = (.inl v, S') ∧ S' = S ∧ ∃ z, v = some (ax_i z) ∧ bz z (pgt A R (sb A w1 i) (sb A w2 j))) (57, [some (.ref 432), some (ax_i (t : Nat)), some (ax_i (i : Nat)), some (ax_i (s : Nat)), some (ax_i (j : Nat)), some (ax_i (co (w1.getD i 0))), some (ax_i (co (w2.getD j 0))), some (ax_i (k : Nat)), x8, x9], [], S) := by
    intro m
    induction m with
    | zero =>
      intro k x8 x9 hk hno
      have hnb : ¬ mup A R w1 w2 i j := fun ⟨k9, a, b⟩ => hno k9 (by omega) b
      have kout : ¬ (w1.getD i 0 < 117 ∧ w2.getD j 0 < 117) → ai_aw L xs (d + 4) ai_m126 (fun (o : ai_O) => ∃ v S', o = (.inl v, S') ∧ S' = S ∧ ∃ z, v = some (ax_i z) ∧ bz z (pgt A R (sb A w1 i) (sb A w2 j))) (129, [some (.ref 432), some (ax_i (t : Nat)), some (ax_i (i : Nat)), some (ax_i (s : Nat)), some (ax_i (j : Nat)), some (ax_i (co (w1.getD i 0))), some (ax_i (co (w2.getD j 0))), some (ax_i (k : Nat)), x8, x9], [], S) := by
        intro hv
        refine aw_pure (st' := ax_i (0) :: _) at_126_129 rfl rfl ?_
        exact ax_retZ at_126_130 rfl (Or.inl rfl) ⟨_, _, rfl, rfl, 0, rfl, Or.inl ⟨rfl, fun g => by have g2 := (hpg.1 g).resolve_left hnb; exact hv ⟨g2.1, g2.2.1⟩⟩⟩
      refine aw_loc at_126_57 rfl rfl ?_
      refine aw_loc at_126_59 rfl rfl ?_
      refine aw_loc at_126_60 rfl rfl ?_
      refine aw_cv (a := 432) [ax_i (co (w1.getD i 0))] [ax_i (k : Nat)] at_126_62 mt_12_96 (Or.inl rfl) rfl rfl (Nat.le_of_ble_eq_true rfl) ⟨_, ho⟩ ((r_m_places ho r0 (by omega)).mono ?_)
      rintro v S0 ⟨hS, rfl⟩
      have hS2 := hS.symm
      subst hS2
      rw [ha1]
      refine ax_icmp_ge at_126_65 ⟨by omega, by omega⟩ ⟨by omega, by omega⟩ (fun _ => ?_) (fun z => absurd z (by omega))
      show ai_aw L xs (d + 4) ai_m126 _ (115, _, _, _)
      refine aw_loc at_126_115 rfl rfl ?_
      refine aw_pure (st' := ax_i (8) :: _) at_126_117 rfl rfl ?_
      refine ax_icmp_ge at_126_119 ⟨by omega, by omega⟩ ⟨by omega, by omega⟩ (fun z => kout (by omega)) (fun z1 => ?_)
      refine aw_loc at_126_122 rfl rfl ?_
      refine aw_pure (st' := ax_i (8) :: _) at_126_124 rfl rfl ?_
      refine ax_icmp_lt at_126_126 ⟨by omega, by omega⟩ ⟨by omega, by omega⟩ (fun z2 => ?_) (fun z => kout (by omega))
      show ai_aw L xs (d + 4) ai_m126 _ (131, _, _, _)
      refine aw_pure (st' := ax_i (0) :: _) at_126_131 rfl rfl ?_
      refine aw_loc at_126_132 rfl rfl ?_
      exact kall hnb (by omega) (by omega) (A (w2.getD j 0)) 0 _ _ (by omega) (fun k' hk' => by omega)
    | succ m ih =>
      intro k x8 x9 hk hno
      have q1 := hch1 k (by omega)
      have hb := htb (chw A w1 i k) j (Or.inl q1.2.1) q1.1 hj
      unfold mtb at hb
      have hz := hB (24 * chw A w1 i k + j)
      have kyes : (pgt A R (sb A w1 (chw A w1 i k)) (sb A w2 j) ∨ sb A w1 (chw A w1 i k) = sb A w2 j) → ∀ y8, ai_aw L xs (d + 4) ai_m126 (fun (o : ai_O) => ∃ v S', o = (.inl v, S') ∧ S' = S ∧ ∃ z, v = some (ax_i z) ∧ bz z (pgt A R (sb A w1 i) (sb A w2 j))) (107, [some (.ref 432), some (ax_i (t : Nat)), some (ax_i (i : Nat)), some (ax_i (s : Nat)), some (ax_i (j : Nat)), some (ax_i (co (w1.getD i 0))), some (ax_i (co (w2.getD j 0))), some (ax_i (k : Nat)), y8, x9], [], S) := by
        intro hy y8
        refine aw_pure (st' := ax_i (1) :: _) at_126_107 rfl rfl ?_
        exact ax_retZ at_126_108 rfl (Or.inr rfl) ⟨_, _, rfl, rfl, 1, rfl, Or.inr ⟨rfl, hpg.2 (Or.inl ⟨k, by omega, hy⟩)⟩⟩
      refine aw_loc at_126_57 rfl rfl ?_
      refine aw_loc at_126_59 rfl rfl ?_
      refine aw_loc at_126_60 rfl rfl ?_
      refine aw_cv (a := 432) [ax_i (co (w1.getD i 0))] [ax_i (k : Nat)] at_126_62 mt_12_96 (Or.inl rfl) rfl rfl (Nat.le_of_ble_eq_true rfl) ⟨_, ho⟩ ((r_m_places ho r0 (by omega)).mono ?_)
      rintro v S0 ⟨hS, rfl⟩
      have hS2 := hS.symm
      subst hS2
      rw [ha1]
      refine ax_icmp_ge at_126_65 ⟨by omega, by omega⟩ ⟨by omega, by omega⟩ (fun z => absurd z (by omega)) (fun _ => ?_)
      refine aw_loc at_126_68 rfl rfl ?_
      refine aw_loc at_126_69 rfl rfl ?_
      refine aw_loc at_126_70 rfl rfl ?_
      refine aw_loc at_126_71 rfl rfl ?_
      refine aw_cv (a := 432) [ax_i (t : Nat), ax_i (i : Nat), ax_i (k : Nat)] [] at_126_73 mt_12_137 (Or.inl rfl) rfl rfl (Nat.le_of_ble_eq_true rfl) ⟨_, ho⟩ ((r_m_part (d := d + 1) h hpk hx m1 k1 l1 (by omega) t1 (by omega) q1.2.2 (by omega)).mono ?_)
      rintro v S0 ⟨hS, rfl⟩
      have hS2 := hS.symm
      subst hS2
      refine aw_loc at_126_76 rfl rfl ?_
      refine aw_loc at_126_78 rfl rfl ?_
      refine aw_get at_126_79 rfl fl_12_64 ho rfl ?_
      refine aw_pure (st' := ax_i (24) :: _) at_126_82 rfl rfl ?_
      refine aw_loc at_126_84 rfl rfl ?_
      refine ax_mul at_126_86 rfl ?_
      refine aw_loc at_126_87 rfl rfl ?_
      refine ax_add at_126_89 rfl ?_
      refine ax_zld at_126_90 rfl rB (k := 24 * chw A w1 i k + j) (by omega) (by omega) (by decide) ?_
      refine ax_if_ne at_126_91 ⟨by omega, by omega⟩ (fun y => kyes (Or.inl (hb.1 (by omega))) _) (fun y => ?_)
      refine aw_loc at_126_94 rfl rfl ?_
      refine aw_loc at_126_95 rfl rfl ?_
      refine aw_loc at_126_96 rfl rfl ?_
      refine aw_loc at_126_98 rfl rfl ?_
      refine aw_loc at_126_99 rfl rfl ?_
      refine aw_cv (a := 432) [ax_i (t : Nat), ax_i (chw A w1 i k : Nat), ax_i (s : Nat), ax_i (j : Nat)] [] at_126_101 mt_12_141 (Or.inl rfl) rfl rfl (Nat.le_of_ble_eq_true rfl) ⟨_, ho⟩ ((r_m_samep (d := d + 1) h hm0 q1.1 hj).mono ?_)
      rintro v S0 ⟨hS, z3, rfl, hz3⟩
      have hS2 := hS.symm
      subst hS2
      have hz39 := hz3.le
      refine ax_if_eq at_126_104 ⟨by omega, by omega⟩ (fun y2 => ?_) (fun y2 => kyes (Or.inr (hz3.resolve_left (fun g => y2 g.1)).2) _)
      show ai_aw L xs (d + 4) ai_m126 _ (109, _, _, _)
      refine ax_inc at_126_109 rfl rfl rfl ?_
      refine aw_goto at_126_112 ?_
      have := fun y8 y9 => ih (k + 1) y8 y9 (by omega) (fun k' hk' => by by_cases e : k' = k; rw [e]; exact fun g => g.elim (fun g2 => by have := hb.2 g2; omega) (hz3.resolve_right (fun g => by have := g.1; omega)).2; exact hno k' (by omega))
      rw [Int.natCast_add] at this
      exact this _ _
  refine ai_rn_of (M := ai_m126) rfl (by decide) (Nat.le_of_ble_eq_true rfl) ?_
  refine aw_loc at_126_0 rfl rfl ?_
  refine aw_get at_126_1 rfl fl_12_37 ho rfl ?_
  refine aw_pure (st' := ax_i (64) :: _) at_126_4 rfl rfl ?_
  refine aw_loc at_126_6 rfl rfl ?_
  refine ax_mul at_126_7 rfl ?_
  refine aw_loc at_126_8 rfl rfl ?_
  refine ax_add at_126_9 rfl ?_
  refine ax_ild at_126_10 rfl r9 (k := 64 * t + i) (by omega) (by omega) (by decide) ?_
  rw [hc1]
  refine aw_loc at_126_11 rfl rfl ?_
  refine aw_loc at_126_13 rfl rfl ?_
  refine aw_get at_126_14 rfl fl_12_37 ho rfl ?_
  refine aw_pure (st' := ax_i (64) :: _) at_126_17 rfl rfl ?_
  refine aw_loc at_126_19 rfl rfl ?_
  refine ax_mul at_126_20 rfl ?_
  refine aw_loc at_126_21 rfl rfl ?_
  refine ax_add at_126_23 rfl ?_
  refine ax_ild at_126_24 rfl r9 (k := 64 * s + j) (by omega) (by omega) (by decide) ?_
  rw [hc2]
  refine aw_loc at_126_25 rfl rfl ?_
  refine aw_loc at_126_27 rfl rfl ?_
  refine aw_pure (st' := ax_i (8) :: _) at_126_29 rfl rfl ?_
  have k54 : ai_aw L xs (d + 4) ai_m126 (fun (o : ai_O) => ∃ v S', o = (.inl v, S') ∧ S' = S ∧ ∃ z, v = some (ax_i z) ∧ bz z (pgt A R (sb A w1 i) (sb A w2 j))) (54, [some (.ref 432), some (ax_i (t : Nat)), some (ax_i (i : Nat)), some (ax_i (s : Nat)), some (ax_i (j : Nat)), some (ax_i (co (w1.getD i 0))), some (ax_i (co (w2.getD j 0))), none, none, none], [], S) := by
    refine aw_pure (st' := ax_i (0) :: _) at_126_54 rfl rfl ?_
    refine aw_loc at_126_55 rfl rfl ?_
    exact kup (A (w1.getD i 0)) 0 _ _ (by omega) (fun k' hk' => by omega)
  refine ax_icmp_lt at_126_31 ⟨by omega, by omega⟩ ⟨by omega, by omega⟩ (fun _ => k54) (fun z1 => ?_)
  refine aw_loc at_126_34 rfl rfl ?_
  refine aw_loc at_126_35 rfl rfl ?_
  refine aw_loc at_126_36 rfl rfl ?_
  refine aw_loc at_126_37 rfl rfl ?_
  refine aw_cv (a := 432) [ax_i (t : Nat), ax_i (i : Nat), ax_i (co (w2.getD j 0))] [] at_126_39 mt_12_134 (Or.inl rfl) rfl rfl (Nat.le_of_ble_eq_true rfl) ⟨_, ho⟩ ((r_m_comes (d := d + 1) h hpk hx m1 k1 l1 ht t1 hi hk2).mono ?_)
  rintro v S0 ⟨hS, z3, rfl, hz3⟩
  have hS2 := hS.symm
  subst hS2
  have hz39 := hz3.le
  refine ax_if_eq at_126_42 ⟨by omega, by omega⟩ (fun _ => k54) (fun z2 => ?_)
  refine aw_loc at_126_45 rfl rfl ?_
  refine aw_loc at_126_47 rfl rfl ?_
  refine ax_icmp_eq at_126_49 ⟨by omega, by omega⟩ ⟨by omega, by omega⟩ (fun _ => k54) (fun z3 => ?_)
  refine aw_pure (st' := ax_i (1) :: _) at_126_52 rfl rfl ?_
  have hv2 : 117 ≤ w2.getD j 0 := by omega
  have hmem := (hz3.resolve_left (fun g => z2 g.1)).2
  have e2 : sb A w2 j = [w2.getD j 0] := by rw [(word_ch hA2 t2 hj).2, hA _ hv2]; rfl
  have e1 := (word_ch hA2 t1 hi).2
  rw [e1] at hmem
  have hin : w2.getD j 0 ∈ (List.range (A (w1.getD i 0))).flatMap fun k => sb A w1 (chp (fun j => j + tl A 1 (w1.drop j)) i k) := (List.mem_cons.1 hmem).resolve_left (fun g => z3 (by rw [g]))
  have hts1 := sb_ts t1 hi
  rw [e1] at hts1
  exact ax_retZ at_126_53 rfl (Or.inr rfl) ⟨_, _, rfl, rfl, 1, rfl, Or.inr ⟨rfl, by rw [e2, e1]; exact pgt_var hA hv2 _ _ _ (Nat.le_refl _) hts1 hin⟩⟩
set_option maxHeartbeats 8000000 in
theorem r_m_gt1 {t s i : Nat} {Q : ai_O → Prop} (hm : mow A F t s w1 w2) (hi : i < w1.length) (hrk : mrk F R) : ∀ (m : Nat) (B1 : Nat → Int) (S1 : ai_S), m ≤ w2.length → fr 432 452 S S1 → mst S1 T D n rc wt kp sx sc F B1 → (∀ p q, (i < p ∨ (p = i ∧ m ≤ q)) → p < w1.length → q < w2.length → mtb A R w1 w2 B1 p q) → (∀ (B2 : Nat → Int) (S2 : ai_S) (x4 : Option Value), fr 432 452 S S2 → mst S2 T D n rc wt kp sx sc F B2 → (∀ p q, i ≤ p → p < w1.length → q < w2.length → mtb A R w1 w2 B2 p q) → ai_aw L xs (d + 5) ai_m125 Q (55, [some (.ref 432), some (ax_i (t : Nat)), some (ax_i (s : Nat)), some (ax_i (i : Nat)), x4], [], S2)) → ai_aw L xs (d + 5) ai_m125 Q (23, [some (.ref 432), some (ax_i (t : Nat)), some (ax_i (s : Nat)), some (ax_i (i : Nat)), some (ax_i ((m : Int) - 1))], [], S1) := by
  have hm0 := hm
  obtain ⟨hpk, hx, ⟨m1, m2⟩, ⟨l1, l2⟩, ⟨k1, k2⟩, ⟨t1, t2⟩, ⟨ht, hs⟩, hA2⟩ := hm
  intro m
  induction m with
  | zero =>
    intro B1 S1 hm9 f1 h1 hkn hc
    have ho := h1.1
    refine aw_loc at_125_23 rfl rfl ?_
    refine ax_if_lt at_125_25 ⟨by decide, by decide⟩ (fun _ => hc B1 S1 _ f1 h1 (fun p q a b c => hkn p q (by omega) b c)) (fun z => absurd z (by decide))
  | succ j ih =>
    intro B1 S1 hm9 f1 h1 hkn hc
    have ho := h1.1
    have rB := h1.2.2.1
    have hB := h1.2.2.2
    rw [show ((j + 1 : Nat) : Int) - 1 = (j : Int) by omega]
    refine aw_loc at_125_23 rfl rfl ?_
    refine ax_if_lt at_125_25 ⟨by omega, by omega⟩ (fun z => absurd z (by omega)) (fun _ => ?_)
    refine aw_loc at_125_28 rfl rfl ?_
    refine aw_get at_125_29 rfl fl_12_64 ho rfl ?_
    refine aw_pure (st' := ax_i (24) :: _) at_125_32 rfl rfl ?_
    refine aw_loc at_125_34 rfl rfl ?_
    refine ax_mul at_125_35 rfl ?_
    refine aw_loc at_125_36 rfl rfl ?_
    refine ax_add at_125_38 rfl ?_
    refine aw_loc at_125_39 rfl rfl ?_
    refine aw_loc at_125_40 rfl rfl ?_
    refine aw_loc at_125_41 rfl rfl ?_
    refine aw_loc at_125_42 rfl rfl ?_
    refine aw_loc at_125_43 rfl rfl ?_
    refine aw_cv (a := 432) [ax_i (t : Nat), ax_i (i : Nat), ax_i (s : Nat), ax_i (j : Nat)] [ax_i (24 * (i : Int) + (j : Int)), .ref 451] at_125_45 mt_12_144 (Or.inl rfl) rfl rfl (Nat.le_of_ble_eq_true rfl) ⟨_, ho⟩ ((r_m_above (d := d) h1 hm0 hi (by omega) hrk (fun p q a b c => hkn p q (by omega) b c)).mono ?_)
    rintro v S0 ⟨hS, z3, rfl, hz3⟩
    have hS2 := hS.symm
    subst hS2
    have hz39 := hz3.le
    refine ax_zst (k := 24 * i + j) at_125_48 rfl rB (by omega) (by omega) (by decide) hz39 ?_
    have h2 : mst (ai_wr S1 451 (.inl (2, ai_I 576 (ax_f (ax_up B1 (24 * i + j) z3))))) T D n rc wt kp sx sc F (ax_up B1 (24 * i + j) z3) := mst_wb h1 (fun x => by unfold ax_up; split; exact hz39; exact hB x)
    refine ax_inc at_125_49 rfl rfl rfl ?_
    refine aw_goto at_125_52 ?_
    refine ih (ax_up B1 (24 * i + j) z3) _ (by omega) (f1.tr (fr_md (by decide) (by decide))) h2 (fun p q a b c => ?_) hc
    unfold mtb ax_up
    by_cases e : p = i ∧ q = j
    · rw [if_pos (by omega), e.1, e.2]; exact ⟨fun g => (hz3.resolve_left (fun g2 => by have := g2.1; omega)).2, fun g => (hz3.resolve_left (fun g2 => g2.2 g)).1⟩
    · rw [if_neg (by omega)]; exact hkn p q (by omega) b c
set_option maxHeartbeats 8000000 in
theorem r_m_gt2 {t s : Nat} (hm : mow A F t s w1 w2) (hrk : mrk F R) : ∀ (k : Nat) (B1 : Nat → Int) (S1 : ai_S) (x4 : Option Value), k ≤ w1.length → fr 432 452 S S1 → mst S1 T D n rc wt kp sx sc F B1 → (∀ p q, k ≤ p → p < w1.length → q < w2.length → mtb A R w1 w2 B1 p q) → ai_aw L xs (d + 5) ai_m125 (fun (o : ai_O) => ∃ v S', o = (.inl v, S') ∧ fr 432 452 S S' ∧ ∃ B', mst S' T D n rc wt kp sx sc F B' ∧ ∃ z, v = some (ax_i z) ∧ bz z (pgt A R (sb A w1 0) (sb A w2 0))) (9, [some (.ref 432), some (ax_i (t : Nat)), some (ax_i (s : Nat)), some (ax_i ((k : Int) - 1)), x4], [], S1) := by
  have hm0 := hm
  obtain ⟨hpk, hx, ⟨m1, m2⟩, ⟨l1, l2⟩, ⟨k1, k2⟩, ⟨t1, t2⟩, ⟨ht, hs⟩, hA2⟩ := hm
  have z2 := mwd_len m2 (by omega)
  have p1 := List.length_pos_iff.2 (ts_ne t1)
  have p2 := List.length_pos_iff.2 (ts_ne t2)
  intro k
  induction k with
  | zero =>
    intro B1 S1 x4 hk f1 h1 hkn
    have ho := h1.1
    have r10 : ai_arr S1 443 0 = some (3, ax_f (F 10)) := h1.2.1 10 (by decide)
    have rB := h1.2.2.1
    have hB := h1.2.2.2
    refine aw_loc at_125_9 rfl rfl ?_
    refine ax_if_lt at_125_10 ⟨by decide, by decide⟩ (fun _ => ?_) (fun z => absurd z (by decide))
    show ai_aw L xs (d + 5) ai_m125 _ (61, _, _, _)
    have h00 := hkn 0 0 (by omega) p1 p2
    unfold mtb at h00
    have hz := hB (24 * 0 + 0)
    refine aw_loc at_125_61 rfl rfl ?_
    refine aw_get at_125_62 rfl fl_12_64 ho rfl ?_
    refine aw_pure (st' := ax_i (0) :: _) at_125_65 rfl rfl ?_
    refine ax_zld at_125_66 rfl rB (k := 24 * 0 + 0) rfl (by decide) (by decide) ?_
    exact ax_retZ at_125_67 rfl hz ⟨_, _, rfl, f1, B1, h1, _, rfl, by rcases hz with hz | hz; exact Or.inl ⟨hz, fun g => by have := h00.2 g; omega⟩; exact Or.inr ⟨hz, h00.1 hz⟩⟩
  | succ i ih =>
    intro B1 S1 x4 hk f1 h1 hkn
    have ho := h1.1
    have r10 : ai_arr S1 443 0 = some (3, ax_f (F 10)) := h1.2.1 10 (by decide)
    rw [show ((i + 1 : Nat) : Int) - 1 = (i : Int) by omega]
    refine aw_loc at_125_9 rfl rfl ?_
    refine ax_if_lt at_125_10 ⟨by omega, by omega⟩ (fun z => absurd z (by omega)) (fun _ => ?_)
    refine aw_loc at_125_13 rfl rfl ?_
    refine aw_get at_125_14 rfl fl_12_40 ho rfl ?_
    refine aw_loc at_125_17 rfl rfl ?_
    refine ax_ild at_125_18 rfl r10 (k := s) rfl (by omega) (by decide) ?_
    rw [z2]
    refine aw_pure (st' := ax_i (1) :: _) at_125_19 rfl rfl ?_
    refine ax_sub at_125_20 rfl ?_
    refine aw_loc at_125_21 rfl rfl ?_
    refine r_m_gt1 hm0 (by omega) hrk w2.length B1 S1 (Nat.le_refl _) f1 h1 (fun p q a b c => hkn p q (by omega) b c) (fun B2 S2 y4 f2 h2 a6 => ?_)
    refine ax_inc at_125_55 rfl rfl rfl ?_
    refine aw_goto at_125_58 ?_
    exact ih B2 S2 y4 (by omega) f2 h2 a6
set_option maxHeartbeats 4000000 in
theorem r_m_gt {t s : Nat} (h : mst S T D n rc wt kp sx sc F B) (hm : mow A F t s w1 w2) (hrk : mrk F R) : ai_rn L xs (d + 6) 125 [.ref 432, ax_i (t : Nat), ax_i (s : Nat)] S (fun v S' => fr 432 452 S S' ∧ ∃ B', mst S' T D n rc wt kp sx sc F B' ∧ ∃ z, v = some (ax_i z) ∧ bz z (pgt A R w1 w2)) := by
  have hm0 := hm
  obtain ⟨hpk, hx, ⟨m1, m2⟩, ⟨l1, l2⟩, ⟨k1, k2⟩, ⟨t1, t2⟩, ⟨ht, hs⟩, hA2⟩ := hm
  have ho := h.1
  have r10 : ai_arr S 443 0 = some (3, ax_f (F 10)) := h.2.1 10 (by decide)
  have z1 := mwd_len m1 (by omega)
  refine ai_rn_of (M := ai_m125) rfl (by decide) (Nat.le_of_ble_eq_true rfl) ?_
  refine aw_loc at_125_0 rfl rfl ?_
  refine aw_get at_125_1 rfl fl_12_40 ho rfl ?_
  refine aw_loc at_125_4 rfl rfl ?_
  refine ax_ild at_125_5 rfl r10 (k := t) rfl (by omega) (by decide) ?_
  rw [z1]
  refine aw_pure (st' := ax_i (1) :: _) at_125_6 rfl rfl ?_
  refine ax_sub at_125_7 rfl ?_
  refine aw_loc at_125_8 rfl rfl ?_
  refine ai_aw_mono (r_m_gt2 hm0 hrk w1.length B S _ (Nat.le_refl _) fr.rf h (fun p q a b _ => absurd b (by omega))) ?_
  rintro o ⟨v, S9, rfl, f9, B9, h9, z9, rfl, hz9⟩
  rw [sb_zero t1, sb_zero t2] at hz9
  exact ⟨_, _, rfl, f9, B9, h9, z9, rfl, hz9⟩
end MO2

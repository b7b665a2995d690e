/-! The reference: making two terms the same. -/
section MU
variable {L : Nat} {xs : Nat → Int32} {d : Nat} {S S' : ai_S} {T D n rc wt kp sx sc : Int} {F : Nat → Nat → Int} {B : Nat → Int} {P : Nat → Int} {A : Int → Nat}
variable {G O U V : Nat → Int} {ld : lds_t} {Dm : Nat → Prop} {Y : Nat → Int} {en : Nat → Nat} {Tm : Nat → List Int}
theorem rsk_eq {X Z : Nat → Int} {b : Nat} : ∀ (l : List Nat), (∀ j, j < b + l.length → Z j = X j) → rsk X b l → rsk Z b l
  | [], _, _ => True.intro
  | a :: l, h, g => ⟨(h _ (by rw [List.length_cons]; omega)).trans g.1, rsk_eq l (fun j hj => h j (by rw [List.length_cons]; omega)) g.2⟩
/-- how many variables have no lead -/
def nub (ld : lds_t) : Nat → Nat
  | 0 => 0
  | k + 1 => nub ld k + if (ld (117 + (k : Int))).isNone then 1 else 0
theorem nub_off {v : Int} {b : Nat} : ∀ k : Nat, 117 + (k : Int) ≤ v → nub (l_up ld v b) k = nub ld k
  | 0, _ => rfl
  | k + 1, h => by
    show nub (l_up ld v b) k + (if (l_up ld v b (117 + (k : Int))).isNone then 1 else 0) = nub ld k + (if (ld (117 + (k : Int))).isNone then 1 else 0)
    rw [nub_off k (by omega), show l_up ld v b (117 + (k : Int)) = ld (117 + (k : Int)) from if_neg (by omega)]
theorem nub_up {v : Int} {b : Nat} (h0 : ld v = none) (hv : 117 ≤ v) : ∀ k : Nat, v < 117 + (k : Int) → nub (l_up ld v b) k + 1 = nub ld k
  | 0, h => by omega
  | k + 1, h => by
    show nub (l_up ld v b) k + (if (l_up ld v b (117 + (k : Int))).isNone then 1 else 0) + 1 = nub ld k + (if (ld (117 + (k : Int))).isNone then 1 else 0)
    by_cases e : 117 + (k : Int) = v
    · rw [nub_off k (by omega), e, h0, show l_up ld v b v = some b from if_pos rfl]
      rfl
    · have := nub_up (b := b) h0 hv k (by omega)
      rw [show l_up ld v b (117 + (k : Int)) = ld (117 + (k : Int)) from if_neg e]
      omega
theorem ldr_up {v : Int} {b : Nat} (h : ldr G ld) (hb : b < 128) (hv : 117 ≤ v) : ldr (ax_up G (v - 117).toNat (b : Nat)) (l_up ld v b) := by
  refine ⟨fun i hi => ?_, fun c h1 h2 => ?_⟩
  · unfold ax_up
    split
    · omega
    · exact h.1 i hi
  · unfold ax_up l_up
    by_cases e : c = v
    · rw [if_pos e, e, if_pos rfl]
      exact .inr ⟨b, rfl, rfl⟩
    · rw [if_neg e, if_neg (by omega)]
      exact h.2 c h1 h2
/-- what is known while two terms are made the same -/
def uni (A : Int → Nat) (Dm : Nat → Prop) (Y : Nat → Int) (Tm : Nat → List Int) (p0 q0 : Nat) (G O U : Nat → Int) (ld : lds_t) (f : Int → List Int) (t1 t2 : Nat) (st l : List (Nat × Nat)) : Prop := ldr G ld ∧ ldi A Dm Y Tm p0 q0 ld ((t1, t2) :: st) f ∧ skk Dm (wst Tm f) (wst Tm f t1) l ∧ l.map Prod.fst = st.map Prod.fst ∧ rsk O 0 (t1 :: st.map Prod.fst) ∧ rsk U 0 (t2 :: st.map Prod.snd)
/-- how much is left to do -/
def unl (Tm : Nat → List Int) (f : Int → List Int) (t1 : Nat) (st : List (Nat × Nat)) : Nat := ((t1 :: st.map Prod.fst).flatMap (wst Tm f)).length
theorem at_143_0 : ai_at ai_m143 0 = some (.iconst 0, 1) := rfl
theorem at_143_1 : ai_at ai_m143 1 = some (.istore_n 3, 1) := rfl
theorem at_143_2 : ai_at ai_m143 2 = some (.iload_n 3, 1) := rfl
theorem at_143_3 : ai_at ai_m143 3 = some (.bipush 20, 2) := rfl
theorem at_143_5 : ai_at ai_m143 5 = some (.if_icmp .ge 16, 3) := rfl
theorem at_143_8 : ai_at ai_m143 8 = some (.aload_n 0, 1) := rfl
theorem at_143_9 : ai_at ai_m143 9 = some (.getfield 52, 3) := rfl
theorem at_143_12 : ai_at ai_m143 12 = some (.iload_n 3, 1) := rfl
theorem at_143_13 : ai_at ai_m143 13 = some (.iconst (-1), 1) := rfl
theorem at_143_14 : ai_at ai_m143 14 = some (.iastore, 1) := rfl
theorem at_143_15 : ai_at ai_m143 15 = some (.iinc 3 1, 3) := rfl
theorem at_143_18 : ai_at ai_m143 18 = some (.goto (-16), 3) := rfl
theorem at_143_21 : ai_at ai_m143 21 = some (.iconst 1, 1) := rfl
theorem at_143_22 : ai_at ai_m143 22 = some (.istore_n 3, 1) := rfl
theorem at_143_23 : ai_at ai_m143 23 = some (.aload_n 0, 1) := rfl
theorem at_143_24 : ai_at ai_m143 24 = some (.getfield 55, 3) := rfl
theorem at_143_27 : ai_at ai_m143 27 = some (.iconst 0, 1) := rfl
theorem at_143_28 : ai_at ai_m143 28 = some (.iload_n 1, 1) := rfl
theorem at_143_29 : ai_at ai_m143 29 = some (.iastore, 1) := rfl
theorem at_143_30 : ai_at ai_m143 30 = some (.aload_n 0, 1) := rfl
theorem at_143_31 : ai_at ai_m143 31 = some (.getfield 58, 3) := rfl
theorem at_143_34 : ai_at ai_m143 34 = some (.iconst 0, 1) := rfl
theorem at_143_35 : ai_at ai_m143 35 = some (.iload_n 2, 1) := rfl
theorem at_143_36 : ai_at ai_m143 36 = some (.iastore, 1) := rfl
theorem at_143_37 : ai_at ai_m143 37 = some (.iload_n 3, 1) := rfl
theorem at_143_38 : ai_at ai_m143 38 = some (.ifCond .le 226, 3) := rfl
theorem at_143_41 : ai_at ai_m143 41 = some (.iinc 3 (-1), 3) := rfl
theorem at_143_44 : ai_at ai_m143 44 = some (.aload_n 0, 1) := rfl
theorem at_143_45 : ai_at ai_m143 45 = some (.aload_n 0, 1) := rfl
theorem at_143_46 : ai_at ai_m143 46 = some (.getfield 55, 3) := rfl
theorem at_143_49 : ai_at ai_m143 49 = some (.iload_n 3, 1) := rfl
theorem at_143_50 : ai_at ai_m143 50 = some (.iaload, 1) := rfl
theorem at_143_51 : ai_at ai_m143 51 = some (.invokevirtual 175, 3) := rfl
theorem at_143_54 : ai_at ai_m143 54 = some (.istore 4, 2) := rfl
theorem at_143_56 : ai_at ai_m143 56 = some (.aload_n 0, 1) := rfl
theorem at_143_57 : ai_at ai_m143 57 = some (.aload_n 0, 1) := rfl
theorem at_143_58 : ai_at ai_m143 58 = some (.getfield 58, 3) := rfl
theorem at_143_61 : ai_at ai_m143 61 = some (.iload_n 3, 1) := rfl
theorem at_143_62 : ai_at ai_m143 62 = some (.iaload, 1) := rfl
theorem at_143_63 : ai_at ai_m143 63 = some (.invokevirtual 175, 3) := rfl
theorem at_143_66 : ai_at ai_m143 66 = some (.istore 5, 2) := rfl
theorem at_143_68 : ai_at ai_m143 68 = some (.aload_n 0, 1) := rfl
theorem at_143_69 : ai_at ai_m143 69 = some (.getfield 49, 3) := rfl
theorem at_143_72 : ai_at ai_m143 72 = some (.iload 4, 2) := rfl
theorem at_143_74 : ai_at ai_m143 74 = some (.iaload, 1) := rfl
theorem at_143_75 : ai_at ai_m143 75 = some (.istore 6, 2) := rfl
theorem at_143_77 : ai_at ai_m143 77 = some (.aload_n 0, 1) := rfl
theorem at_143_78 : ai_at ai_m143 78 = some (.getfield 49, 3) := rfl
theorem at_143_81 : ai_at ai_m143 81 = some (.iload 5, 2) := rfl
theorem at_143_83 : ai_at ai_m143 83 = some (.iaload, 1) := rfl
theorem at_143_84 : ai_at ai_m143 84 = some (.istore 7, 2) := rfl
theorem at_143_86 : ai_at ai_m143 86 = some (.iload 6, 2) := rfl
theorem at_143_88 : ai_at ai_m143 88 = some (.bipush 8, 2) := rfl
theorem at_143_90 : ai_at ai_m143 90 = some (.if_icmp .lt 38, 3) := rfl
theorem at_143_93 : ai_at ai_m143 93 = some (.iload 6, 2) := rfl
theorem at_143_95 : ai_at ai_m143 95 = some (.iload 7, 2) := rfl
theorem at_143_97 : ai_at ai_m143 97 = some (.if_icmp .eq 31, 3) := rfl
theorem at_143_100 : ai_at ai_m143 100 = some (.aload_n 0, 1) := rfl
theorem at_143_101 : ai_at ai_m143 101 = some (.iload 6, 2) := rfl
theorem at_143_103 : ai_at ai_m143 103 = some (.iload 5, 2) := rfl
theorem at_143_105 : ai_at ai_m143 105 = some (.invokevirtual 181, 3) := rfl
theorem at_143_108 : ai_at ai_m143 108 = some (.ifCond .eq 5, 3) := rfl
theorem at_143_111 : ai_at ai_m143 111 = some (.iconst 0, 1) := rfl
theorem at_143_112 : ai_at ai_m143 112 = some (.ireturn, 1) := rfl
theorem at_143_113 : ai_at ai_m143 113 = some (.aload_n 0, 1) := rfl
theorem at_143_114 : ai_at ai_m143 114 = some (.getfield 52, 3) := rfl
theorem at_143_117 : ai_at ai_m143 117 = some (.iload 6, 2) := rfl
theorem at_143_119 : ai_at ai_m143 119 = some (.bipush 8, 2) := rfl
theorem at_143_121 : ai_at ai_m143 121 = some (.isub, 1) := rfl
theorem at_143_122 : ai_at ai_m143 122 = some (.iload 5, 2) := rfl
theorem at_143_124 : ai_at ai_m143 124 = some (.iastore, 1) := rfl
theorem at_143_125 : ai_at ai_m143 125 = some (.goto 54, 3) := rfl
theorem at_143_128 : ai_at ai_m143 128 = some (.iload 7, 2) := rfl
theorem at_143_130 : ai_at ai_m143 130 = some (.bipush 8, 2) := rfl
theorem at_143_132 : ai_at ai_m143 132 = some (.if_icmp .lt 38, 3) := rfl
theorem at_143_135 : ai_at ai_m143 135 = some (.iload 6, 2) := rfl
theorem at_143_137 : ai_at ai_m143 137 = some (.iload 7, 2) := rfl
theorem at_143_139 : ai_at ai_m143 139 = some (.if_icmp .eq 31, 3) := rfl
theorem at_143_142 : ai_at ai_m143 142 = some (.aload_n 0, 1) := rfl
theorem at_143_143 : ai_at ai_m143 143 = some (.iload 7, 2) := rfl
theorem at_143_145 : ai_at ai_m143 145 = some (.iload 4, 2) := rfl
theorem at_143_147 : ai_at ai_m143 147 = some (.invokevirtual 181, 3) := rfl
theorem at_143_150 : ai_at ai_m143 150 = some (.ifCond .eq 5, 3) := rfl
theorem at_143_153 : ai_at ai_m143 153 = some (.iconst 0, 1) := rfl
theorem at_143_154 : ai_at ai_m143 154 = some (.ireturn, 1) := rfl
theorem at_143_155 : ai_at ai_m143 155 = some (.aload_n 0, 1) := rfl
theorem at_143_156 : ai_at ai_m143 156 = some (.getfield 52, 3) := rfl
theorem at_143_159 : ai_at ai_m143 159 = some (.iload 7, 2) := rfl
theorem at_143_161 : ai_at ai_m143 161 = some (.bipush 8, 2) := rfl
theorem at_143_163 : ai_at ai_m143 163 = some (.isub, 1) := rfl
theorem at_143_164 : ai_at ai_m143 164 = some (.iload 4, 2) := rfl
theorem at_143_166 : ai_at ai_m143 166 = some (.iastore, 1) := rfl
theorem at_143_167 : ai_at ai_m143 167 = some (.goto 12, 3) := rfl
theorem at_143_170 : ai_at ai_m143 170 = some (.iload 6, 2) := rfl
theorem at_143_172 : ai_at ai_m143 172 = some (.iload 7, 2) := rfl
theorem at_143_174 : ai_at ai_m143 174 = some (.if_icmp .eq 5, 3) := rfl
theorem at_143_177 : ai_at ai_m143 177 = some (.iconst 0, 1) := rfl
theorem at_143_178 : ai_at ai_m143 178 = some (.ireturn, 1) := rfl
theorem at_143_179 : ai_at ai_m143 179 = some (.iconst 0, 1) := rfl
theorem at_143_180 : ai_at ai_m143 180 = some (.istore 8, 2) := rfl
theorem at_143_182 : ai_at ai_m143 182 = some (.iload 6, 2) := rfl
theorem at_143_184 : ai_at ai_m143 184 = some (.iload 7, 2) := rfl
theorem at_143_186 : ai_at ai_m143 186 = some (.if_icmp .ne 75, 3) := rfl
theorem at_143_189 : ai_at ai_m143 189 = some (.iload 8, 2) := rfl
theorem at_143_191 : ai_at ai_m143 191 = some (.aload_n 0, 1) := rfl
theorem at_143_192 : ai_at ai_m143 192 = some (.iload 6, 2) := rfl
theorem at_143_194 : ai_at ai_m143 194 = some (.invokevirtual 96, 3) := rfl
theorem at_143_197 : ai_at ai_m143 197 = some (.if_icmp .ge 64, 3) := rfl
theorem at_143_200 : ai_at ai_m143 200 = some (.aload_n 0, 1) := rfl
theorem at_143_201 : ai_at ai_m143 201 = some (.getfield 55, 3) := rfl
theorem at_143_204 : ai_at ai_m143 204 = some (.iload_n 3, 1) := rfl
theorem at_143_205 : ai_at ai_m143 205 = some (.iload 8, 2) := rfl
theorem at_143_207 : ai_at ai_m143 207 = some (.ifCond .ne 10, 3) := rfl
theorem at_143_210 : ai_at ai_m143 210 = some (.iload 4, 2) := rfl
theorem at_143_212 : ai_at ai_m143 212 = some (.iconst 1, 1) := rfl
theorem at_143_213 : ai_at ai_m143 213 = some (.iadd, 1) := rfl
theorem at_143_214 : ai_at ai_m143 214 = some (.goto 11, 3) := rfl
theorem at_143_217 : ai_at ai_m143 217 = some (.aload_n 0, 1) := rfl
theorem at_143_218 : ai_at ai_m143 218 = some (.iload 4, 2) := rfl
theorem at_143_220 : ai_at ai_m143 220 = some (.iconst 1, 1) := rfl
theorem at_143_221 : ai_at ai_m143 221 = some (.iadd, 1) := rfl
theorem at_143_222 : ai_at ai_m143 222 = some (.invokevirtual 178, 3) := rfl
theorem at_143_225 : ai_at ai_m143 225 = some (.iastore, 1) := rfl
theorem at_143_226 : ai_at ai_m143 226 = some (.aload_n 0, 1) := rfl
theorem at_143_227 : ai_at ai_m143 227 = some (.getfield 58, 3) := rfl
theorem at_143_230 : ai_at ai_m143 230 = some (.iload_n 3, 1) := rfl
theorem at_143_231 : ai_at ai_m143 231 = some (.iload 8, 2) := rfl
theorem at_143_233 : ai_at ai_m143 233 = some (.ifCond .ne 10, 3) := rfl
theorem at_143_236 : ai_at ai_m143 236 = some (.iload 5, 2) := rfl
theorem at_143_238 : ai_at ai_m143 238 = some (.iconst 1, 1) := rfl
theorem at_143_239 : ai_at ai_m143 239 = some (.iadd, 1) := rfl
theorem at_143_240 : ai_at ai_m143 240 = some (.goto 11, 3) := rfl
theorem at_143_243 : ai_at ai_m143 243 = some (.aload_n 0, 1) := rfl
theorem at_143_244 : ai_at ai_m143 244 = some (.iload 5, 2) := rfl
theorem at_143_246 : ai_at ai_m143 246 = some (.iconst 1, 1) := rfl
theorem at_143_247 : ai_at ai_m143 247 = some (.iadd, 1) := rfl
theorem at_143_248 : ai_at ai_m143 248 = some (.invokevirtual 178, 3) := rfl
theorem at_143_251 : ai_at ai_m143 251 = some (.iastore, 1) := rfl
theorem at_143_252 : ai_at ai_m143 252 = some (.iinc 3 1, 3) := rfl
theorem at_143_255 : ai_at ai_m143 255 = some (.iinc 8 1, 3) := rfl
theorem at_143_258 : ai_at ai_m143 258 = some (.goto (-76), 3) := rfl
theorem at_143_261 : ai_at ai_m143 261 = some (.goto (-224), 3) := rfl
theorem at_143_264 : ai_at ai_m143 264 = some (.iconst 1, 1) := rfl
theorem at_143_265 : ai_at ai_m143 265 = some (.ireturn, 1) := rfl
theorem fl_12_55 : ai_fld 12 55 = some (11, 23, false) := by decide +kernel
theorem mt_12_181 : ai_mth 12 181 = some (0, 145, 2, 11) := by decide +kernel
set_option maxHeartbeats 4000000 in
theorem r_m_uni0 {p0 q0 : Nat} {Q : ai_O → Prop} : ∀ (m j : Nat) (S1 : ai_S), j + m = 20 → fr 432 452 S S1 → mst S1 T D n rc wt kp sx sc (mrw F (fi G (-1) j) O U) B → (∀ S2, fr 432 452 S S2 → mst S2 T D n rc wt kp sx sc (mrw F (fi G (-1) 20) O U) B → ai_aw L xs d ai_m143 Q (21, [some (.ref 432), some (ax_i (p0 : Nat)), some (ax_i (q0 : Nat)), some (ax_i (20 : Nat)), none, none, none, none, none], [], S2)) → ai_aw L xs d ai_m143 Q (2, [some (.ref 432), some (ax_i (p0 : Nat)), some (ax_i (q0 : Nat)), some (ax_i (j : Nat)), none, none, none, none, none], [], S1) := by
  intro m
  induction m with
  | zero =>
    intro j S1 hj f1 h1 hc
    have ho := h1.1
    have r14 : ai_arr S1 447 0 = some (20, ax_f ((mrw F (fi G (-1) j) O U) 14)) := h1.2.1 14 (by decide)
    rw [show (mrw F (fi G (-1) j) O U) 14 = fi G (-1) j from mrw_14] at r14
    obtain rfl : j = 20 := by omega
    refine aw_loc at_143_2 rfl rfl ?_
    refine aw_pure (st' := ax_i (20) :: _) at_143_3 rfl rfl ?_
    refine ax_icmp_ge at_143_5 ⟨by omega, by omega⟩ ⟨by omega, by omega⟩ (fun _ => hc S1 f1 h1) (fun z => absurd z (by omega))
  | succ m ih =>
    intro j S1 hj f1 h1 hc
    have ho := h1.1
    have r14 : ai_arr S1 447 0 = some (20, ax_f ((mrw F (fi G (-1) j) O U) 14)) := h1.2.1 14 (by decide)
    rw [show (mrw F (fi G (-1) j) O U) 14 = fi G (-1) j from mrw_14] at r14
    refine aw_loc at_143_2 rfl rfl ?_
    refine aw_pure (st' := ax_i (20) :: _) at_143_3 rfl rfl ?_
    refine ax_icmp_ge at_143_5 ⟨by omega, by omega⟩ ⟨by omega, by omega⟩ (fun z => absurd z (by omega)) (fun _ => ?_)
    refine aw_loc at_143_8 rfl rfl ?_
    refine aw_get at_143_9 rfl fl_12_52 ho rfl ?_
    refine aw_loc at_143_12 rfl rfl ?_
    refine aw_pure (st' := ax_i (-1) :: _) at_143_13 rfl rfl ?_
    refine ax_ist (k := j) at_143_14 rfl r14 rfl (by omega) (by decide) ?_
    rw [fi_succ]
    have h2 : mst (ai_wr S1 447 (.inl (0, ai_I 20 (ax_f (fi G (-1) (j + 1)))))) T D n rc wt kp sx sc (mrw F (fi G (-1) (j + 1)) O U) B := mst_w14 h1
    refine ax_inc at_143_15 rfl rfl rfl ?_
    refine aw_goto at_143_18 ?_
    have := ih (j + 1) _ (by omega) (f1.tr (fr_md (by decide) (by decide))) h2 hc
    rw [Int.natCast_add] at this
    exact this
set_option maxHeartbeats 80000000 in
theorem r_m_uni1 {p0 q0 t1 t2 : Nat} {st l : List (Nat × Nat)} {f : Int → List Int} {S1 : ai_S} (f1 : fr 432 452 S S1) (h : mst S1 T D n rc wt kp sx sc (mrw F G O U) B) (hc : mlc A (F 0) (F 13) Dm Y en Tm) (hu : uni A Dm Y Tm p0 q0 G O U ld f t1 t2 st l) (kont : ∀ (S2 : ai_S) (G2 O2 U2 : Nat → Int) (ld2 : lds_t) (f2 : Int → List Int) (s1 s2 : Nat) (st2 l2 : List (Nat × Nat)) (x4 x5 x6 x7 x8 : Option Value), fr 432 452 S S2 → mst S2 T D n rc wt kp sx sc (mrw F G2 O2 U2) B → uni A Dm Y Tm p0 q0 G2 O2 U2 ld2 f2 s1 s2 st2 l2 → (nub ld2 12 < nub ld 12 ∨ (nub ld2 12 = nub ld 12 ∧ unl Tm f2 s1 st2 < unl Tm f t1 st)) → ai_aw L xs (d + 3) ai_m143 (fun (o : ai_O) => ∃ v S', o = (.inl v, S') ∧ fr 432 452 S S' ∧ ∃ G' O' U', mst S' T D n rc wt kp sx sc (mrw F G' O' U') B ∧ ∃ z, v = some (ax_i z) ∧ ((z = 0 ∧ ¬ ∃ g, gs A g ∧ (Tm p0).flatMap g = (Tm q0).flatMap g) ∨ (z = 1 ∧ ∃ ld f, ldr G' ld ∧ ldi A Dm Y Tm p0 q0 ld [] f))) (37, [some (.ref 432), some (ax_i (p0 : Nat)), some (ax_i (q0 : Nat)), some (ax_i (st2.length + 1 : Nat)), x4, x5, x6, x7, x8], [], S2)) (x4 x5 x6 x7 x8 : Option Value) : ai_aw L xs (d + 3) ai_m143 (fun (o : ai_O) => ∃ v S', o = (.inl v, S') ∧ fr 432 452 S S' ∧ ∃ G' O' U', mst S' T D n rc wt kp sx sc (mrw F G' O' U') B ∧ ∃ z, v = some (ax_i z) ∧ ((z = 0 ∧ ¬ ∃ g, gs A g ∧ (Tm p0).flatMap g = (Tm q0).flatMap g) ∨ (z = 1 ∧ ∃ ld f, ldr G' ld ∧ ldi A Dm Y Tm p0 q0 ld [] f))) (37, [some (.ref 432), some (ax_i (p0 : Nat)), some (ax_i (q0 : Nat)), some (ax_i (st.length + 1 : Nat)), x4, x5, x6, x7, x8], [], S1) := by
  have hA := hc.1.2.2
  have htp := hc.2.2.2.1
  obtain ⟨hgl, hi, hk, hl, hs1, hs2⟩ := hu
  have kend : ∀ (S2 : ai_S) (G2 O2 U2 : Nat → Int) (ld2 : lds_t) (f2 : Int → List Int) (x4 x5 x6 x7 x8 : Option Value), fr 432 452 S S2 → mst S2 T D n rc wt kp sx sc (mrw F G2 O2 U2) B → ldr G2 ld2 → ldi A Dm Y Tm p0 q0 ld2 [] f2 → ai_aw L xs (d + 3) ai_m143 (fun (o : ai_O) => ∃ v S', o = (.inl v, S') ∧ fr 432 452 S S' ∧ ∃ G' O' U', mst S' T D n rc wt kp sx sc (mrw F G' O' U') B ∧ ∃ z, v = some (ax_i z) ∧ ((z = 0 ∧ ¬ ∃ g, gs A g ∧ (Tm p0).flatMap g = (Tm q0).flatMap g) ∨ (z = 1 ∧ ∃ ld f, ldr G' ld ∧ ldi A Dm Y Tm p0 q0 ld [] f))) (37, [some (.ref 432), some (ax_i (p0 : Nat)), some (ax_i (q0 : Nat)), some (ax_i (0 : Nat)), x4, x5, x6, x7, x8], [], S2) := by
    intro S2 G2 O2 U2 ld2 f2 x4 x5 x6 x7 x8 g1 g2 g3 g4
    refine aw_loc at_143_37 rfl rfl ?_
    refine ax_if_le at_143_38 ⟨by decide, by decide⟩ (fun _ => ?_) (fun z => absurd z (by decide))
    show ai_aw L xs (d + 3) ai_m143 _ (264, _, _, _)
    refine aw_pure (st' := ax_i (1) :: _) at_143_264 rfl rfl ?_
    exact ax_retZ at_143_265 rfl (Or.inr rfl) ⟨_, _, rfl, g1, G2, O2, U2, g2, 1, rfl, Or.inr ⟨rfl, ld2, f2, g3, g4⟩⟩
  have hlen := skk_few (fun i hi => (hc.2.2.2.2 i hi).1) hk
  have hll : l.length = st.length := by have := congrArg List.length hl; rw [List.length_map, List.length_map] at this; exact this
  have hDt := hi.2.2.2.2.1 (t1, t2) (List.mem_cons_self ..)
  have hsf : (st.map Prod.fst).length = st.length := List.length_map _
  have hss : (st.map Prod.snd).length = st.length := List.length_map _
  have ho1 : O (0 + (st.map Prod.fst).length) = (t1 : Int) := hs1.1
  have ho2 : U (0 + (st.map Prod.snd).length) = (t2 : Int) := hs2.1
  rw [hsf, Nat.zero_add] at ho1
  rw [hss, Nat.zero_add] at ho2
  have kpop : ∀ (S2 : ai_S) (G2 O2 U2 : Nat → Int) (ld2 : lds_t) (f2 : Int → List Int) (u : List Int) (x4 x5 x6 x7 x8 : Option Value), fr 432 452 S S2 → mst S2 T D n rc wt kp sx sc (mrw F G2 O2 U2) B → ldr G2 ld2 → ldi A Dm Y Tm p0 q0 ld2 st f2 → skk Dm (wst Tm f2) u l → rsk O2 0 (st.map Prod.fst) → rsk U2 0 (st.map Prod.snd) → (nub ld2 12 < nub ld 12 ∨ (nub ld2 12 = nub ld 12 ∧ f2 = f)) → ai_aw L xs (d + 3) ai_m143 (fun (o : ai_O) => ∃ v S', o = (.inl v, S') ∧ fr 432 452 S S' ∧ ∃ G' O' U', mst S' T D n rc wt kp sx sc (mrw F G' O' U') B ∧ ∃ z, v = some (ax_i z) ∧ ((z = 0 ∧ ¬ ∃ g, gs A g ∧ (Tm p0).flatMap g = (Tm q0).flatMap g) ∨ (z = 1 ∧ ∃ ld f, ldr G' ld ∧ ldi A Dm Y Tm p0 q0 ld [] f))) (37, [some (.ref 432), some (ax_i (p0 : Nat)), some (ax_i (q0 : Nat)), some (ax_i (st.length : Nat)), x4, x5, x6, x7, x8], [], S2) := by
    intro S2 G2 O2 U2 ld2 f2 u x4 x5 x6 x7 x8 g1 g2 g3 g4 g5 g6 g7 g8
    cases hst : st with
    | nil => rw [hst] at g4; exact kend S2 G2 O2 U2 ld2 f2 x4 x5 x6 x7 x8 g1 g2 g3 g4
    | cons q st' =>
      rw [hst] at g4 g6 g7 hl
      cases hl9 : l with
      | nil => rw [hl9] at hl; cases hl
      | cons e l' =>
        rw [hl9] at hl g5
        have he : e.1 = q.1 := (List.cons.inj hl).1
        have hl2 : l'.map Prod.fst = st'.map Prod.fst := (List.cons.inj hl).2
        refine kont S2 G2 O2 U2 ld2 f2 q.1 q.2 st' l' x4 x5 x6 x7 x8 g1 g2 ⟨g3, g4, skk_in l' _ _ (fun w hw => ins_trans (by rw [← he]; exact g5.2.2.1) hw) g5.2.2.2, hl2, g6, g7⟩ (g8.imp id (fun g9 => ⟨g9.1, ?_⟩))
        rw [g9.2, hst]
        unfold unl
        show _ < ((t1 :: q.1 :: st'.map Prod.fst).flatMap (wst Tm f)).length
        rw [List.flatMap_cons (x := t1), List.length_append]
        have := List.length_pos_iff.2 (ts_ne (gs_ts hA hi.1.1 (htp.2.2 t1 hDt.1)))
        have hm2 : (wst Tm f t1).length = ((Tm t1).flatMap f).length := rfl
        omega
  obtain ⟨rk, hrk⟩ := hi.2.2.2.2.2
  have hg : mld Dm Y G ld rk := ⟨hgl, hi.1.2.2.2, hrk⟩
  have ho := h.1
  have r13 : ai_arr S1 446 0 = some (128, ax_f ((mrw F G O U) 13)) := h.2.1 13 (by decide)
  rw [show (mrw F G O U) 13 = F 13 from mrw_ne (by decide) (by decide) (by decide)] at r13
  have r15 : ai_arr S1 448 0 = some (400, ax_f ((mrw F G O U) 15)) := h.2.1 15 (by decide)
  rw [show (mrw F G O U) 15 = O from mrw_15] at r15
  have r16 : ai_arr S1 449 0 = some (400, ax_f ((mrw F G O U) 16)) := h.2.1 16 (by decide)
  rw [show (mrw F G O U) 16 = U from mrw_16] at r16
  rw [show ((st.length + 1 : Nat) : Int) = (st.length : Int) + 1 by omega]
  refine aw_loc at_143_37 rfl rfl ?_
  refine ax_if_le at_143_38 ⟨by omega, by omega⟩ (fun z => absurd z (by omega)) (fun _ => ?_)
  refine ax_inc at_143_41 rfl rfl rfl ?_
  rw [show (st.length : Int) + 1 + -1 = (st.length : Int) by omega]
  refine aw_loc at_143_44 rfl rfl ?_
  refine aw_loc at_143_45 rfl rfl ?_
  refine aw_get at_143_46 rfl fl_12_55 ho rfl ?_
  refine aw_loc at_143_49 rfl rfl ?_
  refine ax_ild at_143_50 rfl r15 (k := st.length) rfl (by omega) (by decide) ?_
  rw [ho1]
  refine aw_cv (a := 432) [ax_i (t1 : Nat)] [] at_143_51 mt_12_175 (Or.inl rfl) rfl rfl (Nat.le_of_ble_eq_true rfl) ⟨_, ho⟩ ((r_m_fol (d := d + 2) h hc hg (hc.2.2.2.2 t1 hDt.1).2.1).mono ?_)
  rintro v S0 ⟨hS, x, rfl, hgo1⟩
  have hS2 := hS.symm
  subst hS2
  have hx := fgo_fol hA htp hDt.1 hgo1
  refine aw_loc at_143_54 rfl rfl ?_
  refine aw_loc at_143_56 rfl rfl ?_
  refine aw_loc at_143_57 rfl rfl ?_
  refine aw_get at_143_58 rfl fl_12_58 ho rfl ?_
  refine aw_loc at_143_61 rfl rfl ?_
  refine ax_ild at_143_62 rfl r16 (k := st.length) rfl (by omega) (by decide) ?_
  rw [ho2]
  refine aw_cv (a := 432) [ax_i (t2 : Nat)] [] at_143_63 mt_12_175 (Or.inl rfl) rfl rfl (Nat.le_of_ble_eq_true rfl) ⟨_, ho⟩ ((r_m_fol (d := d + 2) h hc hg (hc.2.2.2.2 t2 hDt.2).2.1).mono ?_)
  rintro v S0 ⟨hS, y, rfl, hgo2⟩
  have hS2 := hS.symm
  subst hS2
  have hy := fgo_fol hA htp hDt.2 hgo2
  have lx := (hc.2.2.2.2 x hx.1).2.1
  have ly := (hc.2.2.2.2 y hy.1).2.1
  have nx := co_in lx.2.1
  have ny := co_in ly.2.1
  have x9 := (hc.2.2.2.2 x hx.1).1
  have y9 := (hc.2.2.2.2 y hy.1).1
  have kx := kn_lt lx.2.1
  have ky := kn_lt ly.2.1
  refine aw_loc at_143_66 rfl rfl ?_
  refine aw_loc at_143_68 rfl rfl ?_
  refine aw_get at_143_69 rfl fl_12_49 ho rfl ?_
  refine aw_loc at_143_72 rfl rfl ?_
  refine ax_ild at_143_74 rfl r13 (k := x) rfl (by omega) (by decide) ?_
  rw [lx.2.2]
  refine aw_loc at_143_75 rfl rfl ?_
  refine aw_loc at_143_77 rfl rfl ?_
  refine aw_get at_143_78 rfl fl_12_49 ho rfl ?_
  refine aw_loc at_143_81 rfl rfl ?_
  refine ax_ild at_143_83 rfl r13 (k := y) rfl (by omega) (by decide) ?_
  rw [ly.2.2]
  refine aw_loc at_143_84 rfl rfl ?_
  have hno : ∀ (S2 : ai_S) (G2 O2 U2 : Nat → Int), fr 432 452 S S2 → mst S2 T D n rc wt kp sx sc (mrw F G2 O2 U2) B → (¬ ∃ g, gs A g ∧ (Tm p0).flatMap g = (Tm q0).flatMap g) → (fun (o : ai_O) => ∃ v S', o = (.inl v, S') ∧ fr 432 452 S S' ∧ ∃ G' O' U', mst S' T D n rc wt kp sx sc (mrw F G' O' U') B ∧ ∃ z, v = some (ax_i z) ∧ ((z = 0 ∧ ¬ ∃ g, gs A g ∧ (Tm p0).flatMap g = (Tm q0).flatMap g) ∨ (z = 1 ∧ ∃ ld f, ldr G' ld ∧ ldi A Dm Y Tm p0 q0 ld [] f))) (.inl (some (ax_i 0)), S2) := fun S2 G2 O2 U2 g1 g2 g3 => ⟨_, _, rfl, g1, G2, O2, U2, g2, 0, rfl, Or.inl ⟨rfl, g3⟩⟩
  have k179n : ∀ (S2 : ai_S) (x8 : Option Value), Y x ≠ Y y → ai_aw L xs (d + 3) ai_m143 (fun (o : ai_O) => ∃ v S', o = (.inl v, S') ∧ fr 432 452 S S' ∧ ∃ G' O' U', mst S' T D n rc wt kp sx sc (mrw F G' O' U') B ∧ ∃ z, v = some (ax_i z) ∧ ((z = 0 ∧ ¬ ∃ g, gs A g ∧ (Tm p0).flatMap g = (Tm q0).flatMap g) ∨ (z = 1 ∧ ∃ ld f, ldr G' ld ∧ ldi A Dm Y Tm p0 q0 ld [] f))) (37, [some (.ref 432), some (ax_i (p0 : Nat)), some (ax_i (q0 : Nat)), some (ax_i (st.length : Nat)), some (ax_i (x : Nat)), some (ax_i (y : Nat)), some (ax_i (co (Y x))), some (ax_i (co (Y y))), some (ax_i 0)], [], S2) → ai_aw L xs (d + 3) ai_m143 (fun (o : ai_O) => ∃ v S', o = (.inl v, S') ∧ fr 432 452 S S' ∧ ∃ G' O' U', mst S' T D n rc wt kp sx sc (mrw F G' O' U') B ∧ ∃ z, v = some (ax_i z) ∧ ((z = 0 ∧ ¬ ∃ g, gs A g ∧ (Tm p0).flatMap g = (Tm q0).flatMap g) ∨ (z = 1 ∧ ∃ ld f, ldr G' ld ∧ ldi A Dm Y Tm p0 q0 ld [] f))) (179, [some (.ref 432), some (ax_i (p0 : Nat)), some (ax_i (q0 : Nat)), some (ax_i (st.length : Nat)), some (ax_i (x : Nat)), some (ax_i (y : Nat)), some (ax_i (co (Y x))), some (ax_i (co (Y y))), x8], [], S2) := by
    intro S2 x8 hne kk
    have hne2 : co (Y x) ≠ co (Y y) := fun e => hne (co_inj lx.2.1 ly.2.1 e)
    refine aw_pure (st' := ax_i (0) :: _) at_143_179 rfl rfl ?_
    refine aw_loc at_143_180 rfl rfl ?_
    refine aw_loc at_143_182 rfl rfl ?_
    refine aw_loc at_143_184 rfl rfl ?_
    refine ax_icmp_ne at_143_186 ⟨by omega, by omega⟩ ⟨by omega, by omega⟩ (fun _ => ?_) (fun z => absurd z hne2)
    show ai_aw L xs (d + 3) ai_m143 _ (261, _, _, _)
    exact aw_goto at_143_261 kk
  have k179e : ∀ (x8 : Option Value), Y x = Y y → ai_aw L xs (d + 3) ai_m143 (fun (o : ai_O) => ∃ v S', o = (.inl v, S') ∧ fr 432 452 S S' ∧ ∃ G' O' U', mst S' T D n rc wt kp sx sc (mrw F G' O' U') B ∧ ∃ z, v = some (ax_i z) ∧ ((z = 0 ∧ ¬ ∃ g, gs A g ∧ (Tm p0).flatMap g = (Tm q0).flatMap g) ∨ (z = 1 ∧ ∃ ld f, ldr G' ld ∧ ldi A Dm Y Tm p0 q0 ld [] f))) (179, [some (.ref 432), some (ax_i (p0 : Nat)), some (ax_i (q0 : Nat)), some (ax_i (st.length : Nat)), some (ax_i (x : Nat)), some (ax_i (y : Nat)), some (ax_i (co (Y x))), some (ax_i (co (Y y))), x8], [], S1) := by
    intro x8 hYe
    refine aw_pure (st' := ax_i (0) :: _) at_143_179 rfl rfl ?_
    refine aw_loc at_143_180 rfl rfl ?_
    have hA2 := hc.2.2.1 (Y x)
    have har := ar_co hc.1.2 lx.2.1
    have hAe : A (Y y) = A (Y x) := by rw [hYe]
    have hce : co (Y x) = co (Y y) := by rw [hYe]
    have kpush : ∀ (k : Nat) (sa sb : List Nat) (O2 U2 : Nat → Int) (S2 : ai_S), k < A (Y x) → sa.length < 90 → sb.length = sa.length → rsk O2 0 sa → rsk U2 0 sb → fr 432 452 S S2 → mst S2 T D n rc wt kp sx sc (mrw F G O2 U2) B → (∀ (O3 U3 : Nat → Int) (S3 : ai_S), rsk O3 0 (chp en x k :: sa) → rsk U3 0 (chp en y k :: sb) → fr 432 452 S S3 → mst S3 T D n rc wt kp sx sc (mrw F G O3 U3) B → ai_aw L xs (d + 3) ai_m143 (fun (o : ai_O) => ∃ v S', o = (.inl v, S') ∧ fr 432 452 S S' ∧ ∃ G' O' U', mst S' T D n rc wt kp sx sc (mrw F G' O' U') B ∧ ∃ z, v = some (ax_i z) ∧ ((z = 0 ∧ ¬ ∃ g, gs A g ∧ (Tm p0).flatMap g = (Tm q0).flatMap g) ∨ (z = 1 ∧ ∃ ld f, ldr G' ld ∧ ldi A Dm Y Tm p0 q0 ld [] f))) (182, [some (.ref 432), some (ax_i (p0 : Nat)), some (ax_i (q0 : Nat)), some (ax_i (sa.length + 1 : Nat)), some (ax_i (x : Nat)), some (ax_i (y : Nat)), some (ax_i (co (Y x))), some (ax_i (co (Y y))), some (ax_i (k + 1 : Nat))], [], S3)) → ai_aw L xs (d + 3) ai_m143 (fun (o : ai_O) => ∃ v S', o = (.inl v, S') ∧ fr 432 452 S S' ∧ ∃ G' O' U', mst S' T D n rc wt kp sx sc (mrw F G' O' U') B ∧ ∃ z, v = some (ax_i z) ∧ ((z = 0 ∧ ¬ ∃ g, gs A g ∧ (Tm p0).flatMap g = (Tm q0).flatMap g) ∨ (z = 1 ∧ ∃ ld f, ldr G' ld ∧ ldi A Dm Y Tm p0 q0 ld [] f))) (182, [some (.ref 432), some (ax_i (p0 : Nat)), some (ax_i (q0 : Nat)), some (ax_i (sa.length : Nat)), some (ax_i (x : Nat)), some (ax_i (y : Nat)), some (ax_i (co (Y x))), some (ax_i (co (Y y))), some (ax_i (k : Nat))], [], S2) := by
      intro k sa sb O2 U2 S2 hk9 hst hsb hr1 hr2 f2 h2 kk
      have ho := h2.1
      have r0 : ai_arr S2 433 0 = some (8, ax_f ((mrw F G O2 U2) 0)) := h2.2.1 0 (by decide)
      rw [show (mrw F G O2 U2) 0 = F 0 from mrw_ne (by decide) (by decide) (by decide)] at r0
      have r13 : ai_arr S2 446 0 = some (128, ax_f ((mrw F G O2 U2) 13)) := h2.2.1 13 (by decide)
      rw [show (mrw F G O2 U2) 13 = F 13 from mrw_ne (by decide) (by decide) (by decide)] at r13
      have r15 : ai_arr S2 448 0 = some (400, ax_f ((mrw F G O2 U2) 15)) := h2.2.1 15 (by decide)
      rw [show (mrw F G O2 U2) 15 = O2 from mrw_15] at r15
      have r16 : ai_arr S2 449 0 = some (400, ax_f ((mrw F G O2 U2) 16)) := h2.2.1 16 (by decide)
      rw [show (mrw F G O2 U2) 16 = U2 from mrw_16] at r16
      have hDx := htp.1 x hx.1 k hk9
      have hDx0 := htp.1 x hx.1 0 (by omega)
      have hDy := htp.1 y hy.1 k (by omega)
      have hDy0 := htp.1 y hy.1 0 (by omega)
      have hDx9 := (hc.2.2.2.2 _ hDx).1
      have hDy9 := (hc.2.2.2.2 _ hDy).1
      refine aw_loc at_143_182 rfl rfl ?_
      refine aw_loc at_143_184 rfl rfl ?_
      refine ax_icmp_ne at_143_186 ⟨by omega, by omega⟩ ⟨by omega, by omega⟩ (fun z => absurd hce z) (fun _ => ?_)
      refine aw_loc at_143_189 rfl rfl ?_
      refine aw_loc at_143_191 rfl rfl ?_
      refine aw_loc at_143_192 rfl rfl ?_
      refine aw_cv (a := 432) [ax_i (co (Y x))] [ax_i (k : Nat)] at_143_194 mt_12_96 (Or.inl rfl) rfl rfl (Nat.le_of_ble_eq_true rfl) ⟨_, ho⟩ ((r_m_places ho r0 (by omega)).mono ?_)
      rintro v S0 ⟨hS, rfl⟩
      have hS2 := hS.symm
      subst hS2
      rw [har]
      refine ax_icmp_ge at_143_197 ⟨by omega, by omega⟩ ⟨by omega, by omega⟩ (fun z => absurd z (by omega)) (fun _ => ?_)
      have kot : ∀ (S3 : ai_S), fr 432 452 S S3 → mst S3 T D n rc wt kp sx sc (mrw F G (ax_up O2 (0 + sa.length) (chp en x k : Nat)) U2) B → ai_aw L xs (d + 3) ai_m143 (fun (o : ai_O) => ∃ v S', o = (.inl v, S') ∧ fr 432 452 S S' ∧ ∃ G' O' U', mst S' T D n rc wt kp sx sc (mrw F G' O' U') B ∧ ∃ z, v = some (ax_i z) ∧ ((z = 0 ∧ ¬ ∃ g, gs A g ∧ (Tm p0).flatMap g = (Tm q0).flatMap g) ∨ (z = 1 ∧ ∃ ld f, ldr G' ld ∧ ldi A Dm Y Tm p0 q0 ld [] f))) (226, [some (.ref 432), some (ax_i (p0 : Nat)), some (ax_i (q0 : Nat)), some (ax_i (sa.length : Nat)), some (ax_i (x : Nat)), some (ax_i (y : Nat)), some (ax_i (co (Y x))), some (ax_i (co (Y y))), some (ax_i (k : Nat))], [], S3) := by
        intro S3 f3 h3
        have ho := h3.1
        have r0 : ai_arr S3 433 0 = some (8, ax_f ((mrw F G (ax_up O2 (0 + sa.length) (chp en x k : Nat)) U2) 0)) := h3.2.1 0 (by decide)
        rw [show (mrw F G (ax_up O2 (0 + sa.length) (chp en x k : Nat)) U2) 0 = F 0 from mrw_ne (by decide) (by decide) (by decide)] at r0
        have r13 : ai_arr S3 446 0 = some (128, ax_f ((mrw F G (ax_up O2 (0 + sa.length) (chp en x k : Nat)) U2) 13)) := h3.2.1 13 (by decide)
        rw [show (mrw F G (ax_up O2 (0 + sa.length) (chp en x k : Nat)) U2) 13 = F 13 from mrw_ne (by decide) (by decide) (by decide)] at r13
        have r15 : ai_arr S3 448 0 = some (400, ax_f ((mrw F G (ax_up O2 (0 + sa.length) (chp en x k : Nat)) U2) 15)) := h3.2.1 15 (by decide)
        rw [show (mrw F G (ax_up O2 (0 + sa.length) (chp en x k : Nat)) U2) 15 = ax_up O2 (0 + sa.length) (chp en x k : Nat) from mrw_15] at r15
        have r16 : ai_arr S3 449 0 = some (400, ax_f ((mrw F G (ax_up O2 (0 + sa.length) (chp en x k : Nat)) U2) 16)) := h3.2.1 16 (by decide)
        rw [show (mrw F G (ax_up O2 (0 + sa.length) (chp en x k : Nat)) U2) 16 = U2 from mrw_16] at r16
        refine aw_loc at_143_226 rfl rfl ?_
        refine aw_get at_143_227 rfl fl_12_58 ho rfl ?_
        refine aw_loc at_143_230 rfl rfl ?_
        refine aw_loc at_143_231 rfl rfl ?_
        have kst : ai_aw L xs (d + 3) ai_m143 (fun (o : ai_O) => ∃ v S', o = (.inl v, S') ∧ fr 432 452 S S' ∧ ∃ G' O' U', mst S' T D n rc wt kp sx sc (mrw F G' O' U') B ∧ ∃ z, v = some (ax_i z) ∧ ((z = 0 ∧ ¬ ∃ g, gs A g ∧ (Tm p0).flatMap g = (Tm q0).flatMap g) ∨ (z = 1 ∧ ∃ ld f, ldr G' ld ∧ ldi A Dm Y Tm p0 q0 ld [] f))) (251, [some (.ref 432), some (ax_i (p0 : Nat)), some (ax_i (q0 : Nat)), some (ax_i (sa.length : Nat)), some (ax_i (x : Nat)), some (ax_i (y : Nat)), some (ax_i (co (Y x))), some (ax_i (co (Y y))), some (ax_i (k : Nat))], [ax_i (chp en y k : Nat), ax_i (sa.length : Nat), .ref 449], S3) := by
          refine ax_ist (k := 0 + sb.length) at_143_251 rfl r16 (by omega) (by omega) (by decide) ?_
          have h4 : mst (ai_wr S3 449 (.inl (0, ai_I 400 (ax_f (ax_up U2 (0 + sb.length) (chp en y k : Nat)))))) T D n rc wt kp sx sc (mrw F G (ax_up O2 (0 + sa.length) (chp en x k : Nat)) (ax_up U2 (0 + sb.length) (chp en y k : Nat))) B := mst_w16 h3
          refine ax_inc at_143_252 rfl rfl rfl ?_
          refine ax_inc at_143_255 rfl rfl rfl ?_
          refine aw_goto at_143_258 ?_
          have := kk _ _ _ (rsk_push hr1) (rsk_push hr2) (f3.tr (fr_md (by decide) (by decide))) h4
          rw [Int.natCast_add, Int.natCast_add] at this
          exact this
        by_cases hk0 : k = 0
        · skip
          subst hk0
          refine ax_if_ne at_143_233 ⟨by decide, by decide⟩ (fun z => absurd rfl z) (fun _ => ?_)
          refine aw_loc at_143_236 rfl rfl ?_
          refine aw_pure (st' := ax_i (1) :: _) at_143_238 rfl rfl ?_
          refine ax_add at_143_239 rfl ?_
          refine aw_goto at_143_240 ?_
          rw [show (y : Int) + 1 = ((chp en y 0 : Nat) : Int) by show (y : Int) + 1 = ((y + 1 : Nat) : Int); omega]
          exact kst
        · skip
          refine ax_if_ne at_143_233 ⟨by omega, by omega⟩ (fun _ => ?_) (fun z => absurd z (by omega))
          refine aw_loc at_143_243 rfl rfl ?_
          refine aw_loc at_143_244 rfl rfl ?_
          refine aw_pure (st' := ax_i (1) :: _) at_143_246 rfl rfl ?_
          refine ax_add at_143_247 rfl ?_
          rw [show (y : Int) + 1 = ((y + 1 : Nat) : Int) by omega]
          refine aw_cv (a := 432) [ax_i ((y + 1 : Nat) : Int)] [ax_i (sa.length : Nat), .ref 449] at_143_248 mt_12_178 (Or.inl rfl) rfl rfl (Nat.le_of_ble_eq_true rfl) ⟨_, ho⟩ ((r_m_eic (en := en) (d := d + 1) h3 hc.1.1 hc.2.1 (hc.2.2.2.2 _ hDy0).2.2).mono ?_)
          rintro v S0 ⟨hS, rfl⟩
          have hS2 := hS.symm
          subst hS2
          rw [show en (chp en y 0) = chp en y k from (if_neg hk0).symm]
          exact kst
      refine aw_loc at_143_200 rfl rfl ?_
      refine aw_get at_143_201 rfl fl_12_55 ho rfl ?_
      refine aw_loc at_143_204 rfl rfl ?_
      refine aw_loc at_143_205 rfl rfl ?_
      have kst : ai_aw L xs (d + 3) ai_m143 (fun (o : ai_O) => ∃ v S', o = (.inl v, S') ∧ fr 432 452 S S' ∧ ∃ G' O' U', mst S' T D n rc wt kp sx sc (mrw F G' O' U') B ∧ ∃ z, v = some (ax_i z) ∧ ((z = 0 ∧ ¬ ∃ g, gs A g ∧ (Tm p0).flatMap g = (Tm q0).flatMap g) ∨ (z = 1 ∧ ∃ ld f, ldr G' ld ∧ ldi A Dm Y Tm p0 q0 ld [] f))) (225, [some (.ref 432), some (ax_i (p0 : Nat)), some (ax_i (q0 : Nat)), some (ax_i (sa.length : Nat)), some (ax_i (x : Nat)), some (ax_i (y : Nat)), some (ax_i (co (Y x))), some (ax_i (co (Y y))), some (ax_i (k : Nat))], [ax_i (chp en x k : Nat), ax_i (sa.length : Nat), .ref 448], S2) := by
        refine ax_ist (k := 0 + sa.length) at_143_225 rfl r15 (by omega) (by omega) (by decide) ?_
        exact kot _ (f2.tr (fr_md (by decide) (by decide))) (mst_w15 h2)
      by_cases hk0 : k = 0
      · skip
        subst hk0
        refine ax_if_ne at_143_207 ⟨by decide, by decide⟩ (fun z => absurd rfl z) (fun _ => ?_)
        refine aw_loc at_143_210 rfl rfl ?_
        refine aw_pure (st' := ax_i (1) :: _) at_143_212 rfl rfl ?_
        refine ax_add at_143_213 rfl ?_
        refine aw_goto at_143_214 ?_
        rw [show (x : Int) + 1 = ((chp en x 0 : Nat) : Int) by show (x : Int) + 1 = ((x + 1 : Nat) : Int); omega]
        exact kst
      · skip
        refine ax_if_ne at_143_207 ⟨by omega, by omega⟩ (fun _ => ?_) (fun z => absurd z (by omega))
        refine aw_loc at_143_217 rfl rfl ?_
        refine aw_loc at_143_218 rfl rfl ?_
        refine aw_pure (st' := ax_i (1) :: _) at_143_220 rfl rfl ?_
        refine ax_add at_143_221 rfl ?_
        rw [show (x : Int) + 1 = ((x + 1 : Nat) : Int) by omega]
        refine aw_cv (a := 432) [ax_i ((x + 1 : Nat) : Int)] [ax_i (sa.length : Nat), .ref 448] at_143_222 mt_12_178 (Or.inl rfl) rfl rfl (Nat.le_of_ble_eq_true rfl) ⟨_, ho⟩ ((r_m_eic (en := en) (d := d + 1) h2 hc.1.1 hc.2.1 (hc.2.2.2.2 _ hDx0).2.2).mono ?_)
        rintro v S0 ⟨hS, rfl⟩
        have hS2 := hS.symm
        subst hS2
        rw [show en (chp en x 0) = chp en x k from (if_neg hk0).symm]
        exact kst
    have kex : ∀ (k m9 : Nat) (O2 U2 : Nat → Int) (S2 : ai_S), k = A (Y x) → mst S2 T D n rc wt kp sx sc (mrw F G O2 U2) B → ai_aw L xs (d + 3) ai_m143 (fun (o : ai_O) => ∃ v S', o = (.inl v, S') ∧ fr 432 452 S S' ∧ ∃ G' O' U', mst S' T D n rc wt kp sx sc (mrw F G' O' U') B ∧ ∃ z, v = some (ax_i z) ∧ ((z = 0 ∧ ¬ ∃ g, gs A g ∧ (Tm p0).flatMap g = (Tm q0).flatMap g) ∨ (z = 1 ∧ ∃ ld f, ldr G' ld ∧ ldi A Dm Y Tm p0 q0 ld [] f))) (37, [some (.ref 432), some (ax_i (p0 : Nat)), some (ax_i (q0 : Nat)), some (ax_i (m9 : Nat)), some (ax_i (x : Nat)), some (ax_i (y : Nat)), some (ax_i (co (Y x))), some (ax_i (co (Y y))), some (ax_i (k : Nat))], [], S2) → ai_aw L xs (d + 3) ai_m143 (fun (o : ai_O) => ∃ v S', o = (.inl v, S') ∧ fr 432 452 S S' ∧ ∃ G' O' U', mst S' T D n rc wt kp sx sc (mrw F G' O' U') B ∧ ∃ z, v = some (ax_i z) ∧ ((z = 0 ∧ ¬ ∃ g, gs A g ∧ (Tm p0).flatMap g = (Tm q0).flatMap g) ∨ (z = 1 ∧ ∃ ld f, ldr G' ld ∧ ldi A Dm Y Tm p0 q0 ld [] f))) (182, [some (.ref 432), some (ax_i (p0 : Nat)), some (ax_i (q0 : Nat)), some (ax_i (m9 : Nat)), some (ax_i (x : Nat)), some (ax_i (y : Nat)), some (ax_i (co (Y x))), some (ax_i (co (Y y))), some (ax_i (k : Nat))], [], S2) := by
      intro k m9 O2 U2 S2 hk9 h2 kk
      have ho := h2.1
      have r0 : ai_arr S2 433 0 = some (8, ax_f ((mrw F G O2 U2) 0)) := h2.2.1 0 (by decide)
      rw [show (mrw F G O2 U2) 0 = F 0 from mrw_ne (by decide) (by decide) (by decide)] at r0
      refine aw_loc at_143_182 rfl rfl ?_
      refine aw_loc at_143_184 rfl rfl ?_
      refine ax_icmp_ne at_143_186 ⟨by omega, by omega⟩ ⟨by omega, by omega⟩ (fun z => absurd hce z) (fun _ => ?_)
      refine aw_loc at_143_189 rfl rfl ?_
      refine aw_loc at_143_191 rfl rfl ?_
      refine aw_loc at_143_192 rfl rfl ?_
      refine aw_cv (a := 432) [ax_i (co (Y x))] [ax_i (k : Nat)] at_143_194 mt_12_96 (Or.inl rfl) rfl rfl (Nat.le_of_ble_eq_true rfl) ⟨_, ho⟩ ((r_m_places ho r0 (by omega)).mono ?_)
      rintro v S0 ⟨hS, rfl⟩
      have hS2 := hS.symm
      subst hS2
      rw [har]
      refine ax_icmp_ge at_143_197 ⟨by omega, by omega⟩ ⟨by omega, by omega⟩ (fun _ => ?_) (fun z => absurd z (by omega))
      show ai_aw L xs (d + 3) ai_m143 _ (261, _, _, _)
      exact aw_goto at_143_261 kk
    have hW : wst Tm f t1 = Y x :: (List.range (A (Y x))).flatMap fun k => wst Tm f (chp en x k) := by rw [← fol_put hA htp hi hx]; exact (hx.2.2.1 f hi.1.1 hi.1.2.1).symm
    have hWx : wst Tm f x = wst Tm f t1 := hx.2.2.1 f hi.1.1 hi.1.2.1
    have hinc : ∀ k, k < A (Y x) → ins (wst Tm f (chp en x k)) (wst Tm f t1) := fun k hk => by rw [← hWx]; exact ins_ch hA htp hi.1.1 hx.1 hk
    have hun : unl Tm f t1 st = 1 + ((List.range (A (Y x))).flatMap fun k => wst Tm f (chp en x k)).length + ((st.map Prod.fst).flatMap (wst Tm f)).length := by
      unfold unl
      rw [List.flatMap_cons, hW, List.length_append, List.length_cons]
      omega
    obtain h0 | h0 | h0 : A (Y x) = 0 ∨ A (Y x) = 1 ∨ A (Y x) = 2 := by omega
    · refine kex 0 st.length O U S1 h0.symm h ?_
      exact kpop S1 G O U ld f _ _ _ _ _ _ f1 h hgl (ldi_same hA htp hi hx hy hYe ⟨fun q hq => Or.inl hq, fun q hq => hq, fun k hk => by omega⟩) hk hs1.2 hs2.2 (Or.inr ⟨rfl, rfl⟩)
    · have kp := kpush 0 (st.map Prod.fst) (st.map Prod.snd) O U S1 (by omega) (by omega) (by omega) hs1.2 hs2.2 f1 h
      rw [hsf] at kp
      refine kp fun O3 U3 S3 g1 g2 g3 g4 => ?_
      refine kex 1 (st.length + 1) O3 U3 S3 h0.symm g4 ?_
      refine kont S3 G O3 U3 ld f (chp en x 0) (chp en y 0) st l _ _ _ _ _ g3 g4 ⟨hgl, ldi_same hA htp hi hx hy hYe ⟨fun q hq => (List.mem_cons.1 hq).elim (fun e => Or.inr ⟨0, by omega, e⟩) Or.inl, fun q hq => List.mem_cons_of_mem _ hq, fun k hk => by obtain rfl : k = 0 := (by omega); exact List.mem_cons_self ..⟩, skk_in l _ _ (fun w hw => ins_trans (hinc 0 (by omega)) hw) hk, hl, g1, g2⟩ (Or.inr ⟨rfl, ?_⟩)
      rw [hun, h0]
      show (wst Tm f (chp en x 0) ++ (st.map Prod.fst).flatMap (wst Tm f)).length < 1 + (wst Tm f (chp en x 0) ++ []).length + _
      rw [List.length_append, List.append_nil]
      omega
    · have kp := kpush 0 (st.map Prod.fst) (st.map Prod.snd) O U S1 (by omega) (by omega) (by omega) hs1.2 hs2.2 f1 h
      rw [hsf] at kp
      refine kp fun O3 U3 S3 g1 g2 g3 g4 => ?_
      have kp2 := kpush 1 (chp en x 0 :: st.map Prod.fst) (chp en y 0 :: st.map Prod.snd) O3 U3 S3 (by omega) (by rw [List.length_cons]; omega) (by rw [List.length_cons, List.length_cons]; omega) g1 g2 g3 g4
      rw [List.length_cons, hsf] at kp2
      refine kp2 fun O4 U4 S4 e1 e2 e3 e4 => ?_
      refine kex 2 (st.length + 1 + 1) O4 U4 S4 h0.symm e4 ?_
      refine kont S4 G O4 U4 ld f (chp en x 1) (chp en y 1) ((chp en x 0, chp en y 0) :: st) ((chp en x 0, x) :: l) _ _ _ _ _ e3 e4 ⟨hgl, ldi_same hA htp hi hx hy hYe ⟨fun q hq => ?_, fun q hq => List.mem_cons_of_mem _ (List.mem_cons_of_mem _ hq), fun k hk => ?_⟩, ⟨hx.1, by rw [hWx]; exact hinc 1 (by omega), by rw [hWx]; exact hinc 0 (by omega), by rw [hWx]; exact hk⟩, congrArg (chp en x 0 :: ·) hl, e1, e2⟩ (Or.inr ⟨rfl, ?_⟩)
      · rcases List.mem_cons.1 hq with e | hq
        · exact Or.inr ⟨1, by omega, e⟩
        · rcases List.mem_cons.1 hq with e | hq
          · exact Or.inr ⟨0, by omega, e⟩
          · exact Or.inl hq
      · obtain rfl | rfl : k = 0 ∨ k = 1 := by omega
        · exact List.mem_cons_of_mem _ (List.mem_cons_self ..)
        · exact List.mem_cons_self ..
      · rw [hun, h0]
        show (wst Tm f (chp en x 1) ++ (wst Tm f (chp en x 0) ++ (st.map Prod.fst).flatMap (wst Tm f))).length < 1 + (wst Tm f (chp en x 0) ++ (wst Tm f (chp en x 1) ++ [])).length + _
        rw [List.append_nil, List.length_append, List.length_append, List.length_append]
        omega
  have k170 : ((Y x < 117 ∧ Y y < 117) ∨ Y x = Y y) → ai_aw L xs (d + 3) ai_m143 (fun (o : ai_O) => ∃ v S', o = (.inl v, S') ∧ fr 432 452 S S' ∧ ∃ G' O' U', mst S' T D n rc wt kp sx sc (mrw F G' O' U') B ∧ ∃ z, v = some (ax_i z) ∧ ((z = 0 ∧ ¬ ∃ g, gs A g ∧ (Tm p0).flatMap g = (Tm q0).flatMap g) ∨ (z = 1 ∧ ∃ ld f, ldr G' ld ∧ ldi A Dm Y Tm p0 q0 ld [] f))) (170, [some (.ref 432), some (ax_i (p0 : Nat)), some (ax_i (q0 : Nat)), some (ax_i (st.length : Nat)), some (ax_i (x : Nat)), some (ax_i (y : Nat)), some (ax_i (co (Y x))), some (ax_i (co (Y y))), x8], [], S1) := by
    intro hor
    refine aw_loc at_143_170 rfl rfl ?_
    refine aw_loc at_143_172 rfl rfl ?_
    refine ax_icmp_eq at_143_174 ⟨by omega, by omega⟩ ⟨by omega, by omega⟩ (fun e => k179e _ (co_inj lx.2.1 ly.2.1 e)) (fun e => ?_)
    refine aw_pure (st' := ax_i (0) :: _) at_143_177 rfl rfl ?_
    have hne : Y x ≠ Y y := fun e9 => e (by rw [e9])
    have hor2 := hor.resolve_right hne
    exact ax_retZ at_143_178 rfl (Or.inl rfl) (hno S1 G O U f1 h (ldi_clash hA htp hi hx hy hor2.1 hor2.2 hne))
  have k128 : (Y x < 117 ∨ Y x = Y y) → ai_aw L xs (d + 3) ai_m143 (fun (o : ai_O) => ∃ v S', o = (.inl v, S') ∧ fr 432 452 S S' ∧ ∃ G' O' U', mst S' T D n rc wt kp sx sc (mrw F G' O' U') B ∧ ∃ z, v = some (ax_i z) ∧ ((z = 0 ∧ ¬ ∃ g, gs A g ∧ (Tm p0).flatMap g = (Tm q0).flatMap g) ∨ (z = 1 ∧ ∃ ld f, ldr G' ld ∧ ldi A Dm Y Tm p0 q0 ld [] f))) (128, [some (.ref 432), some (ax_i (p0 : Nat)), some (ax_i (q0 : Nat)), some (ax_i (st.length : Nat)), some (ax_i (x : Nat)), some (ax_i (y : Nat)), some (ax_i (co (Y x))), some (ax_i (co (Y y))), x8], [], S1) := by
    intro hor
    refine aw_loc at_143_128 rfl rfl ?_
    refine aw_pure (st' := ax_i (8) :: _) at_143_130 rfl rfl ?_
    refine ax_icmp_lt at_143_132 ⟨by omega, by omega⟩ ⟨by omega, by omega⟩ (fun z => k170 (by omega)) (fun z => ?_)
    refine aw_loc at_143_135 rfl rfl ?_
    refine aw_loc at_143_137 rfl rfl ?_
    refine ax_icmp_eq at_143_139 ⟨by omega, by omega⟩ ⟨by omega, by omega⟩ (fun e => k170 (Or.inr (co_inj lx.2.1 ly.2.1 e))) (fun z2 => ?_)
    refine aw_loc at_143_142 rfl rfl ?_
    refine aw_loc at_143_143 rfl rfl ?_
    refine aw_loc at_143_145 rfl rfl ?_
    have hne : Y x ≠ Y y := fun e9 => z2 (by rw [e9])
    have hv : 117 ≤ Y y := by omega
    refine aw_cv (a := 432) [ax_i (co (Y y)), ax_i (x : Nat)] [] at_143_147 mt_12_181 (Or.inl rfl) rfl rfl (Nat.le_of_ble_eq_true rfl) ⟨_, ho⟩ ((r_m_occ (d := d) h hc hgl hi ly.2.1 hx.1).mono ?_)
    rintro v S2 ⟨f2, U2, h2, hu2, z, rfl, hz⟩
    have hz9 := hz.le
    have hnc : z ≠ 0 → ¬ ∃ g, gs A g ∧ (Tm p0).flatMap g = (Tm q0).flatMap g := fun g => ldi_occ hA htp hi (Or.inr ⟨hy, hx⟩) hv (fun e => hne e.symm) (hz.resolve_left (fun g2 => g g2.1)).2
    refine ax_if_eq at_143_150 ⟨by omega, by omega⟩ (fun y0 => ?_) (fun y0 => ?_)
    · skip
      have hoc := (hz.resolve_right (fun g => by have := g.1; omega)).2
      have ho := h2.1
      have r14 : ai_arr S2 447 0 = some (20, ax_f ((mrw F G O U2) 14)) := h2.2.1 14 (by decide)
      rw [show (mrw F G O U2) 14 = G from mrw_14] at r14
      have ecc := co_var hv
      refine aw_loc at_143_155 rfl rfl ?_
      refine aw_get at_143_156 rfl fl_12_52 ho rfl ?_
      refine aw_loc at_143_159 rfl rfl ?_
      refine aw_pure (st' := ax_i (8) :: _) at_143_161 rfl rfl ?_
      refine ax_sub at_143_163 rfl ?_
      refine aw_loc at_143_164 rfl rfl ?_
      rw [ecc]
      refine ax_ist (k := (Y y - 117).toNat) at_143_166 rfl r14 (by omega) (by omega) (by decide) ?_
      refine aw_goto at_143_167 ?_
      have eW : (fun n => (wst Tm f n).flatMap (f_one (Y y) ((Tm x).flatMap f))) = wst Tm (fun c => (f c).flatMap (f_one (Y y) ((Tm x).flatMap f))) := by funext n9; exact flat_flat _ _ _
      have hk2 : skk Dm (wst Tm (fun c => (f c).flatMap (f_one (Y y) ((Tm x).flatMap f)))) ((wst Tm f t1).flatMap (f_one (Y y) ((Tm x).flatMap f))) l := by rw [← eW]; exact skk_put (fun c => by unfold f_one; split; exact ts_ne (gs_ts hA hi.1.1 (htp.2.2 _ hx.1)); exact List.cons_ne_nil _ _) l _ hk
      have hub : ld (Y y) = none := hy.2.1.resolve_left (by omega)
      refine k179n _ x8 hne ?_
      exact kpop _ _ O U2 (l_up ld (Y y) x) _ _ _ _ _ _ _ ((f1.tr f2).tr (fr_md (by decide) (by decide))) (mst_w14 h2) (ldr_up hgl (by omega) hv) (ldi_bind hA htp hi (Or.inr ⟨hy, hx⟩) hv (fun e => hne e.symm) hoc) hk2 hs1.2 (rsk_eq _ (fun j hj => hu2 j (by omega)) hs2.2) (Or.inl (by have := nub_up (b := x) hub hv 12 (by omega); omega))
    · skip
      refine aw_pure (st' := ax_i (0) :: _) at_143_153 rfl rfl ?_
      exact ax_retZ at_143_154 rfl (Or.inl rfl) (hno S2 G O U2 (f1.tr f2) h2 (hnc y0))
  refine aw_loc at_143_86 rfl rfl ?_
  refine aw_pure (st' := ax_i (8) :: _) at_143_88 rfl rfl ?_
  refine ax_icmp_lt at_143_90 ⟨by omega, by omega⟩ ⟨by omega, by omega⟩ (fun z => k128 (Or.inl (by omega))) (fun z => ?_)
  refine aw_loc at_143_93 rfl rfl ?_
  refine aw_loc at_143_95 rfl rfl ?_
  refine ax_icmp_eq at_143_97 ⟨by omega, by omega⟩ ⟨by omega, by omega⟩ (fun e => k128 (Or.inr (co_inj lx.2.1 ly.2.1 e))) (fun z2 => ?_)
  refine aw_loc at_143_100 rfl rfl ?_
  refine aw_loc at_143_101 rfl rfl ?_
  refine aw_loc at_143_103 rfl rfl ?_
  have hne : Y x ≠ Y y := fun e9 => z2 (by rw [e9])
  have hv : 117 ≤ Y x := by omega
  refine aw_cv (a := 432) [ax_i (co (Y x)), ax_i (y : Nat)] [] at_143_105 mt_12_181 (Or.inl rfl) rfl rfl (Nat.le_of_ble_eq_true rfl) ⟨_, ho⟩ ((r_m_occ (d := d) h hc hgl hi lx.2.1 hy.1).mono ?_)
  rintro v S2 ⟨f2, U2, h2, hu2, z, rfl, hz⟩
  have hz9 := hz.le
  have hnc : z ≠ 0 → ¬ ∃ g, gs A g ∧ (Tm p0).flatMap g = (Tm q0).flatMap g := fun g => ldi_occ hA htp hi (Or.inl ⟨hx, hy⟩) hv hne (hz.resolve_left (fun g2 => g g2.1)).2
  refine ax_if_eq at_143_108 ⟨by omega, by omega⟩ (fun y0 => ?_) (fun y0 => ?_)
  · skip
    have hoc := (hz.resolve_right (fun g => by have := g.1; omega)).2
    have ho := h2.1
    have r14 : ai_arr S2 447 0 = some (20, ax_f ((mrw F G O U2) 14)) := h2.2.1 14 (by decide)
    rw [show (mrw F G O U2) 14 = G from mrw_14] at r14
    have ecc := co_var hv
    refine aw_loc at_143_113 rfl rfl ?_
    refine aw_get at_143_114 rfl fl_12_52 ho rfl ?_
    refine aw_loc at_143_117 rfl rfl ?_
    refine aw_pure (st' := ax_i (8) :: _) at_143_119 rfl rfl ?_
    refine ax_sub at_143_121 rfl ?_
    refine aw_loc at_143_122 rfl rfl ?_
    rw [ecc]
    refine ax_ist (k := (Y x - 117).toNat) at_143_124 rfl r14 (by omega) (by omega) (by decide) ?_
    refine aw_goto at_143_125 ?_
    have eW : (fun n => (wst Tm f n).flatMap (f_one (Y x) ((Tm y).flatMap f))) = wst Tm (fun c => (f c).flatMap (f_one (Y x) ((Tm y).flatMap f))) := by funext n9; exact flat_flat _ _ _
    have hk2 : skk Dm (wst Tm (fun c => (f c).flatMap (f_one (Y x) ((Tm y).flatMap f)))) ((wst Tm f t1).flatMap (f_one (Y x) ((Tm y).flatMap f))) l := by rw [← eW]; exact skk_put (fun c => by unfold f_one; split; exact ts_ne (gs_ts hA hi.1.1 (htp.2.2 _ hy.1)); exact List.cons_ne_nil _ _) l _ hk
    have hub : ld (Y x) = none := hx.2.1.resolve_left (by omega)
    refine k179n _ x8 hne ?_
    exact kpop _ _ O U2 (l_up ld (Y x) y) _ _ _ _ _ _ _ ((f1.tr f2).tr (fr_md (by decide) (by decide))) (mst_w14 h2) (ldr_up hgl (by omega) hv) (ldi_bind hA htp hi (Or.inl ⟨hx, hy⟩) hv hne hoc) hk2 hs1.2 (rsk_eq _ (fun j hj => hu2 j (by omega)) hs2.2) (Or.inl (by have := nub_up (b := y) hub hv 12 (by omega); omega))
  · skip
    refine aw_pure (st' := ax_i (0) :: _) at_143_111 rfl rfl ?_
    exact ax_retZ at_143_112 rfl (Or.inl rfl) (hno S2 G O U2 (f1.tr f2) h2 (hnc y0))
theorem r_m_uni2 {p0 q0 : Nat} (hc : mlc A (F 0) (F 13) Dm Y en Tm) : ∀ (N m : Nat) (S1 : ai_S) (G O U : Nat → Int) (ld : lds_t) (f : Int → List Int) (t1 t2 : Nat) (st l : List (Nat × Nat)) (x4 x5 x6 x7 x8 : Option Value), nub ld 12 = N → unl Tm f t1 st = m → fr 432 452 S S1 → mst S1 T D n rc wt kp sx sc (mrw F G O U) B → uni A Dm Y Tm p0 q0 G O U ld f t1 t2 st l → ai_aw L xs (d + 3) ai_m143 (fun (o : ai_O) => ∃ v S', o = (.inl v, S') ∧ fr 432 452 S S' ∧ ∃ G' O' U', mst S' T D n rc wt kp sx sc (mrw F G' O' U') B ∧ ∃ z, v = some (ax_i z) ∧ ((z = 0 ∧ ¬ ∃ g, gs A g ∧ (Tm p0).flatMap g = (Tm q0).flatMap g) ∨ (z = 1 ∧ ∃ ld f, ldr G' ld ∧ ldi A Dm Y Tm p0 q0 ld [] f))) (37, [some (.ref 432), some (ax_i (p0 : Nat)), some (ax_i (q0 : Nat)), some (ax_i (st.length + 1 : Nat)), x4, x5, x6, x7, x8], [], S1) := by
  intro N
  induction N using Nat.strongRecOn with
  | _ N ihN =>
    intro m
    induction m using Nat.strongRecOn with
    | _ m ihm =>
      intro S1 G O U ld f t1 t2 st l x4 x5 x6 x7 x8 hN hm f1 h hu
      refine r_m_uni1 f1 h hc hu (fun S2 G2 O2 U2 ld2 f2 s1 s2 st2 l2 y4 y5 y6 y7 y8 g1 g2 g3 g4 => ?_) x4 x5 x6 x7 x8
      rcases g4 with g4 | g4
      · exact ihN _ (by omega) _ S2 G2 O2 U2 ld2 f2 s1 s2 st2 l2 _ _ _ _ _ rfl rfl g1 g2 g3
      · exact ihm _ (by omega) S2 G2 O2 U2 ld2 f2 s1 s2 st2 l2 _ _ _ _ _ (by omega) rfl g1 g2 g3
set_option maxHeartbeats 4000000 in
theorem r_m_unite {p0 q0 : Nat} (h : mst S T D n rc wt kp sx sc (mrw F G O U) B) (hc : mlc A (F 0) (F 13) Dm Y en Tm) (hp : Dm p0) (hq : Dm q0) : ai_rn L xs (d + 4) 143 [.ref 432, ax_i (p0 : Nat), ax_i (q0 : Nat)] S (fun v S' => fr 432 452 S S' ∧ ∃ G' O' U', mst S' T D n rc wt kp sx sc (mrw F G' O' U') B ∧ ∃ z, v = some (ax_i z) ∧ ((z = 0 ∧ ¬ ∃ g, gs A g ∧ (Tm p0).flatMap g = (Tm q0).flatMap g) ∨ (z = 1 ∧ ∃ ld f, ldr G' ld ∧ ldi A Dm Y Tm p0 q0 ld [] f))) := by
  refine ai_rn_of (M := ai_m143) rfl (by decide) (Nat.le_of_ble_eq_true rfl) ?_
  refine aw_pure (st' := ax_i (0) :: _) at_143_0 rfl rfl ?_
  refine aw_loc at_143_1 rfl rfl ?_
  refine r_m_uni0 (F := F) (G := G) 20 0 S (by omega) fr.rf (by rw [show fi G (-1) 0 = G by funext i; exact if_neg (by omega)]; exact h) (fun S2 f2 h2 => ?_)
  have ho := h2.1
  have r15 : ai_arr S2 448 0 = some (400, ax_f ((mrw F (fi G (-1) 20) O U) 15)) := h2.2.1 15 (by decide)
  rw [show (mrw F (fi G (-1) 20) O U) 15 = O from mrw_15] at r15
  have r16 : ai_arr S2 449 0 = some (400, ax_f ((mrw F (fi G (-1) 20) O U) 16)) := h2.2.1 16 (by decide)
  rw [show (mrw F (fi G (-1) 20) O U) 16 = U from mrw_16] at r16
  refine aw_pure (st' := ax_i (1) :: _) at_143_21 rfl rfl ?_
  refine aw_loc at_143_22 rfl rfl ?_
  refine aw_loc at_143_23 rfl rfl ?_
  refine aw_get at_143_24 rfl fl_12_55 ho rfl ?_
  refine aw_pure (st' := ax_i (0) :: _) at_143_27 rfl rfl ?_
  refine aw_loc at_143_28 rfl rfl ?_
  refine ax_ist (k := 0) at_143_29 rfl r15 rfl (by decide) (by decide) ?_
  have h3 : mst (ai_wr S2 448 (.inl (0, ai_I 400 (ax_f (ax_up O 0 (p0 : Nat)))))) T D n rc wt kp sx sc (mrw F (fi G (-1) 20) (ax_up O 0 (p0 : Nat)) U) B := mst_w15 h2
  have f3 := f2.tr (fr_md (S := S2) (a := 448) (x := .inl (0, ai_I 400 (ax_f (ax_up O 0 (p0 : Nat))))) (by decide) (by decide))
  generalize hS3 : ai_wr S2 448 (.inl (0, ai_I 400 (ax_f (ax_up O 0 (p0 : Nat))))) = S3 at h3 f3
  have ho := h3.1
  have r16 : ai_arr S3 449 0 = some (400, ax_f (mrw F (fi G (-1) 20) (ax_up O 0 (p0 : Nat)) U 16)) := h3.2.1 16 (by decide)
  rw [mrw_16] at r16
  refine aw_loc at_143_30 rfl rfl ?_
  refine aw_get at_143_31 rfl fl_12_58 ho rfl ?_
  refine aw_pure (st' := ax_i (0) :: _) at_143_34 rfl rfl ?_
  refine aw_loc at_143_35 rfl rfl ?_
  refine ax_ist (k := 0) at_143_36 rfl r16 rfl (by decide) (by decide) ?_
  exact r_m_uni2 hc _ _ _ _ _ _ (fun _ => none) f_id p0 q0 [] [] _ _ _ _ _ rfl rfl (f3.tr (fr_md (by decide) (by decide))) (mst_w16 h3) ⟨⟨fun i hi => by unfold fi; rw [if_pos hi]; omega, fun c h1 h2 => Or.inl ⟨rfl, if_pos (by omega)⟩⟩, ldi_first hc.1.2.2 ⟨hp, hq⟩, True.intro, rfl, ⟨if_pos rfl, True.intro⟩, ⟨if_pos rfl, True.intro⟩⟩
end MU

/-! The engine: a pair is added; right sides are settled; what was kept is added. -/
section EH
variable {L : Nat} {xs : Nat → Int32} {d : Nat} {S S' : ai_S} {P R P' : Nat → Int} {nn sx sc : Int} {Rs Vs ks : rls} {l r : List Int}
/-- renaming of a pair, in words -/
theorem r_rename2 {p : Nat} {q : (Nat → Int) × Int} (hp : pw S p l r) (hr : rv S q) (hll : l.length ≤ 24) (hrl : r.length ≤ 24) (k1 : al (kn P' 129) l) (k2 : al (kn P' 129) r) (hs : p + 4 < 398 ∨ 399 < p) : ai_rn L xs (d + 3) 69 [.ref 398, .ref p] S (fun v S' => v = some (ax_i (rnc l r)) ∧ frp (fun c => c = 398 ∨ c = 399 ∨ (p ≤ c ∧ c < p + 5)) S S' ∧ (∃ q, rv S' q) ∧ pw S' p (rnp l r).1 (rnp l r).2) := by
  have lt : ∀ w : List Int, al (kn P' 129) w → lets w := by
    intro w hw i hi
    have := kn_lt (hw (w.getD i 0) (by rw [getD_eq hi]; exact List.getElem_mem _))
    omega
  refine (r_rename hp hr hll hrl ⟨lt l k1, lt r k2⟩ hs).mono ?_
  rintro v S1 ⟨rfl, q2, -, hpq⟩
  have e1 : (rq2 l r).2 = rnc l r := by
    unfold rq2 rq1 rnc
    rw [rq_rst, rq_rst]
  have e2 : rnw q00 l = (rnp l r).1 := rnw_rnl l q00
  have e3 : rnw (rq1 l) r = (rnp l r).2 := by
    rw [rnw_rnl]
    unfold rq1
    rw [rq_rst]
    rfl
  rw [e2, e3] at hpq
  have hl : 399 < S.1 := (ai_arr_inv hr.2).1
  have f0 : fr 398 400 S (rv_put S q2) := (fr_wr.mn (by decide) (by decide)).tr (fr_wr.mn (by decide) (by decide))
  have hp0 : pw (rv_put S q2) p l r := f0.pw hp (by omega)
  have f1 := fr_pq hpq
  refine ⟨by rw [e1], (f0.pp (fun c h1 h2 => by omega)).tr (f1.pp (fun c h1 h2 => by omega)), ⟨q2, f1.rv (rv_get hl) (by omega)⟩, pq_pw hpq hp0⟩
/-- what adding works with -/
def wkh (S : ai_S) : Prop := (∃ q, rv S q) ∧ (∃ x y, pw S 405 x y) ∧ ∃ E B pl, rwo S E B pl
abbrev rgH (c : Nat) : Prop := (84 ≤ c ∧ c < 326) ∨ (398 ≤ c ∧ c < 410) ∨ (412 ≤ c ∧ c < 417)
theorem okr_rlk {A : Int → Nat} (hR : ∀ q, q ∈ Rs → okr A P' q) : ∀ q, q ∈ Rs → rlk A q := fun q hq => ⟨(hR q hq).2, (hR q hq).1.2.1.1, (hR q hq).1.2.1.2, fun c hc => by have := kn_lt ((hR q hq).1.2.2.1.1 c hc); show c < 123; omega, fun c hc => by have := kn_lt ((hR q hq).1.2.2.1.2 c hc); show c < 123; omega⟩
theorem mem_getD {ws : rls} {q : List Int × List Int} : q ∈ ws ↔ ∃ i, i < ws.length ∧ ws.getD i ([], []) = q := by
  constructor
  · intro h
    obtain ⟨i, hi, e⟩ := List.mem_iff_getElem.1 h
    exact ⟨i, hi, by rw [List.getD_eq_getElem?_getD, List.getElem?_eq_getElem hi]; exact e⟩
  · rintro ⟨i, hi, e⟩
    rw [← e, List.getD_eq_getElem?_getD, List.getElem?_eq_getElem hi]
    exact List.getElem_mem _
theorem frp.rv {Q : Nat → Prop} {q : (Nat → Int) × Int} (h : frp Q S S') (hr : rv S q) (h1 : ¬ Q 398) (h2 : ¬ Q 399) : rv S' q := ⟨(h.obj h1).trans hr.1, (h.arr h2).trans hr.2⟩
theorem frp.rwo {Q : Nat → Prop} {E B : Nat → Int} {pl : Int} (h : frp Q S S') (hr : rwo S E B pl) (k : ∀ c, 412 ≤ c → c < 417 → ¬ Q c) : rwo S' E B pl := by
  obtain ⟨h1, h2, h3, T, n, h4, h5⟩ := hr
  exact ⟨(h.obj (k _ (by decide) (by decide))).trans h1, (h.arr (k _ (by decide) (by decide))).trans h2, (h.arr (k _ (by decide) (by decide))).trans h3, T, n, h.tm h4 (k _ (by decide) (by decide)) (k _ (by decide) (by decide)), h5⟩
theorem frp.en {Q : Nat → Prop} (h : frp Q S S') (he : en S sx sc) (h1 : ¬ Q 11) : en S' sx sc := (h.obj h1).trans he
theorem fr.rwo {lo hi : Nat} {E B : Nat → Int} {pl : Int} (h : fr lo hi S S') (hr : rwo S E B pl) (k : hi ≤ 412 ∨ 417 ≤ lo) : rwo S' E B pl := (h.pp (P := fun c => lo ≤ c ∧ c < hi) (fun c h1 h2 => ⟨h1, h2⟩)).rwo hr (fun c h1 h2 => by omega)
theorem nf_le {A : Int → Nat} (hA : ∀ c, 117 ≤ c → A c = 0) {Rs : rls} : ∀ (f : Nat) (u : List Int) {q : List Int × Nat}, nf A Rs f u = some q → q.2 ≤ f
  | 0, u, q, h => by
    unfold nf at h
    split at h
    · cases h
    · split at h
      · cases h; exact Nat.le_refl _
      · cases h
  | f + 1, u, q, h => by
    unfold nf at h
    split at h
    · cases h
    · split at h
      · cases h; exact Nat.zero_le _
      · rename_i w' _
        cases hn : nf A Rs f w' with
        | none => rw [hn] at h; cases h
        | some q2 =>
          rw [hn] at h
          have h2 : (q2.1, q2.2 + 1) = q := Option.some.inj h
          have := nf_le hA f w' hn
          rw [← h2]
          show q2.2 + 1 ≤ f + 1
          omega
theorem rnc_in (l r : List Int) {P' : Nat → Int} (k1 : al (kn P' 129) l) (k2 : al (kn P' 129) r) : 0 ≤ rnc l r ∧ rnc l r ≤ 12 := by
  refine ⟨?_, rnc_le (N := 12) (fun c hc => by have := kn_lt (k1 c hc); show c < 117 + ((12 : Nat) : Int); omega) (fun c hc => by have := kn_lt (k2 c hc); show c < 117 + ((12 : Nat) : Int); omega)⟩
  unfold rnc
  rw [← rst_app]
  exact (qg_rst (l ++ r) q00 qg_00).1
theorem at_28_0 : ai_at ai_m28 0 = some (.iconst 0, 1) := rfl
theorem at_28_1 : ai_at ai_m28 1 = some (.istore_n 1, 1) := rfl
theorem at_28_2 : ai_at ai_m28 2 = some (.iload_n 1, 1) := rfl
theorem at_28_3 : ai_at ai_m28 3 = some (.aload_n 0, 1) := rfl
theorem at_28_4 : ai_at ai_m28 4 = some (.getfield 54, 3) := rfl
theorem at_28_7 : ai_at ai_m28 7 = some (.getfield 82, 3) := rfl
theorem at_28_10 : ai_at ai_m28 10 = some (.iconst 1, 1) := rfl
theorem at_28_11 : ai_at ai_m28 11 = some (.isub, 1) := rfl
theorem at_28_12 : ai_at ai_m28 12 = some (.if_icmp .ge 64, 3) := rfl
theorem at_28_15 : ai_at ai_m28 15 = some (.aload_n 0, 1) := rfl
theorem at_28_16 : ai_at ai_m28 16 = some (.getfield 43, 3) := rfl
theorem at_28_19 : ai_at ai_m28 19 = some (.aload_n 0, 1) := rfl
theorem at_28_20 : ai_at ai_m28 20 = some (.getfield 54, 3) := rfl
theorem at_28_23 : ai_at ai_m28 23 = some (.getfield 97, 3) := rfl
theorem at_28_26 : ai_at ai_m28 26 = some (.iload_n 1, 1) := rfl
theorem at_28_27 : ai_at ai_m28 27 = some (.aaload, 1) := rfl
theorem at_28_28 : ai_at ai_m28 28 = some (.getfield 114, 3) := rfl
theorem at_28_31 : ai_at ai_m28 31 = some (.invokevirtual 144, 3) := rfl
theorem at_28_34 : ai_at ai_m28 34 = some (.aload_n 0, 1) := rfl
theorem at_28_35 : ai_at ai_m28 35 = some (.getfield 62, 3) := rfl
theorem at_28_38 : ai_at ai_m28 38 = some (.aload_n 0, 1) := rfl
theorem at_28_39 : ai_at ai_m28 39 = some (.getfield 43, 3) := rfl
theorem at_28_42 : ai_at ai_m28 42 = some (.invokevirtual 110, 3) := rfl
theorem at_28_45 : ai_at ai_m28 45 = some (.iconst (-1), 1) := rfl
theorem at_28_46 : ai_at ai_m28 46 = some (.if_icmp .ne 5, 3) := rfl
theorem at_28_49 : ai_at ai_m28 49 = some (.iconst 0, 1) := rfl
theorem at_28_50 : ai_at ai_m28 50 = some (.ireturn, 1) := rfl
theorem at_28_51 : ai_at ai_m28 51 = some (.aload_n 0, 1) := rfl
theorem at_28_52 : ai_at ai_m28 52 = some (.getfield 54, 3) := rfl
theorem at_28_55 : ai_at ai_m28 55 = some (.getfield 97, 3) := rfl
theorem at_28_58 : ai_at ai_m28 58 = some (.iload_n 1, 1) := rfl
theorem at_28_59 : ai_at ai_m28 59 = some (.aaload, 1) := rfl
theorem at_28_60 : ai_at ai_m28 60 = some (.getfield 114, 3) := rfl
theorem at_28_63 : ai_at ai_m28 63 = some (.aload_n 0, 1) := rfl
theorem at_28_64 : ai_at ai_m28 64 = some (.getfield 43, 3) := rfl
theorem at_28_67 : ai_at ai_m28 67 = some (.invokevirtual 144, 3) := rfl
theorem at_28_70 : ai_at ai_m28 70 = some (.iinc 1 1, 3) := rfl
theorem at_28_73 : ai_at ai_m28 73 = some (.goto (-71), 3) := rfl
theorem at_28_76 : ai_at ai_m28 76 = some (.iconst 1, 1) := rfl
theorem at_28_77 : ai_at ai_m28 77 = some (.ireturn, 1) := rfl
theorem at_29_0 : ai_at ai_m29 0 = some (.iconst 0, 1) := rfl
theorem at_29_1 : ai_at ai_m29 1 = some (.istore_n 1, 1) := rfl
theorem at_29_2 : ai_at ai_m29 2 = some (.iload_n 1, 1) := rfl
theorem at_29_3 : ai_at ai_m29 3 = some (.aload_n 0, 1) := rfl
theorem at_29_4 : ai_at ai_m29 4 = some (.getfield 20, 3) := rfl
theorem at_29_7 : ai_at ai_m29 7 = some (.getfield 82, 3) := rfl
theorem at_29_10 : ai_at ai_m29 10 = some (.if_icmp .ge 34, 3) := rfl
theorem at_29_13 : ai_at ai_m29 13 = some (.aload_n 0, 1) := rfl
theorem at_29_14 : ai_at ai_m29 14 = some (.getfield 33, 3) := rfl
theorem at_29_17 : ai_at ai_m29 17 = some (.aload_n 0, 1) := rfl
theorem at_29_18 : ai_at ai_m29 18 = some (.getfield 20, 3) := rfl
theorem at_29_21 : ai_at ai_m29 21 = some (.getfield 97, 3) := rfl
theorem at_29_24 : ai_at ai_m29 24 = some (.iload_n 1, 1) := rfl
theorem at_29_25 : ai_at ai_m29 25 = some (.aaload, 1) := rfl
theorem at_29_26 : ai_at ai_m29 26 = some (.invokevirtual 101, 3) := rfl
theorem at_29_29 : ai_at ai_m29 29 = some (.aload_n 0, 1) := rfl
theorem at_29_30 : ai_at ai_m29 30 = some (.invokevirtual 147, 3) := rfl
theorem at_29_33 : ai_at ai_m29 33 = some (.ifCond .ne 5, 3) := rfl
theorem at_29_36 : ai_at ai_m29 36 = some (.iconst 0, 1) := rfl
theorem at_29_37 : ai_at ai_m29 37 = some (.ireturn, 1) := rfl
theorem at_29_38 : ai_at ai_m29 38 = some (.iinc 1 1, 3) := rfl
theorem at_29_41 : ai_at ai_m29 41 = some (.goto (-39), 3) := rfl
theorem at_29_44 : ai_at ai_m29 44 = some (.iconst 1, 1) := rfl
theorem at_29_45 : ai_at ai_m29 45 = some (.ireturn, 1) := rfl
theorem at_30_0 : ai_at ai_m30 0 = some (.aload_n 0, 1) := rfl
theorem at_30_1 : ai_at ai_m30 1 = some (.getfield 62, 3) := rfl
theorem at_30_4 : ai_at ai_m30 4 = some (.aload_n 0, 1) := rfl
theorem at_30_5 : ai_at ai_m30 5 = some (.getfield 33, 3) := rfl
theorem at_30_8 : ai_at ai_m30 8 = some (.getfield 107, 3) := rfl
theorem at_30_11 : ai_at ai_m30 11 = some (.invokevirtual 110, 3) := rfl
theorem at_30_14 : ai_at ai_m30 14 = some (.iconst (-1), 1) := rfl
theorem at_30_15 : ai_at ai_m30 15 = some (.if_icmp .eq 21, 3) := rfl
theorem at_30_18 : ai_at ai_m30 18 = some (.aload_n 0, 1) := rfl
theorem at_30_19 : ai_at ai_m30 19 = some (.getfield 62, 3) := rfl
theorem at_30_22 : ai_at ai_m30 22 = some (.aload_n 0, 1) := rfl
theorem at_30_23 : ai_at ai_m30 23 = some (.getfield 33, 3) := rfl
theorem at_30_26 : ai_at ai_m30 26 = some (.getfield 114, 3) := rfl
theorem at_30_29 : ai_at ai_m30 29 = some (.invokevirtual 110, 3) := rfl
theorem at_30_32 : ai_at ai_m30 32 = some (.iconst (-1), 1) := rfl
theorem at_30_33 : ai_at ai_m30 33 = some (.if_icmp .ne 5, 3) := rfl
theorem at_30_36 : ai_at ai_m30 36 = some (.iconst 0, 1) := rfl
theorem at_30_37 : ai_at ai_m30 37 = some (.ireturn, 1) := rfl
theorem at_30_38 : ai_at ai_m30 38 = some (.aload_n 0, 1) := rfl
theorem at_30_39 : ai_at ai_m30 39 = some (.getfield 33, 3) := rfl
theorem at_30_42 : ai_at ai_m30 42 = some (.getfield 107, 3) := rfl
theorem at_30_45 : ai_at ai_m30 45 = some (.aload_n 0, 1) := rfl
theorem at_30_46 : ai_at ai_m30 46 = some (.getfield 33, 3) := rfl
theorem at_30_49 : ai_at ai_m30 49 = some (.getfield 114, 3) := rfl
theorem at_30_52 : ai_at ai_m30 52 = some (.invokevirtual 158, 3) := rfl
theorem at_30_55 : ai_at ai_m30 55 = some (.ifCond .eq 5, 3) := rfl
theorem at_30_58 : ai_at ai_m30 58 = some (.iconst 1, 1) := rfl
theorem at_30_59 : ai_at ai_m30 59 = some (.ireturn, 1) := rfl
theorem at_30_60 : ai_at ai_m30 60 = some (.aload_n 0, 1) := rfl
theorem at_30_61 : ai_at ai_m30 61 = some (.getfield 26, 3) := rfl
theorem at_30_64 : ai_at ai_m30 64 = some (.aload_n 0, 1) := rfl
theorem at_30_65 : ai_at ai_m30 65 = some (.getfield 33, 3) := rfl
theorem at_30_68 : ai_at ai_m30 68 = some (.invokevirtual 85, 3) := rfl
theorem at_30_71 : ai_at ai_m30 71 = some (.bipush 6, 2) := rfl
theorem at_30_73 : ai_at ai_m30 73 = some (.if_icmp .le 5, 3) := rfl
theorem at_30_76 : ai_at ai_m30 76 = some (.iconst 0, 1) := rfl
theorem at_30_77 : ai_at ai_m30 77 = some (.ireturn, 1) := rfl
theorem at_30_78 : ai_at ai_m30 78 = some (.aload_n 0, 1) := rfl
theorem at_30_79 : ai_at ai_m30 79 = some (.getfield 37, 3) := rfl
theorem at_30_82 : ai_at ai_m30 82 = some (.aload_n 0, 1) := rfl
theorem at_30_83 : ai_at ai_m30 83 = some (.getfield 33, 3) := rfl
theorem at_30_86 : ai_at ai_m30 86 = some (.invokevirtual 137, 3) := rfl
theorem at_30_89 : ai_at ai_m30 89 = some (.aload_n 0, 1) := rfl
theorem at_30_90 : ai_at ai_m30 90 = some (.getfield 26, 3) := rfl
theorem at_30_93 : ai_at ai_m30 93 = some (.aload_n 0, 1) := rfl
theorem at_30_94 : ai_at ai_m30 94 = some (.getfield 37, 3) := rfl
theorem at_30_97 : ai_at ai_m30 97 = some (.invokevirtual 85, 3) := rfl
theorem at_30_100 : ai_at ai_m30 100 = some (.pop, 1) := rfl
theorem at_30_101 : ai_at ai_m30 101 = some (.aload_n 0, 1) := rfl
theorem at_30_102 : ai_at ai_m30 102 = some (.getfield 14, 3) := rfl
theorem at_30_105 : ai_at ai_m30 105 = some (.aload_n 0, 1) := rfl
theorem at_30_106 : ai_at ai_m30 106 = some (.getfield 33, 3) := rfl
theorem at_30_109 : ai_at ai_m30 109 = some (.invokevirtual 162, 3) := rfl
theorem at_30_112 : ai_at ai_m30 112 = some (.ifCond .ne 17, 3) := rfl
theorem at_30_115 : ai_at ai_m30 115 = some (.aload_n 0, 1) := rfl
theorem at_30_116 : ai_at ai_m30 116 = some (.getfield 14, 3) := rfl
theorem at_30_119 : ai_at ai_m30 119 = some (.aload_n 0, 1) := rfl
theorem at_30_120 : ai_at ai_m30 120 = some (.getfield 37, 3) := rfl
theorem at_30_123 : ai_at ai_m30 123 = some (.invokevirtual 162, 3) := rfl
theorem at_30_126 : ai_at ai_m30 126 = some (.ifCond .eq 5, 3) := rfl
theorem at_30_129 : ai_at ai_m30 129 = some (.iconst 1, 1) := rfl
theorem at_30_130 : ai_at ai_m30 130 = some (.ireturn, 1) := rfl
theorem at_30_131 : ai_at ai_m30 131 = some (.aload_n 0, 1) := rfl
theorem at_30_132 : ai_at ai_m30 132 = some (.getfield 14, 3) := rfl
theorem at_30_135 : ai_at ai_m30 135 = some (.invokevirtual 121, 3) := rfl
theorem at_30_138 : ai_at ai_m30 138 = some (.ifCond .eq 5, 3) := rfl
theorem at_30_141 : ai_at ai_m30 141 = some (.iconst 0, 1) := rfl
theorem at_30_142 : ai_at ai_m30 142 = some (.ireturn, 1) := rfl
theorem at_30_143 : ai_at ai_m30 143 = some (.aload_n 0, 1) := rfl
theorem at_30_144 : ai_at ai_m30 144 = some (.getfield 14, 3) := rfl
theorem at_30_147 : ai_at ai_m30 147 = some (.aload_n 0, 1) := rfl
theorem at_30_148 : ai_at ai_m30 148 = some (.getfield 33, 3) := rfl
theorem at_30_151 : ai_at ai_m30 151 = some (.invokevirtual 89, 3) := rfl
theorem at_30_154 : ai_at ai_m30 154 = some (.iconst 1, 1) := rfl
theorem at_30_155 : ai_at ai_m30 155 = some (.ireturn, 1) := rfl
theorem fl_2_20 : ai_fld 2 20 = some (5, 2, false) := by decide +kernel
theorem fl_2_26 : ai_fld 2 26 = some (5, 6, false) := by decide +kernel
theorem fl_2_33 : ai_fld 2 33 = some (5, 7, false) := by decide +kernel
theorem fl_2_37 : ai_fld 2 37 = some (5, 8, false) := by decide +kernel
theorem fl_2_43 : ai_fld 2 43 = some (5, 9, false) := by decide +kernel
theorem fl_2_62 : ai_fld 2 62 = some (5, 3, false) := by decide +kernel
theorem fl_2_97 : ai_fld 2 97 = some (6, 0, true) := by decide +kernel
theorem fl_2_107 : ai_fld 2 107 = some (3, 0, true) := by decide +kernel
theorem fl_2_114 : ai_fld 2 114 = some (3, 1, true) := by decide +kernel
theorem mt_2_85 : ai_mth 2 85 = some (0, 69, 1, 7) := by decide +kernel
theorem mt_2_89 : ai_mth 2 89 = some (0, 56, 1, 6) := by decide +kernel
theorem mt_2_101 : ai_mth 2 101 = some (0, 50, 1, 3) := by decide +kernel
theorem mt_2_110 : ai_mth 2 110 = some (0, 73, 1, 8) := by decide +kernel
theorem mt_2_121 : ai_mth 2 121 = some (0, 55, 0, 6) := by decide +kernel
theorem mt_2_137 : ai_mth 2 137 = some (0, 51, 1, 3) := by decide +kernel
theorem mt_2_144 : ai_mth 2 144 = some (0, 87, 1, 4) := by decide +kernel
theorem mt_2_147 : ai_mth 2 147 = some (0, 30, 0, 5) := by decide +kernel
theorem mt_2_158 : ai_mth 2 158 = some (0, 90, 1, 4) := by decide +kernel
theorem mt_2_162 : ai_mth 2 162 = some (0, 59, 1, 6) := by decide +kernel
set_option maxHeartbeats 16000000 in
theorem r_addH (hs : sy S P R nn) (hP : ∀ i, 0 ≤ P i ∧ P i ≤ 2) (hA : ∀ c, 117 ≤ c → Ar P c = 0) (he : en S sx sc) (hp : plv S 12 14 Rs) (hR : ∀ q, q ∈ Rs → okr (Ar P) P' q) (hv : plv S 84 48 Vs) (hw : wkh S) (hx : pw S 400 l r) (hl : ts (Ar P) 1 l) (hr : ts (Ar P) 1 r) (k1 : al (kn P' 129) l) (k2 : al (kn P' 129) r) : ai_rn L xs (d + 5) 30 [.ref 11] S (fun v S' => frp rgH S S' ∧ wkh S' ∧ (∃ x y, pw S' 400 x y) ∧ ∃ z, v = some (ax_i z) ∧ ((z = 0 ∧ ah (Ar P) Rs Vs l r = none ∧ plv S' 84 48 Vs) ∨ (z = 1 ∧ ∃ V, ah (Ar P) Rs Vs l r = some V ∧ plv S' 84 48 V))) := by
  obtain ⟨⟨q0, hq0⟩, ⟨x5, y5, h5⟩, E0, B0, pl0, hr0⟩ := hw
  have hx0 := pw_tw hx
  have hRk := okr_rlk hR
  refine ai_rn_of (M := ai_m30) rfl (by decide) (Nat.le_of_ble_eq_true rfl) ?_
  refine aw_loc at_30_0 rfl rfl ?_
  refine aw_get at_30_1 rfl fl_2_62 he rfl ?_
  refine aw_loc at_30_4 rfl rfl ?_
  refine aw_get at_30_5 rfl fl_2_33 he rfl ?_
  refine aw_get at_30_8 rfl fl_2_107 hx0.1 rfl ?_
  refine aw_cv (a := 412) [.ref 401] [] at_30_11 mt_2_110 (Or.inl rfl) rfl rfl (Nat.le_of_ble_eq_true rfl) ⟨_, hr0.1⟩ ((r_norm hs hP hA (by decide) hp hRk hr0 hx0.2.1 hl).mono ?_)
  rintro v S1 ⟨f1, ⟨E1, B1, pl1, hr1⟩, z1, rfl, hz1⟩
  have g1 : frp rgH S S1 := f1.mn (fun c h => by rcases h with h | h | h <;> omega)
  have kno : ∀ (S9 : ai_S), frp rgH S S9 → wkh S9 → (∃ x y, pw S9 400 x y) → plv S9 84 48 Vs → ah (Ar P) Rs Vs l r = none → (fun (o : ai_O) => ∃ v S', o = (.inl v, S') ∧ frp rgH S S' ∧ wkh S' ∧ (∃ x y, pw S' 400 x y) ∧ ∃ z, v = some (ax_i z) ∧ ((z = 0 ∧ ah (Ar P) Rs Vs l r = none ∧ plv S' 84 48 Vs) ∨ (z = 1 ∧ ∃ V, ah (Ar P) Rs Vs l r = some V ∧ plv S' 84 48 V))) (.inl (some (ax_i 0)), S9) := fun S9 a1 a2 a3 a4 a5 => ⟨_, _, rfl, a1, a2, a3, 0, rfl, Or.inl ⟨rfl, a5, a4⟩⟩
  have kyes : ∀ (S9 : ai_S) (V : rls), frp rgH S S9 → wkh S9 → (∃ x y, pw S9 400 x y) → plv S9 84 48 V → ah (Ar P) Rs Vs l r = some V → (fun (o : ai_O) => ∃ v S', o = (.inl v, S') ∧ frp rgH S S' ∧ wkh S' ∧ (∃ x y, pw S' 400 x y) ∧ ∃ z, v = some (ax_i z) ∧ ((z = 0 ∧ ah (Ar P) Rs Vs l r = none ∧ plv S' 84 48 Vs) ∨ (z = 1 ∧ ∃ V, ah (Ar P) Rs Vs l r = some V ∧ plv S' 84 48 V))) (.inl (some (ax_i 1)), S9) := fun S9 V a1 a2 a3 a4 a5 => ⟨_, _, rfl, a1, a2, a3, 1, rfl, Or.inr ⟨rfl, V, a5, a4⟩⟩
  have ho1 := (f1.obj (c := 3) (show ¬ rgR 401 400 by omega)).trans hx0.1
  have t1 := f1.tw hx0.2.2 (show ¬ rgR 401 403 by omega) (show ¬ rgR 401 404 by omega)
  have wk1 : wkh S1 := ⟨⟨q0, f1.rv hq0 (by omega) (by omega)⟩, ⟨x5, y5, f1.pw h5 (by omega)⟩, E1, B1, pl1, hr1⟩
  have v1 := f1.plv hv (by omega)
  refine aw_pure (st' := ax_i (-1) :: _) at_30_14 rfl rfl ?_
  rcases hz1 with ⟨n1, m1, w1, tw1⟩ | ⟨qa, n1, m1, tw1⟩
  · skip
    refine ax_icmp_eq at_30_15 ⟨by omega, by omega⟩ ⟨by decide, by decide⟩ (fun _ => ?_) (fun z => absurd m1 z)
    show ai_aw L xs (d + 4) ai_m30 _ (36, _, _, _)
    refine aw_pure (st' := ax_i (0) :: _) at_30_36 rfl rfl ?_
    exact ax_retZ at_30_37 rfl (Or.inl rfl) (kno S1 g1 wk1 ⟨_, _, tw_pw ho1 tw1 t1⟩ v1 (by unfold ah; rw [n1]))
  · skip
    have nq : 0 ≤ (qa.2 : Int) := by omega
    have hq2 := qa.2
    have hba := nf_le hA (Rs := Rs) 40 l n1
    refine ax_icmp_eq at_30_15 ⟨by omega, by omega⟩ ⟨by decide, by decide⟩ (fun z => absurd z (by omega)) (fun _ => ?_)
    have hs1 := f1.sy hs (by omega) (by omega) (by omega)
    have he1 := f1.en he (by omega)
    have hp1 := f1.plv hp (by omega)
    have ka := nf_kn hA hR hl k1 (show nf (Ar P) Rs 40 l = some (qa.1, qa.2) from n1)
    refine aw_loc at_30_18 rfl rfl ?_
    refine aw_get at_30_19 rfl fl_2_62 he1 rfl ?_
    refine aw_loc at_30_22 rfl rfl ?_
    refine aw_get at_30_23 rfl fl_2_33 he1 rfl ?_
    refine aw_get at_30_26 rfl fl_2_114 ho1 rfl ?_
    refine aw_cv (a := 412) [.ref 403] [] at_30_29 mt_2_110 (Or.inl rfl) rfl rfl (Nat.le_of_ble_eq_true rfl) ⟨_, hr1.1⟩ ((r_norm hs1 hP hA (by decide) hp1 hRk hr1 t1 hr).mono ?_)
    rintro v S2 ⟨f2, ⟨E2, B2, pl2, hr2⟩, z2, rfl, hz2⟩
    have g2 : frp rgH S S2 := g1.tr (f2.mn (fun c h => by rcases h with h | h | h <;> omega))
    have ho2 := (f2.obj (c := 3) (show ¬ rgR 403 400 by omega)).trans ho1
    have t2 := f2.tw tw1 (show ¬ rgR 403 401 by omega) (show ¬ rgR 403 402 by omega)
    have hq2 := (f2.rv (f1.rv hq0 (by omega) (by omega)) (by omega) (by omega))
    have h52 := f2.pw (f1.pw h5 (by omega)) (by omega)
    have wk2 : wkh S2 := ⟨⟨q0, hq2⟩, ⟨x5, y5, h52⟩, E2, B2, pl2, hr2⟩
    have v2 := f2.plv v1 (by omega)
    refine aw_pure (st' := ax_i (-1) :: _) at_30_32 rfl rfl ?_
    rcases hz2 with ⟨n2, m2, w2, tw2⟩ | ⟨qb, n2, m2, tw2⟩
    · skip
      refine ax_icmp_ne at_30_33 ⟨by omega, by omega⟩ ⟨by decide, by decide⟩ (fun z => absurd m2 z) (fun _ => ?_)
      refine aw_pure (st' := ax_i (0) :: _) at_30_36 rfl rfl ?_
      exact ax_retZ at_30_37 rfl (Or.inl rfl) (kno S2 g2 wk2 ⟨_, _, tw_pw ho2 t2 tw2⟩ v2 (by unfold ah; rw [n1, n2]))
    · skip
      have hbb := nf_le hA (Rs := Rs) 40 r n2
      refine ax_icmp_ne at_30_33 ⟨by omega, by omega⟩ ⟨by decide, by decide⟩ (fun _ => ?_) (fun z => absurd z (by omega))
      show ai_aw L xs (d + 4) ai_m30 _ (38, _, _, _)
      have kb := nf_kn hA hR hr k2 (show nf (Ar P) Rs 40 r = some (qb.1, qb.2) from n2)
      have he2 := f2.en he1 (by omega)
      have hah : ah (Ar P) Rs Vs l r = (if qa.1 = qb.1 then some Vs else if 6 < rnc qa.1 qb.1 then none else if rnp qa.1 qb.1 ∈ Vs ∨ rnp (rnp qa.1 qb.1).2 (rnp qa.1 qb.1).1 ∈ Vs then some Vs else if 48 ≤ Vs.length then none else some (Vs ++ [rnp qa.1 qb.1])) := by unfold ah; rw [n1, n2]
      obtain ⟨Ta, na, ta1, ta2⟩ := id t2
      obtain ⟨Tb, nb, tb1, tb2⟩ := id tw2
      refine aw_loc at_30_38 rfl rfl ?_
      refine aw_get at_30_39 rfl fl_2_33 he2 rfl ?_
      refine aw_get at_30_42 rfl fl_2_107 ho2 rfl ?_
      refine aw_loc at_30_45 rfl rfl ?_
      refine aw_get at_30_46 rfl fl_2_33 he2 rfl ?_
      refine aw_get at_30_49 rfl fl_2_114 ho2 rfl ?_
      refine aw_cv (a := 401) [.ref 403] [] at_30_52 mt_2_158 (Or.inl rfl) rfl rfl (Nat.le_of_ble_eq_true rfl) ⟨_, ta1.1⟩ ((r_tsame ta1 tb1 ta2.2.2 tb2.2.2 (wd_le ta2) (wd_le tb2)).mono ?_)
      rintro v S0 ⟨hS, z3, rfl, hz3⟩
      have hS2 := hS.symm
      subst hS2
      have hz39 := hz3.le
      have hsame := wd_same ta2 tb2
      refine ax_if_eq at_30_55 ⟨by omega, by omega⟩ (fun z => ?_) (fun z => ?_)
      · skip
        have hne : ¬ qa.1 = qb.1 := fun h => (hz3.resolve_right (fun h => by have := h.1; omega)).2 (hsame.2 ⟨h, ka.2.2⟩)
        rw [if_neg hne] at hah
        have px := tw_pw ho2 t2 tw2
        refine aw_loc at_30_60 rfl rfl ?_
        refine aw_get at_30_61 rfl fl_2_26 he2 rfl ?_
        refine aw_loc at_30_64 rfl rfl ?_
        refine aw_get at_30_65 rfl fl_2_33 he2 rfl ?_
        refine aw_cv (a := 398) [.ref 400] [] at_30_68 mt_2_85 (Or.inl rfl) rfl rfl (Nat.le_of_ble_eq_true rfl) ⟨_, hq2.1⟩ ((r_rename2 px hq2 ka.2.2 kb.2.2 ka.2.1 kb.2.1 (by decide)).mono ?_)
        rintro v S3 ⟨rfl, f3, ⟨q3, hq3⟩, px3⟩
        have g3 : frp rgH S S3 := g2.tr (f3.mn (fun c h => by rcases h with h | h | h <;> omega))
        have h53 := f3.pw h52 (by omega)
        have hr3 := f3.rwo hr2 (by omega)
        have v3 := f3.plv v2 (by omega)
        have he3 := f3.en he2 (by omega)
        have wk3 : wkh S3 := ⟨⟨q3, hq3⟩, ⟨x5, y5, h53⟩, E2, B2, pl2, hr3⟩
        have hcn := rnc_in qa.1 qb.1 (k1 := ka.2.1) (k2 := kb.2.1)
        refine aw_pure (st' := ax_i (6) :: _) at_30_71 rfl rfl ?_
        refine ax_icmp_le at_30_73 ⟨by omega, by omega⟩ ⟨by decide, by decide⟩ (fun z => ?_) (fun z => ?_)
        · skip
          rw [if_neg (by omega)] at hah
          have hx3 := pw_tw px3
          have rl := rnp_len qa.1 qb.1
          have kk := rnp_okv hA ka.1 kb.1 ka.2.2 kb.2.2 ka.2.1 kb.2.1 (by omega)
          refine aw_loc at_30_78 rfl rfl ?_
          refine aw_get at_30_79 rfl fl_2_37 he3 rfl ?_
          refine aw_loc at_30_82 rfl rfl ?_
          refine aw_get at_30_83 rfl fl_2_33 he3 rfl ?_
          have p5 := (pw_tw h53).1
          refine aw_cv (a := 405) [.ref 400] [] at_30_86 mt_2_137 (Or.inl rfl) rfl rfl (Nat.le_of_ble_eq_true rfl) ⟨_, p5⟩ ((r_pxcopy h53 px3 (by decide)).mono ?_)
          rintro v S4 ⟨rfl, hpq4⟩
          have f4 := fr_pq hpq4
          have h54 := pq_pw hpq4 h53
          have g4 : frp rgH S S4 := g3.tr (f4.pp (fun c h1 h2 => by omega))
          have px4 := f4.pw px3 (by decide)
          have hq4 := f4.rv hq3 (by decide)
          have hr4 := f4.rwo hr3 (by decide)
          have v4 := f4.plv v3 (by decide)
          have he4 : en S4 sx sc := (f4.obj (by decide)).trans he3
          have hx4 := pw_tw px4
          refine aw_loc at_30_89 rfl rfl ?_
          refine aw_get at_30_90 rfl fl_2_26 he4 rfl ?_
          refine aw_loc at_30_93 rfl rfl ?_
          refine aw_get at_30_94 rfl fl_2_37 he4 rfl ?_
          refine aw_cv (a := 398) [.ref 405] [] at_30_97 mt_2_85 (Or.inl rfl) rfl rfl (Nat.le_of_ble_eq_true rfl) ⟨_, hq4.1⟩ ((r_rename2 h54 hq4 (by omega) (by omega) (al_kn (by decide) kk.2.2.1.2) (al_kn (by decide) kk.2.2.1.1) (by decide)).mono ?_)
          rintro v S5 ⟨rfl, f5, ⟨q5, hq5⟩, h55⟩
          have g5 : frp rgH S S5 := g4.tr (f5.mn (fun c h => by rcases h with h | h | h <;> omega))
          have px5 := f5.pw px4 (by omega)
          have hr5 := f5.rwo hr4 (by omega)
          have v5 := f5.plv v4 (by omega)
          have he5 := f5.en he4 (by omega)
          have wk5 : wkh S5 := ⟨⟨q5, hq5⟩, ⟨_, _, h55⟩, E2, B2, pl2, hr5⟩
          have rl2 := rnp_len (rnp qa.1 qb.1).2 (rnp qa.1 qb.1).1
          have hx5 := pw_tw px5
          have kin : (rnp qa.1 qb.1 ∈ Vs ∨ rnp (rnp qa.1 qb.1).2 (rnp qa.1 qb.1).1 ∈ Vs) → ai_aw L xs (d + 4) ai_m30 (fun (o : ai_O) => ∃ v S', o = (.inl v, S') ∧ frp rgH S S' ∧ wkh S' ∧ (∃ x y, pw S' 400 x y) ∧ ∃ z, v = some (ax_i z) ∧ ((z = 0 ∧ ah (Ar P) Rs Vs l r = none ∧ plv S' 84 48 Vs) ∨ (z = 1 ∧ ∃ V, ah (Ar P) Rs Vs l r = some V ∧ plv S' 84 48 V))) (129, [some (.ref 11)], [], S5) := by
            intro hin
            refine aw_pure (st' := ax_i (1) :: _) at_30_129 rfl rfl ?_
            exact ax_retZ at_30_130 rfl (Or.inr rfl) (kyes S5 Vs g5 wk5 ⟨_, _, px5⟩ v5 (by rw [hah, if_pos hin]))
          obtain ⟨fa, ga, q84, -⟩ := id v5
          refine aw_pure at_30_100 rfl rfl ?_
          refine aw_loc at_30_101 rfl rfl ?_
          refine aw_get at_30_102 rfl fl_2_14 he5 rfl ?_
          refine aw_loc at_30_105 rfl rfl ?_
          refine aw_get at_30_106 rfl fl_2_33 he5 rfl ?_
          refine aw_cv (a := 84) [.ref 400] [] at_30_109 mt_2_162 (Or.inl rfl) rfl rfl (Nat.le_of_ble_eq_true rfl) ⟨_, q84⟩ ((r_contains v5 (by decide) px5).mono ?_)
          rintro v S0 ⟨hS, z4, rfl, hz4⟩
          have hS2 := hS.symm
          subst hS2
          have hz49 := hz4.le
          refine ax_if_ne at_30_112 ⟨by omega, by omega⟩ (fun z => kin (Or.inl ?_)) (fun z4n => ?_)
          · obtain ⟨i, hi, e1, -⟩ := (hz4.resolve_left (fun h => z h.1)).2
            exact mem_getD.2 ⟨i, hi, e1⟩
          have hno1 : ¬ rnp qa.1 qb.1 ∈ Vs := fun h => (hz4.resolve_right (fun h => by have := h.1; omega)).2 (by obtain ⟨i, hi, e1⟩ := mem_getD.1 h; exact ⟨i, hi, e1, by omega, by omega⟩)
          refine aw_loc at_30_115 rfl rfl ?_
          refine aw_get at_30_116 rfl fl_2_14 he5 rfl ?_
          refine aw_loc at_30_119 rfl rfl ?_
          refine aw_get at_30_120 rfl fl_2_37 he5 rfl ?_
          refine aw_cv (a := 84) [.ref 405] [] at_30_123 mt_2_162 (Or.inl rfl) rfl rfl (Nat.le_of_ble_eq_true rfl) ⟨_, q84⟩ ((r_contains v5 (by decide) h55).mono ?_)
          rintro v S0 ⟨hS, z5, rfl, hz5⟩
          have hS2 := hS.symm
          subst hS2
          have hz59 := hz5.le
          refine ax_if_eq at_30_126 ⟨by omega, by omega⟩ (fun z5n => ?_) (fun z => kin (Or.inr ?_))
          rotate_left
          · obtain ⟨i, hi, e1, -⟩ := (hz5.resolve_left (fun h => z h.1)).2
            exact mem_getD.2 ⟨i, hi, e1⟩
          have hno2 : ¬ rnp (rnp qa.1 qb.1).2 (rnp qa.1 qb.1).1 ∈ Vs := fun h => (hz5.resolve_right (fun h => by have := h.1; omega)).2 (by obtain ⟨i, hi, e1⟩ := mem_getD.1 h; exact ⟨i, hi, e1, by omega, by omega⟩)
          rw [if_neg (fun h => h.elim hno1 hno2)] at hah
          show ai_aw L xs (d + 4) ai_m30 _ (131, _, _, _)
          refine aw_loc at_30_131 rfl rfl ?_
          refine aw_get at_30_132 rfl fl_2_14 he5 rfl ?_
          refine aw_cv (a := 84) [] [] at_30_135 mt_2_121 (Or.inl rfl) rfl rfl (Nat.le_of_ble_eq_true rfl) ⟨_, q84⟩ ((r_full v5 (by decide)).mono ?_)
          rintro v S0 ⟨hS, z6, rfl, hz6⟩
          have hS2 := hS.symm
          subst hS2
          have hz69 := hz6.le
          unfold bz at hz6
          refine ax_if_eq at_30_138 ⟨by omega, by omega⟩ (fun z => ?_) (fun z => ?_)
          · skip
            rw [if_neg (by omega)] at hah
            refine aw_loc at_30_143 rfl rfl ?_
            refine aw_get at_30_144 rfl fl_2_14 he5 rfl ?_
            refine aw_loc at_30_147 rfl rfl ?_
            refine aw_get at_30_148 rfl fl_2_33 he5 rfl ?_
            refine aw_cv (a := 84) [.ref 400] [] at_30_151 mt_2_89 (Or.inl rfl) rfl rfl (Nat.le_of_ble_eq_true rfl) ⟨_, q84⟩ ((r_add v5 (by decide) px5 (by decide)).mono ?_)
            rintro v S6 ⟨rfl, hadd, -⟩
            obtain ⟨f6, v6⟩ := hadd (by omega)
            have g6 : frp rgH S S6 := g5.tr (f6.pp (fun c h1 h2 => by omega))
            refine aw_pure (st' := ax_i (1) :: _) at_30_154 rfl rfl ?_
            exact ax_retZ at_30_155 rfl (Or.inr rfl) (kyes S6 _ g6 ⟨⟨q5, f6.rv hq5 (by decide)⟩, ⟨_, _, f6.pw h55 (by decide)⟩, E2, B2, pl2, f6.rwo hr5 (by decide)⟩ ⟨_, _, f6.pw px5 (by decide)⟩ v6 hah)
          · skip
            rw [if_pos (by omega)] at hah
            refine aw_pure (st' := ax_i (0) :: _) at_30_141 rfl rfl ?_
            exact ax_retZ at_30_142 rfl (Or.inl rfl) (kno S5 g5 wk5 ⟨_, _, px5⟩ v5 hah)
        · skip
          rw [if_pos (by omega)] at hah
          refine aw_pure (st' := ax_i (0) :: _) at_30_76 rfl rfl ?_
          exact ax_retZ at_30_77 rfl (Or.inl rfl) (kno S3 g3 wk3 ⟨_, _, px3⟩ v3 hah)
      · skip
        have heq := (hsame.1 (hz3.resolve_left (fun h => z h.1)).2).1
        rw [if_pos heq] at hah
        refine aw_pure (st' := ax_i (1) :: _) at_30_58 rfl rfl ?_
        exact ax_retZ at_30_59 rfl (Or.inr rfl) (kyes S2 Vs g2 wk2 ⟨_, _, tw_pw ho2 t2 tw2⟩ v2 hah)
set_option maxHeartbeats 8000000 in
theorem r_addK1 (hs : sy S P R nn) (hP : ∀ i, 0 ≤ P i ∧ P i ≤ 2) (hA : ∀ c, 117 ≤ c → Ar P c = 0) (he : en S sx sc) (hp : plv S 12 14 Rs) (hR : ∀ q, q ∈ Rs → okr (Ar P) P' q) (hk : plv S 326 14 ks) (hK : ∀ q, q ∈ ks → okv (Ar P) P' q) : ∀ (m i : Nat) (S1 : ai_S) (V : rls), frp rgH S S1 → wkh S1 → (∃ x y, pw S1 400 x y) → plv S1 84 48 V → (∀ q, q ∈ V → okv (Ar P) P' q) → i + m = ks.length → ada (Ar P) Rs Vs ks = ada (Ar P) Rs V (ks.drop i) → ai_aw L xs (d + 5) ai_m29 (fun (o : ai_O) => ∃ v S', o = (.inl v, S') ∧ frp rgH S S' ∧ wkh S' ∧ (∃ x y, pw S' 400 x y) ∧ plv S' 84 48 (ada (Ar P) Rs Vs ks).1 ∧ ∃ z, v = some (ax_i z) ∧ bz z ((ada (Ar P) Rs Vs ks).2 = true)) (2, [some (.ref 11), some (ax_i (i : Nat))], [], S1) := by
  intro m
  induction m with
  | zero =>
    intro i S1 V f1 w1 hx1 v1 hV1 hm hd
    have he1 := f1.en he (by omega)
    have hk1 := f1.plv hk (by omega)
    obtain ⟨fa, ga, q326, h2, h3, h4, h5, h6, h7, h8⟩ := id hk1
    obtain ⟨x1, y1, px1⟩ := hx1
    have ho1 := (pw_tw px1).1
    rw [List.drop_eq_nil_iff.2 (show ks.length ≤ i by omega)] at hd
    refine aw_loc at_29_2 rfl rfl ?_
    refine aw_loc at_29_3 rfl rfl ?_
    refine aw_get at_29_4 rfl fl_2_20 he1 rfl ?_
    refine aw_get at_29_7 rfl fl_2_82 q326 rfl ?_
    refine ax_icmp_ge at_29_10 ⟨by omega, by omega⟩ ⟨by omega, by omega⟩ (fun _ => ?_) (fun z => absurd z (by omega))
    show ai_aw L xs (d + 5) ai_m29 _ (44, _, _, _)
    refine aw_pure (st' := ax_i (1) :: _) at_29_44 rfl rfl ?_
    exact ax_retZ at_29_45 rfl (Or.inr rfl) ⟨_, _, rfl, f1, w1, ⟨_, _, px1⟩, by rw [hd]; exact v1, 1, rfl, Or.inr ⟨rfl, by rw [hd]; rfl⟩⟩
  | succ m ih =>
    intro i S1 V f1 w1 hx1 v1 hV1 hm hd
    have he1 := f1.en he (by omega)
    have hk1 := f1.plv hk (by omega)
    obtain ⟨fa, ga, q326, h2, h3, h4, h5, h6, h7, h8⟩ := id hk1
    obtain ⟨x1, y1, px1⟩ := hx1
    have ho1 := (pw_tw px1).1
    have hi : i < ks.length := by omega
    have hdc : ks.drop i = ks.getD i q_no :: ks.drop (i + 1) := by rw [List.getD_eq_getElem?_getD, List.getElem?_eq_getElem hi]; simp
    rw [hdc] at hd
    have hok : okv (Ar P) P' (ks.getD i q_no) := hK _ (mem_getD.2 ⟨i, hi, rfl⟩)
    have hg := h4 i (by omega)
    refine aw_loc at_29_2 rfl rfl ?_
    refine aw_loc at_29_3 rfl rfl ?_
    refine aw_get at_29_4 rfl fl_2_20 he1 rfl ?_
    refine aw_get at_29_7 rfl fl_2_82 q326 rfl ?_
    refine ax_icmp_ge at_29_10 ⟨by omega, by omega⟩ ⟨by omega, by omega⟩ (fun z => absurd z (by omega)) (fun _ => ?_)
    refine aw_loc at_29_13 rfl rfl ?_
    refine aw_get at_29_14 rfl fl_2_33 he1 rfl ?_
    refine aw_loc at_29_17 rfl rfl ?_
    refine aw_get at_29_18 rfl fl_2_20 he1 rfl ?_
    refine aw_get at_29_21 rfl fl_2_97 q326 rfl ?_
    refine aw_loc at_29_24 rfl rfl ?_
    refine ax_ald (k := i) at_29_25 rfl h2 rfl (by omega) (by decide) (h3 _ (by omega)) ?_
    have p4 := (pw_tw px1).1
    refine aw_cv (a := 400) [.ref (ga i)] [] at_29_26 mt_2_101 (Or.inl rfl) rfl rfl (Nat.le_of_ble_eq_true rfl) ⟨_, p4⟩ ((r_pcopy px1 (h8 i hi) (by omega)).mono ?_)
    rintro v S2 ⟨rfl, hpq⟩
    have fq := fr_pq hpq
    have px2 := pq_pw hpq px1
    have f2 : frp rgH S S2 := f1.tr (fq.pp (fun c h1 h2 => by omega))
    have w2 : wkh S2 := by obtain ⟨⟨q0, a1⟩, ⟨x5, y5, a2⟩, E0, B0, pl0, a3⟩ := w1; exact ⟨⟨q0, fq.rv a1 (by decide)⟩, ⟨x5, y5, fq.pw a2 (by decide)⟩, E0, B0, pl0, fq.rwo a3 (by decide)⟩
    have he2 := f2.en he (by omega)
    refine aw_loc at_29_29 rfl rfl ?_
    refine aw_cv (a := 11) [] [] at_29_30 mt_2_147 (Or.inl rfl) rfl rfl (Nat.le_of_ble_eq_true rfl) ⟨_, he2⟩ ((r_addH (f2.sy hs (by omega) (by omega) (by omega)) hP hA he2 (f2.plv hp (by omega)) hR (fq.plv v1 (by decide)) w2 px2 hok.1.1 hok.1.2 (al_kn (by decide) hok.2.2.1.1) (al_kn (by decide) hok.2.2.1.2)).mono ?_)
    rintro v S3 ⟨f3, w3, hx3, z3, rfl, hz3⟩
    have f4 := f2.tr f3
    have hz39 : z3 = 0 ∨ z3 = 1 := hz3.imp (fun h => h.1) (fun h => h.1)
    refine ax_if_ne at_29_33 ⟨by omega, by omega⟩ (fun z => ?_) (fun z => ?_)
    · skip
      obtain ⟨V3, a3, v3⟩ := (hz3.resolve_left (fun h => z h.1)).2
      have hd2 : ada (Ar P) Rs Vs ks = ada (Ar P) Rs V3 (ks.drop (i + 1)) := by rw [hd]; show (match ah (Ar P) Rs V (ks.getD i q_no).1 (ks.getD i q_no).2 with | none => (V, false) | some V => ada (Ar P) Rs V (ks.drop (i + 1))) = _; rw [a3]
      refine ax_inc at_29_38 rfl rfl rfl ?_
      refine aw_goto at_29_41 ?_
      have := ih (i + 1) S3 V3 f4 w3 hx3 v3 (ah_okv hA hR hV1 hok.1.1 hok.1.2 hok.2.2.1.1 hok.2.2.1.2 a3).1 (by omega) hd2
      rw [Int.natCast_add] at this
      exact this
    · skip
      obtain ⟨a3, v3⟩ := (hz3.resolve_right (fun h => by have := h.1; omega)).2
      have hd2 : ada (Ar P) Rs Vs ks = (V, false) := by rw [hd]; show (match ah (Ar P) Rs V (ks.getD i q_no).1 (ks.getD i q_no).2 with | none => (V, false) | some V => ada (Ar P) Rs V (ks.drop (i + 1))) = _; rw [a3]
      refine aw_pure (st' := ax_i (0) :: _) at_29_36 rfl rfl ?_
      exact ax_retZ at_29_37 rfl (Or.inl rfl) ⟨_, _, rfl, f4, w3, hx3, by rw [hd2]; exact v3, 0, rfl, Or.inl ⟨rfl, by rw [hd2]; intro h; cases h⟩⟩
set_option maxHeartbeats 2000000 in
theorem r_addK (hs : sy S P R nn) (hP : ∀ i, 0 ≤ P i ∧ P i ≤ 2) (hA : ∀ c, 117 ≤ c → Ar P c = 0) (he : en S sx sc) (hp : plv S 12 14 Rs) (hR : ∀ q, q ∈ Rs → okr (Ar P) P' q) (hk : plv S 326 14 ks) (hK : ∀ q, q ∈ ks → okv (Ar P) P' q) (hv : plv S 84 48 Vs) (hV : ∀ q, q ∈ Vs → okv (Ar P) P' q) (hw : wkh S) (hx : ∃ x y, pw S 400 x y) : ai_rn L xs (d + 6) 29 [.ref 11] S (fun v S' => frp rgH S S' ∧ wkh S' ∧ (∃ x y, pw S' 400 x y) ∧ plv S' 84 48 (ada (Ar P) Rs Vs ks).1 ∧ ∃ z, v = some (ax_i z) ∧ bz z ((ada (Ar P) Rs Vs ks).2 = true)) := by
  refine ai_rn_of (M := ai_m29) rfl (by decide) (Nat.le_of_ble_eq_true rfl) ?_
  refine aw_pure (st' := ax_i (0) :: _) at_29_0 rfl rfl ?_
  refine aw_loc at_29_1 rfl rfl ?_
  exact r_addK1 hs hP hA he hp hR hk hK ks.length 0 S Vs frp.rf hw hx hv hV (by omega) rfl
/-- a right side in a list is written -/
theorem plv_right {b N k : Nat} {ws : rls} {f : Nat → Option Nat} {g : Nat → Nat} {T : Nat → Int} {n : Nat} {w : List Int} (h1 : ai_obj S b 6 = some [.ref (b + 1), ax_i ws.length]) (h2 : ai_arrA S (b + 1) 4 = some (N, f)) (h3 : ∀ j, j < N → f j = some (g j)) (h4 : ∀ j, j < N → b + 2 ≤ g j ∧ g j + 5 ≤ b + 2 + 5 * N) (h5 : ∀ i j, i < N → j < N → i ≠ j → g i + 5 ≤ g j ∨ g j + 5 ≤ g i) (h6 : ∀ j, j < N → ∃ l r, pw S (g j) l r) (h7 : ws.length ≤ N) (h8 : ∀ j, j < ws.length → pw S (g j) (ws.getD j ([], [])).1 (ws.getD j ([], [])).2) (hk : k < ws.length) (hw : wd T n w) : plv (tm_put S (g k + 3) T n) b N (ws.set k ((ws.getD k ([], [])).1, w)) := by
  have hg := h4 k (by omega)
  have ff : fr (g k + 3) (g k + 5) S (tm_put S (g k + 3) T n) := fr_tm.mn (by omega) (by omega)
  have key : ∀ j l r, j < N → j ≠ k → pw S (g j) l r → pw (tm_put S (g k + 3) T n) (g j) l r := fun j l r hj hjk h => ff.pw h (by have := h5 j k hj (by omega) hjk; omega)
  have hkk : ∀ l r, pw S (g k) l r → pw (tm_put S (g k + 3) T n) (g k) l w := by
    intro l r h
    obtain ⟨o1, o2, o3⟩ := pw_tw h
    obtain ⟨U, m, a1, a2⟩ := o3
    obtain ⟨V, p, b1, b2⟩ := o2
    exact tw_pw ((tm_obj (by omega) (by omega)).trans o1) ⟨V, p, tm_off b1 (by omega) (by omega) (by omega), b2⟩ (tw_put (tm_lt a1) hw)
  refine ⟨f, g, by rw [List.length_set]; exact (ff.obj (by omega)).trans h1, (ff.arrA (by omega)).trans h2, h3, h4, h5, fun j hj => ?_, by rw [List.length_set]; exact h7, fun j hj => ?_⟩
  · obtain ⟨l, r, h⟩ := h6 j hj
    by_cases e : j = k
    · subst e; exact ⟨_, _, hkk l r h⟩
    · exact ⟨l, r, key j l r hj e h⟩
  · rw [List.length_set] at hj
    by_cases e : j = k
    · subst e
      rw [List.getD_eq_getElem?_getD, List.getElem?_set_self hj]
      exact hkk _ _ (h8 j hj)
    · rw [List.getD_eq_getElem?_getD, List.getElem?_set_ne (fun h => e h.symm), ← List.getD_eq_getElem?_getD]
      exact key j _ _ (by omega) e (h8 j hj)
set_option maxHeartbeats 8000000 in
theorem r_set1 (hs : sy S P R nn) (hP : ∀ i, 0 ≤ P i ∧ P i ≤ 2) (hA : ∀ c, 117 ≤ c → Ar P c = 0) (he : en S sx sc) : ∀ (m i : Nat) (S1 : ai_S) (W : rls), frp (fun c => (12 ≤ c ∧ c < 84) ∨ (410 ≤ c ∧ c < 417)) S S1 → (∃ E B pl, rwo S1 E B pl) → (∃ x, tw S1 410 x) → plv S1 12 14 W → (∀ q, q ∈ W → okr (Ar P) P' q) → W.length = Rs.length → i + m = Rs.length - 1 → stl (Ar P) 0 (Rs.length - 1) Rs = stl (Ar P) i m W → ai_aw L xs (d + 4) ai_m28 (fun (o : ai_O) => ∃ v S', o = (.inl v, S') ∧ frp (fun c => (12 ≤ c ∧ c < 84) ∨ (410 ≤ c ∧ c < 417)) S S' ∧ (∃ E B pl, rwo S' E B pl) ∧ (∃ x, tw S' 410 x) ∧ plv S' 12 14 (stl (Ar P) 0 (Rs.length - 1) Rs).1 ∧ ∃ z, v = some (ax_i z) ∧ bz z ((stl (Ar P) 0 (Rs.length - 1) Rs).2 = true)) (2, [some (.ref 11), some (ax_i (i : Nat))], [], S1) := by
  intro m
  induction m with
  | zero =>
    intro i S1 W f1 hr1 hx1 p1 hW hlW hm hd
    have he1 := f1.en he (by omega)
    obtain ⟨fa, ga, h1, h2, h3, h4, h5, h6, h7, h8⟩ := id p1
    obtain ⟨E1, B1, pl1, hr1⟩ := hr1
    obtain ⟨x1, hx1⟩ := hx1
    refine aw_loc at_28_2 rfl rfl ?_
    refine aw_loc at_28_3 rfl rfl ?_
    refine aw_get at_28_4 rfl fl_2_54 he1 rfl ?_
    refine aw_get at_28_7 rfl fl_2_82 h1 rfl ?_
    refine aw_pure (st' := ax_i (1) :: _) at_28_10 rfl rfl ?_
    refine ax_sub at_28_11 rfl ?_
    refine ax_icmp_ge at_28_12 ⟨by omega, by omega⟩ ⟨by omega, by omega⟩ (fun _ => ?_) (fun z => absurd z (by omega))
    show ai_aw L xs (d + 4) ai_m28 _ (76, _, _, _)
    refine aw_pure (st' := ax_i (1) :: _) at_28_76 rfl rfl ?_
    exact ax_retZ at_28_77 rfl (Or.inr rfl) ⟨_, _, rfl, f1, ⟨_, _, _, hr1⟩, ⟨_, hx1⟩, by rw [hd]; exact p1, 1, rfl, Or.inr ⟨rfl, by rw [hd]; rfl⟩⟩
  | succ m ih =>
    intro i S1 W f1 hr1 hx1 p1 hW hlW hm hd
    have he1 := f1.en he (by omega)
    obtain ⟨fa, ga, h1, h2, h3, h4, h5, h6, h7, h8⟩ := id p1
    obtain ⟨E1, B1, pl1, hr1⟩ := hr1
    obtain ⟨x1, hx1⟩ := hx1
    have hi : i < W.length := by omega
    have hok : okr (Ar P) P' (W.getD i q_no) := hW _ (mem_getD.2 ⟨i, hi, rfl⟩)
    have hg := h4 i (by omega)
    obtain ⟨Tl, nl, Tr, nr, hpr, hwd1, hwd2⟩ := id (h8 i hi)
    obtain ⟨Ts, ns, ts1, ts2⟩ := id hx1
    refine aw_loc at_28_2 rfl rfl ?_
    refine aw_loc at_28_3 rfl rfl ?_
    refine aw_get at_28_4 rfl fl_2_54 he1 rfl ?_
    refine aw_get at_28_7 rfl fl_2_82 h1 rfl ?_
    refine aw_pure (st' := ax_i (1) :: _) at_28_10 rfl rfl ?_
    refine ax_sub at_28_11 rfl ?_
    refine ax_icmp_ge at_28_12 ⟨by omega, by omega⟩ ⟨by omega, by omega⟩ (fun z => absurd z (by omega)) (fun _ => ?_)
    refine aw_loc at_28_15 rfl rfl ?_
    refine aw_get at_28_16 rfl fl_2_43 he1 rfl ?_
    refine aw_loc at_28_19 rfl rfl ?_
    refine aw_get at_28_20 rfl fl_2_54 he1 rfl ?_
    refine aw_get at_28_23 rfl fl_2_97 h1 rfl ?_
    refine aw_loc at_28_26 rfl rfl ?_
    refine ax_ald (k := i) at_28_27 rfl h2 rfl (by omega) (by decide) (h3 _ (by omega)) ?_
    refine aw_get at_28_28 rfl fl_2_114 hpr.1 rfl ?_
    refine aw_cv (a := 410) [.ref (ga i + 3)] [] at_28_31 mt_2_144 (Or.inl rfl) rfl rfl (Nat.le_of_ble_eq_true rfl) ⟨_, ts1.1⟩ ((r_tcopy ts1 ts2.2.2 hpr.2.2 hwd2 (by omega)).mono ?_)
    rintro v S0 ⟨rfl, T2, n2, rfl, hw2⟩
    have fq : fr 410 412 S1 (tm_put S1 410 T2 n2) := fr_tm
    have t2 := tw_put (S := S1) (tm_lt ts1) hw2
    have p2 := fq.plv p1 (by decide)
    have hr2 := fq.rwo hr1 (by decide)
    have f2 : frp (fun c => (12 ≤ c ∧ c < 84) ∨ (410 ≤ c ∧ c < 417)) S (tm_put S1 410 T2 n2) := f1.tr (fq.pp (fun c h1 h2 => by omega))
    generalize tm_put S1 410 T2 n2 = S2 at fq t2 p2 hr2 f2 ⊢
    have he2 := f2.en he (by omega)
    refine aw_loc at_28_34 rfl rfl ?_
    refine aw_get at_28_35 rfl fl_2_62 he2 rfl ?_
    refine aw_loc at_28_38 rfl rfl ?_
    refine aw_get at_28_39 rfl fl_2_43 he2 rfl ?_
    refine aw_cv (a := 412) [.ref 410] [] at_28_42 mt_2_110 (Or.inl rfl) rfl rfl (Nat.le_of_ble_eq_true rfl) ⟨_, hr2.1⟩ ((r_norm (f2.sy hs (by omega) (by omega) (by omega)) hP hA (by decide) p2 (okr_rlk hW) hr2 t2 hok.1.1.2).mono ?_)
    rintro v S3 ⟨f3, ⟨E3, B3, pl3, hr3⟩, z3, rfl, hz3⟩
    have f4 : frp (fun c => (12 ≤ c ∧ c < 84) ∨ (410 ≤ c ∧ c < 417)) S S3 := f2.tr (f3.mn (fun c h => by rcases h with h | h | h <;> omega))
    have p3 := f3.plv p2 (by omega)
    have he3 := f4.en he (by omega)
    refine aw_pure (st' := ax_i (-1) :: _) at_28_45 rfl rfl ?_
    rcases hz3 with ⟨n3, m3, w3, tw3⟩ | ⟨q, n3, m3, tw3⟩
    · skip
      have hd2 : stl (Ar P) 0 (Rs.length - 1) Rs = (W, false) := by rw [hd]; unfold stl; rw [n3]
      refine ax_icmp_ne at_28_46 ⟨by omega, by omega⟩ ⟨by decide, by decide⟩ (fun z => absurd m3 z) (fun _ => ?_)
      refine aw_pure (st' := ax_i (0) :: _) at_28_49 rfl rfl ?_
      exact ax_retZ at_28_50 rfl (Or.inl rfl) ⟨_, _, rfl, f4, ⟨_, _, _, hr3⟩, ⟨_, tw3⟩, by rw [hd2]; exact p3, 0, rfl, Or.inl ⟨rfl, by rw [hd2]; intro h; cases h⟩⟩
    · skip
      have hq9 := nf_le hA (Rs := W) 40 _ n3
      have hd2 : stl (Ar P) 0 (Rs.length - 1) Rs = stl (Ar P) (i + 1) m (W.set i ((W.getD i q_no).1, q.1)) := by
        rw [hd]
        conv => lhs; unfold stl
        rw [n3]
      have hst := stl_okr hA 1 i W (by omega) hW
      have hst1 : stl (Ar P) i 1 W = (W.set i ((W.getD i q_no).1, q.1), true) := by unfold stl; rw [n3]; rfl
      rw [hst1] at hst
      refine ax_icmp_ne at_28_46 ⟨by omega, by omega⟩ ⟨by decide, by decide⟩ (fun _ => ?_) (fun z => absurd z (by omega))
      show ai_aw L xs (d + 4) ai_m28 _ (51, _, _, _)
      obtain ⟨fb, gb, i1, i2, i3, i4, i5, i6, i7, i8⟩ := id p3
      obtain ⟨Ul, ml, Ur, mr, hpr3, hwd3, hwd4⟩ := id (i8 i hi)
      have hg3 := i4 i (by omega)
      obtain ⟨T4, n4, t4, t5⟩ := id tw3
      refine aw_loc at_28_51 rfl rfl ?_
      refine aw_get at_28_52 rfl fl_2_54 he3 rfl ?_
      refine aw_get at_28_55 rfl fl_2_97 i1 rfl ?_
      refine aw_loc at_28_58 rfl rfl ?_
      refine ax_ald (k := i) at_28_59 rfl i2 rfl (by omega) (by decide) (i3 _ (by omega)) ?_
      refine aw_get at_28_60 rfl fl_2_114 hpr3.1 rfl ?_
      refine aw_loc at_28_63 rfl rfl ?_
      refine aw_get at_28_64 rfl fl_2_43 he3 rfl ?_
      refine aw_cv (a := gb i + 3) [.ref 410] [] at_28_67 mt_2_144 (Or.inl rfl) rfl rfl (Nat.le_of_ble_eq_true rfl) ⟨_, hpr3.2.2.1⟩ ((r_tcopy hpr3.2.2 hwd4.2.2 t4 t5 (by omega)).mono ?_)
      rintro v S0 ⟨rfl, T6, n6, rfl, hw6⟩
      have p6 := plv_right i1 i2 i3 i4 i5 i6 i7 i8 hi hw6
      have fq6 : fr 12 84 S3 (tm_put S3 (gb i + 3) T6 n6) := fr_tm.mn (by omega) (by omega)
      have f6 : frp (fun c => (12 ≤ c ∧ c < 84) ∨ (410 ≤ c ∧ c < 417)) S (tm_put S3 (gb i + 3) T6 n6) := f4.tr (fq6.pp (fun c h1 h2 => by omega))
      refine ax_inc at_28_70 rfl rfl rfl ?_
      refine aw_goto at_28_73 ?_
      have := ih (i + 1) _ _ f6 ⟨_, _, _, fq6.rwo hr3 (by decide)⟩ ⟨_, fq6.tw tw3 (by decide)⟩ p6 hst.1 (by rw [List.length_set]; exact hlW) (by omega) hd2
      rw [Int.natCast_add] at this
      exact this
set_option maxHeartbeats 2000000 in
theorem r_set (hs : sy S P R nn) (hP : ∀ i, 0 ≤ P i ∧ P i ≤ 2) (hA : ∀ c, 117 ≤ c → Ar P c = 0) (he : en S sx sc) (hp : plv S 12 14 Rs) (hR : ∀ q, q ∈ Rs → okr (Ar P) P' q) (hr : ∃ E B pl, rwo S E B pl) (hx : ∃ x, tw S 410 x) : ai_rn L xs (d + 5) 28 [.ref 11] S (fun v S' => frp (fun c => (12 ≤ c ∧ c < 84) ∨ (410 ≤ c ∧ c < 417)) S S' ∧ (∃ E B pl, rwo S' E B pl) ∧ (∃ x, tw S' 410 x) ∧ plv S' 12 14 (stl (Ar P) 0 (Rs.length - 1) Rs).1 ∧ ∃ z, v = some (ax_i z) ∧ bz z ((stl (Ar P) 0 (Rs.length - 1) Rs).2 = true)) := by
  refine ai_rn_of (M := ai_m28) rfl (by decide) (Nat.le_of_ble_eq_true rfl) ?_
  refine aw_pure (st' := ax_i (0) :: _) at_28_0 rfl rfl ?_
  refine aw_loc at_28_1 rfl rfl ?_
  exact r_set1 hs hP hA he (Rs.length - 1) 0 S Rs frp.rf hr hx hp hR rfl (by omega) rfl
end EH

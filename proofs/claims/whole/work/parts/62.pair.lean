/-! A pair is found, as the landed code does it. -/
section FQ
variable {L : Nat} {xs : Nat → Int32} {d : Nat} {S S' : ai_S} {P R LT EN ND PA SE ST e : Nat → Int} {nn dp : Int}
theorem tm_zero {a n : Nat} {T : Nat → Int} (h : tm S a T n) : ai_wr S a (.inr (4, [.ref (a + 1), ax_i 0])) = tm_put S a T 0 := by
  have := tm_w2 (S := S) (a := a) (n := n) (T := T) (x := ax_i 0) (m := 0) rfl
  rw [tm_self h] at this
  exact this
theorem tw_zero {a : Nat} {w : List Int} (h : tw S a w) : ∃ T, ai_wr S a (.inr (4, [.ref (a + 1), ax_i 0])) = tm_put S a T 0 ∧ tw (tm_put S a T 0) a [] := by
  obtain ⟨T, n, h1, h2⟩ := h
  exact ⟨T, tm_zero h1, T, 0, tm_get (tm_lt h1), rfl, fun i hi => absurd hi (by simp), h2.2.2⟩
theorem pw_tw {p : Nat} {l r : List Int} (h : pw S p l r) : ai_obj S p 3 = some [.ref (p + 1), .ref (p + 3)] ∧ tw S (p + 1) l ∧ tw S (p + 3) r := by
  obtain ⟨T, n, U, m, h1, h2, h3⟩ := h
  exact ⟨h1.1, ⟨T, n, h1.2.1, h2⟩, U, m, h1.2.2, h3⟩
theorem tw_pw {p : Nat} {l r : List Int} (h0 : ai_obj S p 3 = some [.ref (p + 1), .ref (p + 3)]) (h1 : tw S (p + 1) l) (h2 : tw S (p + 3) r) : pw S p l r := by
  obtain ⟨T, n, a1, a2⟩ := h1
  obtain ⟨U, m, b1, b2⟩ := h2
  exact ⟨T, n, U, m, ⟨h0, a1, b1⟩, a2, b2⟩
/-- the cells that finding a pair changes -/
abbrev rgF (c : Nat) : Prop := (400 ≤ c ∧ c < 405) ∨ (425 ≤ c ∧ c < 432)
theorem sl_reg {A : Int → Nat} {b : Nat} {w : List Int} {j n : Nat} (h : ∀ i, i < w.length → Yr LT ND (b + i) = w.getD i 0) (hj : j + n ≤ w.length) : sl (Yr LT ND) (b + j) n = (w.drop j).take n := by
  have h1 := sl_word (Yr LT ND) w b h
  have h2 := sl_drop (Yr LT ND) j b w.length
  rw [h1] at h2
  rw [h2, sl_take _ _ _ _ (by omega)]
theorem at_35_0 : ai_at ai_m35 0 = some (.bipush 48, 2) := rfl
theorem at_35_2 : ai_at ai_m35 2 = some (.iload_n 1, 1) := rfl
theorem at_35_3 : ai_at ai_m35 3 = some (.iadd, 1) := rfl
theorem at_35_4 : ai_at ai_m35 4 = some (.istore_n 3, 1) := rfl
theorem at_35_5 : ai_at ai_m35 5 = some (.iload_n 3, 1) := rfl
theorem at_35_6 : ai_at ai_m35 6 = some (.aload_n 0, 1) := rfl
theorem at_35_7 : ai_at ai_m35 7 = some (.getfield 42, 3) := rfl
theorem at_35_10 : ai_at ai_m35 10 = some (.if_icmp .ge 18, 3) := rfl
theorem at_35_13 : ai_at ai_m35 13 = some (.aload_n 0, 1) := rfl
theorem at_35_14 : ai_at ai_m35 14 = some (.getfield 11, 3) := rfl
theorem at_35_17 : ai_at ai_m35 17 = some (.iload_n 3, 1) := rfl
theorem at_35_18 : ai_at ai_m35 18 = some (.caload, 1) := rfl
theorem at_35_19 : ai_at ai_m35 19 = some (.aload_n 0, 1) := rfl
theorem at_35_20 : ai_at ai_m35 20 = some (.getfield 11, 3) := rfl
theorem at_35_23 : ai_at ai_m35 23 = some (.iconst 0, 1) := rfl
theorem at_35_24 : ai_at ai_m35 24 = some (.caload, 1) := rfl
theorem at_35_25 : ai_at ai_m35 25 = some (.if_icmp .eq 5, 3) := rfl
theorem at_35_28 : ai_at ai_m35 28 = some (.iconst 0, 1) := rfl
theorem at_35_29 : ai_at ai_m35 29 = some (.ireturn, 1) := rfl
theorem at_35_30 : ai_at ai_m35 30 = some (.aload_n 0, 1) := rfl
theorem at_35_31 : ai_at ai_m35 31 = some (.iconst 0, 1) := rfl
theorem at_35_32 : ai_at ai_m35 32 = some (.iload_n 3, 1) := rfl
theorem at_35_33 : ai_at ai_m35 33 = some (.invokevirtual 81, 3) := rfl
theorem at_35_36 : ai_at ai_m35 36 = some (.ifCond .eq 11, 3) := rfl
theorem at_35_39 : ai_at ai_m35 39 = some (.aload_n 0, 1) := rfl
theorem at_35_40 : ai_at ai_m35 40 = some (.iload_n 3, 1) := rfl
theorem at_35_41 : ai_at ai_m35 41 = some (.invokevirtual 85, 3) := rfl
theorem at_35_44 : ai_at ai_m35 44 = some (.ifCond .ne 5, 3) := rfl
theorem at_35_47 : ai_at ai_m35 47 = some (.iconst 0, 1) := rfl
theorem at_35_48 : ai_at ai_m35 48 = some (.ireturn, 1) := rfl
theorem at_35_49 : ai_at ai_m35 49 = some (.aload_n 2, 1) := rfl
theorem at_35_50 : ai_at ai_m35 50 = some (.getfield 52, 3) := rfl
theorem at_35_53 : ai_at ai_m35 53 = some (.iconst 0, 1) := rfl
theorem at_35_54 : ai_at ai_m35 54 = some (.putfield 65, 3) := rfl
theorem at_35_57 : ai_at ai_m35 57 = some (.aload_n 0, 1) := rfl
theorem at_35_58 : ai_at ai_m35 58 = some (.bipush 48, 2) := rfl
theorem at_35_60 : ai_at ai_m35 60 = some (.iload_n 3, 1) := rfl
theorem at_35_61 : ai_at ai_m35 61 = some (.aload_n 2, 1) := rfl
theorem at_35_62 : ai_at ai_m35 62 = some (.getfield 52, 3) := rfl
theorem at_35_65 : ai_at ai_m35 65 = some (.invokevirtual 89, 3) := rfl
theorem at_35_68 : ai_at ai_m35 68 = some (.aload_n 0, 1) := rfl
theorem at_35_69 : ai_at ai_m35 69 = some (.bipush 24, 2) := rfl
theorem at_35_71 : ai_at ai_m35 71 = some (.aload_n 0, 1) := rfl
theorem at_35_72 : ai_at ai_m35 72 = some (.getfield 39, 3) := rfl
theorem at_35_75 : ai_at ai_m35 75 = some (.aload_n 2, 1) := rfl
theorem at_35_76 : ai_at ai_m35 76 = some (.getfield 52, 3) := rfl
theorem at_35_79 : ai_at ai_m35 79 = some (.invokevirtual 89, 3) := rfl
theorem at_35_82 : ai_at ai_m35 82 = some (.aload_n 0, 1) := rfl
theorem at_35_83 : ai_at ai_m35 83 = some (.aload_n 0, 1) := rfl
theorem at_35_84 : ai_at ai_m35 84 = some (.getfield 15, 3) := rfl
theorem at_35_87 : ai_at ai_m35 87 = some (.iload_n 3, 1) := rfl
theorem at_35_88 : ai_at ai_m35 88 = some (.iaload, 1) := rfl
theorem at_35_89 : ai_at ai_m35 89 = some (.aload_n 0, 1) := rfl
theorem at_35_90 : ai_at ai_m35 90 = some (.getfield 42, 3) := rfl
theorem at_35_93 : ai_at ai_m35 93 = some (.aload_n 2, 1) := rfl
theorem at_35_94 : ai_at ai_m35 94 = some (.getfield 52, 3) := rfl
theorem at_35_97 : ai_at ai_m35 97 = some (.invokevirtual 89, 3) := rfl
theorem at_35_100 : ai_at ai_m35 100 = some (.aload_n 2, 1) := rfl
theorem at_35_101 : ai_at ai_m35 101 = some (.getfield 62, 3) := rfl
theorem at_35_104 : ai_at ai_m35 104 = some (.iconst 0, 1) := rfl
theorem at_35_105 : ai_at ai_m35 105 = some (.putfield 65, 3) := rfl
theorem at_35_108 : ai_at ai_m35 108 = some (.aload_n 0, 1) := rfl
theorem at_35_109 : ai_at ai_m35 109 = some (.bipush 72, 2) := rfl
theorem at_35_111 : ai_at ai_m35 111 = some (.aload_n 0, 1) := rfl
theorem at_35_112 : ai_at ai_m35 112 = some (.getfield 45, 3) := rfl
theorem at_35_115 : ai_at ai_m35 115 = some (.aload_n 2, 1) := rfl
theorem at_35_116 : ai_at ai_m35 116 = some (.getfield 62, 3) := rfl
theorem at_35_119 : ai_at ai_m35 119 = some (.invokevirtual 89, 3) := rfl
theorem at_35_122 : ai_at ai_m35 122 = some (.iconst 1, 1) := rfl
theorem at_35_123 : ai_at ai_m35 123 = some (.ireturn, 1) := rfl
theorem mt_3_81 : ai_mth 3 81 = some (0, 36, 2, 10) := by decide +kernel
theorem mt_3_85 : ai_mth 3 85 = some (0, 41, 1, 10) := by decide +kernel
theorem mt_3_89 : ai_mth 3 89 = some (0, 44, 3, 10) := by decide +kernel
set_option maxHeartbeats 16000000 in
theorem r_findP {p : Nat} {u l : List Int × List Int} {x y : List Int} (hs : sy S P R nn) (hP : ∀ i, 0 ≤ P i ∧ P i ≤ 2) (hA : ∀ c, 117 ≤ c → Ar P c = 0) (h : ovo S LT EN ND PA SE ST dp e) (h01 : ∀ n, SE n = 0 ∨ SE n = 1) (hq : ovq (Ar P) LT EN ND e u l) (hb : twb (Ar P) u l) (hh : ∃ c t, u.1 = c :: t ∧ c < 117) (hx : pw S 400 x y) (hp : p < 24) : ai_rn L xs (d + 5) 35 [.ref 425, ax_i (p : Nat), .ref 400] S (fun v S' => frp rgF S S' ∧ (∃ PA' SE' ST' dp', ovo S' LT EN ND PA' SE' ST' dp' e ∧ ∀ n, SE' n = 0 ∨ SE' n = 1) ∧ ∃ z, v = some (ax_i z) ∧ ((z = 0 ∧ (∀ Rs Vs, cpo (Ar P) Rs Vs u l p = some Vs) ∧ pw S' 400 x y) ∨ (z = 1 ∧ p < l.1.length ∧ l.1.getD p 0 < 117 ∧ ∃ f, mgu (Ar P) f u.1 (sb (Ar P) (swp l).1 p) ∧ pw S' 400 ((cpl (Ar P) u (swp l) p).flatMap f) ((swp l).2.flatMap f) ∧ ∀ K : Int → Prop, (∀ c, (c ∈ u.1 ∨ c ∈ u.2 ∨ c ∈ l.1 ∨ c ∈ l.2) → c < 117 → K c) → (∀ c, 117 ≤ c → c < 129 → K c) → al K ((cpl (Ar P) u (swp l) p).flatMap f) ∧ al K ((swp l).2.flatMap f)))) := by
  have hA2 : ∀ c, Ar P c ≤ 2 := fun c => (Ar_in hP c).2
  have hb9 := hb
  obtain ⟨⟨t1, t2, t3, t4⟩, ⟨l1, l2, l3, l4⟩, k1, k2, k3, k4⟩ := hb9
  have hq9 := hq
  obtain ⟨r1, r2, r3, r4, ⟨e0, e1, e2, e3⟩, hLT⟩ := hq9
  have hx3 := pw_tw hx
  have ho := hx3.1
  have hul := List.length_pos_iff.2 (ts_ne t1)
  obtain ⟨c0, u0, hu0, hc0⟩ := hh
  have hL0 : LT 0 = c0 := by have := (r1 0 hul).1; rw [Nat.zero_add] at this; rw [this, hu0]; rfl
  have kno : ∀ (S1 : ai_S) (PA1 SE1 ST1 : Nat → Int) (dp1 : Int), fr 425 432 S S1 → ovo S1 LT EN ND PA1 SE1 ST1 dp1 e → (∀ n, SE1 n = 0 ∨ SE1 n = 1) → (∀ Rs Vs, cpo (Ar P) Rs Vs u l p = some Vs) → (fun (o : ai_O) => ∃ v S', o = (.inl v, S') ∧ frp rgF S S' ∧ (∃ PA' SE' ST' dp', ovo S' LT EN ND PA' SE' ST' dp' e ∧ ∀ n, SE' n = 0 ∨ SE' n = 1) ∧ ∃ z, v = some (ax_i z) ∧ ((z = 0 ∧ (∀ Rs Vs, cpo (Ar P) Rs Vs u l p = some Vs) ∧ pw S' 400 x y) ∨ (z = 1 ∧ p < l.1.length ∧ l.1.getD p 0 < 117 ∧ ∃ f, mgu (Ar P) f u.1 (sb (Ar P) (swp l).1 p) ∧ pw S' 400 ((cpl (Ar P) u (swp l) p).flatMap f) ((swp l).2.flatMap f) ∧ ∀ K : Int → Prop, (∀ c, (c ∈ u.1 ∨ c ∈ u.2 ∨ c ∈ l.1 ∨ c ∈ l.2) → c < 117 → K c) → (∀ c, 117 ≤ c → c < 129 → K c) → al K ((cpl (Ar P) u (swp l) p).flatMap f) ∧ al K ((swp l).2.flatMap f)))) (.inl (some (ax_i 0)), S1) := by
    intro S1 PA1 SE1 ST1 dp1 f1 h1 g1 g2
    exact ⟨_, _, rfl, f1.pp (P := rgF) (fun c a b => Or.inr ⟨a, b⟩), ⟨_, _, _, _, h1, g1⟩, 0, rfl, Or.inl ⟨rfl, g2, f1.pw hx (by decide)⟩⟩
  refine ai_rn_of (M := ai_m35) rfl (by decide) (Nat.le_of_ble_eq_true rfl) ?_
  refine aw_pure (st' := ax_i (48) :: _) at_35_0 rfl rfl ?_
  refine aw_loc at_35_2 rfl rfl ?_
  refine ax_add at_35_3 rfl ?_
  rw [show (48 : Int) + (p : Int) = ((48 + p : Nat) : Int) by omega]
  refine aw_loc at_35_4 rfl rfl ?_
  refine aw_loc at_35_5 rfl rfl ?_
  refine aw_loc at_35_6 rfl rfl ?_
  have k28 : (∀ Rs Vs, cpo (Ar P) Rs Vs u l p = some Vs) → ai_aw L xs (d + 4) ai_m35 (fun (o : ai_O) => ∃ v S', o = (.inl v, S') ∧ frp rgF S S' ∧ (∃ PA' SE' ST' dp', ovo S' LT EN ND PA' SE' ST' dp' e ∧ ∀ n, SE' n = 0 ∨ SE' n = 1) ∧ ∃ z, v = some (ax_i z) ∧ ((z = 0 ∧ (∀ Rs Vs, cpo (Ar P) Rs Vs u l p = some Vs) ∧ pw S' 400 x y) ∨ (z = 1 ∧ p < l.1.length ∧ l.1.getD p 0 < 117 ∧ ∃ f, mgu (Ar P) f u.1 (sb (Ar P) (swp l).1 p) ∧ pw S' 400 ((cpl (Ar P) u (swp l) p).flatMap f) ((swp l).2.flatMap f) ∧ ∀ K : Int → Prop, (∀ c, (c ∈ u.1 ∨ c ∈ u.2 ∨ c ∈ l.1 ∨ c ∈ l.2) → c < 117 → K c) → (∀ c, 117 ≤ c → c < 129 → K c) → al K ((cpl (Ar P) u (swp l) p).flatMap f) ∧ al K ((swp l).2.flatMap f)))) (28, [some (.ref 425), some (ax_i (p : Nat)), some (.ref 400), some (ax_i ((48 + p : Nat) : Int))], [], S) := by
    intro hn
    refine aw_pure (st' := ax_i (0) :: _) at_35_28 rfl rfl ?_
    exact ax_retZ at_35_29 rfl (Or.inl rfl) (kno S PA SE ST dp fr.rf h h01 hn)
  refine aw_get at_35_7 rfl fl_3_42 h.1 rfl ?_
  rw [show ax_i (e 2) = ax_i (48 + (l.1.length : Int)) by rw [e2]]
  refine ax_icmp_ge at_35_10 ⟨by omega, by omega⟩ ⟨by omega, by omega⟩ (fun z => k28 (fun Rs Vs => cpo_none (fun g => absurd g.1 (by omega)))) (fun z1 => ?_)
  have hpl : p < l.1.length := by omega
  have hLp := (r3 p hpl).1
  have b1 := hLT (48 + p)
  have b2 := hLT 0
  refine aw_loc at_35_13 rfl rfl ?_
  refine aw_get at_35_14 rfl fl_3_11 h.1 rfl ?_
  refine aw_loc at_35_17 rfl rfl ?_
  refine ax_cld at_35_18 rfl h.2.1 (k := 48 + p) rfl (by omega) (by decide) ?_
  refine aw_loc at_35_19 rfl rfl ?_
  refine aw_get at_35_20 rfl fl_3_11 h.1 rfl ?_
  refine aw_pure (st' := ax_i (0) :: _) at_35_23 rfl rfl ?_
  refine ax_cld at_35_24 rfl h.2.1 (k := 0) rfl (by decide) (by decide) ?_
  obtain ⟨htp, hvl, hvb, hvat⟩ := lay_tps hA hA2 hq hb hpl
  have hmt : ts (Ar P) 1 (swp l).1 := ts_map hA sw_inv.1 _ 1 t3
  have hmp : p < (swp l).1.length := by show p < (l.1.map sw).length; rw [List.length_map]; exact hpl
  have hvt : ts (Ar P) 1 (lowv (Ar P) l p) := sb_ts hmt hmp
  have hvpos := List.length_pos_iff.2 (ts_ne hvt)
  have T0 : T2 (Ar P) u.1 (lowv (Ar P) l p) (48 + p) 0 = u.1 := T2_first t1
  have Tp : T2 (Ar P) u.1 (lowv (Ar P) l p) (48 + p) (48 + p) = lowv (Ar P) l p := T2_second (by omega) hvt
  have hD0 : D2 u.1 (lowv (Ar P) l p) (48 + p) 0 := Or.inl hul
  have hDp : D2 u.1 (lowv (Ar P) l p) (48 + p) (48 + p) := Or.inr ⟨Nat.le_refl _, by omega⟩
  have hY0 : ∀ i, i < u.1.length → Yr LT ND i = u.1.getD i 0 := fun i hi => by have := rgn_Y r1 hi; rw [Nat.zero_add] at this; exact this
  have hv : ovs (Ar P) P LT EN ND (D2 u.1 (lowv (Ar P) l p) (48 + p)) (Yr LT ND) (fun i => (EN i).toNat) := by
    have key : ∀ i, i < 96 → (LT i < 117 ↔ Yr LT ND i < 117) ∧ (Yr LT ND i < 117 → LT i = Yr LT ND i) ∧ ND i = (ndo (Yr LT ND) i : Int) ∧ 97 ≤ Yr LT ND i ∧ Yr LT ND i < 129 → 0 ≤ EN i → i < 96 ∧ (0 ≤ LT i ∧ LT i < 65536) ∧ (97 ≤ Yr LT ND i ∧ Yr LT ND i < 129) ∧ (LT i < 117 ↔ Yr LT ND i < 117) ∧ (Yr LT ND i < 117 → LT i = Yr LT ND i) ∧ ND i = (ndo (Yr LT ND) i : Int) ∧ EN i = (((EN i).toNat : Nat) : Int) ∧ at256 P (LT i) = (Ar P (Yr LT ND i) : Int) := by
      rintro i hi ⟨g1, g2, g3, g4, g5⟩ g6
      refine ⟨hi, hLT i, ⟨g4, g5⟩, g1, g2, g3, by omega, ?_⟩
      rw [(Ar_in hP (LT i)).1]
      by_cases g7 : Yr LT ND i < 117
      · rw [g2 g7]
      · rw [hA _ (show 117 ≤ Yr LT ND i by omega), hA _ (show 117 ≤ LT i by omega)]
    intro i hi
    rcases hi with hi | ⟨hi1, hi2⟩
    · have a1 := rgn_at r1 (by omega) (Or.inl rfl) k1 hi
      have a2 := (r1 i hi).2.2
      rw [Nat.zero_add] at a1 a2
      exact key i (by omega) a1 (by rw [a2]; omega)
    · obtain ⟨j, rfl⟩ : ∃ j, i = 48 + j := ⟨i - 48, by omega⟩
      have a1 := rgn_at r3 (by omega) (Or.inr rfl) k3 (show j < l.1.length by omega)
      have a2 := (r3 j (by omega)).2.2
      exact key (48 + j) (by omega) a1 (by rw [a2]; omega)
  have hdk := ovs_dok hv
  have hnou : ¬ (∃ g, gs (Ar P) g ∧ (T2 (Ar P) u.1 (lowv (Ar P) l p) (48 + p) 0).flatMap g = (T2 (Ar P) u.1 (lowv (Ar P) l p) (48 + p) (48 + p)).flatMap g) → ∀ Rs Vs, cpo (Ar P) Rs Vs u l p = some Vs := by
    intro hn Rs Vs
    rw [T0, Tp] at hn
    exact cpo_none (fun g => hn g.2.2)
  refine ax_icmp_eq at_35_25 ⟨by omega, by omega⟩ ⟨by omega, by omega⟩ (fun z2 => ?_) (fun z2 => ?_)
  · skip
    have hlp : l.1.getD p 0 < 117 := by rw [← hLp, z2, hL0]; exact hc0
    have k47 : ∀ (S1 : ai_S) (PA1 SE1 ST1 : Nat → Int) (dp1 : Int), fr 425 432 S S1 → ovo S1 LT EN ND PA1 SE1 ST1 dp1 e → (∀ n, SE1 n = 0 ∨ SE1 n = 1) → (∀ Rs Vs, cpo (Ar P) Rs Vs u l p = some Vs) → ai_aw L xs (d + 4) ai_m35 (fun (o : ai_O) => ∃ v S', o = (.inl v, S') ∧ frp rgF S S' ∧ (∃ PA' SE' ST' dp', ovo S' LT EN ND PA' SE' ST' dp' e ∧ ∀ n, SE' n = 0 ∨ SE' n = 1) ∧ ∃ z, v = some (ax_i z) ∧ ((z = 0 ∧ (∀ Rs Vs, cpo (Ar P) Rs Vs u l p = some Vs) ∧ pw S' 400 x y) ∨ (z = 1 ∧ p < l.1.length ∧ l.1.getD p 0 < 117 ∧ ∃ f, mgu (Ar P) f u.1 (sb (Ar P) (swp l).1 p) ∧ pw S' 400 ((cpl (Ar P) u (swp l) p).flatMap f) ((swp l).2.flatMap f) ∧ ∀ K : Int → Prop, (∀ c, (c ∈ u.1 ∨ c ∈ u.2 ∨ c ∈ l.1 ∨ c ∈ l.2) → c < 117 → K c) → (∀ c, 117 ≤ c → c < 129 → K c) → al K ((cpl (Ar P) u (swp l) p).flatMap f) ∧ al K ((swp l).2.flatMap f)))) (47, [some (.ref 425), some (ax_i (p : Nat)), some (.ref 400), some (ax_i ((48 + p : Nat) : Int))], [], S1) := by
      intro S1 PA1 SE1 ST1 dp1 f1 h1 g1 g2
      refine aw_pure (st' := ax_i (0) :: _) at_35_47 rfl rfl ?_
      exact ax_retZ at_35_48 rfl (Or.inl rfl) (kno S1 PA1 SE1 ST1 dp1 f1 h1 g1 g2)
    refine aw_loc at_35_30 rfl rfl ?_
    refine aw_pure (st' := ax_i (0) :: _) at_35_31 rfl rfl ?_
    refine aw_loc at_35_32 rfl rfl ?_
    refine aw_cv (a := 425) [ax_i ((0 : Nat) : Int), ax_i ((48 + p : Nat) : Int)] [] at_35_33 mt_3_81 (Or.inl rfl) rfl rfl (Nat.le_of_ble_eq_true rfl) ⟨_, h.1⟩ ((r_merge hA hA2 hs hv htp h ⟨hD0, hDp⟩).mono ?_)
    rintro v S2 ⟨f2, z3, rfl, hz3⟩
    have hz39 : z3 = 0 ∨ z3 = 1 := hz3.imp (fun g => g.1) (fun g => g.1)
    refine ax_if_eq at_35_36 ⟨by omega, by omega⟩ (fun z4 => by rcases hz3 with ⟨-, ⟨PA2, ST2, dp2, h2⟩, g2⟩ | ⟨g1, -⟩; exact k47 S2 PA2 SE ST2 dp2 f2 h2 h01 (hnou g2); omega) (fun z4 => ?_)
    obtain ⟨PA2, ST2, par, h2, hpv, hu⟩ := (hz3.resolve_left (fun g => z4 g.1)).2
    have hen : ((EN (48 + p)).toNat : Nat) = 48 + p + (lowv (Ar P) l p).length := by have := (hvat 0 hvpos).2; rw [Nat.add_zero, List.drop_zero, ts_all hvt] at this; omega
    refine aw_loc at_35_39 rfl rfl ?_
    refine aw_loc at_35_40 rfl rfl ?_
    refine aw_cv (a := 425) [ax_i ((48 + p : Nat) : Int)] [] at_35_41 mt_3_85 (Or.inl rfl) rfl rfl (Nat.le_of_ble_eq_true rfl) ⟨_, h2.1⟩ ((r_fin (p0 := 0) (n1 := u.1.length) hA hA2 (f2.sy hs (by decide)) hv htp hpv hu hD0 hDp (fun i => by show D2 u.1 (lowv (Ar P) l p) (48 + p) i ↔ (i < u.1.length ∨ (48 + p ≤ i ∧ i < (EN (48 + p)).toNat)); rw [hen]; rfl) (by show 48 + p ≤ (EN (48 + p)).toNat ∧ (EN (48 + p)).toNat ≤ 96; omega) (by omega) e0 h2 h01).mono ?_)
    rintro v S3 ⟨f3, SE3, h3, g3, z5, rfl, hz5⟩
    have f23 := f2.tr f3
    have hz59 : z5 = 0 ∨ z5 = 1 := hz5.imp (fun g => g.1) (fun g => g.1)
    refine ax_if_ne at_35_44 ⟨by omega, by omega⟩ (fun z6 => ?_) (fun z6 => k47 S3 PA2 SE3 ST2 0 f23 h3 g3 (hnou (hz5.resolve_right (fun g => by have := g.1; omega)).2))
    show ai_aw L xs (d + 4) ai_m35 _ (49, _, _, _)
    obtain ⟨⟨X, hX⟩, hroot⟩ := (hz5.resolve_left (fun g => z6 g.1)).2
    have hw9 : ∀ i, D2 u.1 (lowv (Ar P) l p) (48 + p) i → Yr LT ND i ∈ T2 (Ar P) u.1 (lowv (Ar P) l p) (48 + p) 0 ∨ Yr LT ND i ∈ T2 (Ar P) u.1 (lowv (Ar P) l p) (48 + p) (48 + p) := by
      intro i hi
      rw [T0, Tp]
      rcases hi with hi | ⟨hi1, hi2⟩
      · left; rw [hY0 i hi, getD_eq hi]; exact List.getElem_mem _
      · right
        obtain ⟨j, rfl⟩ : ∃ j, i = 48 + p + j := ⟨i - (48 + p), by omega⟩
        have hj : j < (lowv (Ar P) l p).length := by omega
        rw [(hvat j hj).1, getD_eq hj]; exact List.getElem_mem _
    have hall : ∀ n, 96 ≤ n → n < 108 → SE3 (rep par n) = 1 := fun n a b => sti_all hA htp hdk hD0 hDp hw9 hu hX hroot a b
    have hmg := sgX_mgu hA htp hdk hD0 hDp hu hX hroot
    rw [T0, Tp] at hmg
    obtain ⟨rk, hrk⟩ := id hu.1
    have hsg : ∀ x : List Int, al (fun c => c < 129) x → x.flatMap (fun c => if 117 ≤ c then X (rep par (c - 21).toNat) else [c]) = x.flatMap (sgX par (fun n => SE3 n = 1) X) := by
      intro x hx
      refine flat_congr x fun c hc => ?_
      have hc2 := hx c hc
      show (if 117 ≤ c then X (rep par (c - 21).toNat) else [c]) = if 117 ≤ c ∧ c < 129 ∧ SE3 (rep par (c - 21).toNat) = 1 then X (rep par (c - 21).toNat) else [c]
      by_cases g : 117 ≤ c
      · rw [if_pos g, if_pos ⟨g, hc2, hall _ (by omega) (by omega)⟩]
      · rw [if_neg g, if_neg (fun g2 => g g2.1)]
    have hx3 := pw_tw (f23.pw hx (by decide))
    have ho := hx3.1
    have hs3 := f23.sy hs (by decide)
    obtain ⟨Tz, ez, twz⟩ := tw_zero hx3.2.1
    obtain ⟨T9, n9, t9, -⟩ := id hx3.2.1
    refine aw_loc at_35_49 rfl rfl ?_
    refine aw_get at_35_50 rfl fl_3_52 ho rfl ?_
    refine aw_pure (st' := ax_i (0) :: _) at_35_53 rfl rfl ?_
    refine aw_put at_35_54 rfl fl_3_65 t9.1 (Nat.le_of_ble_eq_true rfl) rfl (by decide +kernel) ?_
    refine (show ai_aw L xs (d + 4) ai_m35 _ (57, _, _, ai_wr S3 401 (.inr (4, [.ref (401 + 1), ax_i 0]))) from ?_)
    rw [ez]
    have f4 : frp rgF S (tm_put S3 401 Tz 0) := (f23.pp (P := rgF) (fun c a b => Or.inr ⟨a, b⟩)).tr (fr_tm.pp (P := rgF) (fun c a b => by omega))
    have h4 := ovo_tm (T := Tz) (n := 0) h3 (show 401 + 1 < 425 ∨ 431 < 401 by decide)
    have hs4 := f4.sy hs (by omega) (by omega) (by omega)
    have ho : ai_obj (tm_put S3 401 Tz 0) 400 3 = some [.ref 401, .ref 403] := (tm_obj (by decide) (by decide)).trans ho
    have tr4 : tw (tm_put S3 401 Tz 0) 403 y := by obtain ⟨T8, n8, a8, b8⟩ := hx3.2.2; exact ⟨T8, n8, tm_off a8 (by decide) (by decide) (by decide), b8⟩
    generalize tm_put S3 401 Tz 0 = S4 at h4 f4 hs4 ho tr4 twz ⊢
    have hlay : ∀ (b sh : Nat) (w : List Int), rgn (Ar P) LT EN ND b sh w → b + w.length ≤ 96 → (sh = 0 ∨ sh = 6) → al (fun c => 97 ≤ c ∧ c < 123) w → ∀ i, b ≤ i → i < b + w.length → i < 96 ∧ (0 ≤ LT i ∧ LT i < 65536) ∧ (LT i < 117 ↔ Yr LT ND i < 117) ∧ (Yr LT ND i < 117 → LT i = Yr LT ND i) ∧ ND i = (ndo (Yr LT ND) i : Int) ∧ Yr LT ND i < 129 := by
      intro b sh w hr hbl hsh hk i hi1 hi2
      obtain ⟨j, rfl⟩ : ∃ j, i = b + j := ⟨i - b, by omega⟩
      have := rgn_at hr hbl hsh hk (show j < w.length by omega)
      exact ⟨by omega, hLT _, this.1, this.2.1, this.2.2.1, this.2.2.2.2⟩
    have hsl : (swp l).1.length = l.1.length := List.length_map ..
    have hY6 : ∀ i, i < (swp l).1.length → Yr LT ND (48 + i) = (swp l).1.getD i 0 := fun i hi => rgn_Y6 r3 (fun c hc => (k3 c hc).2) (by omega)
    have hY7 : ∀ i, i < (swp l).2.length → Yr LT ND (72 + i) = (swp l).2.getD i 0 := fun i hi => rgn_Y6 r4 (fun c hc => (k4 c hc).2) (by have : (swp l).2.length = l.2.length := List.length_map ..; omega)
    have hY2 : ∀ i, i < u.2.length → Yr LT ND (24 + i) = u.2.getD i 0 := fun i hi => rgn_Y r2 hi
    refine aw_loc at_35_57 rfl rfl ?_
    refine aw_pure (st' := ax_i (48) :: _) at_35_58 rfl rfl ?_
    refine aw_loc at_35_60 rfl rfl ?_
    refine aw_loc at_35_61 rfl rfl ?_
    refine aw_get at_35_62 rfl fl_3_52 ho rfl ?_
    refine aw_cv (a := 425) [ax_i ((48 : Nat) : Int), ax_i ((48 + p : Nat) : Int), .ref 401] [] at_35_65 mt_3_89 (Or.inl rfl) rfl rfl (Nat.le_of_ble_eq_true rfl) ⟨_, h4.1⟩ ((r_puts (f0 := 48) (t0 := 48 + p) hA2 hs4 hv htp hpv hX (by decide) (fun i a b => hlay 48 6 l.1 r3 (by omega) (Or.inr rfl) k3 i a (by omega)) hall (by omega) (by omega) h4 twz).mono ?_)
    rintro v S5 ⟨rfl, f5, ⟨ST5, dp5, h5⟩, tw5⟩
    rw [show 48 + p - 48 = p by omega, show sl (Yr LT ND) 48 p = (swp l).1.take p by have := sl_reg (A := Ar P) (j := 0) (n := p) hY6 (by omega); rw [Nat.add_zero, List.drop_zero] at this; exact this] at tw5
    have F5 : frp rgF S S5 := f4.tr (f5.mn (fun c g => by rcases g with g | g | g <;> omega))
    have hs5 := F5.sy hs (by omega) (by omega) (by omega)
    have ho := (f5.obj (c := 3) (show ¬ rgO 401 400 by omega)).trans ho
    have tr5 := f5.tw tr4 (by omega) (by omega)
    refine aw_loc at_35_68 rfl rfl ?_
    refine aw_pure (st' := ax_i (24) :: _) at_35_69 rfl rfl ?_
    refine aw_loc at_35_71 rfl rfl ?_
    refine aw_get at_35_72 rfl fl_3_39 h5.1 rfl ?_
    refine aw_loc at_35_75 rfl rfl ?_
    refine aw_get at_35_76 rfl fl_3_52 ho rfl ?_
    rw [show ax_i (e 1) = ax_i ((24 + u.2.length : Nat) : Int) by rw [e1]; rfl]
    refine aw_cv (a := 425) [ax_i ((24 : Nat) : Int), ax_i ((24 + u.2.length : Nat) : Int), .ref 401] [] at_35_79 mt_3_89 (Or.inl rfl) rfl rfl (Nat.le_of_ble_eq_true rfl) ⟨_, h5.1⟩ ((r_puts (f0 := 24) (t0 := 24 + u.2.length) hA2 hs5 hv htp hpv hX (by decide) (fun i a b => hlay 24 0 u.2 r2 (by omega) (Or.inl rfl) k2 i a b) hall (by omega) (by omega) h5 tw5).mono ?_)
    rintro v S6 ⟨rfl, f6, ⟨ST6, dp6, h6⟩, tw6⟩
    rw [show 24 + u.2.length - 24 = u.2.length by omega, show sl (Yr LT ND) 24 u.2.length = u.2 from sl_word _ _ _ hY2] at tw6
    have F6 : frp rgF S S6 := F5.tr (f6.mn (fun c g => by rcases g with g | g | g <;> omega))
    have hs6 := F6.sy hs (by omega) (by omega) (by omega)
    have ho := (f6.obj (c := 3) (show ¬ rgO 401 400 by omega)).trans ho
    have tr6 := f6.tw tr5 (by omega) (by omega)
    have hEp : EN (48 + p) = ((48 + (p + tl (Ar P) 1 (l.1.drop p)) : Nat) : Int) := by rw [(r3 p hpl).2.2]; omega
    refine aw_loc at_35_82 rfl rfl ?_
    refine aw_loc at_35_83 rfl rfl ?_
    refine aw_get at_35_84 rfl fl_3_15 h6.1 rfl ?_
    refine aw_loc at_35_87 rfl rfl ?_
    refine ax_ild at_35_88 rfl h6.2.2.1 (k := 48 + p) rfl (by omega) (by decide) ?_
    rw [hEp]
    refine aw_loc at_35_89 rfl rfl ?_
    refine aw_get at_35_90 rfl fl_3_42 h6.1 rfl ?_
    refine aw_loc at_35_93 rfl rfl ?_
    refine aw_get at_35_94 rfl fl_3_52 ho rfl ?_
    rw [show ax_i (e 2) = ax_i ((48 + l.1.length : Nat) : Int) by rw [e2]; rfl]
    refine aw_cv (a := 425) [ax_i ((48 + (p + tl (Ar P) 1 (l.1.drop p)) : Nat) : Int), ax_i ((48 + l.1.length : Nat) : Int), .ref 401] [] at_35_97 mt_3_89 (Or.inl rfl) rfl rfl (Nat.le_of_ble_eq_true rfl) ⟨_, h6.1⟩ ((r_puts (f0 := 48 + (p + tl (Ar P) 1 (l.1.drop p))) (t0 := 48 + l.1.length) hA2 hs6 hv htp hpv hX (by decide) (fun i a b => hlay 48 6 l.1 r3 (by omega) (Or.inr rfl) k3 i (by omega) b) hall (by omega) (by omega) h6 tw6).mono ?_)
    rintro v S7 ⟨rfl, f7, ⟨ST7, dp7, h7⟩, tw7⟩
    have etl : tl (Ar P) 1 ((swp l).1.drop p) = tl (Ar P) 1 (l.1.drop p) := by show tl (Ar P) 1 ((l.1.map sw).drop p) = _; rw [← List.map_drop, tl_map hA sw_inv.1]
    rw [show 48 + l.1.length - (48 + (p + tl (Ar P) 1 (l.1.drop p))) = (swp l).1.length - (p + tl (Ar P) 1 (l.1.drop p)) by omega, sl_reg (A := Ar P) (j := p + tl (Ar P) 1 (l.1.drop p)) (n := (swp l).1.length - (p + tl (Ar P) 1 (l.1.drop p))) hY6 (by omega), show ((swp l).1.drop (p + tl (Ar P) 1 (l.1.drop p))).take ((swp l).1.length - (p + tl (Ar P) 1 (l.1.drop p))) = (swp l).1.drop (p + tl (Ar P) 1 (l.1.drop p)) from List.take_of_length_le (by rw [List.length_drop]; exact Nat.le_refl _)] at tw7
    have F7 : frp rgF S S7 := F6.tr (f7.mn (fun c g => by rcases g with g | g | g <;> omega))
    have hs7 := F7.sy hs (by omega) (by omega) (by omega)
    have ho := (f7.obj (c := 3) (show ¬ rgO 401 400 by omega)).trans ho
    have tr7 := f7.tw tr6 (by omega) (by omega)
    have hcpl : (cpl (Ar P) u (swp l) p).flatMap (sgX par (fun n => SE3 n = 1) X) = [] ++ ((swp l).1.take p).flatMap (fun c => if 117 ≤ c then X (rep par (c - 21).toNat) else [c]) ++ u.2.flatMap (fun c => if 117 ≤ c then X (rep par (c - 21).toNat) else [c]) ++ ((swp l).1.drop (p + tl (Ar P) 1 (l.1.drop p))).flatMap (fun c => if 117 ≤ c then X (rep par (c - 21).toNat) else [c]) := by
      unfold cpl
      rw [List.flatMap_append, List.flatMap_append, List.nil_append, List.append_assoc, etl]
      have hsw : al (fun c => c < 129) (swp l).1 := by
        intro c hc
        obtain ⟨x, hx, rfl⟩ := List.mem_map.1 hc
        have := k3 x hx
        show sw x < 129
        unfold sw
        repeat' split
        all_goals omega
      rw [hsg _ (al_take hsw p), hsg _ (al_drop hsw _), hsg u.2 (fun c hc => by have := k2 c hc; show c < 129; omega)]
    rw [← hcpl] at tw7
    obtain ⟨Ty, ey, twy⟩ := tw_zero tr7
    obtain ⟨T8, n8, t8, -⟩ := id tr7
    refine aw_loc at_35_100 rfl rfl ?_
    refine aw_get at_35_101 rfl fl_3_62 ho rfl ?_
    refine aw_pure (st' := ax_i (0) :: _) at_35_104 rfl rfl ?_
    refine aw_put at_35_105 rfl fl_3_65 t8.1 (Nat.le_of_ble_eq_true rfl) rfl (by decide +kernel) ?_
    refine (show ai_aw L xs (d + 4) ai_m35 _ (108, _, _, ai_wr S7 403 (.inr (4, [.ref (403 + 1), ax_i 0]))) from ?_)
    rw [ey]
    have F8 : frp rgF S (tm_put S7 403 Ty 0) := F7.tr (fr_tm.pp (P := rgF) (fun c a b => by omega))
    have h8 := ovo_tm (T := Ty) (n := 0) h7 (show 403 + 1 < 425 ∨ 431 < 403 by decide)
    have hs8 := F8.sy hs (by omega) (by omega) (by omega)
    have ho : ai_obj (tm_put S7 403 Ty 0) 400 3 = some [.ref 401, .ref 403] := (tm_obj (by decide) (by decide)).trans ho
    have tl8 := (fr_tm (S := S7) (a := 403) (n := 0) (T := Ty)).tw tw7 (by decide)
    generalize tm_put S7 403 Ty 0 = S8 at h8 F8 hs8 ho tl8 twy ⊢
    refine aw_loc at_35_108 rfl rfl ?_
    refine aw_pure (st' := ax_i (72) :: _) at_35_109 rfl rfl ?_
    refine aw_loc at_35_111 rfl rfl ?_
    refine aw_get at_35_112 rfl fl_3_45 h8.1 rfl ?_
    refine aw_loc at_35_115 rfl rfl ?_
    refine aw_get at_35_116 rfl fl_3_62 ho rfl ?_
    rw [show ax_i (e 3) = ax_i ((72 + l.2.length : Nat) : Int) by rw [e3]; rfl]
    refine aw_cv (a := 425) [ax_i ((72 : Nat) : Int), ax_i ((72 + l.2.length : Nat) : Int), .ref 403] [] at_35_119 mt_3_89 (Or.inl rfl) rfl rfl (Nat.le_of_ble_eq_true rfl) ⟨_, h8.1⟩ ((r_puts (f0 := 72) (t0 := 72 + l.2.length) hA2 hs8 hv htp hpv hX (by decide) (fun i a b => hlay 72 6 l.2 r4 (by omega) (Or.inr rfl) k4 i a b) hall (by omega) (by omega) h8 twy).mono ?_)
    rintro v S9 ⟨rfl, f9, ⟨ST9, dp9, h9⟩, tw9⟩
    rw [show 72 + l.2.length - 72 = (swp l).2.length by have : (swp l).2.length = l.2.length := List.length_map ..; omega, show sl (Yr LT ND) 72 (swp l).2.length = (swp l).2 from sl_word _ _ _ hY7, List.nil_append] at tw9
    rw [hsg (swp l).2 (by intro c hc; obtain ⟨x, hx, rfl⟩ := List.mem_map.1 hc; have := k4 x hx; show sw x < 129; unfold sw; repeat' split; all_goals omega)] at tw9
    have F9 : frp rgF S S9 := F8.tr (f9.mn (fun c g => by rcases g with g | g | g <;> omega))
    have ho := (f9.obj (c := 3) (show ¬ rgO 403 400 by omega)).trans ho
    have tl9 := f9.tw tl8 (by omega) (by omega)
    refine aw_pure (st' := ax_i (1) :: _) at_35_122 rfl rfl ?_
    refine ax_retZ at_35_123 rfl (Or.inr rfl) ⟨_, _, rfl, F9, ⟨PA2, SE3, ST9, dp9, h9, g3⟩, 1, rfl, Or.inr ⟨rfl, hpl, hlp, _, hmg, tw_pw ho tl9 tw9, fun K hK1 hK2 => ?_⟩⟩
    have hKX : ∀ n, n < 108 → SE3 n = 1 → al K (X n) := by
      intro n hn hs9
      refine sti_al htp hdk (fun n hn => rep_lt hrk hn) hX (fun i hi => ?_) (fun n a b => hK2 _ (by omega) (by omega)) _ n (Nat.le_refl _) hn hs9
      by_cases g : Yr LT ND i < 117
      · rcases hi with hi | ⟨hi1, hi2⟩
        · exact hK1 _ (Or.inl (by rw [hY0 i hi, getD_eq hi]; exact List.getElem_mem _)) g
        · obtain ⟨j, rfl⟩ : ∃ j, i = 48 + j := ⟨i - 48, by omega⟩
          have hj : j < l.1.length := by omega
          have e9 : Yr LT ND (48 + j) = LT (48 + j) := ((hv _ (Or.inr ⟨hi1, hi2⟩)).2.2.2.2.1 g).symm
          rw [e9, (r3 j hj).1] at g ⊢
          exact hK1 _ (Or.inr (Or.inr (Or.inl (by rw [getD_eq hj]; exact List.getElem_mem _)))) g
      · exact hK2 _ (by omega) (hv i hi).2.2.1.2
    have hKf : ∀ c, (c < 117 → K c) → c < 129 → al K (sgX par (fun n => SE3 n = 1) X c) := by
      intro c hc hc2
      unfold sgX
      split
      · rename_i g; exact hKX _ (rep_lt hrk (by omega)) g.2.2
      · rename_i g; intro x hx; rw [List.mem_singleton.1 hx]
        by_cases g2 : c < 117
        · exact hc g2
        · exact hK2 c (by omega) hc2
    have hKw : ∀ x : List Int, (∀ c, c ∈ x → (c < 117 → K c) ∧ c < 129) → al K (x.flatMap (sgX par (fun n => SE3 n = 1) X)) := by
      intro x hx c hc
      obtain ⟨y, hy, hcy⟩ := List.mem_flatMap.1 hc
      exact hKf y (hx y hy).1 (hx y hy).2 c hcy
    have hswK : ∀ x : List Int, (∀ c, c ∈ x → c < 117 → K c) → al (fun c => 97 ≤ c ∧ c < 123) x → ∀ c, c ∈ x.map sw → (c < 117 → K c) ∧ c < 129 := by
      intro x h1 h2 c hc
      obtain ⟨y, hy, rfl⟩ := List.mem_map.1 hc
      have h3 := h2 y hy
      have h4 := h1 y hy
      by_cases g : y < 117
      · rw [show sw y = y from if_pos g]; exact ⟨h4, by omega⟩
      · have := sw_inv.1.2 y (by omega)
        refine ⟨fun g2 => by omega, ?_⟩
        unfold sw
        repeat' split
        all_goals omega
    refine ⟨hKw _ (fun c hc => ?_), hKw _ (hswK l.2 (fun c hc g => hK1 c (Or.inr (Or.inr (Or.inr hc))) g) k4)⟩
    unfold cpl at hc
    rcases List.mem_append.1 hc with hc | hc
    · exact hswK l.1 (fun c hc g => hK1 c (Or.inr (Or.inr (Or.inl hc))) g) k3 c (List.mem_of_mem_take hc)
    · rcases List.mem_append.1 hc with hc | hc
      · have := k2 c hc; exact ⟨fun g => hK1 c (Or.inr (Or.inl hc)) g, by omega⟩
      · exact hswK l.1 (fun c hc g => hK1 c (Or.inr (Or.inr (Or.inl hc))) g) k3 c (List.mem_of_mem_drop hc)
  · skip
    refine k28 (fun Rs Vs => cpo_none (fun g => ?_))
    obtain ⟨-, g2, f, g3, g4⟩ := g
    have e9 : (swp l).1.getD p 0 = l.1.getD p 0 := by show (l.1.map sw).getD p 0 = _; rw [sw_get hpl]; exact sw_inv.1.1 _ g2
    obtain ⟨t, e8⟩ : ∃ t, sb (Ar P) (swp l).1 p = l.1.getD p 0 :: t := by rw [sb_cons hmp, ← getD_eq hmp, e9]; exact ⟨_, rfl⟩
    rw [hu0, e8, List.flatMap_cons, List.flatMap_cons, g3.1 c0 hc0, g3.1 _ g2] at g4
    injection g4 with g5 _
    exact z2 (by rw [hLp, hL0, g5])
end FQ

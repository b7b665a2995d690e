/-! The reference: a rewriting, a normal form. -/
section MQ
variable {L : Nat} {xs : Nat → Int32} {d : Nat} {S S' : ai_S} {T D n rc wt kp sx sc : Int} {F : Nat → Nat → Int} {B : Nat → Int} {P : Nat → Int} {A : Int → Nat} {Rs : rls}
theorem nf_long {f : Nat} {w : List Int} (h : 24 < w.length) : nf A Rs f w = none := by
  cases f <;> (unfold nf; rw [if_pos h])
/-- the rules in the reference's rows -/
def mrl (F : Nat → Nat → Int) (Rs : rls) : Prop := ∀ k, k < Rs.length → qsl (F 3) (F 4) (F 5) k (Rs.getD k q_no)
def eqx (F F' : Nat → Nat → Int) : Prop := ∀ i, i ≠ 9 → i ≠ 10 → i ≠ 11 → i ≠ 12 → F' i = F i
theorem eqx.tr {F F' F'' : Nat → Nat → Int} (h1 : eqx F F') (h2 : eqx F' F'') : eqx F F'' := fun i a b c e => (h2 i a b c e).trans (h1 i a b c e)
/-- what is known of the reference's symbols -/
def mpk (A : Int → Nat) (F : Nat → Nat → Int) : Prop := (∀ i, -1 ≤ F 0 i ∧ F 0 i ≤ 2) ∧ sam A (F 0)
/-- a slot whose word may be too long -/
def mwl (X Z : Nat → Int) (t : Nat) (w : List Int) : Prop := (w.length ≤ 24 ∧ mwd X Z t w) ∨ (24 < w.length ∧ 24 < Z t ∧ Z t ≤ 64)
theorem mwd_mwl {X Z : Nat → Int} {t : Nat} {w : List Int} (h : mwd X Z t w) : mwl X Z t w := by
  by_cases hl : w.length ≤ 24
  · exact .inl ⟨hl, h⟩
  · refine .inr ⟨by omega, ?_, ?_⟩ <;> rw [h.1] <;> omega
/-- the other slot stays -/
def oth (F F' : Nat → Nat → Int) (t : Nat) : Prop := ∀ s, s < 2 → s ≠ t → F' 10 s = F 10 s ∧ ∀ w', mwd (F 9) (F 10) s w' → mwd (F' 9) (F' 10) s w'
theorem oth.rf (F : Nat → Nat → Int) (t : Nat) : oth F F t := fun _ _ _ => ⟨rfl, fun _ h => h⟩
theorem oth.tr {F F' F'' : Nat → Nat → Int} {t : Nat} (h1 : oth F F' t) (h2 : oth F' F'' t) : oth F F'' t := fun s a b => ⟨(h2 s a b).1.trans (h1 s a b).1, fun w h => (h2 s a b).2 w ((h1 s a b).2 w h)⟩
theorem oth.eq {F F' : Nat → Nat → Int} {t : Nat} (h9 : F' 9 = F 9) (h10 : F' 10 = F 10) : oth F F' t := fun s _ _ => ⟨by rw [h10], fun w h => by rw [h9, h10]; exact h⟩
theorem oth.mwl {F F' : Nat → Nat → Int} {t s : Nat} {w : List Int} (h : oth F F' t) (hs : s < 2) (hn : s ≠ t) (hm : mwl (F 9) (F 10) s w) : mwl (F' 9) (F' 10) s w := by
  rcases hm with ⟨a, b⟩ | ⟨a, b⟩
  · exact .inl ⟨a, (h s hs hn).2 w b⟩
  · exact .inr ⟨a, by rw [(h s hs hn).1]; exact b⟩
theorem at_117_0 : ai_at ai_m117 0 = some (.iconst 0, 1) := rfl
theorem at_117_1 : ai_at ai_m117 1 = some (.istore_n 2, 1) := rfl
theorem at_117_2 : ai_at ai_m117 2 = some (.aload_n 0, 1) := rfl
theorem at_117_3 : ai_at ai_m117 3 = some (.getfield 40, 3) := rfl
theorem at_117_6 : ai_at ai_m117 6 = some (.iload_n 1, 1) := rfl
theorem at_117_7 : ai_at ai_m117 7 = some (.iaload, 1) := rfl
theorem at_117_8 : ai_at ai_m117 8 = some (.bipush 24, 2) := rfl
theorem at_117_10 : ai_at ai_m117 10 = some (.if_icmp .gt 7, 3) := rfl
theorem at_117_13 : ai_at ai_m117 13 = some (.iconst 1, 1) := rfl
theorem at_117_14 : ai_at ai_m117 14 = some (.goto 4, 3) := rfl
theorem at_117_17 : ai_at ai_m117 17 = some (.iconst 0, 1) := rfl
theorem at_117_18 : ai_at ai_m117 18 = some (.istore_n 3, 1) := rfl
theorem at_117_19 : ai_at ai_m117 19 = some (.iload_n 3, 1) := rfl
theorem at_117_20 : ai_at ai_m117 20 = some (.ifCond .eq 40, 3) := rfl
theorem at_117_23 : ai_at ai_m117 23 = some (.aload_n 0, 1) := rfl
theorem at_117_24 : ai_at ai_m117 24 = some (.iload_n 1, 1) := rfl
theorem at_117_25 : ai_at ai_m117 25 = some (.invokevirtual 131, 3) := rfl
theorem at_117_28 : ai_at ai_m117 28 = some (.istore_n 3, 1) := rfl
theorem at_117_29 : ai_at ai_m117 29 = some (.iload_n 2, 1) := rfl
theorem at_117_30 : ai_at ai_m117 30 = some (.iload_n 3, 1) := rfl
theorem at_117_31 : ai_at ai_m117 31 = some (.ifCond .eq 7, 3) := rfl
theorem at_117_34 : ai_at ai_m117 34 = some (.iconst 1, 1) := rfl
theorem at_117_35 : ai_at ai_m117 35 = some (.goto 4, 3) := rfl
theorem at_117_38 : ai_at ai_m117 38 = some (.iconst 0, 1) := rfl
theorem at_117_39 : ai_at ai_m117 39 = some (.iadd, 1) := rfl
theorem at_117_40 : ai_at ai_m117 40 = some (.istore_n 2, 1) := rfl
theorem at_117_41 : ai_at ai_m117 41 = some (.iload_n 2, 1) := rfl
theorem at_117_42 : ai_at ai_m117 42 = some (.bipush 40, 2) := rfl
theorem at_117_44 : ai_at ai_m117 44 = some (.if_icmp .gt 14, 3) := rfl
theorem at_117_47 : ai_at ai_m117 47 = some (.aload_n 0, 1) := rfl
theorem at_117_48 : ai_at ai_m117 48 = some (.getfield 40, 3) := rfl
theorem at_117_51 : ai_at ai_m117 51 = some (.iload_n 1, 1) := rfl
theorem at_117_52 : ai_at ai_m117 52 = some (.iaload, 1) := rfl
theorem at_117_53 : ai_at ai_m117 53 = some (.bipush 24, 2) := rfl
theorem at_117_55 : ai_at ai_m117 55 = some (.if_icmp .le (-36), 3) := rfl
theorem at_117_58 : ai_at ai_m117 58 = some (.iconst (-1), 1) := rfl
theorem at_117_59 : ai_at ai_m117 59 = some (.ireturn, 1) := rfl
theorem at_117_60 : ai_at ai_m117 60 = some (.aload_n 0, 1) := rfl
theorem at_117_61 : ai_at ai_m117 61 = some (.getfield 40, 3) := rfl
theorem at_117_64 : ai_at ai_m117 64 = some (.iload_n 1, 1) := rfl
theorem at_117_65 : ai_at ai_m117 65 = some (.iaload, 1) := rfl
theorem at_117_66 : ai_at ai_m117 66 = some (.bipush 24, 2) := rfl
theorem at_117_68 : ai_at ai_m117 68 = some (.if_icmp .le 7, 3) := rfl
theorem at_117_71 : ai_at ai_m117 71 = some (.iconst (-1), 1) := rfl
theorem at_117_72 : ai_at ai_m117 72 = some (.goto 4, 3) := rfl
theorem at_117_75 : ai_at ai_m117 75 = some (.iload_n 2, 1) := rfl
theorem at_117_76 : ai_at ai_m117 76 = some (.ireturn, 1) := rfl
theorem at_118_0 : ai_at ai_m118 0 = some (.iconst 0, 1) := rfl
theorem at_118_1 : ai_at ai_m118 1 = some (.istore_n 2, 1) := rfl
theorem at_118_2 : ai_at ai_m118 2 = some (.iload_n 2, 1) := rfl
theorem at_118_3 : ai_at ai_m118 3 = some (.aload_n 0, 1) := rfl
theorem at_118_4 : ai_at ai_m118 4 = some (.getfield 40, 3) := rfl
theorem at_118_7 : ai_at ai_m118 7 = some (.iload_n 1, 1) := rfl
theorem at_118_8 : ai_at ai_m118 8 = some (.iaload, 1) := rfl
theorem at_118_9 : ai_at ai_m118 9 = some (.if_icmp .ge 44, 3) := rfl
theorem at_118_12 : ai_at ai_m118 12 = some (.iconst 0, 1) := rfl
theorem at_118_13 : ai_at ai_m118 13 = some (.istore_n 3, 1) := rfl
theorem at_118_14 : ai_at ai_m118 14 = some (.iload_n 3, 1) := rfl
theorem at_118_15 : ai_at ai_m118 15 = some (.aload_n 0, 1) := rfl
theorem at_118_16 : ai_at ai_m118 16 = some (.getfield 113, 3) := rfl
theorem at_118_19 : ai_at ai_m118 19 = some (.if_icmp .ge 28, 3) := rfl
theorem at_118_22 : ai_at ai_m118 22 = some (.aload_n 0, 1) := rfl
theorem at_118_23 : ai_at ai_m118 23 = some (.iload_n 1, 1) := rfl
theorem at_118_24 : ai_at ai_m118 24 = some (.iload_n 2, 1) := rfl
theorem at_118_25 : ai_at ai_m118 25 = some (.iload_n 3, 1) := rfl
theorem at_118_26 : ai_at ai_m118 26 = some (.invokevirtual 124, 3) := rfl
theorem at_118_29 : ai_at ai_m118 29 = some (.ifCond .eq 12, 3) := rfl
theorem at_118_32 : ai_at ai_m118 32 = some (.aload_n 0, 1) := rfl
theorem at_118_33 : ai_at ai_m118 33 = some (.iload_n 1, 1) := rfl
theorem at_118_34 : ai_at ai_m118 34 = some (.iload_n 2, 1) := rfl
theorem at_118_35 : ai_at ai_m118 35 = some (.iload_n 3, 1) := rfl
theorem at_118_36 : ai_at ai_m118 36 = some (.invokevirtual 127, 3) := rfl
theorem at_118_39 : ai_at ai_m118 39 = some (.iconst 1, 1) := rfl
theorem at_118_40 : ai_at ai_m118 40 = some (.ireturn, 1) := rfl
theorem at_118_41 : ai_at ai_m118 41 = some (.iinc 3 1, 3) := rfl
theorem at_118_44 : ai_at ai_m118 44 = some (.goto (-30), 3) := rfl
theorem at_118_47 : ai_at ai_m118 47 = some (.iinc 2 1, 3) := rfl
theorem at_118_50 : ai_at ai_m118 50 = some (.goto (-48), 3) := rfl
theorem at_118_53 : ai_at ai_m118 53 = some (.iconst 0, 1) := rfl
theorem at_118_54 : ai_at ai_m118 54 = some (.ireturn, 1) := rfl
theorem mt_12_124 : ai_mth 12 124 = some (0, 119, 3, 11) := by decide +kernel
theorem mt_12_127 : ai_mth 12 127 = some (0, 122, 3, 11) := by decide +kernel
theorem mt_12_131 : ai_mth 12 131 = some (0, 118, 1, 11) := by decide +kernel
set_option maxHeartbeats 16000000 in
theorem r_m_rew1 {t p N : Nat} {w : List Int} (hpk : mpk A F) (hx : xr (F 9)) (hw : mwd (F 9) (F 10) t w) (hkw : al (kn (F 0) 129) w) (hwl : w.length ≤ 24) (ht : t < 2) (hN : ts A N w) (hrc : rc = (Rs.length : Int)) (hRl : Rs.length ≤ 14) (hrl : mrl F Rs) (hR : ∀ q, q ∈ Rs → okr A (F 0) q) (hp : p < w.length) (hJ : stp A Rs w = (stp A Rs (w.drop p)).map (w.take p ++ ·)) : ∀ (m k : Nat) (S1 : ai_S) (F1 : Nat → Nat → Int), k + m = Rs.length → fr 432 452 S S1 → mst S1 T D n rc wt kp sx sc F1 B → (∀ i, i ≠ 11 → i ≠ 12 → F1 i = F i) → fk A (Rs.drop k) (w.drop p) = fk A Rs (w.drop p) → (fk A Rs (w.drop p) = none → ∀ (S2 : ai_S) (F2 : Nat → Nat → Int) (x3 : Option Value), fr 432 452 S S2 → mst S2 T D n rc wt kp sx sc F2 B → (∀ i, i ≠ 11 → i ≠ 12 → F2 i = F i) → ai_aw L xs (d + 3) ai_m118 (fun (o : ai_O) => ∃ v S', o = (.inl v, S') ∧ fr 432 452 S S' ∧ ∃ F', mst S' T D n rc wt kp sx sc F' B ∧ eqx F F' ∧ xr (F' 9) ∧ oth F F' t ∧ ∃ z, v = some (ax_i z) ∧ ((z = 0 ∧ stp A Rs w = none ∧ mwd (F' 9) (F' 10) t w) ∨ (z = 1 ∧ ∃ w', stp A Rs w = some w' ∧ mwd (F' 9) (F' 10) t w'))) (47, [some (.ref 432), some (ax_i (t : Nat)), some (ax_i (p : Nat)), x3], [], S2)) → ai_aw L xs (d + 3) ai_m118 (fun (o : ai_O) => ∃ v S', o = (.inl v, S') ∧ fr 432 452 S S' ∧ ∃ F', mst S' T D n rc wt kp sx sc F' B ∧ eqx F F' ∧ xr (F' 9) ∧ oth F F' t ∧ ∃ z, v = some (ax_i z) ∧ ((z = 0 ∧ stp A Rs w = none ∧ mwd (F' 9) (F' 10) t w) ∨ (z = 1 ∧ ∃ w', stp A Rs w = some w' ∧ mwd (F' 9) (F' 10) t w'))) (14, [some (.ref 432), some (ax_i (t : Nat)), some (ax_i (p : Nat)), some (ax_i (k : Nat))], [], S1) := by
  have hA := hpk.2.2
  intro m
  induction m with
  | zero =>
    intro k S1 F1 hk f1 h1 hF hh hc
    have ho := h1.1
    rw [show Rs.drop k = [] from List.drop_eq_nil_iff.2 (by omega)] at hh
    refine aw_loc at_118_14 rfl rfl ?_
    refine aw_loc at_118_15 rfl rfl ?_
    refine aw_get at_118_16 rfl fl_12_113 ho rfl ?_
    refine ax_icmp_ge at_118_19 ⟨by omega, by omega⟩ ⟨by omega, by omega⟩ (fun _ => hc hh.symm S1 F1 _ f1 h1 hF) (fun z => absurd z (by omega))
  | succ m ih =>
    intro k S1 F1 hk f1 h1 hF hh hc
    have ho := h1.1
    have hkR : k < Rs.length := by omega
    have hq : okr A (F 0) (Rs.getD k q_no) := hR _ (mem_getD.2 ⟨k, hkR, rfl⟩)
    have hql := hrl k hkR
    have e0 : F1 0 = F 0 := hF 0 (by decide) (by decide)
    have e3 : F1 3 = F 3 := hF 3 (by decide) (by decide)
    have e4 : F1 4 = F 4 := hF 4 (by decide) (by decide)
    have e5 : F1 5 = F 5 := hF 5 (by decide) (by decide)
    have e9 : F1 9 = F 9 := hF 9 (by decide) (by decide)
    have e10 : F1 10 = F 10 := hF 10 (by decide) (by decide)
    refine aw_loc at_118_14 rfl rfl ?_
    refine aw_loc at_118_15 rfl rfl ?_
    refine aw_get at_118_16 rfl fl_12_113 ho rfl ?_
    refine ax_icmp_ge at_118_19 ⟨by omega, by omega⟩ ⟨by omega, by omega⟩ (fun z => absurd z (by omega)) (fun _ => ?_)
    refine aw_loc at_118_22 rfl rfl ?_
    refine aw_loc at_118_23 rfl rfl ?_
    refine aw_loc at_118_24 rfl rfl ?_
    refine aw_loc at_118_25 rfl rfl ?_
    refine aw_cv (a := 432) [ax_i (t : Nat), ax_i (p : Nat), ax_i (k : Nat)] [] at_118_26 mt_12_124 (Or.inl rfl) rfl rfl (Nat.le_of_ble_eq_true rfl) ⟨_, ho⟩ ((r_m_fits (A := A) (q := Rs.getD k q_no) (w := w) (N := N) h1 (by rw [e0]; exact hpk.1) (by rw [e0]; exact hpk.2) (by rw [e9]; exact hx) (by rw [e9]; exact mwd_cw hw (by omega)) (by rw [e0]; exact hkw) hN (by omega) hwl (by rw [e3, e4, e5]; exact hql) (by rw [e0]; exact hq.1.2.2.1.1) (by omega) hq.1.1.1 hp).mono ?_)
    rintro v S2 ⟨f2, FR, TO, h2, z2, rfl, hz2, hB2⟩
    have hz29 := hz2.le
    have f12 := f1.tr f2
    have hF2 : ∀ i, i ≠ 11 → i ≠ 12 → fup (fup F1 11 FR) 12 TO i = F i := fun i a b => (fup_ne b).trans ((fup_ne a).trans (hF i a b))
    refine ax_if_eq at_118_29 ⟨by omega, by omega⟩ (fun z => ?_) (fun z => ?_)
    · skip
      have hm : mtf A (Rs.getD k q_no).1 (w.drop p) s_no = none := Option.not_isSome_iff_eq_none.1 (hz2.resolve_right (fun g => by have := g.1; omega)).2
      refine ax_inc at_118_41 rfl rfl rfl ?_
      refine aw_goto at_118_44 ?_
      have := ih (k + 1) S2 _ (by omega) f12 h2 hF2 (by rw [← hh, fk_miss hkR hm]) hc
      rw [Int.natCast_add] at this
      exact this
    · skip
      obtain ⟨s, hm⟩ := Option.isSome_iff_exists.1 (hz2.resolve_left (fun g => z g.1)).2
      rw [fk_hit hkR hm, List.drop_drop] at hh
      have hbd := mtf_ok (K := fun _ => True) hA _ _ s_no s 1 _ hq.1.1.1 (ts_drop w N hN p hp).choose_spec (fun _ _ => True.intro) (fun c t h => by cases h) hm
      generalize hFd : fup (fup F1 11 FR) 12 TO = F2 at *
      have g0 : F2 0 = F 0 := hF2 0 (by decide) (by decide)
      have g3 : F2 3 = F 3 := hF2 3 (by decide) (by decide)
      have g4 : F2 4 = F 4 := hF2 4 (by decide) (by decide)
      have g5 : F2 5 = F 5 := hF2 5 (by decide) (by decide)
      have g9 : F2 9 = F 9 := hF2 9 (by decide) (by decide)
      have g10 : F2 10 = F 10 := hF2 10 (by decide) (by decide)
      have g11 : F2 11 = FR := by rw [← hFd]; exact (fup_ne (by decide)).trans (fup_get _ _ _)
      have g12 : F2 12 = TO := by rw [← hFd]; exact fup_get _ _ _
      have ho := h2.1
      refine aw_loc at_118_32 rfl rfl ?_
      refine aw_loc at_118_33 rfl rfl ?_
      refine aw_loc at_118_34 rfl rfl ?_
      refine aw_loc at_118_35 rfl rfl ?_
      refine aw_cv (a := 432) [ax_i (t : Nat), ax_i (p : Nat), ax_i (k : Nat)] [] at_118_36 mt_12_127 (Or.inl rfl) rfl rfl (Nat.le_of_ble_eq_true rfl) ⟨_, ho⟩ ((r_m_repl (A := A) (q := Rs.getD k q_no) (w := w) (N := N) (s := s) h2 (by rw [g0]; exact hpk.1) (by rw [g0]; exact hpk.2) (by rw [g9]; exact hx) (by rw [g9, g10]; exact hw) (by rw [g0]; exact hkw) hwl ht hN hp (by rw [g3, g4, g5]; exact hql) (by omega) (by rw [g0]; exact hq.1.2.2.1.2) (by rw [g11, g12]; exact hB2 s hm) (fun c hc h117 => hbd.2.2 c (hq.2.2.2.2 c hc h117) h117)).mono ?_)
      rintro v S3 ⟨rfl, f3, X, Z, h3, a1, a2, a3⟩
      rw [g9, g10] at a3
      have k9 : fup (fup F2 9 X) 10 Z 9 = X := (fup_ne (by decide)).trans (fup_get _ _ _)
      have k10 : fup (fup F2 9 X) 10 Z 10 = Z := fup_get _ _ _
      refine aw_pure (st' := ax_i (1) :: _) at_118_39 rfl rfl ?_
      exact ax_retZ at_118_40 rfl (Or.inr rfl) ⟨_, _, rfl, f12.tr f3, _, h3, fun i b1 b2 b3 b4 => (fup_ne b2).trans ((fup_ne b1).trans (hF2 i b3 b4)), by rw [k9]; exact a2, fun s2 b1 b2 => by rw [k9, k10]; exact a3 s2 b1 b2, 1, rfl, Or.inr ⟨rfl, _, stp_hit hp hJ hh.symm, by rw [k9, k10]; exact a1⟩⟩
set_option maxHeartbeats 8000000 in
theorem r_m_rew2 {t N : Nat} {w : List Int} (hpk : mpk A F) (hx : xr (F 9)) (hw : mwd (F 9) (F 10) t w) (hkw : al (kn (F 0) 129) w) (hwl : w.length ≤ 24) (ht : t < 2) (hN : ts A N w) (hrc : rc = (Rs.length : Int)) (hRl : Rs.length ≤ 14) (hrl : mrl F Rs) (hR : ∀ q, q ∈ Rs → okr A (F 0) q) : ∀ (m p : Nat) (S1 : ai_S) (F1 : Nat → Nat → Int) (x3 : Option Value), p + m = w.length → fr 432 452 S S1 → mst S1 T D n rc wt kp sx sc F1 B → (∀ i, i ≠ 11 → i ≠ 12 → F1 i = F i) → stp A Rs w = (stp A Rs (w.drop p)).map (w.take p ++ ·) → ai_aw L xs (d + 3) ai_m118 (fun (o : ai_O) => ∃ v S', o = (.inl v, S') ∧ fr 432 452 S S' ∧ ∃ F', mst S' T D n rc wt kp sx sc F' B ∧ eqx F F' ∧ xr (F' 9) ∧ oth F F' t ∧ ∃ z, v = some (ax_i z) ∧ ((z = 0 ∧ stp A Rs w = none ∧ mwd (F' 9) (F' 10) t w) ∨ (z = 1 ∧ ∃ w', stp A Rs w = some w' ∧ mwd (F' 9) (F' 10) t w'))) (2, [some (.ref 432), some (ax_i (t : Nat)), some (ax_i (p : Nat)), x3], [], S1) := by
  have hzt := mwd_len hw (by omega)
  intro m
  induction m with
  | zero =>
    intro p S1 F1 x3 hp f1 h1 hF hJ
    have ho := h1.1
    have r10 : ai_arr S1 443 0 = some (3, ax_f (F1 10)) := h1.2.1 10 (by decide)
    rw [show F1 10 = F 10 from hF 10 (by decide) (by decide)] at r10
    obtain rfl : p = w.length := by omega
    refine aw_loc at_118_2 rfl rfl ?_
    refine aw_loc at_118_3 rfl rfl ?_
    refine aw_get at_118_4 rfl fl_12_40 ho rfl ?_
    refine aw_loc at_118_7 rfl rfl ?_
    refine ax_ild at_118_8 rfl r10 (k := t) rfl (by omega) (by decide) ?_
    rw [hzt]
    refine ax_icmp_ge at_118_9 ⟨by omega, by omega⟩ ⟨by omega, by omega⟩ (fun _ => ?_) (fun z => absurd z (by omega))
    show ai_aw L xs (d + 3) ai_m118 _ (53, _, _, _)
    refine aw_pure (st' := ax_i (0) :: _) at_118_53 rfl rfl ?_
    have e9 := hF 9 (by decide) (by decide)
    have e10 := hF 10 (by decide) (by decide)
    exact ax_retZ at_118_54 rfl (Or.inl rfl) ⟨_, _, rfl, f1, F1, h1, fun i b1 b2 b3 b4 => hF i b3 b4, by rw [e9]; exact hx, oth.eq e9 e10, 0, rfl, Or.inl ⟨rfl, stp_end (Nat.le_refl _) hJ, by rw [e9, e10]; exact hw⟩⟩
  | succ m ih =>
    intro p S1 F1 x3 hp f1 h1 hF hJ
    have ho := h1.1
    have r10 : ai_arr S1 443 0 = some (3, ax_f (F1 10)) := h1.2.1 10 (by decide)
    rw [show F1 10 = F 10 from hF 10 (by decide) (by decide)] at r10
    refine aw_loc at_118_2 rfl rfl ?_
    refine aw_loc at_118_3 rfl rfl ?_
    refine aw_get at_118_4 rfl fl_12_40 ho rfl ?_
    refine aw_loc at_118_7 rfl rfl ?_
    refine ax_ild at_118_8 rfl r10 (k := t) rfl (by omega) (by decide) ?_
    rw [hzt]
    refine ax_icmp_ge at_118_9 ⟨by omega, by omega⟩ ⟨by omega, by omega⟩ (fun z => absurd z (by omega)) (fun _ => ?_)
    refine aw_pure (st' := ax_i (0) :: _) at_118_12 rfl rfl ?_
    refine aw_loc at_118_13 rfl rfl ?_
    refine r_m_rew1 (p := p) hpk hx hw hkw hwl ht hN hrc hRl hrl hR (by omega) hJ Rs.length 0 S1 F1 (by omega) f1 h1 hF rfl (fun hno S2 F2 y3 f2 h2 hF2 => ?_)
    refine ax_inc at_118_47 rfl rfl rfl ?_
    refine aw_goto at_118_50 ?_
    have := ih (p + 1) S2 F2 y3 (by omega) f2 h2 hF2 (stp_next (by omega) hJ hno)
    rw [Int.natCast_add] at this
    exact this
set_option maxHeartbeats 4000000 in
theorem r_m_rew {t N : Nat} {w : List Int} (h : mst S T D n rc wt kp sx sc F B) (hpk : mpk A F) (hx : xr (F 9)) (hw : mwd (F 9) (F 10) t w) (hkw : al (kn (F 0) 129) w) (hwl : w.length ≤ 24) (ht : t < 2) (hN : ts A N w) (hrc : rc = (Rs.length : Int)) (hRl : Rs.length ≤ 14) (hrl : mrl F Rs) (hR : ∀ q, q ∈ Rs → okr A (F 0) q) : ai_rn L xs (d + 4) 118 [.ref 432, ax_i (t : Nat)] S (fun v S' => fr 432 452 S S' ∧ ∃ F', mst S' T D n rc wt kp sx sc F' B ∧ eqx F F' ∧ xr (F' 9) ∧ oth F F' t ∧ ∃ z, v = some (ax_i z) ∧ ((z = 0 ∧ stp A Rs w = none ∧ mwd (F' 9) (F' 10) t w) ∨ (z = 1 ∧ ∃ w', stp A Rs w = some w' ∧ mwd (F' 9) (F' 10) t w'))) := by
  refine ai_rn_of (M := ai_m118) rfl (by decide) (Nat.le_of_ble_eq_true rfl) ?_
  refine aw_pure (st' := ax_i (0) :: _) at_118_0 rfl rfl ?_
  refine aw_loc at_118_1 rfl rfl ?_
  exact r_m_rew2 hpk hx hw hkw hwl ht hN hrc hRl hrl hR w.length 0 S F _ (by omega) fr.rf h (fun i _ _ => rfl) (stp_zero Rs w)
set_option maxHeartbeats 16000000 in
theorem r_m_norm1 {t : Nat} (hpk : mpk A F) (ht : t < 2) (hrc : rc = (Rs.length : Int)) (hRl : Rs.length ≤ 14) (hrl : mrl F Rs) (hR : ∀ q, q ∈ Rs → okr A (F 0) q) : ∀ (f c : Nat) (S1 : ai_S) (F1 : Nat → Nat → Int) (w1 : List Int), c + f = 40 → fr 432 452 S S1 → mst S1 T D n rc wt kp sx sc F1 B → eqx F F1 → xr (F1 9) → oth F F1 t → mwd (F1 9) (F1 10) t w1 → w1.length ≤ 24 → al (kn (F 0) 129) w1 → ts A 1 w1 → ai_aw L xs (d + 4) ai_m117 (fun (o : ai_O) => ∃ v S', o = (.inl v, S') ∧ fr 432 452 S S' ∧ ∃ F', mst S' T D n rc wt kp sx sc F' B ∧ eqx F F' ∧ xr (F' 9) ∧ oth F F' t ∧ ∃ z, v = some (ax_i z) ∧ ((nf A Rs f w1 = none ∧ z = -1 ∧ (0 ≤ F' 10 t ∧ F' 10 t ≤ 64)) ∨ ∃ q, nf A Rs f w1 = some q ∧ z = (c : Int) + (q.2 : Int) ∧ mwd (F' 9) (F' 10) t q.1)) (19, [some (.ref 432), some (ax_i (t : Nat)), some (ax_i (c : Nat)), some (ax_i 1)], [], S1) := by
  have hA := hpk.2.2
  intro f
  induction f with
  | zero =>
    intro c S1 F1 w1 hc f1 h1 hF hx hot hw hl hkw hN
    have ho := h1.1
    have e0 : F1 0 = F 0 := hF 0 (by decide) (by decide) (by decide) (by decide)
    have e3 : F1 3 = F 3 := hF 3 (by decide) (by decide) (by decide) (by decide)
    have e4 : F1 4 = F 4 := hF 4 (by decide) (by decide) (by decide) (by decide)
    have e5 : F1 5 = F 5 := hF 5 (by decide) (by decide) (by decide) (by decide)
    have hrl1 : mrl F1 Rs := fun k hk => by rw [e3, e4, e5]; exact hrl k hk
    refine aw_loc at_117_19 rfl rfl ?_
    refine ax_if_eq at_117_20 ⟨by decide, by decide⟩ (fun z => absurd z (by decide)) (fun _ => ?_)
    refine aw_loc at_117_23 rfl rfl ?_
    refine aw_loc at_117_24 rfl rfl ?_
    refine aw_cv (a := 432) [ax_i (t : Nat)] [] at_117_25 mt_12_131 (Or.inl rfl) rfl rfl (Nat.le_of_ble_eq_true rfl) ⟨_, ho⟩ ((r_m_rew (A := A) h1 ⟨by rw [e0]; exact hpk.1, by rw [e0]; exact hpk.2⟩ hx hw (by rw [e0]; exact hkw) hl ht hN hrc hRl hrl1 (by rw [e0]; exact hR)).mono ?_)
    rintro v S2 ⟨f2, F2, h2, hF2, hx2, ho2, z, rfl, hz⟩
    have f12 := f1.tr f2
    have hF12 := eqx.tr hF hF2
    have ho12 := oth.tr hot ho2
    refine aw_loc at_117_28 rfl rfl ?_
    refine aw_loc at_117_29 rfl rfl ?_
    refine aw_loc at_117_30 rfl rfl ?_
    rcases hz with ⟨rfl, hst, hw2⟩ | ⟨rfl, w2, hst, hw2⟩
    · skip
      have hz2 := mwd_len hw2 (by omega)
      have ho := h2.1
      have r10 : ai_arr S2 443 0 = some (3, ax_f (F2 10)) := h2.2.1 10 (by decide)
      refine ax_if_eq at_117_31 ⟨by decide, by decide⟩ (fun _ => ?_) (fun y => absurd rfl y)
      refine aw_pure (st' := ax_i (0) :: _) at_117_38 rfl rfl ?_
      refine ax_add at_117_39 rfl ?_
      refine aw_loc at_117_40 rfl rfl ?_
      refine aw_loc at_117_41 rfl rfl ?_
      refine aw_pure (st' := ax_i (40) :: _) at_117_42 rfl rfl ?_
      refine ax_icmp_gt at_117_44 ⟨by omega, by omega⟩ ⟨by omega, by omega⟩ (fun y => absurd y (by omega)) (fun _ => ?_)
      refine aw_loc at_117_47 rfl rfl ?_
      refine aw_get at_117_48 rfl fl_12_40 ho rfl ?_
      refine aw_loc at_117_51 rfl rfl ?_
      refine ax_ild at_117_52 rfl r10 (k := t) rfl (by omega) (by decide) ?_
      refine aw_pure (st' := ax_i (24) :: _) at_117_53 rfl rfl ?_
      rw [hz2]
      refine ax_icmp_le at_117_55 ⟨by omega, by omega⟩ ⟨by omega, by omega⟩ (fun _ => ?_) (fun y => absurd y (by omega))
      show ai_aw L xs (d + 4) ai_m117 _ (19, _, _, _)
      refine aw_loc at_117_19 rfl rfl ?_
      refine ax_if_eq at_117_20 ⟨by decide, by decide⟩ (fun _ => ?_) (fun y => absurd rfl y)
      show ai_aw L xs (d + 4) ai_m117 _ (60, _, _, _)
      refine aw_loc at_117_60 rfl rfl ?_
      refine aw_get at_117_61 rfl fl_12_40 ho rfl ?_
      refine aw_loc at_117_64 rfl rfl ?_
      refine ax_ild at_117_65 rfl r10 (k := t) rfl (by omega) (by decide) ?_
      refine aw_pure (st' := ax_i (24) :: _) at_117_66 rfl rfl ?_
      rw [hz2]
      refine ax_icmp_le at_117_68 ⟨by omega, by omega⟩ ⟨by omega, by omega⟩ (fun _ => ?_) (fun y => absurd y (by omega))
      show ai_aw L xs (d + 4) ai_m117 _ (75, _, _, _)
      refine aw_loc at_117_75 rfl rfl ?_
      exact ax_ret at_117_76 rfl ⟨_, _, rfl, f12, F2, h2, hF12, hx2, ho12, _, rfl, Or.inr ⟨(w1, 0), by unfold nf; rw [if_neg (by omega), hst], by show (c : Int) + 0 = (c : Int) + ((0 : Nat) : Int); omega, hw2⟩⟩
    · skip
      have ho := h2.1
      have r10 : ai_arr S2 443 0 = some (3, ax_f (F2 10)) := h2.2.1 10 (by decide)
      have hz2 := hw2.1
      have hst2 := stp_ok (K := kn (F 0) 129) hA (fun q hq => ⟨(hR q hq).2, fun x hx h1 => kn_sym ((hR q hq).1.2.2.1.2 x hx) h1⟩) w1 w2 _ hN hkw hst
      refine ax_if_eq at_117_31 ⟨by decide, by decide⟩ (fun y => absurd y (by decide)) (fun _ => ?_)
      have kbad : nf A Rs 0 w1 = none → ∀ x2 : Int, ai_aw L xs (d + 4) ai_m117 (fun (o : ai_O) => ∃ v S', o = (.inl v, S') ∧ fr 432 452 S S' ∧ ∃ F', mst S' T D n rc wt kp sx sc F' B ∧ eqx F F' ∧ xr (F' 9) ∧ oth F F' t ∧ ∃ z, v = some (ax_i z) ∧ ((nf A Rs 0 w1 = none ∧ z = -1 ∧ (0 ≤ F' 10 t ∧ F' 10 t ≤ 64)) ∨ ∃ q, nf A Rs 0 w1 = some q ∧ z = (c : Int) + (q.2 : Int) ∧ mwd (F' 9) (F' 10) t q.1)) (58, [some (.ref 432), some (ax_i (t : Nat)), some (ax_i x2), some (ax_i 1)], [], S2) := by
        intro hno x2
        refine aw_pure (st' := ax_i (-1) :: _) at_117_58 rfl rfl ?_
        exact ax_ret at_117_59 rfl ⟨_, _, rfl, f12, F2, h2, hF12, hx2, ho12, -1, rfl, Or.inl ⟨hno, rfl, by rw [hz2]; omega⟩⟩
      refine aw_pure (st' := ax_i (1) :: _) at_117_34 rfl rfl ?_
      refine aw_goto at_117_35 ?_
      refine ax_add at_117_39 rfl ?_
      refine aw_loc at_117_40 rfl rfl ?_
      refine aw_loc at_117_41 rfl rfl ?_
      refine aw_pure (st' := ax_i (40) :: _) at_117_42 rfl rfl ?_
      refine ax_icmp_gt at_117_44 ⟨by omega, by omega⟩ ⟨by omega, by omega⟩ (fun _ => kbad (by unfold nf; rw [if_neg (by omega), hst]) _) (fun y => absurd y (by omega))
  | succ f ih =>
    intro c S1 F1 w1 hc f1 h1 hF hx hot hw hl hkw hN
    have ho := h1.1
    have e0 : F1 0 = F 0 := hF 0 (by decide) (by decide) (by decide) (by decide)
    have e3 : F1 3 = F 3 := hF 3 (by decide) (by decide) (by decide) (by decide)
    have e4 : F1 4 = F 4 := hF 4 (by decide) (by decide) (by decide) (by decide)
    have e5 : F1 5 = F 5 := hF 5 (by decide) (by decide) (by decide) (by decide)
    have hrl1 : mrl F1 Rs := fun k hk => by rw [e3, e4, e5]; exact hrl k hk
    refine aw_loc at_117_19 rfl rfl ?_
    refine ax_if_eq at_117_20 ⟨by decide, by decide⟩ (fun z => absurd z (by decide)) (fun _ => ?_)
    refine aw_loc at_117_23 rfl rfl ?_
    refine aw_loc at_117_24 rfl rfl ?_
    refine aw_cv (a := 432) [ax_i (t : Nat)] [] at_117_25 mt_12_131 (Or.inl rfl) rfl rfl (Nat.le_of_ble_eq_true rfl) ⟨_, ho⟩ ((r_m_rew (A := A) h1 ⟨by rw [e0]; exact hpk.1, by rw [e0]; exact hpk.2⟩ hx hw (by rw [e0]; exact hkw) hl ht hN hrc hRl hrl1 (by rw [e0]; exact hR)).mono ?_)
    rintro v S2 ⟨f2, F2, h2, hF2, hx2, ho2, z, rfl, hz⟩
    have f12 := f1.tr f2
    have hF12 := eqx.tr hF hF2
    have ho12 := oth.tr hot ho2
    refine aw_loc at_117_28 rfl rfl ?_
    refine aw_loc at_117_29 rfl rfl ?_
    refine aw_loc at_117_30 rfl rfl ?_
    rcases hz with ⟨rfl, hst, hw2⟩ | ⟨rfl, w2, hst, hw2⟩
    · skip
      have hz2 := mwd_len hw2 (by omega)
      have ho := h2.1
      have r10 : ai_arr S2 443 0 = some (3, ax_f (F2 10)) := h2.2.1 10 (by decide)
      refine ax_if_eq at_117_31 ⟨by decide, by decide⟩ (fun _ => ?_) (fun y => absurd rfl y)
      refine aw_pure (st' := ax_i (0) :: _) at_117_38 rfl rfl ?_
      refine ax_add at_117_39 rfl ?_
      refine aw_loc at_117_40 rfl rfl ?_
      refine aw_loc at_117_41 rfl rfl ?_
      refine aw_pure (st' := ax_i (40) :: _) at_117_42 rfl rfl ?_
      refine ax_icmp_gt at_117_44 ⟨by omega, by omega⟩ ⟨by omega, by omega⟩ (fun y => absurd y (by omega)) (fun _ => ?_)
      refine aw_loc at_117_47 rfl rfl ?_
      refine aw_get at_117_48 rfl fl_12_40 ho rfl ?_
      refine aw_loc at_117_51 rfl rfl ?_
      refine ax_ild at_117_52 rfl r10 (k := t) rfl (by omega) (by decide) ?_
      refine aw_pure (st' := ax_i (24) :: _) at_117_53 rfl rfl ?_
      rw [hz2]
      refine ax_icmp_le at_117_55 ⟨by omega, by omega⟩ ⟨by omega, by omega⟩ (fun _ => ?_) (fun y => absurd y (by omega))
      show ai_aw L xs (d + 4) ai_m117 _ (19, _, _, _)
      refine aw_loc at_117_19 rfl rfl ?_
      refine ax_if_eq at_117_20 ⟨by decide, by decide⟩ (fun _ => ?_) (fun y => absurd rfl y)
      show ai_aw L xs (d + 4) ai_m117 _ (60, _, _, _)
      refine aw_loc at_117_60 rfl rfl ?_
      refine aw_get at_117_61 rfl fl_12_40 ho rfl ?_
      refine aw_loc at_117_64 rfl rfl ?_
      refine ax_ild at_117_65 rfl r10 (k := t) rfl (by omega) (by decide) ?_
      refine aw_pure (st' := ax_i (24) :: _) at_117_66 rfl rfl ?_
      rw [hz2]
      refine ax_icmp_le at_117_68 ⟨by omega, by omega⟩ ⟨by omega, by omega⟩ (fun _ => ?_) (fun y => absurd y (by omega))
      show ai_aw L xs (d + 4) ai_m117 _ (75, _, _, _)
      refine aw_loc at_117_75 rfl rfl ?_
      exact ax_ret at_117_76 rfl ⟨_, _, rfl, f12, F2, h2, hF12, hx2, ho12, _, rfl, Or.inr ⟨(w1, 0), by unfold nf; rw [if_neg (by omega), hst], by show (c : Int) + 0 = (c : Int) + ((0 : Nat) : Int); omega, hw2⟩⟩
    · skip
      have ho := h2.1
      have r10 : ai_arr S2 443 0 = some (3, ax_f (F2 10)) := h2.2.1 10 (by decide)
      have hz2 := hw2.1
      have hst2 := stp_ok (K := kn (F 0) 129) hA (fun q hq => ⟨(hR q hq).2, fun x hx h1 => kn_sym ((hR q hq).1.2.2.1.2 x hx) h1⟩) w1 w2 _ hN hkw hst
      refine ax_if_eq at_117_31 ⟨by decide, by decide⟩ (fun y => absurd y (by decide)) (fun _ => ?_)
      have kbad : nf A Rs (f + 1) w1 = none → ∀ x2 : Int, ai_aw L xs (d + 4) ai_m117 (fun (o : ai_O) => ∃ v S', o = (.inl v, S') ∧ fr 432 452 S S' ∧ ∃ F', mst S' T D n rc wt kp sx sc F' B ∧ eqx F F' ∧ xr (F' 9) ∧ oth F F' t ∧ ∃ z, v = some (ax_i z) ∧ ((nf A Rs (f + 1) w1 = none ∧ z = -1 ∧ (0 ≤ F' 10 t ∧ F' 10 t ≤ 64)) ∨ ∃ q, nf A Rs (f + 1) w1 = some q ∧ z = (c : Int) + (q.2 : Int) ∧ mwd (F' 9) (F' 10) t q.1)) (58, [some (.ref 432), some (ax_i (t : Nat)), some (ax_i x2), some (ax_i 1)], [], S2) := by
        intro hno x2
        refine aw_pure (st' := ax_i (-1) :: _) at_117_58 rfl rfl ?_
        exact ax_ret at_117_59 rfl ⟨_, _, rfl, f12, F2, h2, hF12, hx2, ho12, -1, rfl, Or.inl ⟨hno, rfl, by rw [hz2]; omega⟩⟩
      refine aw_pure (st' := ax_i (1) :: _) at_117_34 rfl rfl ?_
      refine aw_goto at_117_35 ?_
      refine ax_add at_117_39 rfl ?_
      refine aw_loc at_117_40 rfl rfl ?_
      refine aw_loc at_117_41 rfl rfl ?_
      refine aw_pure (st' := ax_i (40) :: _) at_117_42 rfl rfl ?_
      refine ax_icmp_gt at_117_44 ⟨by omega, by omega⟩ ⟨by omega, by omega⟩ (fun y => absurd y (by omega)) (fun _ => ?_)
      have hnf : nf A Rs (f + 1) w1 = (nf A Rs f w2).map fun q => (q.1, q.2 + 1) := by
        conv => lhs; unfold nf
        rw [if_neg (by omega), hst]
      refine aw_loc at_117_47 rfl rfl ?_
      refine aw_get at_117_48 rfl fl_12_40 ho rfl ?_
      refine aw_loc at_117_51 rfl rfl ?_
      refine ax_ild at_117_52 rfl r10 (k := t) rfl (by omega) (by decide) ?_
      refine aw_pure (st' := ax_i (24) :: _) at_117_53 rfl rfl ?_
      rw [hz2]
      refine ax_icmp_le at_117_55 ⟨by omega, by omega⟩ ⟨by omega, by omega⟩ (fun y => ?_) (fun y => kbad (by rw [hnf, nf_long (by omega)]; rfl) _)
      have hl2 : w2.length ≤ 24 := by omega
      have := ih (c + 1) S2 F2 w2 (by omega) f12 h2 hF12 hx2 ho12 hw2 hl2 hst2.2 hst2.1
      rw [Int.natCast_add] at this
      refine ai_aw_mono this ?_
      rintro o ⟨v, S9, rfl, g1, F9, g2, g3, g4, g5, z9, rfl, g6⟩
      refine ⟨_, _, rfl, g1, F9, g2, g3, g4, g5, z9, rfl, ?_⟩
      rcases g6 with ⟨g7, g8⟩ | ⟨q, g7, g8, g9⟩
      · exact Or.inl ⟨by rw [hnf, g7]; rfl, g8⟩
      · exact Or.inr ⟨(q.1, q.2 + 1), by rw [hnf, g7]; rfl, by show z9 = (c : Int) + ((q.2 + 1 : Nat) : Int); rw [g8]; omega, g9⟩
set_option maxHeartbeats 8000000 in
theorem r_m_norm {t : Nat} {w : List Int} (h : mst S T D n rc wt kp sx sc F B) (hpk : mpk A F) (ht : t < 2) (hrc : rc = (Rs.length : Int)) (hRl : Rs.length ≤ 14) (hrl : mrl F Rs) (hR : ∀ q, q ∈ Rs → okr A (F 0) q) (hx : xr (F 9)) (hw : mwl (F 9) (F 10) t w) (hkw : al (kn (F 0) 129) w) (hN : ts A 1 w) : ai_rn L xs (d + 5) 117 [.ref 432, ax_i (t : Nat)] S (fun v S' => fr 432 452 S S' ∧ ∃ F', mst S' T D n rc wt kp sx sc F' B ∧ eqx F F' ∧ xr (F' 9) ∧ oth F F' t ∧ ∃ z, v = some (ax_i z) ∧ ((nf A Rs 40 w = none ∧ z = -1 ∧ (0 ≤ F' 10 t ∧ F' 10 t ≤ 64)) ∨ ∃ q, nf A Rs 40 w = some q ∧ z = (q.2 : Int) ∧ mwd (F' 9) (F' 10) t q.1)) := by
  have ho := h.1
  have r10 : ai_arr S 443 0 = some (3, ax_f (F 10)) := h.2.1 10 (by decide)
  refine ai_rn_of (M := ai_m117) rfl (by decide) (Nat.le_of_ble_eq_true rfl) ?_
  refine aw_pure (st' := ax_i (0) :: _) at_117_0 rfl rfl ?_
  refine aw_loc at_117_1 rfl rfl ?_
  refine aw_loc at_117_2 rfl rfl ?_
  refine aw_get at_117_3 rfl fl_12_40 ho rfl ?_
  refine aw_loc at_117_6 rfl rfl ?_
  refine ax_ild at_117_7 rfl r10 (k := t) rfl (by omega) (by decide) ?_
  refine aw_pure (st' := ax_i (24) :: _) at_117_8 rfl rfl ?_
  rcases hw with ⟨hl, hw⟩ | ⟨hl, hw⟩
  · skip
    have hz := mwd_len hw (by omega)
    rw [hz]
    refine ax_icmp_gt at_117_10 ⟨by omega, by omega⟩ ⟨by omega, by omega⟩ (fun y => absurd y (by omega)) (fun _ => ?_)
    refine aw_pure (st' := ax_i (1) :: _) at_117_13 rfl rfl ?_
    refine aw_goto at_117_14 ?_
    refine aw_loc at_117_18 rfl rfl ?_
    refine ai_aw_mono (r_m_norm1 hpk ht hrc hRl hrl hR 40 0 S F w (by omega) fr.rf h (fun _ _ _ _ _ => rfl) hx (oth.rf F t) hw hl hkw hN) ?_
    rintro o ⟨v, S9, rfl, g1, F9, g2, g3, g4, g5, z9, rfl, g6⟩
    refine ⟨_, _, rfl, g1, F9, g2, g3, g4, g5, z9, rfl, g6.imp id ?_⟩
    rintro ⟨q, g7, g8, g9⟩
    exact ⟨q, g7, by rw [g8]; omega, g9⟩
  · skip
    refine ax_icmp_gt at_117_10 ⟨by omega, by omega⟩ ⟨by omega, by omega⟩ (fun _ => ?_) (fun y => absurd y (by omega))
    show ai_aw L xs (d + 4) ai_m117 _ (17, _, _, _)
    refine aw_pure (st' := ax_i (0) :: _) at_117_17 rfl rfl ?_
    refine aw_loc at_117_18 rfl rfl ?_
    refine aw_loc at_117_19 rfl rfl ?_
    refine ax_if_eq at_117_20 ⟨by decide, by decide⟩ (fun _ => ?_) (fun y => absurd rfl y)
    show ai_aw L xs (d + 4) ai_m117 _ (60, _, _, _)
    refine aw_loc at_117_60 rfl rfl ?_
    refine aw_get at_117_61 rfl fl_12_40 ho rfl ?_
    refine aw_loc at_117_64 rfl rfl ?_
    refine ax_ild at_117_65 rfl r10 (k := t) rfl (by omega) (by decide) ?_
    refine aw_pure (st' := ax_i (24) :: _) at_117_66 rfl rfl ?_
    refine ax_icmp_le at_117_68 ⟨by omega, by omega⟩ ⟨by omega, by omega⟩ (fun y => absurd y (by omega)) (fun _ => ?_)
    refine aw_pure (st' := ax_i (-1) :: _) at_117_71 rfl rfl ?_
    refine aw_goto at_117_72 ?_
    exact ax_ret at_117_76 rfl ⟨_, _, rfl, fr.rf, F, h, fun _ _ _ _ _ => rfl, hx, oth.rf F t, -1, rfl, Or.inl ⟨by unfold nf; rw [if_pos hl], rfl, by omega⟩⟩
end MQ

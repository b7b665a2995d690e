/-! The reference: where leads go, and whether a letter comes. -/
section ML
variable {L : Nat} {xs : Nat → Int32} {d : Nat} {S S' : ai_S} {T D n rc wt kp sx sc : Int} {F : Nat → Nat → Int} {B : Nat → Int} {P : Nat → Int} {A : Int → Nat}
/-- the rows of the leads and of the two stacks -/
def mrw (F : Nat → Nat → Int) (G O U : Nat → Int) : Nat → Nat → Int := fup (fup (fup F 14 G) 15 O) 16 U
variable {G O U V : Nat → Int} {ld : lds_t} {Dm : Nat → Prop} {Y : Nat → Int} {en : Nat → Nat} {Tm : Nat → List Int}
theorem mrw_14 : mrw F G O U 14 = G := ((fup_ne (by decide)).trans (fup_ne (by decide))).trans (fup_get _ _ _)
theorem mrw_15 : mrw F G O U 15 = O := (fup_ne (by decide)).trans (fup_get _ _ _)
theorem mrw_16 : mrw F G O U 16 = U := fup_get _ _ _
theorem mrw_ne {i : Nat} (h1 : i ≠ 14) (h2 : i ≠ 15) (h3 : i ≠ 16) : mrw F G O U i = F i := ((fup_ne h3).trans (fup_ne h2)).trans (fup_ne h1)
theorem mrw_self (F : Nat → Nat → Int) : mrw F (F 14) (F 15) (F 16) = F := by
  unfold mrw
  rw [fup_self]
  have h1 : fup F 15 (F 15) = F := fup_self F 15
  rw [h1]
  exact fup_self F 16
theorem mrw_w16 : fup (mrw F G O U) 16 V = mrw F G O V := fup_two _ _ _ _
theorem mrw_w15 : fup (mrw F G O U) 15 V = mrw F G V U := by
  unfold mrw
  rw [fup_comm _ (show 16 ≠ 15 by decide), fup_two]
theorem mrw_w14 : fup (mrw F G O U) 14 V = mrw F V O U := by
  unfold mrw
  rw [fup_comm _ (show 16 ≠ 14 by decide), fup_comm _ (show 15 ≠ 14 by decide), fup_two]
theorem mst_w16 (h : mst S T D n rc wt kp sx sc (mrw F G O U) B) : mst (ai_wr S 449 (.inl (0, ai_I 400 (ax_f V)))) T D n rc wt kp sx sc (mrw F G O V) B := by
  have := mst_wr (i := 16) (R := V) h (by decide)
  rw [mrw_w16] at this
  exact this
theorem mst_w15 (h : mst S T D n rc wt kp sx sc (mrw F G O U) B) : mst (ai_wr S 448 (.inl (0, ai_I 400 (ax_f V)))) T D n rc wt kp sx sc (mrw F G V U) B := by
  have := mst_wr (i := 15) (R := V) h (by decide)
  rw [mrw_w15] at this
  exact this
theorem mst_w14 (h : mst S T D n rc wt kp sx sc (mrw F G O U) B) : mst (ai_wr S 447 (.inl (0, ai_I 20 (ax_f V)))) T D n rc wt kp sx sc (mrw F V O U) B := by
  have := mst_wr (i := 14) (R := V) h (by decide)
  rw [mrw_w14] at this
  exact this
/-- a place whose letter is known -/
def mlf (P C : Nat → Int) (Y : Nat → Int) (p : Nat) : Prop := p < 128 ∧ kn P 129 (Y p) ∧ C p = co (Y p)
/-- a place whose term is known -/
def mle (P C : Nat → Int) (en : Nat → Nat) (i : Nat) : Prop := (i ≤ en i ∧ en i ≤ 128) ∧ (∀ j, j < en i - i → 0 < nd P C i j) ∧ nd P C i (en i - i) = 0
/-- the places of what is laid -/
def mlc (A : Int → Nat) (P C : Nat → Int) (Dm : Nat → Prop) (Y : Nat → Int) (en : Nat → Nat) (Tm : Nat → List Int) : Prop := ((∀ i, -1 ≤ P i ∧ P i ≤ 2) ∧ sam A P) ∧ xr C ∧ (∀ c, A c ≤ 2) ∧ tps A Dm Y (chp en) Tm ∧ ∀ i, Dm i → i < 56 ∧ mlf P C Y i ∧ mle P C en i
/-- the row of the leads -/
def ldr (G : Nat → Int) (ld : lds_t) : Prop := (∀ i, i < 20 → -1 ≤ G i ∧ G i < 128) ∧ ∀ c, 117 ≤ c → c < 129 → (ld c = none ∧ G (c - 117).toNat = -1) ∨ ∃ b : Nat, ld c = some b ∧ G (c - 117).toNat = (b : Int)
def mld (Dm : Nat → Prop) (Y : Nat → Int) (G : Nat → Int) (ld : lds_t) (rk : Int → Nat) : Prop := ldr G ld ∧ (∀ c b, ld c = some b → 117 ≤ c ∧ Dm b) ∧ ∀ c b, ld c = some b → 117 ≤ Y b → rk (Y b) < rk c
/-- where the leads from p go -/
def fgo (A : Int → Nat) (Dm : Nat → Prop) (Y : Nat → Int) (Tm : Nat → List Int) (ld : lds_t) (p q : Nat) : Prop := (q = p ∧ (Y p < 117 ∨ ld (Y p) = none)) ∨ ∃ b, 117 ≤ Y p ∧ ld (Y p) = some b ∧ fol A Dm Y Tm ld b q
theorem fgo_fol (hA : ∀ c, 117 ≤ c → A c = 0) (ht : tps A Dm Y (chp en) Tm) {p q : Nat} (hp : Dm p) (h : fgo A Dm Y Tm ld p q) : fol A Dm Y Tm ld p q := by
  rcases h with ⟨rfl, h⟩ | ⟨b, h1, h2, h3⟩
  · exact fol_self hp h
  · exact fol_step hA ht hp h1 h2 h3
theorem co_var {c : Int} (h : 117 ≤ c) : co c - 8 = c - 117 := by
  unfold co
  rw [if_neg (by omega)]
  omega
theorem at_144_0 : ai_at ai_m144 0 = some (.iload_n 1, 1) := rfl
theorem at_144_1 : ai_at ai_m144 1 = some (.istore_n 2, 1) := rfl
theorem at_144_2 : ai_at ai_m144 2 = some (.aload_n 0, 1) := rfl
theorem at_144_3 : ai_at ai_m144 3 = some (.getfield 49, 3) := rfl
theorem at_144_6 : ai_at ai_m144 6 = some (.iload_n 2, 1) := rfl
theorem at_144_7 : ai_at ai_m144 7 = some (.iaload, 1) := rfl
theorem at_144_8 : ai_at ai_m144 8 = some (.bipush 8, 2) := rfl
theorem at_144_10 : ai_at ai_m144 10 = some (.if_icmp .lt 38, 3) := rfl
theorem at_144_13 : ai_at ai_m144 13 = some (.aload_n 0, 1) := rfl
theorem at_144_14 : ai_at ai_m144 14 = some (.getfield 52, 3) := rfl
theorem at_144_17 : ai_at ai_m144 17 = some (.aload_n 0, 1) := rfl
theorem at_144_18 : ai_at ai_m144 18 = some (.getfield 49, 3) := rfl
theorem at_144_21 : ai_at ai_m144 21 = some (.iload_n 2, 1) := rfl
theorem at_144_22 : ai_at ai_m144 22 = some (.iaload, 1) := rfl
theorem at_144_23 : ai_at ai_m144 23 = some (.bipush 8, 2) := rfl
theorem at_144_25 : ai_at ai_m144 25 = some (.isub, 1) := rfl
theorem at_144_26 : ai_at ai_m144 26 = some (.iaload, 1) := rfl
theorem at_144_27 : ai_at ai_m144 27 = some (.ifCond .lt 21, 3) := rfl
theorem at_144_30 : ai_at ai_m144 30 = some (.aload_n 0, 1) := rfl
theorem at_144_31 : ai_at ai_m144 31 = some (.getfield 52, 3) := rfl
theorem at_144_34 : ai_at ai_m144 34 = some (.aload_n 0, 1) := rfl
theorem at_144_35 : ai_at ai_m144 35 = some (.getfield 49, 3) := rfl
theorem at_144_38 : ai_at ai_m144 38 = some (.iload_n 2, 1) := rfl
theorem at_144_39 : ai_at ai_m144 39 = some (.iaload, 1) := rfl
theorem at_144_40 : ai_at ai_m144 40 = some (.bipush 8, 2) := rfl
theorem at_144_42 : ai_at ai_m144 42 = some (.isub, 1) := rfl
theorem at_144_43 : ai_at ai_m144 43 = some (.iaload, 1) := rfl
theorem at_144_44 : ai_at ai_m144 44 = some (.istore_n 2, 1) := rfl
theorem at_144_45 : ai_at ai_m144 45 = some (.goto (-43), 3) := rfl
theorem at_144_48 : ai_at ai_m144 48 = some (.iload_n 2, 1) := rfl
theorem at_144_49 : ai_at ai_m144 49 = some (.ireturn, 1) := rfl
theorem at_145_0 : ai_at ai_m145 0 = some (.iconst 1, 1) := rfl
theorem at_145_1 : ai_at ai_m145 1 = some (.istore_n 3, 1) := rfl
theorem at_145_2 : ai_at ai_m145 2 = some (.aload_n 0, 1) := rfl
theorem at_145_3 : ai_at ai_m145 3 = some (.getfield 58, 3) := rfl
theorem at_145_6 : ai_at ai_m145 6 = some (.sipush 300, 3) := rfl
theorem at_145_9 : ai_at ai_m145 9 = some (.iload_n 2, 1) := rfl
theorem at_145_10 : ai_at ai_m145 10 = some (.iastore, 1) := rfl
theorem at_145_11 : ai_at ai_m145 11 = some (.iload_n 3, 1) := rfl
theorem at_145_12 : ai_at ai_m145 12 = some (.ifCond .le 96, 3) := rfl
theorem at_145_15 : ai_at ai_m145 15 = some (.iinc 3 (-1), 3) := rfl
theorem at_145_18 : ai_at ai_m145 18 = some (.aload_n 0, 1) := rfl
theorem at_145_19 : ai_at ai_m145 19 = some (.aload_n 0, 1) := rfl
theorem at_145_20 : ai_at ai_m145 20 = some (.getfield 58, 3) := rfl
theorem at_145_23 : ai_at ai_m145 23 = some (.sipush 300, 3) := rfl
theorem at_145_26 : ai_at ai_m145 26 = some (.iload_n 3, 1) := rfl
theorem at_145_27 : ai_at ai_m145 27 = some (.iadd, 1) := rfl
theorem at_145_28 : ai_at ai_m145 28 = some (.iaload, 1) := rfl
theorem at_145_29 : ai_at ai_m145 29 = some (.invokevirtual 175, 3) := rfl
theorem at_145_32 : ai_at ai_m145 32 = some (.istore 4, 2) := rfl
theorem at_145_34 : ai_at ai_m145 34 = some (.aload_n 0, 1) := rfl
theorem at_145_35 : ai_at ai_m145 35 = some (.getfield 49, 3) := rfl
theorem at_145_38 : ai_at ai_m145 38 = some (.iload 4, 2) := rfl
theorem at_145_40 : ai_at ai_m145 40 = some (.iaload, 1) := rfl
theorem at_145_41 : ai_at ai_m145 41 = some (.iload_n 1, 1) := rfl
theorem at_145_42 : ai_at ai_m145 42 = some (.if_icmp .ne 5, 3) := rfl
theorem at_145_45 : ai_at ai_m145 45 = some (.iconst 1, 1) := rfl
theorem at_145_46 : ai_at ai_m145 46 = some (.ireturn, 1) := rfl
theorem at_145_47 : ai_at ai_m145 47 = some (.iconst 0, 1) := rfl
theorem at_145_48 : ai_at ai_m145 48 = some (.istore 5, 2) := rfl
theorem at_145_50 : ai_at ai_m145 50 = some (.iload 5, 2) := rfl
theorem at_145_52 : ai_at ai_m145 52 = some (.aload_n 0, 1) := rfl
theorem at_145_53 : ai_at ai_m145 53 = some (.aload_n 0, 1) := rfl
theorem at_145_54 : ai_at ai_m145 54 = some (.getfield 49, 3) := rfl
theorem at_145_57 : ai_at ai_m145 57 = some (.iload 4, 2) := rfl
theorem at_145_59 : ai_at ai_m145 59 = some (.iaload, 1) := rfl
theorem at_145_60 : ai_at ai_m145 60 = some (.invokevirtual 96, 3) := rfl
theorem at_145_63 : ai_at ai_m145 63 = some (.if_icmp .ge 42, 3) := rfl
theorem at_145_66 : ai_at ai_m145 66 = some (.aload_n 0, 1) := rfl
theorem at_145_67 : ai_at ai_m145 67 = some (.getfield 58, 3) := rfl
theorem at_145_70 : ai_at ai_m145 70 = some (.sipush 300, 3) := rfl
theorem at_145_73 : ai_at ai_m145 73 = some (.iload_n 3, 1) := rfl
theorem at_145_74 : ai_at ai_m145 74 = some (.iadd, 1) := rfl
theorem at_145_75 : ai_at ai_m145 75 = some (.iload 5, 2) := rfl
theorem at_145_77 : ai_at ai_m145 77 = some (.ifCond .ne 10, 3) := rfl
theorem at_145_80 : ai_at ai_m145 80 = some (.iload 4, 2) := rfl
theorem at_145_82 : ai_at ai_m145 82 = some (.iconst 1, 1) := rfl
theorem at_145_83 : ai_at ai_m145 83 = some (.iadd, 1) := rfl
theorem at_145_84 : ai_at ai_m145 84 = some (.goto 11, 3) := rfl
theorem at_145_87 : ai_at ai_m145 87 = some (.aload_n 0, 1) := rfl
theorem at_145_88 : ai_at ai_m145 88 = some (.iload 4, 2) := rfl
theorem at_145_90 : ai_at ai_m145 90 = some (.iconst 1, 1) := rfl
theorem at_145_91 : ai_at ai_m145 91 = some (.iadd, 1) := rfl
theorem at_145_92 : ai_at ai_m145 92 = some (.invokevirtual 178, 3) := rfl
theorem at_145_95 : ai_at ai_m145 95 = some (.iastore, 1) := rfl
theorem at_145_96 : ai_at ai_m145 96 = some (.iinc 3 1, 3) := rfl
theorem at_145_99 : ai_at ai_m145 99 = some (.iinc 5 1, 3) := rfl
theorem at_145_102 : ai_at ai_m145 102 = some (.goto (-52), 3) := rfl
theorem at_145_105 : ai_at ai_m145 105 = some (.goto (-94), 3) := rfl
theorem at_145_108 : ai_at ai_m145 108 = some (.iconst 0, 1) := rfl
theorem at_145_109 : ai_at ai_m145 109 = some (.ireturn, 1) := rfl
theorem at_146_0 : ai_at ai_m146 0 = some (.iconst 1, 1) := rfl
theorem at_146_1 : ai_at ai_m146 1 = some (.istore_n 2, 1) := rfl
theorem at_146_2 : ai_at ai_m146 2 = some (.iload_n 1, 1) := rfl
theorem at_146_3 : ai_at ai_m146 3 = some (.istore_n 3, 1) := rfl
theorem at_146_4 : ai_at ai_m146 4 = some (.iload_n 2, 1) := rfl
theorem at_146_5 : ai_at ai_m146 5 = some (.ifCond .le 24, 3) := rfl
theorem at_146_8 : ai_at ai_m146 8 = some (.iload_n 2, 1) := rfl
theorem at_146_9 : ai_at ai_m146 9 = some (.aload_n 0, 1) := rfl
theorem at_146_10 : ai_at ai_m146 10 = some (.aload_n 0, 1) := rfl
theorem at_146_11 : ai_at ai_m146 11 = some (.getfield 49, 3) := rfl
theorem at_146_14 : ai_at ai_m146 14 = some (.iload_n 3, 1) := rfl
theorem at_146_15 : ai_at ai_m146 15 = some (.iaload, 1) := rfl
theorem at_146_16 : ai_at ai_m146 16 = some (.invokevirtual 96, 3) := rfl
theorem at_146_19 : ai_at ai_m146 19 = some (.iconst 1, 1) := rfl
theorem at_146_20 : ai_at ai_m146 20 = some (.isub, 1) := rfl
theorem at_146_21 : ai_at ai_m146 21 = some (.iadd, 1) := rfl
theorem at_146_22 : ai_at ai_m146 22 = some (.istore_n 2, 1) := rfl
theorem at_146_23 : ai_at ai_m146 23 = some (.iinc 3 1, 3) := rfl
theorem at_146_26 : ai_at ai_m146 26 = some (.goto (-22), 3) := rfl
theorem at_146_29 : ai_at ai_m146 29 = some (.iload_n 3, 1) := rfl
theorem at_146_30 : ai_at ai_m146 30 = some (.ireturn, 1) := rfl
theorem fl_12_49 : ai_fld 12 49 = some (11, 21, false) := by decide +kernel
theorem fl_12_52 : ai_fld 12 52 = some (11, 22, false) := by decide +kernel
theorem fl_12_58 : ai_fld 12 58 = some (11, 24, false) := by decide +kernel
theorem mt_12_175 : ai_mth 12 175 = some (0, 144, 1, 11) := by decide +kernel
theorem mt_12_178 : ai_mth 12 178 = some (0, 146, 1, 11) := by decide +kernel
set_option maxHeartbeats 2000000 in
theorem r_m_eic1 {p k : Nat} (h : mst S T D n rc wt kp sx sc (mrw F G O U) B) (hP : ∀ i, -1 ≤ F 0 i ∧ F 0 i ≤ 2) (hx : xr (F 13)) (hk : p + k ≤ 128) (hall : ∀ j, j < k → 0 < nd (F 0) (F 13) p j) (hend : nd (F 0) (F 13) p k = 0) : ∀ (m j : Nat), j + m = k → ai_aw L xs (d + 1) ai_m146 (fun (o : ai_O) => ∃ v S', o = (.inl v, S') ∧ S' = S ∧ v = some (ax_i ((p + k : Nat) : Int))) (4, [some (.ref 432), some (ax_i (p : Nat)), some (ax_i (nd (F 0) (F 13) p j)), some (ax_i ((p + j : Nat) : Int))], [], S) := by
  have ho := h.1
  have r0 : ai_arr S 433 0 = some (8, ax_f ((mrw F G O U) 0)) := h.2.1 0 (by decide)
  rw [show (mrw F G O U) 0 = F 0 from mrw_ne (by decide) (by decide) (by decide)] at r0
  have r13 : ai_arr S 446 0 = some (128, ax_f ((mrw F G O U) 13)) := h.2.1 13 (by decide)
  rw [show (mrw F G O U) 13 = F 13 from mrw_ne (by decide) (by decide) (by decide)] at r13
  intro m
  induction m with
  | zero =>
    intro j hj
    obtain rfl : j = k := by omega
    rw [hend]
    refine aw_loc at_146_4 rfl rfl ?_
    refine ax_if_le at_146_5 ⟨by decide, by decide⟩ (fun _ => ?_) (fun z => absurd z (by decide))
    show ai_aw L xs (d + 1) ai_m146 _ (29, _, _, _)
    refine aw_loc at_146_29 rfl rfl ?_
    exact ax_ret at_146_30 rfl ⟨_, _, rfl, rfl, rfl⟩
  | succ m ih =>
    intro j hj
    have h1 := hall j (by omega)
    have hr := nd_in (X := F 13) hP p j
    have hx1 := hx (p + j)
    have ha := ar_in hP (F 13 (p + j))
    refine aw_loc at_146_4 rfl rfl ?_
    refine ax_if_le at_146_5 ⟨by omega, by omega⟩ (fun z => absurd z (by omega)) (fun _ => ?_)
    refine aw_loc at_146_8 rfl rfl ?_
    refine aw_loc at_146_9 rfl rfl ?_
    refine aw_loc at_146_10 rfl rfl ?_
    refine aw_get at_146_11 rfl fl_12_49 ho rfl ?_
    refine aw_loc at_146_14 rfl rfl ?_
    refine ax_ild at_146_15 rfl r13 (k := p + j) (by omega) (by omega) (by decide) ?_
    refine aw_cv (a := 432) [ax_i (F 13 (p + j))] [ax_i (nd (F 0) (F 13) p j)] at_146_16 mt_12_96 (Or.inl rfl) rfl rfl (Nat.le_of_ble_eq_true rfl) ⟨_, ho⟩ ((r_m_places ho r0 hx1).mono ?_)
    rintro v S0 ⟨hS, rfl⟩
    have hS2 := hS.symm
    subst hS2
    refine aw_pure (st' := ax_i (1) :: _) at_146_19 rfl rfl ?_
    refine ax_sub at_146_20 rfl ?_
    refine ax_add at_146_21 rfl ?_
    refine aw_loc at_146_22 rfl rfl ?_
    refine ax_inc at_146_23 rfl rfl rfl ?_
    refine aw_goto at_146_26 ?_
    have := ih (j + 1) (by omega)
    rw [show nd (F 0) (F 13) p (j + 1) = nd (F 0) (F 13) p j + (ar (F 0) (F 13 (p + j)) - 1) by show nd (F 0) (F 13) p j + ar (F 0) (F 13 (p + j)) - 1 = _; omega, show ((p + (j + 1) : Nat) : Int) = ((p + j : Nat) : Int) + 1 by omega] at this
    exact this
theorem r_m_eic0 {p k : Nat} (h : mst S T D n rc wt kp sx sc (mrw F G O U) B) (hP : ∀ i, -1 ≤ F 0 i ∧ F 0 i ≤ 2) (hx : xr (F 13)) (hk : p + k ≤ 128) (hall : ∀ j, j < k → 0 < nd (F 0) (F 13) p j) (hend : nd (F 0) (F 13) p k = 0) : ai_rn L xs (d + 2) 146 [.ref 432, ax_i (p : Nat)] S (fun v S' => S' = S ∧ v = some (ax_i ((p + k : Nat) : Int))) := by
  refine ai_rn_of (M := ai_m146) rfl (by decide) (Nat.le_of_ble_eq_true rfl) ?_
  refine aw_pure (st' := ax_i (1) :: _) at_146_0 rfl rfl ?_
  refine aw_loc at_146_1 rfl rfl ?_
  refine aw_loc at_146_2 rfl rfl ?_
  refine aw_loc at_146_3 rfl rfl ?_
  exact r_m_eic1 h hP hx hk hall hend k 0 (by omega)
theorem r_m_eic {p : Nat} (h : mst S T D n rc wt kp sx sc (mrw F G O U) B) (hP : ∀ i, -1 ≤ F 0 i ∧ F 0 i ≤ 2) (hx : xr (F 13)) (he : mle (F 0) (F 13) en p) : ai_rn L xs (d + 2) 146 [.ref 432, ax_i (p : Nat)] S (fun v S' => S' = S ∧ v = some (ax_i (en p : Nat))) := by
  have := r_m_eic0 (L := L) (xs := xs) (d := d) (p := p) (k := en p - p) h hP hx (by have := he.1; omega) he.2.1 he.2.2
  rw [show p + (en p - p) = en p by have := he.1; omega] at this
  exact this
set_option maxHeartbeats 4000000 in
theorem r_m_fol1 {p0 : Nat} {rk : Int → Nat} {Q : ai_O → Prop} (h : mst S T D n rc wt kp sx sc (mrw F G O U) B) (hc : mlc A (F 0) (F 13) Dm Y en Tm) (hg : mld Dm Y G ld rk) : ∀ (m p : Nat), mlf (F 0) (F 13) Y p → (117 ≤ Y p → rk (Y p) < m) → (∀ q : Nat, fgo A Dm Y Tm ld p q → Q (.inl (some (ax_i (q : Nat))), S)) → ai_aw L xs d ai_m144 Q (2, [some (.ref 432), some (ax_i (p0 : Nat)), some (ax_i (p : Nat))], [], S) := by
  have ho := h.1
  have r13 : ai_arr S 446 0 = some (128, ax_f ((mrw F G O U) 13)) := h.2.1 13 (by decide)
  rw [show (mrw F G O U) 13 = F 13 from mrw_ne (by decide) (by decide) (by decide)] at r13
  have r14 : ai_arr S 447 0 = some (20, ax_f ((mrw F G O U) 14)) := h.2.1 14 (by decide)
  rw [show (mrw F G O U) 14 = G from mrw_14] at r14
  have hA := hc.1.2.2
  intro m
  induction m with
  | zero =>
    intro p hf hr hq
    have hn := co_in hf.2.1
    have hp9 := hf.1
    have hL := kn_lt hf.2.1
    have kx : (Y p < 117 ∨ ld (Y p) = none) → ai_aw L xs d ai_m144 Q (48, [some (.ref 432), some (ax_i (p0 : Nat)), some (ax_i (p : Nat))], [], S) := by
      intro hy
      refine aw_loc at_144_48 rfl rfl ?_
      exact ax_ret at_144_49 rfl (hq p (Or.inl ⟨rfl, hy⟩))
    refine aw_loc at_144_2 rfl rfl ?_
    refine aw_get at_144_3 rfl fl_12_49 ho rfl ?_
    refine aw_loc at_144_6 rfl rfl ?_
    refine ax_ild at_144_7 rfl r13 (k := p) rfl (by omega) (by decide) ?_
    rw [hf.2.2]
    refine aw_pure (st' := ax_i (8) :: _) at_144_8 rfl rfl ?_
    refine ax_icmp_lt at_144_10 ⟨by omega, by omega⟩ ⟨by omega, by omega⟩ (fun z => kx (Or.inl (by omega))) (fun z => absurd (hr (by omega)) (by omega))
  | succ m ih =>
    intro p hf hr hq
    have hn := co_in hf.2.1
    have hp9 := hf.1
    have hL := kn_lt hf.2.1
    have kx : (Y p < 117 ∨ ld (Y p) = none) → ai_aw L xs d ai_m144 Q (48, [some (.ref 432), some (ax_i (p0 : Nat)), some (ax_i (p : Nat))], [], S) := by
      intro hy
      refine aw_loc at_144_48 rfl rfl ?_
      exact ax_ret at_144_49 rfl (hq p (Or.inl ⟨rfl, hy⟩))
    refine aw_loc at_144_2 rfl rfl ?_
    refine aw_get at_144_3 rfl fl_12_49 ho rfl ?_
    refine aw_loc at_144_6 rfl rfl ?_
    refine ax_ild at_144_7 rfl r13 (k := p) rfl (by omega) (by decide) ?_
    rw [hf.2.2]
    refine aw_pure (st' := ax_i (8) :: _) at_144_8 rfl rfl ?_
    refine ax_icmp_lt at_144_10 ⟨by omega, by omega⟩ ⟨by omega, by omega⟩ (fun z => kx (Or.inl (by omega))) (fun z => ?_)
    have hv : 117 ≤ Y p := by omega
    have ecc := co_var hv
    have hg0 := hg.1.1 (Y p - 117).toNat (by omega)
    refine aw_loc at_144_13 rfl rfl ?_
    refine aw_get at_144_14 rfl fl_12_52 ho rfl ?_
    refine aw_loc at_144_17 rfl rfl ?_
    refine aw_get at_144_18 rfl fl_12_49 ho rfl ?_
    refine aw_loc at_144_21 rfl rfl ?_
    refine ax_ild at_144_22 rfl r13 (k := p) rfl (by omega) (by decide) ?_
    rw [hf.2.2]
    refine aw_pure (st' := ax_i (8) :: _) at_144_23 rfl rfl ?_
    refine ax_sub at_144_25 rfl ?_
    rw [ecc]
    refine ax_ild at_144_26 rfl r14 (k := (Y p - 117).toNat) (by omega) (by omega) (by decide) ?_
    rcases hg.1.2 (Y p) hv (by omega) with ⟨e1, e2⟩ | ⟨b, e1, e2⟩
    · skip
      refine ax_if_lt at_144_27 ⟨by omega, by omega⟩ (fun z => kx (Or.inr e1)) (fun z => absurd z (by omega))
    · skip
      refine ax_if_lt at_144_27 ⟨by omega, by omega⟩ (fun z => absurd z (by omega)) (fun z => ?_)
      refine aw_loc at_144_30 rfl rfl ?_
      refine aw_get at_144_31 rfl fl_12_52 ho rfl ?_
      refine aw_loc at_144_34 rfl rfl ?_
      refine aw_get at_144_35 rfl fl_12_49 ho rfl ?_
      refine aw_loc at_144_38 rfl rfl ?_
      refine ax_ild at_144_39 rfl r13 (k := p) rfl (by omega) (by decide) ?_
      rw [hf.2.2]
      refine aw_pure (st' := ax_i (8) :: _) at_144_40 rfl rfl ?_
      refine ax_sub at_144_42 rfl ?_
      rw [ecc]
      refine ax_ild at_144_43 rfl r14 (k := (Y p - 117).toNat) (by omega) (by omega) (by decide) ?_
      rw [e2]
      refine aw_loc at_144_44 rfl rfl ?_
      refine aw_goto at_144_45 ?_
      have hb := hg.2.1 _ _ e1
      have hr1 := hr hv
      refine ih b (hc.2.2.2.2 b hb.2).2.1 (fun hy => by have := hg.2.2 _ _ e1 hy; omega) (fun q hgo => hq q (Or.inr ⟨b, hv, e1, fgo_fol hA hc.2.2.2.1 hb.2 hgo⟩))
theorem r_m_fol {p : Nat} {rk : Int → Nat} (h : mst S T D n rc wt kp sx sc (mrw F G O U) B) (hc : mlc A (F 0) (F 13) Dm Y en Tm) (hg : mld Dm Y G ld rk) (hp : mlf (F 0) (F 13) Y p) : ai_rn L xs (d + 1) 144 [.ref 432, ax_i (p : Nat)] S (fun v S' => S' = S ∧ ∃ q : Nat, v = some (ax_i (q : Nat)) ∧ fgo A Dm Y Tm ld p q) := by
  refine ai_rn_of (M := ai_m144) rfl (by decide) (Nat.le_of_ble_eq_true rfl) ?_
  refine aw_loc at_144_0 rfl rfl ?_
  refine aw_loc at_144_1 rfl rfl ?_
  exact r_m_fol1 h hc hg (rk (Y p) + 1) p hp (fun _ => by omega) (fun q hq => ⟨_, _, rfl, rfl, q, rfl, hq⟩)
/-- places on a stack, the last one first -/
def rsk (X : Nat → Int) (b : Nat) : List Nat → Prop
  | [] => True
  | a :: l => X (b + l.length) = (a : Int) ∧ rsk X b l
theorem rsk_up {X : Nat → Int} {b i : Nat} {v : Int} : ∀ (l : List Nat), (b + l.length ≤ i ∨ i < b) → rsk X b l → rsk (ax_up X i v) b l
  | [], _, _ => True.intro
  | a :: l, hi, h => by
    rw [List.length_cons] at hi
    refine ⟨?_, rsk_up l (by omega) h.2⟩
    unfold ax_up
    rw [if_neg (by omega)]
    exact h.1
theorem rsk_push {X : Nat → Int} {b a : Nat} {l : List Nat} (h : rsk X b l) : rsk (ax_up X (b + l.length) a) b (a :: l) := ⟨if_pos rfl, rsk_up l (by omega) h⟩
/-- what the stack's places come to -/
abbrev wst (Tm : Nat → List Int) (f : Int → List Int) (p : Nat) : List Int := (Tm p).flatMap f
set_option maxHeartbeats 40000000 in
theorem r_m_occ1 {a0 b0 p0 : Nat} {sq : List (Nat × Nat)} {f : Int → List Int} {c : Int} (hc : mlc A (F 0) (F 13) Dm Y en Tm) (hgl : ldr G ld) (hi : ldi A Dm Y Tm a0 b0 ld sq f) (hck : kn (F 0) 129 c) : ∀ (m t : Nat) (l : List (Nat × Nat)) (X : Nat → Int) (S1 : ai_S) (x4 x5 : Option Value), ((t :: l.map Prod.fst).flatMap (wst Tm f)).length ≤ m → Dm t → skk Dm (wst Tm f) (wst Tm f t) l → (∀ q, q ∈ l → Dm q.1) → rsk X 300 (t :: l.map Prod.fst) → (∀ j, j < 300 → X j = U j) → fr 432 452 S S1 → mst S1 T D n rc wt kp sx sc (mrw F G O X) B → (c ∈ wst Tm f p0 ↔ c ∈ (t :: l.map Prod.fst).flatMap (wst Tm f)) → ai_aw L xs (d + 2) ai_m145 (fun (o : ai_O) => ∃ v S', o = (.inl v, S') ∧ fr 432 452 S S' ∧ ∃ X, mst S' T D n rc wt kp sx sc (mrw F G O X) B ∧ (∀ j, j < 300 → X j = U j) ∧ ∃ z, v = some (ax_i z) ∧ bz z (c ∈ wst Tm f p0)) (11, [some (.ref 432), some (ax_i (co c)), some (ax_i (p0 : Nat)), some (ax_i (l.length + 1 : Nat)), x4, x5], [], S1) := by
  have hA := hc.1.2.2
  have htp := hc.2.2.2.1
  obtain ⟨rk, hrk⟩ := hi.2.2.2.2.2
  have hg : mld Dm Y G ld rk := ⟨hgl, hi.1.2.2.2, hrk⟩
  have kend : ∀ (X : Nat → Int) (S1 : ai_S) (x4 x5 : Option Value), fr 432 452 S S1 → mst S1 T D n rc wt kp sx sc (mrw F G O X) B → (∀ j, j < 300 → X j = U j) → c ∉ wst Tm f p0 → ai_aw L xs (d + 2) ai_m145 (fun (o : ai_O) => ∃ v S', o = (.inl v, S') ∧ fr 432 452 S S' ∧ ∃ X, mst S' T D n rc wt kp sx sc (mrw F G O X) B ∧ (∀ j, j < 300 → X j = U j) ∧ ∃ z, v = some (ax_i z) ∧ bz z (c ∈ wst Tm f p0)) (11, [some (.ref 432), some (ax_i (co c)), some (ax_i (p0 : Nat)), some (ax_i (0 : Nat)), x4, x5], [], S1) := by
    intro X S1 x4 x5 f1 h1 hu hno
    refine aw_loc at_145_11 rfl rfl ?_
    refine ax_if_le at_145_12 ⟨by decide, by decide⟩ (fun _ => ?_) (fun z => absurd z (by decide))
    show ai_aw L xs (d + 2) ai_m145 _ (108, _, _, _)
    refine aw_pure (st' := ax_i (0) :: _) at_145_108 rfl rfl ?_
    exact ax_retZ at_145_109 rfl (Or.inl rfl) ⟨_, _, rfl, f1, X, h1, hu, 0, rfl, Or.inl ⟨rfl, hno⟩⟩
  intro m
  induction m with
  | zero =>
    intro t l X S1 x4 x5 hm hD hk hl hs hu f1 h1 hin
    have := List.length_pos_iff.2 (ts_ne (gs_ts hA hi.1.1 (htp.2.2 t hD)))
    rw [List.flatMap_cons, List.length_append] at hm
    have hm2 : (wst Tm f t).length = ((Tm t).flatMap f).length := rfl
    omega
  | succ m ih =>
    intro t l X S1 x4 x5 hm hD hk hl hs hu f1 h1 hin
    have hlen := skk_few (fun i hi => (hc.2.2.2.2 i hi).1) hk
    have hs1 : X (300 + (l.map Prod.fst).length) = (t : Int) := hs.1
    rw [List.length_map] at hs1
    have ho := h1.1
    have r13 : ai_arr S1 446 0 = some (128, ax_f ((mrw F G O X) 13)) := h1.2.1 13 (by decide)
    rw [show (mrw F G O X) 13 = F 13 from mrw_ne (by decide) (by decide) (by decide)] at r13
    have r16 : ai_arr S1 449 0 = some (400, ax_f ((mrw F G O X) 16)) := h1.2.1 16 (by decide)
    rw [show (mrw F G O X) 16 = X from mrw_16] at r16
    rw [show ((l.length + 1 : Nat) : Int) = (l.length : Int) + 1 by omega]
    refine aw_loc at_145_11 rfl rfl ?_
    refine ax_if_le at_145_12 ⟨by omega, by omega⟩ (fun z => absurd z (by omega)) (fun _ => ?_)
    refine ax_inc at_145_15 rfl rfl rfl ?_
    rw [show (l.length : Int) + 1 + -1 = (l.length : Int) by omega]
    refine aw_loc at_145_18 rfl rfl ?_
    refine aw_loc at_145_19 rfl rfl ?_
    refine aw_get at_145_20 rfl fl_12_58 ho rfl ?_
    refine aw_pure (st' := ax_i (300) :: _) at_145_23 rfl rfl ?_
    refine aw_loc at_145_26 rfl rfl ?_
    refine ax_add at_145_27 rfl ?_
    refine ax_ild at_145_28 rfl r16 (k := 300 + l.length) (by omega) (by omega) (by decide) ?_
    rw [hs1]
    refine aw_cv (a := 432) [ax_i (t : Nat)] [] at_145_29 mt_12_175 (Or.inl rfl) rfl rfl (Nat.le_of_ble_eq_true rfl) ⟨_, ho⟩ ((r_m_fol (d := d + 1) h1 hc hg (hc.2.2.2.2 t hD).2.1).mono ?_)
    rintro v S0 ⟨hS, y, rfl, hgo⟩
    have hS2 := hS.symm
    subst hS2
    have hf := fgo_fol hA htp hD hgo
    have hDy := hf.1
    have hly := (hc.2.2.2.2 y hDy).2.1
    have hn := co_in hly.2.1
    have hy9 := hly.1
    have hcc := co_in hck
    have hW : wst Tm f t = Y y :: (List.range (A (Y y))).flatMap fun k => wst Tm f (chp en y k) := by rw [← fol_put hA htp hi hf]; exact (hf.2.2.1 f hi.1.1 hi.1.2.1).symm
    have hWy : wst Tm f y = wst Tm f t := hf.2.2.1 f hi.1.1 hi.1.2.1
    refine aw_loc at_145_32 rfl rfl ?_
    refine aw_loc at_145_34 rfl rfl ?_
    refine aw_get at_145_35 rfl fl_12_49 ho rfl ?_
    refine aw_loc at_145_38 rfl rfl ?_
    refine ax_ild at_145_40 rfl r13 (k := y) rfl (by omega) (by decide) ?_
    rw [hly.2.2]
    refine aw_loc at_145_41 rfl rfl ?_
    refine ax_icmp_ne at_145_42 ⟨by omega, by omega⟩ ⟨by omega, by omega⟩ (fun hne => ?_) (fun he => ?_)
    · skip
      have hYc : c ≠ Y y := fun e => hne (by rw [e])
      refine aw_pure (st' := ax_i (0) :: _) at_145_47 rfl rfl ?_
      refine aw_loc at_145_48 rfl rfl ?_
      have hA2 := hc.2.2.1 (Y y)
      have har := ar_co hc.1.2 hly.2.1
      have kpush : ∀ (k : Nat) (st : List Nat) (X2 : Nat → Int) (S2 : ai_S), k < A (Y y) → st.length < 90 → rsk X2 300 st → (∀ j, j < 300 → X2 j = U j) → fr 432 452 S S2 → mst S2 T D n rc wt kp sx sc (mrw F G O X2) B → (∀ (X3 : Nat → Int) (S3 : ai_S), rsk X3 300 (chp en y k :: st) → (∀ j, j < 300 → X3 j = U j) → fr 432 452 S S3 → mst S3 T D n rc wt kp sx sc (mrw F G O X3) B → ai_aw L xs (d + 2) ai_m145 (fun (o : ai_O) => ∃ v S', o = (.inl v, S') ∧ fr 432 452 S S' ∧ ∃ X, mst S' T D n rc wt kp sx sc (mrw F G O X) B ∧ (∀ j, j < 300 → X j = U j) ∧ ∃ z, v = some (ax_i z) ∧ bz z (c ∈ wst Tm f p0)) (50, [some (.ref 432), some (ax_i (co c)), some (ax_i (p0 : Nat)), some (ax_i (st.length + 1 : Nat)), some (ax_i (y : Nat)), some (ax_i (k + 1 : Nat))], [], S3)) → ai_aw L xs (d + 2) ai_m145 (fun (o : ai_O) => ∃ v S', o = (.inl v, S') ∧ fr 432 452 S S' ∧ ∃ X, mst S' T D n rc wt kp sx sc (mrw F G O X) B ∧ (∀ j, j < 300 → X j = U j) ∧ ∃ z, v = some (ax_i z) ∧ bz z (c ∈ wst Tm f p0)) (50, [some (.ref 432), some (ax_i (co c)), some (ax_i (p0 : Nat)), some (ax_i (st.length : Nat)), some (ax_i (y : Nat)), some (ax_i (k : Nat))], [], S2) := by
        intro k st X2 S2 hk9 hst hs2 hu2 f2 h2 kk
        have ho := h2.1
        have r0 : ai_arr S2 433 0 = some (8, ax_f ((mrw F G O X2) 0)) := h2.2.1 0 (by decide)
        rw [show (mrw F G O X2) 0 = F 0 from mrw_ne (by decide) (by decide) (by decide)] at r0
        have r13 : ai_arr S2 446 0 = some (128, ax_f ((mrw F G O X2) 13)) := h2.2.1 13 (by decide)
        rw [show (mrw F G O X2) 13 = F 13 from mrw_ne (by decide) (by decide) (by decide)] at r13
        have r16 : ai_arr S2 449 0 = some (400, ax_f ((mrw F G O X2) 16)) := h2.2.1 16 (by decide)
        rw [show (mrw F G O X2) 16 = X2 from mrw_16] at r16
        have hDk := htp.1 y hDy k hk9
        have hD0 := htp.1 y hDy 0 (by omega)
        have hDk9 := (hc.2.2.2.2 _ hDk).1
        refine aw_loc at_145_50 rfl rfl ?_
        refine aw_loc at_145_52 rfl rfl ?_
        refine aw_loc at_145_53 rfl rfl ?_
        refine aw_get at_145_54 rfl fl_12_49 ho rfl ?_
        refine aw_loc at_145_57 rfl rfl ?_
        refine ax_ild at_145_59 rfl r13 (k := y) rfl (by omega) (by decide) ?_
        rw [hly.2.2]
        refine aw_cv (a := 432) [ax_i (co (Y y))] [ax_i (k : Nat)] at_145_60 mt_12_96 (Or.inl rfl) rfl rfl (Nat.le_of_ble_eq_true rfl) ⟨_, ho⟩ ((r_m_places ho r0 (by omega)).mono ?_)
        rintro v S0 ⟨hS, rfl⟩
        have hS2 := hS.symm
        subst hS2
        rw [har]
        refine ax_icmp_ge at_145_63 ⟨by omega, by omega⟩ ⟨by omega, by omega⟩ (fun z => absurd z (by omega)) (fun _ => ?_)
        refine aw_loc at_145_66 rfl rfl ?_
        refine aw_get at_145_67 rfl fl_12_58 ho rfl ?_
        refine aw_pure (st' := ax_i (300) :: _) at_145_70 rfl rfl ?_
        refine aw_loc at_145_73 rfl rfl ?_
        refine ax_add at_145_74 rfl ?_
        refine aw_loc at_145_75 rfl rfl ?_
        have kst : ai_aw L xs (d + 2) ai_m145 (fun (o : ai_O) => ∃ v S', o = (.inl v, S') ∧ fr 432 452 S S' ∧ ∃ X, mst S' T D n rc wt kp sx sc (mrw F G O X) B ∧ (∀ j, j < 300 → X j = U j) ∧ ∃ z, v = some (ax_i z) ∧ bz z (c ∈ wst Tm f p0)) (95, [some (.ref 432), some (ax_i (co c)), some (ax_i (p0 : Nat)), some (ax_i (st.length : Nat)), some (ax_i (y : Nat)), some (ax_i (k : Nat))], [ax_i (chp en y k : Nat), ax_i (300 + (st.length : Int)), .ref 449], S2) := by
          refine ax_ist (k := 300 + st.length) at_145_95 rfl r16 (by omega) (by omega) (by decide) ?_
          have h3 : mst (ai_wr S2 449 (.inl (0, ai_I 400 (ax_f (ax_up X2 (300 + st.length) (chp en y k : Nat)))))) T D n rc wt kp sx sc (mrw F G O (ax_up X2 (300 + st.length) (chp en y k : Nat))) B := mst_w16 h2
          refine ax_inc at_145_96 rfl rfl rfl ?_
          refine ax_inc at_145_99 rfl rfl rfl ?_
          refine aw_goto at_145_102 ?_
          have := kk _ _ (rsk_push hs2) (fun j hj => by unfold ax_up; rw [if_neg (by omega)]; exact hu2 j hj) (f2.tr (fr_md (by decide) (by decide))) h3
          rw [Int.natCast_add, Int.natCast_add] at this
          exact this
        by_cases hk0 : k = 0
        · skip
          subst hk0
          refine ax_if_ne at_145_77 ⟨by decide, by decide⟩ (fun z => absurd rfl z) (fun _ => ?_)
          refine aw_loc at_145_80 rfl rfl ?_
          refine aw_pure (st' := ax_i (1) :: _) at_145_82 rfl rfl ?_
          refine ax_add at_145_83 rfl ?_
          refine aw_goto at_145_84 ?_
          rw [show (y : Int) + 1 = ((chp en y 0 : Nat) : Int) by show (y : Int) + 1 = ((y + 1 : Nat) : Int); omega]
          exact kst
        · skip
          refine ax_if_ne at_145_77 ⟨by omega, by omega⟩ (fun _ => ?_) (fun z => absurd z (by omega))
          refine aw_loc at_145_87 rfl rfl ?_
          refine aw_loc at_145_88 rfl rfl ?_
          refine aw_pure (st' := ax_i (1) :: _) at_145_90 rfl rfl ?_
          refine ax_add at_145_91 rfl ?_
          rw [show (y : Int) + 1 = ((y + 1 : Nat) : Int) by omega]
          refine aw_cv (a := 432) [ax_i ((y + 1 : Nat) : Int)] [ax_i (300 + (st.length : Int)), .ref 449] at_145_92 mt_12_178 (Or.inl rfl) rfl rfl (Nat.le_of_ble_eq_true rfl) ⟨_, ho⟩ ((r_m_eic (en := en) (d := d) h2 hc.1.1 hc.2.1 (hc.2.2.2.2 _ hD0).2.2).mono ?_)
          rintro v S0 ⟨hS, rfl⟩
          have hS2 := hS.symm
          subst hS2
          rw [show en (chp en y 0) = chp en y k from (if_neg hk0).symm]
          exact kst
      have kex : ∀ (k : Nat) (st : List Nat) (X2 : Nat → Int) (S2 : ai_S), k = A (Y y) → fr 432 452 S S2 → mst S2 T D n rc wt kp sx sc (mrw F G O X2) B → ai_aw L xs (d + 2) ai_m145 (fun (o : ai_O) => ∃ v S', o = (.inl v, S') ∧ fr 432 452 S S' ∧ ∃ X, mst S' T D n rc wt kp sx sc (mrw F G O X) B ∧ (∀ j, j < 300 → X j = U j) ∧ ∃ z, v = some (ax_i z) ∧ bz z (c ∈ wst Tm f p0)) (11, [some (.ref 432), some (ax_i (co c)), some (ax_i (p0 : Nat)), some (ax_i (st.length : Nat)), some (ax_i (y : Nat)), some (ax_i (k : Nat))], [], S2) → ai_aw L xs (d + 2) ai_m145 (fun (o : ai_O) => ∃ v S', o = (.inl v, S') ∧ fr 432 452 S S' ∧ ∃ X, mst S' T D n rc wt kp sx sc (mrw F G O X) B ∧ (∀ j, j < 300 → X j = U j) ∧ ∃ z, v = some (ax_i z) ∧ bz z (c ∈ wst Tm f p0)) (50, [some (.ref 432), some (ax_i (co c)), some (ax_i (p0 : Nat)), some (ax_i (st.length : Nat)), some (ax_i (y : Nat)), some (ax_i (k : Nat))], [], S2) := by
        intro k st X2 S2 hk9 f2 h2 kk
        have ho := h2.1
        have r0 : ai_arr S2 433 0 = some (8, ax_f ((mrw F G O X2) 0)) := h2.2.1 0 (by decide)
        rw [show (mrw F G O X2) 0 = F 0 from mrw_ne (by decide) (by decide) (by decide)] at r0
        have r13 : ai_arr S2 446 0 = some (128, ax_f ((mrw F G O X2) 13)) := h2.2.1 13 (by decide)
        rw [show (mrw F G O X2) 13 = F 13 from mrw_ne (by decide) (by decide) (by decide)] at r13
        refine aw_loc at_145_50 rfl rfl ?_
        refine aw_loc at_145_52 rfl rfl ?_
        refine aw_loc at_145_53 rfl rfl ?_
        refine aw_get at_145_54 rfl fl_12_49 ho rfl ?_
        refine aw_loc at_145_57 rfl rfl ?_
        refine ax_ild at_145_59 rfl r13 (k := y) rfl (by omega) (by decide) ?_
        rw [hly.2.2]
        refine aw_cv (a := 432) [ax_i (co (Y y))] [ax_i (k : Nat)] at_145_60 mt_12_96 (Or.inl rfl) rfl rfl (Nat.le_of_ble_eq_true rfl) ⟨_, ho⟩ ((r_m_places ho r0 (by omega)).mono ?_)
        rintro v S0 ⟨hS, rfl⟩
        have hS2 := hS.symm
        subst hS2
        rw [har]
        refine ax_icmp_ge at_145_63 ⟨by omega, by omega⟩ ⟨by omega, by omega⟩ (fun _ => ?_) (fun z => absurd z (by omega))
        show ai_aw L xs (d + 2) ai_m145 _ (105, _, _, _)
        exact aw_goto at_145_105 kk
      have hsl : (l.map Prod.fst).length = l.length := List.length_map _
      have hin' : c ∈ wst Tm f p0 ↔ c ∈ ((List.range (A (Y y))).flatMap fun k => wst Tm f (chp en y k)) ++ (l.map Prod.fst).flatMap (wst Tm f) := by
        rw [hin, List.flatMap_cons, hW, List.cons_append]
        exact ⟨fun g => (List.mem_cons.1 g).resolve_left hYc, fun g => List.mem_cons_of_mem _ g⟩
      have hm' : (((List.range (A (Y y))).flatMap fun k => wst Tm f (chp en y k)) ++ (l.map Prod.fst).flatMap (wst Tm f)).length ≤ m := by
        rw [List.flatMap_cons, hW, List.cons_append, List.length_cons] at hm; omega
      have hinc : ∀ k, k < A (Y y) → ins (wst Tm f (chp en y k)) (wst Tm f t) := fun k hk => by rw [← hWy]; exact ins_ch hA htp hi.1.1 hDy hk
      have hDk : ∀ k, k < A (Y y) → Dm (chp en y k) := fun k hk => htp.1 y hDy k hk
      obtain h0 | h0 | h0 : A (Y y) = 0 ∨ A (Y y) = 1 ∨ A (Y y) = 2 := by omega
      · rw [h0] at hin' hm'
        have kk := kex 0 (l.map Prod.fst) X S1 h0.symm f1 h1
        rw [hsl] at kk
        refine kk ?_
        cases l with
        | nil => exact kend X S1 _ _ f1 h1 hu (fun g => by cases hin'.1 g)
        | cons q l => exact ih q.1 l X S1 _ _ hm' (hl q (List.mem_cons_self ..)) (skk_in l _ _ (fun w hw => ins_trans hk.2.2.1 hw) hk.2.2.2) (fun q hq => hl q (List.mem_cons_of_mem _ hq)) hs.2 hu f1 h1 hin'
      · rw [h0] at hin' hm'
        have kp := kpush 0 (l.map Prod.fst) X S1 (by omega) (by omega) hs.2 hu f1 h1
        rw [hsl] at kp
        refine kp fun X3 S3 g1 g2 g3 g4 => ?_
        have kk := kex 1 (chp en y 0 :: l.map Prod.fst) X3 S3 h0.symm g3 g4
        rw [List.length_cons, hsl] at kk
        refine kk ?_
        exact ih (chp en y 0) l X3 S3 _ _ (by rw [List.flatMap_cons]; simpa using hm') (hDk 0 (by omega)) (skk_in l _ _ (fun w hw => ins_trans (hinc 0 (by omega)) hw) hk) hl g1 g2 g3 g4 (by rw [List.flatMap_cons]; simpa using hin')
      · rw [h0] at hin' hm'
        have kp := kpush 0 (l.map Prod.fst) X S1 (by omega) (by omega) hs.2 hu f1 h1
        rw [hsl] at kp
        refine kp fun X3 S3 g1 g2 g3 g4 => ?_
        have kp2 := kpush 1 (chp en y 0 :: l.map Prod.fst) X3 S3 (by omega) (by rw [List.length_cons]; omega) g1 g2 g3 g4
        rw [List.length_cons, hsl] at kp2
        refine kp2 fun X4 S4 e1 e2 e3 e4 => ?_
        have kk := kex 2 (chp en y 1 :: chp en y 0 :: l.map Prod.fst) X4 S4 h0.symm e3 e4
        rw [List.length_cons, List.length_cons, hsl] at kk
        refine kk ?_
        have hfl : ∀ x, x ∈ ((List.range 2).flatMap fun k => wst Tm f (chp en y k)) ++ (l.map Prod.fst).flatMap (wst Tm f) ↔ x ∈ (chp en y 1 :: ((chp en y 0, y) :: l).map Prod.fst).flatMap (wst Tm f) := by
          intro x
          show x ∈ (wst Tm f (chp en y 0) ++ (wst Tm f (chp en y 1) ++ [])) ++ _ ↔ x ∈ wst Tm f (chp en y 1) ++ (wst Tm f (chp en y 0) ++ _)
          simp only [List.mem_append, List.append_nil]
          exact ⟨fun g => g.elim (fun g => g.elim (fun g => Or.inr (Or.inl g)) Or.inl) (fun g => Or.inr (Or.inr g)), fun g => g.elim (fun g => Or.inl (Or.inr g)) (fun g => g.elim (fun g => Or.inl (Or.inl g)) Or.inr)⟩
        have hfm : ((chp en y 1 :: ((chp en y 0, y) :: l).map Prod.fst).flatMap (wst Tm f)).length ≤ m := by
          have : ((List.range 2).flatMap fun k => wst Tm f (chp en y k)) = wst Tm f (chp en y 0) ++ (wst Tm f (chp en y 1) ++ []) := rfl
          rw [this, List.append_nil, List.length_append, List.length_append] at hm'
          show (wst Tm f (chp en y 1) ++ (wst Tm f (chp en y 0) ++ (l.map Prod.fst).flatMap (wst Tm f))).length ≤ m
          rw [List.length_append, List.length_append]
          omega
        exact ih (chp en y 1) ((chp en y 0, y) :: l) X4 S4 _ _ hfm (hDk 1 (by omega)) ⟨hDy, by rw [hWy]; exact hinc 1 (by omega), by rw [hWy]; exact hinc 0 (by omega), by rw [hWy]; exact hk⟩ (fun q hq => by rcases List.mem_cons.1 hq with rfl | hq; exact hDk 0 (by omega); exact hl q hq) e1 e2 e3 e4 (hin'.trans (hfl c))
    · skip
      refine aw_pure (st' := ax_i (1) :: _) at_145_45 rfl rfl ?_
      exact ax_retZ at_145_46 rfl (Or.inr rfl) ⟨_, _, rfl, f1, X, h1, hu, 1, rfl, Or.inr ⟨rfl, hin.2 (List.mem_append_left _ (by rw [hW, co_inj hly.2.1 hck he]; exact List.mem_cons_self ..))⟩⟩
set_option maxHeartbeats 4000000 in
theorem r_m_occ {a0 b0 p0 : Nat} {sq : List (Nat × Nat)} {f : Int → List Int} {c : Int} (h : mst S T D n rc wt kp sx sc (mrw F G O U) B) (hc : mlc A (F 0) (F 13) Dm Y en Tm) (hgl : ldr G ld) (hi : ldi A Dm Y Tm a0 b0 ld sq f) (hck : kn (F 0) 129 c) (hp : Dm p0) : ai_rn L xs (d + 3) 145 [.ref 432, ax_i (co c), ax_i (p0 : Nat)] S (fun v S' => fr 432 452 S S' ∧ ∃ X, mst S' T D n rc wt kp sx sc (mrw F G O X) B ∧ (∀ j, j < 300 → X j = U j) ∧ ∃ z, v = some (ax_i z) ∧ bz z (c ∈ wst Tm f p0)) := by
  have ho := h.1
  have r16 : ai_arr S 449 0 = some (400, ax_f ((mrw F G O U) 16)) := h.2.1 16 (by decide)
  rw [show (mrw F G O U) 16 = U from mrw_16] at r16
  refine ai_rn_of (M := ai_m145) rfl (by decide) (Nat.le_of_ble_eq_true rfl) ?_
  refine aw_pure (st' := ax_i (1) :: _) at_145_0 rfl rfl ?_
  refine aw_loc at_145_1 rfl rfl ?_
  refine aw_loc at_145_2 rfl rfl ?_
  refine aw_get at_145_3 rfl fl_12_58 ho rfl ?_
  refine aw_pure (st' := ax_i (300) :: _) at_145_6 rfl rfl ?_
  refine aw_loc at_145_9 rfl rfl ?_
  refine ax_ist (k := 300) at_145_10 rfl r16 rfl (by decide) (by decide) ?_
  have h3 : mst (ai_wr S 449 (.inl (0, ai_I 400 (ax_f (ax_up U 300 (p0 : Nat)))))) T D n rc wt kp sx sc (mrw F G O (ax_up U 300 (p0 : Nat))) B := mst_w16 h
  exact r_m_occ1 hc hgl hi hck _ p0 [] _ _ _ _ (Nat.le_refl _) hp True.intro (fun q hq => by cases hq) ⟨if_pos rfl, True.intro⟩ (fun j hj => if_neg (by omega)) (fr_md (by decide) (by decide)) h3 (by rw [List.map_nil, List.flatMap_cons, List.flatMap_nil, List.append_nil])
end ML

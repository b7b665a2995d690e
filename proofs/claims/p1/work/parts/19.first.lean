/-! The first call on a fresh object. -/
section FI
variable {L : Nat} {xs : Nat → Int32} {S : ai_S}
theorem prs_wr {fs : List Value} (h : ai_prs S) : ai_prs (ai_wr S 432 (.inr (11, fs))) := by
  obtain ⟨⟨f1, h1⟩, ⟨f2, h2⟩, f3, h3⟩ := h
  exact ⟨⟨f1, (ai_obj_wr (by decide)).trans h1⟩, ⟨fs, ai_obj_wrS (ai_obj_inv h2).1⟩, f3, (ai_arrJ_wr (by decide)).trans h3⟩
theorem prs_off {a : Nat} {x : ai_C} (h : ai_prs S) (h0 : 0 ≠ a) (h1 : 432 ≠ a) (h2 : 452 ≠ a) : ai_prs (ai_wr S a x) := by
  obtain ⟨⟨f1, g1⟩, ⟨f2, g2⟩, f3, g3⟩ := h
  exact ⟨⟨f1, (ai_obj_wr h0).trans g1⟩, ⟨f2, (ai_obj_wr h1).trans g2⟩, f3, (ai_arrJ_wr h2).trans g3⟩
theorem prs_th (h : ai_prs S) : ai_prs (ai_th S) := h
theorem rm_wr {a : Nat} {x : ai_C} (h : p1_rm S) : p1_rm (ai_wr S a x) := h
theorem fr_0 : ai_fo.find? (fun q => decide (q.1 = 0)) = some (0, 0, [.ref 1, .ref 4, .ref 6, .ref 11]) := by decide +kernel
theorem fr_4 : ai_fo.find? (fun q => decide (q.1 = 4)) = some (4, 2, [.ref 5, .int 0]) := by decide +kernel
theorem fr_11 : ai_fo.find? (fun q => decide (q.1 = 11)) = some (11, 5, [.ref 12, .ref 84, .ref 326, .ref 412, .ref 417, .ref 425, .ref 398, .ref 400, .ref 405, .ref 410, .int 0, .int 0]) := by decide +kernel
theorem fr_12 : ai_fo.find? (fun q => decide (q.1 = 12)) = some (12, 6, [.ref 13, .int 0]) := by decide +kernel
theorem fr_84 : ai_fo.find? (fun q => decide (q.1 = 84)) = some (84, 6, [.ref 85, .int 0]) := by decide +kernel
theorem fr_432 : ai_fo.find? (fun q => decide (q.1 = 432)) = some (432, 11, [.int 0, .ref 433, .ref 434, .int 0, .int 0, .ref 435, .int 0, .ref 436, .ref 437, .ref 438, .int 0, .int 0, .ref 439, .ref 440, .ref 441, .int 0, .int 0, .ref 442, .ref 443, .ref 444, .ref 445, .ref 446, .ref 447, .ref 448, .ref 449, .ref 450, .ref 451]) := by decide +kernel
theorem fr_5 : ai_fa.find? (fun q => decide (q.1 = 5)) = some (5, 1, 60, 0) := by decide +kernel
theorem fr_435 : ai_fa.find? (fun q => decide (q.1 = 435)) = some (435, 0, 60, 0) := by decide +kernel
theorem fr_obj {a c : Nat} {fs : List Value} (h : ai_frc S = true) (hf : ai_fo.find? (fun q => decide (q.1 = a)) = some (a, c, fs)) (hl : a < 453) : ai_obj S a c = some fs := by
  obtain ⟨h1, -, -, h4, -⟩ := ai_frc_all h
  exact ai_obj_of (h4 _ (List.mem_of_find?_eq_some hf)) (by rw [h1]; exact hl)
theorem fr_arr {a t n : Nat} {v : Int32} (h : ai_frc S = true) (hf : ai_fa.find? (fun q => decide (q.1 = a)) = some (a, t, n, v)) (hl : a < 453) : ∃ f, ai_arr S a t = some (n, f) ∧ ∀ j, j < n → f j = v := by
  obtain ⟨h1, -, -, -, h5, -⟩ := ai_frc_all h
  obtain ⟨f, hf1, hf2⟩ := h5 _ (List.mem_of_find?_eq_some hf)
  exact ⟨f, ai_arr_of hf1 (by rw [h1]; exact hl), hf2⟩
theorem chr_range (x : Int32) : 0 ≤ (ai_chr x).toInt ∧ (ai_chr x).toInt < 65536 := by
  have h : (x.toUInt32 % 65536).toNat < 65536 := by
    rw [UInt32.toNat_mod]
    exact Nat.mod_lt _ (by decide)
  have h2 : (ai_chr x).toInt = (x.toUInt32 % 65536).toNat := by
    unfold ai_chr
    rw [← Int32.toInt_toBitVec, UInt32.toBitVec_toInt32, BitVec.toInt_eq_toNat_of_lt (by rw [UInt32.toNat_toBitVec]; omega), UInt32.toNat_toBitVec]
  rw [h2]
  omega
theorem i32_is {y : Int32} {lo hi : Nat} (h1 : (lo : Int) ≤ y.toInt) (h2 : y.toInt < hi) : ∃ n : Nat, n < hi - lo ∧ y = Int32.ofNat (lo + n) := by
  have h3 := y.toInt_lt
  refine ⟨y.toInt.toNat - lo, by omega, ?_⟩
  apply Int32.toInt_inj.mp
  rw [Int32.toInt_ofNat_of_lt (by omega)]
  omega
theorem i32_not {a b : Int32} (h : ¬ a < b) : b.toInt ≤ a.toInt := by
  rw [Int32.lt_iff_toInt_lt] at h
  omega
theorem p1_declare (hck : ck_all S = true) (hp : ai_prs S) (hrm : p1_rm S) (hr : p1_rm (ai_th S)) {r : List Value} (hm : ai_obj S 432 11 = some (.int 0 :: r)) (c p : Int32) (hc : 0 ≤ c.toInt ∧ c.toInt < 65536) : ai_opD L xs 12 [.ref 0, .int c, .int p] [.ref 432, .int c, .int p] p1_rm S := by
  by_cases hb : c < 97 ∨ 104 < c ∨ p < 0 ∨ 2 < p
  · refine (r_h_declare_bad (d := 10) hb hp.1).mono ?_
    rintro v S1 ⟨rfl, rfl⟩
    have hl := (ai_obj_inv hm).1
    refine ⟨prs_th hp, (r_m_declare_bad (d := 10) (S := ai_th S) hc hb hm hl).mono ?_⟩
    rintro w S2 ⟨rfl, rfl⟩
    have hm2 : ai_obj (ai_wr (ai_th S) 432 (.inr (11, .int 1 :: r))) 432 11 = some (.int 1 :: r) := ai_obj_wrS hl
    refine ⟨prs_wr (prs_th hp), (r_thrown (d := 11) hm2).mono ?_⟩
    rintro u S3 ⟨rfl, rfl⟩
    exact ⟨prs_wr (prs_th hp), 1, rfl, rfl, rfl, hr⟩
  · have h1 := i32_not (fun z => hb (Or.inl z))
    have h2 := i32_not (fun z => hb (Or.inr (Or.inl z)))
    have h3 := i32_not (fun z => hb (Or.inr (Or.inr (Or.inl z))))
    have h4 := i32_not (fun z => hb (Or.inr (Or.inr (Or.inr z))))
    rw [show (97 : Int32).toInt = 97 from rfl] at h1
    rw [show (104 : Int32).toInt = 104 from rfl] at h2
    rw [show (0 : Int32).toInt = 0 from rfl] at h3
    rw [show (2 : Int32).toInt = 2 from rfl] at h4
    obtain ⟨i, hi, rfl⟩ := i32_is (lo := 97) (hi := 105) h1 (by omega)
    obtain ⟨j, hj, rfl⟩ := i32_is (lo := 0) (hi := 3) h3 (by omega)
    rw [Nat.zero_add]
    unfold ck_all at hck
    simp only [Bool.and_eq_true, List.all_eq_true, List.mem_range] at hck
    exact ck_opD_ok (hck.2 i (by omega) j (by omega))
theorem p1_complete (hck : ck_all S = true) (hp : ai_prs S) (hr : p1_rm (ai_th S)) {r : List Value} (hm : ai_obj S 432 11 = some (.int 0 :: r)) (c : Int32) : ai_opT L xs 12 93 112 [.ref 0, .int c, .ref 452] [.ref 432, .int c] p1_rm S := by
  by_cases hb : c < 0 ∨ 20 < c
  · refine (r_h_complete_bad (d := 10) hb hp.1).mono ?_
    rintro v S1 ⟨rfl, rfl⟩
    have hl := (ai_obj_inv hm).1
    refine ⟨prs_th hp, (r_m_complete_bad (d := 10) (S := ai_th S) hb hm hl).mono ?_⟩
    rintro w S2 ⟨rfl, rfl⟩
    have hm2 : ai_obj (ai_wr (ai_th S) 432 (.inr (11, .int 1 :: r))) 432 11 = some (.int 1 :: r) := ai_obj_wrS hl
    refine ⟨prs_wr (prs_th hp), (r_thrown (d := 11) hm2).mono ?_⟩
    rintro u S3 ⟨rfl, rfl⟩
    exact ⟨prs_wr (prs_th hp), 1, 0, rfl, rfl, rfl, fun z => absurd z (by decide), hr⟩
  · have h1 := i32_not (fun z => hb (Or.inl z))
    have h2 := i32_not (fun z => hb (Or.inr z))
    rw [show (0 : Int32).toInt = 0 from rfl] at h1
    rw [show (20 : Int32).toInt = 20 from rfl] at h2
    obtain ⟨i, hi, rfl⟩ := i32_is (lo := 0) (hi := 21) h1 (by omega)
    rw [Nat.zero_add]
    unfold ck_all at hck
    simp only [Bool.and_eq_true, List.all_eq_true, List.mem_range] at hck
    obtain ⟨⟨⟨⟨⟨⟨⟨⟨⟨-, -⟩, h⟩, -⟩, -⟩, -⟩, -⟩, -⟩, -⟩, -⟩ := hck
    exact ck_opT_ok (h i (by omega))
theorem p1_op (hf : ai_frc S = true) (hck : ck_all S = true) (n A B : Int32) : ai_op L xs 12 n A B p1_rm S := by
  have hp := ai_prs_of hf
  obtain ⟨n1, n2, n3, -⟩ := ai_frc_all hf
  have hrm : p1_rm S := by unfold p1_rm; rw [n2, n3]; decide
  have hr : p1_rm (ai_th S) := by
    show S.2.1 + 1 ≤ _ ∧ S.2.2.1 + 6 ≤ _
    rw [n2, n3]; decide
  have h0 := fr_obj hf fr_0 (by decide)
  have hd := fr_obj hf fr_4 (by decide)
  have he := fr_obj hf fr_11 (by decide)
  have h12 := fr_obj hf fr_12 (by decide)
  have h84 := fr_obj hf fr_84 (by decide)
  have hm := fr_obj hf fr_432 (by decide)
  obtain ⟨f5, h5, -⟩ := fr_arr hf fr_5 (by decide)
  obtain ⟨f435, h435, -⟩ := fr_arr hf fr_435 (by decide)
  have hl : 432 < S.1 := by rw [n1]; decide
  have hck' := hck
  unfold ck_all at hck'
  simp only [Bool.and_eq_true] at hck'
  obtain ⟨⟨⟨⟨⟨⟨⟨⟨⟨c2, c3⟩, -⟩, c5⟩, c6⟩, c7⟩, c10⟩, c11⟩, c13⟩, -⟩ := hck'
  refine ⟨fun _ => p1_declare hck hp hrm hr hm _ _ (chr_range A), fun _ => ?_, fun _ => ck_opN_ok c2, fun _ => ck_opT_ok c3, fun _ => p1_complete hck hp hr hm A, fun _ => ck_opV_ok c5, fun _ => ck_opV_ok c6, fun _ => ck_opV_ok c7, fun _ => ?_, fun _ => ?_, fun _ => ck_opT_ok c10, fun _ => ck_opT_ok c11, fun _ => ?_, fun _ => ck_opN_ok c13, fun _ => hrm⟩
  · refine (r_write (d := 9) (n := 0) (by decide) h0 hd h5).mono ?_
    rintro v S1 ⟨-, h1⟩
    have h8 := wr_c_le (by_C (ai_lng A B)) 8
    obtain ⟨rfl, rfl⟩ := h1 (by omega)
    have hp1 : ai_prs (dr_put S (0 + wr_c (by_C (ai_lng A B)) 8) (wr_f (by_C (ai_lng A B)) 0 f5 8)) := prs_off (prs_off hp (by decide) (by decide) (by decide)) (by decide) (by decide) (by decide)
    refine ⟨hp1, (r_m_write (d := 10) (n := 0) (by decide) ((ai_obj_wr (by decide)).trans ((ai_obj_wr (by decide)).trans hm)) ((ai_arr_wr (by decide)).trans ((ai_arr_wr (by decide)).trans h435))).mono ?_⟩
    rintro w S2 ⟨-, h2⟩
    have h8 := wr_c_le (by_M (ai_lng A B)) 8
    obtain ⟨rfl, rfl⟩ := h2 (by omega)
    exact ⟨prs_wr (prs_off hp1 (by decide) (by decide) (by decide)), 1, rfl, rfl, hrm⟩
  · refine (r_rule0 (d := 10) h0 he h12).mono ?_
    rintro v S1 ⟨rfl, rfl⟩
    refine ⟨hp, (r_m_rule0 (d := 11) hm hl rfl).mono ?_⟩
    rintro w S2 ⟨rfl, rfl⟩
    exact ⟨prs_wr hp, 0, rfl, rfl, hrm⟩
  · refine (r_eqAt0 (d := 10) h0 he h84).mono ?_
    rintro v S1 ⟨rfl, rfl⟩
    refine ⟨hp, (r_m_eqAt0 (d := 11) hm hl rfl).mono ?_⟩
    rintro w S2 ⟨rfl, rfl⟩
    exact ⟨prs_wr hp, 0, rfl, rfl, hrm⟩
  · refine (r_draft0 (d := 11) h0 hd).mono ?_
    rintro v S1 ⟨rfl, rfl⟩
    refine ⟨hp, (r_m_draft0 (d := 11) hm hl rfl).mono ?_⟩
    rintro w S2 ⟨rfl, rfl⟩
    exact ⟨prs_wr hp, 0, rfl, rfl, hrm⟩
def p1_I : Nat → ai_S → Prop
  | 0, S => ∃ q, ai_pre = some q ∧ S = ai_last q.2 ∧ ai_frc S = true
  | _ + 1, S => p1_rm S
theorem p1_law (hL : L ≤ 3) : ai_Law L xs := by
  refine lw_law (I := p1_I) (by omega) (fun q hq hf => ⟨q, hq, rfl, hf⟩) ?_ ?_
  · intro t S ht hp hI
    have h0 : t = 0 := by omega
    subst h0
    obtain ⟨q, hq, rfl, hf⟩ := hI
    have hc := ck_fresh
    rw [hq] at hc
    exact p1_op hf hc _ _ _
  · intro t S ht hI
    cases t with
    | zero =>
      obtain ⟨q, hq, rfl, hf⟩ := hI
      obtain ⟨-, n2, n3, -⟩ := ai_frc_all hf
      rw [n2, n3]
      decide
    | succ t => exact ⟨Nat.le_trans hI.1 (by decide), Nat.le_trans hI.2 (by decide)⟩
end FI
theorem i_vc : Claimed_1_1 ∧ Claimed_1_2 := i_vc_open (fun _ _ hL => p1_law hL)

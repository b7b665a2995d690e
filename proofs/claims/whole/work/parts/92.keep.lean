/-! Between the calls: bytes, symbols, and what the turns keep. -/
section TN
variable {L : Nat} {xs : Nat → Int32} {S S' S1 S2 : ai_S} {P R C : Nat → Int} {nn sx sc T D kp : Int} {n t : Nat} {Rs Vs : rls} {F : Nat → Nat → Int} {B : Nat → Int} {A : Int → Nat}
theorem shC (j : Nat) (h : j < 8) : ((Int32.ofNat (8 * j)).toInt64.toUInt64 &&& Int64.toUInt64 63).toBitVec = BitVec.ofNat 64 (8 * j) := by
  have : j = 0 ∨ j = 1 ∨ j = 2 ∨ j = 3 ∨ j = 4 ∨ j = 5 ∨ j = 6 ∨ j = 7 := by omega
  rcases this with rfl | rfl | rfl | rfl | rfl | rfl | rfl | rfl <;> decide
theorem shM (j : Nat) (h : j < 8) : (((Int8.ofInt 8).toInt32 * Int32.ofNat j).toInt64 &&& 63).toBitVec = BitVec.ofNat 64 (8 * j) := by
  have : j = 0 ∨ j = 1 ∨ j = 2 ∨ j = 3 ∨ j = 4 ∨ j = 5 ∨ j = 6 ∨ j = 7 := by omega
  rcases this with rfl | rfl | rfl | rfl | rfl | rfl | rfl | rfl <;> decide
theorem shN (j : Nat) (h : j < 8) : (BitVec.ofNat 64 (8 * j) % 64).toNat = 8 * j ∧ ((BitVec.ofNat 64 (8 * j)).smod 64).toNat = 8 * j := by
  have : j = 0 ∨ j = 1 ∨ j = 2 ∨ j = 3 ∨ j = 4 ∨ j = 5 ∨ j = 6 ∨ j = 7 := by omega
  rcases this with rfl | rfl | rfl | rfl | rfl | rfl | rfl | rfl <;> decide
theorem bit255 (i : Nat) (h : 8 ≤ i) : (255#64).getLsbD i = false := by
  rw [BitVec.getLsbD_ofNat]
  by_cases h2 : i < 64
  · have : Nat.testBit 255 i = false := Nat.testBit_lt_two_pow (Nat.lt_of_lt_of_le (show 255 < 2 ^ 8 by decide) (Nat.pow_le_pow_right (by decide) h))
    rw [this]; simp
  · simp [h2]
theorem and255 (x : BitVec 64) (k : Nat) (h : k ≤ 56) : (x >>> k) &&& 255#64 = (x.sshiftRight k) &&& 255#64 := by
  apply BitVec.eq_of_getLsbD_eq
  intro i hi
  rw [BitVec.getLsbD_and, BitVec.getLsbD_and]
  by_cases h8 : i < 8
  · congr 1
    rw [BitVec.getLsbD_ushiftRight, BitVec.getLsbD_sshiftRight, if_pos (by omega)]
    simp; omega
  · rw [bit255 i (by omega)]; simp
theorem se255 (y : BitVec 64) : (BitVec.signExtend 32 (y &&& 255#64)).toNat = y.toNat % 256 := by
  have e : BitVec.signExtend 32 (y &&& 255#64) = BitVec.setWidth 32 (y &&& 255#64) := BitVec.signExtend_eq_setWidth_of_le _ (by decide)
  rw [e, BitVec.toNat_setWidth, BitVec.toNat_and]
  have : y.toNat &&& (255#64).toNat = y.toNat % 256 := Nat.and_two_pow_sub_one_eq_mod y.toNat 8
  rw [this]
  omega
theorem by_MC (J : Int64) (j : Nat) (h : j < 8) : by_M J j = by_C J j ∧ 0 ≤ (by_C J j).toInt ∧ (by_C J j).toInt < 256 := by
  have hM : (by_M J j).toBitVec = BitVec.signExtend 32 (J.toBitVec.sshiftRight' ((BitVec.ofNat 64 (8 * j)).smod 64) &&& Int64.toBitVec 255) := by
    unfold by_M
    simp only [Int64.toBitVec_toInt32, Int64.toBitVec_and, Int64.toBitVec_shiftRight, shM j h]
  have hC : (by_C J j).toBitVec = BitVec.signExtend 32 (J.toBitVec >>> (BitVec.ofNat 64 (8 * j) % 64) &&& Int64.toBitVec 255) % UInt32.toBitVec 65536 := by
    unfold by_C
    simp only [UInt32.toBitVec_toInt32, UInt32.toBitVec_mod, Int32.toBitVec_toUInt32, Int64.toBitVec_toInt32, Int64.toBitVec_and, UInt64.toBitVec_toInt64, UInt64.toBitVec_shiftRight, Int64.toBitVec_toUInt64, shC j h]
  rw [BitVec.ushiftRight_eq', (shN j h).1] at hC
  rw [show J.toBitVec.sshiftRight' ((BitVec.ofNat 64 (8 * j)).smod 64) = J.toBitVec.sshiftRight ((BitVec.ofNat 64 (8 * j)).smod 64).toNat from rfl, (shN j h).2] at hM
  rw [show Int64.toBitVec 255 = 255#64 from rfl] at hM hC
  rw [and255 _ _ (by omega)] at hC
  generalize J.toBitVec.sshiftRight (8 * j) = y at hM hC
  have n1 := se255 y
  have n2 : (by_C J j).toBitVec.toNat = y.toNat % 256 := by
    rw [hC, BitVec.toNat_umod, n1, show (UInt32.toBitVec 65536).toNat = 65536 from rfl]
    omega
  refine ⟨?_, ?_⟩
  · apply Int32.toBitVec_inj.mp
    apply BitVec.eq_of_toNat_eq
    rw [hM, n1, n2]
  · rw [← Int32.toInt_toBitVec, BitVec.toInt_eq_toNat_of_lt (by rw [n2]; omega), n2]
    omega
theorem wr_cc {b b' : Nat → Int32} (h : ∀ j, j < 8 → b' j = b j) : ∀ j, j ≤ 8 → wr_c b' j = wr_c b j
  | 0, _ => rfl
  | j + 1, hj => by
    show wr_c b' j + _ = wr_c b j + _
    rw [wr_cc h j (by omega), h j (by omega)]
theorem wr_ff {b b' : Nat → Int32} {n : Nat} {f f' : Nat → Int32} (h : ∀ j, j < 8 → b' j = b j) (hf : ∀ i, i < n → f' i = f i) : ∀ j, j ≤ 8 → ∀ i, i < n + wr_c b j → wr_f b' n f' j i = wr_f b n f j i
  | 0, _, i, hi => hf i hi
  | j + 1, hj, i, hi => by
    show (if b' j = 0 then wr_f b' n f' j else upd (wr_f b' n f' j) (n + wr_c b' j) (b' j)) i = (if b j = 0 then wr_f b n f j else upd (wr_f b n f j) (n + wr_c b j) (b j)) i
    have hi : i < n + (wr_c b j + (if b j = 0 then 0 else 1)) := hi
    rw [h j (by omega), wr_cc h j (by omega)]
    by_cases hz : b j = 0
    · rw [if_pos hz, if_pos hz]
      rw [if_pos hz] at hi
      exact wr_ff h hf j (by omega) i hi
    · rw [if_neg hz, if_neg hz]
      rw [if_neg hz] at hi
      show (if i = n + wr_c b j then b j else wr_f b' n f' j i) = if i = n + wr_c b j then b j else wr_f b n f j i
      by_cases he : i = n + wr_c b j
      · rw [if_pos he, if_pos he]
      · rw [if_neg he, if_neg he]
        exact wr_ff h hf j (by omega) i (by omega)
theorem wr_in {b : Nat → Int32} {n : Nat} {f : Nat → Int32} (hb : ∀ j, j < 8 → 0 ≤ (b j).toInt ∧ (b j).toInt < 65536) (hf : ∀ i, 0 ≤ (f i).toInt ∧ (f i).toInt < 65536) : ∀ j, j ≤ 8 → ∀ i, 0 ≤ (wr_f b n f j i).toInt ∧ (wr_f b n f j i).toInt < 65536
  | 0, _, i => hf i
  | j + 1, hj, i => by
    show 0 ≤ ((if b j = 0 then wr_f b n f j else upd (wr_f b n f j) (n + wr_c b j) (b j)) i).toInt ∧ ((if b j = 0 then wr_f b n f j else upd (wr_f b n f j) (n + wr_c b j) (b j)) i).toInt < 65536
    by_cases hz : b j = 0
    · rw [if_pos hz]
      exact wr_in hb hf j (by omega) i
    · rw [if_neg hz]
      unfold upd
      by_cases he : i = n + wr_c b j
      · rw [if_pos he]; exact hb j (by omega)
      · rw [if_neg he]; exact wr_in hb hf j (by omega) i
/-- a row of ints, as whole numbers -/
def rw_i (f : Nat → Int32) : Nat → Int := fun j => (f j).toInt
theorem rw_f (f : Nat → Int32) : ax_f (rw_i f) = f := funext fun j => Int32.ofInt_toInt _
theorem of_nat (n : Nat) : Int32.ofInt (n : Int) = Int32.ofNat n := by
  first | rfl | exact Int32.ofInt_eq_ofNat | simp
theorem ax_back (x : Int32) : (Value.int x) = ax_i x.toInt := by
  show Value.int x = Value.int (Int32.ofInt x.toInt)
  rw [Int32.ofInt_toInt]
theorem ax_Rx (x : Int32) : ax_R x.toInt := by
  have h1 := x.le_toInt
  have h2 := x.toInt_lt
  exact ⟨by omega, by omega⟩
theorem chr_in (x : Int32) : 0 ≤ (ai_chr x).toInt ∧ (ai_chr x).toInt < 65536 := by
  have h : (x.toUInt32 % 65536).toNat < 65536 := by
    rw [UInt32.toNat_mod]
    exact Nat.mod_lt _ (by decide)
  have h2 : (ai_chr x).toInt = (x.toUInt32 % 65536).toNat := by
    unfold ai_chr
    rw [← Int32.toInt_toBitVec, UInt32.toBitVec_toInt32, BitVec.toInt_eq_toNat_of_lt (by rw [UInt32.toNat_toBitVec]; omega), UInt32.toNat_toBitVec]
  rw [h2]
  omega
theorem ts_cong {A' : Int → Nat} : ∀ (w : List Int) (m : Nat), (∀ c, c ∈ w → A' c = A c) → ts A m w → ts A' m w
  | [], 0, _, _ => trivial
  | [], _ + 1, _, h => h
  | _ :: _, 0, _, h => h
  | c :: u, m + 1, he, h => by
    have h : ts A (m + A c) u := h
    show ts A' (m + A' c) u
    rw [he c List.mem_cons_self]
    exact ts_cong u _ (fun e hm => he e (List.mem_cons_of_mem _ hm)) h
theorem okv_dec {A' : Int → Nat} {P P' : Nat → Int} {q : List Int × List Int} (hA : ∀ c, kn P 123 c → A' c = A c) (hK : ∀ c, kn P 123 c → kn P' 123 c) (h : okv A P q) : okv A' P' q :=
  ⟨⟨ts_cong _ _ (fun c hc => hA c (h.2.2.1.1 c hc)) h.1.1, ts_cong _ _ (fun c hc => hA c (h.2.2.1.2 c hc)) h.1.2⟩, h.2.1, ⟨fun c hc => hK c (h.2.2.1.1 c hc), fun c hc => hK c (h.2.2.1.2 c hc)⟩, h.2.2.2⟩
theorem okr_dec {A' : Int → Nat} {P P' : Nat → Int} {q : List Int × List Int} (hA : ∀ c, kn P 123 c → A' c = A c) (hK : ∀ c, kn P 123 c → kn P' 123 c) (h : okr A P q) : okr A' P' q :=
  ⟨okv_dec hA hK h.1, ts_cong _ _ (fun c hc => hA c (h.1.2.2.1.1 c hc)) h.2.1, ts_cong _ _ (fun c hc => hA c (h.1.2.2.1.2 c hc)) h.2.2.1, h.2.2.2⟩
/-- a new symbol -/
theorem at_up {c p e : Int} (hc : 0 ≤ c ∧ c < 256) (he : 0 ≤ e) : at256 (ax_up P c.toNat p) e = if e = c then p else at256 P e := by
  unfold at256 ax_up
  by_cases h : e = c
  · rw [if_pos h, h, if_pos hc.2, if_pos rfl]
  · rw [if_neg h]
    by_cases h2 : e < 256
    · rw [if_pos h2, if_pos h2, if_neg (by omega)]
    · rw [if_neg h2, if_neg h2]
theorem Ar_up {c p e : Int} (hc : 0 ≤ c ∧ c < 256) (he : 0 ≤ e) : Ar (ax_up P c.toNat p) e = if e = c then p.toNat else Ar P e := by
  unfold Ar
  rw [at_up hc he]
  by_cases h : e = c
  · rw [if_pos h, if_pos h]
  · rw [if_neg h, if_neg h]
theorem cg_sy {P' R' : Nat → Int} {nn' : Int} (h : cg S P R nn C n Rs Vs sx sc) : cg (sy_put S P' R' nn') P' R' nn' C n Rs Vs sx sc ∧ kpp S (sy_put S P' R' nn') := by
  have f : fr 1 4 S (sy_put S P' R' nn') := ((fr_wr.mn (by omega) (by omega)).tr (fr_wr.mn (by omega) (by omega))).tr (fr_wr.mn (by omega) (by omega))
  have hl : 3 < S.1 := sy_lt h.2.1.1
  obtain ⟨x2, y2, hp⟩ := h.2.2.2
  obtain ⟨-, h2, h3, h4, ⟨ks, h5⟩, h6, ⟨x, y, h7⟩, ⟨z, h8⟩, h9, h10⟩ := h.2.1
  have hf : frp (fun c => 1 ≤ c ∧ c < 4) S (sy_put S P' R' nn') := f.pp (fun c h1 h2 => ⟨h1, h2⟩)
  refine ⟨⟨(f.obj (by omega)).trans h.1, ⟨⟨?_, ?_, ?_⟩, hf.en h2 (by omega), hf.plv h3 (fun i _ _ => by omega), hf.plv h4 (fun i _ _ => by omega), ⟨ks, hf.plv h5 (fun i _ _ => by omega)⟩, hf.wkh h6 (fun c _ _ => by omega) (fun c _ _ => by omega) (fun c _ _ => by omega), ⟨x, y, hf.pw h7 (fun i _ => by omega)⟩, ⟨z, hf.tw h8 (by omega) (by omega)⟩, hf.pog h9 (fun c _ _ => by omega), hf.ovg h10 (fun c _ _ => by omega)⟩, ⟨(f.obj (by omega)).trans h.2.2.1.1, (f.arr (by omega)).trans h.2.2.1.2⟩, x2, y2, f.pw hp (by omega)⟩, kpp_fr f (by omega)⟩
  · exact (ai_obj_wr (by decide)).trans ((ai_obj_wr (by decide)).trans (ai_obj_wrS (show 1 < S.1 by omega)))
  · exact ai_arr_wrS (show 2 < S.1 by omega)
  · exact (ai_arr_wr (by decide)).trans (ai_arr_wrS (show 3 < S.1 by omega))
/-- after a call of the object -/
def aft (t : Nat) (S S1 : ai_S) : Prop := (S1.1 = 453 ∧ S1.2.1 ≤ 453 + (t + 1) ∧ S1.2.2.1 ≤ 12190 + 6 * (t + 1)) ∧ (∃ f, ai_arrJ S1 452 3 = some (1, f)) ∧ nw 432 452 S S1
theorem nw_J (h : nw 432 453 S S1) : ai_arrJ S1 452 3 = ai_arrJ S 452 3 := by
  unfold ai_arrJ
  rw [h.1, h.2 452 (by omega) (by omega)]
theorem aft_kpp (hb : S.1 = 453 ∧ S.2.1 ≤ 453 + t ∧ S.2.2.1 ≤ 12190 + 6 * t) (hJ : ∃ f, ai_arrJ S 452 3 = some (1, f)) (k : kpp S S1) : aft t S S1 :=
  ⟨⟨k.1.1.trans hb.1, by rw [k.2.1]; omega, by rw [k.2.2]; omega⟩, by rw [nw_J k.1]; exact hJ, k.1.1, fun a h1 h2 => k.1.2 a h1 (by omega)⟩
theorem aft_th (hb : S.1 = 453 ∧ S.2.1 ≤ 453 + t ∧ S.2.2.1 ≤ 12190 + 6 * t) (hJ : ∃ f, ai_arrJ S 452 3 = some (1, f)) (k : kpp S S1) : aft t S (ai_th S1) := by
  have k1 := k.2.1
  have k2 := k.2.2
  refine ⟨⟨k.1.1.trans hb.1, ?_, ?_⟩, ?_, k.1.1, fun a h1 h2 => k.1.2 a h1 (by omega)⟩
  · show S1.2.1 + 1 ≤ _
    omega
  · show S1.2.2.1 + 6 ≤ _
    omega
  · rw [ai_arrJ_th, nw_J k.1]; exact hJ
theorem aft_owr {b : Int32} (hb : S.1 = 453 ∧ S.2.1 ≤ 453 + t ∧ S.2.2.1 ≤ 12190 + 6 * t) (k : kpp S S1) (ho : owr S1 S' b) : aft t S S' ∧ nw 0 432 S1 S' ∧ ∃ f, ai_arrJ S' 452 3 = some (1, f) ∧ f 0 = b.toInt64 := by
  obtain ⟨f, rfl, hf⟩ := ho
  have k1 := k.2.1
  have k2 := k.2.2
  have hJ : ai_arrJ (ai_wr S1 452 (.inl (3, ai_J 1 f))) 452 3 = some (1, f) := ai_arrJ_wrS (by rw [k.1.1, hb.1]; decide)
  have fw : fr 452 453 S1 (ai_wr S1 452 (.inl (3, ai_J 1 f))) := fr_wr
  refine ⟨⟨⟨k.1.1.trans hb.1, ?_, ?_⟩, ⟨f, hJ⟩, k.1.1, fun a h1 h2 => (fw.2.2.2 a (by omega)).trans (k.1.2 a h1 (by omega))⟩, nw_fr fw (by omega), f, hJ, hf⟩
  · show S1.2.1 ≤ _
    omega
  · show S1.2.2.1 ≤ _
    omega
theorem cg_th (h : cg S P R nn C n Rs Vs sx sc) : cg (ai_th S) P R nn C n Rs Vs sx sc := cg_near h ⟨rfl, fun _ _ _ => rfl⟩
/-- after both -/
theorem ivt_fin (a : aft t S S1) (hc : cg S1 P R D C n Rs Vs sx sc) (f : fr 432 452 S1 S2) (hm : mgg S2 (Ar P) T D (n : Int) Rs Vs kp sx sc F B) (hk : lnk P R D C n F) (hx : 0 ≤ sx ∧ sx ≤ 3) (hD : D ≤ ((t + 1 : Nat) : Int)) : ivt (t + 1) S2 := by
  obtain ⟨⟨a1, a2, a3⟩, ⟨g, hg⟩, a5⟩ := a
  exact ⟨P, R, C, n, Rs, Vs, sx, sc, T, D, kp, F, B, ⟨f.1.trans a1, by rw [f.2.1]; exact a2, by rw [f.2.2.1]; exact a3⟩, ⟨g, (f.arrJ (by omega)).trans hg⟩, cg_near hc (nw_fr f (by omega)), hm, hk, hx, hD⟩
theorem lnk_2 {F' : Nat → Nat → Int} {C' : Nat → Int} {n' : Nat} (h : lnk P R D C n F) (e0 : F' 0 = F 0) (e1 : F' 1 = F 1) (hn : n' ≤ 60) (hC : ∀ i, 0 ≤ C' i ∧ C' i < 65536) (hF : ∀ i, 0 ≤ F' 2 i ∧ F' 2 i < 65536) (he : ∀ i, i < n' → F' 2 i = C' i) : lnk P R D C' n' F' := by
  obtain ⟨h1, h2, h3, h4, h5, -, -, -, -⟩ := h
  unfold lnk
  rw [e0, e1]
  exact ⟨h1, h2, h3, h4, h5, hn, hC, hF, he⟩
set_option maxHeartbeats 1000000 in
/-- both sides after a symbol was declared -/
theorem dec_both {c p : Int} (hm : mgg S (Ar P) T D (n : Int) Rs Vs kp sx sc F B) (hk : lnk P R D C n F) (hc : 97 ≤ c ∧ c ≤ 104) (hp : 0 ≤ p ∧ p ≤ 2) (hno : ¬ 0 ≤ F 0 (c - 97).toNat) (hD : D ≤ 900) (h2 : mst S2 0 (D + 1) (n : Int) (Rs.length : Int) (Vs.length : Int) kp sx sc (fup (fup F 0 (ax_up (F 0) (c - 97).toNat p)) 1 (ax_up (F 1) (c - 97).toNat D)) B) : mgg S2 (Ar (ax_up P c.toNat p)) 0 (D + 1) (n : Int) Rs Vs kp sx sc (fup (fup F 0 (ax_up (F 0) (c - 97).toNat p)) 1 (ax_up (F 1) (c - 97).toNat D)) B ∧ lnk (ax_up P c.toNat p) (ax_up R c.toNat (D + 1)) (D + 1) C n (fup (fup F 0 (ax_up (F 0) (c - 97).toNat p)) 1 (ax_up (F 1) (c - 97).toNat D)) := by
  obtain ⟨⟨s1, s2, s3⟩, k2, k3, k4, k5, k6, k7, k8, k9⟩ := hk
  have e0 : fup (fup F 0 (ax_up (F 0) (c - 97).toNat p)) 1 (ax_up (F 1) (c - 97).toNat D) 0 = ax_up (F 0) (c - 97).toNat p := (fup_ne (by decide)).trans (fup_get _ _ _)
  have e1 : fup (fup F 0 (ax_up (F 0) (c - 97).toNat p)) 1 (ax_up (F 1) (c - 97).toNat D) 1 = ax_up (F 1) (c - 97).toNat D := fup_get _ _ _
  have e9 : ∀ i, 2 ≤ i → fup (fup F 0 (ax_up (F 0) (c - 97).toNat p)) 1 (ax_up (F 1) (c - 97).toNat D) i = F i := fun i hi => (fup_ne (by omega)).trans (fup_ne (by omega))
  generalize fup (fup F 0 (ax_up (F 0) (c - 97).toNat p)) 1 (ax_up (F 1) (c - 97).toNat D) = G at h2 e0 e1 e9 ⊢
  have g0 : ∀ e : Int, 97 ≤ e → e ≤ 104 → G 0 (e - 97).toNat = if e = c then p else F 0 (e - 97).toNat := fun e h1 h3 => by
    rw [e0]
    unfold ax_up
    by_cases h : e = c
    · rw [if_pos h, if_pos (by omega)]
    · rw [if_neg h, if_neg (by omega)]
  have g1 : ∀ e : Int, 97 ≤ e → e ≤ 104 → G 1 (e - 97).toNat = if e = c then D else F 1 (e - 97).toNat := fun e h1 h3 => by
    rw [e1]
    unfold ax_up
    by_cases h : e = c
    · rw [if_pos h, if_pos (by omega)]
    · rw [if_neg h, if_neg (by omega)]
  have hA : ∀ e, kn (F 0) 123 e → Ar (ax_up P c.toNat p) e = Ar P e := fun e he => by
    have h9 := kn_lt he
    rw [Ar_up ⟨by omega, by omega⟩ (by omega)]
    refine if_neg (fun h => ?_)
    subst h
    rcases he with ⟨-, -, h3⟩ | ⟨h1, -⟩
    · exact hno h3
    · omega
  have hK : ∀ e, kn (F 0) 123 e → kn (G 0) 123 e := fun e he => by
    rcases he with ⟨h1, h3, h4⟩ | h1
    · refine Or.inl ⟨h1, h3, ?_⟩
      rw [g0 e h1 h3]
      split
      · exact hp.1
      · exact h4
    · exact Or.inr h1
  constructor
  · obtain ⟨-, ⟨⟨m1, m2⟩, m3⟩, ⟨m4, m5, m6⟩, ⟨m7, m8, m9⟩, m10, m11, m12⟩ := hm
    refine ⟨h2, ⟨⟨fun i => ?_, fun e h1 h3 h4 => ?_, fun e he => ?_⟩, fun e => ?_⟩, ⟨fun k hk => ?_, m5, fun q hq => okr_dec hA hK (m6 q hq)⟩, ⟨fun k hk => ?_, m8, fun q hq => okv_dec hA hK (m9 q hq)⟩, by rw [e9 9 (by decide)]; exact m10, by rw [e9 6 (by decide)]; exact m11, by rw [e9 13 (by decide)]; exact m12⟩
    · rw [e0]
      unfold ax_up
      split
      · omega
      · exact m1 i
    · rw [g0 e h1 h3] at h4 ⊢
      rw [Ar_up ⟨by omega, by omega⟩ (by omega)]
      by_cases h : e = c
      · rw [if_pos h, if_pos h]
        omega
      · rw [if_neg h] at h4
        rw [if_neg h, if_neg h]
        exact m2.1 e h1 h3 h4
    · rw [Ar_up ⟨by omega, by omega⟩ (by omega), if_neg (by omega)]
      exact m2.2 e he
    · by_cases he : 0 ≤ e
      · rw [Ar_up ⟨by omega, by omega⟩ he]
        split
        · omega
        · exact m3 e
      · have : Ar (ax_up P c.toNat p) e = Ar P e := by
          unfold Ar at256
          rw [if_pos (show e < 256 by omega), if_pos (show e < 256 by omega)]
          show (if e.toNat = c.toNat then p else P e.toNat).toNat = _
          rw [if_neg (by omega)]
        rw [this]
        exact m3 e
    · rw [e9 3 (by decide), e9 4 (by decide), e9 5 (by decide)]
      exact m4 k hk
    · rw [e9 6 (by decide), e9 7 (by decide), e9 8 (by decide)]
      exact m7 k hk
  · refine ⟨⟨fun i => ?_, fun e he => ?_, fun i => ?_⟩, by omega, fun e he => ?_, fun e h1 h3 h4 => ?_, fun i => ?_, k6, k7, by rw [e9 2 (by decide)]; exact k8, by rw [e9 2 (by decide)]; exact k9⟩
    · unfold ax_up
      split
      · omega
      · exact s1 i
    · rw [Ar_up ⟨by omega, by omega⟩ (by omega), if_neg (by omega)]
      exact s2 e he
    · unfold ax_up
      split
      · omega
      · exact s3 i
    · rw [at_up ⟨by omega, by omega⟩ he]
      by_cases h : e = c
      · rw [if_pos h]
        subst h
        constructor
        · intro _
          refine ⟨hc.1, hc.2, ?_⟩
          rw [g0 e hc.1 hc.2, if_pos rfl]
          exact hp.1
        · intro _
          omega
      · rw [if_neg h, k3 e he]
        constructor
        · rintro ⟨h1, h3, h4⟩
          exact ⟨h1, h3, by rw [g0 e h1 h3, if_neg h]; exact h4⟩
        · rintro ⟨h1, h3, h4⟩
          rw [g0 e h1 h3, if_neg h] at h4
          exact ⟨h1, h3, h4⟩
    · rw [at_up ⟨by omega, by omega⟩ (by omega), g1 e h1 h3]
      by_cases h : e = c
      · rw [if_pos h, if_pos h]
      · rw [g0 e h1 h3, if_neg h] at h4
        rw [if_neg h, if_neg h]
        exact k4 e h1 h3 h4
    · rw [e1]
      unfold ax_up
      split
      · omega
      · have := k5 i
        omega
end TN

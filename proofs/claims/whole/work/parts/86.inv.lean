/-! The turns: what both sides hold between two calls, and how it goes together. -/
section IV
variable {S S' : ai_S} {P R C : Nat → Int} {nn sx sc T D kp : Int} {n : Nat} {Rs Vs : rls} {F : Nat → Nat → Int} {B : Nat → Int} {A : Int → Nat}
/-- the same cells from lo up to hi -/
def nw (lo hi : Nat) (S S' : ai_S) : Prop := S'.1 = S.1 ∧ ∀ a, lo ≤ a → a < hi → S'.2.2.2 a = S.2.2.2 a
theorem nw.tr {lo hi : Nat} {S'' : ai_S} (h : nw lo hi S S') (h2 : nw lo hi S' S'') : nw lo hi S S'' := ⟨h2.1.trans h.1, fun a h3 h4 => (h2.2 a h3 h4).trans (h.2 a h3 h4)⟩
theorem nw_fr {lo hi l h : Nat} (hf : fr l h S S') (hd : hi ≤ l ∨ h ≤ lo) : nw lo hi S S' := ⟨hf.1, fun a h1 h2 => hf.2.2.2 a (by omega)⟩
theorem nw_rf {lo hi : Nat} : nw lo hi S S := ⟨rfl, fun _ _ _ => rfl⟩
def qE (a : Nat) : Prop := ¬ ((1 ≤ a ∧ a ≤ 3) ∨ (11 ≤ a ∧ a < 432))
theorem qE_n {a : Nat} (h : (1 ≤ a ∧ a ≤ 3) ∨ (11 ≤ a ∧ a < 432)) : ¬ qE a := fun z => z h
theorem egs_near (h : egs S P R nn Rs Vs sx sc) (e1 : S'.1 = S.1) (e2 : ∀ a, ((1 ≤ a ∧ a ≤ 3) ∨ (11 ≤ a ∧ a < 432)) → S'.2.2.2 a = S.2.2.2 a) : egs S' P R nn Rs Vs sx sc := by
  obtain ⟨a1, a2, a3, g⟩ := S'
  have hf : frp qE S (a1, S.2.1, S.2.2.1, g) := ⟨e1, rfl, rfl, fun a ha => e2 a (Classical.not_not.mp ha)⟩
  obtain ⟨h1, h2, h3, h4, ⟨ks, h5⟩, h6, ⟨x, y, h7⟩, ⟨z, h8⟩, h9, h10⟩ := h
  have r : egs (a1, S.2.1, S.2.2.1, g) P R nn Rs Vs sx sc := ⟨hf.sy h1 (qE_n (by omega)) (qE_n (by omega)) (qE_n (by omega)), hf.en h2 (qE_n (by omega)), hf.plv h3 (fun i _ _ => qE_n (by omega)), hf.plv h4 (fun i _ _ => qE_n (by omega)), ⟨ks, hf.plv h5 (fun i _ _ => qE_n (by omega))⟩, hf.wkh h6 (fun c _ _ => qE_n (by omega)) (fun c _ _ => qE_n (by omega)) (fun c _ _ => qE_n (by omega)), ⟨x, y, hf.pw h7 (fun i _ => qE_n (by omega))⟩, ⟨z, hf.tw h8 (qE_n (by omega)) (qE_n (by omega))⟩, hf.pog h9 (fun c _ _ => qE_n (by omega)), hf.ovg h10 (fun c _ _ => qE_n (by omega))⟩
  exact r
/-- what the object holds -/
def cg (S : ai_S) (P R : Nat → Int) (nn : Int) (C : Nat → Int) (n : Nat) (Rs Vs : rls) (sx sc : Int) : Prop := tp S ∧ egs S P R nn Rs Vs sx sc ∧ dv S C n ∧ ∃ x y, pw S 6 x y
theorem cg_near (h : cg S P R nn C n Rs Vs sx sc) (e : nw 0 432 S S') : cg S' P R nn C n Rs Vs sx sc := by
  obtain ⟨h1, h2, h3, x, y, h4⟩ := h
  obtain ⟨e1, e2⟩ := e
  have r2 := egs_near h2 e1 (fun a ha => e2 a (by omega) (by omega))
  have k : ∀ a, a < 432 → ∀ c, ai_obj S' a c = ai_obj S a c := fun a ha c => by
    unfold ai_obj
    rw [e2 a (by omega) ha, e1]
  have k2 : ∀ a, a < 432 → ∀ c, ai_arr S' a c = ai_arr S a c := fun a ha c => by
    unfold ai_arr
    rw [e2 a (by omega) ha, e1]
  obtain ⟨T1, n1, T2, n2, ⟨p1, ⟨p2, p3⟩, p4, p5⟩, w1, w2⟩ := h4
  exact ⟨(k 0 (by decide) _).trans h1, r2, ⟨(k 4 (by decide) _).trans h3.1, (k2 5 (by decide) _).trans h3.2⟩, x, y, T1, n1, T2, n2, ⟨(k 6 (by decide) _).trans p1, ⟨(k _ (by decide) _).trans p2, (k2 _ (by decide) _).trans p3⟩, (k _ (by decide) _).trans p4, (k2 _ (by decide) _).trans p5⟩, w1, w2⟩
theorem mgg_near {n : Int} (h : mgg S A T D n Rs Vs kp sx sc F B) (e : nw 432 452 S S') : mgg S' A T D n Rs Vs kp sx sc F B := by
  obtain ⟨⟨h1, h2, h3, h4⟩, h5⟩ := h
  obtain ⟨e1, e2⟩ := e
  have k : ∀ c, ai_obj S' 432 c = ai_obj S 432 c := fun c => by
    unfold ai_obj
    rw [e2 432 (by omega) (by omega), e1]
  have k2 : ∀ a, 432 ≤ a → a < 452 → ∀ c, ai_arr S' a c = ai_arr S a c := fun a ha hb c => by
    unfold ai_arr
    rw [e2 a ha hb, e1]
  exact ⟨⟨(k _).trans h1, fun i hi => (k2 _ (by omega) (by omega) _).trans (h2 i hi), (k2 _ (by omega) (by omega) _).trans h3, h4⟩, h5⟩
/-- how both sides go together -/
def lnk (P R : Nat → Int) (D : Int) (C : Nat → Int) (n : Nat) (F : Nat → Nat → Int) : Prop := syk P R ∧ 0 ≤ D ∧ (∀ c : Int, 0 ≤ c → (0 < at256 R c ↔ 97 ≤ c ∧ c ≤ 104 ∧ 0 ≤ F 0 (c - 97).toNat)) ∧ (∀ c : Int, 97 ≤ c → c ≤ 104 → 0 ≤ F 0 (c - 97).toNat → at256 R c = F 1 (c - 97).toNat + 1) ∧ (∀ i, 0 ≤ F 1 i ∧ F 1 i ≤ D) ∧ n ≤ 60 ∧ (∀ i, 0 ≤ C i ∧ C i < 65536) ∧ (∀ i, 0 ≤ F 2 i ∧ F 2 i < 65536) ∧ ∀ i, i < n → F 2 i = C i
theorem lnk_eq {F' : Nat → Nat → Int} (h : lnk P R D C n F) (he : eq3 F F') : lnk P R D C n F' := by
  unfold lnk at *
  rw [he 0 (by decide), he 1 (by decide), he 2 (by decide)]
  exact h
theorem lnk_mrk (h : lnk P R D C n F) (hD : D ≤ 900) : mrk F (at256 R) := by
  obtain ⟨-, -, -, h4, h5, -⟩ := h
  refine ⟨fun i => ⟨(h5 i).1, by have := (h5 i).2; omega⟩, fun c e hc he => ?_⟩
  rcases hc with ⟨c1, c2, c3⟩ | ⟨c1, c2⟩
  · rcases he with ⟨e1, e2, e3⟩ | ⟨e1, e2⟩
    · rw [h4 c c1 c2 c3, h4 e e1 e2 e3]
      omega
    · omega
  · omega
/-- what lies between two calls -/
def ivt (t : Nat) (S : ai_S) : Prop := ∃ P R C n Rs Vs sx sc T D kp F B, (S.1 = 453 ∧ S.2.1 ≤ 453 + t ∧ S.2.2.1 ≤ 12190 + 6 * t) ∧ (∃ f, ai_arrJ S 452 3 = some (1, f)) ∧ cg S P R D C n Rs Vs sx sc ∧ mgg S (Ar P) T D (n : Int) Rs Vs kp sx sc F B ∧ lnk P R D C n F ∧ (0 ≤ sx ∧ sx ≤ 3) ∧ D ≤ (t : Int)
theorem ivt_prs {t : Nat} (h : ivt t S) : ai_prs S := by
  obtain ⟨P, R, C, n, Rs, Vs, sx, sc, T, D, kp, F, B, -, h2, h3, h4, -⟩ := h
  exact ⟨⟨_, h3.1⟩, ⟨_, h4.1.1⟩, h2⟩
theorem cg_prs {n' : Int} (h3 : cg S P R nn C n Rs Vs sx sc) {sx' sc' : Int} {Rs' Vs' : rls} {A' : Int → Nat} (h4 : mgg S A' T D n' Rs' Vs' kp sx' sc' F B) (h2 : ∃ f, ai_arrJ S 452 3 = some (1, f)) : ai_prs S := ⟨⟨_, h3.1⟩, ⟨_, h4.1.1⟩, h2⟩
theorem cd_kn {P : Nat → Int} {c : Int} : 0 ≤ cd P c ↔ kn P 123 c := by
  unfold cd kn
  split
  · constructor
    · intro _; right; omega
    · intro _; omega
  · split
    · constructor
      · intro _; left; assumption
      · intro _; omega
    · constructor
      · intro h; omega
      · rintro (h | h)
        · exact absurd h (by assumption)
        · omega
theorem cd_co {P : Nat → Int} {c : Int} (h : kn P 123 c) : cd P c = co c := by
  unfold cd co
  rcases h with ⟨h1, h2, h3⟩ | ⟨h1, h2⟩
  · rw [if_neg (by omega), if_pos ⟨h1, h2, h3⟩, if_pos (by omega)]
  · rw [if_pos (by omega), if_neg (by omega)]
theorem ar_cd {P : Nat → Int} {c : Int} (hs : sam A P) (h : kn P 123 c) : ar P (cd P c) = (A c : Int) := by
  rw [cd_co h]
  unfold ar co
  rcases h with ⟨h1, h2, h3⟩ | ⟨h1, h2⟩
  · rw [if_pos (show c < 117 by omega), if_pos (by omega)]
    exact (hs.1 c h1 h2 h3).symm
  · rw [if_neg (show ¬ c < 117 by omega), if_neg (by omega), hs.2 c h1]
    rfl
theorem at_Ar (h : syk P R) (c : Int) : at256 P c = (Ar P c : Int) := by
  unfold Ar at256
  split
  · have := (h.1 c.toNat).1
    omega
  · rfl
/-- a term, as both sides read it -/
def okt (A : Int → Nat) (P : Nat → Int) (w : List Int) : Prop := al (kn P 123) w ∧ ts A 1 w ∧ w.length ≤ 24
theorem lnk_kC (h : lnk P R D C n F) {c : Int} (hc : 0 ≤ c) : kC R c ↔ kn (F 0) 123 c := by
  have h3 := h.2.2.1 c hc
  unfold kC kn
  rw [h3]
  constructor
  · rintro (h | h)
    · exact Or.inl h
    · exact Or.inr (by omega)
  · rintro (h | h)
    · exact Or.inl h
    · exact Or.inr (by omega)
theorem vt_C (h : lnk P R D C n F) {W : Nat → Int} (hW : ∀ i, 0 ≤ W i) (k : Nat) : vt (kC R) (at256 P) W k ↔ okt (Ar P) (F 0) (sl W 0 k) := by
  rw [vt_ts (A := Ar P) (fun c _ => at_Ar h.1 c)]
  unfold okt
  rw [sl_len]
  have : al (kC R) (sl W 0 k) ↔ al (kn (F 0) 123) (sl W 0 k) := by
    constructor
    · intro h1 c hc
      obtain ⟨i, -, e⟩ := sl_mem hc
      exact (lnk_kC h (by rw [e]; exact hW _)).mp (h1 c hc)
    · intro h1 c hc
      obtain ⟨i, -, e⟩ := sl_mem hc
      exact (lnk_kC h (by rw [e]; exact hW _)).mpr (h1 c hc)
  rw [this]
theorem vt_M {P : Nat → Int} (hs : sam A P) (W : Nat → Int) (k : Nat) : vt (fun c => 0 ≤ cd P c) (fun c => ar P (cd P c)) W k ↔ okt A P (sl W 0 k) := by
  rw [vt_ts (A := A) (fun c hc => ar_cd hs (cd_kn.mp hc))]
  unfold okt
  rw [sl_len]
  have : al (fun c => 0 ≤ cd P c) (sl W 0 k) ↔ al (kn P 123) (sl W 0 k) := ⟨fun h1 c hc => cd_kn.mp (h1 c hc), fun h1 c hc => cd_kn.mpr (h1 c hc)⟩
  rw [this]
theorem sl_sh (C : Nat → Int) (a k : Nat) : sl (fun i => C (a + i)) 0 k = sl C a k := by
  unfold sl
  refine List.map_congr_left (fun i _ => ?_)
  rw [Nat.zero_add]
theorem sl_cg {C E : Nat → Int} {a k : Nat} (h : ∀ i, a ≤ i → i < a + k → E i = C i) : sl E a k = sl C a k := by
  unfold sl
  refine List.map_congr_left (fun i hi => h _ (by omega) ?_)
  have := List.mem_range.mp hi
  omega
theorem mid_un {C E : Nat → Int} {n m k : Nat} (h : mid C n m) (h2 : mid E n k) (he : ∀ i, i < n → E i = C i) : k = m := by
  obtain ⟨a1, a2, a3⟩ := h
  obtain ⟨b1, b2, b3⟩ := h2
  by_cases c1 : k < m
  · rcases b3 with b3 | b3
    · omega
    · exact absurd ((he k (by omega)).symm.trans b3) (a2 k c1)
  · by_cases c2 : m < k
    · rcases a3 with a3 | a3
      · omega
      · exact absurd ((he m (by omega)).trans a3) (b2 m c2)
    · omega
/-- the draft is two terms with = between them -/
def gp (A : Int → Nat) (P C : Nat → Int) (n : Nat) (l r : List Int) : Prop := ∃ m, mid C n m ∧ m < n ∧ l = sl C 0 m ∧ r = sl C (m + 1) (n - (m + 1)) ∧ okt A P l ∧ okt A P r
theorem gp_un {P C E : Nat → Int} {l r l' r' : List Int} (h : gp A P C n l r) (h2 : gp A P E n l' r') (he : ∀ i, i < n → E i = C i) : l' = l ∧ r' = r := by
  obtain ⟨m, a1, a2, a3, a4, -⟩ := h
  obtain ⟨k, b1, b2, b3, b4, -⟩ := h2
  have := mid_un a1 b1 he
  subst this
  subst a3 a4 b3 b4
  exact ⟨sl_cg (fun i _ _ => he i (by omega)), sl_cg (fun i _ _ => he i (by omega))⟩
theorem gp_cg {P C E : Nat → Int} {l r : List Int} (h : gp A P C n l r) (he : ∀ i, i < n → E i = C i) : gp A P E n l r := by
  obtain ⟨m, a1, a2, a3, a4, a5, a6⟩ := h
  refine ⟨m, ⟨a1.1, fun i hi => ?_, ?_⟩, a2, ?_, ?_, a5, a6⟩
  · rw [he i (by omega)]; exact a1.2.1 i hi
  · rcases a1.2.2 with h1 | h1
    · exact Or.inl h1
    · exact Or.inr (by rw [he m a2]; exact h1)
  · rw [a3]; exact (sl_cg (fun i _ _ => he i (by omega))).symm
  · rw [a4]; exact (sl_cg (fun i _ _ => he i (by omega))).symm
theorem gp_C (h : lnk P R D C n F) {m : Nat} (hm : mid C n m) : (vt (kC R) (at256 P) (fun i => C (0 + i)) (m - 0) ∧ vt (kC R) (at256 P) (fun i => C (m + 1 + i)) (n - (m + 1))) ↔ gp (Ar P) (F 0) C n (sl C 0 m) (sl C (m + 1) (n - (m + 1))) := by
  have hC := h.2.2.2.2.2.2.1
  rw [vt_C h (fun i => (hC _).1), vt_C h (fun i => (hC _).1), sl_sh, sl_sh]
  constructor
  · rintro ⟨h1, h2⟩
    refine ⟨m, hm, ?_, rfl, rfl, h1, h2⟩
    have := hm.1
    by_cases e : m = n
    · exfalso
      have := h2.2.1
      rw [e, show n - (n + 1) = 0 by omega] at this
      exact this
    · omega
  · rintro ⟨k, h1, -, -, -, h2, h3⟩
    exact ⟨h2, h3⟩
end IV

/-! Renaming is a map of the variables; pairs renamed; what becomes of a pair that is added. -/
section NA
variable {A : Int → Nat}
/-- a state of renaming -/
def qg (q : (Nat → Int) × Int) : Prop := 0 ≤ q.2 ∧ (∀ i, 0 ≤ q.1 i ∧ q.1 i ≤ q.2) ∧ ∀ i j, q.1 i = q.1 j → q.1 i ≠ 0 → i = j
theorem qg_00 : qg q00 := ⟨Int.le_refl _, fun _ => ⟨Int.le_refl _, Int.le_refl _⟩, fun _ _ _ h => absurd rfl h⟩
theorem rs_old {q : (Nat → Int) × Int} {c : Int} (h : c < 117 ∨ q.1 (c - 117).toNat ≠ 0) : rs q c = q := by
  unfold rs
  rcases h with h | h
  · rw [if_pos h]
  · by_cases h1 : c < 117
    · rw [if_pos h1]
    · rw [if_neg h1, if_neg h]
theorem rs_new {q : (Nat → Int) × Int} {c : Int} (h1 : 117 ≤ c) (h : q.1 (c - 117).toNat = 0) : rs q c = (ax_up q.1 (c - 117).toNat (q.2 + 1), q.2 + 1) := by
  unfold rs
  rw [if_neg (by omega), if_pos h]
theorem qg_rs {q : (Nat → Int) × Int} (h : qg q) (c : Int) : qg (rs q c) := by
  by_cases h1 : c < 117
  · rw [rs_old (.inl h1)]; exact h
  · by_cases h2 : q.1 (c - 117).toNat = 0
    · rw [rs_new (by omega) h2]
      have h3 := h.1
      refine ⟨show (0 : Int) ≤ q.2 + 1 by omega, fun i => ?_, fun i j hij h0 => ?_⟩
      · show 0 ≤ ax_up q.1 (c - 117).toNat (q.2 + 1) i ∧ ax_up q.1 (c - 117).toNat (q.2 + 1) i ≤ q.2 + 1
        unfold ax_up
        have := h.2.1 i
        split <;> omega
      · have hij' : ax_up q.1 (c - 117).toNat (q.2 + 1) i = ax_up q.1 (c - 117).toNat (q.2 + 1) j := hij
        have h0' : ax_up q.1 (c - 117).toNat (q.2 + 1) i ≠ 0 := h0
        unfold ax_up at hij' h0'
        have hi := h.2.1 i
        have hj := h.2.1 j
        by_cases e1 : i = (c - 117).toNat
        · by_cases e2 : j = (c - 117).toNat
          · rw [e1, e2]
          · rw [if_pos e1, if_neg e2] at hij'; omega
        · by_cases e2 : j = (c - 117).toNat
          · rw [if_neg e1, if_pos e2] at hij'; omega
          · rw [if_neg e1, if_neg e2] at hij'
            rw [if_neg e1] at h0'
            exact h.2.2 i j hij' h0'
    · rw [rs_old (.inr h2)]; exact h
theorem qg_rst : ∀ (w : List Int) (q : (Nat → Int) × Int), qg q → qg (rst q w)
  | [], q, h => h
  | c :: w, q, h => qg_rst w _ (qg_rs h c)
theorem rs_keep {q : (Nat → Int) × Int} {i : Nat} (h : q.1 i ≠ 0) (c : Int) : (rs q c).1 i = q.1 i := by
  by_cases h1 : c < 117
  · rw [rs_old (.inl h1)]
  · by_cases h2 : q.1 (c - 117).toNat = 0
    · rw [rs_new (by omega) h2]
      show ax_up q.1 (c - 117).toNat (q.2 + 1) i = q.1 i
      unfold ax_up
      rw [if_neg]
      rintro rfl
      exact h h2
    · rw [rs_old (.inr h2)]
theorem rst_keep : ∀ (w : List Int) (q : (Nat → Int) × Int) (i : Nat), q.1 i ≠ 0 → (rst q w).1 i = q.1 i
  | [], q, i, h => rfl
  | c :: w, q, i, h => by
    have := rs_keep h c
    show (rst (rs q c) w).1 i = q.1 i
    rw [rst_keep w (rs q c) i (by rw [this]; exact h), this]
theorem rs_in {q : (Nat → Int) × Int} (hq : qg q) {c : Int} (h : 117 ≤ c) : (rs q c).1 (c - 117).toNat ≠ 0 := by
  by_cases h2 : q.1 (c - 117).toNat = 0
  · rw [rs_new h h2]
    show ax_up q.1 (c - 117).toNat (q.2 + 1) (c - 117).toNat ≠ 0
    unfold ax_up
    rw [if_pos rfl]
    have := hq.1
    omega
  · rw [rs_old (.inr h2)]; exact h2
theorem rst_in : ∀ (w : List Int) (q : (Nat → Int) × Int), qg q → ∀ c, c ∈ w → 117 ≤ c → (rst q w).1 (c - 117).toNat ≠ 0
  | [], q, _, c, hc, _ => by cases hc
  | d :: w, q, hq, c, hc, h1 => by
    rcases List.mem_cons.1 hc with rfl | h2
    · have := rs_in hq h1
      show (rst (rs q c) w).1 (c - 117).toNat ≠ 0
      rw [rst_keep w _ _ this]
      exact this
    · exact rst_in w _ (qg_rs hq d) c h2 h1
theorem rl_old {q : (Nat → Int) × Int} {c : Int} (h1 : 117 ≤ c) (h : q.1 (c - 117).toNat ≠ 0) : rl q c = 116 + q.1 (c - 117).toNat := by
  unfold rl
  rw [if_neg (by omega), rs_old (.inr h)]
  omega
theorem rl_rok2 {q : (Nat → Int) × Int} (h : qg q) : rok2 (rl q) := by
  refine ⟨fun c hc => by unfold rl; rw [if_pos hc], fun c hc => ?_⟩
  have h1 := rs_in h hc
  have h2 := (qg_rs h c).2.1 (c - 117).toNat
  unfold rl
  rw [if_neg (by omega)]
  omega
theorem rnl_rl : ∀ (w : List Int) (q : (Nat → Int) × Int), qg q → rnl q w = w.map (rl (rst q w))
  | [], q, _ => rfl
  | c :: w, q, hq => by
    have ih := rnl_rl w (rs q c) (qg_rs hq c)
    show rl q c :: rnl (rs q c) w = rl (rst (rs q c) w) c :: w.map (rl (rst (rs q c) w))
    rw [ih]
    refine congrArg (· :: _) ?_
    by_cases hc : c < 117
    · unfold rl; rw [if_pos hc, if_pos hc]
    · have h1 := rs_in hq (show 117 ≤ c by omega)
      have h2 := rst_keep w (rs q c) _ h1
      have h3 : rl (rst (rs q c) w) c = 116 + (rst (rs q c) w).1 (c - 117).toNat := rl_old (by omega) (by rw [h2]; exact h1)
      rw [h3, h2]
      unfold rl
      rw [if_neg hc]
      omega
theorem ex_inv {K : Int → Prop} {f : Int → Int} (h : ∀ c d, K c → K d → f c = f d → c = d) : ∃ g : Int → Int, ∀ c, K c → g (f c) = c := by
  refine ⟨fun y => @dite _ (∃ c, K c ∧ f c = y) (Classical.propDecidable _) (fun hy => Classical.choose hy) (fun _ => y), fun c hc => ?_⟩
  have hy : ∃ d, K d ∧ f d = f c := ⟨c, hc, rfl⟩
  show @dite _ (∃ d, K d ∧ f d = f c) (Classical.propDecidable _) (fun hy => Classical.choose hy) (fun _ => f c) = c
  rw [dif_pos hy]
  have := Classical.choose_spec hy
  exact h _ _ this.1 hc this.2
/-- a pair renamed, and how many variables it has -/
def rnp (l r : List Int) : List Int × List Int := (rnl q00 l, rnl (rst q00 l) r)
def rnc (l r : List Int) : Int := (rst (rst q00 l) r).2
theorem rnp_app (l r : List Int) : (rnp l r).1 ++ (rnp l r).2 = rnl q00 (l ++ r) := (rnl_app l r q00).symm
theorem rnp_of {l r x : List Int} (h : rnl q00 (l ++ r) = x) : rnp l r = (x.take l.length, x.drop l.length) := by
  rw [← h, rnl_app]
  have := rnl_len l q00
  rw [← this, List.take_left, List.drop_left]
  rfl
theorem rnp_map {K : Int → Prop} {f g : Int → Int} (hf : rok2 f) (hg : ∀ c, K c → g (f c) = c) {l r : List Int} (hl : al K l) (hr : al K r) : rnp (l.map f) (r.map f) = rnp l r ∧ rnc (l.map f) (r.map f) = rnc l r := by
  have h := rnl_map hf hg (al_app hl hr)
  rw [List.map_append] at h
  refine ⟨?_, ?_⟩
  · rw [rnp_of h.1, rnp_of (l := l) (r := r) rfl, List.length_map]
  · unfold rnc
    rw [← rst_app, ← rst_app]
    exact h.2
/-- the letters of a pair -/
def inp (l r : List Int) (c : Int) : Prop := c ∈ l ++ r
theorem rnp_is (l r : List Int) : ∃ f g : Int → Int, rok2 f ∧ (∀ c, inp l r c → g (f c) = c) ∧ rnp l r = (l.map f, r.map f) := by
  have hq := qg_rst (l ++ r) q00 qg_00
  have hin := rst_in (l ++ r) q00 qg_00
  have hr := rl_rok2 hq
  obtain ⟨g, hg⟩ := ex_inv (K := inp l r) (f := rl (rst q00 (l ++ r))) (by
    intro c d hc hd h
    by_cases h1 : c < 117
    · by_cases h2 : d < 117
      · rw [hr.1 c h1, hr.1 d h2] at h; exact h
      · have := hr.2 d (by omega)
        rw [hr.1 c h1] at h
        omega
    · by_cases h2 : d < 117
      · have := hr.2 c (by omega)
        rw [hr.1 d h2] at h
        omega
      · have e1 := hin c hc (by omega)
        have e2 := hin d hd (by omega)
        rw [rl_old (by omega) e1, rl_old (by omega) e2] at h
        have := hq.2.2 (c - 117).toNat (d - 117).toNat (by omega) e1
        omega)
  refine ⟨_, g, hr, hg, ?_⟩
  rw [rnp_of (rnl_rl (l ++ r) q00 qg_00), List.map_append]
  refine Prod.ext ?_ ?_
  · show (List.map _ l ++ List.map _ r).take l.length = _
    rw [List.take_left' (by rw [List.length_map])]
  · show (List.map _ l ++ List.map _ r).drop l.length = _
    rw [List.drop_left' (by rw [List.length_map])]
theorem inl_al {l r : List Int} : al (inp l r) l := fun _ h => List.mem_append.2 (.inl h)
theorem inr_al {l r : List Int} : al (inp l r) r := fun _ h => List.mem_append.2 (.inr h)
theorem rnp_idem (l r : List Int) : rnp (rnp l r).1 (rnp l r).2 = rnp l r ∧ rnc (rnp l r).1 (rnp l r).2 = rnc l r := by
  obtain ⟨f, g, hf, hg, e⟩ := rnp_is l r
  have := rnp_map hf hg (l := l) (r := r) inl_al inr_al
  rw [e]
  rw [this.1, e]
  exact ⟨rfl, this.2⟩
/-- exchanged, renamed, exchanged again, renamed again -/
theorem rnp_swap (l r : List Int) (h : rnp l r = (l, r)) : rnp (rnp r l).2 (rnp r l).1 = (l, r) := by
  obtain ⟨f, g, hf, hg, e⟩ := rnp_is r l
  rw [e]
  have := rnp_map (K := inp r l) hf hg (l := l) (r := r) inr_al inl_al
  rw [this.1, h]
theorem rnp_len (l r : List Int) : (rnp l r).1.length = l.length ∧ (rnp l r).2.length = r.length := ⟨rnl_len _ _, rnl_len _ _⟩
theorem rnp_ts (hA : ∀ c, 117 ≤ c → A c = 0) {l r : List Int} {n m : Nat} (hl : ts A n l) (hr : ts A m r) : ts A n (rnp l r).1 ∧ ts A m (rnp l r).2 := by
  obtain ⟨f, g, hf, hg, e⟩ := rnp_is l r
  rw [e]
  exact ⟨ts_map hA hf l n hl, ts_map hA hf r m hr⟩
/-- renaming changes nothing on the right if its variables come on the left, and that is renamed -/
theorem rnp_right {l r : List Int} (h : rnl q00 l = l) (hr : ∀ c, c ∈ r → 117 ≤ c → c ∈ l) : rnp l r = (l, r) := by
  have hq := qg_rst l q00 qg_00
  have h1 : l.map (rl (rst q00 l)) = l := by rw [← rnl_rl l q00 qg_00, h]
  have h2 : ∀ c, c ∈ l → rl (rst q00 l) c = c := by
    intro c hc
    rw [← List.map_id l] at h1
    have h1' : l.map (rl (rst q00 l)) = l.map id := by simpa using h1
    exact (List.map_inj_left.1 h1') c hc
  have h3 : ∀ r : List Int, (∀ c, c ∈ r → 117 ≤ c → c ∈ l) → rnl (rst q00 l) r = r := by
    intro r
    induction r with
    | nil => intro _; rfl
    | cons c r ih =>
      intro hr
      have hc : rs (rst q00 l) c = rst q00 l := by
        by_cases h1 : c < 117
        · exact rs_old (.inl h1)
        · exact rs_old (.inr (rst_in l q00 qg_00 c (hr c (List.mem_cons_self ..) (by omega)) (by omega)))
      show rl (rst q00 l) c :: rnl (rs (rst q00 l) c) r = c :: r
      rw [hc, ih (fun x hx => hr x (List.mem_cons_of_mem _ hx))]
      refine congrArg (· :: r) ?_
      by_cases h1 : c < 117
      · exact (rl_rok2 hq).1 c h1
      · exact h2 c (hr c (List.mem_cons_self ..) (by omega))
  unfold rnp
  rw [h, h3 r hr]
theorem rnp_below (l r : List Int) : al (fun c => c < 117 + rnc l r) (rnp l r).1 ∧ al (fun c => c < 117 + rnc l r) (rnp l r).2 := by
  have hq := qg_rst (l ++ r) q00 qg_00
  have h : al (fun c => c < 117 + rnc l r) (rnl q00 (l ++ r)) := by
    intro c hc
    rw [rnl_rl _ _ qg_00] at hc
    obtain ⟨x, hx, e⟩ := List.mem_map.1 hc
    have e2 : rnc l r = (rst q00 (l ++ r)).2 := by unfold rnc; rw [rst_app]
    show c < 117 + rnc l r
    rw [e2]
    have h0 := hq.1
    by_cases h1 : x < 117
    · rw [(rl_rok2 hq).1 x h1] at e; omega
    · have h2 := rst_in (l ++ r) q00 qg_00 x hx (by omega)
      rw [rl_old (by omega) h2] at e
      have := hq.2.1 (x - 117).toNat
      omega
  rw [← rnp_app] at h
  exact ⟨fun c hc => h c (List.mem_append.2 (.inl hc)), fun c hc => h c (List.mem_append.2 (.inr hc))⟩
/-- how many of the first n are not zero -/
def nz (F : Nat → Int) : Nat → Int
  | 0 => 0
  | n + 1 => nz F n + if F n = 0 then 0 else 1
theorem nz_le (F : Nat → Int) : ∀ n : Nat, nz F n ≤ n
  | 0 => by show (0 : Int) ≤ _; omega
  | n + 1 => by
    have := nz_le F n
    show nz F n + (if F n = 0 then 0 else 1) ≤ ((n + 1 : Nat) : Int)
    split <;> omega
theorem nz_off (F : Nat → Int) (i : Nat) (v : Int) : ∀ n : Nat, n ≤ i → nz (ax_up F i v) n = nz F n
  | 0, _ => rfl
  | n + 1, h => by
    show nz (ax_up F i v) n + (if ax_up F i v n = 0 then 0 else 1) = nz F n + (if F n = 0 then 0 else 1)
    rw [nz_off F i v n (by omega), show ax_up F i v n = F n from if_neg (by omega)]
theorem nz_up (F : Nat → Int) (i : Nat) (v : Int) (h0 : F i = 0) (hv : v ≠ 0) : ∀ n : Nat, i < n → nz (ax_up F i v) n = nz F n + 1
  | 0, h => by omega
  | n + 1, h => by
    show nz (ax_up F i v) n + (if ax_up F i v n = 0 then 0 else 1) = nz F n + (if F n = 0 then 0 else 1) + 1
    by_cases e : n = i
    · subst e
      rw [nz_off F n v n (Nat.le_refl _), show ax_up F n v n = v from if_pos rfl, if_neg hv, if_pos h0]
      omega
    · rw [nz_up F i v h0 hv n (by omega), show ax_up F i v n = F n from if_neg e]
      omega
theorem rst_cnt {N : Nat} : ∀ (w : List Int) (q : (Nat → Int) × Int), qg q → q.2 = nz q.1 N → al (fun c => c < 117 + N) w → (rst q w).2 = nz (rst q w).1 N
  | [], q, _, h, _ => h
  | c :: w, q, hq, h, hw => by
    refine rst_cnt w (rs q c) (qg_rs hq c) ?_ (fun x hx => hw x (List.mem_cons_of_mem _ hx))
    have hc := hw c (List.mem_cons_self ..)
    by_cases h1 : c < 117
    · rw [rs_old (.inl h1)]; exact h
    · by_cases h2 : q.1 (c - 117).toNat = 0
      · rw [rs_new (by omega) h2]
        show q.2 + 1 = nz (ax_up q.1 (c - 117).toNat (q.2 + 1)) N
        rw [nz_up _ _ _ h2 (by have := hq.1; omega) N (by omega), h]
      · rw [rs_old (.inr h2)]; exact h
theorem rnc_le {N : Nat} {l r : List Int} (hl : al (fun c => c < 117 + N) l) (hr : al (fun c => c < 117 + N) r) : rnc l r ≤ N := by
  unfold rnc
  rw [← rst_app]
  have h0 : ∀ n : Nat, nz q00.1 n = 0 := by
    intro n
    induction n with
    | zero => rfl
    | succ n ih => show nz q00.1 n + (if (0 : Int) = 0 then 0 else 1) = 0; rw [ih]; rfl
  rw [rst_cnt (l ++ r) q00 qg_00 (by rw [h0]; rfl) (al_app hl hr)]
  exact nz_le _ N
/-- a pair is added: the waiting ones then, none if there is no room -/
def ah (A : Int → Nat) (Rs Vs : rls) (l r : List Int) : Option rls := match nf A Rs 40 l, nf A Rs 40 r with
  | some a, some b => if a.1 = b.1 then some Vs else if 6 < rnc a.1 b.1 then none else
      if rnp a.1 b.1 ∈ Vs ∨ rnp (rnp a.1 b.1).2 (rnp a.1 b.1).1 ∈ Vs then some Vs else if 48 ≤ Vs.length then none else some (Vs ++ [rnp a.1 b.1])
  | _, _ => none
theorem ah_map (hA : ∀ c, 117 ≤ c → A c = 0) {K : Int → Prop} {f g : Int → Int} (hf : rok2 f) (hg : ∀ c, K c → g (f c) = c) {Rs Vs : rls} (hR : ∀ q, q ∈ Rs → rok A q ∧ ∀ c, c ∈ q.2 → c < 117 → K c) {l r : List Int} {n m : Nat} (hl : ts A n l) (hr : ts A m r) (hKl : al K l) (hKr : al K r) : ah A Rs Vs (l.map f) (r.map f) = ah A Rs Vs l r := by
  unfold ah
  rw [nf_map hA hf hg hR 40 l n hl hKl, nf_map hA hf hg hR 40 r m hr hKr]
  cases ha : nf A Rs 40 l with
  | none => rfl
  | some a =>
    cases hb : nf A Rs 40 r with
    | none => rfl
    | some b =>
      have h1 := nf_ok hA hR 40 l a.1 n a.2 hl hKl ha
      have h2 := nf_ok hA hR 40 r b.1 m b.2 hr hKr hb
      have h3 := rnp_map hf hg h1.2.1 h2.2.1
      show (if a.1.map f = b.1.map f then _ else _) = (if a.1 = b.1 then _ else _)
      by_cases e : a.1 = b.1
      · rw [if_pos e, if_pos (by rw [e])]
      · rw [if_neg e, if_neg (fun h => e (map_inj hg h1.2.1 h2.2.1 h))]
        show (if 6 < rnc (a.1.map f) (b.1.map f) then _ else if rnp (a.1.map f) (b.1.map f) ∈ Vs ∨ _ then _ else _) = _
        rw [h3.1, h3.2]
end NA

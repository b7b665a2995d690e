/-! What holds of the rules and of the waiting pairs, and stays so. -/
section KP
variable {A : Int → Nat} {P : Nat → Int} {R : Int → Int}
/-- a pair's sides are terms of known letters, renamed -/
def okv (A : Int → Nat) (P : Nat → Int) (q : List Int × List Int) : Prop := (ts A 1 q.1 ∧ ts A 1 q.2) ∧ (q.1.length ≤ 24 ∧ q.2.length ≤ 24) ∧ (al (kn P 123) q.1 ∧ al (kn P 123) q.2) ∧ rnp q.1 q.2 = q
/-- and it is a rule -/
def okr (A : Int → Nat) (P : Nat → Int) (q : List Int × List Int) : Prop := okv A P q ∧ rok A q
theorem kn_lt {N c : Int} (h : kn P N c) : 97 ≤ c ∧ (c < 117 → c ≤ 104) ∧ (c < 117 ∨ c < N) := by
  unfold kn at h
  omega
theorem kn_sym {N M c : Int} (h : kn P N c) (hc : c < 117) : kn P M c := by
  rcases h with h | h
  · exact .inl h
  · omega
theorem kn_var {N c : Int} (h1 : 117 ≤ c) (h2 : c < N) : kn P N c := .inr ⟨h1, h2⟩
/-- normal forms by good rules -/
theorem nf_kn (hA : ∀ c, 117 ≤ c → A c = 0) {Rs : rls} (hR : ∀ q, q ∈ Rs → okr A P q) {N : Int} {u x : List Int} {m : Nat} (hu : ts A 1 u) (hK : al (kn P N) u) (h : nf A Rs 40 u = some (x, m)) : ts A 1 x ∧ al (kn P N) x ∧ x.length ≤ 24 := nf_ok hA (fun q hq => ⟨(hR q hq).2, fun c hc h1 => kn_sym ((hR q hq).1.2.2.1.2 c hc) h1⟩) 40 u x 1 m hu hK h
theorem rnp_kn {N : Int} {l r : List Int} (hl : al (kn P N) l) (hr : al (kn P N) r) : al (kn P (117 + rnc l r)) (rnp l r).1 ∧ al (kn P (117 + rnc l r)) (rnp l r).2 := by
  obtain ⟨f, g, hf, hg, e⟩ := rnp_is l r
  have hb := rnp_below l r
  rw [e] at hb ⊢
  have key : ∀ w : List Int, al (kn P N) w → al (fun c => c < 117 + rnc l r) (w.map f) → al (kn P (117 + rnc l r)) (w.map f) := by
    intro w hw hb c hc
    obtain ⟨x, hx, rfl⟩ := List.mem_map.1 hc
    by_cases h1 : x < 117
    · rw [hf.1 x h1]
      exact kn_sym (hw x hx) h1
    · exact kn_var (hf.2 x (by omega)) (hb _ hc)
  exact ⟨key l hl hb.1, key r hr hb.2⟩
theorem al_kn {N M : Int} (h : N ≤ M) {w : List Int} (hw : al (kn P N) w) : al (kn P M) w := fun c hc => kn_mono h (hw c hc)
/-- a pair renamed, with few variables -/
theorem rnp_okv (hA : ∀ c, 117 ≤ c → A c = 0) {N : Int} {l r : List Int} (hl : ts A 1 l) (hr : ts A 1 r) (l1 : l.length ≤ 24) (l2 : r.length ≤ 24) (k1 : al (kn P N) l) (k2 : al (kn P N) r) (h6 : rnc l r ≤ 6) : okv A P (rnp l r) := by
  have h1 := rnp_ts hA hl hr
  have h2 := rnp_len l r
  have h3 := rnp_kn k1 k2
  exact ⟨h1, ⟨by omega, by omega⟩, ⟨al_kn (by omega) h3.1, al_kn (by omega) h3.2⟩, (rnp_idem l r).1⟩
theorem kn_few {l r : List Int} (k1 : al (kn P 123) l) (k2 : al (kn P 123) r) : rnc l r ≤ 6 := rnc_le (N := 6) (fun c hc => by have := kn_lt (k1 c hc); show c < 117 + ((6 : Nat) : Int); omega) (fun c hc => by have := kn_lt (k2 c hc); show c < 117 + ((6 : Nat) : Int); omega)
theorem ah_okv (hA : ∀ c, 117 ≤ c → A c = 0) {Rs Vs V : rls} (hR : ∀ q, q ∈ Rs → okr A P q) (hV : ∀ q, q ∈ Vs → okv A P q) {N : Int} {l r : List Int} (hl : ts A 1 l) (hr : ts A 1 r) (k1 : al (kn P N) l) (k2 : al (kn P N) r) (h : ah A Rs Vs l r = some V) : (∀ q, q ∈ V → okv A P q) ∧ (Vs.length ≤ 48 → V.length ≤ 48) := by
  unfold ah at h
  cases ha : nf A Rs 40 l with
  | none => rw [ha] at h; cases h
  | some a =>
    cases hb : nf A Rs 40 r with
    | none => rw [ha, hb] at h; cases h
    | some b =>
      rw [ha, hb] at h
      have na := nf_kn hA hR hl k1 (show nf A Rs 40 l = some (a.1, a.2) from ha)
      have nb := nf_kn hA hR hr k2 (show nf A Rs 40 r = some (b.1, b.2) from hb)
      have h' : (if a.1 = b.1 then some Vs else if 6 < rnc a.1 b.1 then none else
      if rnp a.1 b.1 ∈ Vs ∨ rnp (rnp a.1 b.1).2 (rnp a.1 b.1).1 ∈ Vs then some Vs else if 48 ≤ Vs.length then none else some (Vs ++ [rnp a.1 b.1])) = some V := h
      by_cases c1 : a.1 = b.1
      · rw [if_pos c1] at h'
        rw [← Option.some.inj h']
        exact ⟨hV, fun h => h⟩
      · rw [if_neg c1] at h'
        by_cases c2 : 6 < rnc a.1 b.1
        · rw [if_pos c2] at h'; cases h'
        · rw [if_neg c2] at h'
          by_cases c3 : rnp a.1 b.1 ∈ Vs ∨ rnp (rnp a.1 b.1).2 (rnp a.1 b.1).1 ∈ Vs
          · rw [if_pos c3] at h'
            rw [← Option.some.inj h']
            exact ⟨hV, fun h => h⟩
          · rw [if_neg c3] at h'
            by_cases c4 : 48 ≤ Vs.length
            · rw [if_pos c4] at h'; cases h'
            · rw [if_neg c4] at h'
              rw [← Option.some.inj h']
              refine ⟨fun q hq => ?_, fun _ => by rw [List.length_append, List.length_singleton]; omega⟩
              rcases List.mem_append.1 hq with hq | hq
              · exact hV q hq
              · rw [List.mem_singleton.1 hq]
                exact rnp_okv hA na.1 nb.1 na.2.2 nb.2.2 na.2.1 nb.2.1 (by omega)
/-- pairs added one after the other -/
theorem ada_okv (hA : ∀ c, 117 ≤ c → A c = 0) {Rs : rls} (hR : ∀ q, q ∈ Rs → okr A P q) : ∀ (ks Vs : rls), (∀ q, q ∈ ks → okv A P q) → (∀ q, q ∈ Vs → okv A P q) → Vs.length ≤ 48 → (∀ q, q ∈ (ada A Rs Vs ks).1 → okv A P q) ∧ (ada A Rs Vs ks).1.length ≤ 48
  | [], Vs, _, hV, hl => ⟨hV, hl⟩
  | q :: ks, Vs, hk, hV, hl => by
    have hq := hk q (List.mem_cons_self ..)
    unfold ada
    cases ha : ah A Rs Vs q.1 q.2 with
    | none => exact ⟨hV, hl⟩
    | some V =>
      have := ah_okv hA hR hV hq.1.1 hq.1.2 hq.2.2.1.1 hq.2.2.1.2 ha
      exact ada_okv hA hR ks V (fun q hq => hk q (List.mem_cons_of_mem _ hq)) this.1 (this.2 hl)
/-- the right sides brought to their normal forms -/
theorem stl_okr (hA : ∀ c, 117 ≤ c → A c = 0) : ∀ (m k : Nat) (Rs : rls), k + m ≤ Rs.length → (∀ q, q ∈ Rs → okr A P q) → (∀ q, q ∈ (stl A k m Rs).1 → okr A P q) ∧ (stl A k m Rs).1.length = Rs.length
  | 0, k, Rs, _, hR => ⟨hR, rfl⟩
  | m + 1, k, Rs, hk, hR => by
    unfold stl
    have hq : okr A P (Rs.getD k q_no) := by
      rw [List.getD_eq_getElem?_getD, List.getElem?_eq_getElem (show k < Rs.length by omega)]
      exact hR _ (List.getElem_mem _)
    cases hn : nf A Rs 40 (Rs.getD k q_no).2 with
    | none => exact ⟨hR, rfl⟩
    | some w =>
      have hw := nf_kn hA hR hq.1.1.2 hq.1.2.2.1.2 (show nf A Rs 40 (Rs.getD k q_no).2 = some (w.1, w.2) from hn)
      have hvars : ∀ c, c ∈ w.1 → 117 ≤ c → c ∈ (Rs.getD k q_no).1 := by
        have := (nf_ok (K := fun c => c < 117 ∨ c ∈ (Rs.getD k q_no).1) hA (fun q hq => ⟨(hR q hq).2, fun c _ h1 => .inl h1⟩) 40 (Rs.getD k q_no).2 w.1 1 w.2 hq.1.1.2 (fun c hc => by
          by_cases h1 : c < 117
          · exact .inl h1
          · exact .inr (hq.2.2.2.2 c hc (by omega))) hn).2.1
        intro c hc h1
        rcases this c hc with h2 | h2
        · omega
        · exact h2
      have hl1 : rnl q00 (Rs.getD k q_no).1 = (Rs.getD k q_no).1 := congrArg Prod.fst hq.1.2.2.2
      have hnew : okr A P ((Rs.getD k q_no).1, w.1) := ⟨⟨⟨hq.1.1.1, hw.1⟩, ⟨hq.1.2.1.1, hw.2.2⟩, ⟨hq.1.2.2.1.1, hw.2.1⟩, rnp_right hl1 hvars⟩, hq.2.1, hw.1, hq.2.2.2.1, hvars⟩
      have := stl_okr hA m (k + 1) (Rs.set k ((Rs.getD k q_no).1, w.1)) (by rw [List.length_set]; omega) (fun q hq => by
        rcases List.mem_or_eq_of_mem_set hq with h1 | h1
        · exact hR q h1
        · rw [h1]; exact hnew)
      rw [List.length_set] at this
      exact this
/-- the new rule -/
theorem new_okr (hA : ∀ c, 117 ≤ c → A c = 0) {a b : List Int} (ha : ts A 1 a) (hb : ts A 1 b) (l1 : a.length ≤ 24) (l2 : b.length ≤ 24) (k1 : al (kn P 123) a) (k2 : al (kn P 123) b) (h : pgt A R a b) : okr A P (rnp a b) := by
  refine ⟨rnp_okv hA ha hb l1 l2 k1 k2 (kn_few k1 k2), ?_⟩
  have ht := rnp_ts hA ha hb
  obtain ⟨f, g, hf, hg, e⟩ := rnp_is a b
  rw [e] at ht ⊢
  refine ⟨ht.1, ht.2, ?_, fun c hc h1 => ?_⟩
  · obtain ⟨c, t, rfl, hc⟩ := pgt_sym hA h
    exact ⟨f c, t.map f, rfl, by rw [hf.1 c hc]; exact hc⟩
  · obtain ⟨x, hx, rfl⟩ := List.mem_map.1 hc
    have hx1 : 117 ≤ x := by
      by_cases h2 : x < 117
      · rw [hf.1 x h2] at h1; omega
      · omega
    exact List.mem_map.2 ⟨x, pgt_vars ha hb h x hx hx1, rfl⟩
theorem okr_rok {Rs : rls} (hR : ∀ q, q ∈ Rs → okr A P q) : ∀ q, q ∈ Rs → rok A q := fun q hq => (hR q hq).2
end KP

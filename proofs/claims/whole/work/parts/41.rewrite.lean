/-! Matching and rewriting of words. A letter from 117 on is a variable. -/
section RW
variable {A : Int → Nat}
abbrev sgm : Type := Int → Option (List Int)
def s_up (s : sgm) (c : Int) (t : List Int) : sgm := fun x => if x = c then some t else s x
/-- matching of a pattern with the beginning of a word -/
def mtf (A : Int → Nat) : List Int → List Int → sgm → Option sgm
  | [], _, s => some s
  | _ :: _, [], _ => none
  | c :: p, d :: u, s => if c < 117 then (if c = d then mtf A p u s else none) else match s c with
    | none => mtf A p ((d :: u).drop (tl A 1 (d :: u))) (s_up s c ((d :: u).take (tl A 1 (d :: u))))
    | some t => if t = (d :: u).take (tl A 1 (d :: u)) then mtf A p ((d :: u).drop (tl A 1 (d :: u))) s else none
def s_no : sgm := fun _ => none
/-- what is put for a letter -/
def rc (s : sgm) (c : Int) : List Int := if c < 117 then [c] else (s c).getD [c]
def rb (s : sgm) (r : List Int) : List Int := r.flatMap (rc s)
abbrev rls : Type := List (List Int × List Int)
/-- the first rule that fits at the beginning -/
def fk (A : Int → Nat) : rls → List Int → Option (List Int)
  | [], _ => none
  | q :: Rs, u => match mtf A q.1 u s_no with
    | some s => some (rb s q.2 ++ u.drop (tl A 1 u))
    | none => fk A Rs u
/-- a rewriting at the first place, by the first rule -/
def stp (A : Int → Nat) (Rs : rls) : List Int → Option (List Int)
  | [] => none
  | c :: u => match fk A Rs (c :: u) with
    | some x => some x
    | none => (stp A Rs u).map (c :: ·)
/-- the normal form and how many rewritings, none if it is out of bounds -/
def nf (A : Int → Nat) (Rs : rls) : Nat → List Int → Option (List Int × Nat)
  | 0, w => if 24 < w.length then none else match stp A Rs w with
    | none => some (w, 0)
    | some _ => none
  | n + 1, w => if 24 < w.length then none else match stp A Rs w with
    | none => some (w, 0)
    | some w' => (nf A Rs n w').map fun q => (q.1, q.2 + 1)
/-- a word is made of letters for which K holds -/
def al (K : Int → Prop) (w : List Int) : Prop := ∀ c, c ∈ w → K c
/-- a rule: its sides are terms, the left one no variable, the right one's variables come in it -/
def rok (A : Int → Nat) (q : List Int × List Int) : Prop := ts A 1 q.1 ∧ ts A 1 q.2 ∧ (∃ c u, q.1 = c :: u ∧ c < 117) ∧ ∀ c, c ∈ q.2 → 117 ≤ c → c ∈ q.1
theorem al_app {K : Int → Prop} {u v : List Int} (hu : al K u) (hv : al K v) : al K (u ++ v) := fun c hc => (List.mem_append.1 hc).elim (hu c) (hv c)
theorem al_take {K : Int → Prop} {u : List Int} (h : al K u) (n : Nat) : al K (u.take n) := fun c hc => h c (List.mem_of_mem_take hc)
theorem al_drop {K : Int → Prop} {u : List Int} (h : al K u) (n : Nat) : al K (u.drop n) := fun c hc => h c (List.mem_of_mem_drop hc)
theorem mtf_ok (hA : ∀ c, 117 ≤ c → A c = 0) {K : Int → Prop} : ∀ (p u : List Int) (s s' : sgm) (n k : Nat), ts A n p → ts A (n + k) u → al K u → (∀ c t, s c = some t → ts A 1 t ∧ al K t) → mtf A p u s = some s' →
    (∀ c t, s' c = some t → ts A 1 t ∧ al K t) ∧ (∀ c t, s c = some t → s' c = some t) ∧ ∀ c, c ∈ p → 117 ≤ c → ∃ t, s' c = some t
  | [], u, s, s', n, k, _, _, _, hs, h => by
    have h' : s = s' := Option.some.inj h
    subst h'
    exact ⟨hs, fun _ _ h => h, fun c hc => by cases hc⟩
  | c :: p, [], s, s', n, k, hp, hu, _, hs, h => by cases h
  | c :: p, d :: u, s, s', 0, k, hp, hu, hK, hs, h => hp.elim
  | c :: p, d :: u, s, s', n + 1, k, hp, hu, hK, hs, h => by
    have hp' : ts A (n + A c) p := hp
    have h0 : mtf A (c :: p) (d :: u) s = (if c < 117 then (if c = d then mtf A p u s else none) else match s c with
      | none => mtf A p ((d :: u).drop (tl A 1 (d :: u))) (s_up s c ((d :: u).take (tl A 1 (d :: u))))
      | some t => if t = (d :: u).take (tl A 1 (d :: u)) then mtf A p ((d :: u).drop (tl A 1 (d :: u))) s else none) := rfl
    rw [h0] at h
    by_cases hc : c < 117
    · rw [if_pos hc] at h
      by_cases hd : c = d
      · rw [if_pos hd] at h
        subst hd
        have hu' : ts A (n + A c + k) u := by
          have : ts A (n + 1 + k) (c :: u) := hu
          rw [show n + 1 + k = n + k + 1 by omega] at this
          have h2 : ts A (n + k + A c) u := this
          rwa [show n + k + A c = n + A c + k by omega] at h2
        have := mtf_ok hA p u s s' _ k hp' hu' (fun x hx => hK x (List.mem_cons_of_mem _ hx)) hs h
        refine ⟨this.1, this.2.1, fun x hx h1 => ?_⟩
        rcases List.mem_cons.1 hx with rfl | h2
        · omega
        · exact this.2.2 x h2 h1
      · rw [if_neg hd] at h; cases h
    · rw [if_neg hc] at h
      have hA0 : A c = 0 := hA c (by omega)
      rw [hA0, Nat.add_zero] at hp'
      rw [show n + 1 + k = 1 + (n + k) by omega] at hu
      have hsp := ts_split _ 1 (n + k) hu
      cases hsc : s c with
      | none =>
        rw [hsc] at h
        have := mtf_ok hA p _ _ s' n k hp' hsp.2 (al_drop hK _) (by
          intro x t hx
          unfold s_up at hx
          split at hx
          · rw [← Option.some.inj hx]; exact ⟨hsp.1, al_take hK _⟩
          · exact hs x t hx) h
        refine ⟨this.1, fun x t hx => this.2.1 x t ?_, fun x hx h1 => ?_⟩
        · unfold s_up
          by_cases hxc : x = c
          · rw [hxc, hsc] at hx; cases hx
          · rw [if_neg hxc]; exact hx
        · rcases List.mem_cons.1 hx with rfl | h2
          · exact ⟨_, this.2.1 x _ (by unfold s_up; rw [if_pos rfl])⟩
          · exact this.2.2 x h2 h1
      | some t =>
        rw [hsc] at h
        by_cases ht : t = (d :: u).take (tl A 1 (d :: u))
        · rw [show (match (some t : Option (List Int)) with
            | none => mtf A p ((d :: u).drop (tl A 1 (d :: u))) (s_up s c ((d :: u).take (tl A 1 (d :: u))))
            | some t => if t = (d :: u).take (tl A 1 (d :: u)) then mtf A p ((d :: u).drop (tl A 1 (d :: u))) s else none) = mtf A p ((d :: u).drop (tl A 1 (d :: u))) s from if_pos ht] at h
          have := mtf_ok hA p _ s s' n k hp' hsp.2 (al_drop hK _) hs h
          refine ⟨this.1, this.2.1, fun x hx h1 => ?_⟩
          rcases List.mem_cons.1 hx with rfl | h2
          · exact ⟨t, this.2.1 x t hsc⟩
          · exact this.2.2 x h2 h1
        · rw [show (match (some t : Option (List Int)) with
            | none => mtf A p ((d :: u).drop (tl A 1 (d :: u))) (s_up s c ((d :: u).take (tl A 1 (d :: u))))
            | some t => if t = (d :: u).take (tl A 1 (d :: u)) then mtf A p ((d :: u).drop (tl A 1 (d :: u))) s else none) = none from if_neg ht] at h
          cases h
/-- a word into which terms are put is as many terms -/
theorem ts_put (f : Int → List Int) (hf : ∀ c, 117 ≤ c → A c = 0) (hs : ∀ c, c < 117 → f c = [c]) : ∀ (u : List Int) (n : Nat), (∀ c, c ∈ u → 117 ≤ c → ts A 1 (f c)) → ts A n u → ts A n (u.flatMap f)
  | [], n, _, h => h
  | c :: u, 0, _, h => h.elim
  | c :: u, n + 1, ht, h => by
    have h' : ts A (n + A c) u := h
    have ih := ts_put f hf hs u (n + A c) (fun x hx => ht x (List.mem_cons_of_mem _ hx)) h'
    rw [List.flatMap_cons]
    by_cases hc : c < 117
    · rw [hs c hc]; exact ih
    · rw [hf c (by omega), Nat.add_zero] at ih
      rw [Nat.add_comm n 1]
      exact ts_app _ 1 n _ (ht c (List.mem_cons_self ..) (by omega)) ih
theorem fk_ok (hA : ∀ c, 117 ≤ c → A c = 0) {K : Int → Prop} : ∀ (Rs : rls) (u x : List Int) (n : Nat), (∀ q, q ∈ Rs → rok A q ∧ ∀ c, c ∈ q.2 → c < 117 → K c) → ts A (1 + n) u → al K u → fk A Rs u = some x → ts A (1 + n) x ∧ al K x
  | [], u, x, n, _, _, _, h => by cases h
  | q :: Rs, u, x, n, hR, hu, hK, h => by
    have h0 : fk A (q :: Rs) u = match mtf A q.1 u s_no with
      | some s => some (rb s q.2 ++ u.drop (tl A 1 u))
      | none => fk A Rs u := rfl
    rw [h0] at h
    have hq := hR q (List.mem_cons_self ..)
    cases hm : mtf A q.1 u s_no with
    | none => rw [hm] at h; exact fk_ok hA Rs u x n (fun q hq => hR q (List.mem_cons_of_mem _ hq)) hu hK h
    | some s =>
      rw [hm] at h
      have hx : rb s q.2 ++ u.drop (tl A 1 u) = x := Option.some.inj h
      have hm' := mtf_ok (K := K) hA q.1 u s_no s 1 n hq.1.1 hu hK (fun c t h => by cases h) hm
      have hsp := ts_split u 1 n hu
      subst hx
      constructor
      · refine ts_app _ 1 n _ (ts_put (rc s) hA (fun c hc => by unfold rc; rw [if_pos hc]) q.2 1 (fun c hc h1 => ?_) hq.1.2.1) hsp.2
        obtain ⟨t, ht⟩ := hm'.2.2 c (hq.1.2.2.2 c hc h1) h1
        unfold rc
        rw [if_neg (by omega), ht]
        exact (hm'.1 c t ht).1
      · refine al_app (fun c hc => ?_) (al_drop hK _)
        obtain ⟨y, hy, hcy⟩ := List.mem_flatMap.1 hc
        unfold rc at hcy
        by_cases h1 : y < 117
        · rw [if_pos h1] at hcy
          rw [List.mem_singleton.1 hcy]
          exact hq.2 y hy h1
        · rw [if_neg h1] at hcy
          obtain ⟨t, ht⟩ := hm'.2.2 y (hq.1.2.2.2 y hy (by omega)) (by omega)
          rw [ht] at hcy
          exact (hm'.1 y t ht).2 c hcy
theorem stp_ok (hA : ∀ c, 117 ≤ c → A c = 0) {K : Int → Prop} {Rs : rls} (hR : ∀ q, q ∈ Rs → rok A q ∧ ∀ c, c ∈ q.2 → c < 117 → K c) : ∀ (u x : List Int) (n : Nat), ts A n u → al K u → stp A Rs u = some x → ts A n x ∧ al K x
  | [], x, n, _, _, h => by cases h
  | c :: u, x, 0, hu, _, h => hu.elim
  | c :: u, x, n + 1, hu, hK, h => by
    have h0 : stp A Rs (c :: u) = match fk A Rs (c :: u) with
      | some x => some x
      | none => (stp A Rs u).map (c :: ·) := rfl
    rw [h0] at h
    cases hf : fk A Rs (c :: u) with
    | some y =>
      rw [hf] at h
      have := fk_ok (K := K) hA Rs (c :: u) y n hR (by rw [Nat.add_comm]; exact hu) hK hf
      rw [← Option.some.inj h, Nat.add_comm n 1]
      exact this
    | none =>
      rw [hf] at h
      cases hu2 : stp A Rs u with
      | none => rw [hu2] at h; cases h
      | some y =>
        rw [hu2] at h
        have := stp_ok hA hR u y (n + A c) hu (fun x hx => hK x (List.mem_cons_of_mem _ hx)) hu2
        rw [← Option.some.inj h]
        exact ⟨this.1, fun x hx => (List.mem_cons.1 hx).elim (fun h => h ▸ hK c (List.mem_cons_self ..)) (this.2 x)⟩
theorem nf_ok (hA : ∀ c, 117 ≤ c → A c = 0) {K : Int → Prop} {Rs : rls} (hR : ∀ q, q ∈ Rs → rok A q ∧ ∀ c, c ∈ q.2 → c < 117 → K c) : ∀ (f : Nat) (u x : List Int) (n m : Nat), ts A n u → al K u → nf A Rs f u = some (x, m) → ts A n x ∧ al K x ∧ x.length ≤ 24
  | 0, u, x, n, m, hu, hK, h => by
    unfold nf at h
    split at h
    · cases h
    · split at h
      · cases h; exact ⟨hu, hK, by omega⟩
      · cases h
  | f + 1, u, x, n, m, hu, hK, h => by
    unfold nf at h
    split at h
    · cases h
    · split at h
      · cases h; exact ⟨hu, hK, by omega⟩
      · rename_i w' hw
        have hw' := stp_ok hA hR u w' n hu hK hw
        cases hn : nf A Rs f w' with
        | none => rw [hn] at h; cases h
        | some q =>
          rw [hn] at h
          have h2 : (q.1, q.2 + 1) = (x, m) := Option.some.inj h
          have h3 : q.1 = x := congrArg Prod.fst h2
          have := nf_ok hA hR f w' q.1 n q.2 hw'.1 hw'.2 hn
          rw [h3] at this
          exact this
end RW

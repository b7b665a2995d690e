/-! Two most general unifiers differ by the names of variables alone. -/
section MG
variable {A : Int → Nat}
/-- symbols stay, for variables terms are put -/
def gs (A : Int → Nat) (f : Int → List Int) : Prop := (∀ c, c < 117 → f c = [c]) ∧ ∀ c, 117 ≤ c → ts A 1 (f c)
def mgu (A : Int → Nat) (f : Int → List Int) (u v : List Int) : Prop := gs A f ∧ u.flatMap f = v.flatMap f ∧ ∀ h, gs A h → u.flatMap h = v.flatMap h → ∀ c, (f c).flatMap h = h c
theorem mgu_symm {f : Int → List Int} {u v : List Int} (h : mgu A f u v) : mgu A f v u := ⟨h.1, h.2.1.symm, fun g hg e => h.2.2 g hg e.symm⟩
theorem gs_ne {f : Int → List Int} (h : gs A f) (c : Int) : f c ≠ [] := by
  by_cases hc : c < 117
  · rw [h.1 c hc]; exact List.cons_ne_nil _ _
  · exact ts_ne (h.2 c (by omega))
theorem gs_ts (hA : ∀ c, 117 ≤ c → A c = 0) {f : Int → List Int} (h : gs A f) {u : List Int} {n : Nat} (hu : ts A n u) : ts A n (u.flatMap f) := ts_put f hA h.1 u n (fun c _ hc => h.2 c hc) hu
theorem flat_len {f : Int → List Int} (h : ∀ c, f c ≠ []) : ∀ u : List Int, u.length ≤ (u.flatMap f).length
  | [] => Nat.le_refl _
  | c :: u => by
    have h1 := List.length_pos_iff.2 (h c)
    have h2 := flat_len h u
    rw [List.flatMap_cons, List.length_append, List.length_cons]
    omega
theorem flat_id {f : Int → List Int} (h : ∀ c, f c ≠ []) : ∀ u : List Int, u.flatMap f = u → ∀ c, c ∈ u → f c = [c]
  | [], _, c, hc => by cases hc
  | d :: u, e, c, hc => by
    rw [List.flatMap_cons] at e
    have h1 := List.length_pos_iff.2 (h d)
    have h2 := flat_len h u
    have h3 := congrArg List.length e
    rw [List.length_append, List.length_cons] at h3
    have e2 := List.append_inj (show f d ++ u.flatMap f = [d] ++ u from e) (by rw [List.length_singleton]; omega)
    rcases List.mem_cons.1 hc with rfl | hc
    · exact e2.1
    · exact flat_id h u e2.2 c hc
theorem flat_flat (f g : Int → List Int) (u : List Int) : (u.flatMap f).flatMap g = u.flatMap fun c => (f c).flatMap g := List.flatMap_assoc
theorem flat_congr {f g : Int → List Int} : ∀ u : List Int, (∀ c, c ∈ u → f c = g c) → u.flatMap f = u.flatMap g
  | [], _ => rfl
  | c :: u, h => by
    rw [List.flatMap_cons, List.flatMap_cons, h c (List.mem_cons_self ..), flat_congr u (fun x hx => h x (List.mem_cons_of_mem _ hx))]
theorem flat_map (f : Int → Int) : ∀ u : List Int, u.flatMap (fun c => [f c]) = u.map f
  | [] => rfl
  | c :: u => by rw [List.flatMap_cons, flat_map f u]; rfl
/-- the one letter that is put for a variable -/
def on1 (g : Int → List Int) (c : Int) : Int := match g c with
  | [y] => if 117 ≤ c ∧ 117 ≤ y then y else c
  | _ => c
theorem on1_rok (g : Int → List Int) : rok2 (on1 g) := by
  constructor
  · intro c hc
    unfold on1
    split
    · rw [if_neg (by omega)]
    · rfl
  · intro c hc
    unfold on1
    split
    · split <;> omega
    · exact hc
theorem mgu_two {f g : Int → List Int} {u v : List Int} (hf : mgu A f u v) (hg : mgu A g u v) (w : List Int) : w.flatMap g = (w.flatMap f).map (on1 g) ∧ ∀ c, c ∈ w.flatMap f → on1 f (on1 g c) = c := by
  have e1 : ∀ w : List Int, (w.flatMap f).flatMap g = w.flatMap g := fun w => by
    rw [flat_flat]
    exact flat_congr w fun c _ => hf.2.2 g hg.1 hg.2.1 c
  have e2 : ∀ w : List Int, (w.flatMap g).flatMap f = w.flatMap f := fun w => by
    rw [flat_flat]
    exact flat_congr w fun c _ => hg.2.2 f hf.1 hf.2.1 c
  have e3 : (w.flatMap f).flatMap (fun c => (g c).flatMap f) = w.flatMap f := by
    rw [← flat_flat, e1, e2]
  have hne : ∀ c, (g c).flatMap f ≠ [] := fun c h => by
    have h2 := flat_len (fun c => gs_ne hf.1 c) (g c)
    rw [h] at h2
    exact gs_ne hg.1 c (List.length_eq_zero_iff.1 (by simpa using h2))
  have e4 := flat_id hne _ e3
  have key : ∀ c, c ∈ w.flatMap f → g c = [on1 g c] ∧ on1 f (on1 g c) = c := by
    intro c hc
    have h5 := e4 c hc
    have h6 := flat_len (fun c => gs_ne hf.1 c) (g c)
    rw [h5] at h6
    cases hgc : g c with
    | nil => exact absurd hgc (gs_ne hg.1 c)
    | cons y t =>
      rw [hgc] at h5 h6
      have ht : t = [] := List.length_eq_zero_iff.1 (by rw [List.length_cons, List.length_singleton] at h6; omega)
      subst ht
      have h7 : f y = [c] := by simpa using h5
      by_cases h8 : c < 117
      · rw [hg.1.1 c h8] at hgc
        have hy : c = y := by injection hgc
        rw [(on1_rok g).1 c h8, (on1_rok f).1 c h8, hy]
        exact ⟨rfl, rfl⟩
      · have h9 : 117 ≤ y := by
          by_cases h9 : y < 117
          · rw [hf.1.1 y h9] at h7
            have : y = c := by injection h7
            omega
          · omega
        have e5 : on1 g c = y := by
          unfold on1
          rw [hgc]
          exact if_pos ⟨by omega, h9⟩
        rw [e5]
        refine ⟨rfl, ?_⟩
        unfold on1
        rw [h7]
        exact if_pos ⟨h9, by omega⟩
  refine ⟨?_, fun c hc => (key c hc).2⟩
  rw [← e1 w, flat_congr (f := g) (g := fun c => [on1 g c]) _ (fun c hc => (key c hc).1), flat_map]
/-- a map of variables that is its own inverse -/
def inv2 (p : Int → Int) : Prop := rok2 p ∧ ∀ c, p (p c) = c
theorem map_map2 {p : Int → Int} (hp : inv2 p) (u : List Int) : (u.map p).map p = u := by
  rw [List.map_map]
  conv => rhs; rw [← List.map_id u]
  exact List.map_congr_left fun c _ => hp.2 c
theorem flat_conj {p : Int → Int} (hp : inv2 p) (f : Int → List Int) (u : List Int) : (u.map p).flatMap (fun c => (f (p c)).map p) = (u.flatMap f).map p := by
  rw [List.flatMap_map, List.map_flatMap]
  exact flat_congr u fun c _ => by rw [hp.2]
theorem gs_conj (hA : ∀ c, 117 ≤ c → A c = 0) {p : Int → Int} (hp : inv2 p) {f : Int → List Int} (h : gs A f) : gs A (fun c => (f (p c)).map p) := by
  refine ⟨fun c hc => ?_, fun c hc => ts_map hA hp.1 _ 1 (h.2 _ (hp.1.2 c hc))⟩
  show (f (p c)).map p = [c]
  rw [hp.1.1 c hc, h.1 c hc, List.map_cons, hp.1.1 c hc]
  rfl
theorem mgu_conj (hA : ∀ c, 117 ≤ c → A c = 0) {p : Int → Int} (hp : inv2 p) {f : Int → List Int} {u v : List Int} (h : mgu A f u v) : mgu A (fun c => (f (p c)).map p) (u.map p) (v.map p) := by
  refine ⟨gs_conj hA hp h.1, by rw [flat_conj hp, flat_conj hp, h.2.1], fun g hg e c => ?_⟩
  have hg2 := gs_conj hA hp hg
  have conj2 : ∀ w : List Int, w.flatMap (fun c => (g (p c)).map p) = ((w.map p).flatMap g).map p := by
    intro w
    have := flat_conj hp g (w.map p)
    rw [map_map2 hp] at this
    exact this
  have h1 := h.2.2 _ hg2 (by rw [conj2, conj2, e]) (p c)
  rw [conj2] at h1
  show ((f (p c)).map p).flatMap g = g c
  have h2 := congrArg (List.map p) h1
  rw [map_map2 hp] at h2
  rw [h2, map_map2 hp, hp.2]
end MG

/-! The path order of words. -/
section PO
variable {A : Int → Nat} {R : Int → Int}
/-- the first difference of two rows of terms decides -/
def fdf (f : List Int → List Int → Prop) : List (List Int) → List (List Int) → Prop
  | s :: ss, t :: tt => if s = t then fdf f ss tt else f s t
  | _, _ => False
def po (A : Int → Nat) (R : Int → Int) : Nat → List Int → List Int → Prop
  | n + 1, c :: u, d :: v => (∃ t, t ∈ sp A (A c) u ∧ (po A R n t (d :: v) ∨ t = d :: v)) ∨
      (c < 117 ∧ d < 117 ∧ (∀ s, s ∈ sp A (A d) v → po A R n (c :: u) s) ∧ (if c = d then fdf (po A R n) (sp A (A c) u) (sp A (A d) v) else R d < R c))
  | _, _, _ => False
def pgt (A : Int → Nat) (R : Int → Int) (u v : List Int) : Prop := po A R (u.length + v.length) u v
theorem sp_le : ∀ (n : Nat) (u t : List Int), t ∈ sp A n u → t.length ≤ u.length
  | 0, u, t, h => by simp [sp] at h
  | n + 1, u, t, h => by
    rcases List.mem_cons.1 (show t ∈ u.take (tl A 1 u) :: sp A n (u.drop (tl A 1 u)) from h) with rfl | h2
    · rw [List.length_take]; omega
    · have := sp_le n _ t h2
      rw [List.length_drop] at this
      omega
theorem fdf_iff {f g : List Int → List Int → Prop} : ∀ (ss tt : List (List Int)), (∀ s t, s ∈ ss → t ∈ tt → (f s t ↔ g s t)) → (fdf f ss tt ↔ fdf g ss tt)
  | [], tt, _ => by unfold fdf; exact Iff.rfl
  | s :: ss, [], _ => by unfold fdf; exact Iff.rfl
  | s :: ss, t :: tt, h => by
    unfold fdf
    by_cases e : s = t
    · rw [if_pos e, if_pos e]
      exact fdf_iff ss tt (fun x y hx hy => h x y (List.mem_cons_of_mem _ hx) (List.mem_cons_of_mem _ hy))
    · rw [if_neg e, if_neg e]
      exact h s t (List.mem_cons_self ..) (List.mem_cons_self ..)
theorem po_fuel : ∀ (n m : Nat) (u v : List Int), u.length + v.length ≤ n → u.length + v.length ≤ m → (po A R n u v ↔ po A R m u v)
  | 0, m, u, v, h, _ => by
    have : u = [] := List.length_eq_zero_iff.1 (by omega)
    subst this
    cases m <;> exact Iff.rfl
  | n + 1, 0, u, v, _, h => by
    have : u = [] := List.length_eq_zero_iff.1 (by omega)
    subst this
    exact Iff.rfl
  | n + 1, m + 1, [], v, _, _ => Iff.rfl
  | n + 1, m + 1, c :: u, [], _, _ => Iff.rfl
  | n + 1, m + 1, c :: u, d :: v, h1, h2 => by
    have h1' : u.length + 1 + (v.length + 1) ≤ n + 1 := h1
    have h2' : u.length + 1 + (v.length + 1) ≤ m + 1 := h2
    have e1 : ∀ t, t ∈ sp A (A c) u → (po A R n t (d :: v) ↔ po A R m t (d :: v)) := fun t ht => by
      have := sp_le _ _ t ht
      exact po_fuel n m t (d :: v) (by rw [List.length_cons]; omega) (by rw [List.length_cons]; omega)
    have e2 : ∀ s, s ∈ sp A (A d) v → (po A R n (c :: u) s ↔ po A R m (c :: u) s) := fun s hs => by
      have := sp_le _ _ s hs
      exact po_fuel n m (c :: u) s (by rw [List.length_cons]; omega) (by rw [List.length_cons]; omega)
    have e3 : fdf (po A R n) (sp A (A c) u) (sp A (A d) v) ↔ fdf (po A R m) (sp A (A c) u) (sp A (A d) v) := fdf_iff _ _ fun s t hs ht => by
      have := sp_le _ _ s hs
      have := sp_le _ _ t ht
      exact po_fuel n m s t (by omega) (by omega)
    unfold po
    refine or_congr ⟨?_, ?_⟩ (and_congr Iff.rfl (and_congr Iff.rfl (and_congr ⟨fun h s hs => (e2 s hs).1 (h s hs), fun h s hs => (e2 s hs).2 (h s hs)⟩ ?_)))
    · rintro ⟨t, ht, h⟩
      exact ⟨t, ht, h.imp (e1 t ht).1 id⟩
    · rintro ⟨t, ht, h⟩
      exact ⟨t, ht, h.imp (e1 t ht).2 id⟩
    · by_cases e : c = d
      · rw [if_pos e, if_pos e]; exact e3
      · rw [if_neg e, if_neg e]
theorem pgt_cons (c : Int) (u : List Int) (d : Int) (v : List Int) : pgt A R (c :: u) (d :: v) ↔ (∃ t, t ∈ sp A (A c) u ∧ (pgt A R t (d :: v) ∨ t = d :: v)) ∨
      (c < 117 ∧ d < 117 ∧ (∀ s, s ∈ sp A (A d) v → pgt A R (c :: u) s) ∧ (if c = d then fdf (pgt A R) (sp A (A c) u) (sp A (A d) v) else R d < R c)) := by
  have e0 : pgt A R (c :: u) (d :: v) ↔ po A R ((u.length + v.length + 1) + 1) (c :: u) (d :: v) := po_fuel _ _ _ _ (Nat.le_refl _) (by rw [List.length_cons, List.length_cons]; omega)
  rw [e0]
  have e1 : ∀ t, t ∈ sp A (A c) u → (po A R (u.length + v.length + 1) t (d :: v) ↔ pgt A R t (d :: v)) := fun t ht => by
    have := sp_le _ _ t ht
    exact po_fuel _ _ t (d :: v) (by rw [List.length_cons]; omega) (Nat.le_refl _)
  have e2 : ∀ s, s ∈ sp A (A d) v → (po A R (u.length + v.length + 1) (c :: u) s ↔ pgt A R (c :: u) s) := fun s hs => by
    have := sp_le _ _ s hs
    exact po_fuel _ _ (c :: u) s (by rw [List.length_cons]; omega) (Nat.le_refl _)
  have e3 : fdf (po A R (u.length + v.length + 1)) (sp A (A c) u) (sp A (A d) v) ↔ fdf (pgt A R) (sp A (A c) u) (sp A (A d) v) := fdf_iff _ _ fun s t hs ht => by
    have := sp_le _ _ s hs
    have := sp_le _ _ t ht
    exact po_fuel _ _ s t (by omega) (Nat.le_refl _)
  show ((∃ t, t ∈ sp A (A c) u ∧ (po A R (u.length + v.length + 1) t (d :: v) ∨ t = d :: v)) ∨
      (c < 117 ∧ d < 117 ∧ (∀ s, s ∈ sp A (A d) v → po A R (u.length + v.length + 1) (c :: u) s) ∧ (if c = d then fdf (po A R (u.length + v.length + 1)) (sp A (A c) u) (sp A (A d) v) else R d < R c))) ↔ _
  refine or_congr ⟨?_, ?_⟩ (and_congr Iff.rfl (and_congr Iff.rfl (and_congr ⟨fun h s hs => (e2 s hs).1 (h s hs), fun h s hs => (e2 s hs).2 (h s hs)⟩ ?_)))
  · rintro ⟨t, ht, h⟩
    exact ⟨t, ht, h.imp (e1 t ht).1 id⟩
  · rintro ⟨t, ht, h⟩
    exact ⟨t, ht, h.imp (e1 t ht).2 id⟩
  · by_cases e : c = d
    · rw [if_pos e, if_pos e]; exact e3
    · rw [if_neg e, if_neg e]
theorem ts_sp {c : Int} {u : List Int} (h : ts A 1 (c :: u)) : (sp A (A c) u).flatten = u ∧ ∀ t, t ∈ sp A (A c) u → ts A 1 t := by
  have h' : ts A (0 + A c) u := h
  rw [Nat.zero_add] at h'
  refine ⟨?_, sp_ts (A c) 0 u h'⟩
  rw [sp_flat, ts_all h', List.take_length]
/-- what is below has no other variables -/
theorem po_vars : ∀ (n : Nat) (u v : List Int), ts A 1 u → ts A 1 v → po A R n u v → ∀ x, x ∈ v → 117 ≤ x → x ∈ u
  | 0, u, v, _, _, h, x, _, _ => h.elim
  | n + 1, [], v, _, _, h, x, _, _ => h.elim
  | n + 1, c :: u, [], _, _, h, x, _, _ => h.elim
  | n + 1, c :: u, d :: v, hu, hv, h, x, hx, h1 => by
    have su := ts_sp hu
    have sv := ts_sp hv
    have inu : ∀ t, t ∈ sp A (A c) u → x ∈ t → x ∈ c :: u := fun t ht hxt => by
      refine List.mem_cons_of_mem _ ?_
      rw [← su.1]
      exact List.mem_flatten.2 ⟨t, ht, hxt⟩
    unfold po at h
    rcases h with ⟨t, ht, h⟩ | ⟨hc, hd, h, _⟩
    · refine inu t ht ?_
      rcases h with h | rfl
      · exact po_vars n t (d :: v) (su.2 t ht) hv h x hx h1
      · exact hx
    · rcases List.mem_cons.1 hx with rfl | hx
      · omega
      · rw [← sv.1] at hx
        obtain ⟨s, hs, hxs⟩ := List.mem_flatten.1 hx
        exact po_vars n (c :: u) s hu (sv.2 s hs) (h s hs) x hxs h1
theorem pgt_vars {u v : List Int} (hu : ts A 1 u) (hv : ts A 1 v) (h : pgt A R u v) : ∀ x, x ∈ v → 117 ≤ x → x ∈ u := po_vars _ u v hu hv h
theorem pgt_sym (hA : ∀ c, 117 ≤ c → A c = 0) {u v : List Int} (h : pgt A R u v) : ∃ c t, u = c :: t ∧ c < 117 := by
  cases u with
  | nil =>
    unfold pgt at h
    cases hn : ([] : List Int).length + v.length with
    | zero => rw [hn] at h; exact h.elim
    | succ n => rw [hn] at h; exact h.elim
  | cons c u =>
    cases v with
    | nil =>
      unfold pgt at h
      exact h.elim
    | cons d v =>
      refine ⟨c, u, rfl, ?_⟩
      rcases (pgt_cons c u d v).1 h with ⟨t, ht, _⟩ | ⟨hc, _⟩
      · by_cases hc : c < 117
        · exact hc
        · rw [hA c (by omega)] at ht
          simp [sp] at ht
      · exact hc
/-- a variable that comes behind the first letter is below -/
theorem pgt_var (hA : ∀ c, 117 ≤ c → A c = 0) {g : Int} (hg : 117 ≤ g) : ∀ (n : Nat) (c : Int) (u : List Int), u.length ≤ n → ts A 1 (c :: u) → g ∈ u → pgt A R (c :: u) [g]
  | 0, c, u, hn, _, h => by
    have : u = [] := List.length_eq_zero_iff.1 (by omega)
    subst this
    cases h
  | n + 1, c, u, hn, hu, h => by
    have su := ts_sp hu
    rw [← su.1] at h
    obtain ⟨t, ht, hgt⟩ := List.mem_flatten.1 h
    refine (pgt_cons c u g []).2 (.inl ⟨t, ht, ?_⟩)
    have hts := su.2 t ht
    have hl := sp_le _ _ t ht
    cases t with
    | nil => cases hgt
    | cons d v =>
      by_cases e : d = g
      · right
        subst e
        have : ts A (0 + A d) v := hts
        rw [hA d hg] at this
        rw [ts_zero this]
      · left
        refine pgt_var hA hg n d v (by rw [List.length_cons] at hl; omega) hts ?_
        rcases List.mem_cons.1 hgt with h | h
        · exact absurd h.symm e
        · exact h
/-- the terms of the term at a place, one after the other -/
theorem sp_at (w : List Int) (p n : Nat) : sp A (n + 1) (w.drop p) = sb A w p :: sp A n (w.drop (p + tl A 1 (w.drop p))) := by
  show (w.drop p).take (tl A 1 (w.drop p)) :: sp A n ((w.drop p).drop (tl A 1 (w.drop p))) = _
  rw [List.drop_drop]
  rfl
theorem pgt_at {w1 w2 : List Int} {i j : Nat} (hi : i < w1.length) (hj : j < w2.length) : pgt A R (sb A w1 i) (sb A w2 j) ↔ (∃ t, t ∈ sp A (A w1[i]) (w1.drop (i + 1)) ∧ (pgt A R t (sb A w2 j) ∨ t = sb A w2 j)) ∨
      (w1[i] < 117 ∧ w2[j] < 117 ∧ (∀ s, s ∈ sp A (A w2[j]) (w2.drop (j + 1)) → pgt A R (sb A w1 i) s) ∧ (if w1[i] = w2[j] then fdf (pgt A R) (sp A (A w1[i]) (w1.drop (i + 1))) (sp A (A w2[j]) (w2.drop (j + 1))) else R w2[j] < R w1[i])) := by
  have e1 := sb_sp (A := A) hi
  have e2 := sb_sp (A := A) hj
  rw [sb_cons hi] at e1 ⊢
  rw [sb_cons hj] at e2 ⊢
  have e1' : sp A (A w1[i]) ((w1.drop (i + 1)).take (tl A (A w1[i]) (w1.drop (i + 1)))) = sp A (A w1[i]) (w1.drop (i + 1)) := e1
  have e2' : sp A (A w2[j]) ((w2.drop (j + 1)).take (tl A (A w2[j]) (w2.drop (j + 1)))) = sp A (A w2[j]) (w2.drop (j + 1)) := e2
  rw [pgt_cons, e1', e2']
end PO

/-! Where the terms begin that are put for variables; when two parts of a row are the same. -/
section BG
variable {A : Int → Nat}
/-- by variable: where that begins which is put for it -/
def rpB (A : Int → Nat) (w : List Int) (B : Nat → Int) (s : sgm) : Prop := (∀ i : Nat, i < 6 → -1 ≤ B i ∧ B i < 24) ∧ ∀ c, 117 ≤ c → c < 123 → (s c = none ∧ B (c - 117).toNat = -1) ∨ ∃ b : Nat, B (c - 117).toNat = (b : Int) ∧ b < w.length ∧ s c = some (sb A w b)
theorem rpB_none (w : List Int) : rpB A w (fun _ => -1) s_no := ⟨fun i _ => ⟨Int.le_refl _, by show (-1 : Int) < 24; omega⟩, fun c _ _ => .inl ⟨rfl, rfl⟩⟩
theorem rpB_eq {w : List Int} {B C : Nat → Int} {s : sgm} (h : rpB A w B s) (e : ∀ i, i < 6 → C i = B i) : rpB A w C s := by
  refine ⟨fun i hi => by rw [e i hi]; exact h.1 i hi, fun c h1 h2 => ?_⟩
  rw [e _ (by omega)]
  exact h.2 c h1 h2
theorem rpB_up {w : List Int} {B : Nat → Int} {s : sgm} (h : rpB A w B s) {c : Int} {b : Nat} (hc : 117 ≤ c ∧ c < 123) (hb : b < w.length) (hw : w.length ≤ 24) : rpB A w (ax_up B (c - 117).toNat b) (s_up s c (sb A w b)) := by
  refine ⟨fun i hi => ?_, fun x h1 h2 => ?_⟩
  · unfold ax_up
    split
    · omega
    · exact h.1 i hi
  · unfold ax_up s_up
    by_cases e : x = c
    · subst e
      refine .inr ⟨b, if_pos rfl, hb, if_pos rfl⟩
    · rw [if_neg e, if_neg (show ¬ (x - 117).toNat = (c - 117).toNat by omega)]
      exact h.2 x h1 h2
theorem getD_eq {w : List Int} {i : Nat} (h : i < w.length) : w.getD i 0 = w[i] := by
  rw [List.getD_eq_getElem?_getD, List.getElem?_eq_getElem h]
  rfl
theorem drop_cons {w : List Int} {i : Nat} (h : i < w.length) : w.drop i = w.getD i 0 :: w.drop (i + 1) := by
  rw [getD_eq h]
  simp
theorem sb_sl {w : List Int} {p : Nat} {T : Nat → Int} (hT : ∀ i, i < w.length → T i = w.getD i 0) : sb A w p = sl T p (tl A 1 (w.drop p)) := by
  have h1 := sl_word T w 0 (fun i hi => by rw [Nat.zero_add]; exact hT i hi)
  have h2 := sl_drop T p 0 w.length
  rw [h1, Nat.zero_add] at h2
  have h3 := tl_le (A := A) (w.drop p) 1
  rw [List.length_drop] at h3
  unfold sb
  generalize tl A 1 (w.drop p) = k at h3 ⊢
  rw [h2, sl_take _ _ _ _ h3]
/-- two terms of a row are the same if so many letters are -/
theorem same_iff {w : List Int} {n p q : Nat} {T : Nat → Int} (hw : ts A n w) (hl : w.length ≤ 24) (hT : ∀ i, i < w.length → T i = w.getD i 0) (hp : p < w.length) (hq : q < w.length) :
    (p + tl A 1 (w.drop p) ≤ 24 ∧ q + tl A 1 (w.drop p) ≤ 24 ∧ ∀ i, i < tl A 1 (w.drop p) → T (p + i) = T (q + i)) ↔ sb A w q = sb A w p := by
  have tp := sb_ts hw hp
  have tq := sb_ts hw hq
  have lp := sb_len (A := A) w p
  have lq := sb_len (A := A) w q
  have bp := tl_le (A := A) (w.drop p) 1
  have bq := tl_le (A := A) (w.drop q) 1
  rw [List.length_drop] at bp bq
  have wp := sb_sl (A := A) (p := p) hT
  have wq := sb_sl (A := A) (p := q) hT
  constructor
  · rintro ⟨_, _, h⟩
    by_cases hle : tl A 1 (w.drop q) ≤ tl A 1 (w.drop p)
    · have e : sb A w p = sb A w q ++ sl T (p + tl A 1 (w.drop q)) (tl A 1 (w.drop p) - tl A 1 (w.drop q)) := by
        rw [wp, wq]
        conv => lhs; rw [show tl A 1 (w.drop p) = tl A 1 (w.drop q) + (tl A 1 (w.drop p) - tl A 1 (w.drop q)) by omega, sl_app]
        refine congrArg (· ++ _) (List.map_congr_left fun i hi => h i ?_)
        have := List.mem_range.1 hi
        omega
      exact (ts_same tq tp (y := []) (e.symm.trans (List.append_nil _).symm)).1
    · have e : sb A w q = sb A w p ++ sl T (q + tl A 1 (w.drop p)) (tl A 1 (w.drop q) - tl A 1 (w.drop p)) := by
        rw [wp, wq]
        conv => lhs; rw [show tl A 1 (w.drop q) = tl A 1 (w.drop p) + (tl A 1 (w.drop q) - tl A 1 (w.drop p)) by omega, sl_app]
        refine congrArg (· ++ _) (List.map_congr_left fun i hi => (h i ?_).symm)
        exact List.mem_range.1 hi
      exact (ts_same tp tq (y := []) (e.symm.trans (List.append_nil _).symm)).1.symm
  · intro e
    have el := congrArg List.length e
    rw [lp, lq] at el
    refine ⟨by omega, by omega, fun i hi => ?_⟩
    rw [wp, wq, el] at e
    have := congrArg (fun l => l.getD i 0) e
    simp only [sl_get _ _ _ _ hi] at this
    exact this.symm
theorem mtf_sym {w p : List Int} {i : Nat} {c : Int} {s : sgm} (hi : i < w.length) (hc : c < 117) : mtf A (c :: p) (w.drop i) s = if c = w.getD i 0 then mtf A p (w.drop (i + 1)) s else none := by
  rw [drop_cons hi, mtf_cons, if_pos hc]
theorem mtf_new {w p : List Int} {i : Nat} {c : Int} {s : sgm} (hi : i < w.length) (hc : 117 ≤ c) (hs : s c = none) : mtf A (c :: p) (w.drop i) s = mtf A p (w.drop (i + tl A 1 (w.drop i))) (s_up s c (sb A w i)) := by
  unfold sb
  rw [← List.drop_drop, drop_cons hi, mtf_cons, if_neg (by omega), hs]
theorem mtf_old {w p : List Int} {i : Nat} {c : Int} {s : sgm} {t : List Int} (hi : i < w.length) (hc : 117 ≤ c) (hs : s c = some t) : mtf A (c :: p) (w.drop i) s = if t = sb A w i then mtf A p (w.drop (i + tl A 1 (w.drop i))) s else none := by
  unfold sb
  rw [← List.drop_drop, drop_cons hi, mtf_cons, if_neg (by omega), hs]
theorem fk_hit {Rs : rls} {u : List Int} {k : Nat} {s : sgm} (hk : k < Rs.length) (h : mtf A (Rs.getD k q_no).1 u s_no = some s) : fk A (Rs.drop k) u = some (rb s (Rs.getD k q_no).2 ++ u.drop (tl A 1 u)) := by
  have e : Rs.getD k q_no = Rs[k] := by
    rw [List.getD_eq_getElem?_getD, List.getElem?_eq_getElem hk]
    rfl
  rw [e] at h ⊢
  rw [List.drop_eq_getElem_cons hk]
  unfold fk
  rw [h]
theorem fk_miss {Rs : rls} {u : List Int} {k : Nat} (hk : k < Rs.length) (h : mtf A (Rs.getD k q_no).1 u s_no = none) : fk A (Rs.drop k) u = fk A (Rs.drop (k + 1)) u := by
  have e : Rs.getD k q_no = Rs[k] := by
    rw [List.getD_eq_getElem?_getD, List.getElem?_eq_getElem hk]
    rfl
  rw [e] at h
  rw [List.drop_eq_getElem_cons hk]
  conv => lhs; unfold fk
  rw [h]
theorem stp_next {Rs : rls} {w : List Int} {i : Nat} (hi : i < w.length) (hJ : stp A Rs w = (stp A Rs (w.drop i)).map (w.take i ++ ·)) (h : fk A Rs (w.drop i) = none) : stp A Rs w = (stp A Rs (w.drop (i + 1))).map (w.take (i + 1) ++ ·) := by
  rw [hJ]
  have e : w.take (i + 1) = w.take i ++ [w.getD i 0] := by
    rw [List.take_add_one, List.getD_eq_getElem?_getD, List.getElem?_eq_getElem hi]
    rfl
  rw [drop_cons hi] at h ⊢
  conv => lhs; unfold stp
  rw [h, e, Option.map_map]
  congr 1
  funext x
  show w.take i ++ (w.getD i 0 :: x) = w.take i ++ [w.getD i 0] ++ x
  rw [List.append_assoc]
  rfl
theorem stp_hit {Rs : rls} {w x : List Int} {i : Nat} (hi : i < w.length) (hJ : stp A Rs w = (stp A Rs (w.drop i)).map (w.take i ++ ·)) (h : fk A Rs (w.drop i) = some x) : stp A Rs w = some (w.take i ++ x) := by
  rw [hJ]
  rw [drop_cons hi] at h ⊢
  unfold stp
  rw [h]
  rfl
theorem stp_end {Rs : rls} {w : List Int} {i : Nat} (hi : w.length ≤ i) (hJ : stp A Rs w = (stp A Rs (w.drop i)).map (w.take i ++ ·)) : stp A Rs w = none := by
  rw [hJ, List.drop_eq_nil_iff.2 hi]
  rfl
theorem stp_zero (Rs : rls) (w : List Int) : stp A Rs w = (stp A Rs (w.drop 0)).map (w.take 0 ++ ·) := by
  rw [List.drop_zero, List.take_zero]
  cases stp A Rs w <;> rfl
theorem hib_at {w p : List Int} {i : Nat} (hi : i < w.length) : hib A p (w.drop i) = ((mtf A p (w.drop i) s_no).isSome || hib A p (w.drop (i + 1))) := by
  rw [drop_cons hi]
  rfl
theorem hib_end {w p : List Int} {i : Nat} (hi : w.length ≤ i) : hib A p (w.drop i) = false := by
  rw [List.drop_eq_nil_iff.2 hi]
  rfl
theorem ts_skip {w : List Int} {i m : Nat} (h : ts A (1 + m) (w.drop i)) : ts A m (w.drop (i + tl A 1 (w.drop i))) := by
  rw [← List.drop_drop]
  exact (ts_split _ 1 m h).2
theorem ts_next {w : List Int} {i m : Nat} (hi : i < w.length) (h : ts A (m + 1) (w.drop i)) : ts A (m + A (w.getD i 0)) (w.drop (i + 1)) := by
  rw [drop_cons hi] at h
  exact h
theorem ts_lt {w : List Int} {i m : Nat} (h : ts A (m + 1) (w.drop i)) : i < w.length := by
  have := ts_ne h
  have h2 := List.length_pos_iff.2 this
  rw [List.length_drop] at h2
  omega
end BG

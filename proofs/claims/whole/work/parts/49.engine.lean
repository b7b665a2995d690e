/-! The steps as functions of words: what both sides do. -/
section EN
variable {A : Int → Nat} {R : Int → Int}
/-- the variables of the two rules change places -/
def sw (c : Int) : Int := if c < 117 then c else if c < 123 then c + 6 else if c < 129 then c - 6 else c
theorem sw_inv : inv2 sw := by
  refine ⟨⟨fun c hc => if_pos hc, fun c hc => ?_⟩, fun c => ?_⟩
  · unfold sw
    repeat' split
    all_goals omega
  · unfold sw
    repeat' split
    all_goals omega
theorem sb_map (hA : ∀ c, 117 ≤ c → A c = 0) {f : Int → Int} (hf : rok2 f) (w : List Int) (p : Nat) : sb A (w.map f) p = (sb A w p).map f := by
  unfold sb
  rw [← List.map_drop, tl_map hA hf, List.map_take]
/-- the sides of the pair of an upper rule on a lower one, before terms are put -/
def cpl (A : Int → Nat) (u l : List Int × List Int) (p : Nat) : List Int := l.1.take p ++ (u.2 ++ l.1.drop (p + tl A 1 (l.1.drop p)))
def swp (q : List Int × List Int) : List Int × List Int := (q.1.map sw, q.2.map sw)
theorem cpl_sw (hA : ∀ c, 117 ≤ c → A c = 0) (u l : List Int × List Int) (p : Nat) : cpl A (swp u) (swp l) p = (cpl A u l p).map sw := by
  unfold cpl swp
  show (l.1.map sw).take p ++ (u.2.map sw ++ (l.1.map sw).drop (p + tl A 1 ((l.1.map sw).drop p))) = _
  rw [show (l.1.map sw).drop p = (l.1.drop p).map sw from List.map_drop.symm, tl_map hA sw_inv.1, ← List.map_take, ← List.map_drop, List.map_append, List.map_append]
theorem swp_swp (q : List Int × List Int) : swp (swp q) = q := by
  unfold swp
  show ((q.1.map sw).map sw, (q.2.map sw).map sw) = q
  rw [map_map2 sw_inv, map_map2 sw_inv]
/-- the pair at letter p of the lower left side is added -/
noncomputable def cpo (A : Int → Nat) (Rs Vs : rls) (u l : List Int × List Int) (p : Nat) : Option rls :=
  @dite _ (p < l.1.length ∧ l.1.getD p 0 < 117 ∧ ∃ f, mgu A f u.1 (sb A (swp l).1 p)) (Classical.propDecidable _) (fun h => ah A Rs Vs ((cpl A u (swp l) p).flatMap (Classical.choose h.2.2)) ((swp l).2.flatMap (Classical.choose h.2.2))) (fun _ => some Vs)
theorem mgu_ah (hA : ∀ c, 117 ≤ c → A c = 0) {Rs Vs : rls} (hR : ∀ q, q ∈ Rs → rok A q) {f g : Int → List Int} {u v l r : List Int} (hf : mgu A f u v) (hg : mgu A g u v) (hl : ts A 1 l) (hr : ts A 1 r) : ah A Rs Vs (l.flatMap g) (r.flatMap g) = ah A Rs Vs (l.flatMap f) (r.flatMap f) := by
  have h1 := mgu_two hf hg (l ++ r)
  rw [List.flatMap_append, List.flatMap_append, List.map_append] at h1
  have e := List.append_inj h1.1 (by
    have h2 := (mgu_two hf hg l).1
    rw [h2])
  rw [e.1, e.2]
  refine ah_map (K := fun c => c < 117 ∨ c ∈ l.flatMap f ++ r.flatMap f) (g := on1 f) hA (on1_rok g) (fun c hc => ?_) (fun q hq => ⟨hR q hq, fun c _ h => .inl h⟩) (gs_ts hA hf.1 hl) (gs_ts hA hf.1 hr) (fun c hc => .inr (List.mem_append.2 (.inl hc))) (fun c hc => .inr (List.mem_append.2 (.inr hc)))
  rcases hc with hc | hc
  · rw [(on1_rok g).1 c hc, (on1_rok f).1 c hc]
  · exact h1.2 c hc
theorem cpl_ts (hA : ∀ c, 117 ≤ c → A c = 0) {u l : List Int × List Int} {p : Nat} (hu : ts A 1 u.2) (hl : ts A 1 l.1) (hp : p < l.1.length) : ts A 1 (cpl A u l p) := by
  have key : ∀ (w : List Int) (n p : Nat), ts A n w → p < w.length → ts A n (w.take p ++ (u.2 ++ w.drop (p + tl A 1 (w.drop p)))) := by
    intro w
    induction w with
    | nil => intro n p _ hp; simp at hp
    | cons c w ih =>
      intro n p hn hp
      cases p with
      | zero =>
        rw [List.take_zero, List.nil_append, List.drop_zero, Nat.zero_add]
        cases n with
        | zero => exact hn.elim
        | succ n =>
          rw [Nat.add_comm n 1] at hn ⊢
          exact ts_app _ 1 n _ hu (ts_split _ 1 n hn).2
      | succ p =>
        cases n with
        | zero => exact hn.elim
        | succ n =>
          rw [List.take_succ_cons, List.drop_succ_cons, Nat.add_right_comm, List.drop_succ_cons, List.cons_append]
          exact ih (n + A c) p hn (by simpa using hp)
  exact key l.1 1 p hl hp
theorem cpo_some (hA : ∀ c, 117 ≤ c → A c = 0) {Rs Vs : rls} (hR : ∀ q, q ∈ Rs → rok A q) {u l : List Int × List Int} {p : Nat} {f : Int → List Int} (hu : ts A 1 u.2) (hl : ts A 1 l.1 ∧ ts A 1 l.2) (hp : p < l.1.length) (hc : l.1.getD p 0 < 117) (hf : mgu A f u.1 (sb A (swp l).1 p)) : cpo A Rs Vs u l p = ah A Rs Vs ((cpl A u (swp l) p).flatMap f) ((swp l).2.flatMap f) := by
  have h : p < l.1.length ∧ l.1.getD p 0 < 117 ∧ ∃ f, mgu A f u.1 (sb A (swp l).1 p) := ⟨hp, hc, f, hf⟩
  unfold cpo
  rw [dif_pos h]
  refine mgu_ah hA hR hf (Classical.choose_spec h.2.2) (cpl_ts hA hu (ts_map hA sw_inv.1 _ 1 hl.1) ?_) (ts_map hA sw_inv.1 _ 1 hl.2)
  show p < (l.1.map sw).length
  rw [List.length_map]
  exact hp
theorem cpo_none {Rs Vs : rls} {u l : List Int × List Int} {p : Nat} (h : ¬ (p < l.1.length ∧ l.1.getD p 0 < 117 ∧ ∃ f, gs A f ∧ u.1.flatMap f = (sb A (swp l).1 p).flatMap f)) : cpo A Rs Vs u l p = some Vs := by
  unfold cpo
  rw [dif_neg]
  rintro ⟨h1, h2, f, hf⟩
  exact h ⟨h1, h2, f, hf.1, hf.2.1⟩
/-- the same with the names that the reference gives -/
theorem cpo_some2 (hA : ∀ c, 117 ≤ c → A c = 0) {Rs Vs : rls} (hR : ∀ q, q ∈ Rs → rok A q) {u l : List Int × List Int} {p : Nat} {f : Int → List Int} (hu : ts A 1 u.2) (hl : ts A 1 l.1 ∧ ts A 1 l.2) (hp : p < l.1.length) (hc : l.1.getD p 0 < 117) (hf : mgu A f (sb A l.1 p) (swp u).1) : cpo A Rs Vs u l p = ah A Rs Vs ((cpl A (swp u) l p).flatMap f) (l.2.flatMap f) := by
  have h1 := mgu_symm (mgu_conj hA sw_inv hf)
  have e1 : (swp u).1.map sw = u.1 := by rw [← congrArg Prod.fst (swp_swp u)]; rfl
  have e2 : (sb A l.1 p).map sw = sb A (swp l).1 p := (sb_map hA sw_inv.1 l.1 p).symm
  rw [e1, e2] at h1
  rw [cpo_some hA hR hu hl hp hc h1]
  have e3 : cpl A u (swp l) p = (cpl A (swp u) l p).map sw := by
    rw [← cpl_sw hA, swp_swp]
  rw [e3, flat_conj sw_inv f (cpl A (swp u) l p)]
  have e4 : (swp l).2.flatMap (fun c => (f (sw c)).map sw) = (l.2.flatMap f).map sw := flat_conj sw_inv f l.2
  rw [e4]
  refine ah_map (K := fun _ => True) (g := sw) hA sw_inv.1 (fun c _ => sw_inv.2 c) (fun q hq => ⟨hR q hq, fun _ _ _ => True.intro⟩) (gs_ts hA hf.1 (cpl_ts hA (ts_map hA sw_inv.1 _ 1 hu) hl.1 hp)) (gs_ts hA hf.1 hl.2) (fun _ _ => True.intro) (fun _ _ => True.intro)
theorem cpo_none2 (hA : ∀ c, 117 ≤ c → A c = 0) {Rs Vs : rls} {u l : List Int × List Int} {p : Nat} (h : ¬ (p < l.1.length ∧ l.1.getD p 0 < 117 ∧ ∃ f, gs A f ∧ (sb A l.1 p).flatMap f = (swp u).1.flatMap f)) : cpo A Rs Vs u l p = some Vs := by
  refine cpo_none fun ⟨h1, h2, f, hf, e⟩ => h ⟨h1, h2, fun c => (f (sw c)).map sw, gs_conj hA sw_inv hf, ?_⟩
  have e2 : sb A l.1 p = (sb A (swp l).1 p).map sw := by
    rw [← sb_map hA sw_inv.1]
    show _ = sb A ((l.1.map sw).map sw) p
    rw [map_map2 sw_inv]
  rw [e2, flat_conj sw_inv f]
  show _ = (u.1.map sw).flatMap _
  rw [flat_conj sw_inv f, e]
/-- one place after the other -/
noncomputable def ovp (A : Int → Nat) (Rs : rls) (u l : List Int × List Int) : Nat → Nat → rls → rls × Bool
  | _, 0, Vs => (Vs, true)
  | p, m + 1, Vs => match cpo A Rs Vs u l p with
    | none => (Vs, false)
    | some V => ovp A Rs u l (p + 1) m V
theorem ovp_past {Rs : rls} {u l : List Int × List Int} : ∀ (m p : Nat) (Vs : rls), l.1.length ≤ p → ovp A Rs u l p m Vs = (Vs, true)
  | 0, p, Vs, _ => rfl
  | m + 1, p, Vs, h => by
    unfold ovp
    rw [cpo_none (fun h2 => by omega)]
    exact ovp_past m (p + 1) Vs (by omega)
theorem ovp_more {Rs : rls} {u l : List Int × List Int} : ∀ (m k p : Nat) (Vs : rls), l.1.length ≤ p + m → ovp A Rs u l p (m + k) Vs = ovp A Rs u l p m Vs
  | 0, k, p, Vs, h => by
    rw [Nat.zero_add, ovp_past k p Vs (by omega)]
    rfl
  | m + 1, k, p, Vs, h => by
    rw [Nat.add_right_comm]
    unfold ovp
    cases cpo A Rs Vs u l p with
    | none => rfl
    | some V => exact ovp_more m k (p + 1) V (by omega)
abbrev q_no : List Int × List Int := ([], [])
noncomputable def ovr (A : Int → Nat) (Rs : rls) (a b : Nat) (Vs : rls) : rls × Bool := ovp A Rs (Rs.getD a q_no) (Rs.getD b q_no) (if a = b then 1 else 0) 24 Vs
/-- the overlaps from number i on -/
noncomputable def ovi (A : Int → Nat) (Rs : rls) (last : Nat) : Nat → Nat → rls → rls × Bool
  | _, 0, Vs => (Vs, true)
  | i, m + 1, Vs => if (ovr A Rs (if i % 2 = 0 then last else i / 2) (if i % 2 = 0 then i / 2 else last) Vs).2 = true then ovi A Rs last (i + 1) m (ovr A Rs (if i % 2 = 0 then last else i / 2) (if i % 2 = 0 then i / 2 else last) Vs).1 else ((ovr A Rs (if i % 2 = 0 then last else i / 2) (if i % 2 = 0 then i / 2 else last) Vs).1, false)
/-- pairs are added one after the other -/
def ada (A : Int → Nat) (Rs : rls) : rls → rls → rls × Bool
  | Vs, [] => (Vs, true)
  | Vs, q :: ks => match ah A Rs Vs q.1 q.2 with
    | none => (Vs, false)
    | some V => ada A Rs V ks
/-- the right sides from number k on -/
def stl (A : Int → Nat) : Nat → Nat → rls → rls × Bool
  | _, 0, Rs => (Rs, true)
  | k, m + 1, Rs => match nf A Rs 40 (Rs.getD k q_no).2 with
    | none => (Rs, false)
    | some w => stl A (k + 1) m (Rs.set k ((Rs.getD k q_no).1, w.1))
/-- whether the pattern fits somewhere -/
def hib (A : Int → Nat) (pat : List Int) : List Int → Bool
  | [] => false
  | c :: u => (mtf A pat (c :: u) s_no).isSome || hib A pat u
/-- a new rule: the rules, the waiting ones and the state then -/
noncomputable def ent (A : Int → Nat) (Rs Vs : rls) (q : List Int × List Int) : rls × rls × Int :=
  let ks := Rs.filter fun x => hib A q.1 x.1
  let s := stl A 0 (Rs.filter fun x => !hib A q.1 x.1).length ((Rs.filter fun x => !hib A q.1 x.1) ++ [q])
  if s.2 = true then
    let a := ada A s.1 Vs ks
    if a.2 = true then
      let o := ovi A s.1 (s.1.length - 1) 0 (2 * (s.1.length - 1) + 1) a.1
      (s.1, o.1, if o.2 = true then 0 else 3)
    else (s.1, a.1, 3)
  else (s.1, Vs, 3)
/-- a step: k is the number of the shortest pair -/
noncomputable def est (A : Int → Nat) (R : Int → Int) (Rs Vs : rls) (k : Nat) : rls × rls × Int :=
  match nf A Rs 40 (Vs.getD k q_no).1, nf A Rs 40 (Vs.getD k q_no).2 with
  | some a, some b => if a.1 = b.1 then (Rs, Vs.eraseIdx k, 0) else
      @ite _ (pgt A R a.1 b.1) (Classical.propDecidable _) (if 14 ≤ Rs.length then (Rs, Vs.eraseIdx k, 3) else ent A Rs (Vs.eraseIdx k) (rnp a.1 b.1))
      (@ite _ (pgt A R b.1 a.1) (Classical.propDecidable _) (if 14 ≤ Rs.length then (Rs, Vs.eraseIdx k, 3) else ent A Rs (Vs.eraseIdx k) (rnp b.1 a.1)) (Rs, Vs.eraseIdx k, 2))
  | _, _ => (Rs, Vs.eraseIdx k, 3)
end EN

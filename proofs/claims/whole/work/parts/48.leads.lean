/-! Variables that are led to places: what is put for them. -/
section LD
variable {A : Int → Nat} {D : Nat → Prop} {Y : Nat → Int} {ch : Nat → Nat → Nat} {Tm : Nat → List Int} {p0 q0 : Nat}
abbrev lds_t : Type := Int → Option Nat
/-- a substitution keeps to the leads -/
def kps (Tm : Nat → List Int) (ld : lds_t) (h : Int → List Int) : Prop := ∀ c b, ld c = some b → h c = (Tm b).flatMap h
def ldi (A : Int → Nat) (D : Nat → Prop) (Y : Nat → Int) (Tm : Nat → List Int) (p0 q0 : Nat) (ld : lds_t) (st : List (Nat × Nat)) (f : Int → List Int) : Prop :=
  (gs A f ∧ kps Tm ld f ∧ (∀ c, 117 ≤ c → ld c = none → f c = [c]) ∧ ∀ c b, ld c = some b → 117 ≤ c ∧ D b) ∧
  (∀ h, gs A h → (Tm p0).flatMap h = (Tm q0).flatMap h → kps Tm ld h ∧ ∀ q, q ∈ st → (Tm q.1).flatMap h = (Tm q.2).flatMap h) ∧
  (∀ h, gs A h → kps Tm ld h → (∀ q, q ∈ st → (Tm q.1).flatMap h = (Tm q.2).flatMap h) → (Tm p0).flatMap h = (Tm q0).flatMap h) ∧
  (∀ h, gs A h → kps Tm ld h → ∀ c, (f c).flatMap h = h c) ∧
  (∀ q, q ∈ st → D q.1 ∧ D q.2) ∧
  ∃ rk : Int → Nat, ∀ c b, ld c = some b → 117 ≤ Y b → rk (Y b) < rk c
def f_id (c : Int) : List Int := [c]
theorem f_id_gs (hA : ∀ c, 117 ≤ c → A c = 0) : gs A f_id := by
  refine ⟨fun c _ => rfl, fun c hc => ?_⟩
  show ts A (0 + A c) []
  rw [hA c hc]
  exact True.intro
theorem f_id_flat (u : List Int) : u.flatMap f_id = u := by
  have := flat_map id u
  rw [List.map_id] at this
  exact this
theorem ldi_first (hA : ∀ c, 117 ≤ c → A c = 0) (hD : D p0 ∧ D q0) : ldi A D Y Tm p0 q0 (fun _ => none) [(p0, q0)] f_id := by
  refine ⟨⟨f_id_gs hA, fun c b h => (nomatch h), fun c _ _ => rfl, fun c b h => (nomatch h)⟩, fun h _ e => ⟨fun c b h => (nomatch h), fun q hq => ?_⟩, fun h _ _ hq => hq (p0, q0) (List.mem_singleton.2 rfl), fun h _ _ c => ?_, fun q hq => ?_, fun _ => 0, fun c b h => (nomatch h)⟩
  · rw [List.mem_singleton.1 hq]; exact e
  · show h c ++ [] = h c
    rw [List.append_nil]
  · rw [List.mem_singleton.1 hq]; exact hD
/-- q is where the leads from p end -/
def fol (A : Int → Nat) (D : Nat → Prop) (Y : Nat → Int) (Tm : Nat → List Int) (ld : lds_t) (p q : Nat) : Prop := D q ∧ (Y q < 117 ∨ ld (Y q) = none) ∧ (∀ h, gs A h → kps Tm ld h → (Tm q).flatMap h = (Tm p).flatMap h) ∧ ((Y p < 117 ∨ ld (Y p) = none) → q = p)
theorem fol_self {ld : lds_t} {p : Nat} (hp : D p) (h : Y p < 117 ∨ ld (Y p) = none) : fol A D Y Tm ld p p := ⟨hp, h, fun _ _ _ => rfl, fun _ => rfl⟩
theorem fol_step (hA : ∀ c, 117 ≤ c → A c = 0) (ht : tps A D Y ch Tm) {ld : lds_t} {p b q : Nat} (hp : D p) (hv : 117 ≤ Y p) (hb : ld (Y p) = some b) (h : fol A D Y Tm ld b q) : fol A D Y Tm ld p q := by
  refine ⟨h.1, h.2.1, fun g hg hk => ?_, fun h1 => ?_⟩
  · rw [h.2.2.1 g hg hk, tps_var hA ht hp hv, ← hk _ _ hb]
    show _ = g (Y p) ++ []
    rw [List.append_nil]
  · rcases h1 with h1 | h1
    · omega
    · rw [hb] at h1; cases h1
/-- the two words begin with the same letter -/
theorem ldi_same (hA : ∀ c, 117 ≤ c → A c = 0) (ht : tps A D Y ch Tm) {ld : lds_t} {st st' : List (Nat × Nat)} {f : Int → List Int} {a b x y : Nat} (h : ldi A D Y Tm p0 q0 ld ((a, b) :: st) f) (hx : fol A D Y Tm ld a x) (hy : fol A D Y Tm ld b y) (hY : Y x = Y y)
    (hs : (∀ q, q ∈ st' → q ∈ st ∨ ∃ k, k < A (Y x) ∧ q = (ch x k, ch y k)) ∧ (∀ q, q ∈ st → q ∈ st') ∧ ∀ k, k < A (Y x) → (ch x k, ch y k) ∈ st') : ldi A D Y Tm p0 q0 ld st' f := by
  refine ⟨h.1, fun g hg e => ?_, fun g hg hk hq => ?_, h.2.2.2.1, fun q hq => ?_, h.2.2.2.2.2⟩
  · have h1 := h.2.1 g hg e
    refine ⟨h1.1, fun q hq => ?_⟩
    rcases hs.1 q hq with h2 | ⟨k, hk, rfl⟩
    · exact h1.2 q (List.mem_cons_of_mem _ h2)
    · have e1 : (Tm a).flatMap g = (Tm b).flatMap g := h1.2 (a, b) (List.mem_cons_self ..)
      rw [← hx.2.2.1 g hg h1.1, ← hy.2.2.1 g hg h1.1] at e1
      exact tps_down hA ht hg hx.1 hy.1 hY e1 k hk
  · refine h.2.2.1 g hg hk fun q hq2 => ?_
    rcases List.mem_cons.1 hq2 with rfl | hq2
    · show (Tm a).flatMap g = (Tm b).flatMap g
      rw [← hx.2.2.1 g hg hk, ← hy.2.2.1 g hg hk]
      exact tps_up hA ht hg hx.1 hy.1 hY fun k hk2 => hq _ (hs.2.2 k hk2)
    · exact hq q (hs.2.1 q hq2)
  · rcases hs.1 q hq with h2 | ⟨k, hk, rfl⟩
    · exact h.2.2.2.2.1 q (List.mem_cons_of_mem _ h2)
    · exact ⟨ht.1 x hx.1 k hk, ht.1 y hy.1 k (by rw [← hY]; exact hk)⟩
theorem ldi_clash (hA : ∀ c, 117 ≤ c → A c = 0) (ht : tps A D Y ch Tm) {ld : lds_t} {st : List (Nat × Nat)} {f : Int → List Int} {a b x y : Nat} (h : ldi A D Y Tm p0 q0 ld ((a, b) :: st) f) (hx : fol A D Y Tm ld a x) (hy : fol A D Y Tm ld b y) (h1 : Y x < 117) (h2 : Y y < 117) (hY : Y x ≠ Y y) : ¬ ∃ g, gs A g ∧ (Tm p0).flatMap g = (Tm q0).flatMap g := by
  rintro ⟨g, hg, e⟩
  have h3 := h.2.1 g hg e
  have e1 : (Tm a).flatMap g = (Tm b).flatMap g := h3.2 (a, b) (List.mem_cons_self ..)
  rw [← hx.2.2.1 g hg h3.1, ← hy.2.2.1 g hg h3.1] at e1
  exact tps_clash hA ht hg hx.1 hy.1 h1 h2 hY e1
/-- a word at the end of leads, into which all is put: its first letter stays -/
theorem fol_put (hA : ∀ c, 117 ≤ c → A c = 0) (ht : tps A D Y ch Tm) {ld : lds_t} {st : List (Nat × Nat)} {f : Int → List Int} {p y : Nat} (h : ldi A D Y Tm p0 q0 ld st f) (hy : fol A D Y Tm ld p y) : (Tm y).flatMap f = Y y :: (List.range (A (Y y))).flatMap fun k => (Tm (ch y k)).flatMap f := by
  rw [tps_put hA ht h.1.1 hy.1]
  have : f (Y y) = [Y y] := by
    by_cases h1 : Y y < 117
    · exact h.1.1.1 _ h1
    · exact h.1.2.2.1 _ (by omega) (hy.2.1.resolve_left h1)
  rw [this]
  rfl
theorem flat_mem_len {h : Int → List Int} (hn : ∀ c, h c ≠ []) {v : Int} : ∀ u : List Int, v ∈ u → (h v).length + u.length ≤ (u.flatMap h).length + 1
  | [], hv => by cases hv
  | c :: u, hv => by
    rw [List.flatMap_cons, List.length_append, List.length_cons]
    rcases List.mem_cons.1 hv with rfl | hv
    · have := flat_len hn u
      omega
    · have := flat_mem_len hn u hv
      have := List.length_pos_iff.2 (hn c)
      omega
/-- a variable would come in what it is led to -/
theorem ldi_occ (hA : ∀ c, 117 ≤ c → A c = 0) (ht : tps A D Y ch Tm) {ld : lds_t} {st : List (Nat × Nat)} {f : Int → List Int} {a b x y : Nat} (h : ldi A D Y Tm p0 q0 ld ((a, b) :: st) f) (hx : fol A D Y Tm ld a x ∧ fol A D Y Tm ld b y ∨ fol A D Y Tm ld b x ∧ fol A D Y Tm ld a y) (h1 : 117 ≤ Y x) (hY : Y x ≠ Y y) (ho : Y x ∈ (Tm y).flatMap f) : ¬ ∃ g, gs A g ∧ (Tm p0).flatMap g = (Tm q0).flatMap g := by
  rintro ⟨g, hg, e⟩
  have h3 := h.2.1 g hg e
  have e0 : (Tm a).flatMap g = (Tm b).flatMap g := h3.2 (a, b) (List.mem_cons_self ..)
  have e1 : (Tm x).flatMap g = (Tm y).flatMap g := by
    rcases hx with ⟨h4, h5⟩ | ⟨h4, h5⟩
    · rw [h4.2.2.1 g hg h3.1, h5.2.2.1 g hg h3.1, e0]
    · rw [h4.2.2.1 g hg h3.1, h5.2.2.1 g hg h3.1, e0]
  have hDx : D x := hx.elim (fun h => h.1.1) (fun h => h.1.1)
  rw [tps_var hA ht hDx h1] at e1
  have e2 : ((Tm y).flatMap f).flatMap g = (Tm y).flatMap g := by
    rw [flat_flat]
    exact flat_congr _ fun c _ => h.2.2.2.1 g hg h3.1 c
  have e3 : g (Y x) = ((Tm y).flatMap f).flatMap g := by
    rw [e2, ← e1]
    show _ = g (Y x) ++ []
    rw [List.append_nil]
  have h4 := flat_mem_len (fun c => gs_ne hg c) _ ho
  rw [← e3] at h4
  have h5 : (Tm y).flatMap f = Y y :: (List.range (A (Y y))).flatMap fun k => (Tm (ch y k)).flatMap f := by
    rcases hx with ⟨_, h5⟩ | ⟨_, h5⟩
    · exact fol_put hA ht h h5
    · exact fol_put hA ht h h5
  rw [h5] at ho h4
  rcases List.mem_cons.1 ho with h6 | h6
  · exact hY h6
  · have := List.length_pos_of_mem h6
    rw [List.length_cons] at h4
    omega
/-- one word put for one variable -/
def f_one (v : Int) (t : List Int) (c : Int) : List Int := if c = v then t else [c]
theorem f_one_off {v : Int} {t : List Int} : ∀ u : List Int, v ∉ u → u.flatMap (f_one v t) = u
  | [], _ => rfl
  | c :: u, h => by
    rw [List.flatMap_cons, f_one_off u (fun h2 => h (List.mem_cons_of_mem _ h2))]
    unfold f_one
    rw [if_neg (fun e => h (by rw [e]; exact List.mem_cons_self ..))]
    rfl
def l_up (ld : lds_t) (v : Int) (b : Nat) : lds_t := fun c => if c = v then some b else ld c
/-- a variable is led to a place -/
theorem ldi_bind (hA : ∀ c, 117 ≤ c → A c = 0) (ht : tps A D Y ch Tm) {ld : lds_t} {st : List (Nat × Nat)} {f : Int → List Int} {a b x y : Nat} (h : ldi A D Y Tm p0 q0 ld ((a, b) :: st) f) (hx : fol A D Y Tm ld a x ∧ fol A D Y Tm ld b y ∨ fol A D Y Tm ld b x ∧ fol A D Y Tm ld a y) (h1 : 117 ≤ Y x) (hY : Y x ≠ Y y) (ho : Y x ∉ (Tm y).flatMap f) :
    ldi A D Y Tm p0 q0 (l_up ld (Y x) y) st (fun c => (f c).flatMap (f_one (Y x) ((Tm y).flatMap f))) := by
  have hDx : D x := hx.elim (fun h => h.1.1) (fun h => h.1.1)
  have hDy : D y := hx.elim (fun h => h.2.1) (fun h => h.2.1)
  have hub : ld (Y x) = none := by
    rcases hx with ⟨h4, _⟩ | ⟨h4, _⟩
    · exact h4.2.1.resolve_left (by omega)
    · exact h4.2.1.resolve_left (by omega)
  have htt : ts A 1 ((Tm y).flatMap f) := gs_ts hA h.1.1 (ht.2.2 y hDy)
  have hone : gs A (f_one (Y x) ((Tm y).flatMap f)) := by
    refine ⟨fun c hc => ?_, fun c hc => ?_⟩
    · unfold f_one
      rw [if_neg (by omega)]
    · unfold f_one
      split
      · exact htt
      · exact (f_id_gs hA).2 c hc
  have hput : ∀ u : List Int, u.flatMap (fun c => (f c).flatMap (f_one (Y x) ((Tm y).flatMap f))) = (u.flatMap f).flatMap (f_one (Y x) ((Tm y).flatMap f)) := fun u => (flat_flat _ _ _).symm
  have hold : ∀ g, kps Tm (l_up ld (Y x) y) g → kps Tm ld g ∧ g (Y x) = (Tm y).flatMap g := by
    intro g hg
    refine ⟨fun c b2 hc => hg c b2 ?_, hg (Y x) y (if_pos rfl)⟩
    unfold l_up
    rw [if_neg]
    · exact hc
    · rintro rfl
      rw [hub] at hc; cases hc
  refine ⟨⟨⟨fun c hc => ?_, fun c hc => ?_⟩, fun c b2 hc => ?_, fun c hc hc2 => ?_, fun c b2 hc => ?_⟩, fun g hg e => ?_, fun g hg hk hq => ?_, fun g hg hk c => ?_, fun q hq => h.2.2.2.2.1 q (List.mem_cons_of_mem _ hq), ?_⟩
  · show (f c).flatMap _ = [c]
    rw [h.1.1.1 c hc]
    show f_one _ _ c ++ [] = [c]
    rw [hone.1 c hc]
    rfl
  · exact gs_ts hA hone (h.1.1.2 c hc)
  · show (f c).flatMap _ = (Tm b2).flatMap fun c => (f c).flatMap _
    rw [hput]
    unfold l_up at hc
    by_cases e : c = Y x
    · rw [if_pos e] at hc
      have e2 : y = b2 := Option.some.inj hc
      rw [← e2, e, h.1.2.2.1 _ h1 hub, f_one_off _ ho]
      show f_one _ _ (Y x) ++ [] = _
      unfold f_one
      rw [if_pos rfl, List.append_nil]
    · rw [if_neg e] at hc
      rw [h.1.2.1 c b2 hc]
  · show (f c).flatMap _ = [c]
    unfold l_up at hc2
    by_cases e : c = Y x
    · rw [if_pos e] at hc2; cases hc2
    · rw [if_neg e] at hc2
      rw [h.1.2.2.1 c hc hc2]
      show f_one _ _ c ++ [] = [c]
      unfold f_one
      rw [if_neg e]
      rfl
  · unfold l_up at hc
    by_cases e : c = Y x
    · rw [if_pos e] at hc
      rw [← Option.some.inj hc, e]
      exact ⟨h1, hDy⟩
    · rw [if_neg e] at hc
      exact h.1.2.2.2 c b2 hc
  · have h3 := h.2.1 g hg e
    refine ⟨fun c b2 hc => ?_, fun q hq => h3.2 q (List.mem_cons_of_mem _ hq)⟩
    unfold l_up at hc
    by_cases e2 : c = Y x
    · rw [if_pos e2] at hc
      rw [← Option.some.inj hc, e2]
      have e0 : (Tm a).flatMap g = (Tm b).flatMap g := h3.2 (a, b) (List.mem_cons_self ..)
      have e1 : (Tm x).flatMap g = (Tm y).flatMap g := by
        rcases hx with ⟨h4, h5⟩ | ⟨h4, h5⟩
        · rw [h4.2.2.1 g hg h3.1, h5.2.2.1 g hg h3.1, e0]
        · rw [h4.2.2.1 g hg h3.1, h5.2.2.1 g hg h3.1, e0]
      rw [← e1, tps_var hA ht hDx h1]
      show _ = g (Y x) ++ []
      rw [List.append_nil]
    · rw [if_neg e2] at hc
      exact h3.1 c b2 hc
  · have h3 := hold g hk
    refine h.2.2.1 g hg h3.1 fun q hq2 => ?_
    rcases List.mem_cons.1 hq2 with rfl | hq2
    · have e1 : (Tm x).flatMap g = (Tm y).flatMap g := by
        rw [tps_var hA ht hDx h1, ← h3.2]
        show g (Y x) ++ [] = _
        rw [List.append_nil]
      show (Tm a).flatMap g = (Tm b).flatMap g
      rcases hx with ⟨h4, h5⟩ | ⟨h4, h5⟩
      · rw [← h4.2.2.1 g hg h3.1, ← h5.2.2.1 g hg h3.1, e1]
      · rw [← h4.2.2.1 g hg h3.1, ← h5.2.2.1 g hg h3.1, e1]
    · exact hq q hq2
  · have h3 := hold g hk
    show ((f c).flatMap _).flatMap g = g c
    rw [flat_flat]
    have e1 : ∀ z, (f_one (Y x) ((Tm y).flatMap f) z).flatMap g = g z := by
      intro z
      unfold f_one
      by_cases e : z = Y x
      · rw [if_pos e, e, h3.2, flat_flat]
        exact flat_congr _ fun c _ => h.2.2.2.1 g hg h3.1 c
      · rw [if_neg e]
        show g z ++ [] = g z
        rw [List.append_nil]
    rw [flat_congr (g := g) _ (fun z _ => e1 z)]
    exact h.2.2.2.1 g hg h3.1 c
  · obtain ⟨rk, hrk⟩ := h.2.2.2.2.2
    have huy : Y y < 117 ∨ ld (Y y) = none := hx.elim (fun h => h.2.2.1) (fun h => h.2.2.1)
    refine ⟨fun c => if c = Y y then 0 else rk c + 1, fun c b2 hc hv => ?_⟩
    unfold l_up at hc
    show (if Y b2 = Y y then 0 else rk (Y b2) + 1) < (if c = Y y then 0 else rk c + 1)
    by_cases e : c = Y x
    · rw [if_pos e] at hc
      rw [← Option.some.inj hc, if_pos rfl, if_neg (by rw [e]; exact hY)]
      omega
    · rw [if_neg e] at hc
      have h5 := hrk c b2 hc hv
      have h6 : c ≠ Y y := by
        rintro rfl
        rcases huy with h7 | h7
        · have := (h.1.2.2.2 _ b2 hc).1; omega
        · rw [h7] at hc; cases hc
      rw [if_neg h6]
      split <;> omega
theorem ldi_end {ld : lds_t} {f : Int → List Int} (h : ldi A D Y Tm p0 q0 ld [] f) : mgu A f (Tm p0) (Tm q0) := by
  refine ⟨h.1.1, h.2.2.1 f h.1.1 h.1.2.1 (fun q hq => by cases hq), fun g hg e c => ?_⟩
  exact h.2.2.2.1 g hg (h.2.1 g hg e).1 c
/-- one word stands inside another one -/
def ins (u v : List Int) : Prop := ∃ x y, x ≠ [] ∧ v = x ++ (u ++ y)
theorem ins_len {u v : List Int} (h : ins u v) : u.length < v.length := by
  obtain ⟨x, y, hx, rfl⟩ := h
  have := List.length_pos_iff.2 hx
  rw [List.length_append, List.length_append]
  omega
theorem ins_trans {u v w : List Int} (h1 : ins u v) (h2 : ins v w) : ins u w := by
  obtain ⟨x, y, hx, rfl⟩ := h1
  obtain ⟨x2, y2, hx2, rfl⟩ := h2
  refine ⟨x2 ++ x, y ++ y2, fun h => hx2 (List.append_eq_nil_iff.1 h).1, ?_⟩
  simp [List.append_assoc]
theorem ins_put {u v : List Int} {g : Int → List Int} (hg : ∀ c, g c ≠ []) (h : ins u v) : ins (u.flatMap g) (v.flatMap g) := by
  obtain ⟨x, y, hx, rfl⟩ := h
  refine ⟨x.flatMap g, y.flatMap g, fun h => hx ?_, by rw [List.flatMap_append, List.flatMap_append]⟩
  have := flat_len hg x
  rw [h] at this
  exact List.length_eq_zero_iff.1 (by simpa using this)
theorem flat_has {F : Nat → List Int} {k : Nat} : ∀ xs : List Nat, k ∈ xs → ∃ x y, xs.flatMap F = x ++ (F k ++ y)
  | [], h => by cases h
  | z :: xs, h => by
    rw [List.flatMap_cons]
    rcases List.mem_cons.1 h with rfl | h
    · exact ⟨[], _, rfl⟩
    · obtain ⟨x, y, e⟩ := flat_has (F := F) xs h
      exact ⟨F z ++ x, y, by rw [e, List.append_assoc]⟩
theorem ins_ch (hA : ∀ c, 117 ≤ c → A c = 0) (ht : tps A D Y ch Tm) {f : Int → List Int} (hf : gs A f) {b k : Nat} (hb : D b) (hk : k < A (Y b)) : ins ((Tm (ch b k)).flatMap f) ((Tm b).flatMap f) := by
  rw [tps_put hA ht hf hb]
  obtain ⟨x, y, e⟩ := flat_has (F := fun k => (Tm (ch b k)).flatMap f) (List.range (A (Y b))) (List.mem_range.2 hk)
  refine ⟨f (Y b) ++ x, y, fun h => gs_ne hf (Y b) (List.append_eq_nil_iff.1 h).1, ?_⟩
  rw [e, List.append_assoc]
/-- the places that wait on a stack, each with the one whose term it is: the words of these grow -/
def skk (D : Nat → Prop) (W : Nat → List Int) : List Int → List (Nat × Nat) → Prop
  | _, [] => True
  | u, q :: l => D q.2 ∧ ins u (W q.2) ∧ ins (W q.1) (W q.2) ∧ skk D W (W q.2) l
theorem skk_in {W : Nat → List Int} : ∀ (l : List (Nat × Nat)) (u v : List Int), (∀ w, ins u w → ins v w) → skk D W u l → skk D W v l
  | [], u, v, _, _ => True.intro
  | q :: l, u, v, h, hs => ⟨hs.1, h _ hs.2.1, hs.2.2.1, hs.2.2.2⟩
theorem skk_put {W : Nat → List Int} {g : Int → List Int} (hg : ∀ c, g c ≠ []) : ∀ (l : List (Nat × Nat)) (u : List Int), skk D W u l → skk D (fun n => (W n).flatMap g) (u.flatMap g) l
  | [], u, _ => True.intro
  | q :: l, u, hs => ⟨hs.1, ins_put hg hs.2.1, ins_put hg hs.2.2.1, skk_put hg l _ hs.2.2.2⟩
theorem skk_mem {W : Nat → List Int} : ∀ (l : List (Nat × Nat)) (u : List Int), skk D W u l → ∀ q, q ∈ l → D q.2 ∧ u.length < (W q.2).length
  | [], u, _, q, hq => by cases hq
  | p :: l, u, hs, q, hq => by
    have h1 := ins_len hs.2.1
    rcases List.mem_cons.1 hq with rfl | hq
    · exact ⟨hs.1, h1⟩
    · have := skk_mem l _ hs.2.2.2 q hq
      exact ⟨this.1, by omega⟩
theorem few : ∀ (N : Nat) (l : List Nat), l.Nodup → (∀ x, x ∈ l → x < N) → l.length ≤ N
  | 0, l, _, h => by
    cases l with
    | nil => exact Nat.le_refl _
    | cons x l => exact absurd (h x (List.mem_cons_self ..)) (by omega)
  | N + 1, l, hn, h => by
    by_cases hm : N ∈ l
    · have h1 := few N (l.erase N) (hn.erase N) (fun x hx => by
        have h2 := h x (List.mem_of_mem_erase hx)
        have h3 : x ≠ N := by
          rintro rfl
          exact hn.not_mem_erase hx
        omega)
      rw [List.length_erase_of_mem hm] at h1
      omega
    · have := few N l hn (fun x hx => by
        have h2 := h x hx
        have h3 : x ≠ N := fun e => hm (by rw [← e]; exact hx)
        omega)
      omega
theorem skk_few {W : Nat → List Int} {N : Nat} (hN : ∀ i, D i → i < N) {l : List (Nat × Nat)} {u : List Int} (h : skk D W u l) : l.length ≤ N := by
  have h1 : ∀ (l : List (Nat × Nat)) (u : List Int), skk D W u l → (l.map Prod.snd).Nodup := by
    intro l
    induction l with
    | nil => intro u _; exact List.nodup_nil
    | cons q l ih =>
      intro u hs
      rw [List.map_cons, List.nodup_cons]
      refine ⟨fun hm => ?_, ih _ hs.2.2.2⟩
      obtain ⟨p, hp, e⟩ := List.mem_map.1 hm
      have := (skk_mem l _ hs.2.2.2 p hp).2
      rw [e] at this
      omega
  have := few N (l.map Prod.snd) (h1 l u h) (fun x hx => by
    obtain ⟨q, hq, rfl⟩ := List.mem_map.1 hx
    exact hN _ (skk_mem l u h q hq).1)
  rwa [List.length_map] at this
end LD

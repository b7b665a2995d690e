/-! Nodes that come together: what a round does, what is settled. -/
section UF
variable {A : Int → Nat} {D : Nat → Prop} {Y : Nat → Int} {ch : Nat → Nat → Nat} {Tm : Nat → List Int} {p0 q0 : Nat}
/-- the node of a place -/
def ndo (Y : Nat → Int) (i : Nat) : Nat := if Y i < 117 then i else (Y i - 21).toNat
/-- the word of a node -/
def Tn (Tm : Nat → List Int) (n : Nat) : List Int := if n < 96 then Tm n else [(n : Int) + 21]
/-- nodes in play -/
def DN (D : Nat → Prop) (Y : Nat → Int) (n : Nat) : Prop := n < 108 ∧ (n < 96 → D n ∧ Y n < 117) ∧ (96 ≤ n → ∃ i, D i ∧ Y i = (n : Int) + 21)
/-- the places are below 96, variables below 129 -/
def dok (D : Nat → Prop) (Y : Nat → Int) : Prop := ∀ i, D i → i < 96 ∧ Y i < 129
theorem ndo_lt (hd : dok D Y) {i : Nat} (hi : D i) : ndo Y i < 108 := by
  have := hd i hi
  unfold ndo
  split <;> omega
theorem ndo_DN (hd : dok D Y) {i : Nat} (hi : D i) : DN D Y (ndo Y i) := by
  have := hd i hi
  refine ⟨ndo_lt hd hi, fun h => ?_, fun h => ⟨i, hi, ?_⟩⟩
  · unfold ndo at h ⊢
    split
    · exact ⟨hi, by assumption⟩
    · rename_i h1
      rw [if_neg h1] at h
      omega
  · unfold ndo at h ⊢
    split
    · rename_i h1
      rw [if_pos h1] at h
      omega
    · omega
theorem Tn_ndo (hA : ∀ c, 117 ≤ c → A c = 0) (ht : tps A D Y ch Tm) (hd : dok D Y) {i : Nat} (hi : D i) : Tn Tm (ndo Y i) = Tm i := by
  have := hd i hi
  unfold ndo Tn
  by_cases h : Y i < 117
  · rw [if_pos h, if_pos this.1]
  · rw [if_neg h, if_neg (by omega), tps_var hA ht hi (by omega)]
    congr 1
    omega
/-- the nodes so far -/
def ufi (A : Int → Nat) (D : Nat → Prop) (Y : Nat → Int) (ch : Nat → Nat → Nat) (Tm : Nat → List Int) (p0 q0 : Nat) (par : Nat → Nat) (st : List (Nat × Nat)) : Prop :=
  (∃ rk, rnk par rk) ∧
  (∀ n, n < 108 → par n ≠ n → DN D Y n ∧ DN D Y (par n) ∧ (n < 96 → par n < 96 ∧ Y (par n) = Y n)) ∧
  (∀ h, gs A h → (Tm p0).flatMap h = (Tm q0).flatMap h → (∀ n, n < 108 → (Tn Tm (par n)).flatMap h = (Tn Tm n).flatMap h) ∧ ∀ q, q ∈ st → (Tm q.1).flatMap h = (Tm q.2).flatMap h) ∧
  (∀ φ : Nat → Nat, (∀ n, n < 108 → φ (par n) = φ n) → (∀ q, q ∈ st → φ (ndo Y q.1) = φ (ndo Y q.2)) → φ (ndo Y p0) = φ (ndo Y q0) ∧ ∀ n, n < 96 → par n ≠ n → ∀ k, k < A (Y n) → φ (ndo Y (ch n k)) = φ (ndo Y (ch (par n) k))) ∧
  (∀ q, q ∈ st → D q.1 ∧ D q.2)
theorem ufi_DN {par : Nat → Nat} {st : List (Nat × Nat)} (h : ufi A D Y ch Tm p0 q0 par st) {n : Nat} (hn : DN D Y n) : DN D Y (rep par n) ∧ (n < 96 → rep par n < 96 ∧ Y (rep par n) = Y n) := by
  have key : ∀ (k n : Nat), DN D Y n → DN D Y (itr par k n) ∧ (n < 96 → itr par k n < 96 ∧ Y (itr par k n) = Y n) := by
    intro k
    induction k with
    | zero => intro n hn; exact ⟨hn, fun h => ⟨h, rfl⟩⟩
    | succ k ih =>
      intro n hn
      show DN D Y (itr par k (par n)) ∧ _
      by_cases e : par n = n
      · have := ih n hn
        rw [show itr par (k + 1) n = itr par k (par n) from rfl, e]
        exact this
      · have h2 := h.2.1 n hn.1 e
        have := ih (par n) h2.2.1
        refine ⟨this.1, fun h3 => ?_⟩
        have h4 := h2.2.2 h3
        have h5 := this.2 h4.1
        exact ⟨h5.1, by rw [← h4.2]; exact h5.2⟩
  exact key 108 n hn
theorem ufi_rep {par : Nat → Nat} {st : List (Nat × Nat)} (h : ufi A D Y ch Tm p0 q0 par st) {g : Int → List Int} (hg : gs A g) (e : (Tm p0).flatMap g = (Tm q0).flatMap g) {n : Nat} (hn : n < 108) : (Tn Tm (rep par n)).flatMap g = (Tn Tm n).flatMap g := by
  obtain ⟨rk, hr⟩ := h.1
  exact rep_all hr (φ := fun n => (Tn Tm n).flatMap g) ((h.2.2.1 g hg e).1) hn
/-- the two are together already -/
theorem ufi_same (hd : dok D Y) {par : Nat → Nat} {st : List (Nat × Nat)} {a b : Nat} (h : ufi A D Y ch Tm p0 q0 par ((a, b) :: st)) (e : rep par (ndo Y a) = rep par (ndo Y b)) : ufi A D Y ch Tm p0 q0 par st := by
  obtain ⟨rk, hr⟩ := h.1
  have hab : D a ∧ D b := h.2.2.2.2 (a, b) (List.mem_cons_self ..)
  refine ⟨h.1, h.2.1, fun g hg he => ?_, fun φ h1 h2 => ?_, fun q hq => h.2.2.2.2 q (List.mem_cons_of_mem _ hq)⟩
  · have := h.2.2.1 g hg he
    exact ⟨this.1, fun q hq => this.2 q (List.mem_cons_of_mem _ hq)⟩
  · refine h.2.2.2.1 φ h1 fun q hq => ?_
    rcases List.mem_cons.1 hq with rfl | hq
    · have e1 := rep_all hr h1 (ndo_lt hd hab.1)
      have e2 := rep_all hr h1 (ndo_lt hd hab.2)
      show φ (ndo Y a) = φ (ndo Y b)
      rw [← e1, ← e2, e]
    · exact h2 q hq
/-- one of the two ways is led to the other's end -/
theorem ufi_join (hA : ∀ c, 117 ≤ c → A c = 0) (ht : tps A D Y ch Tm) (hd : dok D Y) {par : Nat → Nat} {st st' : List (Nat × Nat)} {a b r s : Nat} (h : ufi A D Y ch Tm p0 q0 par ((a, b) :: st))
    (hrs : (r = rep par (ndo Y a) ∧ s = rep par (ndo Y b)) ∨ (r = rep par (ndo Y b) ∧ s = rep par (ndo Y a))) (hne : r ≠ s)
    (hs : (96 ≤ s ∧ st' = st) ∨ (s < 96 ∧ r < 96 ∧ Y r = Y s ∧ (∀ q, q ∈ st' → q ∈ st ∨ ∃ k, k < A (Y r) ∧ q = (ch r k, ch s k)) ∧ (∀ q, q ∈ st → q ∈ st') ∧ ∀ k, k < A (Y r) → (ch r k, ch s k) ∈ st')) :
    ufi A D Y ch Tm p0 q0 (n_up par s r) st' := by
  obtain ⟨rk, hr⟩ := h.1
  have hab : D a ∧ D b := h.2.2.2.2 (a, b) (List.mem_cons_self ..)
  have la := ndo_lt hd hab.1
  have lb := ndo_lt hd hab.2
  have Da := ufi_DN h (ndo_DN hd hab.1)
  have Db := ufi_DN h (ndo_DN hd hab.2)
  have fa := rep_fix hr la
  have fb := rep_fix hr lb
  have DNr : DN D Y r := hrs.elim (fun e => e.1 ▸ Da.1) (fun e => e.1 ▸ Db.1)
  have DNs : DN D Y s := hrs.elim (fun e => e.2 ▸ Db.1) (fun e => e.2 ▸ Da.1)
  have fr : par r = r := hrs.elim (fun e => by rw [e.1]; exact fa) (fun e => by rw [e.1]; exact fb)
  have fs : par s = s := hrs.elim (fun e => by rw [e.2]; exact fb) (fun e => by rw [e.2]; exact fa)
  have ups : n_up par s r s = r := if_pos rfl
  have upo : ∀ n, n ≠ s → n_up par s r n = par n := fun n hn => if_neg hn
  have hst : ∀ q, q ∈ st' → q ∈ st ∨ (s < 96 ∧ r < 96 ∧ Y r = Y s ∧ ∃ k, k < A (Y r) ∧ q = (ch r k, ch s k)) := by
    intro q hq
    rcases hs with ⟨_, e⟩ | ⟨h1, h2, h3, h4, _, _⟩
    · rw [e] at hq; exact .inl hq
    · rcases h4 q hq with h5 | h5
      · exact .inl h5
      · exact .inr ⟨h1, h2, h3, h5⟩
  refine ⟨rnk_up hr DNs.1 DNr.1 fs fr hne, fun n hn he => ?_, fun g hg he => ?_, fun φ h1 h2 => ?_, fun q hq => ?_⟩
  · by_cases e : n = s
    · subst e
      rw [ups]
      refine ⟨DNs, DNr, fun h5 => ?_⟩
      rcases hs with ⟨h6, _⟩ | ⟨_, h7, h8, _⟩
      · omega
      · exact ⟨h7, h8⟩
    · rw [upo n e] at he ⊢
      exact h.2.1 n hn he
  · have h5 := h.2.2.1 g hg he
    have e1 : (Tn Tm r).flatMap g = (Tn Tm s).flatMap g := by
      have ea := ufi_rep h hg he la
      have eb := ufi_rep h hg he lb
      rw [Tn_ndo hA ht hd hab.1] at ea
      rw [Tn_ndo hA ht hd hab.2] at eb
      have eab : (Tm a).flatMap g = (Tm b).flatMap g := h5.2 (a, b) (List.mem_cons_self ..)
      rcases hrs with ⟨x1, x2⟩ | ⟨x1, x2⟩
      · rw [x1, x2, ea, eb, eab]
      · rw [x1, x2, ea, eb, eab]
    refine ⟨fun n hn => ?_, fun q hq => ?_⟩
    · by_cases e : n = s
      · subst e; rw [ups]; exact e1
      · rw [upo n e]; exact h5.1 n hn
    · rcases hst q hq with h6 | ⟨l1, l2, hY, k, hk, rfl⟩
      · exact h5.2 q (List.mem_cons_of_mem _ h6)
      · have e2 : (Tm r).flatMap g = (Tm s).flatMap g := by
          unfold Tn at e1
          rw [if_pos l2, if_pos l1] at e1
          exact e1
        exact tps_down hA ht hg (DNr.2.1 l2).1 (DNs.2.1 l1).1 hY e2 k hk
  · have h3 : ∀ n, n < 108 → φ (par n) = φ n := by
      intro n hn
      by_cases e : n = s
      · rw [e, fs]
      · have := h1 n hn
        rw [upo n e] at this
        exact this
    have h4 : φ r = φ s := by
      have := h1 s DNs.1
      rw [ups] at this
      exact this
    have hst2 : ∀ q, q ∈ (a, b) :: st → φ (ndo Y q.1) = φ (ndo Y q.2) := by
      intro q hq
      rcases List.mem_cons.1 hq with rfl | hq
      · have e1 := rep_all hr h3 la
        have e2 := rep_all hr h3 lb
        show φ (ndo Y a) = φ (ndo Y b)
        rw [← e1, ← e2]
        rcases hrs with ⟨x1, x2⟩ | ⟨x1, x2⟩
        · rw [← x1, ← x2]; exact h4
        · rw [← x1, ← x2]; exact h4.symm
      · refine h2 q ?_
        rcases hs with ⟨_, e⟩ | ⟨_, _, _, _, h5, _⟩
        · rw [e]; exact hq
        · exact h5 q hq
    have h5 := h.2.2.2.1 φ h3 hst2
    refine ⟨h5.1, fun n hn he k hk => ?_⟩
    by_cases e : n = s
    · subst e
      rw [ups]
      rcases hs with ⟨h6, _⟩ | ⟨_, _, hY, _, _, h7⟩
      · omega
      · exact (h2 _ (h7 k (by rw [hY]; exact hk))).symm
    · rw [upo n e] at he ⊢
      exact h5.2 n hn he k hk
  · rcases hst q hq with h6 | ⟨l1, l2, hY, k, hk, rfl⟩
    · exact h.2.2.2.2 q (List.mem_cons_of_mem _ h6)
    · exact ⟨ht.1 r (DNr.2.1 l2).1 k hk, ht.1 s (DNs.2.1 l1).1 k (by rw [← hY]; exact hk)⟩
/-- two symbols that differ -/
theorem ufi_clash (hA : ∀ c, 117 ≤ c → A c = 0) (ht : tps A D Y ch Tm) (hd : dok D Y) {par : Nat → Nat} {st : List (Nat × Nat)} {a b : Nat} (h : ufi A D Y ch Tm p0 q0 par ((a, b) :: st)) (ha : rep par (ndo Y a) < 96) (hb : rep par (ndo Y b) < 96) (hY : Y (rep par (ndo Y a)) ≠ Y (rep par (ndo Y b))) : ¬ ∃ g, gs A g ∧ (Tm p0).flatMap g = (Tm q0).flatMap g := by
  rintro ⟨g, hg, e⟩
  have hab : D a ∧ D b := h.2.2.2.2 (a, b) (List.mem_cons_self ..)
  have la := ndo_lt hd hab.1
  have lb := ndo_lt hd hab.2
  have Da := (ufi_DN h (ndo_DN hd hab.1)).1.2.1 ha
  have Db := (ufi_DN h (ndo_DN hd hab.2)).1.2.1 hb
  have ea := ufi_rep h hg e la
  have eb := ufi_rep h hg e lb
  rw [Tn_ndo hA ht hd hab.1] at ea
  rw [Tn_ndo hA ht hd hab.2] at eb
  have eab : (Tm a).flatMap g = (Tm b).flatMap g := (h.2.2.1 g hg e).2 (a, b) (List.mem_cons_self ..)
  unfold Tn at ea eb
  rw [if_pos ha] at ea
  rw [if_pos hb] at eb
  exact tps_clash hA ht hg Da.1 Db.1 Da.2 Db.2 hY (by rw [ea, eb, eab])
theorem ufi_first (hD : D p0 ∧ D q0) : ufi A D Y ch Tm p0 q0 (fun n => n) [(p0, q0)] := by
  refine ⟨⟨fun _ => 0, fun n hn => hn, fun n _ h => absurd rfl h, fun n _ => ?_⟩, fun n _ h => absurd rfl h, fun g hg e => ⟨fun n _ => rfl, fun q hq => ?_⟩, fun φ _ h2 => ⟨?_, fun n _ h => absurd rfl h⟩, fun q hq => ?_⟩
  · have := nrt_le (fun n => n) 108
    show 0 + nrt (fun n => n) 108 ≤ 108
    omega
  · rw [List.mem_singleton.1 hq]; exact e
  · exact h2 (p0, q0) (List.mem_singleton.2 rfl)
  · rw [List.mem_singleton.1 hq]; exact hD
/-- the settled nodes and their words -/
def sti (A : Int → Nat) (D : Nat → Prop) (Y : Nat → Int) (ch : Nat → Nat → Nat) (par : Nat → Nat) (s : Nat → Prop) (X : Nat → List Int) : Prop :=
  (∀ n, 96 ≤ n → n < 108 → s n ∧ X n = [(n : Int) + 21]) ∧ ∀ n, n < 96 → s n → D n ∧ Y n < 117 ∧ par n = n ∧ (∀ k, k < A (Y n) → s (rep par (ndo Y (ch n k)))) ∧ X n = Y n :: (List.range (A (Y n))).flatMap fun k => X (rep par (ndo Y (ch n k)))
theorem sti_first {par : Nat → Nat} : sti A D Y ch par (fun n => 96 ≤ n) (fun n => [(n : Int) + 21]) := ⟨fun n h _ => ⟨h, rfl⟩, fun n h h2 => absurd h2 (by omega)⟩
theorem sti_more (ht : tps A D Y ch Tm) (hd : dok D Y) {par rk : Nat → Nat} (hr : rnk par rk) {s : Nat → Prop} {X : Nat → List Int} (h : sti A D Y ch par s X) {i : Nat} (hi : D i) (hY : Y i < 117) (hp : par i = i) (hn : ¬ s i) (hk : ∀ k, k < A (Y i) → s (rep par (ndo Y (ch i k)))) : ∃ X', sti A D Y ch par (fun n => n = i ∨ s n) X' := by
  have hi2 := (hd i hi).1
  refine ⟨fun n => if n = i then Y i :: (List.range (A (Y i))).flatMap fun k => X (rep par (ndo Y (ch i k))) else X n, fun n h1 h2 => ⟨.inr (h.1 n h1 h2).1, ?_⟩, fun n h1 h2 => ?_⟩
  · show (if n = i then _ else X n) = _
    rw [if_neg (by omega)]
    exact (h.1 n h1 h2).2
  · have oth : ∀ m, s m → m ≠ i := fun m hm e => hn (by rw [← e]; exact hm)
    have same : ∀ n, (∀ k, k < A (Y n) → s (rep par (ndo Y (ch n k)))) → ((List.range (A (Y n))).flatMap fun k => if rep par (ndo Y (ch n k)) = i then Y i :: (List.range (A (Y i))).flatMap fun k => X (rep par (ndo Y (ch i k))) else X (rep par (ndo Y (ch n k)))) = (List.range (A (Y n))).flatMap fun k => X (rep par (ndo Y (ch n k))) := by
      intro n hn
      exact nflat_congr _ fun k hk => if_neg (oth _ (hn k (List.mem_range.1 hk)))
    by_cases e : n = i
    · subst e
      refine ⟨hi, hY, hp, fun k hk' => .inr (hk k hk'), ?_⟩
      show (if n = n then _ else X n) = _
      rw [if_pos rfl]
      exact congrArg (Y n :: ·) (same n hk).symm
    · have h3 : s n := h2.resolve_left e
      obtain ⟨a1, a2, a3, a4, a5⟩ := h.2 n h1 h3
      refine ⟨a1, a2, a3, fun k hk' => .inr (a4 k hk'), ?_⟩
      show (if n = i then _ else X n) = _
      rw [if_neg e, a5]
      exact congrArg (Y n :: ·) (same n a4).symm
/-- the words of the settled nodes say what a unifier makes of them -/
theorem sti_word (hA : ∀ c, 117 ≤ c → A c = 0) (ht : tps A D Y ch Tm) (hd : dok D Y) {par : Nat → Nat} {st : List (Nat × Nat)} (hu : ufi A D Y ch Tm p0 q0 par st) {s : Nat → Prop} {X : Nat → List Int} (h : sti A D Y ch par s X) {g : Int → List Int} (hg : gs A g) (e : (Tm p0).flatMap g = (Tm q0).flatMap g) : ∀ (N n : Nat), ((Tn Tm n).flatMap g).length ≤ N → n < 108 → s n → (X n).flatMap g = (Tn Tm n).flatMap g
  | 0, n, hN, hn, hs => by
    exfalso
    have h1 : (Tn Tm n).length ≤ 0 := Nat.le_trans (flat_len (fun c => gs_ne hg c) _) hN
    unfold Tn at h1
    split at h1
    · rename_i h2
      have := (h.2 n h2 hs).1
      exact ts_ne (ht.2.2 n this) (List.length_eq_zero_iff.1 (by omega))
    · rw [List.length_singleton] at h1; omega
  | N + 1, n, hN, hn, hs => by
    by_cases h2 : n < 96
    · obtain ⟨a1, a2, a3, a4, a5⟩ := h.2 n h2 hs
      have e0 : Tn Tm n = Tm n := if_pos h2
      rw [e0] at hN ⊢
      rw [a5, List.flatMap_cons, List.flatMap_assoc, tps_put hA ht hg a1]
      refine congrArg (g (Y n) ++ ·) (nflat_congr _ fun k hk => ?_)
      rw [List.mem_range] at hk
      have hc := ht.1 n a1 k hk
      have l1 := ndo_lt hd hc
      obtain ⟨rk, hr⟩ := hu.1
      have e1 := ufi_rep hu hg e l1
      rw [Tn_ndo hA ht hd hc] at e1
      have hl := tps_less hA ht hg a1 hk
      rw [sti_word hA ht hd hu h hg e N _ (by rw [e1]; omega) (rep_lt hr l1) (a4 k hk)]
      exact e1
    · have := (h.1 n (by omega) hn).2
      rw [this]
      unfold Tn
      rw [if_neg h2]
/-- terms of a node and of its end are together -/
theorem ufi_cong {par : Nat → Nat} (hu : ufi A D Y ch Tm p0 q0 par []) {i : Nat} (hi : DN D Y i) (h96 : i < 96) : ∀ k, k < A (Y i) → rep par (ndo Y (ch i k)) = rep par (ndo Y (ch (rep par i) k)) := by
  obtain ⟨rk, hr⟩ := hu.1
  have h1 := (hu.2.2.2.1 (rep par) (fun n hn => rep_par hr hn) (fun q hq => by cases hq)).2
  have key : ∀ (m i : Nat), DN D Y i → i < 96 → ∀ k, k < A (Y i) → rep par (ndo Y (ch i k)) = rep par (ndo Y (ch (itr par m i) k)) := by
    intro m
    induction m with
    | zero => intro i _ _ k _; rfl
    | succ m ih =>
      intro i hi h96 k hk
      show _ = rep par (ndo Y (ch (itr par m (par i)) k))
      by_cases e : par i = i
      · rw [e]; exact ih i hi h96 k hk
      · have h2 := hu.2.1 i hi.1 e
        have h3 := h2.2.2 h96
        rw [h1 i h96 e k hk]
        exact ih (par i) h2.2.1 h3.1 k (by rw [h3.2]; exact hk)
  exact key 108 i hi h96
/-- where the end of a place is settled, so are all its variables -/
theorem sti_vars (hA : ∀ c, 117 ≤ c → A c = 0) (ht : tps A D Y ch Tm) (hd : dok D Y) {par : Nat → Nat} (hu : ufi A D Y ch Tm p0 q0 par []) {s : Nat → Prop} {X : Nat → List Int} (h : sti A D Y ch par s X) : ∀ (N i : Nat), (Tm i).length ≤ N → D i → s (rep par (if Y i < 117 then i else (Y i - 21).toNat)) → ∀ c, c ∈ Tm i → 117 ≤ c → s (rep par (c - 21).toNat)
  | 0, i, hN, hi, hs, c, hc, h1 => absurd (List.length_eq_zero_iff.1 (by omega)) (ts_ne (ht.2.2 i hi))
  | N + 1, i, hN, hi, hs, c, hc, h1 => by
    have hdi := hd i hi
    rw [ht.2.1 i hi] at hc hN
    rcases List.mem_cons.1 hc with rfl | hc
    · rw [if_neg (by omega)] at hs
      exact hs
    · obtain ⟨k, hk, hck⟩ := List.mem_flatMap.1 hc
      rw [List.mem_range] at hk
      have hy : Y i < 117 := by
        by_cases h2 : Y i < 117
        · exact h2
        · rw [hA _ (by omega)] at hk; omega
      rw [if_pos hy] at hs
      have hDN : DN D Y i := ⟨by omega, fun _ => ⟨hi, hy⟩, fun h => by omega⟩
      have hrl := (ufi_DN hu hDN).2 hdi.1
      obtain ⟨a1, a2, a3, a4, a5⟩ := h.2 _ hrl.1 hs
      have hcong := ufi_cong hu hDN hdi.1 k hk
      have hl : (Tm (ch i k)).length ≤ N := by
        have hmem : ∀ (xs : List Nat) (F : Nat → List Int), k ∈ xs → (F k).length ≤ (xs.flatMap F).length := by
          intro xs F
          induction xs with
          | nil => intro h; cases h
          | cons x xs ih =>
            intro h
            rw [List.flatMap_cons, List.length_append]
            rcases List.mem_cons.1 h with rfl | h
            · omega
            · have := ih h; omega
        have := hmem (List.range (A (Y i))) (fun k => Tm (ch i k)) (List.mem_range.2 hk)
        rw [List.length_cons] at hN
        omega
      refine sti_vars hA ht hd hu h N (ch i k) hl (ht.1 i hi k hk) ?_ c hck h1
      show s (rep par (ndo Y (ch i k)))
      rw [hcong]
      exact a4 k (by rw [hrl.2]; exact hk)
/-- all variables are settled -/
theorem sti_all (hA : ∀ c, 117 ≤ c → A c = 0) (ht : tps A D Y ch Tm) (hd : dok D Y) (hp : D p0) (hq : D q0) (hw : ∀ i, D i → Y i ∈ Tm p0 ∨ Y i ∈ Tm q0) {par : Nat → Nat} (hu : ufi A D Y ch Tm p0 q0 par []) {s : Nat → Prop} {X : Nat → List Int} (h : sti A D Y ch par s X) (hs : s (rep par (ndo Y p0))) {n : Nat} (h1 : 96 ≤ n) (h2 : n < 108) : s (rep par n) := by
  obtain ⟨rk, hr⟩ := hu.1
  have hpq := (hu.2.2.2.1 (rep par) (fun n hn => rep_par hr hn) (fun q hq => by cases hq)).1
  by_cases e : par n = n
  · rw [rep_self e]; exact (h.1 n h1 h2).1
  · obtain ⟨i, hi, hY⟩ := (hu.2.1 n h2 e).1.2.2 h1
    have e2 : n = (Y i - 21).toNat := by omega
    rw [e2]
    rcases hw i hi with h3 | h3
    · exact sti_vars hA ht hd hu h _ p0 (Nat.le_refl _) hp hs (Y i) h3 (by omega)
    · refine sti_vars hA ht hd hu h _ q0 (Nat.le_refl _) hq ?_ (Y i) h3 (by omega)
      show s (rep par (ndo Y q0))
      rw [← hpq]
      exact hs
/-- what is put for the variables -/
def sgX (par : Nat → Nat) (s : Nat → Prop) [DecidablePred s] (X : Nat → List Int) (c : Int) : List Int := if 117 ≤ c ∧ c < 129 ∧ s (rep par (c - 21).toNat) then X (rep par (c - 21).toNat) else [c]
theorem ndo_cases (Y : Nat → Int) (i : Nat) : (Y i < 117 ∧ ndo Y i = i) ∨ (117 ≤ Y i ∧ ndo Y i = (Y i - 21).toNat) := by
  unfold ndo
  by_cases h : Y i < 117
  · exact .inl ⟨h, if_pos h⟩
  · exact .inr ⟨by omega, if_neg h⟩
theorem sgX_word (hA : ∀ c, 117 ≤ c → A c = 0) (ht : tps A D Y ch Tm) (hd : dok D Y) {par : Nat → Nat} (hu : ufi A D Y ch Tm p0 q0 par []) {s : Nat → Prop} [DecidablePred s] {X : Nat → List Int} (h : sti A D Y ch par s X) : ∀ (N i : Nat), (Tm i).length ≤ N → D i → s (rep par (ndo Y i)) → (Tm i).flatMap (sgX par s X) = X (rep par (ndo Y i))
  | 0, i, hN, hi, hs => absurd (List.length_eq_zero_iff.1 (by omega)) (ts_ne (ht.2.2 i hi))
  | N + 1, i, hN, hi, hs => by
    have hdi := hd i hi
    rcases ndo_cases Y i with ⟨h1, e⟩ | ⟨h1, e⟩
    · rw [e] at hs ⊢
      have hDN : DN D Y i := ⟨by omega, fun _ => ⟨hi, h1⟩, fun h => by omega⟩
      have hrep := ufi_DN hu hDN
      have hrl := hrep.2 hdi.1
      obtain ⟨a1, a2, a3, a4, a5⟩ := h.2 _ hrl.1 hs
      rw [a5, hrl.2, ht.2.1 i hi, List.flatMap_cons, List.flatMap_assoc]
      have e0 : sgX par s X (Y i) = [Y i] := by
        unfold sgX
        rw [if_neg (by omega)]
      rw [e0]
      show Y i :: _ = Y i :: _
      refine congrArg (Y i :: ·) (nflat_congr _ fun k hk => ?_)
      rw [List.mem_range] at hk
      have hc := ht.1 i hi k hk
      have hcong := ufi_cong hu hDN hdi.1 k hk
      have hl : (Tm (ch i k)).length < (Tm i).length := by
        have h9 : gs A (fun c => if c < 117 then [c] else [c]) := by
          refine ⟨fun c hc => if_pos hc, fun c hc => ?_⟩
          show ts A 1 (if c < 117 then [c] else [c])
          rw [if_neg (by omega)]
          show ts A (0 + A c) []
          rw [hA c hc]
          exact True.intro
        have := tps_less hA ht h9 hi hk
        have e3 : ∀ u : List Int, (u.flatMap fun c => if c < 117 then [c] else [c]) = u := by
          intro u
          rw [flat_congr (g := fun c => [id c]) u (fun c _ => by by_cases h : c < 117 <;> simp), flat_map, List.map_id]
        rw [e3, e3] at this
        exact this
      rw [← hcong]
      exact sgX_word hA ht hd hu h N _ (by omega) hc (by rw [hcong]; exact a4 k (by rw [hrl.2]; exact hk))
    · rw [e] at hs ⊢
      rw [tps_var hA ht hi h1]
      show sgX par s X (Y i) ++ [] = _
      rw [List.append_nil]
      unfold sgX
      rw [if_pos ⟨h1, hdi.2, hs⟩]
theorem sti_ts (hA : ∀ c, 117 ≤ c → A c = 0) (ht : tps A D Y ch Tm) (hd : dok D Y) {par : Nat → Nat} (hu : ufi A D Y ch Tm p0 q0 par []) {s : Nat → Prop} {X : Nat → List Int} (h : sti A D Y ch par s X) : ∀ (N n : Nat), (X n).length ≤ N → n < 108 → s n → ts A 1 (X n)
  | 0, n, hN, hn, hs => by
    exfalso
    by_cases h2 : n < 96
    · rw [(h.2 n h2 hs).2.2.2.2, List.length_cons] at hN; omega
    · rw [(h.1 n (by omega) hn).2, List.length_singleton] at hN; omega
  | N + 1, n, hN, hn, hs => by
    obtain ⟨rk, hr⟩ := hu.1
    by_cases h2 : n < 96
    · obtain ⟨a1, a2, a3, a4, a5⟩ := h.2 n h2 hs
      rw [a5] at hN ⊢
      show ts A (0 + A (Y n)) _
      rw [Nat.zero_add]
      have key : ∀ (m : Nat) (F : Nat → List Int), (∀ k, k < m → ts A 1 (F k)) → ts A m ((List.range m).flatMap F) := by
        intro m
        induction m with
        | zero => intro F _; exact True.intro
        | succ m ih =>
          intro F hF
          rw [List.range_succ, List.flatMap_append]
          refine ts_app _ m 1 _ (ih F fun k hk => hF k (by omega)) ?_
          show ts A 1 (F m ++ [])
          rw [List.append_nil]
          exact hF m (by omega)
      refine key _ _ fun k hk => ?_
      have hmem : ∀ (xs : List Nat) (F : Nat → List Int), k ∈ xs → (F k).length ≤ (xs.flatMap F).length := by
        intro xs F
        induction xs with
        | nil => intro h; cases h
        | cons x xs ih =>
          intro h
          rw [List.flatMap_cons, List.length_append]
          rcases List.mem_cons.1 h with rfl | h
          · omega
          · have := ih h; omega
      have h5 := hmem (List.range (A (Y n))) (fun k => X (rep par (ndo Y (ch n k)))) (List.mem_range.2 hk)
      rw [List.length_cons] at hN
      exact sti_ts hA ht hd hu h N _ (by omega) (rep_lt hr (ndo_lt hd (ht.1 n a1 k hk))) (a4 k hk)
    · rw [(h.1 n (by omega) hn).2]
      show ts A (0 + A _) []
      rw [hA _ (by omega)]
      exact True.intro
/-- what fits: a most general unifier -/
theorem sgX_mgu (hA : ∀ c, 117 ≤ c → A c = 0) (ht : tps A D Y ch Tm) (hd : dok D Y) (hp : D p0) (hq : D q0) {par : Nat → Nat} (hu : ufi A D Y ch Tm p0 q0 par []) {s : Nat → Prop} [DecidablePred s] {X : Nat → List Int} (h : sti A D Y ch par s X) (hs : s (rep par (ndo Y p0))) : mgu A (sgX par s X) (Tm p0) (Tm q0) := by
  obtain ⟨rk, hr⟩ := hu.1
  have hpq := (hu.2.2.2.1 (rep par) (fun n hn => rep_par hr hn) (fun q hq => by cases hq)).1
  refine ⟨⟨fun c hc => ?_, fun c hc => ?_⟩, ?_, fun g hg e c => ?_⟩
  · unfold sgX
    rw [if_neg (by omega)]
  · unfold sgX
    split
    · rename_i h1
      exact sti_ts hA ht hd hu h _ _ (Nat.le_refl _) (rep_lt hr (by omega)) h1.2.2
    · show ts A (0 + A c) []
      rw [hA c hc]
      exact True.intro
  · rw [sgX_word hA ht hd hu h _ p0 (Nat.le_refl _) hp hs, sgX_word hA ht hd hu h _ q0 (Nat.le_refl _) hq (by rw [← hpq]; exact hs), hpq]
  · unfold sgX
    split
    · rename_i h1
      have hl : (c - 21).toNat < 108 := by omega
      rw [sti_word hA ht hd hu h hg e _ _ (Nat.le_refl _) (rep_lt hr hl) h1.2.2, ufi_rep hu hg e hl]
      unfold Tn
      rw [if_neg (by omega), show (((c - 21).toNat : Nat) : Int) + 21 = c by omega]
      show g c ++ [] = g c
      rw [List.append_nil]
    · show g c ++ [] = g c
      rw [List.append_nil]
/-- what never begins to settle fits nowhere -/
theorem sti_none (hA : ∀ c, 117 ≤ c → A c = 0) (ht : tps A D Y ch Tm) (hd : dok D Y) (hp : D p0) {par : Nat → Nat} (hu : ufi A D Y ch Tm p0 q0 par []) {s : Nat → Prop} {X : Nat → List Int} (h : sti A D Y ch par s X) (hfix : ∀ i, D i → Y i < 117 → rep par i = i → (∀ k, k < A (Y i) → s (rep par (ndo Y (ch i k)))) → s i) (hs : ¬ s (rep par (ndo Y p0))) : ¬ ∃ g, gs A g ∧ (Tm p0).flatMap g = (Tm q0).flatMap g := by
  rintro ⟨g, hg, e⟩
  obtain ⟨rk, hr⟩ := hu.1
  have key : ∀ (N n : Nat), ((Tn Tm n).flatMap g).length ≤ N → DN D Y n → par n = n → s n := by
    intro N
    induction N with
    | zero =>
      intro n hN hn _
      by_cases h2 : n < 96
      · exfalso
        have h1 : (Tn Tm n).length ≤ 0 := Nat.le_trans (flat_len (fun c => gs_ne hg c) _) hN
        unfold Tn at h1
        rw [if_pos h2] at h1
        exact ts_ne (ht.2.2 n (hn.2.1 h2).1) (List.length_eq_zero_iff.1 (by omega))
      · exact (h.1 n (by omega) hn.1).1
    | succ N ih =>
      intro n hN hn hpn
      by_cases h2 : n < 96
      · have hD := hn.2.1 h2
        refine hfix n hD.1 hD.2 (rep_self hpn) fun k hk => ?_
        have hc := ht.1 n hD.1 k hk
        have l1 := ndo_lt hd hc
        have e1 := ufi_rep hu hg e l1
        rw [Tn_ndo hA ht hd hc] at e1
        have hl := tps_less hA ht hg hD.1 hk
        have e0 : Tn Tm n = Tm n := if_pos h2
        rw [e0] at hN
        exact ih _ (by rw [e1]; omega) (ufi_DN hu (ndo_DN hd hc)).1 (rep_fix hr l1)
      · exact (h.1 n (by omega) hn.1).1
  exact hs (key _ _ (Nat.le_refl _) (ufi_DN hu (ndo_DN hd hp)).1 (rep_fix hr (ndo_lt hd hp)))
end UF

/-! What is laid of two rules, and what is found of it. -/
section LA
variable {A : Int → Nat}
/-- the letters of what is settled -/
theorem sti_al {D : Nat → Prop} {Y : Nat → Int} {ch : Nat → Nat → Nat} {Tm : Nat → List Int} {par : Nat → Nat} {s : Nat → Prop} {X : Nat → List Int} {K : Int → Prop} (ht : tps A D Y ch Tm) (hd : dok D Y) (hr : ∀ n, n < 108 → rep par n < 108) (h : sti A D Y ch par s X) (h1 : ∀ i, D i → K (Y i)) (h2 : ∀ n : Nat, 96 ≤ n → n < 108 → K ((n : Int) + 21)) : ∀ (N n : Nat), (X n).length ≤ N → n < 108 → s n → al K (X n)
  | 0, n, hN, hn, hs => by
    intro c hc
    have := List.length_pos_of_mem hc
    omega
  | N + 1, n, hN, hn, hs => by
    by_cases h96 : n < 96
    · obtain ⟨a1, a2, a3, a4, a5⟩ := h.2 n h96 hs
      rw [a5] at hN ⊢
      intro c hc
      rcases List.mem_cons.1 hc with rfl | hc
      · exact h1 n a1
      · obtain ⟨k, hk, hck⟩ := List.mem_flatMap.1 hc
        have hk2 := List.mem_range.1 hk
        have hl : (X (rep par (ndo Y (ch n k)))).length ≤ N := by
          obtain ⟨x, y, e⟩ := flat_has (F := fun k => X (rep par (ndo Y (ch n k)))) (List.range (A (Y n))) hk
          rw [List.length_cons, e, List.length_append, List.length_append] at hN
          omega
        exact sti_al ht hd hr h h1 h2 N _ hl (hr _ (ndo_lt hd (ht.1 n a1 k hk2))) (a4 k hk2) c hck
    · rw [(h.1 n (by omega) hn).2]
      intro c hc
      rw [List.mem_singleton.1 hc]
      exact h2 n (by omega) hn
/-- one word at b: its letters, nodes and ends -/
def rgn (A : Int → Nat) (LT EN ND : Nat → Int) (b sh : Nat) (w : List Int) : Prop := ∀ i, i < w.length → LT (b + i) = w.getD i 0 ∧ ND (b + i) = (if w.getD i 0 < 117 then ((b + i : Nat) : Int) else 96 + (sh : Int) + w.getD i 0 - 117) ∧ EN (b + i) = ((b + i : Nat) : Int) + tl A 1 (w.drop i)
theorem rgn_keep {LT EN ND LT' EN' ND' : Nat → Int} {b sh : Nat} {w : List Int} (h : rgn A LT EN ND b sh w) (k : ∀ i, i < w.length → LT' (b + i) = LT (b + i) ∧ ND' (b + i) = ND (b + i) ∧ EN' (b + i) = EN (b + i)) : rgn A LT' EN' ND' b sh w := by
  intro i hi
  obtain ⟨k1, k2, k3⟩ := k i hi
  rw [k1, k2, k3]
  exact h i hi
/-- the row of the letters as they are meant -/
def Yr (LT ND : Nat → Int) (i : Nat) : Int := if LT i < 117 then LT i else ND i + 21
theorem rgn_Y {LT EN ND : Nat → Int} {b : Nat} {w : List Int} (h : rgn A LT EN ND b 0 w) {i : Nat} (hi : i < w.length) : Yr LT ND (b + i) = w.getD i 0 := by
  obtain ⟨h1, h2, _⟩ := h i hi
  unfold Yr
  rw [h1, h2]
  by_cases h3 : w.getD i 0 < 117
  · rw [if_pos h3]
  · rw [if_neg h3, if_neg h3]
    omega
theorem sw_get {w : List Int} {i : Nat} (hi : i < w.length) : (w.map sw).getD i 0 = sw (w.getD i 0) := by
  rw [List.getD_eq_getElem?_getD, List.getD_eq_getElem?_getD, List.getElem?_map, List.getElem?_eq_getElem hi]
  rfl
theorem rgn_Y6 {LT EN ND : Nat → Int} {b : Nat} {w : List Int} (h : rgn A LT EN ND b 6 w) (hw : al (fun c => c < 123) w) {i : Nat} (hi : i < w.length) : Yr LT ND (b + i) = (w.map sw).getD i 0 := by
  obtain ⟨h1, h2, _⟩ := h i hi
  have h4 : w.getD i 0 < 123 := hw _ (by rw [getD_eq hi]; exact List.getElem_mem _)
  rw [sw_get hi]
  unfold Yr sw
  rw [h1, h2]
  by_cases h3 : w.getD i 0 < 117
  · rw [if_pos h3, if_pos h3]
  · rw [if_neg h3, if_neg h3, if_neg h3, if_pos h4]
    omega
/-- what a place in a region is -/
theorem rgn_at {LT EN ND : Nat → Int} {b sh : Nat} {w : List Int} (h : rgn A LT EN ND b sh w) (hb : b + w.length ≤ 96) (hsh : sh = 0 ∨ sh = 6) (hw : al (fun c => 97 ≤ c ∧ c < 123) w) {i : Nat} (hi : i < w.length) : (LT (b + i) < 117 ↔ Yr LT ND (b + i) < 117) ∧ (Yr LT ND (b + i) < 117 → LT (b + i) = Yr LT ND (b + i)) ∧ ND (b + i) = (ndo (Yr LT ND) (b + i) : Int) ∧ 97 ≤ Yr LT ND (b + i) ∧ Yr LT ND (b + i) < 129 := by
  obtain ⟨h1, h2, _⟩ := h i hi
  have h4 : 97 ≤ w.getD i 0 ∧ w.getD i 0 < 123 := hw _ (by rw [getD_eq hi]; exact List.getElem_mem _)
  by_cases h3 : w.getD i 0 < 117
  · have e : Yr LT ND (b + i) = w.getD i 0 := by
      unfold Yr
      rw [h1, if_pos h3]
    have e2 : ndo (Yr LT ND) (b + i) = b + i := by
      unfold ndo
      rw [e, if_pos h3]
    rw [if_pos h3] at h2
    rw [e2, e, h1, h2]
    exact ⟨Iff.rfl, fun _ => rfl, rfl, h4.1, by omega⟩
  · rw [if_neg h3] at h2
    have e : Yr LT ND (b + i) = 96 + (sh : Int) + w.getD i 0 - 117 + 21 := by
      unfold Yr
      rw [h1, if_neg h3, h2]
    have e2 : ndo (Yr LT ND) (b + i) = (96 + (sh : Int) + w.getD i 0 - 117).toNat := by
      unfold ndo
      rw [e, if_neg (by omega)]
      congr 1
      omega
    rw [e2, e, h1, h2]
    refine ⟨by omega, fun h => by omega, by omega, by omega, by omega⟩
/-- two rules laid -/
def ovq (A : Int → Nat) (LT EN ND e : Nat → Int) (u l : List Int × List Int) : Prop := rgn A LT EN ND 0 0 u.1 ∧ rgn A LT EN ND 24 0 u.2 ∧ rgn A LT EN ND 48 6 l.1 ∧ rgn A LT EN ND 72 6 l.2 ∧ (e 0 = (u.1.length : Int) ∧ e 1 = 24 + (u.2.length : Int) ∧ e 2 = 48 + (l.1.length : Int) ∧ e 3 = 72 + (l.2.length : Int)) ∧ ∀ i, 0 ≤ LT i ∧ LT i < 65536
/-- two rules' bounds -/
def twb (A : Int → Nat) (u l : List Int × List Int) : Prop := (ts A 1 u.1 ∧ ts A 1 u.2 ∧ ts A 1 l.1 ∧ ts A 1 l.2) ∧ (u.1.length ≤ 24 ∧ u.2.length ≤ 24 ∧ l.1.length ≤ 24 ∧ l.2.length ≤ 24) ∧ al (fun c => 97 ≤ c ∧ c < 123) u.1 ∧ al (fun c => 97 ≤ c ∧ c < 123) u.2 ∧ al (fun c => 97 ≤ c ∧ c < 123) l.1 ∧ al (fun c => 97 ≤ c ∧ c < 123) l.2
/-- the word of the lower left side's term at p -/
abbrev lowv (A : Int → Nat) (l : List Int × List Int) (p : Nat) : List Int := sb A (swp l).1 p
theorem lay_tps (hA : ∀ c, 117 ≤ c → A c = 0) (hA2 : ∀ c, A c ≤ 2) {LT EN ND e : Nat → Int} {u l : List Int × List Int} {p : Nat} (h : ovq A LT EN ND e u l) (hb : twb A u l) (hp : p < l.1.length) :
    tps A (D2 u.1 (lowv A l p) (48 + p)) (Yr LT ND) (chp (fun i => (EN i).toNat)) (T2 A u.1 (lowv A l p) (48 + p)) ∧ (lowv A l p).length = tl A 1 (l.1.drop p) ∧ p + (lowv A l p).length ≤ l.1.length ∧ ∀ i, i < (lowv A l p).length → Yr LT ND (48 + p + i) = (lowv A l p).getD i 0 ∧ EN (48 + p + i) = ((48 + p + i : Nat) : Int) + tl A 1 ((lowv A l p).drop i) := by
  obtain ⟨r1, r2, r3, r4, -, hLT⟩ := h
  obtain ⟨⟨t1, t2, t3, t4⟩, ⟨l1, l2, l3, l4⟩, k1, k2, k3, k4⟩ := hb
  have hmt : ts A 1 (swp l).1 := ts_map hA sw_inv.1 _ 1 t3
  have hml : (swp l).1.length = l.1.length := List.length_map ..
  have hmp : p < (swp l).1.length := by rw [hml]; exact hp
  have hlen : (lowv A l p).length = tl A 1 (l.1.drop p) := by
    show (sb A (l.1.map sw) p).length = _
    rw [sb_len, ← List.map_drop, tl_map hA sw_inv.1]
  have hle := tl_le (A := A) (l.1.drop p) 1
  rw [List.length_drop] at hle
  have hat : ∀ i, i < (lowv A l p).length → Yr LT ND (48 + p + i) = (lowv A l p).getD i 0 ∧ EN (48 + p + i) = ((48 + p + i : Nat) : Int) + tl A 1 ((lowv A l p).drop i) := by
    intro i hi
    have hi2 : p + i < l.1.length := by omega
    have hpre := (sb_pre hmt hmp hi).1
    constructor
    · rw [show 48 + p + i = 48 + (p + i) by omega, rgn_Y6 r3 (fun c hc => (k3 c hc).2) hi2]
      show (l.1.map sw).getD (p + i) 0 = (((l.1.map sw).drop p).take (tl A 1 ((l.1.map sw).drop p))).getD i 0
      have hi3 : i < tl A 1 ((l.1.map sw).drop p) := by rw [← List.map_drop, tl_map hA sw_inv.1]; omega
      rw [List.getD_eq_getElem?_getD, List.getD_eq_getElem?_getD, List.getElem?_take, if_pos hi3, List.getElem?_drop]
    · rw [show 48 + p + i = 48 + (p + i) by omega, (r3 (p + i) hi2).2.2]
      have e2 : tl A 1 ((lowv A l p).drop i) = tl A 1 (l.1.drop (p + i)) := by
        rw [hpre]
        show tl A 1 ((l.1.map sw).drop (p + i)) = _
        rw [← List.map_drop, tl_map hA sw_inv.1]
      rw [e2]
  refine ⟨tps_two hA2 t1 (sb_ts hmt hmp) (by omega) (fun i hi => ?_) (fun i hi => (hat i hi).1) (fun i hi => ?_) (fun i hi => ?_), hlen, by omega, hat⟩
  · have := rgn_Y r1 hi
    rw [Nat.zero_add] at this
    exact this
  · have := (r1 i hi).2.2
    rw [Nat.zero_add] at this
    show (EN i).toNat = _
    rw [this]
    omega
  · show (EN (48 + p + i)).toNat = _
    rw [(hat i hi).2]
    omega
theorem T2_first {u v : List Int} {b : Nat} (hu : ts A 1 u) : T2 A u v b 0 = u := by
  have := List.length_pos_iff.2 (ts_ne hu)
  unfold T2
  rw [if_pos this]
  unfold sb
  rw [List.drop_zero, ts_all hu, List.take_length]
theorem T2_second {u v : List Int} {b : Nat} (hb : u.length ≤ b) (hv : ts A 1 v) : T2 A u v b b = v := by
  unfold T2
  rw [if_neg (by omega), Nat.sub_self]
  unfold sb
  rw [List.drop_zero, ts_all hv, List.take_length]
end LA

/-! Places at which terms stand: what a substitution makes of them. -/
section PL
variable {A : Int → Nat}
/-- places D, their letters Y, the places of their terms, the words there -/
def tps (A : Int → Nat) (D : Nat → Prop) (Y : Nat → Int) (ch : Nat → Nat → Nat) (Tm : Nat → List Int) : Prop := (∀ i, D i → ∀ k, k < A (Y i) → D (ch i k)) ∧ (∀ i, D i → Tm i = Y i :: (List.range (A (Y i))).flatMap fun k => Tm (ch i k)) ∧ ∀ i, D i → ts A 1 (Tm i)
theorem flat_inj {F G : Nat → List Int} : ∀ (xs : List Nat), (∀ k, k ∈ xs → ts A 1 (F k) ∧ ts A 1 (G k)) → xs.flatMap F = xs.flatMap G → ∀ k, k ∈ xs → F k = G k
  | [], _, _, k, hk => by cases hk
  | x :: xs, h, e, k, hk => by
    rw [List.flatMap_cons, List.flatMap_cons] at e
    have hx := h x (List.mem_cons_self ..)
    have e2 := ts_same hx.1 hx.2 e
    rcases List.mem_cons.1 hk with rfl | hk
    · exact e2.1
    · exact flat_inj xs (fun y hy => h y (List.mem_cons_of_mem _ hy)) e2.2 k hk
theorem nflat_congr {F G : Nat → List Int} : ∀ (xs : List Nat), (∀ k, k ∈ xs → F k = G k) → xs.flatMap F = xs.flatMap G
  | [], _ => rfl
  | x :: xs, h => by
    rw [List.flatMap_cons, List.flatMap_cons, h x (List.mem_cons_self ..), nflat_congr xs (fun y hy => h y (List.mem_cons_of_mem _ hy))]
variable {D : Nat → Prop} {Y : Nat → Int} {ch : Nat → Nat → Nat} {Tm : Nat → List Int}
/-- what is put into the word at a place whose letter is a symbol -/
theorem tps_put (hA : ∀ c, 117 ≤ c → A c = 0) (ht : tps A D Y ch Tm) {h : Int → List Int} (hh : gs A h) {i : Nat} (hi : D i) : (Tm i).flatMap h = h (Y i) ++ (List.range (A (Y i))).flatMap fun k => (Tm (ch i k)).flatMap h := by
  rw [ht.2.1 i hi, List.flatMap_cons, List.flatMap_assoc]
theorem tps_var (hA : ∀ c, 117 ≤ c → A c = 0) (ht : tps A D Y ch Tm) {i : Nat} (hi : D i) (hv : 117 ≤ Y i) : Tm i = [Y i] := by
  rw [ht.2.1 i hi, hA _ hv]
  rfl
theorem tps_down (hA : ∀ c, 117 ≤ c → A c = 0) (ht : tps A D Y ch Tm) {h : Int → List Int} (hh : gs A h) {a b : Nat} (ha : D a) (hb : D b) (hY : Y a = Y b) (e : (Tm a).flatMap h = (Tm b).flatMap h) : ∀ k, k < A (Y a) → (Tm (ch a k)).flatMap h = (Tm (ch b k)).flatMap h := by
  rw [tps_put hA ht hh ha, tps_put hA ht hh hb, hY] at e
  have e2 := List.append_cancel_left e
  intro k hk
  rw [hY] at hk
  refine flat_inj (A := A) _ (fun k hk => ?_) e2 k (List.mem_range.2 hk)
  rw [List.mem_range] at hk
  exact ⟨gs_ts hA hh (ht.2.2 _ (ht.1 a ha k (by rw [hY]; exact hk))), gs_ts hA hh (ht.2.2 _ (ht.1 b hb k hk))⟩
theorem tps_up (hA : ∀ c, 117 ≤ c → A c = 0) (ht : tps A D Y ch Tm) {h : Int → List Int} (hh : gs A h) {a b : Nat} (ha : D a) (hb : D b) (hY : Y a = Y b) (e : ∀ k, k < A (Y a) → (Tm (ch a k)).flatMap h = (Tm (ch b k)).flatMap h) : (Tm a).flatMap h = (Tm b).flatMap h := by
  rw [tps_put hA ht hh ha, tps_put hA ht hh hb, hY]
  refine congrArg (_ ++ ·) (nflat_congr _ fun k hk => ?_)
  rw [List.mem_range] at hk
  exact e k (by rw [hY]; exact hk)
theorem tps_clash (hA : ∀ c, 117 ≤ c → A c = 0) (ht : tps A D Y ch Tm) {h : Int → List Int} (hh : gs A h) {a b : Nat} (ha : D a) (hb : D b) (h1 : Y a < 117) (h2 : Y b < 117) (hY : Y a ≠ Y b) : (Tm a).flatMap h ≠ (Tm b).flatMap h := by
  intro e
  rw [tps_put hA ht hh ha, tps_put hA ht hh hb, hh.1 _ h1, hh.1 _ h2] at e
  injection e with e1 _
  exact hY e1
/-- the word at a term of a place is shorter, whatever is put -/
theorem tps_less (hA : ∀ c, 117 ≤ c → A c = 0) (ht : tps A D Y ch Tm) {h : Int → List Int} (hh : gs A h) {a k : Nat} (ha : D a) (hk : k < A (Y a)) : ((Tm (ch a k)).flatMap h).length < ((Tm a).flatMap h).length := by
  rw [tps_put hA ht hh ha, List.length_append]
  have h1 := List.length_pos_iff.2 (gs_ne hh (Y a))
  have h2 : ∀ (xs : List Nat) (F : Nat → List Int), k ∈ xs → (F k).length ≤ (xs.flatMap F).length := by
    intro xs F
    induction xs with
    | nil => intro h; cases h
    | cons x xs ih =>
      intro h
      rw [List.flatMap_cons, List.length_append]
      rcases List.mem_cons.1 h with rfl | h
      · omega
      · have := ih h; omega
  have := h2 (List.range (A (Y a))) (fun k => (Tm (ch a k)).flatMap h) (List.mem_range.2 hk)
  omega
/-- how many of the first n are their own -/
def nrt (par : Nat → Nat) : Nat → Nat
  | 0 => 0
  | n + 1 => nrt par n + if par n = n then 1 else 0
def n_up (par : Nat → Nat) (k v : Nat) : Nat → Nat := fun j => if j = k then v else par j
theorem nrt_le (par : Nat → Nat) : ∀ n, nrt par n ≤ n
  | 0 => Nat.le_refl _
  | n + 1 => by
    have := nrt_le par n
    show nrt par n + (if par n = n then 1 else 0) ≤ n + 1
    split <;> omega
theorem nrt_off (par : Nat → Nat) (k v : Nat) : ∀ n, n ≤ k → nrt (n_up par k v) n = nrt par n
  | 0, _ => rfl
  | n + 1, h => by
    show nrt (n_up par k v) n + (if n_up par k v n = n then 1 else 0) = nrt par n + (if par n = n then 1 else 0)
    rw [nrt_off par k v n (by omega), show n_up par k v n = par n from if_neg (by omega)]
theorem nrt_up (par : Nat → Nat) (k v : Nat) (h0 : par k = k) (hv : v ≠ k) : ∀ n, k < n → nrt (n_up par k v) n + 1 = nrt par n
  | 0, h => by omega
  | n + 1, h => by
    show nrt (n_up par k v) n + (if n_up par k v n = n then 1 else 0) + 1 = nrt par n + (if par n = n then 1 else 0)
    by_cases e : n = k
    · subst e
      rw [nrt_off par n v n (Nat.le_refl _), show n_up par n v n = v from if_pos rfl, if_neg hv, if_pos h0]
    · have := nrt_up par k v h0 hv n (by omega)
      rw [show n_up par k v n = par n from if_neg e]
      omega
def itr (par : Nat → Nat) : Nat → Nat → Nat
  | 0, n => n
  | k + 1, n => itr par k (par n)
theorem itr_fix {par : Nat → Nat} {n : Nat} (h : par n = n) : ∀ k, itr par k n = n
  | 0 => rfl
  | k + 1 => by show itr par k (par n) = n; rw [h]; exact itr_fix h k
theorem itr_add (par : Nat → Nat) : ∀ (k m n : Nat), itr par (k + m) n = itr par m (itr par k n)
  | 0, m, n => by rw [Nat.zero_add]; rfl
  | k + 1, m, n => by rw [Nat.add_right_comm]; exact itr_add par k m (par n)
theorem itr_succ (par : Nat → Nat) (k n : Nat) : itr par (k + 1) n = par (itr par k n) := by
  rw [itr_add]; rfl
/-- where the way from n ends -/
def rep (par : Nat → Nat) (n : Nat) : Nat := itr par 108 n
/-- ways end: ranks fall, and there are few -/
def rnk (par : Nat → Nat) (rk : Nat → Nat) : Prop := (∀ n, n < 108 → par n < 108) ∧ (∀ n, n < 108 → par n ≠ n → rk (par n) < rk n) ∧ ∀ n, n < 108 → rk n + nrt par 108 ≤ 108
theorem itr_lt {par rk : Nat → Nat} (h : rnk par rk) : ∀ (k n : Nat), n < 108 → itr par k n < 108
  | 0, n, hn => hn
  | k + 1, n, hn => itr_lt h k (par n) (h.1 n hn)
theorem itr_end {par rk : Nat → Nat} (h : rnk par rk) : ∀ (k n : Nat), n < 108 → rk n ≤ k → par (itr par k n) = itr par k n
  | 0, n, hn, hr => by
    by_cases e : par n = n
    · exact e
    · have := h.2.1 n hn e; omega
  | k + 1, n, hn, hr => by
    show par (itr par k (par n)) = itr par k (par n)
    by_cases e : par n = n
    · rw [e, itr_fix e]; exact e
    · have := h.2.1 n hn e
      exact itr_end h k (par n) (h.1 n hn) (by omega)
theorem rep_fix {par rk : Nat → Nat} (h : rnk par rk) {n : Nat} (hn : n < 108) : par (rep par n) = rep par n := itr_end h 108 n hn (by have := h.2.2 n hn; omega)
theorem rep_lt {par rk : Nat → Nat} (h : rnk par rk) {n : Nat} (hn : n < 108) : rep par n < 108 := itr_lt h 108 n hn
theorem rep_par {par rk : Nat → Nat} (h : rnk par rk) {n : Nat} (hn : n < 108) : rep par (par n) = rep par n := by
  have h1 := rep_fix h hn
  have h2 : itr par 109 n = rep par (par n) := rfl
  rw [← h2, itr_succ]
  exact h1
theorem rep_self {par : Nat → Nat} {n : Nat} (h : par n = n) : rep par n = n := itr_fix h _
/-- what is the same along a way is the same at its end -/
theorem rep_all {α : Type} {par rk : Nat → Nat} (h : rnk par rk) {φ : Nat → α} (hφ : ∀ n, n < 108 → φ (par n) = φ n) {n : Nat} (hn : n < 108) : φ (rep par n) = φ n := by
  have : ∀ (k n : Nat), n < 108 → φ (itr par k n) = φ n := by
    intro k
    induction k with
    | zero => intro n _; rfl
    | succ k ih =>
      intro n hn
      show φ (itr par k (par n)) = φ n
      rw [ih _ (h.1 n hn), hφ n hn]
  exact this 108 n hn
theorem rnk_up {par rk : Nat → Nat} (h : rnk par rk) {a b : Nat} (ha : a < 108) (hb : b < 108) (pa : par a = a) (pb : par b = b) (hab : b ≠ a) : ∃ rk', rnk (n_up par a b) rk' := by
  refine ⟨fun n => if n = b then 0 else rk n + 1, fun n hn => ?_, fun n hn he => ?_, fun n hn => ?_⟩
  · unfold n_up
    split
    · exact hb
    · exact h.1 n hn
  · unfold n_up at he ⊢
    by_cases e : n = a
    · rw [if_pos e]
      show (if b = b then 0 else rk b + 1) < (if n = b then 0 else rk n + 1)
      rw [if_pos rfl, if_neg (by omega)]
      omega
    · rw [if_neg e] at he ⊢
      show (if par n = b then 0 else rk (par n) + 1) < (if n = b then 0 else rk n + 1)
      have hnb : n ≠ b := fun h => he (by rw [h]; exact pb)
      have := h.2.1 n hn he
      rw [if_neg hnb]
      split <;> omega
  · have h1 := nrt_up par a b pa hab 108 ha
    have h2 := h.2.2 n hn
    have h3 := h.2.2 b hb
    show (if n = b then 0 else rk n + 1) + nrt (n_up par a b) 108 ≤ 108
    split <;> omega
end PL

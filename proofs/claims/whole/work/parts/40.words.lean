/-! Words in Polish form: how long the first n terms of a word are, words that are n terms. -/
section WO
variable {A : Int → Nat}
/-- the length of the first n terms of a word -/
def tl (A : Int → Nat) : Nat → List Int → Nat
  | 0, _ => 0
  | _ + 1, [] => 0
  | n + 1, c :: u => 1 + tl A (n + A c) u
/-- the word is n terms -/
def ts (A : Int → Nat) : Nat → List Int → Prop
  | 0, [] => True
  | 0, _ :: _ => False
  | _ + 1, [] => False
  | n + 1, c :: u => ts A (n + A c) u
theorem tl_zero (u : List Int) : tl A 0 u = 0 := by cases u <;> rfl
theorem tl_nil (n : Nat) : tl A n [] = 0 := by cases n <;> rfl
theorem tl_le : ∀ (u : List Int) (n : Nat), tl A n u ≤ u.length
  | [], n => by rw [tl_nil]; exact Nat.zero_le _
  | c :: u, 0 => by rw [tl_zero]; exact Nat.zero_le _
  | c :: u, n + 1 => by
    have := tl_le u (n + A c)
    show 1 + tl A (n + A c) u ≤ u.length + 1
    omega
theorem tl_pos {n : Nat} {u : List Int} (hn : 0 < n) (hu : u ≠ []) : 0 < tl A n u := by
  cases n with
  | zero => omega
  | succ n => cases u with
    | nil => exact absurd rfl hu
    | cons c u => show 0 < 1 + tl A (n + A c) u; omega
theorem tl_add : ∀ (u : List Int) (m n : Nat), tl A (m + n) u = tl A m u + tl A n (u.drop (tl A m u))
  | [], m, n => by simp [tl_nil]
  | c :: u, 0, n => by simp [tl_zero]
  | c :: u, m + 1, n => by
    have := tl_add u (m + A c) n
    rw [show m + 1 + n = m + n + 1 by omega]
    show 1 + tl A (m + n + A c) u = (1 + tl A (m + A c) u) + tl A n ((c :: u).drop (1 + tl A (m + A c) u))
    rw [show m + n + A c = m + A c + n by omega, this, Nat.add_comm 1 (tl A (m + A c) u), List.drop_succ_cons]
    omega
theorem tl_cut : ∀ (u : List Int) (m k : Nat), tl A m u ≤ k → tl A m (u.take k) = tl A m u
  | [], m, k, _ => by simp
  | c :: u, 0, k, _ => by rw [tl_zero, tl_zero]
  | c :: u, m + 1, 0, h => by
    have : 1 + tl A (m + A c) u ≤ 0 := h
    omega
  | c :: u, m + 1, k + 1, h => by
    have h' : 1 + tl A (m + A c) u ≤ k + 1 := h
    show 1 + tl A (m + A c) (u.take k) = 1 + tl A (m + A c) u
    rw [tl_cut u (m + A c) k (by omega)]
theorem ts_ne {n : Nat} {u : List Int} (h : ts A (n + 1) u) : u ≠ [] := by
  rintro rfl
  exact h
theorem ts_zero {u : List Int} (h : ts A 0 u) : u = [] := by
  cases u with
  | nil => rfl
  | cons c u => exact h.elim
theorem ts_tl : ∀ (u : List Int) (n : Nat) (v : List Int), ts A n u → tl A n (u ++ v) = u.length
  | [], 0, v, _ => by rw [tl_zero]; rfl
  | [], n + 1, v, h => h.elim
  | c :: u, 0, v, h => h.elim
  | c :: u, n + 1, v, h => by
    have := ts_tl u (n + A c) v h
    show 1 + tl A (n + A c) (u ++ v) = u.length + 1
    omega
theorem ts_all {n : Nat} {u : List Int} (h : ts A n u) : tl A n u = u.length := by
  have := ts_tl u n [] h
  rwa [List.append_nil] at this
theorem ts_app : ∀ (u : List Int) (m n : Nat) (v : List Int), ts A m u → ts A n v → ts A (m + n) (u ++ v)
  | [], 0, n, v, _, h => by rw [Nat.zero_add]; exact h
  | [], m + 1, n, v, h, _ => h.elim
  | c :: u, 0, n, v, h, _ => h.elim
  | c :: u, m + 1, n, v, h, h' => by
    have := ts_app u (m + A c) n v h h'
    rw [show m + 1 + n = m + n + 1 by omega]
    show ts A (m + n + A c) (u ++ v)
    rw [show m + n + A c = m + A c + n by omega]
    exact this
theorem ts_split : ∀ (u : List Int) (m n : Nat), ts A (m + n) u → ts A m (u.take (tl A m u)) ∧ ts A n (u.drop (tl A m u))
  | [], 0, n, h => by rw [Nat.zero_add] at h; rw [tl_zero]; exact ⟨True.intro, h⟩
  | [], m + 1, n, h => by
    rw [show m + 1 + n = m + n + 1 by omega] at h
    exact h.elim
  | c :: u, 0, n, h => by rw [Nat.zero_add] at h; rw [tl_zero]; exact ⟨True.intro, h⟩
  | c :: u, m + 1, n, h => by
    rw [show m + 1 + n = m + n + 1 by omega] at h
    have h' : ts A (m + n + A c) u := h
    rw [show m + n + A c = m + A c + n by omega] at h'
    have := ts_split u (m + A c) n h'
    have e : tl A (m + 1) (c :: u) = tl A (m + A c) u + 1 := by show 1 + tl A (m + A c) u = _; omega
    rw [e, List.take_succ_cons, List.drop_succ_cons]
    exact this
theorem ts_same {n : Nat} {u v x y : List Int} (hu : ts A n u) (hv : ts A n v) (h : u ++ x = v ++ y) : u = v ∧ x = y := by
  have h1 := ts_tl u n x hu
  have h2 := ts_tl v n y hv
  rw [h] at h1
  exact List.append_inj h (by omega)
/-- a word's tail is so many terms too -/
theorem ts_drop : ∀ (u : List Int) (n : Nat), ts A n u → ∀ i, i < u.length → ∃ m, ts A (1 + m) (u.drop i)
  | [], n, _, i, hi => absurd hi (by simp)
  | c :: u, 0, h, i, hi => h.elim
  | c :: u, n + 1, h, 0, hi => ⟨n, by rw [Nat.add_comm]; exact h⟩
  | c :: u, n + 1, h, i + 1, hi => by
    rw [List.drop_succ_cons]
    exact ts_drop u (n + A c) h i (by simpa using hi)
/-- the term that begins at a word's place i -/
def sb (A : Int → Nat) (w : List Int) (i : Nat) : List Int := (w.drop i).take (tl A 1 (w.drop i))
theorem sb_ts {w : List Int} {n i : Nat} (h : ts A n w) (hi : i < w.length) : ts A 1 (sb A w i) := by
  obtain ⟨m, hm⟩ := ts_drop w n h i hi
  exact (ts_split _ 1 m hm).1
theorem sb_len (w : List Int) (i : Nat) : (sb A w i).length = tl A 1 (w.drop i) := by
  unfold sb
  rw [List.length_take]
  exact Nat.min_eq_left (tl_le _ _)
/-- the terms that a word begins with -/
def sp (A : Int → Nat) : Nat → List Int → List (List Int)
  | 0, _ => []
  | n + 1, u => u.take (tl A 1 u) :: sp A n (u.drop (tl A 1 u))
theorem sp_flat : ∀ (n : Nat) (u : List Int), (sp A n u).flatten = u.take (tl A n u)
  | 0, u => by rw [tl_zero]; rfl
  | n + 1, u => by
    show u.take (tl A 1 u) ++ (sp A n (u.drop (tl A 1 u))).flatten = _
    rw [sp_flat n, Nat.add_comm n 1, tl_add, List.take_add]
theorem sp_ts : ∀ (n m : Nat) (u : List Int), ts A (n + m) u → ∀ t, t ∈ sp A n u → ts A 1 t
  | 0, m, u, _, t, ht => by simp [sp] at ht
  | n + 1, m, u, h, t, ht => by
    rw [show n + 1 + m = 1 + (n + m) by omega] at h
    have hs := ts_split u 1 (n + m) h
    rcases List.mem_cons.1 (show t ∈ u.take (tl A 1 u) :: sp A n (u.drop (tl A 1 u)) from ht) with rfl | h2
    · exact hs.1
    · exact sp_ts n m _ hs.2 t h2
theorem sp_cut : ∀ (n : Nat) (u : List Int) (k : Nat), tl A n u ≤ k → sp A n (u.take k) = sp A n u
  | 0, u, k, _ => rfl
  | n + 1, u, k, h => by
    have e : tl A (n + 1) u = tl A 1 u + tl A n (u.drop (tl A 1 u)) := by rw [Nat.add_comm n 1, tl_add]
    rw [e] at h
    show (u.take k).take (tl A 1 (u.take k)) :: sp A n ((u.take k).drop (tl A 1 (u.take k))) = u.take (tl A 1 u) :: sp A n (u.drop (tl A 1 u))
    rw [tl_cut u 1 k (by omega), List.take_take, Nat.min_eq_left (by omega), List.drop_take, sp_cut n _ _ (by omega)]
theorem sb_cons {w : List Int} {i : Nat} (h : i < w.length) : sb A w i = w[i] :: (w.drop (i + 1)).take (tl A (A w[i]) (w.drop (i + 1))) := by
  unfold sb
  have e : w.drop i = w[i] :: w.drop (i + 1) := by simp
  rw [e]
  show (w[i] :: w.drop (i + 1)).take (1 + tl A (0 + A w[i]) (w.drop (i + 1))) = _
  rw [Nat.add_comm 1, List.take_succ_cons, Nat.zero_add]
/-- the terms of the term at i stand behind i -/
theorem sb_sp {w : List Int} {i : Nat} (h : i < w.length) : sp A (A w[i]) ((sb A w i).drop 1) = sp A (A w[i]) (w.drop (i + 1)) := by
  rw [sb_cons h]
  show sp A (A w[i]) ((w.drop (i + 1)).take _) = _
  exact sp_cut _ _ _ (Nat.le_refl _)
end WO

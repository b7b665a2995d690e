/-! Rows and words: ends, needs, terms that are read. -/
section RO
theorem sl_cons (T : Nat → Int) (j n : Nat) : sl T j (n + 1) = T j :: sl T (j + 1) n := by
  unfold sl
  rw [List.range_succ_eq_map, List.map_cons, List.map_map]
  refine congrArg (T j :: ·) (List.map_congr_left fun i _ => ?_)
  show T (j + (i + 1)) = T (j + 1 + i)
  rw [show j + (i + 1) = j + 1 + i by omega]
theorem sl_nil (T : Nat → Int) (j : Nat) : sl T j 0 = [] := rfl
theorem sl_len (T : Nat → Int) (j n : Nat) : (sl T j n).length = n := by
  unfold sl
  rw [List.length_map, List.length_range]
theorem sl_drop (T : Nat → Int) : ∀ (k j n : Nat), (sl T j n).drop k = sl T (j + k) (n - k)
  | 0, j, n => by rw [List.drop_zero]; rfl
  | k + 1, j, 0 => by rw [sl_nil, List.drop_nil, Nat.zero_sub]; rfl
  | k + 1, j, n + 1 => by rw [sl_cons, List.drop_succ_cons, sl_drop T k (j + 1) n, show j + 1 + k = j + (k + 1) by omega, Nat.add_sub_add_right]
theorem sl_take (T : Nat → Int) : ∀ (k j n : Nat), k ≤ n → (sl T j n).take k = sl T j k
  | 0, j, n, _ => by rw [List.take_zero]; rfl
  | k + 1, j, 0, h => by omega
  | k + 1, j, n + 1, h => by rw [sl_cons, List.take_succ_cons, sl_take T k (j + 1) n (by omega), sl_cons]
theorem sl_app (T : Nat → Int) : ∀ (m j n : Nat), sl T j (m + n) = sl T j m ++ sl T (j + m) n
  | 0, j, n => by rw [Nat.zero_add]; rfl
  | m + 1, j, n => by rw [Nat.add_right_comm, sl_cons, sl_app T m (j + 1) n, sl_cons, show j + 1 + m = j + (m + 1) by omega]; rfl
theorem sl_word (T : Nat → Int) : ∀ (w : List Int) (j : Nat), (∀ i, i < w.length → T (j + i) = w.getD i 0) → sl T j w.length = w
  | [], j, _ => rfl
  | c :: w, j, h => by
    rw [List.length_cons, sl_cons]
    have h0 := h 0 (by simp)
    rw [sl_word T w (j + 1) (fun i hi => by
      have := h (i + 1) (by simpa using hi)
      rw [show j + 1 + i = j + (i + 1) by omega, this]
      rfl)]
    refine congrArg (· :: w) h0
theorem sl_congr {T U : Nat → Int} (j n : Nat) (h : ∀ i, i < n → T (j + i) = U (j + i)) : sl T j n = sl U j n := List.map_congr_left fun i hi => h i (List.mem_range.1 hi)
theorem sl_get (T : Nat → Int) (j n i : Nat) (h : i < n) : (sl T j n).getD i 0 = T (j + i) := by
  unfold sl
  rw [List.getD_eq_getElem?_getD, List.getElem?_map, List.getElem?_range h]
  rfl
theorem sl_mem {T : Nat → Int} {j n : Nat} {c : Int} (h : c ∈ sl T j n) : ∃ i, i < n ∧ c = T (j + i) := by
  obtain ⟨i, hi, e⟩ := List.mem_map.1 h
  exact ⟨i, List.mem_range.1 hi, e.symm⟩
/-- the places of a letter -/
def Ar (P : Nat → Int) (c : Int) : Nat := (at256 P c).toNat
theorem fs_tl {P T E : Nat → Int} {to lo : Nat} (hE : ∀ j : Nat, lo ≤ j → j < to → E j = (j : Int) + tl (Ar P) 1 (sl T j (to - j))) : ∀ (n e : Nat), lo ≤ e → e ≤ to → fs E to n e = (e : Int) + tl (Ar P) n (sl T e (to - e))
  | 0, e, _, _ => by rw [tl_zero]; show (e : Int) = e + ((0 : Nat) : Int); omega
  | n + 1, e, h1, h2 => by
    unfold fs
    by_cases h : (e : Int) < to
    · rw [if_pos h, Int.toNat_natCast, hE e h1 (by omega)]
      have hle := tl_le (A := Ar P) (sl T e (to - e)) 1
      rw [sl_len] at hle
      have := fs_tl hE n (e + tl (Ar P) 1 (sl T e (to - e))) (by omega) (by omega)
      rw [Int.natCast_add] at this
      rw [this, Nat.add_comm n 1, tl_add, sl_drop, show to - (e + tl (Ar P) 1 (sl T e (to - e))) = to - e - tl (Ar P) 1 (sl T e (to - e)) by omega]
      omega
    · rw [if_neg h, show to - e = 0 by omega, sl_nil, tl_nil]
      omega
theorem fe_tl (P T : Nat → Int) (to : Nat) (E : Nat → Int) : ∀ (k : Nat), k ≤ to → ∀ j : Nat, to - k ≤ j → j < to → fe P T to E k j = (j : Int) + tl (Ar P) 1 (sl T j (to - j))
  | 0, _, j, h1, h2 => by omega
  | k + 1, hk, j, h1, h2 => by
    have ih := fe_tl P T to E k (by omega)
    unfold fe ax_up
    by_cases e : j = to - 1 - k
    · rw [if_pos e]
      have h3 := fs_tl (lo := to - k) (fun j h1 h2 => ih j h1 h2) (at256 P (T (to - 1 - k))).toNat (to - 1 - k + 1) (by omega) (by omega)
      rw [Int.natCast_add] at h3
      rw [show (((to - 1 - k : Nat) : Int) + 1) = ((to - 1 - k : Nat) : Int) + ((1 : Nat) : Int) from rfl, h3, ← e, show to - j = to - (j + 1) + 1 by omega, sl_cons]
      show _ = (j : Int) + ((1 + tl (Ar P) (0 + Ar P (T j)) (sl T (j + 1) (to - (j + 1))) : Nat) : Int)
      rw [Nat.zero_add]
      unfold Ar
      omega
    · rw [if_neg e]
      exact ih j (by omega) h2
/-- what a word's letters need -/
def dsm (A : Int → Nat) : List Int → Int
  | [] => 0
  | c :: u => (A c : Int) - 1 + dsm A u
variable {A : Int → Nat}
theorem dsm_app : ∀ (u v : List Int), dsm A (u ++ v) = dsm A u + dsm A v
  | [], v => by show dsm A v = 0 + dsm A v; omega
  | c :: u, v => by
    have := dsm_app u v
    show (A c : Int) - 1 + dsm A (u ++ v) = (A c : Int) - 1 + dsm A u + dsm A v
    omega
theorem ts_dsm : ∀ (u : List Int) (m : Nat), ts A m u → (∀ k, k < u.length → 0 < (m : Int) + dsm A (u.take k)) ∧ (m : Int) + dsm A u = 0
  | [], 0, _ => ⟨fun k hk => by simp at hk, rfl⟩
  | [], m + 1, h => h.elim
  | c :: u, 0, h => h.elim
  | c :: u, m + 1, h => by
    have ih := ts_dsm u (m + A c) h
    constructor
    · intro k hk
      cases k with
      | zero => show (0 : Int) < ((m + 1 : Nat) : Int) + 0; omega
      | succ k =>
        have := ih.1 k (by simpa using hk)
        show (0 : Int) < ((m + 1 : Nat) : Int) + ((A c : Int) - 1 + dsm A (u.take k))
        omega
    · have := ih.2
      show ((m + 1 : Nat) : Int) + ((A c : Int) - 1 + dsm A u) = 0
      omega
theorem dsm_ts : ∀ (u : List Int) (m : Nat), (∀ k, k < u.length → (m : Int) + dsm A (u.take k) ≠ 0) → (m : Int) + dsm A u = 0 → ts A m u
  | [], m, _, h => by
    have : (m : Int) + 0 = 0 := h
    have h2 : m = 0 := by omega
    rw [h2]; exact True.intro
  | c :: u, m, h1, h2 => by
    have h0 : (m : Int) + 0 ≠ 0 := h1 0 (by simp)
    obtain ⟨n, rfl⟩ : ∃ n, m = n + 1 := ⟨m - 1, by omega⟩
    refine dsm_ts u (n + A c) (fun k hk => ?_) ?_
    · have h3 : ((n + 1 : Nat) : Int) + ((A c : Int) - 1 + dsm A (u.take k)) ≠ 0 := h1 (k + 1) (by simpa using hk)
      intro h4
      apply h3
      omega
    · have h3 : ((n + 1 : Nat) : Int) + ((A c : Int) - 1 + dsm A u) = 0 := h2
      omega
theorem ndA_dsm {K : Int → Prop} {B : Int → Int} (hB : ∀ c, K c → B c = (A c : Int)) (W : Nat → Int) : ∀ n : Nat, (∀ i, i < n → K (W i)) → ndA B W n = 1 + dsm A (sl W 0 n)
  | 0, _ => rfl
  | n + 1, h => by
    have ih := ndA_dsm hB W n (fun i hi => h i (by omega))
    show ndA B W n + B (W n) - 1 = _
    rw [sl_app W n 0 1, dsm_app, ih, hB _ (h n (by omega)), Nat.zero_add]
    show 1 + dsm A (sl W 0 n) + (A (W n) : Int) - 1 = 1 + (dsm A (sl W 0 n) + ((A (W (n + 0)) : Int) - 1 + 0))
    rw [Nat.add_zero]
    omega
/-- what is read is a term -/
theorem vt_ts {K : Int → Prop} {B : Int → Int} (hB : ∀ c, K c → B c = (A c : Int)) (W : Nat → Int) (n : Nat) : vt K B W n ↔ al K (sl W 0 n) ∧ ts A 1 (sl W 0 n) ∧ n ≤ 24 := by
  unfold vt
  constructor
  · rintro ⟨h1, h2, h3⟩
    refine ⟨fun c hc => ?_, dsm_ts _ 1 (fun k hk => ?_) ?_, h3⟩
    · obtain ⟨i, hi, e⟩ := sl_mem hc
      rw [e, Nat.zero_add]
      exact (h1 i hi).1
    · rw [sl_len] at hk
      have := (h1 k hk).2
      rw [ndA_dsm hB W k (fun i hi => (h1 i (by omega)).1)] at this
      rw [sl_take W k 0 n (by omega)]
      exact this
    · have := h2
      rw [ndA_dsm hB W n (fun i hi => (h1 i hi).1)] at this
      exact this
  · rintro ⟨h1, h2, h3⟩
    have hK : ∀ i, i < n → K (W i) := fun i hi => h1 (W i) (by
      unfold sl
      exact List.mem_map.2 ⟨i, List.mem_range.2 hi, by rw [Nat.zero_add]⟩)
    have h4 := ts_dsm _ 1 h2
    rw [sl_len] at h4
    refine ⟨fun i hi => ⟨hK i hi, ?_⟩, ?_, h3⟩
    · have := h4.1 i hi
      rw [sl_take W i 0 n (by omega)] at this
      rw [ndA_dsm hB W i (fun j hj => hK j (by omega))]
      have e : ((1 : Nat) : Int) = 1 := rfl
      rw [e] at this
      omega
    · rw [ndA_dsm hB W n hK]
      exact h4.2
/-- a letter's code -/
def co (c : Int) : Int := if c < 117 then c - 97 else c - 109
/-- letters: symbols that are declared, variables below N -/
def kn (P : Nat → Int) (N : Int) (c : Int) : Prop := (97 ≤ c ∧ c ≤ 104 ∧ 0 ≤ P (c - 97).toNat) ∨ (117 ≤ c ∧ c < N)
theorem kn_mono {P : Nat → Int} {N M : Int} (h : N ≤ M) {c : Int} (hc : kn P N c) : kn P M c := hc.imp id (fun h2 => ⟨h2.1, by omega⟩)
/-- the places that both sides know are the same -/
def sam (A : Int → Nat) (P : Nat → Int) : Prop := (∀ c : Int, 97 ≤ c → c ≤ 104 → 0 ≤ P (c - 97).toNat → (A c : Int) = P (c - 97).toNat) ∧ ∀ c : Int, 117 ≤ c → A c = 0
theorem ar_co {P : Nat → Int} (h : sam A P) {N c : Int} (hc : kn P N c) : ar P (co c) = (A c : Int) := by
  unfold ar co
  rcases hc with ⟨h1, h2, h3⟩ | ⟨h1, h2⟩
  · rw [if_pos (show c < 117 by omega), if_pos (by omega), h.1 c h1 h2 h3]
  · rw [if_neg (show ¬ c < 117 by omega), if_neg (by omega), h.2 c h1]
    rfl
/-- the codes of a word stand in a row from b on -/
def cw (X : Nat → Int) (b : Nat) (w : List Int) : Prop := ∀ i, i < w.length → X (b + i) = co (w.getD i 0)
theorem nd_dsm {P X : Nat → Int} (h : sam A P) {N : Int} {b : Nat} {w : List Int} (hw : cw X b w) (hk : al (kn P N) w) : ∀ k : Nat, k ≤ w.length → nd P X b k = 1 + dsm A (w.take k)
  | 0, _ => by rw [List.take_zero]; rfl
  | k + 1, hk2 => by
    have ih := nd_dsm h hw hk k (by omega)
    have e : w.take (k + 1) = w.take k ++ [w.getD k 0] := by
      rw [List.take_add_one, List.getD_eq_getElem?_getD, List.getElem?_eq_getElem (show k < w.length by omega)]
      rfl
    have hm : w.getD k 0 ∈ w := by
      rw [List.getD_eq_getElem?_getD, List.getElem?_eq_getElem (show k < w.length by omega)]
      exact List.getElem_mem _
    rw [e, dsm_app]
    show nd P X b k + ar P (X (b + k)) - 1 = _
    rw [ih, hw k (by omega), ar_co h (hk _ hm)]
    show _ = 1 + (dsm A (w.take k) + ((A (w.getD k 0) : Int) - 1 + 0))
    omega
/-- what the reference needs to find a term's end -/
theorem nd_end {P X : Nat → Int} (h : sam A P) {N : Int} {b m : Nat} {w : List Int} (hw : cw X b w) (hk : al (kn P N) w) (ht : ts A (1 + m) w) : (∀ j, j < tl A 1 w → 0 < nd P X b j) ∧ nd P X b (tl A 1 w) = 0 ∧ tl A 1 w ≤ w.length := by
  have h1 := (ts_split w 1 m ht).1
  have h2 := ts_dsm _ 1 h1
  have h3 := tl_le (A := A) w 1
  rw [List.length_take, Nat.min_eq_left h3] at h2
  refine ⟨fun j hj => ?_, ?_, h3⟩
  · rw [nd_dsm h hw hk j (by omega)]
    have := h2.1 j hj
    rw [List.take_take, Nat.min_eq_left (by omega)] at this
    exact this
  · rw [nd_dsm h hw hk _ h3]
    exact h2.2
theorem cw_drop {X : Nat → Int} {b i : Nat} {w : List Int} (h : cw X b w) : cw X (b + i) (w.drop i) := by
  intro j hj
  rw [List.length_drop] at hj
  rw [show b + i + j = b + (i + j) by omega, h (i + j) (by omega), List.getD_eq_getElem?_getD, List.getD_eq_getElem?_getD, List.getElem?_drop]
theorem cw_app {X : Nat → Int} {b : Nat} {w : List Int} {c : Int} (h : cw X b w) : cw (ax_up X (b + w.length) (co c)) b (w ++ [c]) := by
  intro j hj
  rw [List.length_append, List.length_singleton] at hj
  unfold ax_up
  by_cases e : j = w.length
  · rw [if_pos (by omega), e, List.getD_eq_getElem?_getD, List.getElem?_append_right (Nat.le_refl _), Nat.sub_self]
    rfl
  · rw [if_neg (by omega), h j (by omega), List.getD_eq_getElem?_getD, List.getD_eq_getElem?_getD, List.getElem?_append_left (by omega)]
theorem co_inj {P P' : Nat → Int} {N M c d : Int} (hc : kn P N c) (hd : kn P' M d) (h : co c = co d) : c = d := by
  unfold co at h
  unfold kn at hc hd
  split at h <;> split at h <;> omega
theorem co_in {P : Nat → Int} {c : Int} (hc : kn P 129 c) : 0 ≤ co c ∧ co c < 20 ∧ (c < 117 ↔ co c < 8) := by
  unfold co
  unfold kn at hc
  split <;> omega
theorem wd_sl {T : Nat → Int} {n : Nat} {w : List Int} (h : wd T n w) (hl : w.length ≤ 24) : n = w.length ∧ sl T 0 n = w ∧ ∀ j, j ≤ n → sl T j (n - j) = w.drop j := by
  have h1 : n = w.length := by rw [h.1]; omega
  have h2 : sl T 0 w.length = w := sl_word T w 0 (fun i hi => by rw [Nat.zero_add]; exact h.2.1 i hi (by omega))
  refine ⟨h1, by rw [h1]; exact h2, fun j hj => ?_⟩
  have h3 := sl_drop T j 0 w.length
  rw [h2, Nat.zero_add] at h3
  rw [h1, ← h3]
end RO

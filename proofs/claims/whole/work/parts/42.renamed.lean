/-! What rewriting and renaming do to a word whose variables are named otherwise. -/
section EQ
variable {A : Int → Nat}
/-- symbols stay, variables become variables -/
def rok2 (f : Int → Int) : Prop := (∀ c, c < 117 → f c = c) ∧ ∀ c, 117 ≤ c → 117 ≤ f c
theorem A_map (hA : ∀ c, 117 ≤ c → A c = 0) {f : Int → Int} (hf : rok2 f) (c : Int) : A (f c) = A c := by
  by_cases hc : c < 117
  · rw [hf.1 c hc]
  · rw [hA c (by omega), hA (f c) (hf.2 c (by omega))]
theorem tl_map (hA : ∀ c, 117 ≤ c → A c = 0) {f : Int → Int} (hf : rok2 f) : ∀ (u : List Int) (n : Nat), tl A n (u.map f) = tl A n u
  | [], n => by rw [List.map_nil]
  | c :: u, 0 => by rw [tl_zero, tl_zero]
  | c :: u, n + 1 => by
    show 1 + tl A (n + A (f c)) (u.map f) = 1 + tl A (n + A c) u
    rw [A_map hA hf, tl_map hA hf u]
theorem ts_map (hA : ∀ c, 117 ≤ c → A c = 0) {f : Int → Int} (hf : rok2 f) : ∀ (u : List Int) (n : Nat), ts A n u → ts A n (u.map f)
  | [], n, h => h
  | c :: u, 0, h => h.elim
  | c :: u, n + 1, h => by
    show ts A (n + A (f c)) (u.map f)
    rw [A_map hA hf]
    exact ts_map hA hf u _ h
theorem map_inj {K : Int → Prop} {f g : Int → Int} (hg : ∀ c, K c → g (f c) = c) {u v : List Int} (hu : al K u) (hv : al K v) (h : u.map f = v.map f) : u = v := by
  have e : ∀ w : List Int, al K w → (w.map f).map g = w := by
    intro w hw
    rw [List.map_map]
    conv => rhs; rw [← List.map_id w]
    exact List.map_congr_left fun c hc => hg c (hw c hc)
  rw [← e u hu, ← e v hv, h]
def sm (f : Int → Int) (s : sgm) : sgm := fun c => (s c).map (List.map f)
theorem sm_up (f : Int → Int) (s : sgm) (c : Int) (t : List Int) : sm f (s_up s c t) = s_up (sm f s) c (t.map f) := by
  funext x
  unfold sm s_up
  by_cases h : x = c
  · rw [if_pos h, if_pos h]; rfl
  · rw [if_neg h, if_neg h]
theorem mtf_cons (A : Int → Nat) (c : Int) (p : List Int) (d : Int) (u : List Int) (s : sgm) : mtf A (c :: p) (d :: u) s = (if c < 117 then (if c = d then mtf A p u s else none) else match s c with
      | none => mtf A p ((d :: u).drop (tl A 1 (d :: u))) (s_up s c ((d :: u).take (tl A 1 (d :: u))))
      | some t => if t = (d :: u).take (tl A 1 (d :: u)) then mtf A p ((d :: u).drop (tl A 1 (d :: u))) s else none) := rfl
theorem mtf_map (hA : ∀ c, 117 ≤ c → A c = 0) {K : Int → Prop} {f g : Int → Int} (hf : rok2 f) (hg : ∀ c, K c → g (f c) = c) : ∀ (p u : List Int) (s : sgm), al K u → (∀ c t, s c = some t → al K t) → mtf A p (u.map f) (sm f s) = (mtf A p u s).map (sm f)
  | [], u, s, _, _ => rfl
  | c :: p, [], s, _, _ => rfl
  | c :: p, d :: u, s, hK, hs => by
    rw [List.map_cons, mtf_cons, mtf_cons]
    by_cases hc : c < 117
    · rw [if_pos hc, if_pos hc]
      by_cases hd : c = d
      · rw [if_pos hd, if_pos (by rw [← hd, hf.1 c hc])]
        exact mtf_map hA hf hg p u s (fun x hx => hK x (List.mem_cons_of_mem _ hx)) hs
      · rw [if_neg hd, if_neg]
        · rfl
        · intro h
          by_cases hd2 : d < 117
          · rw [hf.1 d hd2] at h; exact hd h
          · have := hf.2 d (by omega); omega
    · rw [if_neg hc, if_neg hc]
      rw [← List.map_cons, tl_map hA hf, ← List.map_take, ← List.map_drop]
      cases hsc : s c with
      | none =>
        rw [show sm f s c = none by unfold sm; rw [hsc]; rfl]
        show mtf A p _ (s_up (sm f s) c _) = (mtf A p _ (s_up s c _)).map (sm f)
        rw [← sm_up]
        refine mtf_map hA hf hg p _ _ (al_drop hK _) (fun x t hx => ?_)
        unfold s_up at hx
        split at hx
        · rw [← Option.some.inj hx]; exact al_take hK _
        · exact hs x t hx
      | some t =>
        rw [show sm f s c = some (t.map f) by unfold sm; rw [hsc]; rfl]
        show (if t.map f = ((d :: u).take (tl A 1 (d :: u))).map f then _ else none) = (if t = (d :: u).take (tl A 1 (d :: u)) then _ else none : Option sgm).map (sm f)
        by_cases ht : t = (d :: u).take (tl A 1 (d :: u))
        · rw [if_pos ht, if_pos (by rw [← ht])]
          exact mtf_map hA hf hg p _ s (al_drop hK _) hs
        · rw [if_neg ht, if_neg (fun h => ht (map_inj hg (hs c t hsc) (al_take hK _) h))]
          rfl
theorem rb_map {f : Int → Int} {s : sgm} {r : List Int} (hf : rok2 f) (h : ∀ c, c ∈ r → 117 ≤ c → ∃ t, s c = some t) : rb (sm f s) r = (rb s r).map f := by
  unfold rb
  rw [List.map_flatMap]
  induction r with
  | nil => rfl
  | cons c r ih =>
    rw [List.flatMap_cons, List.flatMap_cons, ih (fun x hx => h x (List.mem_cons_of_mem _ hx))]
    refine congrArg (· ++ _) ?_
    unfold rc
    by_cases hc : c < 117
    · rw [if_pos hc, if_pos hc, List.map_cons, hf.1 c hc]; rfl
    · obtain ⟨t, ht⟩ := h c (List.mem_cons_self ..) (by omega)
      rw [if_neg hc, if_neg hc]
      unfold sm
      rw [ht]
      rfl
theorem fk_map (hA : ∀ c, 117 ≤ c → A c = 0) {K : Int → Prop} {f g : Int → Int} (hf : rok2 f) (hg : ∀ c, K c → g (f c) = c) : ∀ (Rs : rls) (u : List Int) (n : Nat), (∀ q, q ∈ Rs → rok A q) → ts A (1 + n) u → al K u → fk A Rs (u.map f) = (fk A Rs u).map (List.map f)
  | [], u, n, _, _, _ => rfl
  | q :: Rs, u, n, hR, hu, hK => by
    have hm := mtf_map hA hf hg q.1 u s_no hK (fun c t h => by cases h)
    show (match mtf A q.1 (u.map f) s_no with
      | some s => some (rb s q.2 ++ (u.map f).drop (tl A 1 (u.map f)))
      | none => fk A Rs (u.map f)) = (match mtf A q.1 u s_no with
      | some s => some (rb s q.2 ++ u.drop (tl A 1 u))
      | none => fk A Rs u).map (List.map f)
    rw [show mtf A q.1 (u.map f) s_no = (mtf A q.1 u s_no).map (sm f) from hm]
    cases hq : mtf A q.1 u s_no with
    | none => exact fk_map hA hf hg Rs u n (fun q hq => hR q (List.mem_cons_of_mem _ hq)) hu hK
    | some s =>
      have hq0 := hR q (List.mem_cons_self ..)
      have h2 := mtf_ok (K := K) hA q.1 u s_no s 1 n hq0.1 hu hK (fun c t h => by cases h) hq
      show some (rb (sm f s) q.2 ++ _) = some ((rb s q.2 ++ _).map f)
      rw [rb_map hf (fun c hc h1 => h2.2.2 c (hq0.2.2.2 c hc h1) h1), tl_map hA hf, List.map_append, List.map_drop]
theorem stp_map (hA : ∀ c, 117 ≤ c → A c = 0) {K : Int → Prop} {f g : Int → Int} (hf : rok2 f) (hg : ∀ c, K c → g (f c) = c) {Rs : rls} (hR : ∀ q, q ∈ Rs → rok A q) : ∀ (u : List Int) (n : Nat), ts A n u → al K u → stp A Rs (u.map f) = (stp A Rs u).map (List.map f)
  | [], n, _, _ => rfl
  | c :: u, 0, hu, _ => hu.elim
  | c :: u, n + 1, hu, hK => by
    have h1 := fk_map hA hf hg Rs (c :: u) n hR (by rw [Nat.add_comm]; exact hu) hK
    have h2 := stp_map hA hf hg hR u (n + A c) hu (fun x hx => hK x (List.mem_cons_of_mem _ hx))
    show (match fk A Rs ((c :: u).map f) with
      | some x => some x
      | none => (stp A Rs (u.map f)).map (f c :: ·)) = (match fk A Rs (c :: u) with
      | some x => some x
      | none => (stp A Rs u).map (c :: ·)).map (List.map f)
    rw [h1, h2]
    cases fk A Rs (c :: u) with
    | some x => rfl
    | none => cases stp A Rs u <;> rfl
theorem nf_map (hA : ∀ c, 117 ≤ c → A c = 0) {K : Int → Prop} {f g : Int → Int} (hf : rok2 f) (hg : ∀ c, K c → g (f c) = c) {Rs : rls} (hR : ∀ q, q ∈ Rs → rok A q ∧ ∀ c, c ∈ q.2 → c < 117 → K c) : ∀ (k : Nat) (u : List Int) (n : Nat), ts A n u → al K u → nf A Rs k (u.map f) = (nf A Rs k u).map fun q => (q.1.map f, q.2)
  | 0, u, n, hu, hK => by
    unfold nf
    rw [List.length_map, stp_map hA hf hg (fun q hq => (hR q hq).1) u n hu hK]
    split
    · rfl
    · cases stp A Rs u <;> rfl
  | k + 1, u, n, hu, hK => by
    unfold nf
    rw [List.length_map, stp_map hA hf hg (fun q hq => (hR q hq).1) u n hu hK]
    split
    · rfl
    · cases hs : stp A Rs u with
      | none => rfl
      | some w =>
        have hw := stp_ok hA hR u w n hu hK hs
        show (nf A Rs k (w.map f)).map _ = ((nf A Rs k w).map _).map _
        rw [nf_map hA hf hg hR k w n hw.1 hw.2]
        cases nf A Rs k w <;> rfl
/-- renaming, letter after letter: the state after it, the word -/
def rst (q : (Nat → Int) × Int) : List Int → (Nat → Int) × Int
  | [] => q
  | c :: w => rst (rs q c) w
def rnl (q : (Nat → Int) × Int) : List Int → List Int
  | [] => []
  | c :: w => rl q c :: rnl (rs q c) w
theorem rst_app : ∀ (u v : List Int) (q : (Nat → Int) × Int), rst q (u ++ v) = rst (rst q u) v
  | [], v, q => rfl
  | c :: u, v, q => rst_app u v (rs q c)
theorem rnl_app : ∀ (u v : List Int) (q : (Nat → Int) × Int), rnl q (u ++ v) = rnl q u ++ rnl (rst q u) v
  | [], v, q => rfl
  | c :: u, v, q => by
    show rl q c :: rnl (rs q c) (u ++ v) = rl q c :: (rnl (rs q c) u ++ rnl (rst (rs q c) u) v)
    rw [rnl_app]
theorem rnl_len : ∀ (u : List Int) (q : (Nat → Int) × Int), (rnl q u).length = u.length
  | [], q => rfl
  | c :: u, q => by show (rnl (rs q c) u).length + 1 = u.length + 1; rw [rnl_len u]
theorem rq_shift (W : Nat → Int) (q : (Nat → Int) × Int) : ∀ n, rq W q (n + 1) = rq (fun i => W (i + 1)) (rs q (W 0)) n
  | 0 => rfl
  | n + 1 => by
    show rs (rq W q (n + 1)) (W (n + 1)) = rs (rq (fun i => W (i + 1)) (rs q (W 0)) n) (W (n + 1))
    rw [rq_shift W q n]
theorem rq_rst : ∀ (w : List Int) (q : (Nat → Int) × Int), rq (fun i => w.getD i 0) q w.length = rst q w
  | [], q => rfl
  | c :: w, q => by
    show rq (fun i => (c :: w).getD i 0) q (w.length + 1) = rst (rs q c) w
    rw [rq_shift, ← rq_rst w (rs q c)]
    rfl
theorem rnw_rnl : ∀ (w : List Int) (q : (Nat → Int) × Int), rnw q w = rnl q w
  | [], q => rfl
  | c :: w, q => by
    have ih := rnw_rnl w (rs q c)
    show (List.range (w.length + 1)).map (fun i => ra (fun i => (c :: w).getD i 0) q (0 + i)) = rl q c :: rnl (rs q c) w
    rw [← ih, List.range_succ_eq_map, List.map_cons, List.map_map]
    refine congr (congrArg List.cons rfl) (List.map_congr_left fun i _ => ?_)
    show rl (rq (fun i => (c :: w).getD i 0) q (0 + (i + 1))) ((c :: w).getD (0 + (i + 1)) 0) = rl (rq (fun i => w.getD i 0) (rs q c) (0 + i)) (w.getD (0 + i) 0)
    rw [Nat.zero_add, Nat.zero_add, rq_shift]
    rfl
/-- the same names under a map -/
def qm (K : Int → Prop) (f : Int → Int) (q q' : (Nat → Int) × Int) : Prop := q.2 = q'.2 ∧ ∀ c, K c → 117 ≤ c → q'.1 (f c - 117).toNat = q.1 (c - 117).toNat
theorem qm_rs {K : Int → Prop} {f g : Int → Int} (hf : rok2 f) (hg : ∀ c, K c → g (f c) = c) {q q' : (Nat → Int) × Int} (h : qm K f q q') {c : Int} (hc : K c) : qm K f (rs q c) (rs q' (f c)) ∧ rl q' (f c) = rl q c := by
  by_cases h1 : c < 117
  · rw [hf.1 c h1]
    unfold rs rl
    rw [if_pos h1, if_pos h1, if_pos h1, if_pos h1]
    exact ⟨h, rfl⟩
  · have h2 : 117 ≤ f c := hf.2 c (by omega)
    have e := h.2 c hc (by omega)
    have key : qm K f (rs q c) (rs q' (f c)) := by
      unfold rs
      rw [if_neg h1, if_neg (show ¬ f c < 117 by omega), e]
      by_cases h0 : q.1 (c - 117).toNat = 0
      · rw [if_pos h0, if_pos h0]
        refine ⟨by show q.2 + 1 = q'.2 + 1; rw [h.1], fun x hx hx1 => ?_⟩
        show ax_up q'.1 (f c - 117).toNat (q'.2 + 1) (f x - 117).toNat = ax_up q.1 (c - 117).toNat (q.2 + 1) (x - 117).toNat
        unfold ax_up
        by_cases hxc : x = c
        · rw [hxc, if_pos rfl, if_pos rfl, h.1]
        · have hx2 := hf.2 x hx1
          rw [if_neg, if_neg]
          · exact h.2 x hx hx1
          · omega
          · intro h3
            have : f x = f c := by omega
            apply hxc
            rw [← hg x hx, ← hg c hc, this]
      · rw [if_neg h0, if_neg h0]
        exact h
    refine ⟨key, ?_⟩
    unfold rl
    rw [if_neg h1, if_neg (show ¬ f c < 117 by omega), key.2 c hc (by omega)]
theorem qm_all {K : Int → Prop} {f g : Int → Int} (hf : rok2 f) (hg : ∀ c, K c → g (f c) = c) : ∀ (w : List Int) (q q' : (Nat → Int) × Int), al K w → qm K f q q' → qm K f (rst q w) (rst q' (w.map f)) ∧ rnl q' (w.map f) = rnl q w
  | [], q, q', _, h => ⟨h, rfl⟩
  | c :: w, q, q', hK, h => by
    have h1 := qm_rs hf hg h (hK c (List.mem_cons_self ..))
    have h2 := qm_all hf hg w (rs q c) (rs q' (f c)) (fun x hx => hK x (List.mem_cons_of_mem _ hx)) h1.1
    refine ⟨h2.1, ?_⟩
    show rl q' (f c) :: rnl (rs q' (f c)) (w.map f) = rl q c :: rnl (rs q c) w
    rw [h1.2, h2.2]
/-- names are canonical -/
theorem rnl_map {K : Int → Prop} {f g : Int → Int} (hf : rok2 f) (hg : ∀ c, K c → g (f c) = c) {w : List Int} (hK : al K w) : rnl q00 (w.map f) = rnl q00 w ∧ (rst q00 (w.map f)).2 = (rst q00 w).2 := by
  have := qm_all hf hg w q00 q00 hK ⟨rfl, fun _ _ _ => rfl⟩
  exact ⟨this.2, this.1.1.symm⟩
end EQ

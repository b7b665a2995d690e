/-! Exceptions: 'throw new E("text")' in a method without handlers; its caller's handler. Launches without stack traces. -/
theorem ai_ar6 {a c r n : Nat} (h1 : c ≤ a) (h : a + n - c ≤ r) : a - c + n ≤ r := by omega
theorem ai_ar7 {a c n : Nat} (h1 : c ≤ a) : a - c + (0 + n) ≤ a + n - c := by omega
theorem ai_ar8 {f r : Nat} (h1 : 6 ≤ f) (h2 : f ≤ r) : 2 + 3 < r := by omega
theorem ai_ar9 {x y q r : Nat} (h1 : x + y ≤ 8) (h2 : 90 ≤ q) (h3 : q ≤ r) : x + (1 + y) + (13 * (2 + 1) + 42) ≤ r := by omega
section AIX
variable {p : Program} {l : Launch} {e : Env} {R : Room} {s : State} {m : MethodId} {args : Array Value} {below : List Frame} {meth : Method} {c : Code} {Q : State → Prop}
variable {D : va_G} {dA : Nat → ClassId} {sc b k0 s0 : Nat} {M : ai_M}
/-- the end of a method that has thrown an E -/
def ai_Qx (D : va_G) (dA : Nat → ClassId) (sc b : Nat) (E : String) (S : ai_S) (mc ms : Nat) : Array Value → State → Outcome → State → Prop := fun _ st oc t => ∃ (q : Addr) (ce : Cell) (Ls : List Loc), oc = .threw q ∧ t.heap[q]? = some ce ∧ ce.vm = .none ∧ st.vm.findClass E = some ce.cls ∧ st.WarmedH t.vm ∧ st.sameButNew ({ t with vm := st.vm } : State) Ls mc ms ∧ (∀ z ∈ Ls, b ≤ z.base) ∧ va_P D ai_cl (ai_W dA sc b S.1 S.2.2.2) t.heap ∧ va_F (fun q => b ≤ q) st t
def ai_MetX (l : Launch) (D : va_G) (dA : Nat → ClassId) (sc b : Nat) (M : ai_M) (as : List Value) (S : ai_S) (E : String) (S' : ai_S) : Prop :=
  MetFree l (ai_y M) (headSpec (ai_wsM M) (ai_rm M (S'.2.1 - S.2.1) (S'.2.2.1 - S.2.2.1))) (ai_Pc D dA sc b as S) (fun _ _ _ _ _ => True) (ai_Qx D dA sc b E S' (S'.2.1 - S.2.1) (S'.2.2.1 - S.2.2.1))
def ai_MQX (below : List Frame) (Qx : Array Value → State → Outcome → State → Prop) (a : Array Value) (s : State) : State → Prop := fun t => ∃ o, t.status = .running ∧ Ended t below o ∧ Qx a s o t
/-- the frame as if the method were entered now -/
theorem ai_rebase {T : State} {locs : List Loc} {cells slots : Nat} (X : Stand p l e R s m args below meth c T locs cells slots) (hc : cells + 1 ≤ R.cells) (hs : slots + 6 ≤ R.slots) :
    Stand p l e { frames := R.frames, locals := R.locals, cells := 1, slots := 6 } ((T.setVm s.vm).setFrames (.invoking m args :: below)) m args below meth c T [] 0 0 := by
  have htop : (T.setVm s.vm).topJava?.isSome := X.here.top
  have hF : ((T.setVm s.vm).setFrames (.invoking m args :: below)).frames = .invoking m args :: below := State.frames_setFrames _ (State.cur_lt_of_top htop)
  obtain ⟨g₀, hg0⟩ := Option.isSome_iff_exists.mp htop
  obtain ⟨r, hr⟩ := State.topJava?_eq_some.mp hg0
  have hl9 : e.platform.stackLimits (T.setVm s.vm).me = e.platform.stackLimits s.me := X.limits
  have hb9 : (T.setVm s.vm).me.stackBytes = s.me.stackBytes := X.bytes
  constructor
  · exact X.admits
  · exact X.cas
  · exact X.clock
  · exact hF
  · have h := X.room
    have hU : ((T.setVm s.vm).setFrames (.invoking m args :: below)).localsInUse = s.localsInUse := by
      rw [State.localsInUse_invoking hF (meth := meth) (c := c) X.method X.code, State.localsInUse_invoking X.frames X.method X.code]
    simp only [State.hasRoom, Bool.and_eq_true, decide_eq_true_eq] at h ⊢
    obtain ⟨⟨⟨⟨h1, h2, h3, h4, h5, h6⟩, h7⟩, h8⟩, h9⟩ := h
    rw [X.frames, List.length_cons] at h2 h3
    have q1 := X.heapSize
    have q2 := X.used
    have r1 : ((T.setVm s.vm).setFrames (.invoking m args :: below)).heap.size = T.heap.size := rfl
    have r2 : ((T.setVm s.vm).setFrames (.invoking m args :: below)).slotsUsed = T.slotsUsed := rfl
    simp only [hF, hU, List.length_cons, State.stackLimits_setFrames, State.stackBytes_setFrames, hl9, hb9, r1, r2]
    exact ⟨⟨⟨⟨h1, h2, h3, h4, h5, h6⟩, by omega⟩, by omega⟩, X.book⟩
  · exact X.hears
  · exact X.method
  · exact X.code
  · exact X.here
  · exact X.tail
  · exact X.warmed
  · rw [State.stackLimits_setFrames]; rfl
  · rw [State.stackBytes_setFrames]; rfl
  · have hz : T.heap.toList.drop T.heap.size = [] := List.drop_eq_nil_of_le (Nat.le_of_eq Array.length_toList)
    refine ⟨?_, Nat.le_refl _, Nat.le_refl _, ?_, ?_, fun a c9 h9 => ⟨c9, h9, rfl, rfl, fun _ _ => rfl⟩⟩
    · obtain ⟨t, ht, -⟩ := State.frames_cons hr
      show T.setVm s.vm = { ((T.setVm s.vm).setFrames (.invoking m args :: below)).setFrames (T.setVm s.vm).frames with heap := T.heap, slotsUsed := T.slotsUsed }
      rw [State.setFrames_setFrames, State.setFrames_self ht]
      rfl
    · show T.slotsUsed = T.slotsUsed + ((T.heap.toList.drop T.heap.size).map (·.slots.size)).sum
      rw [hz]
      rfl
    · show ((T.heap.toList.drop T.heap.size).map (·.slots.size)).sum ≤ 0
      rw [hz]
      exact Nat.le_refl _
/-- old cells that nobody wrote are as they were -/
theorem ai_kept {U : State} {L0 : List Loc} {k n : Nat} (h : s.sameButNew ({ U with vm := s.vm } : State) L0 k n) : s.heap.size ≤ U.heap.size ∧ ∀ q : Nat, q < s.heap.size → (∀ z ∈ L0, z.base ≠ q) → U.heap[q]? = s.heap[q]? := by
  obtain ⟨-, h2, -, -, -, h6⟩ := h
  refine ⟨h2, fun q hq hz => ?_⟩
  obtain ⟨c9, e1, e2, e3, e4⟩ := h6 q _ (Array.getElem?_eq_getElem hq)
  have hs : c9.slots = (s.heap[q]).slots := Array.ext_getElem? fun i => e4 i fun hm => hz _ hm rfl
  have h9 : c9 = s.heap[q] := by
    rw [hs] at e2
    exact e2
  have e5 : U.heap[q]? = some c9 := e1
  rw [e5, h9, Array.getElem?_eq_getElem hq]
set_option maxHeartbeats 2000000 in
theorem ai_thr_W {pc : Nat} {lv : ai_L} {st : List Value} {S : ai_S} {E : String} (X : ai_X p s m args meth c M) (hMT : M ∈ ai_MT) (hKX : ai_KX b s) (hlt : l.stackTraces = false) (hb0 : b ≤ s.heap.size) (hRm : ai_Fr M ≤ R.frames ∧ ai_Lc M ≤ R.locals) (hk : k0 ≤ S.2.1) (hsl : s0 ≤ S.2.2.1) (hR : S.2.1 + 1 - k0 ≤ R.cells ∧ S.2.2.1 + 6 - s0 ≤ R.slots)
    (ht : ai_thr M pc = some E) (hsum : ai_sum st ≤ 8) : ai_G p l e R s m args below meth c (ai_MQX below (ai_Qx D dA sc b E (S.1, S.2.1 + 1, S.2.2.1 + 6, S.2.2.2) (S.2.1 + 1 - k0) (S.2.2.1 + 6 - s0)) args s) D dA sc b k0 s0 M (pc, lv, st, S) := by
  obtain ⟨hx, hb, hml, hown, hts, -, hlocks, -, hext⟩ := X
  obtain ⟨ik, is, ic, text, hfr, hlc, hex, h99, d0, d3, d4, d6, d9, hfit, hsup, htx, hwk, hwi, hca, hwa⟩ := ai_thr_ok hMT ht
  intro H ls locs hl hP hS T hT Y
  have hc1 : S.2.1 - k0 + 1 ≤ R.cells := ai_ar6 hk hR.1
  have hs1 : S.2.2.1 - s0 + 6 ≤ R.slots := ai_ar6 hsl hR.2
  have htr : e.platform.stackTraces = false := (show e.platform.stackTraces = l.stackTraces by rw [Y.admits.platform]).trans hlt
  have Y1 := ai_rebase Y hc1 hs1
  obtain ⟨s', hs'⟩ : ∃ z, z = (T.setVm s.vm).setFrames (.invoking m args :: below) := ⟨_, rfl⟩
  rw [← hs'] at Y1
  have hvm : s'.vm = s.vm := by rw [hs']; rfl
  have hhp : s'.heap = H := by rw [hs']; exact hT
  have hW0 : s.WarmedH s'.vm := by rw [hvm]; exact State.WarmedH.refl s
  have hw : ∀ w ∈ ai_ws, w.before args s' = true := fun w h => word_at hW0 (ai_good w h) (hts w h)
  have hX' : ai_KX b s' := ai_KX.go (locs := locs) hW0 (by rw [hhp]; exact hS) hKX
  have hat : ∀ w ∈ Bundle.ownAtoms (ai_own (ai_oi M)) ic E ai_sup, w.before args s' = true := by
    intro w h
    by_cases hn : ai_no E w = true
    · exact hw _ (hwa w (List.mem_filter.mpr ⟨h, hn⟩))
    · simp only [ai_no, decide_eq_true_eq, Classical.not_not] at hn
      simp only [ai_bad, List.mem_cons, List.not_mem_nil, or_false] at hn
      rcases hn with rfl | rfl | rfl | rfl | rfl | rfl | rfl | rfl
      · exact va_Nw.use rfl (hX'.2.2.2.2.1 E hca)
      · exact hX'.1.ref
      · exact hX'.2.1.ref
      · exact hX'.1.lays
      · exact hX'.2.1.lays
      · exact va_Nw.use rfl (hX'.2.2.2.2.2 _ (by simp [ai_dcL]))
      · exact va_Nw.use rfl (hX'.2.2.2.2.2 _ (by simp [ai_dcL]))
      · exact va_Nw.use rfl (hX'.2.2.2.2.2 _ (by simp [ai_dcL]))
  have hown' : s'.vm.findClass (ai_own (ai_oi M)) = some m.cls := by rw [hvm]; exact hown
  have hins : (Cond.instantiable E 6).before args s' = true := hat _ (by simp [Bundle.ownAtoms])
  obtain ⟨sa, hsa⟩ := hX'.2.2.1 _ htx
  have hout : ∀ x ∈ c.exceptionTable.toList, covers x (pc + 9) = false := by
    have h0 := hext h99
    rw [hex] at h0
    have : c.exceptionTable.toList = [] := List.map_eq_nil_iff.mp h0
    intro x hx
    rw [this] at hx
    cases hx
  obtain ⟨vm₁, cX, kX, hfX, hkX, -, -, X₁, st1⟩ := Y1.newCold hx (own := ai_own (ai_oi M)) (C := E) (index := ik) (n := 6) hown' (hw _ hwk) hins (hw _ hwi)
    (g := F0 m pc ls (st.map (ai_v sc b))) rfl (by rw [hb]; exact d0) (Nat.le_refl _) (Nat.le_refl _)
  generalize hT1 : (T.setVm vm₁).pushCell { cls := cX, slots := kX.instanceTypes.map defaultValue, vm := .none } = T1 at X₁ st1
  have hcat : (Value.ref T.heap.size).category = 1 := rfl
  have hcellA : T1.heap[T.heap.size]? = some (freshCell cX kX) := by rw [← hT1]; exact State.heap_pushCell_size _ _
  have d3' : decode c.code (pc + 3) = .ok (.dup, 1) := by rw [hb]; exact d3
  have d4' : decode c.code (pc + 4) = .ok (.ldc is, 2) := by rw [hb]; exact d4
  have hsumm := ai_sum_map (sc := sc) (b := b) st
  obtain ⟨U, hsteps, hrun, hend, hWU, hsame, ce, hce, hO⟩ := X₁.ctorThrowS hx htr (own := ai_own (ai_oi M)) (cls := E) (names := ai_sup) (ic := ic) hown' hfit hsup hat (fun x hx => nomatch hx) hfX hkX hcellA (by rw [hhp, hT]; exact Nat.le_refl _) (msg := .ref sa) rfl
    (g := { method := m, pc := pc + 6, locals := ls, stack := .ref sa :: .ref T.heap.size :: .ref T.heap.size :: st.map (ai_v sc b), locked := none }) rfl (by rw [hml]; exact hl.1) rfl rfl (rest := st.map (ai_v sc b)) rfl
    (by rw [hb]; exact d6) (by rw [hb]; exact d9) hout (ai_ar8 hfr hRm.1) (by
      have hm0 := lv_room (m := m) (pc := pc + 6) (ls := ls) (rest := .ref sa :: .ref T.heap.size :: .ref T.heap.size :: st.map (ai_v sc b)) (st := st.map (ai_v sc b)) (by rw [hsumm]; exact hsum)
      simp only [List.map_cons, List.sum_cons, hcat]
      exact ai_ar9 hm0 hlc hRm.2) hlocks
  obtain ⟨f1, f2⟩ := ai_kept hsame
  rw [hhp] at f1 f2
  have hWs : s.WarmedH U.vm := State.WarmedH.trans hW0 hWU
  have hcl : s.vm.findClass E = some ce.cls := by
    have h9 := hO.cls
    rw [hvm] at h9
    exact h9
  have hold : ∀ q : Nat, q < H.size → U.heap[q]? = H[q]? := fun q hq => f2 q hq (fun z hz => nomatch hz)
  have hall : s.sameButNew ({ U with vm := s.vm } : State) locs (S.2.1 + 1 - k0) (S.2.2.1 + 6 - s0) := by
    subst hs'
    obtain ⟨e1, e2⟩ := hsame
    rw [State.setFrames_setFrames] at e1
    have h2 : (T.setVm s.vm).sameButNew ({ U with vm := s.vm } : State) [] (0 + 1) (0 + 6) := ⟨e1, e2⟩
    have h3 := Y.same.trans h2
    rw [List.append_nil] at h3
    exact h3.mono (ai_ar7 hk) (ai_ar7 hsl)
  refine ⟨U, ?_, .threw T.heap.size, hrun, hend, T.heap.size, ce, locs, rfl, hce, hO.vm, hcl, hWs, hall, hS.2.2, ?_, ?_⟩
  · refine st1 _ ?_
    show Steps p.tables e below (T1.setTop { method := m, pc := pc + 3, locals := ls, stack := .ref T.heap.size :: st.map (ai_v sc b), locked := none }) _
    jvm_step X₁.here [X₁.here.top, hx, d3', Value.category]
    exact X₁.ldcString hx (own := ai_own (ai_oi M)) (text := text) (index := is) (a := sa) hown' hsa.1 hsa.2
      (g := { method := m, pc := pc + 4, locals := ls, stack := .ref T.heap.size :: .ref T.heap.size :: st.map (ai_v sc b), locked := none }) rfl d4' _ hsteps
  · exact hP.kept (fun k q hq => hold q.1 (hP k q hq).lt)
  · exact ⟨Nat.le_trans hS.1 f1, fun q h1 h2 => (hold q (Nat.lt_of_lt_of_le h1 hS.1)).trans (hS.2.1 q h1 h2)⟩
end AIX

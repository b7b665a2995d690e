/-! THE CLAIM OUT OF ONE WALK OF THE LAW'S BODY. Your part is whole_start (and what it stands on); all else here is the same for every law, but numbers. -/
def R_law : String := "RuleCompletionLaw"
def lw_P (b : Addr) (xs : List Int32) (args : Array Value) (s : State) : Prop := args = #[.ref b] ∧ s.IntsAt b xs ∧ xs.length ≤ 3 ∧ (Jvm.Cond.and given_1 narrow_1).before args s = true
def lw_Q (_ : Array Value) (s : State) (o : Outcome) (t : State) : Prop := o = .returned (some (.int 1)) ∧ Framed s o t [] 600002 7302232
def lw_Z (below : List Frame) (a : Array Value) (s : State) : State → Prop := fun t => ∃ o, t.status = .running ∧ Ended t below o ∧ lw_Q a s o t
/-- the law's own end, with 1 on the stack, nothing written that was there before, its room as the claim has it -/
theorem lw_ret {p : Program} {l : Launch} {e : Env} {s : State} {m : MethodId} {below : List Frame} {meth : Method} {c : Code} {b : Nat} (hx : p.tables.exec = Jvm.exec) (hb : c.code = code) (hr : meth.sig.returnType = ret) (hlocks : meth.locks = false) {pc : Nat} {H : Heap} {ls : Array Slot} (hdg : decode code pc = .ok (.ireturn, 1)) : W p l e room_1 s m #[Value.ref b] below meth c H [] 600002 7302232 (lw_Z below #[Value.ref b] s) (F0 m pc ls [.int 1]) := by
  intro T hT X
  obtain ⟨fs, hret, hrun, hended, hW, hframe⟩ := X.leave (v := some (.int 1)) (hlocks := hlocks) (fun h => by rw [hr] at h; cases h)
  have hmeth' : T.vm.method? m = some meth := X.method'
  refine ⟨T.setFrames fs, ?_, .returned (some (.int 1)), hrun, hended, rfl, ⟨_, rfl⟩, hW, hframe⟩
  jvm_step X.here [X.here.top, hx, hb, hdg, hmeth', hr, ret, narrow_b1]
  (try refine ⟨rfl, ?_⟩); (try refine ⟨rfl, ?_⟩)
  first | (intro acts; rw [hret _ acts rfl rfl rfl]) | rw [hret _ _ rfl rfl rfl]
  exact Steps.refl _
/-- what holds at the law's entry: the machine, the code, the tables' words (any of lw_tbl by 'hts w (by decide +kernel)'), the script of L ints xs at the cell b, what the Statement gives of the start (any of its parts by flat_of_before) -/
def lw_At (p : Program) (s : State) (m : MethodId) (meth : Method) (c : Code) (b L : Nat) (xs : Nat → Int32) : Prop :=
  p.tables.exec = Jvm.exec ∧ c.code = code ∧ meth.sig.returnType = ret ∧ c.maxLocals = 7 ∧ s.vm.findClass R_law = some m.cls ∧ (∀ w ∈ lw_tbl, w.before #[Value.ref b] s = true) ∧ va_X b L xs s s.heap ∧ b < s.heap.size ∧ meth.locks = false ∧ (Jvm.Cond.and given_1 narrow_1).before #[Value.ref b] s = true
/-- what is left to prove, on the abstract machine alone: the law, on that script, answers 1 and stays in the room -/
def ai_Law (L : Nat) (xs : Nat → Int32) : Prop := ∃ (d n : Nat) (o : ai_O), ai_wp L xs ai_m159 (fun mi as S Q => ∃ o, ai_run L xs d mi as S o ∧ Q o) (fun x => x = o) n (0, ai_in ai_m159 [.retAddr 0], [], ai_S0) ∧ o.1 = .inl (some (.int 1)) ∧ o.2.2.1 ≤ 600002 ∧ o.2.2.2.1 ≤ 7302232
theorem ai_instck : ai_cl.all (fun q => decide (Cond.instantiable q.1 q.2.2 ∈ lw_tbl)) = true := by decide +kernel
theorem ai_inst_ok {ci : Nat} {C : String} {T : u_T} {N : Nat} (h : ai_cl[ci]? = some (C, T, N)) : Cond.instantiable C N ∈ lw_tbl := by
  have := List.all_eq_true.mp ai_instck _ (List.mem_of_getElem? h)
  simpa using this
theorem ai_nws : ai_nw.all (fun w => decide (w ∈ lw_tbl) && w.onTables) = true := by decide +kernel
def ai_tyL : List FieldType := [.int, .char, .boolean, .long, .object ai_pairN]
/-- the tables at the law's start -/
theorem ai_K0 {args : Array Value} {s : State} (hts : ∀ w ∈ lw_tbl, w.before args s = true) : ∃ D dA, ai_K D dA s := by
  have hws : ∀ w ∈ ai_ws, w.before args s = true := fun w hw => hts w (ai_wsin hw).1
  have h1 : ∀ ci : Nat, ∃ z : ClassId × (Nat → Nat), ∀ q, ai_cl[ci]? = some q → u_Kn s q.1 q.2.1 q.2.2 z.1 z.2 := by
    intro ci
    cases hc : ai_cl[ci]? with
    | none => exact ⟨(0, fun _ => 0), fun q h => by cases h⟩
    | some q =>
      obtain ⟨C, T, N⟩ := q
      obtain ⟨cC, iS, hK⟩ := u_known (n := N) hws (ai_cl_in hc) (hts _ (ai_inst_ok hc))
      exact ⟨(cC, iS), fun q h => by cases h; exact hK⟩
  obtain ⟨f, hf⟩ := Classical.axiomOfChoice h1
  have prim : ∀ ty : FieldType, (Cond.arrayClass ty).before args s = true → (∀ C, ty ≠ .object C) → ∃ cA, ArrOfT s cA ty ∧ va_RA s cA ty := by
    intro ty h hn
    obtain ⟨cA, kA, comp, hfind, hk, hkind⟩ := Cond.arrayClass_spec h
    refine ⟨cA, fun n z => ⟨fun k h => (by cases h), kA, hk, comp, hkind⟩, ?_⟩
    cases ty <;> first | exact hfind | exact absurd rfl (hn _)
  have h2 : ∀ t : Nat, ∃ cA : ClassId, ∀ ty, ai_tyL[t]? = some ty → ArrOfT s cA ty ∧ va_RA s cA ty := by
    intro t
    match t with
    | 0 =>
      obtain ⟨cA, h⟩ := prim .int (hws _ (ai_arr_ok (ty := .int) rfl)) (fun C h => by cases h)
      exact ⟨cA, fun ty h' => by cases h'; exact h⟩
    | 1 =>
      obtain ⟨cA, h⟩ := prim .char (hws _ (ai_arr_ok (ty := .char) rfl)) (fun C h => by cases h)
      exact ⟨cA, fun ty h' => by cases h'; exact h⟩
    | 2 =>
      obtain ⟨cA, h⟩ := prim .boolean (hws _ (ai_arr_ok (ty := .boolean) rfl)) (fun C h => by cases h)
      exact ⟨cA, fun ty h' => by cases h'; exact h⟩
    | 3 =>
      obtain ⟨cA, h⟩ := prim .long (hws _ (ai_arr_ok (ty := .long) rfl)) (fun C h => by cases h)
      exact ⟨cA, fun ty h' => by cases h'; exact h⟩
    | 4 =>
      obtain ⟨comp, cA, kA, q1, q2, q3, q4, q5⟩ := Cond.arrayOver_spec (hts (.arrayOver (.object ai_pairN)) (by decide +kernel))
      exact ⟨cA, fun ty h' => by
        cases h'
        exact ⟨fun n z => ⟨fun k h => (by cases h), kA, q3, comp, q4⟩, kA, comp, q3, q4, q1, q5⟩⟩
    | n + 5 => exact ⟨0, fun ty h => by simp [ai_tyL] at h⟩
  obtain ⟨g, hg⟩ := Classical.axiomOfChoice h2
  refine ⟨(fun c => (f c).1, fun c => (f c).2), g, ⟨fun c q hq => hf c q hq, fun k q hq => ?_⟩, fun w hw => ?_, va_AO.of (hts (.arrayOver (.object ai_pairN)) (by decide +kernel))⟩
  · match k, hq with
    | 0, hq => cases hq; exact hg 0 _ rfl
    | 1, hq => cases hq; exact hg 1 _ rfl
    | 2, hq => cases hq; exact hg 2 _ rfl
    | 3, hq => cases hq; exact hg 3 _ rfl
    | 4, hq => cases hq; exact hg 4 _ rfl
    | n + 5, hq => simp [ai_tys] at hq
  · have h3 := List.all_eq_true.mp ai_nws w hw
    simp only [Bool.and_eq_true, decide_eq_true_eq] at h3
    exact va_Nw.of h3.2 (hts w h3.1)
/-- what a throw rests on, at the law's start -/
theorem ai_KX0 {b0 : Nat} {s : State} (hts : ∀ w ∈ lw_tbl, w.before #[Value.ref b0] s = true) (hg : (Jvm.Cond.and given_1 narrow_1).before #[Value.ref b0] s = true) : ai_KX s.heap.size s := by
  have hs := flat_of_before _ hg
  refine ⟨ai_Zs.of (args := #[Value.ref b0]) (hts _ (by decide +kernel)) (hs _ (by decide +kernel)) (Nat.le_refl _), ai_Zs.of (args := #[Value.ref b0]) (hts _ (by decide +kernel)) (hs _ (by decide +kernel)) (Nat.le_refl _), fun q hq => ?_, fun q hq => ?_, fun E hE => ?_, fun y hy => ?_⟩
  · have h1 : ai_txt.all (fun q => decide (Cond.stringRef q.1 q.2.1 q.2.2 ∈ lw_tbl) && decide (Cond.exactly (.string q.1 q.2.1) "java/lang/String" ∈ flatC (Jvm.Cond.and given_1 narrow_1))) = true := by decide +kernel
    have h2 := List.all_eq_true.mp h1 q hq
    simp only [Bool.and_eq_true, decide_eq_true_eq] at h2
    obtain ⟨a, -, -, -, h3, -⟩ := Cond.exactly_spec (hs _ h2.2)
    exact ⟨a, vk_R.of (hts _ h2.1) h3⟩
  · have h1 : ai_ncL.all (fun q => decide (Cond.not (.castable q.1 q.2) ∈ flatC (Jvm.Cond.and given_1 narrow_1))) = true := by decide +kernel
    have h2 := List.all_eq_true.mp h1 q hq
    simp only [decide_eq_true_eq] at h2
    exact va_Nc.of (hs _ h2)
  · have h1 : ai_ca.all (fun E => decide (Cond.castable E E ∈ lw_tbl)) = true := by decide +kernel
    have h2 := List.all_eq_true.mp h1 E hE
    simp only [decide_eq_true_eq] at h2
    exact va_Nw.of rfl (hts _ h2)
  · have h1 : ai_dcL.all (fun y => decide (Cond.declares y ∈ lw_tbl)) = true := by decide +kernel
    have h2 := List.all_eq_true.mp h1 y hy
    simp only [decide_eq_true_eq] at h2
    exact va_Nw.of rfl (hts _ h2)
set_option maxHeartbeats 4000000 in
theorem whole_start (hpure : ∀ L xs, L ≤ 3 → ai_Law L xs) {p : Program} {e : Env} {s : State} {m : MethodId} {below : List Frame} {meth : Method} {c : Code} (l : Launch) (hlt : l.stackTraces = false) {b L : Nat} {xs : Nat → Int32} (hL : L ≤ 3) (C0 : lw_At p s m meth c b L xs) : W p l e room_1 s m #[Value.ref b] below meth c s.heap [] 0 0 (lw_Z below #[Value.ref b] s) (entryFrame m ([Value.ref b] : List Value).toArray 7) := by
  obtain ⟨hx, hb, hr, hml, hown, hts, hX, hbl, hlocks, hg⟩ := C0
  obtain ⟨d, n, o, hwp, ho, hoc, hos⟩ := hpure L xs hL
  obtain ⟨D, dA, hK⟩ := ai_K0 hts
  have hKX := ai_KX0 hts hg
  have hMm : ai_m159 ∈ ai_MT := List.mem_of_getElem? (i := 159) rfl
  have X : ai_X p s m #[Value.ref b] meth c ai_m159 := ⟨hx, hb, hml, hown, fun w hw => hts w (ai_wsin hw).1, hr, hlocks, fun h => absurd rfl h, fun h => absurd rfl h⟩
  have hG := ai_loop_W (k0 := 0) (s0 := 0) (R := room_1) (b := s.heap.size) (sc := b) (o := o) (below := below) (e := e) (Q := lw_Z below #[Value.ref b] s) X hMm hK hKX (fun _ => ⟨hX, hbl, hbl⟩) ⟨by decide, by decide⟩ (Nat.le_refl _) (Nat.le_refl _) ⟨hoc, hos⟩ (ai_sound hlt d) (by
      intro F v _ _ hd hst _ hok H ls locs hl hP hS
      obtain ⟨pc, lv, st, S9⟩ := F
      subst hok
      cases ho
      simp only at hst
      subst hst
      exact va_forget hS.2.2 (W.widen (k := 600002) (n := 7302232) hoc hos (lw_ret hx hb hr hlocks hd))) (by
      intro F _ _ _ _ hty
      cases hty) (by
      intro F E _ _ ht
      cases ht) n _ (Nat.zero_le _) (Nat.zero_le _) hwp
  have hW := hG s.heap _ [] (ai_entry [.retAddr 0] (by decide)) (fun k q hq => by cases hq) va_S.rf
  rw [lg_entry_eq]
  exact hW
set_option maxHeartbeats 4000000 in
theorem lw_walk (hpure : ∀ L xs, L ≤ 3 → ai_Law L xs) (l : Launch) (hlt : l.stackTraces = false) (b : Addr) (xs : List Int32) : MetFree l x (headSpec (Jvm.Cond.code x code maxLocals ret :: tables_1) room_1) (lw_P b xs) (fun _ _ _ _ _ => True) lw_Q := by
  refine MetFree.of_bodyS (code := code) (maxLocals := maxLocals) (ret := ret) (by decide) ?_ ?_
  · intro args s m h hn
    obtain ⟨meth, c, h1, h2, h3, h4, h5, h6, -, -⟩ := Cond.code_spec hn (atoms_spec (ws := Jvm.Cond.code x code maxLocals ret :: tables_1) h _ List.mem_cons_self)
    exact ⟨meth, c, h1, h2, h3, h4, h5, h6⟩
  · intro p e s m args below meth c s₁ B hml0 hP _
    obtain ⟨rfl, hx, hbd, hgv⟩ := hP
    obtain ⟨scr, harrAt, hlist, hof, hsmall⟩ := hx
    obtain ⟨hcb, hkn, -, -⟩ := State.arrayAt?_spec harrAt
    have hown : s.vm.findClass R_law = some m.cls := findClass_of_methodNamed B.named
    have hts0 : ∀ c ∈ (Jvm.Cond.code x code maxLocals ret :: tables_1), c.before #[Value.ref b] s = true := atoms_spec (ws := Jvm.Cond.code x code maxLocals ret :: tables_1) B.pre
    have hts : ∀ w ∈ lw_tbl, w.before #[Value.ref b] s = true := k2_hts_sels lw_privs (fun w hw => hts0 w (List.mem_cons_of_mem _ hw)) lw_privs_ok
    have hml : c.maxLocals = 7 := B.maxLocals_eq (hts0 _ List.mem_cons_self)
    have X₀ : Stand p l e room_1 s m #[Value.ref b] below meth c s₁ [] 0 0 := Stand.of_body B
    have hh0 : s₁.heap = s.heap := by rw [B.state]; rfl
    have hsz : scr.slots.size = xs.length := by rw [← Array.length_toList, hlist, List.length_map]
    have hval : ∀ j : Nat, j < xs.length → scr.slots[j]? = some (.int (xs.getD j 0)) := fun j hj => by
      rw [← Array.getElem?_toList, hlist]
      simp [hj]
    have hbl : b < s.heap.size := (Array.getElem?_eq_some_iff.mp hcb).1
    have hX : va_X b xs.length (fun j => xs.getD j 0) s s.heap := ⟨scr, hcb, hof, hkn, hsz, hval⟩
    have K : W p l e room_1 s m #[Value.ref b] below meth c s₁.heap [] 0 0 (lw_Z below #[Value.ref b] s) (entryFrame m ([Value.ref b] : List Value).toArray 7) := by
      rw [hh0]
      exact whole_start hpure l hlt hbd ⟨B.exec, B.bytes, B.returns, hml, hown, hts, hX, hbl, B.notSynchronized, hgv⟩
    obtain ⟨t, a1, o, b1, b2, b3⟩ := K s₁ rfl X₀
    exact ⟨t, o, a1, b1, b2, b3⟩
theorem lw_pre_spec {args : Array Value} {s : State} (h : (Jvm.Cond.and given_1 narrow_1).before args s = true) (hr : rest_1_c.before args s = true) : ∃ (b : Addr) (xs : List Int32), lw_P b xs args s := by
  have hs := flat_of_before _ h
  have hq := flat_of_before _ hr
  have hc : (Cond.count 1).before args s = true := hs _ (by decide +kernel)
  have harr : (Cond.arrayOf (.arg 0) .int).before args s = true := hs _ (by decide +kernel)
  have hle : (Cond.le (.length (.arg 0)) (.int 3)).before args s = true := hs _ (by decide +kernel)
  have hlen : (Cond.isInt (.length (.arg 0))).before args s = true := hq _ (by decide +kernel)
  have hall : (Cond.all (.arg 0) (.isInt (.elem (.arg 0) (.index 0)))).before args s = true := hq _ (by decide +kernel)
  obtain ⟨b, xs, hb, hx⟩ := State.ints_of_pre rfl harr hlen hall
  have hsm : xs.length < 2 ^ 31 := hx.choose_spec.2.2.2
  have hev : (Term.length (.arg 0)).eval args s none [] s = some (.int xs.length.toInt32) := hx.length_eval hb
  have hv := Cond.le_ints hev (show (Term.int 3).eval args s none [] s = some (.int 3) from rfl)
  have hd : xs.length.toInt32 ≤ 3 := by
    simpa [Cond.before, Cond.holds, hv] using hle
  have hN : xs.length ≤ 3 := (Int32.ofNat_le_ofNat hsm (by decide)).mp (show Int32.ofNat xs.length ≤ Int32.ofNat 3 from hd)
  exact ⟨b, xs, Cond.one_arg hc (show args[0]? = some (.ref b) from hb), hx, hN, h⟩
theorem lw_comes (hpure : ∀ L xs, L ≤ 3 → ai_Law L xs) (l : Launch) (hlt : l.stackTraces = false) : Comes l x (Jvm.Cond.code x code maxLocals ret :: tables_1) room_1 (fun tb e args s => Calls_1 tb e args s ∧ rest_1 tb e args s ∧ Pre_1 tb e args s)
    (fun _ _ args s o t => lw_Q args s o t) := by
  intro p e ha hc hk s m args below hf hfit hheap happ hpre
  obtain ⟨b, xs, hP⟩ := lw_pre_spec hpre.2.2 hpre.2.1
  obtain ⟨k, o, h1, h2, h3, hQ⟩ := lw_walk hpure l hlt b xs p e ha hc hk s m args below hf ((Spec.applies_iff_loose hf).mp happ).1 hP trivial
  exact ⟨k, o, h1, h2, h3, hQ⟩
theorem lw_frame {s t : State} {o : Outcome} {args : Array Value} (h : Framed s o t [] 600002 7302232) :
    Framed s o t (fieldLocs frame_1_writes args s ++ arrayLocs frame_1_arrays args s ++ staticLocs frame_1_statics s) 600002 7302232 := h
theorem lw_limb (hpure : ∀ L xs, L ≤ 3 → ai_Law L xs) (L : Cond) (hL : ∀ (args : Array Value) (s t : State), L.after args s (.returned (some (.int 1))) t = true) :
    ArmFor flags0 classFile x code maxLocals ret World_1 tables_1 room_1 Calls_1 rest_1 Pre_1
      (fun tb e a s o t => postC L tb e a s o t ∧ Framed s o t (fieldLocs frame_1_writes a s ++ arrayLocs frame_1_arrays a s ++ staticLocs frame_1_statics s) 600002 7302232) := by
  intro l hfl _ _ p e ha hc hk s m args below hf hfit hheap happ hpre
  obtain ⟨k, o, h1, h2, h3, rfl, hF⟩ := lw_comes hpure l (by unfold Launch.stackTraces; rw [hfl]; decide +kernel) p e ha hc hk s m args below hf hfit hheap happ hpre
  exact ⟨k, _, h1, h2, h3, hL args s _, lw_frame hF⟩
theorem i_vc_open (hpure : ∀ L xs, L ≤ 3 → ai_Law L xs) : Claimed_1_1 ∧ Claimed_1_2 := ⟨lw_limb hpure limb_1_1 (fun args s t => by simp [limb_1_1, Cond.after, Cond.holds, Cond.value]), lw_limb hpure limb_1_2 (fun args s t => Cond.after_iff.mpr (by
  first | (rw [show limb_1_2 = Cond.eq .result (.int 1) from rfl, Cond.eq_ints (x := 1) (y := 1) rfl rfl]; simp; done) | (simp [limb_1_2, Cond.value, Term.eval]; done)))⟩

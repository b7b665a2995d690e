/-! A call whose method throws, and the handler that takes it. -/
theorem ai_ar10 {x y n k q r : Nat} (h0 : x + y ≤ 8) (h1 : 19 + n + k ≤ q) (h2 : q ≤ r) : x + y + (n + 11) + k ≤ r := by omega
section AIH
variable {p : Program} {l : Launch} {e : Env} {R : Room} {s : State} {m : MethodId} {args : Array Value} {below : List Frame} {meth : Method} {c : Code} {Q : State → Prop}
variable {D : va_G} {dA : Nat → ClassId} {sc b k0 s0 : Nat} {M : ai_M}
/-- the search for a handler, what it finds and the tables that it leaves -/
def ai_Fd (e : Env) (s : State) (f : JFrame) (a : Addr) (h : Handler) (vm' : Vm) : Prop := ∀ (Q : Handler → Pre) (E : CtlPost) (d : Bool) (acts : List Action), wp (findHandler f a) Q E e d acts s ↔ Q h d acts (s.setVm vm')
/-- a row over the pc whose kind is linked: it takes the exception or passes it on -/
theorem ai_row {Q : Handler → Pre} {E : CtlPost} {d : Bool} {acts : List Action} {S : State} {f : JFrame} {a : Addr} {x : ExceptionTableEntry} {t : List ExceptionTableEntry} {cT : ClassId} {cell : Cell} (hx : covers x f.pc = true) (h0 : x.catchType ≠ 0)
    (hl : S.vm.ClassLinks e.platform f.method.cls x.catchType cT) (hcell : S.heap[a]? = some cell) (hobj : ∀ k, cell.vm ≠ .statics k) (hk : ∃ k, S.vm.classes[cell.cls]? = some k) (hc : ∃ k, S.vm.classes[cT]? = some k) :
    wp (findHandler.go f a (x :: t)) Q E e d acts S ↔ if S.vm.assignable cell.cls cT = true then Q (.found x.handlerPc) d acts (S.setVm (S.vm.noted f.method.cls x.catchType (.cls cT))) else wp (findHandler.go f a t) Q E e d acts (S.setVm (S.vm.noted f.method.cls x.catchType (.cls cT))) := by
  simp only [covers] at hx
  obtain ⟨ha, ht⟩ := (resolveClass_links e.toSetting hl).op (op := VmOp.resolveClass f.method.cls x.catchType) rfl
  have hal : S.vm.Alike (S.vm.noted f.method.cls x.catchType (.cls cT)) := (Vm.Alike.refl S.vm).noted _ _ _
  obtain ⟨k1, hk1⟩ := hk
  obtain ⟨k2, hk2⟩ := hc
  obtain ⟨k1', hk1', -⟩ := hal.2.2 _ _ hk1
  obtain ⟨k2', hk2', -⟩ := hal.2.2 _ _ hk2
  have hfit' : (S.vm.noted f.method.cls x.catchType (.cls cT)).assignable cell.cls cT = S.vm.assignable cell.cls cT := hal.assignable _ _
  cases hfit : S.vm.assignable cell.cls cT <;> rw [hfit] at hfit' <;>
    simp [findHandler.go, hx, h0, ha, ht, hcell, hobj, hk1', hk2', hfit', VmOp.dirties, VmOp.acts]
/-- the rows ahead pass, the row x takes it -/
theorem ai_rows {f : JFrame} {a : Addr} {cell : Cell} (hobj : ∀ k, cell.vm ≠ .statics k) (hk0 : ∃ k, s.vm.classes[cell.cls]? = some k) (hpl : e.platform.magicAccessors = ({} : Platform).magicAccessors) {own : String} (hown : s.vm.findClass own = some f.method.cls) (x : ExceptionTableEntry) (rest : List ExceptionTableEntry) (hx : covers x f.pc = true) (h0 : x.catchType ≠ 0) {nm : String} (hlk : (Cond.classLink own x.catchType nm).before args s = true) {cT : ClassId} (hcT : s.vm.findClass nm = some cT) (hfit : s.vm.assignable cell.cls cT = true) :
    ∀ (pre : List ExceptionTableEntry) (S : State), s.WarmedH S.vm → S.heap[a]? = some cell → (∀ z ∈ pre, covers z f.pc = false ∨ (z.catchType ≠ 0 ∧ ∃ nz cz, (Cond.classLink own z.catchType nz).before args s = true ∧ s.vm.findClass nz = some cz ∧ s.vm.assignable cell.cls cz = false)) →
      ∃ vm', s.WarmedH vm' ∧ ∀ (Q : Handler → Pre) (E : CtlPost) (d : Bool) (acts : List Action), wp (findHandler.go f a (pre ++ x :: rest)) Q E e d acts S ↔ Q (.found x.handlerPc) d acts (S.setVm vm') := by
  intro pre
  induction pre with
  | nil =>
    intro S hW hcell _
    obtain ⟨c', hc', hcl⟩ := Cond.classLink_spec hown hlk e.platform hpl
    cases hcT.symm.trans hc'
    obtain ⟨dk, _, _, kt, hd, _, _, _, _, hkt, _, hopen⟩ := hcl.here
    obtain ⟨k0, hk0⟩ := hk0
    obtain ⟨k0', hk0', -⟩ := hW.alike.2.2 _ _ hk0
    obtain ⟨kt', hkt', -⟩ := hW.alike.2.2 _ _ hkt
    refine ⟨_, hW.noted hd hopen (State.rightAt_cls hcl), fun Q E d acts => ?_⟩
    rw [List.nil_append, ai_row hx h0 (hW.classLinks hcl) hcell hobj ⟨k0', hk0'⟩ ⟨kt', hkt'⟩, if_pos (by rw [hW.alike.assignable]; exact hfit)]
  | cons y ys ih =>
    intro S hW hcell hpass
    have hrest := fun z (hz : z ∈ ys) => hpass z (List.mem_cons_of_mem _ hz)
    by_cases hcov : covers y f.pc = true
    · rcases hpass y List.mem_cons_self with h | ⟨hz0, nz, cz, hlz, hcz, hno⟩
      · rw [h] at hcov; cases hcov
      · obtain ⟨c', hc', hcl⟩ := Cond.classLink_spec hown hlz e.platform hpl
        cases hcz.symm.trans hc'
        obtain ⟨dk, _, _, kt, hd, _, _, _, _, hkt, _, hopen⟩ := hcl.here
        obtain ⟨k0, hk00⟩ := hk0
        obtain ⟨k0', hk0', -⟩ := hW.alike.2.2 _ _ hk00
        obtain ⟨kt', hkt', -⟩ := hW.alike.2.2 _ _ hkt
        obtain ⟨vm', hW', hq⟩ := ih (S.setVm (S.vm.noted f.method.cls y.catchType (.cls cz))) (hW.noted hd hopen (State.rightAt_cls hcl)) hcell hrest
        refine ⟨vm', hW', fun Q E d acts => ?_⟩
        rw [List.cons_append, ai_row hcov hz0 (hW.classLinks hcl) hcell hobj ⟨k0', hk0'⟩ ⟨kt', hkt'⟩, if_neg (by rw [hW.alike.assignable, hno]; simp)]
        exact hq Q E d acts
    · obtain ⟨vm', hW', hq⟩ := ih S hW hcell hrest
      refine ⟨vm', hW', fun Q E d acts => ?_⟩
      rw [List.cons_append, W.findHandler_go_skip (by simpa using hcov)]
      exact hq Q E d acts
/-- the step of the machine that takes it -/
theorem ai_caught {tb : Tables} {S target : State} {g : JFrame} {a : Addr} (h : At S g.method c below) {pc : Nat} {vm' : Vm} (hf : ai_Fd e ((S.setTop g).pushFrame (.throwing a)) g a (.found pc) vm') (hrest : Steps tb e below ((S.setVm vm').setTop { g with pc := pc, stack := [.ref a] }) target) :
    Steps tb e below ((S.setTop g).pushFrame (.throwing a)) target := by
  obtain ⟨hgo, hw⟩ := h.throwing a
  refine Steps.head hgo hw ?_
  have hstep : ∀ r, (stepThrowing e ((S.setTop g).pushFrame (.throwing a)) a (.java g :: r)).Is ((((S.setTop g).pushFrame (.throwing a)).setVm vm').setFrames (.java { g with pc := pc, stack := [.ref a] } :: r)) [] := by
    intro r
    simp only [stepThrowing, searchFrame, vmDo]
    generalize hr : Sem.go _ e false [] ((S.setTop g).pushFrame (.throwing a)) = res
    obtain ⟨as, rfl, ha⟩ := Sem.eq_ok_of hr (a := Handler.found pc) (s' := ((S.setTop g).pushFrame (.throwing a)).setVm vm') (acts' := []) (by simp [hf _ _ _ _])
    exact ⟨rfl, ha⟩
  rw [stepThread_throwing (frames_entered h.top _), (hstep _).1]
  obtain ⟨g₀, hg⟩ := Option.isSome_iff_exists.mp h.top
  obtain ⟨r, hr⟩ := State.topJava?_eq_some.mp hg
  have hr' : (S.setVm vm').frames = .java g₀ :: r := hr
  rw [State.setTop_of_frames _ hr'] at hrest
  have hmv : ∀ (u : State) (F G : List Frame), ((u.setFrames F).setVm vm').setFrames G = (u.setVm vm').setFrames G := by
    intro u F G
    have h1 : (u.setFrames F).setVm vm' = (u.setVm vm').setFrames F := rfl
    rw [h1, State.setFrames_setFrames]
  rw [hr, List.tail_cons, State.pushFrame, hmv, State.setTop_of_frames _ hr, hmv]
  exact hrest
set_option maxHeartbeats 4000000 in
theorem ai_callX_W {M' : ai_M} {mi na ci x pc hp : Nat} {lv : ai_L} {st : List Value} {S S' : ai_S} {E : String} {as rest : List Value} {kx : Fin 4}
    (X : ai_X p s m args meth c M) (hMT : M ∈ ai_MT) (hK : ai_K D dA s) (hKX : ai_KX b s) (hRm : ai_Fr M ≤ R.frames ∧ ai_Lc M ≤ R.locals) (hb0 : b ≤ s.heap.size) (hs0 : s.heap.size ≤ b + k0) (hk : k0 ≤ S.2.1) (hsl : s0 ≤ S.2.2.1) (hle : ai_le S S') (hR : S'.2.1 - k0 ≤ R.cells ∧ S'.2.2.1 - s0 ≤ R.slots)
    (ht : ai_mth (ai_oi M) x = some (0, mi, na, ci)) (hM' : ai_MT[mi]? = some M') (hMet : ai_MetX l D dA sc b M' as S E S')
    (hat : ai_at M pc = some (.invokevirtual x, 3)) (hd : decode (ai_cc M) pc = .ok (.invokevirtual x, 3)) (hna : na ≤ st.length) (hsum : ai_sum rest ≤ 8) (hst : ∃ a fs, st.drop na = .ref a :: rest ∧ as = .ref a :: (st.take na).reverse ∧ ai_obj S a ci = some fs)
    (hh : ai_hand M pc E = some hp) (hka : ai_at M hp = some (.astore_n kx, 1)) (hkl : (kx : Nat) < lv.length) (hko : (kx : Nat) = 0 ∨ ai_isl (lv.getD ((kx : Nat) - 1) none) = false)
    (k : ai_G p l e R s m args below meth c Q D dA sc b k0 s0 M (hp + 1, lv.set kx none, [], S')) : ai_G p l e R s m args below meth c Q D dA sc b k0 s0 M (pc, lv, st, S) := by
  obtain ⟨hx, hb, hml, hown, hts, -, -, -, hext⟩ := X
  intro H ls locs hl hP hS
  refine ai_size fun hz => ?_
  have hMm : M' ∈ ai_MT := List.mem_of_getElem? hM'
  obtain ⟨hy, hna2, hini, h99, hkd⟩ := ai_mth_ok ht hM'
  obtain ⟨hrf, hrl⟩ := ai_room_ok hMT hat rfl ht hM'
  obtain ⟨hlk, hin, hse, hcw, T0, N0, hci⟩ := hkd.1 rfl
  obtain ⟨a, fs, hdrop, rfl, hobj⟩ := hst
  obtain ⟨g1, g2⟩ := ai_obj_inv hobj
  have hG := ai_goodM hMm h99
  obtain ⟨cellB, hcB, hoB, hclB⟩ := va_recv hK.1 hP hci (ai_ws_at g1 g2)
  intro T hT Y
  -- the call
  obtain ⟨mk, methM, hnamed, hmethM, hstM, habM⟩ := Cond.instanceMethod_spec (hts _ hin)
  have hcode := hts _ (ai_code_in hMm h99)
  rw [hcw] at hcode
  obtain ⟨methM', cM, hmethM', hcM, -, hlM, -, -, -, hsigM⟩ := Cond.code_spec hnamed hcode
  cases hmethM.symm.trans hmethM'
  obtain ⟨c2, r2, m2, q1, q2, q3, q4, kP, hkP, hkPi⟩ := Cond.selects_spec (hts _ hse)
  cases hclB.symm.trans q1
  cases (State.methodFound?_of_named hnamed hy).symm.trans q2
  cases hnamed.symm.trans q3
  have hselP : selectMethod e.platform s.vm cellB.cls mk = .method mk := by rw [Launch.admits_selectMethod Y.admits]; exact q4
  have hlen : ((st.take na).reverse.map (ai_v sc b)).length = methM.sig.parameters.length := by
    rw [List.length_map, List.length_reverse, List.length_take]
    have h2 := hna2
    rw [hsigM] at h2
    exact (Nat.min_eq_left hna).trans (Option.some.inj h2).symm
  have hstk : st.map (ai_v sc b) = ((st.take na).reverse.map (ai_v sc b)).reverse ++ .ref (b + a) :: rest.map (ai_v sc b) := by
    conv => lhs; rw [← List.take_append_drop na st, hdrop]
    rw [List.map_append, ← List.map_reverse, List.reverse_reverse]
    rfl
  obtain ⟨vm₁, Y₁, hstep₁⟩ := Y.invokevirtual hx hown (hts _ hlk) hnamed hmethM hstM hkP hkPi hy (a := b + a) (cell := cellB) (by rw [hT]; exact hcB)
    (fun z h => by rw [h] at hoB; cases hoB) hselP hmethM habM hkP hkPi (g := F0 m pc ls (st.map (ai_v sc b))) rfl (argsL := (st.take na).reverse.map (ai_v sc b)) (rest := rest.map (ai_v sc b)) hlen hstk (by rw [hb]; exact hd)
  -- its run
  obtain ⟨g, hgdef⟩ : ∃ z, z = F0 m pc ls (rest.map (ai_v sc b)) := ⟨_, rfl⟩
  have hgm : g.method = m := by rw [hgdef]
  have hn₁ := Y₁.named hnamed
  have hdg : decode c.code g.pc = .ok (.invokevirtual x, 3) := by rw [hb, hgdef]; exact hd
  have hpay := pay_in (big := ai_ws) (ws := ai_wsM M') hts hG
  have h1 : (headSpec (ai_wsM M') (ai_rm M' (S'.2.1 - S.2.1) (S'.2.2.1 - S.2.2.1))).pre.before ((Value.ref a :: (st.take na).reverse).map (ai_v sc b)).toArray (T.setVm vm₁) = true := atoms_intro fun w hw => hpay w hw _ _ Y₁.warmed
  obtain ⟨kY, hkY, -⟩ := className_of_methodNamed hn₁
  have h3 : (Cond.initialized (ai_y M').cls).before (#[] : Array Value) (T.setVm vm₁) = true := word_at Y₁.warmed (ai_good _ hini) (hts _ hini)
  have hinitY : kY.init = .initialized := Cond.initialized_spec (findClass_of_methodNamed hn₁) hkY h3
  have h2 : (Cond.code (ai_y M') (ai_cc M') (ai_nL M') (ai_ret M')).before (#[] : Array Value) (T.setVm vm₁) = true := by
    have := hpay (ai_cw M') List.mem_cons_self (#[] : Array Value) (T.setVm vm₁) Y₁.warmed
    rw [hcw] at this
    exact this
  obtain ⟨methY, cY, hmY, hcY, -, hlY, -, -, -, -⟩ := Cond.code_spec hn₁ h2
  have hAt : At (T.setVm vm₁) g.method c below := by rw [hgm]; exact Y₁.here
  have hsize : g.locals.size = c.maxLocals := by rw [hgdef, hml]; exact hl.1
  have hmon := lv_room (m := m) (pc := pc) (ls := ls) (rest := rest.map (ai_v sc b)) (st := rest.map (ai_v sc b)) (by rw [ai_sum_map]; exact hsum)
  have happ : (headSpec (ai_wsM M') (ai_rm M' (S'.2.1 - S.2.1) (S'.2.2.1 - S.2.2.1))).appliesLoose (ai_y M') e.platform ((T.setVm vm₁).calling g mk ((Value.ref a :: (st.take na).reverse).map (ai_v sc b)).toArray) = true :=
    Spec.appliesLoose_calling (g := g) hAt hdg hn₁ hkY hinitY
      (Y₁.room_calling (g := g) (R' := ai_rm M' (S'.2.1 - S.2.1) (S'.2.2.1 - S.2.2.1)) hsize hmY hcY (Nat.le_trans hrf hRm.1) (by
        rw [hlY, hgdef]
        show 2 * (F0 m pc ls (rest.map (ai_v sc b))).monitorRoom + ((rest.map (ai_v sc b)).map fun v => v.category).sum + (ai_nL M' + 11) + ai_Lc M' ≤ R.locals
        exact ai_ar10 hmon hrl hRm.2) (ai_ar2 hle.1 hk hR.1) (ai_ar2 hle.2 hsl hR.2)) h1
  have hPc : ai_Pc D dA sc b (.ref a :: (st.take na).reverse) S ((Value.ref a :: (st.take na).reverse).map (ai_v sc b)).toArray ((T.setVm vm₁).calling g mk ((Value.ref a :: (st.take na).reverse).map (ai_v sc b)).toArray) := by
    refine ai_blind _ _ _ _ ⟨rfl, ?_, ?_, ?_, ai_K.warm Y₁.warmed hK, ai_KX.go (locs := locs) Y₁.warmed (by show va_S _ s.heap T.heap locs; rw [hT]; exact hS) hKX⟩
    · show va_P D ai_cl _ T.heap
      rw [hT]; exact hP
    · show b ≤ T.heap.size
      rw [hT]; exact Nat.le_trans hb0 hS.1
    · show T.heap.size ≤ b + S.2.1
      rw [hT]; exact ai_ar4 hz hs0 hk
  obtain ⟨mid, hmid⟩ := hAt.above
  have hfr : ((T.setVm vm₁).setTop g).frames = (.java g :: mid) ++ below := by rw [State.frames_setTop' g hAt.top, hmid]; rfl
  obtain ⟨o, s₂, hsteps, -, hend, hq⟩ := Steps.callFree hMet p Y₁.admits Y₁.cas Y₁.clock (acts := []) hfr happ hPc trivial
  have hq : ai_Qx D dA sc b E S' (S'.2.1 - S.2.1) (S'.2.2.1 - S.2.2.1) ((Value.ref a :: (st.take na).reverse).map (ai_v sc b)).toArray ((T.setVm vm₁).calling g mk ((Value.ref a :: (st.take na).reverse).map (ai_v sc b)).toArray) o s₂ := hq
  obtain ⟨q, ce, Ls, rfl, hce, hcv, hcE, hW₂, hsm, hL, hP2, hF2⟩ := hq
  rw [State.frames_setTop' g hAt.top] at hend
  obtain ⟨g₀, hg0⟩ := Option.isSome_iff_exists.mp hAt.top
  obtain ⟨r, hr⟩ := State.topJava?_eq_some.mp hg0
  have hr' : (({ T.setVm vm₁ with heap := s₂.heap, slotsUsed := s₂.slotsUsed } : State).setVm s₂.vm).frames = .java g₀ :: r := hr
  obtain ⟨e2, u2, u3, u4, u5, u6⟩ := id hsm
  have e3 : s₂ = ({ ((T.setVm vm₁).calling g mk ((Value.ref a :: (st.take na).reverse).map (ai_v sc b)).toArray).setFrames s₂.frames with heap := s₂.heap, slotsUsed := s₂.slotsUsed } : State).setVm s₂.vm := by
    have : s₂ = ({ s₂ with vm := ((T.setVm vm₁).calling g mk ((Value.ref a :: (st.take na).reverse).map (ai_v sc b)).toArray).vm } : State).setVm s₂.vm := rfl
    rw [e2] at this
    exact this
  have hf₂ : s₂.frames = .throwing q :: .java g :: (T.setVm vm₁).frames.tail := hend
  have hW' : (T.setVm vm₁).WarmedH s₂.vm := hW₂
  obtain ⟨B, hB⟩ : ∃ z, z = (({ T.setVm vm₁ with heap := s₂.heap, slotsUsed := s₂.slotsUsed } : State).setVm s₂.vm) := ⟨_, rfl⟩
  have hs₂ : s₂ = (B.setTop g).pushFrame (.throwing q) := by
    rw [hB]
    refine e3.trans ?_
    rw [hf₂, State.calling_eq hAt.top, State.setFrames_setFrames, State.pushFrame, State.frames_setTop _ hr', State.setTop_of_frames _ hr', State.setFrames_setFrames, hr]
    rfl
  have hsame : (T.setVm vm₁).sameButNew ({ T.setVm vm₁ with heap := s₂.heap, slotsUsed := s₂.slotsUsed } : State) Ls (S'.2.1 - S.2.1) (S'.2.2.1 - S.2.2.1) := by
    refine ⟨?_, u2, u3, u4, u5, u6⟩
    obtain ⟨t, ht, -⟩ := State.frames_cons hr
    show ({ T.setVm vm₁ with heap := s₂.heap, slotsUsed := s₂.slotsUsed } : State) = { (T.setVm vm₁).setFrames (T.setVm vm₁).frames with heap := s₂.heap, slotsUsed := s₂.slotsUsed }
    rw [State.setFrames_self ht]
  have YB : Stand p l e R s m args below meth c B (locs ++ Ls) (S.2.1 - k0 + (S'.2.1 - S.2.1)) (S.2.2.1 - s0 + (S'.2.2.1 - S.2.2.1)) := by
    rw [hB]
    exact ⟨Y₁.admits, Y₁.cas, Y₁.clock, Y₁.frames, Y₁.room, Y₁.hears, Y₁.method, Y₁.code, (Y₁.here.setHeapUsed s₂.heap s₂.slotsUsed).setVm hW'.alike, Y₁.tail, State.WarmedH.trans Y₁.warmed hW', Y₁.limits, Y₁.bytes, Y₁.same.trans (hsame.setVm s.vm)⟩
  have hBh : B.heap = s₂.heap := by rw [hB]; rfl
  -- the handler
  have hEs : s.vm.findClass E = some ce.cls := by
    have h9 : (T.setVm vm₁).vm.findClass E = some ce.cls := hcE
    rw [← Y₁.warmed.alike.findClass]
    exact h9
  obtain ⟨pre, xr, suf, hspl, hxh, hxc, hxn, hpre⟩ := ai_hand_ok hh
  have hex := hext (by intro h9; rw [ai_law_ex hMT h9] at hspl; cases pre <;> cases hspl)
  rw [hspl] at hex
  obtain ⟨preE, rstE, hs1, hp1, hr1'⟩ := List.map_eq_append_iff.mp (hex.trans (List.map_append ..))
  obtain ⟨xE, sufE, hs2, hx1, -⟩ := List.map_eq_cons_iff.mp hr1'
  rw [hs2] at hs1
  have hrow := ai_row_ok hMT (z := xr) (by rw [hspl]; simp)
  simp only [Prod.mk.injEq] at hx1
  obtain ⟨hx1a, hx1b, hx1c, hx1d⟩ := hx1
  have hcov : covers xE g.pc = true := by
    simp only [covers, hx1a, hx1b, hgdef]
    simpa using hxc
  obtain ⟨c3, c4, hc3, hc4, hasg⟩ := Cond.castable_spec (va_Nw.use (A := args) rfl (hKX.2.2.2.2.1 _ hrow.2.2))
  rw [hxn] at hc3 hc4
  cases Option.some.inj (hc3.symm.trans hEs)
  have hpl : e.platform.magicAccessors = ({} : Platform).magicAccessors := by rw [Y.admits.platform]
  have hkc : ∃ k, s.vm.classes[ce.cls]? = some k := by obtain ⟨k9, h9, -⟩ := Vm.findClass_spec hEs; exact ⟨k9, h9⟩
  obtain ⟨vm', hWv, hfind⟩ := ai_rows (s := s) (e := e) (args := args) (f := g) (a := q) (cell := ce) (fun k h => by rw [hcv] at h; cases h) hkc hpl (own := ai_own (ai_oi M)) (by rw [hgm]; exact hown) xE sufE hcov (by rw [hx1d]; exact hrow.1) (nm := E) (by rw [hx1d, ← hxn]; exact hts _ hrow.2.1) hc4 hasg preE ((B.setTop g).pushFrame (.throwing q)) YB.warmed (by show B.heap[q]? = some ce; rw [hBh]; exact hce) (fun z hz => by
      have hzm : (z.startPc, z.endPc, z.handlerPc, z.catchType) ∈ pre.map (fun h => (h.1, h.2.1, h.2.2.1, h.2.2.2.1)) := by rw [← hp1]; exact List.mem_map.mpr ⟨z, hz, rfl⟩
      obtain ⟨w, hw, hwe⟩ := List.mem_map.mp hzm
      simp only [Prod.mk.injEq] at hwe
      obtain ⟨e1, e2', e3', e4⟩ := hwe
      by_cases hcz : covers z g.pc = true
      · refine Or.inr ?_
        have hwc : w.1 ≤ pc ∧ pc < w.2.1 := by
          simp only [covers, ← e1, ← e2', hgdef] at hcz
          simpa using hcz
        have hwn : w.2.2.2.2 ≠ E := fun h9 => hpre w hw ⟨hwc.1, hwc.2, h9⟩
        have hroww := ai_row_ok hMT (z := w) (by rw [hspl]; exact List.mem_append_left _ hw)
        have hnc := ai_pass_ok hMT hspl hw (by rw [hxn]; exact hwn)
        rw [hxn] at hnc
        obtain ⟨ca, cb, n1, n2, n3⟩ := hKX.2.2.2.1 _ hnc
        cases Option.some.inj (n1.symm.trans hEs)
        exact ⟨by rw [← e4]; exact hroww.1, w.2.2.2.2, cb, by rw [← e4]; exact hts _ hroww.2.1, n2, n3⟩
      · exact Or.inl (by simpa using hcz))
  have hFd : ai_Fd e ((B.setTop g).pushFrame (.throwing q)) g q (.found xE.handlerPc) vm' := by
    intro Q E d acts
    rw [W.findHandler_eq (meth := meth) (code := c) (by rw [hgm]; exact YB.method') YB.code, hs1]
    exact hfind Q E d acts
  have hdk := ai_dec hMT hka
  have hlen1 : decode (ai_cc M) hp = .ok (.astore_n kx, 1) := hdk.1
  have hn : lv.length = ai_nL M := hl.2.2.1
  have hWk : W p l e R s m args below meth c s₂.heap (locs ++ Ls) (S'.2.1 - k0) (S'.2.2.1 - s0) Q (F0 m hp ls [.ref q]) := by
    refine lv_astore_n hx hb hlen1 rfl hl.has (Nat.lt_of_lt_of_eq hkl hn) rfl (fun ls' hl' => k s₂.heap ls' (locs ++ Ls) (ai_LH.st hn (Nat.lt_of_lt_of_eq hkl hn) hko (fun v hv => by cases hv) hl') hP2 ⟨?_, ?_, ?_⟩)
    · have h9 : T.heap.size ≤ s₂.heap.size := hF2.1
      rw [hT] at h9
      exact Nat.le_trans hS.1 h9
    · intro z h8 h9
      have h7 : s₂.heap[z]? = T.heap[z]? := hF2.2 z (by show z < T.heap.size; rw [hT]; exact Nat.lt_of_lt_of_le h8 hS.1) h9
      rw [h7, hT]
      exact hS.2.1 z h8 h9
    · intro z hz
      rcases List.mem_append.mp hz with h | h
      · exact hS.2.2 z h
      · exact hL z h
  have YV := YB.noted hWv
  have e1 : S.2.1 - k0 + (S'.2.1 - S.2.1) = S'.2.1 - k0 := (ai_ar5 hle.1 hk).symm
  have e2' : S.2.2.1 - s0 + (S'.2.2.1 - S.2.2.1) = S'.2.2.1 - s0 := (ai_ar5 hle.2 hsl).symm
  rw [e1, e2'] at YV
  obtain ⟨t, a1, b1⟩ := hWk (B.setVm vm') hBh YV
  refine ⟨t, ?_, b1⟩
  refine hstep₁ _ fun acts => ?_
  rw [doInvoke_state]
  have hgst : ({ F0 m pc ls (st.map (ai_v sc b)) with stack := rest.map (ai_v sc b) } : JFrame) = g := hgdef.symm
  have hsteps' : Steps p.tables e below (doInvoke e ((T.setVm vm₁).setTop g) [] mk ((Value.ref a :: (st.take na).reverse).map (ai_v sc b)).toArray).1 s₂ := hsteps
  refine Steps.trans (show Steps p.tables e below (doInvoke e ((T.setVm vm₁).setTop { F0 m pc ls (st.map (ai_v sc b)) with stack := rest.map (ai_v sc b) }) [] mk (Value.ref (b + a) :: (st.take na).reverse.map (ai_v sc b)).toArray).1 s₂ by rw [hgst]; exact hsteps') ?_
  rw [hs₂]
  refine ai_caught (c := c) (by rw [hgm]; exact YB.here) hFd ?_
  have hfin : ({ g with pc := xE.handlerPc, stack := [.ref q] } : JFrame) = F0 m hp ls [.ref q] := by rw [hgdef, hx1c, hxh]
  rw [hfin]
  exact a1
end AIH

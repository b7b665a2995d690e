/-! The abstract machine's runs are runs of the real one: contracts. -/
def ai_wsM (M : ai_M) : List Cond := ai_cw M :: ai_ws
def ai_rm (M : ai_M) (mc ms : Nat) : Room := { frames := ai_Fr M, cells := mc, slots := ms, locals := ai_Lc M }
def ai_Pc (D : va_G) (dA : Nat → ClassId) (sc b : Nat) (as : List Value) (S : ai_S) : Array Value → State → Prop := fun av U => av = (as.map (ai_v sc b)).toArray ∧ va_P D ai_cl (ai_W dA sc b S.1 S.2.2.2) U.heap ∧ b ≤ U.heap.size ∧ U.heap.size ≤ b + S.2.1 ∧ ai_K D dA U ∧ ai_KX b U
def ai_Qr (D : va_G) (dA : Nat → ClassId) (sc b : Nat) (v : Option Value) (S : ai_S) : Array Value → State → Outcome → State → Prop := fun _ st oc t => oc = .returned (v.map (ai_v sc b)) ∧ va_P D ai_cl (ai_W dA sc b S.1 S.2.2.2) t.heap ∧ va_F (fun q => b ≤ q) st t
theorem ai_K.same {D : va_G} {dA : Nat → ClassId} {u U : State} (h : u.vm = U.vm) (hK : ai_K D dA u) : ai_K D dA U := by
  have ha : u.vm.Alike U.vm := by rw [h]; exact Vm.Alike.refl _
  refine ⟨va_K.moved ha hK.1, fun w hw => ?_, va_AO.moved ha hK.2.2⟩
  rcases ai_nw_ok hw with ⟨a, i, r, n, dd, hh, rfl⟩ | ⟨a, i, y, hh, rfl⟩
  · exact va_Nw.same rfl h (hK.2.1 _ hw)
  · exact va_Nw.same rfl h (hK.2.1 _ hw)
theorem ai_K.warm {D : va_G} {dA : Nat → ClassId} {s U : State} (h : s.WarmedH U.vm) (hK : ai_K D dA s) : ai_K D dA U := by
  refine ⟨va_K.moved h.alike hK.1, fun w hw => ?_, va_AO.moved h.alike hK.2.2⟩
  rcases ai_nw_ok hw with ⟨a, i, r, n, dd, hh, rfl⟩ | ⟨a, i, y, hh, rfl⟩
  · exact va_Nw.warmF h (hK.2.1 _ hw)
  · exact va_Nw.warmM h (hK.2.1 _ hw)
theorem ai_blind {D : va_G} {dA : Nat → ClassId} {sc b : Nat} {as : List Value} {S : ai_S} : FrameBlind (ai_Pc D dA sc b as S) := by
  intro a U g mk h
  obtain ⟨h1, h2, h3, h4, h5, h6⟩ := h
  exact ⟨h1, h2, h3, h4, ai_K.same (u := U) rfl h5, ai_KX.same (u := U) rfl rfl h6⟩
theorem ai_sum_map {sc b : Nat} (st : List Value) : ((st.map (ai_v sc b)).map fun v => v.category).sum = ai_sum st := by
  simp only [ai_sum, List.map_map]
  congr 1
  apply List.map_congr_left
  intro v _
  exact ai_v_cat sc b v
theorem ai_ar2 {a b c r : Nat} (h1 : a ≤ b) (h2 : c ≤ a) (h : b - c ≤ r) : a - c + (b - a) ≤ r := by omega
theorem ai_ar3 {n k q r : Nat} (h1 : 19 + n + k ≤ q) (h2 : q ≤ r) : 8 + (n + 11) + k ≤ r := by omega
theorem ai_ar4 {z y b k c : Nat} (h1 : z ≤ y + (k - c)) (h2 : y ≤ b + c) (h3 : c ≤ k) : z ≤ b + k := by omega
theorem ai_ar5 {a b c : Nat} (h1 : a ≤ b) (h2 : c ≤ a) : b - c = a - c + (b - a) := by omega
theorem ai_kd1 {kd : Nat} (h : kd = 0 ∨ kd = 1) (g : kd = 2 ∨ kd = 3 ∨ kd = 6) : False := by omega
theorem ai_kd2 {kd : Nat} (h : kd = 4 ∨ kd = 5) (g : kd = 2 ∨ kd = 3 ∨ kd = 6) : False := by omega
section AIC
variable {p : Program} {l : Launch} {e : Env} {R : Room} {s : State} {m : MethodId} {args : Array Value} {below : List Frame} {meth : Method} {c : Code} {Q : State → Prop}
variable {D : va_G} {dA : Nat → ClassId} {sc b k0 s0 : Nat} {M : ai_M}
/-- behind a call that has returned -/
theorem ai_ofRun {H : Heap} {locs : List Loc} {cells slots mc ms pc : Nat} {ls : Array Slot} {st0 rest : List Value} {a : Array Value} {v : Option Value} {S : ai_S}
    (hr : va_Run p l e R s m args below meth c H locs cells slots mc ms (F0 m pc ls st0) rest (ai_Qr D dA sc b v S a) (fun q => b ≤ q)) (hS : va_S (fun q => b ≤ q) s.heap H locs)
    (kk : ∀ (H1 : Heap) (locs1 : List Loc), va_P D ai_cl (ai_W dA sc b S.1 S.2.2.2) H1 → va_S (fun q => b ≤ q) s.heap H1 locs1 → W p l e R s m args below meth c H1 locs1 (cells + mc) (slots + ms) Q (F0 m (pc + 3) ls ((v.map (ai_v sc b)).toList ++ rest))) : W p l e R s m args below meth c H locs cells slots Q (F0 m pc ls st0) := by
  intro T hT X
  obtain ⟨v', st₀, t, T', Ls, h0, X', hL, e1, e2, ⟨hv, hP, hz, hk⟩, st⟩ := hr T hT X
  cases hv
  rw [h0] at hz hk
  obtain ⟨t2, a1, b1⟩ := kk T'.heap (locs ++ Ls) (by rw [e1]; exact hP)
    ⟨Nat.le_trans hS.1 (by rw [e1]; exact hz), fun q h1 h2 => by rw [e1, hk q (Nat.lt_of_lt_of_le h1 hS.1) h2]; exact hS.2.1 q h1 h2, fun q hq => by
      rcases List.mem_append.mp hq with h | h
      · exact hS.2.2 q h
      · exact hL q h⟩ T' rfl X'
  exact ⟨t2, st t2 a1, b1⟩
/-- the method returns -/
def ai_Met (l : Launch) (D : va_G) (dA : Nat → ClassId) (sc b : Nat) (M : ai_M) (as : List Value) (S : ai_S) (v : Option Value) (S' : ai_S) : Prop :=
  Met l (ai_y M) (ai_wsM M) (ai_rm M (S'.2.1 - S.2.1) (S'.2.2.1 - S.2.2.1)) (ai_Pc D dA sc b as S) (ai_Qr D dA sc b v S') (S'.2.1 - S.2.1) (S'.2.2.1 - S.2.2.1) (fun q => b ≤ q)
theorem ai_goodM {M' : ai_M} (hM : M' ∈ ai_MT) (ho : ai_oi M' ≠ 99) : GoodIn ai_ws (ai_wsM M') := by
  intro w hw
  rcases List.mem_cons.mp hw with rfl | hw
  · exact ⟨ai_code_in hM ho, ai_good _ (ai_code_in hM ho)⟩
  · exact ⟨hw, ai_good _ hw⟩
/-- a static method with handlers, called -/
theorem ai_runSW {y : MethodName} {bytes cc : ByteArray} {maxL nL mc ms n index : Nat} {ret : Option FieldType} {hh : List (Nat × Nat × Nat × Nat)} {ws : List Cond} {rm : Room} {Pc : Array Value → State → Prop} {Qc : Array Value → State → Outcome → State → Prop} {free : Addr → Prop} {Ts : List Cond} {own : String} {As rest : List Value} {g : JFrame} {H : Heap} {locs : List Loc} {cells slots : Nat}
    (Z : CallFix p m c cc nL s args Ts own) (hM : Met l y (Cond.codeWith y bytes maxL ret hh :: ws) rm Pc Qc mc ms free) (hG : GoodIn Ts (Cond.codeWith y bytes maxL ret hh :: ws)) (hrc : rm.cells = mc) (hrs : rm.slots = ms) (hRR : rm.frames + 1 ≤ R.frames ∧ 8 + (maxL + 11) + rm.locals ≤ R.locals)
    (hini : (Cond.initialized y.cls).before args s = true) (hy : y.cls ≠ "java/lang/invoke/MethodHandle" ∧ y.cls ≠ "java/lang/invoke/VarHandle") (hna : (parseMethodDescriptor y.desc).map (fun d => d.parameters.length) = some n) (hl : (Cond.methodLink own index y).before args s = true) (hstat : (Cond.static y).before args s = true) (hp : PreS s H Pc As)
    (hg : g.method = m) (hn : As.length = n) (hsize : g.locals.size = nL) (hstack : g.stack = As.reverse ++ rest) (hW : 2 * g.monitorRoom + (rest.map fun v => v.category).sum ≤ 8) (hdg : decode cc g.pc = .ok (.invokestatic index, 3)) (hf : cells + mc ≤ R.cells ∧ slots + ms ≤ R.slots) :
    va_Run p l e R s m args below meth c H locs cells slots mc ms g rest (Qc As.toArray) free := by
  obtain ⟨hx, hb, hml, ho, hts⟩ := Z
  have hK : Back l R p e below s args y 3 8 (PreOf R mc ms Pc) (PostOf Qc mc ms free) := va_backW (bytes := bytes) (maxL := maxL) (ret := ret) (hh := hh) hM hp.1 hrc hrs hRR.1 hRR.2 (pay_in hts hG) List.mem_cons_self (fun a' U hW => word_at hW (Or.inl (by first | rfl | simp [Cond.onTables, Cond.keeps, Cond.steady])) hini)
  intro T hT X
  obtain ⟨mk, methM, cM, hnamed, hmethM, -, -, -, -, -, -, hsigM⟩ := Cond.codeWith_spec (hts _ (hG _ List.mem_cons_self).1)
  have hstatic : methM.isStatic = true := Cond.static_spec hnamed hmethM hstat
  obtain ⟨kP, hkP, -⟩ := className_of_methodNamed hnamed
  have hinitP : kP.init = .initialized := Cond.initialized_spec (findClass_of_methodNamed hnamed) hkP hini
  have hlen : As.length = methM.sig.parameters.length := by
    rw [hsigM] at hna
    exact hn.trans (Option.some.inj hna).symm
  obtain ⟨vm₁, X₁, hstep₁⟩ := X.invokestatic hx ho hl hnamed hmethM hstatic hkP hinitP hy (g := g) hg (argsL := As) (rest := rest) hlen hstack (by rw [hb]; exact hdg)
  obtain ⟨v, ⟨U', l2, c2, s2⟩, X', ⟨g', mk', t, Ls, e1, e2, hq, h1, hL, h2, h3⟩, hsteps⟩ := hK m meth c ⟨T.setVm vm₁, locs, cells, slots⟩ { g with stack := rest } (.invokestatic index) mk As.toArray X₁ hg (hsize.trans hml.symm) (by rw [hb]; exact hdg) hW (X₁.named hnamed) ⟨hf.1, hf.2, hp.2 (T.setVm vm₁) hT X₁.warmed⟩
  dsimp only [Pt.U, Pt.locs, Pt.cells, Pt.slots] at X' e1 e2 h1 h2 h3 hsteps
  subst h1; subst h2; subst h3
  exact ⟨v, (T.setVm vm₁).calling g' mk' As.toArray, t, U', Ls, hT, X', hL, e1, e2, hq, fun target h => hstep₁ _ fun acts => by rw [doInvoke_state]; exact hsteps.trans h⟩
set_option maxHeartbeats 2000000 in
/-- a call of a method that returns -/
theorem ai_call_W {M' : ai_M} {kd mi na ci x pc : Nat} {lv : ai_L} {st : List Value} {S S' : ai_S} {v : Option Value} {as : List Value} {rest : List Value} {i : Instr}
    (X : ai_X p s m args meth c M) (hK : ai_K D dA s) (hKX : ai_KX b s) (hMT : M ∈ ai_MT) (hRm : ai_Fr M ≤ R.frames ∧ ai_Lc M ≤ R.locals) (hb0 : b ≤ s.heap.size) (hs0 : s.heap.size ≤ b + k0) (hk : k0 ≤ S.2.1) (hsl : s0 ≤ S.2.2.1) (hle : ai_le S S') (hR : S'.2.1 - k0 ≤ R.cells ∧ S'.2.2.1 - s0 ≤ R.slots)
    (ht : ai_mth (ai_oi M) x = some (kd, mi, na, ci)) (hM' : ai_MT[mi]? = some M') (hMet : ai_Met l D dA sc b M' as S v S') (hi : (i = .invokevirtual x ∧ (kd = 0 ∨ kd = 1)) ∨ (i = .invokestatic x ∧ (kd = 2 ∨ kd = 3 ∨ kd = 6)) ∨ (i = .invokespecial x ∧ (kd = 4 ∨ kd = 5)))
    (hat : ai_at M pc = some (i, 3)) (hd : decode (ai_cc M) pc = .ok (i, 3)) (hna : na ≤ st.length) (hsum : ai_sum rest ≤ 8)
    (hst : ((kd = 2 ∨ kd = 3 ∨ kd = 6) ∧ as = (st.take na).reverse ∧ rest = st.drop na) ∨ (¬ (kd = 2 ∨ kd = 3 ∨ kd = 6) ∧ ∃ a fs, st.drop na = .ref a :: rest ∧ as = .ref a :: (st.take na).reverse ∧ ai_obj S a ci = some fs))
    (k : ai_G p l e R s m args below meth c Q D dA sc b k0 s0 M (pc + 3, lv, v.toList ++ rest, S')) : ai_G p l e R s m args below meth c Q D dA sc b k0 s0 M (pc, lv, st, S) := by
  obtain ⟨hx, hb, hml, hown, hts, -⟩ := X
  intro H ls locs hl hP hS
  refine ai_size fun hz => ?_
  have hMm : M' ∈ ai_MT := List.mem_of_getElem? hM'
  obtain ⟨hy, hna2, hini, h99, hkd⟩ := ai_mth_ok ht hM'
  obtain ⟨hrf, hrl⟩ := ai_room_ok hMT hat (by rcases hi with ⟨r, -⟩ | ⟨r, -⟩ | ⟨r, -⟩ <;> rw [r] <;> simp [ai_ivk]) ht hM'
  have hG := ai_goodM hMm h99
  have hf : (S.2.1 - k0) + (S'.2.1 - S.2.1) ≤ R.cells ∧ (S.2.2.1 - s0) + (S'.2.2.1 - S.2.2.1) ≤ R.slots := ⟨ai_ar2 hle.1 hk hR.1, ai_ar2 hle.2 hsl hR.2⟩
  have hRR : (ai_rm M' (S'.2.1 - S.2.1) (S'.2.2.1 - S.2.2.1)).frames + 1 ≤ R.frames ∧ 8 + (ai_nL M' + 11) + (ai_rm M' (S'.2.1 - S.2.1) (S'.2.2.1 - S.2.2.1)).locals ≤ R.locals := ⟨Nat.le_trans hrf hRm.1, ai_ar3 hrl hRm.2⟩
  have hpre : ∀ U : State, U.heap = H → s.WarmedH U.vm → ai_Pc D dA sc b as S ((as.map (ai_v sc b)).toArray) U := by
    intro U hU hW
    refine ⟨rfl, by rw [hU]; exact hP, by rw [hU]; exact Nat.le_trans hb0 hS.1, ?_, ai_K.warm hW hK, ai_KX.go (locs := locs) hW (by rw [hU]; exact hS) hKX⟩
    rw [hU]
    exact ai_ar4 hz hs0 hk
  have hrm : 2 * (F0 m pc ls (st.map (ai_v sc b))).monitorRoom + ((rest.map (ai_v sc b)).map fun v => v.category).sum ≤ 8 := lv_room (by rw [ai_sum_map]; exact hsum)
  have fin : va_Run p l e R s m args below meth c H locs (S.2.1 - k0) (S.2.2.1 - s0) (S'.2.1 - S.2.1) (S'.2.2.1 - S.2.2.1) (F0 m pc ls (st.map (ai_v sc b))) (rest.map (ai_v sc b)) (ai_Qr D dA sc b v S' ((as.map (ai_v sc b)).toArray)) (fun q => b ≤ q) → W p l e R s m args below meth c H locs (S.2.1 - k0) (S.2.2.1 - s0) Q (F0 m pc ls (st.map (ai_v sc b))) := by
    intro hr
    refine ai_ofRun hr hS (fun H1 locs1 hP1 hS1 => ?_)
    have := k H1 ls locs1 hl hP1 hS1
    have e1 : S'.2.1 - k0 = S.2.1 - k0 + (S'.2.1 - S.2.1) := ai_ar5 hle.1 hk
    have e2 : S'.2.2.1 - s0 = S.2.2.1 - s0 + (S'.2.2.1 - S.2.2.1) := ai_ar5 hle.2 hsl
    have e3 : (v.toList ++ rest).map (ai_v sc b) = (v.map (ai_v sc b)).toList ++ rest.map (ai_v sc b) := by cases v <;> rfl
    simp only [e1, e2, e3] at this
    exact this
  have hlen : ((st.take na).reverse.map (ai_v sc b)).length = na := by
    rw [List.length_map, List.length_reverse, List.length_take]
    exact Nat.min_eq_left hna
  rcases hst with ⟨hk23, rfl, rfl⟩ | ⟨hk23, a, fs, hdrop, rfl, hobj⟩
  · have hstk : st.map (ai_v sc b) = ((st.take na).reverse.map (ai_v sc b)).reverse ++ (st.drop na).map (ai_v sc b) := by
      rw [← List.map_reverse, List.reverse_reverse, ← List.map_append, List.take_append_drop]
    rcases hi with ⟨_, h1⟩ | ⟨rfl, h1⟩ | ⟨_, h1⟩
    · exact (ai_kd1 h1 hk23).elim
    · refine fin ?_
      rcases h1 with rfl | rfl | rfl
      · obtain ⟨hlk, hstt, hcw⟩ := hkd.2.2.1 rfl
        unfold ai_Met ai_wsM at hMet
        unfold ai_wsM at hG
        rw [hcw] at hMet hG
        exact va_runS ⟨hx, hb, hml, hown, hts⟩ hMet ⟨callB_of na hts hG rfl rfl rfl (hts _ hini) (hts _ hlk) ⟨hy.1, hy.2, hna2⟩ hRR, hts _ hstt⟩ ⟨ai_blind, hpre⟩ rfl hlen hl.1 hstk hrm hd hf
      · obtain ⟨hlk, hstt, hcw⟩ := hkd.2.2.2.1 rfl
        unfold ai_Met ai_wsM at hMet
        unfold ai_wsM at hG
        rw [hcw] at hMet hG
        exact va_runSN ⟨hx, hb, hml, hown, hts⟩ hMet ⟨va_cnB na hts hG rfl rfl rfl (hK.2.1 _ hlk) (hts _ hini) ⟨hy.1, hy.2, hna2⟩ hRR, hts _ hstt, trivial⟩ ⟨ai_blind, hpre⟩ rfl hlen hl.1 hstk hrm hd hf
      · obtain ⟨hlk, hstt, hh, hcw⟩ := hkd.2.2.2.2.2.2 rfl
        unfold ai_Met ai_wsM at hMet
        unfold ai_wsM at hG
        rw [hcw] at hMet hG
        exact ai_runSW ⟨hx, hb, hml, hown, hts⟩ hMet hG rfl rfl hRR (hts _ hini) hy hna2 (hts _ hlk) (hts _ hstt) ⟨ai_blind, hpre⟩ rfl hlen hl.1 hstk hrm hd hf
    · exact (ai_kd2 h1 hk23).elim
  · have hstk : st.map (ai_v sc b) = ((st.take na).reverse.map (ai_v sc b)).reverse ++ .ref (b + a) :: rest.map (ai_v sc b) := by
      conv => lhs; rw [← List.take_append_drop na st, hdrop]
      rw [List.map_append, ← List.map_reverse, List.reverse_reverse]
      rfl
    obtain ⟨g1, g2⟩ := ai_obj_inv hobj
    refine fin ?_
    rcases hi with ⟨rfl, h1⟩ | ⟨_, h1⟩ | ⟨rfl, h1⟩
    · rcases h1 with rfl | rfl
      · obtain ⟨hlk, hin, hse, hcw, T, N, hci⟩ := hkd.1 rfl
        unfold ai_Met ai_wsM at hMet
        unfold ai_wsM at hG
        rw [hcw] at hMet hG
        exact va_runV (C := (ai_y M').cls) ⟨hx, hb, hml, hown, hts⟩ hMet ⟨callB_of na hts hG rfl rfl rfl (hts _ hini) (hts _ hlk) ⟨hy.1, hy.2, hna2⟩ hRR, hts _ hin, hts _ hse⟩ ⟨ai_blind, va_recv hK.1 hP hci (ai_ws_at g1 g2), hpre⟩ rfl hlen hl.1 hstk hrm hd hf
      · obtain ⟨hlk, hin, hse, hcw, T, N, hci⟩ := hkd.2.1 rfl
        unfold ai_Met ai_wsM at hMet
        unfold ai_wsM at hG
        rw [hcw] at hMet hG
        exact va_runVN (C := (ai_y M').cls) ⟨hx, hb, hml, hown, hts⟩ hMet ⟨va_cnB na hts hG rfl rfl rfl (hK.2.1 _ hlk) (hts _ hini) ⟨hy.1, hy.2, hna2⟩ hRR, hts _ hin, hts _ hse⟩ ⟨ai_blind, va_recv hK.1 hP hci (ai_ws_at g1 g2), hpre⟩ rfl hlen hl.1 hstk hrm hd hf
    · exact absurd h1 hk23
    · rcases h1 with rfl | rfl
      · obtain ⟨hlk, hin, hnm, hcw⟩ := hkd.2.2.2.2.1 rfl
        unfold ai_Met ai_wsM at hMet
        unfold ai_wsM at hG
        rw [hcw] at hMet hG
        exact va_runI (b := b + a) ⟨hx, hb, hml, hown, hts⟩ hMet ⟨callB_of na hts hG rfl rfl rfl (hts _ hini) (hts _ hlk) ⟨hy.1, hy.2, hna2⟩ hRR, hnm, hts _ hin⟩ ⟨ai_blind, hpre⟩ rfl hlen hl.1 hstk hrm hd hf
      · obtain ⟨hlk, hin, hnm, hcw⟩ := hkd.2.2.2.2.2.1 rfl
        unfold ai_Met ai_wsM at hMet
        unfold ai_wsM at hG
        rw [hcw] at hMet hG
        exact va_runIN (b := b + a) ⟨hx, hb, hml, hown, hts⟩ hMet ⟨va_cnB na hts hG rfl rfl rfl (hK.2.1 _ hlk) (hts _ hini) ⟨hy.1, hy.2, hna2⟩ hRR, hnm, hts _ hin⟩ ⟨ai_blind, hpre⟩ rfl hlen hl.1 hstk hrm hd hf
end AIC

/-! The contracts: what the abstract machine runs, the real one runs. -/
section AIN
variable {p : Program} {l : Launch} {e : Env} {R : Room} {s : State} {m : MethodId} {args : Array Value} {below : List Frame} {meth : Method} {c : Code} {Q : State → Prop}
variable {D : va_G} {dA : Nat → ClassId} {sc b k0 s0 : Nat} {M : ai_M} {L : Nat} {xs : Nat → Int32}
theorem ai_loop_W {d : Nat} {o : ai_O} (X : ai_X p s m args meth c M) (hMT : M ∈ ai_MT) (hK : ai_K D dA s) (hKX : ai_KX b s) (hX : ai_oi M = 99 → va_X sc L xs s s.heap ∧ sc < s.heap.size ∧ sc < b) (hRm : ai_Fr M ≤ R.frames ∧ ai_Lc M ≤ R.locals) (hb0 : b ≤ s.heap.size) (hs0 : s.heap.size ≤ b + k0) (hR : o.2.2.1 - k0 ≤ R.cells ∧ o.2.2.2.1 - s0 ≤ R.slots)
    (hrun : ∀ mi as S o, ai_run L xs d mi as S o → ∃ M', ai_MT[mi]? = some M' ∧ ai_Ct l D dA sc b M' as S o)
    (hret : ∀ (F : ai_F) (v : Int32), k0 ≤ F.2.2.2.2.1 → s0 ≤ F.2.2.2.2.2.1 → decode (ai_cc M) F.1 = .ok (.ireturn, 1) → F.2.2.1 = [.int v] → (∃ ty, ai_ret M = some ty ∧ narrow ty (.int v) = .int v) → ai_ok (some (.int v)) F.2.2.2 = o → ai_G p l e R s m args below meth c Q D dA sc b k0 s0 M F)
    (hvret : ∀ F : ai_F, k0 ≤ F.2.2.2.2.1 → s0 ≤ F.2.2.2.2.2.1 → decode (ai_cc M) F.1 = .ok (.return_, 1) → F.2.2.1 = [] → ai_ret M = none → ai_ok none F.2.2.2 = o → ai_G p l e R s m args below meth c Q D dA sc b k0 s0 M F)
    (hthr : ∀ (F : ai_F) (E : String), k0 ≤ F.2.2.2.2.1 → s0 ≤ F.2.2.2.2.2.1 → ai_thr M F.1 = some E → ai_sum F.2.2.1 ≤ 8 → ((.inr E, (F.2.2.2.1, F.2.2.2.2.1 + 1, F.2.2.2.2.2.1 + 6, F.2.2.2.2.2.2)) : ai_O) = o → ai_G p l e R s m args below meth c Q D dA sc b k0 s0 M F) :
    ∀ (n : Nat) (F : ai_F), k0 ≤ F.2.2.2.2.1 → s0 ≤ F.2.2.2.2.2.1 → ai_wp L xs M (fun mi as S Q => ∃ o, ai_run L xs d mi as S o ∧ Q o) (fun x => x = o) n F → ai_G p l e R s m args below meth c Q D dA sc b k0 s0 M F := by
  intro n
  induction n with
  | zero => intro F _ _ h; exact h.elim
  | succ n ih =>
    intro F hk hsl h
    refine ai_one_W X hMT hK hKX hX hRm hb0 hs0 hk hsl hR hrun (fun v => hret F v hk hsl) (hvret F hk hsl) (fun E => hthr F E hk hsl) h (fun G hG hle => ?_)
    obtain ⟨o', -, ho, hle'⟩ := ai_wp_det ai_run_le hG
    subst ho
    exact ⟨hle', ih G (Nat.le_trans hk hle.1) (Nat.le_trans hsl hle.2) hG⟩
set_option maxRecDepth 100000 in
theorem ai_plains : ai_MT.all (fun M => plainName (ai_y M).cls) = true := by decide +kernel
/-- the body of a method, entered -/
theorem ai_body {mc ms : Nat} {s₁ : State} (hM : M ∈ ai_MT) (h99 : ai_oi M ≠ 99) (B : BodyLoose p l (ai_y M) (headSpec (ai_wsM M) (ai_rm M mc ms)) (ai_cc M) (ai_nL M) (ai_ret M) e s m args below meth c s₁) (hml : c.maxLocals = ai_nL M) : ai_X p s m args meth c M := by
  have hts0 := atoms_spec (ws := ai_wsM M) B.pre
  refine ⟨B.exec, B.bytes, hml, ?_, fun w hw => hts0 w (List.mem_cons_of_mem _ hw), B.returns, B.notSynchronized, fun _ => (name_of_methodNamed B.named B.method).1, fun _ => ?_⟩
  · have h1 := findClass_of_methodNamed B.named
    rw [ai_own_ok hM]
    exact h1
  · have hc := hts0 _ (List.mem_cons_self (a := ai_cw M) (l := ai_ws))
    have hcode : meth.code = some c := (Stand.of_body B).code
    unfold ai_cw at hc
    cases hx : ai_ex M with
    | nil =>
      rw [hx] at hc
      obtain ⟨meth', c', h1, h2, -, -, -, -, h7, -⟩ := Cond.code_spec B.named hc
      cases B.method.symm.trans h1
      cases hcode.symm.trans h2
      rw [Array.isEmpty_iff] at h7
      rw [h7]
      rfl
    | cons a t =>
      rw [hx] at hc
      obtain ⟨m9, meth', c', hn9, h1, h2, -, -, h5, -⟩ := Cond.codeWith_spec hc
      cases B.named.symm.trans hn9
      cases B.method.symm.trans h1
      cases hcode.symm.trans h2
      exact h5
set_option maxHeartbeats 1000000 in
theorem ai_sound (hlt : l.stackTraces = false) : ∀ (d mi : Nat) (as : List Value) (S : ai_S) (o : ai_O), ai_run L xs d mi as S o → ∃ M', ai_MT[mi]? = some M' ∧ ai_Ct l D dA sc b M' as S o := by
  intro d
  induction d with
  | zero => intro mi as S o h; exact h.elim
  | succ d ih =>
    intro mi as S o h
    obtain ⟨M, n, hM, h99, hent, hwp⟩ := h
    have hMm : M ∈ ai_MT := List.mem_of_getElem? hM
    have hpn : plainName (ai_y M).cls = true := List.all_eq_true.mp ai_plains M hMm
    refine ⟨M, hM, ?_⟩
    obtain ⟨r, S'⟩ := o
    have core : ∀ (Qe : State → Prop) (p : Program) (e : Env) (s : State) (m : MethodId) (args : Array Value) (below : List Frame) (meth : Method) (c : Code) (s₁ : State), BodyLoose p l (ai_y M) (headSpec (ai_wsM M) (ai_rm M (S'.2.1 - S.2.1) (S'.2.2.1 - S.2.2.1))) (ai_cc M) (ai_nL M) (ai_ret M) e s m args below meth c s₁ → c.maxLocals = ai_nL M → ai_Pc D dA sc b as S args s →
        (ai_X p s m args meth c M → ai_KX b s → b ≤ s.heap.size → (∀ (F : ai_F) (v : Int32), S.2.1 ≤ F.2.2.2.2.1 → S.2.2.1 ≤ F.2.2.2.2.2.1 → decode (ai_cc M) F.1 = .ok (.ireturn, 1) → F.2.2.1 = [.int v] → (∃ ty, ai_ret M = some ty ∧ narrow ty (.int v) = .int v) → ai_ok (some (.int v)) F.2.2.2 = (r, S') → ai_G p l e (headSpec (ai_wsM M) (ai_rm M (S'.2.1 - S.2.1) (S'.2.2.1 - S.2.2.1))).room s m args below meth c Qe D dA sc b S.2.1 S.2.2.1 M F) ∧
          (∀ F : ai_F, S.2.1 ≤ F.2.2.2.2.1 → S.2.2.1 ≤ F.2.2.2.2.2.1 → decode (ai_cc M) F.1 = .ok (.return_, 1) → F.2.2.1 = [] → ai_ret M = none → ai_ok none F.2.2.2 = (r, S') → ai_G p l e (headSpec (ai_wsM M) (ai_rm M (S'.2.1 - S.2.1) (S'.2.2.1 - S.2.2.1))).room s m args below meth c Qe D dA sc b S.2.1 S.2.2.1 M F) ∧
          (∀ (F : ai_F) (E : String), S.2.1 ≤ F.2.2.2.2.1 → S.2.2.1 ≤ F.2.2.2.2.2.1 → ai_thr M F.1 = some E → ai_sum F.2.2.1 ≤ 8 → ((.inr E, (F.2.2.2.1, F.2.2.2.2.1 + 1, F.2.2.2.2.2.1 + 6, F.2.2.2.2.2.2)) : ai_O) = (r, S') → ai_G p l e (headSpec (ai_wsM M) (ai_rm M (S'.2.1 - S.2.1) (S'.2.2.1 - S.2.2.1))).room s m args below meth c Qe D dA sc b S.2.1 S.2.2.1 M F)) →
        W p l e (headSpec (ai_wsM M) (ai_rm M (S'.2.1 - S.2.1) (S'.2.2.1 - S.2.2.1))).room s m args below meth c s.heap [] 0 0 Qe (entryFrame m args (ai_nL M)) := by
      intro Qe p e s m args below meth c s₁ B hml hv hends
      have X := ai_body hMm h99 B hml
      obtain ⟨rfl, hP, hb0, hsz, hK, hKX⟩ := hv
      obtain ⟨hret, hvret, hthr⟩ := hends X hKX hb0
      have hG := ai_loop_W (o := (r, S')) X hMm hK hKX (fun h => absurd h h99) ⟨Nat.le_refl _, Nat.le_refl _⟩ hb0 hsz ⟨Nat.le_refl _, Nat.le_refl _⟩ ih hret hvret hthr n (0, ai_in M as, [], S) (Nat.le_refl _) (Nat.le_refl _) hwp
      have := hG s.heap _ [] (ai_entry as hent) hP va_S.rf
      simp only [Nat.sub_self] at this
      rw [lg_entry_eq]
      exact this
    cases r with
    | inl v =>
      show ai_Met l D dA sc b M as S v S'
      have body : ∀ (p : Program) (e : Env) (s : State) (m : MethodId) (args : Array Value) (below : List Frame) (meth : Method) (c : Code) (s₁ : State), BodyLoose p l (ai_y M) (headSpec (ai_wsM M) (ai_rm M (S'.2.1 - S.2.1) (S'.2.2.1 - S.2.2.1))) (ai_cc M) (ai_nL M) (ai_ret M) e s m args below meth c s₁ → c.maxLocals = ai_nL M → ai_Pc D dA sc b as S args s →
          W p l e (headSpec (ai_wsM M) (ai_rm M (S'.2.1 - S.2.1) (S'.2.2.1 - S.2.2.1))).room s m args below meth c s.heap [] 0 0 (MQ below (ai_Qr D dA sc b v S') args s (S'.2.1 - S.2.1) (S'.2.2.1 - S.2.2.1) (fun q => b ≤ q)) (entryFrame m args (ai_nL M)) := by
        intro p e s m args below meth c s₁ B hml hv
        refine core _ p e s m args below meth c s₁ B hml hv (fun X hKX hb0 => ⟨?_, ?_, ?_⟩)
        · intro F w hk hsl hd hst hty ho H ls locs hl hP hS
          obtain ⟨pc, lv, st, S9⟩ := F
          cases ho
          simp only at hst
          subst hst
          obtain ⟨ty, hr1, hr2⟩ := hty
          exact W.zret X.1 X.2.1 (X.2.2.2.2.2.1.trans hr1) hr2 (fun t ht hW => ⟨rfl, by rw [ht]; exact hP, by rw [ht]; exact hS.1, fun q h1 h2 => by rw [ht]; exact hS.2.1 q h1 h2⟩) hS.2.2 hd X.2.2.2.2.2.2.1
        · intro F hk hsl hd hst hty ho H ls locs hl hP hS
          obtain ⟨pc, lv, st, S9⟩ := F
          cases ho
          simp only at hst
          subst hst
          exact W.vret X.1 X.2.1 (X.2.2.2.2.2.1.trans hty) (fun t ht hW => ⟨rfl, by rw [ht]; exact hP, by rw [ht]; exact hS.1, fun q h1 h2 => by rw [ht]; exact hS.2.1 q h1 h2⟩) hS.2.2 hd X.2.2.2.2.2.2.1
        · intro F E hk hsl ht hs ho
          cases ho
      unfold ai_Met
      cases hx : (ai_ex M).isEmpty with
      | true => exact Met.ofW (ws' := ai_ws) hpn (by unfold ai_wsM; rw [ai_cw_e hx]) body
      | false =>
        obtain ⟨hh, hcw⟩ := ai_cw_h hx
        exact va_MetW (ws' := ai_ws) (hh := hh) hpn (by unfold ai_wsM; rw [hcw]) body
    | inr E =>
      show ai_MetX l D dA sc b M as S E S'
      have body : ∀ (p : Program) (e : Env) (s : State) (m : MethodId) (args : Array Value) (below : List Frame) (meth : Method) (c : Code) (s₁ : State), BodyLoose p l (ai_y M) (headSpec (ai_wsM M) (ai_rm M (S'.2.1 - S.2.1) (S'.2.2.1 - S.2.2.1))) (ai_cc M) (ai_nL M) (ai_ret M) e s m args below meth c s₁ → c.maxLocals = ai_nL M → ai_Pc D dA sc b as S args s →
          W p l e (headSpec (ai_wsM M) (ai_rm M (S'.2.1 - S.2.1) (S'.2.2.1 - S.2.2.1))).room s m args below meth c s.heap [] 0 0 (ai_MQX below (ai_Qx D dA sc b E S' (S'.2.1 - S.2.1) (S'.2.2.1 - S.2.2.1)) args s) (entryFrame m args (ai_nL M)) := by
        intro p e s m args below meth c s₁ B hml hv
        refine core _ p e s m args below meth c s₁ B hml hv (fun X hKX hb0 => ⟨?_, ?_, ?_⟩)
        · intro F w hk hsl hd hst hty ho
          cases ho
        · intro F hk hsl hd hst hty ho
          cases ho
        · intro F E' hk hsl ht hs ho
          obtain ⟨pc, lv, st, S9⟩ := F
          cases ho
          exact ai_thr_W X hMm hKX hlt hb0 ⟨Nat.le_refl _, Nat.le_refl _⟩ hk hsl ⟨Nat.le_refl _, Nat.le_refl _⟩ ht hs
      refine MetFree.of_bodyS (code := ai_cc M) (maxLocals := ai_nL M) (ret := ai_ret M) hpn ?_ ?_
      · intro args s m h hn
        have hc := atoms_spec (ws := ai_wsM M) h _ (List.mem_cons_self (a := ai_cw M) (l := ai_ws))
        cases hx : (ai_ex M).isEmpty with
        | true =>
          rw [ai_cw_e hx] at hc
          obtain ⟨meth, c, h1, h2, h3, h4, h5, h6, -, -⟩ := Cond.code_spec hn hc
          exact ⟨meth, c, h1, h2, h3, h4, h5, h6⟩
        | false =>
          obtain ⟨hh, hcw⟩ := ai_cw_h hx
          rw [hcw] at hc
          obtain ⟨m9, meth, c, hn9, h1, h2, h3, h4, -, h5, h6, -⟩ := Cond.codeWith_spec hc
          cases hn.symm.trans hn9
          exact ⟨meth, c, h1, h2, h3, h4, h5, h6⟩
      · intro p e s m args below meth c s₁ B hml hP _
        have hh0 : s₁.heap = s.heap := by rw [B.state]; rfl
        obtain ⟨t, a1, o, b1, b2, b3⟩ := body p e s m args below meth c s₁ B hml hP s₁ hh0 (Stand.of_body B)
        exact ⟨t, o, a1, b1, b2, b3⟩
end AIN

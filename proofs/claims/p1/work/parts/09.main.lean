/-! Every run of the abstract machine is one of the real machine. -/
theorem ai_ar11 {a b c r : Nat} (h1 : a ≤ b) (h : b - c ≤ r) : a - c ≤ r := by omega
theorem ai_ar12 {x y q r : Nat} (h1 : x + y ≤ 8) (h2 : 20 ≤ q) (h3 : q ≤ r) : x + y + 12 ≤ r := by omega
theorem ai_ar13 {x y q r : Nat} (h1 : x ≤ 8) (h0 : y = 18) (h2 : 26 ≤ q) (h3 : q ≤ r) : x + y ≤ r := by omega
section AIM
variable {p : Program} {l : Launch} {e : Env} {R : Room} {s : State} {m : MethodId} {args : Array Value} {below : List Frame} {meth : Method} {c : Code} {Q : State → Prop}
variable {D : va_G} {dA : Nat → ClassId} {sc b k0 s0 : Nat} {M : ai_M} {L : Nat} {xs : Nat → Int32}
/-- the method comes to that end -/
def ai_Ct (l : Launch) (D : va_G) (dA : Nat → ClassId) (sc b : Nat) (M : ai_M) (as : List Value) (S : ai_S) (o : ai_O) : Prop := match o.1 with
  | .inl v => ai_Met l D dA sc b M as S v o.2
  | .inr E => ai_MetX l D dA sc b M as S E o.2
theorem ai_to_ok {pc : Nat} {off : Int} (h : 0 ≤ (pc : Int) + off) : (pc : Int) + off = ((ai_to pc off : Nat) : Int) := by
  unfold ai_to
  omega
theorem ai_inv_W {d x : Nat} {F : ai_F} {go : ai_F → Prop} {ks : List Nat} {i : Instr} {o : ai_O} (X : ai_X p s m args meth c M) (hMT : M ∈ ai_MT) (hK : ai_K D dA s) (hKX : ai_KX b s) (hRm : ai_Fr M ≤ R.frames ∧ ai_Lc M ≤ R.locals) (hb0 : b ≤ s.heap.size) (hs0 : s.heap.size ≤ b + k0) (hk : k0 ≤ F.2.2.2.2.1) (hsl : s0 ≤ F.2.2.2.2.2.1) (hR : o.2.2.1 - k0 ≤ R.cells ∧ o.2.2.2.1 - s0 ≤ R.slots)
    (hrun : ∀ mi as S o, ai_run L xs d mi as S o → ∃ M', ai_MT[mi]? = some M' ∧ ai_Ct l D dA sc b M' as S o)
    (hi : (i = .invokevirtual x ∧ ks = [0, 1]) ∨ (i = .invokestatic x ∧ ks = [2, 3, 6]) ∨ (i = .invokespecial x ∧ ks = [4, 5])) (hat : ai_at M F.1 = some (i, 3)) (hd : decode (ai_cc M) F.1 = .ok (i, 3))
    (h : ai_inv (fun mi as S Q => ∃ o, ai_run L xs d mi as S o ∧ Q o) M go ks x F) (hgo : ∀ G, go G → ai_le F.2.2.2 G.2.2.2 → ai_le G.2.2.2 o.2 ∧ ai_G p l e R s m args below meth c Q D dA sc b k0 s0 M G) : ai_G p l e R s m args below meth c Q D dA sc b k0 s0 M F := by
  obtain ⟨pc, lv, st, S⟩ := F
  unfold ai_inv at h
  cases he : ai_mth (ai_oi M) x with
  | none => rw [he] at h; exact h.elim
  | some q =>
    obtain ⟨kd, mi, na, ci⟩ := q
    rw [he] at h
    simp only at h
    obtain ⟨h1, h2⟩ := h
    have hi' : (i = .invokevirtual x ∧ (kd = 0 ∨ kd = 1)) ∨ (i = .invokestatic x ∧ (kd = 2 ∨ kd = 3 ∨ kd = 6)) ∨ (i = .invokespecial x ∧ (kd = 4 ∨ kd = 5)) := by
      rcases hi with ⟨r1, rfl⟩ | ⟨r1, rfl⟩ | ⟨r1, rfl⟩ <;> simp only [List.mem_cons, List.not_mem_nil, or_false] at h1
      · exact Or.inl ⟨r1, h1⟩
      · exact Or.inr (Or.inl ⟨r1, h1⟩)
      · exact Or.inr (Or.inr ⟨r1, h1⟩)
    have key : ∀ (as rest : List Value) (o' : ai_O), ai_run L xs d mi as S o' → na ≤ st.length → ai_sum rest ≤ 8 → (((kd = 2 ∨ kd = 3 ∨ kd = 6) ∧ as = (st.take na).reverse ∧ rest = st.drop na) ∨ (¬ (kd = 2 ∨ kd = 3 ∨ kd = 6) ∧ ∃ a fs, st.drop na = .ref a :: rest ∧ as = .ref a :: (st.take na).reverse ∧ ai_obj S a ci = some fs)) → ai_back M go kd pc lv rest o' → ai_G p l e R s m args below meth c Q D dA sc b k0 s0 M (pc, lv, st, S) := by
      intro as rest o' hr hna hsum hst hback
      obtain ⟨M', hM', hct⟩ := hrun _ _ _ _ hr
      have hle := ai_run_le _ _ _ _ hr
      obtain ⟨r, S'⟩ := o'
      cases r with
      | inl v =>
        obtain ⟨g1, g2⟩ := hgo _ hback hle
        exact ai_call_W X hK hKX hMT hRm hb0 hs0 hk hsl hle ⟨ai_ar11 g1.1 hR.1, ai_ar11 g1.2 hR.2⟩ he hM' hct hi' hat hd hna hsum hst g2
      | inr E =>
        simp only [ai_back] at hback
        obtain ⟨hkd, hback⟩ := hback
        cases hh : ai_hand M pc E with
        | none => rw [hh] at hback; exact hback.elim
        | some hp =>
          rw [hh] at hback
          simp only at hback
          split at hback
          · rename_i kx hka
            obtain ⟨g1, g2⟩ := hgo _ hback.2.2 hle
            have hst' : ∃ a fs, st.drop na = .ref a :: rest ∧ as = .ref a :: (st.take na).reverse ∧ ai_obj S a ci = some fs := by
              rcases hst with ⟨hz, -⟩ | ⟨-, hz⟩
              · exact (ai_kd1 (Or.inl hkd) hz).elim
              · exact hz
            have hiv : i = .invokevirtual x := by
              rcases hi' with ⟨hz, -⟩ | ⟨-, hz⟩ | ⟨-, hz⟩
              · exact hz
              · exact (ai_kd1 (Or.inl hkd) hz).elim
              · rw [hkd] at hz; simp at hz
            subst hkd
            rw [hiv] at hd hat
            exact ai_callX_W X hMT hK hKX hRm hb0 hs0 hk hsl hle ⟨ai_ar11 g1.1 hR.1, ai_ar11 g1.2 hR.2⟩ he hM' hct hat hd hna hsum hst' hh hka hback.1 hback.2.1 g2
          · exact hback.elim
    by_cases hk23 : kd = 2 ∨ kd = 3 ∨ kd = 6
    · rw [if_pos hk23] at h2
      obtain ⟨g1, g2, o', g3, g4⟩ := h2
      exact key _ _ o' g3 g1 g2 (Or.inl ⟨hk23, rfl, rfl⟩) g4
    · rw [if_neg hk23] at h2
      split at h2
      · rename_i a rest hs
        obtain ⟨g1, g2, ⟨fs, g5⟩, o', g3, g4⟩ := h2
        exact key _ _ o' g3 g1 g2 (Or.inr ⟨hk23, a, fs, hs, rfl, g5⟩) g4
      · exact h2.elim
set_option maxHeartbeats 4000000 in
theorem ai_one_W {d : Nat} {F : ai_F} {go : ai_F → Prop} {Qe : ai_O → Prop} {o : ai_O} (X : ai_X p s m args meth c M) (hMT : M ∈ ai_MT) (hK : ai_K D dA s) (hKX : ai_KX b s) (hX : ai_oi M = 99 → va_X sc L xs s s.heap ∧ sc < s.heap.size ∧ sc < b) (hRm : ai_Fr M ≤ R.frames ∧ ai_Lc M ≤ R.locals) (hb0 : b ≤ s.heap.size) (hs0 : s.heap.size ≤ b + k0) (hk : k0 ≤ F.2.2.2.2.1) (hsl : s0 ≤ F.2.2.2.2.2.1) (hR : o.2.2.1 - k0 ≤ R.cells ∧ o.2.2.2.1 - s0 ≤ R.slots)
    (hrun : ∀ mi as S o, ai_run L xs d mi as S o → ∃ M', ai_MT[mi]? = some M' ∧ ai_Ct l D dA sc b M' as S o)
    (hret : ∀ v : Int32, decode (ai_cc M) F.1 = .ok (.ireturn, 1) → F.2.2.1 = [.int v] → (∃ ty, ai_ret M = some ty ∧ narrow ty (.int v) = .int v) → Qe (ai_ok (some (.int v)) F.2.2.2) → ai_G p l e R s m args below meth c Q D dA sc b k0 s0 M F)
    (hvret : decode (ai_cc M) F.1 = .ok (.return_, 1) → F.2.2.1 = [] → ai_ret M = none → Qe (ai_ok none F.2.2.2) → ai_G p l e R s m args below meth c Q D dA sc b k0 s0 M F)
    (hthr : ∀ E, ai_thr M F.1 = some E → ai_sum F.2.2.1 ≤ 8 → Qe (.inr E, (F.2.2.2.1, F.2.2.2.2.1 + 1, F.2.2.2.2.2.1 + 6, F.2.2.2.2.2.2)) → ai_G p l e R s m args below meth c Q D dA sc b k0 s0 M F)
    (h : ai_one L xs M (fun mi as S Q => ∃ o, ai_run L xs d mi as S o ∧ Q o) go Qe F) (hgo : ∀ G, go G → ai_le F.2.2.2 G.2.2.2 → ai_le G.2.2.2 o.2 ∧ ai_G p l e R s m args below meth c Q D dA sc b k0 s0 M G) : ai_G p l e R s m args below meth c Q D dA sc b k0 s0 M F := by
  have X0 := X
  obtain ⟨hx, hb, hml, hown, hts, -⟩ := X
  unfold ai_one at h
  cases ha : ai_at M F.1 with
  | none => rw [ha] at h; exact h.elim
  | some q =>
    obtain ⟨i, len⟩ := q
    rw [ha] at h
    have hdd := ai_dec hMT ha
    have hd : decode (ai_cc M) F.1 = .ok (i, len) := hdd.1
    have hlen := hdd.2
    obtain ⟨pc, lv, st, S⟩ := F
    cases i
    case goto off =>
      have hl3 : len = 3 := hlen.1 (by intro a b c d h; cases h)
      subst hl3
      have hto := hlen.2.1 off rfl
      intro H ls locs hl hP hS
      exact lv_goto hx hb hd (ai_to_ok hto) ((hgo _ h (ai_le.rf _)).2 H ls locs hl hP hS)
    case ifCond cd off =>
      have hl3 : len = 3 := hlen.1 (by intro a b c d h; cases h)
      subst hl3
      have hto := hlen.2.2.1 cd off rfl
      simp only at h
      split at h
      · rename_i x r
        intro H ls locs hl hP hS
        have kt := fun z => (hgo _ (h.1 z) (ai_le.rf _)).2 H ls locs hl hP hS
        have kf := fun z => (hgo _ (h.2 z) (ai_le.rf _)).2 H ls locs hl hP hS
        cases cd with
        | eq => exact lv_if_eq hx hb hd (ai_to_ok hto) kt kf
        | ne => exact lv_if_ne hx hb hd (ai_to_ok hto) kt (fun z => kf (fun w => w z))
        | lt => exact lv_if_lt hx hb hd (ai_to_ok hto) kt kf
        | ge => exact lv_if_ge hx hb hd (ai_to_ok hto) kt kf
        | gt => exact lv_if_gt hx hb hd (ai_to_ok hto) kt kf
        | le => exact lv_if_le hx hb hd (ai_to_ok hto) kt kf
      · exact h.elim
    case if_icmp cd off =>
      have hl3 : len = 3 := hlen.1 (by intro a b c d h; cases h)
      subst hl3
      have hto := hlen.2.2.2.1 cd off rfl
      simp only at h
      split at h
      · rename_i y x r
        intro H ls locs hl hP hS
        have kt := fun z => (hgo _ (h.1 z) (ai_le.rf _)).2 H ls locs hl hP hS
        have kf := fun z => (hgo _ (h.2 z) (ai_le.rf _)).2 H ls locs hl hP hS
        cases cd with
        | eq => exact lv_icmp_eq hx hb hd (ai_to_ok hto) kt kf
        | ne => exact lv_icmp_ne hx hb hd (ai_to_ok hto) kt (fun z => kf (fun w => w z))
        | lt => exact lv_icmp_lt hx hb hd (ai_to_ok hto) kt kf
        | ge => exact lv_icmp_ge hx hb hd (ai_to_ok hto) kt kf
        | gt => exact lv_icmp_gt hx hb hd (ai_to_ok hto) kt kf
        | le => exact lv_icmp_le hx hb hd (ai_to_ok hto) kt kf
      · exact h.elim
    case tableswitch dflt lo hi offs =>
      have hto := hlen.2.2.2.2 dflt lo hi offs rfl
      simp only at h
      split at h
      · rename_i x r
        intro H ls locs hl hP hS
        by_cases hc : x.toInt < lo ∨ hi < x.toInt
        · exact lv_tableOut hx hb hd hc (ai_to_ok hto.1) ((hgo _ (h.1 hc) (ai_le.rf _)).2 H ls locs hl hP hS)
        · obtain ⟨off, h1, h2⟩ := h.2 hc
          exact lv_tableIn hx hb hd (fun z => hc (Or.inl z)) (fun z => hc (Or.inr z)) h1 (ai_to_ok (hto.2 _ off h1)) ((hgo _ h2 (ai_le.rf _)).2 H ls locs hl hP hS)
      · exact h.elim
    case invokevirtual x =>
      have hl3 : len = 3 := hlen.1 (by intro a b c d h; cases h)
      subst hl3
      exact ai_inv_W X0 hMT hK hKX hRm hb0 hs0 hk hsl hR hrun (Or.inl ⟨rfl, rfl⟩) ha hd h hgo
    case invokestatic x =>
      have hl3 : len = 3 := hlen.1 (by intro a b c d h; cases h)
      subst hl3
      simp only at h
      by_cases hcp : ai_isCpy (ai_oi M) x = true
      · rw [if_pos hcp] at h
        unfold ai_cpy at h
        simp only at h
        split at h
        · rename_i n dp a1 sp a0 rest
          obtain ⟨n0, f, n1, g, h1, h2, h3, h4, h5, h6, h7, h8, h9, h10⟩ := h
          obtain ⟨w1, w2, w3, w4⟩ := ai_cpy_ok hcp
          obtain ⟨u1, u2⟩ := ai_arr_inv h1
          obtain ⟨v1, v2⟩ := ai_arr_inv h2
          intro H ls locs hl hP hS
          refine va_copyi (ty := .char) hx hb (hml.trans hl.1.symm) hown (hts _ w1) (hts _ w2) (hts _ w3) (hts _ w4) hK.1 hP ai_W_D hS a0 a1 1 1 (ai_ws_at u1 u2) (ai_ws_at v1 v2) rfl rfl rfl h4 h5 h6 h7 h8 h9 (Nat.le_trans (ai_rcpy hMT ha hcp).1 hRm.1) ?_ hd (fun H1 locs1 hP1 _ hS1 => (hgo _ h10 (ai_le_wr _ _ _)).2 H1 ls locs1 hl ?_ hS1)
          · rw [ai_sum_map]
            exact ai_ar13 h3 (by decide +kernel) (ai_rcpy hMT ha hcp).2 hRm.2
          · have := ai_W_set (dA := dA) (sc := sc) (b := b) (n := S.1) (i := a1) (h := S.2.2.2) (x := .inl (1, ai_I n1 (va_cpy f g sp.toNatClampNeg dp.toNatClampNeg n.toNatClampNeg)))
            show va_P D ai_cl (ai_W dA sc b S.1 (va_up S.2.2.2 a1 _)) H1
            rw [← this]
            exact hP1
        · exact h.elim
      · rw [if_neg hcp] at h
        exact ai_inv_W X0 hMT hK hKX hRm hb0 hs0 hk hsl hR hrun (Or.inr (Or.inl ⟨rfl, rfl⟩)) ha hd h hgo
    case invokespecial x =>
      have hl3 : len = 3 := hlen.1 (by intro a b c d h; cases h)
      subst hl3
      simp only at h
      by_cases hcp : ai_isObj (ai_oi M) x = true
      · rw [if_pos hcp] at h
        split at h
        · rename_i a r
          obtain ⟨w1, w2, w3⟩ := ai_obj_ok hcp
          intro H ls locs hl hP hS
          refine W.objInit hx hb hown (hts _ w1) (hts _ w2) (hts _ w3) rfl (hl.1.trans hml.symm) rfl hd (Nat.le_trans (ai_robj hMT ha hcp).1 hRm.1) ?_ ((hgo _ h.2 (ai_le.rf _)).2 H ls locs hl hP hS)
          have h8 := lv_room (m := m) (pc := pc) (ls := ls) (rest := List.map (ai_v sc b) (Value.ref a :: r)) (st := r.map (ai_v sc b)) (by rw [ai_sum_map]; exact h.1)
          exact ai_ar12 h8 (ai_robj hMT ha hcp).2 hRm.2
        · exact h.elim
      · rw [if_neg hcp] at h
        exact ai_inv_W X0 hMT hK hKX hRm hb0 hs0 hk hsl hR hrun (Or.inr (Or.inr ⟨rfl, rfl⟩)) ha hd h hgo
    case ireturn =>
      have hl3 : len = 1 := hlen.1 (by intro a b c d h; cases h)
      subst hl3
      simp only at h
      split at h
      · rename_i v
        exact hret v hd rfl h.1 h.2
      · exact h.elim
    case return_ =>
      have hl3 : len = 1 := hlen.1 (by intro a b c d h; cases h)
      subst hl3
      exact hvret hd h.1 h.2.1 h.2.2
    all_goals
      have hl3 := hlen.1 (by intro a b c d h; cases h)
      simp only at h
      split at h
      · rename_i E he
        exact hthr E he h.1 h.2
      · split at h
        · rename_i G hG
          have hle := ai_step_le hG
          obtain ⟨g1, g2⟩ := hgo G h hle
          rw [hl3] at hd hG
          exact ai_step_W X0 hK hX hb0 hs0 hk hsl ⟨ai_ar11 g1.1 hR.1, ai_ar11 g1.2 hR.2⟩ hd hG g2
        · exact h.elim
end AIM

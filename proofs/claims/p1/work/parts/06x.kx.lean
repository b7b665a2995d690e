/-! What a throw rests on besides the tables: two static fields of Throwable, which lie below our cells, and the texts. -/
def ai_Zs (b : Nat) (n d : String) (U : State) (H : Heap) : Prop := ∃ (cf : ClassId) (k : Class) (i : Nat) (f : Field) (a : Nat) (cell : Cell) (v : Value), U.vm.findClass Bundle.tN = some cf ∧ U.fieldFound? Bundle.tN n d = some (cf, k, i, f) ∧ f.isStatic = true ∧ k.statics = some a ∧ H[a]? = some cell ∧ cell.vm.isStatics = true ∧ cell.cls = cf ∧ f.slot < cell.slots.size ∧ k.staticTypes[f.slot]? = some f.type ∧ cell.slots[f.slot]? = some v ∧ v.isRef = true ∧ a < b
theorem ai_Zs.go {b : Nat} {n d : String} {u U : State} {H H1 : Heap} (hvm : u.vm.Alike U.vm) (hq : ∀ a, a < b → a < H.size → H1[a]? = H[a]?) (h : ai_Zs b n d u H) : ai_Zs b n d U H1 := by
  obtain ⟨cf, k, i, f, a, cell, v, h1, h2, h3, h4, h5, h6, h7, h8, h9, h10, h11, h12⟩ := h
  obtain ⟨k', hi', he⟩ := State.fieldFound?_setVm hvm h2
  exact ⟨cf, k', i, f, a, cell, v, by rw [hvm.findClass]; exact h1, hi', h3, by rw [he]; exact h4, by rw [hq a h12 (Array.getElem?_eq_some_iff.mp h5).1]; exact h5, h6, h7, h8, by rw [he]; exact h9, h10, h11, h12⟩
theorem ai_Zs.lays {b : Nat} {n d : String} {s : State} {args : Array Value} (h : ai_Zs b n d s s.heap) : (Cond.laysStatic Bundle.tN n d).before args s = true := by
  obtain ⟨cf, k, i, f, a, cell, v, h1, h2, h3, h4, h5, h6, h7, h8, h9, h10, h11, h12⟩ := h
  exact Cond.laysStatic_of h1 h2 h3 h4 h5 h6 h7 h8 h9
theorem ai_Zs.ref {b : Nat} {n d : String} {s : State} {args : Array Value} (h : ai_Zs b n d s s.heap) : (Cond.isRef (.static Bundle.tN n d)).before args s = true := by
  obtain ⟨cf, k, i, f, a, cell, v, h1, h2, h3, h4, h5, h6, h7, h8, h9, h10, h11, h12⟩ := h
  have he : (Term.static Bundle.tN n d).eval args s none [] s = some v := by
    simp [Term.eval, State.fieldNamed?, h2, h3, h4, h5, h6, h10]
  simp only [Cond.before, Cond.holds, Cond.value, he]
  cases v <;> simp_all [Value.isRef]
theorem ai_Zs.of {b : Nat} {n d : String} {s : State} {args : Array Value} (hl : (Cond.laysStatic Bundle.tN n d).before args s = true) (hr : (Cond.isRef (.static Bundle.tN n d)).before args s = true) (hb : s.heap.size ≤ b) : ai_Zs b n d s s.heap := by
  obtain ⟨cf, k, i, f, a, cell, h1, h2, h3, h4, h5, h6, h7, h8, h9⟩ := Cond.laysStatic_spec hl
  cases hv : (Term.static Bundle.tN n d).eval args s none [] s with
  | none => simp [Cond.before, Cond.holds, Cond.value, hv] at hr
  | some w =>
    obtain ⟨-, a', cell', ha', hcell', -, hslot⟩ := Term.static_spec h2 hv
    cases h4.symm.trans ha'
    cases h5.symm.trans hcell'
    refine ⟨cf, k, i, f, a, cell, w, h1, h2, h3, h4, h5, h6, h7, h8, h9, hslot, ?_, ?_⟩
    · simp only [Cond.before, Cond.holds, Cond.value, hv] at hr
      cases w <;> simp_all [Value.isRef]
    · have := (Array.getElem?_eq_some_iff.mp h5).1
      omega
def ai_KX (b : Nat) (U : State) : Prop := ai_Zs b "UNASSIGNED_STACK" Bundle.steD U U.heap ∧ ai_Zs b "SUPPRESSED_SENTINEL" Bundle.listD U U.heap ∧ (∀ q ∈ ai_txt, ∃ sa, vk_R q.1 q.2.1 q.2.2 sa U) ∧ (∀ q ∈ ai_ncL, va_Nc q.1 q.2 U) ∧ (∀ E ∈ ai_ca, va_Nw (.castable E E) U) ∧ ∀ y ∈ ai_dcL, va_Nw (.declares y) U
theorem ai_ca_go {E : String} {s U : State} (ha : s.vm.Alike U.vm) (h : va_Nw (.castable E E) s) : va_Nw (.castable E E) U := va_tabs rfl (rfl : (s.setVm U.vm).vm = U.vm) (by rw [Cond.castable_setVm ha]; exact h)
theorem ai_KX.go {b : Nat} {s U : State} {locs : List Loc} (hW : s.WarmedH U.vm) (hS : va_S (fun q => b ≤ q) s.heap U.heap locs) (h : ai_KX b s) : ai_KX b U := by
  have hq : ∀ a, a < b → a < s.heap.size → U.heap[a]? = s.heap[a]? := fun a h1 h2 => hS.2.1 a h2 (by omega)
  refine ⟨ai_Zs.go hW.alike hq h.1, ai_Zs.go hW.alike hq h.2.1, fun q hm => ?_, fun q hm => va_Nc.moved hW.alike (h.2.2.2.1 q hm), fun E hE => ai_ca_go hW.alike (h.2.2.2.2.1 E hE), fun y hy => va_Nw.warmD hW (h.2.2.2.2.2 y hy)⟩
  obtain ⟨sa, h1⟩ := h.2.2.1 q hm
  exact ⟨sa, vk_R.warm hW h1⟩
theorem ai_KX.same {b : Nat} {u U : State} (hvm : u.vm = U.vm) (hh : U.heap = u.heap) (h : ai_KX b u) : ai_KX b U := by
  have ha : u.vm.Alike U.vm := by rw [hvm]; exact Vm.Alike.refl _
  have hq : ∀ a, a < b → a < u.heap.size → U.heap[a]? = u.heap[a]? := fun a _ _ => by rw [hh]
  refine ⟨ai_Zs.go ha hq h.1, ai_Zs.go ha hq h.2.1, fun q hm => ?_, fun q hm => va_Nc.moved ha (h.2.2.2.1 q hm), fun E hE => ai_ca_go ha (h.2.2.2.2.1 E hE), fun y hy => va_Nw.same rfl hvm (h.2.2.2.2.2 y hy)⟩
  obtain ⟨sa, h1⟩ := h.2.2.1 q hm
  exact ⟨sa, vk_R.same hvm.symm h1⟩

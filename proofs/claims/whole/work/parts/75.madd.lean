/-! The reference: a pair is added. -/
section MA
variable {L : Nat} {xs : Nat → Int32} {d : Nat} {S S' : ai_S} {T D n rc wt kp sx sc : Int} {F : Nat → Nat → Int} {B : Nat → Int} {P : Nat → Int} {A : Int → Nat} {Rs Vs : rls}
/-- codes of two words are the same, so are the words -/
theorem cw_same {X Y : Nat → Int} {a b : Nat} {u v : List Int} (hu : cw X a u) (hv : cw Y b v) (ku : al (kn P 129) u) (kv : al (kn P 129) v) : u = v ↔ (u.length = v.length ∧ ∀ i, i < v.length → X (a + i) = Y (b + i)) := by
  constructor
  · rintro rfl
    exact ⟨rfl, fun i hi => (hu i hi).trans (hv i hi).symm⟩
  · rintro ⟨hl, h⟩
    refine List.ext_getElem hl fun i h1 h2 => ?_
    have e := h i h2
    rw [hu i h1, hv i h2, getD_eq h1, getD_eq h2] at e
    exact co_inj (ku _ (List.getElem_mem _)) (kv _ (List.getElem_mem _)) e
theorem at_137_0 : ai_at ai_m137 0 = some (.aload_n 0, 1) := rfl
theorem at_137_1 : ai_at ai_m137 1 = some (.iconst 0, 1) := rfl
theorem at_137_2 : ai_at ai_m137 2 = some (.invokevirtual 147, 3) := rfl
theorem at_137_5 : ai_at ai_m137 5 = some (.ifCond .lt 11, 3) := rfl
theorem at_137_8 : ai_at ai_m137 8 = some (.aload_n 0, 1) := rfl
theorem at_137_9 : ai_at ai_m137 9 = some (.iconst 1, 1) := rfl
theorem at_137_10 : ai_at ai_m137 10 = some (.invokevirtual 147, 3) := rfl
theorem at_137_13 : ai_at ai_m137 13 = some (.ifCond .ge 9, 3) := rfl
theorem at_137_16 : ai_at ai_m137 16 = some (.aload_n 0, 1) := rfl
theorem at_137_17 : ai_at ai_m137 17 = some (.iconst 3, 1) := rfl
theorem at_137_18 : ai_at ai_m137 18 = some (.putfield 150, 3) := rfl
theorem at_137_21 : ai_at ai_m137 21 = some (.return_, 1) := rfl
theorem at_137_22 : ai_at ai_m137 22 = some (.aload_n 0, 1) := rfl
theorem at_137_23 : ai_at ai_m137 23 = some (.iconst 0, 1) := rfl
theorem at_137_24 : ai_at ai_m137 24 = some (.iconst 1, 1) := rfl
theorem at_137_25 : ai_at ai_m137 25 = some (.invokevirtual 153, 3) := rfl
theorem at_137_28 : ai_at ai_m137 28 = some (.ifCond .eq 4, 3) := rfl
theorem at_137_31 : ai_at ai_m137 31 = some (.return_, 1) := rfl
theorem at_137_32 : ai_at ai_m137 32 = some (.aload_n 0, 1) := rfl
theorem at_137_33 : ai_at ai_m137 33 = some (.invokevirtual 157, 3) := rfl
theorem at_137_36 : ai_at ai_m137 36 = some (.bipush 6, 2) := rfl
theorem at_137_38 : ai_at ai_m137 38 = some (.if_icmp .le 9, 3) := rfl
theorem at_137_41 : ai_at ai_m137 41 = some (.aload_n 0, 1) := rfl
theorem at_137_42 : ai_at ai_m137 42 = some (.iconst 3, 1) := rfl
theorem at_137_43 : ai_at ai_m137 43 = some (.putfield 150, 3) := rfl
theorem at_137_46 : ai_at ai_m137 46 = some (.return_, 1) := rfl
theorem at_137_47 : ai_at ai_m137 47 = some (.aload_n 0, 1) := rfl
theorem at_137_48 : ai_at ai_m137 48 = some (.invokevirtual 161, 3) := rfl
theorem at_137_51 : ai_at ai_m137 51 = some (.istore_n 1, 1) := rfl
theorem at_137_52 : ai_at ai_m137 52 = some (.aload_n 0, 1) := rfl
theorem at_137_53 : ai_at ai_m137 53 = some (.invokevirtual 165, 3) := rfl
theorem at_137_56 : ai_at ai_m137 56 = some (.aload_n 0, 1) := rfl
theorem at_137_57 : ai_at ai_m137 57 = some (.invokevirtual 157, 3) := rfl
theorem at_137_60 : ai_at ai_m137 60 = some (.istore_n 2, 1) := rfl
theorem at_137_61 : ai_at ai_m137 61 = some (.iload_n 1, 1) := rfl
theorem at_137_62 : ai_at ai_m137 62 = some (.ifCond .ne 10, 3) := rfl
theorem at_137_65 : ai_at ai_m137 65 = some (.aload_n 0, 1) := rfl
theorem at_137_66 : ai_at ai_m137 66 = some (.invokevirtual 161, 3) := rfl
theorem at_137_69 : ai_at ai_m137 69 = some (.ifCond .eq 7, 3) := rfl
theorem at_137_72 : ai_at ai_m137 72 = some (.iconst 1, 1) := rfl
theorem at_137_73 : ai_at ai_m137 73 = some (.goto 4, 3) := rfl
theorem at_137_76 : ai_at ai_m137 76 = some (.iconst 0, 1) := rfl
theorem at_137_77 : ai_at ai_m137 77 = some (.istore_n 1, 1) := rfl
theorem at_137_78 : ai_at ai_m137 78 = some (.aload_n 0, 1) := rfl
theorem at_137_79 : ai_at ai_m137 79 = some (.invokevirtual 165, 3) := rfl
theorem at_137_82 : ai_at ai_m137 82 = some (.aload_n 0, 1) := rfl
theorem at_137_83 : ai_at ai_m137 83 = some (.invokevirtual 157, 3) := rfl
theorem at_137_86 : ai_at ai_m137 86 = some (.istore_n 2, 1) := rfl
theorem at_137_87 : ai_at ai_m137 87 = some (.iload_n 1, 1) := rfl
theorem at_137_88 : ai_at ai_m137 88 = some (.ifCond .eq 4, 3) := rfl
theorem at_137_91 : ai_at ai_m137 91 = some (.return_, 1) := rfl
theorem at_137_92 : ai_at ai_m137 92 = some (.aload_n 0, 1) := rfl
theorem at_137_93 : ai_at ai_m137 93 = some (.getfield 106, 3) := rfl
theorem at_137_96 : ai_at ai_m137 96 = some (.bipush 48, 2) := rfl
theorem at_137_98 : ai_at ai_m137 98 = some (.if_icmp .ne 9, 3) := rfl
theorem at_137_101 : ai_at ai_m137 101 = some (.aload_n 0, 1) := rfl
theorem at_137_102 : ai_at ai_m137 102 = some (.iconst 3, 1) := rfl
theorem at_137_103 : ai_at ai_m137 103 = some (.putfield 150, 3) := rfl
theorem at_137_106 : ai_at ai_m137 106 = some (.return_, 1) := rfl
theorem at_137_107 : ai_at ai_m137 107 = some (.aload_n 0, 1) := rfl
theorem at_137_108 : ai_at ai_m137 108 = some (.aload_n 0, 1) := rfl
theorem at_137_109 : ai_at ai_m137 109 = some (.getfield 106, 3) := rfl
theorem at_137_112 : ai_at ai_m137 112 = some (.invokevirtual 168, 3) := rfl
theorem at_137_115 : ai_at ai_m137 115 = some (.aload_n 0, 1) := rfl
theorem at_137_116 : ai_at ai_m137 116 = some (.dup, 1) := rfl
theorem at_137_117 : ai_at ai_m137 117 = some (.getfield 106, 3) := rfl
theorem at_137_120 : ai_at ai_m137 120 = some (.iconst 1, 1) := rfl
theorem at_137_121 : ai_at ai_m137 121 = some (.iadd, 1) := rfl
theorem at_137_122 : ai_at ai_m137 122 = some (.putfield 106, 3) := rfl
theorem at_137_125 : ai_at ai_m137 125 = some (.return_, 1) := rfl
theorem at_138_0 : ai_at ai_m138 0 = some (.iconst 0, 1) := rfl
theorem at_138_1 : ai_at ai_m138 1 = some (.istore_n 1, 1) := rfl
theorem at_138_2 : ai_at ai_m138 2 = some (.iconst 0, 1) := rfl
theorem at_138_3 : ai_at ai_m138 3 = some (.istore_n 2, 1) := rfl
theorem at_138_4 : ai_at ai_m138 4 = some (.iload_n 2, 1) := rfl
theorem at_138_5 : ai_at ai_m138 5 = some (.aload_n 0, 1) := rfl
theorem at_138_6 : ai_at ai_m138 6 = some (.getfield 106, 3) := rfl
theorem at_138_9 : ai_at ai_m138 9 = some (.if_icmp .ge 27, 3) := rfl
theorem at_138_12 : ai_at ai_m138 12 = some (.iload_n 1, 1) := rfl
theorem at_138_13 : ai_at ai_m138 13 = some (.ifCond .ne 11, 3) := rfl
theorem at_138_16 : ai_at ai_m138 16 = some (.aload_n 0, 1) := rfl
theorem at_138_17 : ai_at ai_m138 17 = some (.iload_n 2, 1) := rfl
theorem at_138_18 : ai_at ai_m138 18 = some (.invokevirtual 109, 3) := rfl
theorem at_138_21 : ai_at ai_m138 21 = some (.ifCond .eq 7, 3) := rfl
theorem at_138_24 : ai_at ai_m138 24 = some (.iconst 1, 1) := rfl
theorem at_138_25 : ai_at ai_m138 25 = some (.goto 4, 3) := rfl
theorem at_138_28 : ai_at ai_m138 28 = some (.iconst 0, 1) := rfl
theorem at_138_29 : ai_at ai_m138 29 = some (.istore_n 1, 1) := rfl
theorem at_138_30 : ai_at ai_m138 30 = some (.iinc 2 1, 3) := rfl
theorem at_138_33 : ai_at ai_m138 33 = some (.goto (-29), 3) := rfl
theorem at_138_36 : ai_at ai_m138 36 = some (.iload_n 1, 1) := rfl
theorem at_138_37 : ai_at ai_m138 37 = some (.ireturn, 1) := rfl
theorem at_139_0 : ai_at ai_m139 0 = some (.aload_n 0, 1) := rfl
theorem at_139_1 : ai_at ai_m139 1 = some (.getfield 31, 3) := rfl
theorem at_139_4 : ai_at ai_m139 4 = some (.iload_n 1, 1) := rfl
theorem at_139_5 : ai_at ai_m139 5 = some (.iaload, 1) := rfl
theorem at_139_6 : ai_at ai_m139 6 = some (.aload_n 0, 1) := rfl
theorem at_139_7 : ai_at ai_m139 7 = some (.getfield 40, 3) := rfl
theorem at_139_10 : ai_at ai_m139 10 = some (.iconst 0, 1) := rfl
theorem at_139_11 : ai_at ai_m139 11 = some (.iaload, 1) := rfl
theorem at_139_12 : ai_at ai_m139 12 = some (.if_icmp .ne 22, 3) := rfl
theorem at_139_15 : ai_at ai_m139 15 = some (.aload_n 0, 1) := rfl
theorem at_139_16 : ai_at ai_m139 16 = some (.getfield 34, 3) := rfl
theorem at_139_19 : ai_at ai_m139 19 = some (.iload_n 1, 1) := rfl
theorem at_139_20 : ai_at ai_m139 20 = some (.iaload, 1) := rfl
theorem at_139_21 : ai_at ai_m139 21 = some (.aload_n 0, 1) := rfl
theorem at_139_22 : ai_at ai_m139 22 = some (.getfield 40, 3) := rfl
theorem at_139_25 : ai_at ai_m139 25 = some (.iconst 1, 1) := rfl
theorem at_139_26 : ai_at ai_m139 26 = some (.iaload, 1) := rfl
theorem at_139_27 : ai_at ai_m139 27 = some (.if_icmp .ne 7, 3) := rfl
theorem at_139_30 : ai_at ai_m139 30 = some (.iconst 1, 1) := rfl
theorem at_139_31 : ai_at ai_m139 31 = some (.goto 4, 3) := rfl
theorem at_139_34 : ai_at ai_m139 34 = some (.iconst 0, 1) := rfl
theorem at_139_35 : ai_at ai_m139 35 = some (.istore_n 2, 1) := rfl
theorem at_139_36 : ai_at ai_m139 36 = some (.iconst 0, 1) := rfl
theorem at_139_37 : ai_at ai_m139 37 = some (.istore_n 3, 1) := rfl
theorem at_139_38 : ai_at ai_m139 38 = some (.iload_n 3, 1) := rfl
theorem at_139_39 : ai_at ai_m139 39 = some (.aload_n 0, 1) := rfl
theorem at_139_40 : ai_at ai_m139 40 = some (.getfield 40, 3) := rfl
theorem at_139_43 : ai_at ai_m139 43 = some (.iconst 0, 1) := rfl
theorem at_139_44 : ai_at ai_m139 44 = some (.iaload, 1) := rfl
theorem at_139_45 : ai_at ai_m139 45 = some (.if_icmp .ge 39, 3) := rfl
theorem at_139_48 : ai_at ai_m139 48 = some (.iload_n 2, 1) := rfl
theorem at_139_49 : ai_at ai_m139 49 = some (.ifCond .eq 35, 3) := rfl
theorem at_139_52 : ai_at ai_m139 52 = some (.aload_n 0, 1) := rfl
theorem at_139_53 : ai_at ai_m139 53 = some (.getfield 28, 3) := rfl
theorem at_139_56 : ai_at ai_m139 56 = some (.bipush 48, 2) := rfl
theorem at_139_58 : ai_at ai_m139 58 = some (.iload_n 1, 1) := rfl
theorem at_139_59 : ai_at ai_m139 59 = some (.imul, 1) := rfl
theorem at_139_60 : ai_at ai_m139 60 = some (.iload_n 3, 1) := rfl
theorem at_139_61 : ai_at ai_m139 61 = some (.iadd, 1) := rfl
theorem at_139_62 : ai_at ai_m139 62 = some (.iaload, 1) := rfl
theorem at_139_63 : ai_at ai_m139 63 = some (.aload_n 0, 1) := rfl
theorem at_139_64 : ai_at ai_m139 64 = some (.getfield 37, 3) := rfl
theorem at_139_67 : ai_at ai_m139 67 = some (.iload_n 3, 1) := rfl
theorem at_139_68 : ai_at ai_m139 68 = some (.iaload, 1) := rfl
theorem at_139_69 : ai_at ai_m139 69 = some (.if_icmp .ne 7, 3) := rfl
theorem at_139_72 : ai_at ai_m139 72 = some (.iconst 1, 1) := rfl
theorem at_139_73 : ai_at ai_m139 73 = some (.goto 4, 3) := rfl
theorem at_139_76 : ai_at ai_m139 76 = some (.iconst 0, 1) := rfl
theorem at_139_77 : ai_at ai_m139 77 = some (.istore_n 2, 1) := rfl
theorem at_139_78 : ai_at ai_m139 78 = some (.iinc 3 1, 3) := rfl
theorem at_139_81 : ai_at ai_m139 81 = some (.goto (-43), 3) := rfl
theorem at_139_84 : ai_at ai_m139 84 = some (.iconst 0, 1) := rfl
theorem at_139_85 : ai_at ai_m139 85 = some (.istore_n 3, 1) := rfl
theorem at_139_86 : ai_at ai_m139 86 = some (.iload_n 3, 1) := rfl
theorem at_139_87 : ai_at ai_m139 87 = some (.aload_n 0, 1) := rfl
theorem at_139_88 : ai_at ai_m139 88 = some (.getfield 40, 3) := rfl
theorem at_139_91 : ai_at ai_m139 91 = some (.iconst 1, 1) := rfl
theorem at_139_92 : ai_at ai_m139 92 = some (.iaload, 1) := rfl
theorem at_139_93 : ai_at ai_m139 93 = some (.if_icmp .ge 45, 3) := rfl
theorem at_139_96 : ai_at ai_m139 96 = some (.iload_n 2, 1) := rfl
theorem at_139_97 : ai_at ai_m139 97 = some (.ifCond .eq 41, 3) := rfl
theorem at_139_100 : ai_at ai_m139 100 = some (.aload_n 0, 1) := rfl
theorem at_139_101 : ai_at ai_m139 101 = some (.getfield 28, 3) := rfl
theorem at_139_104 : ai_at ai_m139 104 = some (.bipush 48, 2) := rfl
theorem at_139_106 : ai_at ai_m139 106 = some (.iload_n 1, 1) := rfl
theorem at_139_107 : ai_at ai_m139 107 = some (.imul, 1) := rfl
theorem at_139_108 : ai_at ai_m139 108 = some (.bipush 24, 2) := rfl
theorem at_139_110 : ai_at ai_m139 110 = some (.iadd, 1) := rfl
theorem at_139_111 : ai_at ai_m139 111 = some (.iload_n 3, 1) := rfl
theorem at_139_112 : ai_at ai_m139 112 = some (.iadd, 1) := rfl
theorem at_139_113 : ai_at ai_m139 113 = some (.iaload, 1) := rfl
theorem at_139_114 : ai_at ai_m139 114 = some (.aload_n 0, 1) := rfl
theorem at_139_115 : ai_at ai_m139 115 = some (.getfield 37, 3) := rfl
theorem at_139_118 : ai_at ai_m139 118 = some (.bipush 64, 2) := rfl
theorem at_139_120 : ai_at ai_m139 120 = some (.iload_n 3, 1) := rfl
theorem at_139_121 : ai_at ai_m139 121 = some (.iadd, 1) := rfl
theorem at_139_122 : ai_at ai_m139 122 = some (.iaload, 1) := rfl
theorem at_139_123 : ai_at ai_m139 123 = some (.if_icmp .ne 7, 3) := rfl
theorem at_139_126 : ai_at ai_m139 126 = some (.iconst 1, 1) := rfl
theorem at_139_127 : ai_at ai_m139 127 = some (.goto 4, 3) := rfl
theorem at_139_130 : ai_at ai_m139 130 = some (.iconst 0, 1) := rfl
theorem at_139_131 : ai_at ai_m139 131 = some (.istore_n 2, 1) := rfl
theorem at_139_132 : ai_at ai_m139 132 = some (.iinc 3 1, 3) := rfl
theorem at_139_135 : ai_at ai_m139 135 = some (.goto (-49), 3) := rfl
theorem at_139_138 : ai_at ai_m139 138 = some (.iload_n 2, 1) := rfl
theorem at_139_139 : ai_at ai_m139 139 = some (.ireturn, 1) := rfl
theorem mt_12_109 : ai_mth 12 109 = some (0, 139, 1, 11) := by decide +kernel
theorem mt_12_147 : ai_mth 12 147 = some (0, 117, 1, 11) := by decide +kernel
theorem mt_12_153 : ai_mth 12 153 = some (0, 124, 2, 11) := by decide +kernel
theorem mt_12_157 : ai_mth 12 157 = some (0, 110, 0, 11) := by decide +kernel
theorem mt_12_161 : ai_mth 12 161 = some (0, 138, 0, 11) := by decide +kernel
theorem mt_12_165 : ai_mth 12 165 = some (0, 130, 0, 11) := by decide +kernel
theorem mt_12_168 : ai_mth 12 168 = some (0, 111, 1, 11) := by decide +kernel
set_option maxHeartbeats 8000000 in
theorem r_m_isP2 {k : Nat} {q : List Int × List Int} {l r : List Int} (h : mst S T D n rc wt kp sx sc F B) (hq : qsl (F 6) (F 7) (F 8) k q) (hk : k < 62) (kq : al (kn (F 0) 129) q.1 ∧ al (kn (F 0) 129) q.2) (h0 : mwd (F 9) (F 10) 0 l) (h1 : mwd (F 9) (F 10) 1 r) (hl : l.length ≤ 24) (hr : r.length ≤ 24) (kl : al (kn (F 0) 129) l) (kr : al (kn (F 0) 129) r) (hx : xr (F 9)) (hx6 : xr (F 6)) : ∀ (m j : Nat) (s : Int), j + m = r.length → bz s (((q.1.length = l.length ∧ q.2.length = r.length) ∧ ∀ i, i < l.length → F 6 (48 * k + i) = F 9 (0 + i)) ∧ ∀ i, i < j → F 6 (48 * k + 24 + i) = F 9 (64 + i)) → ai_aw L xs d ai_m139 (fun (o : ai_O) => ∃ v S', o = (.inl v, S') ∧ S' = S ∧ ∃ z, v = some (ax_i z) ∧ bz z (q = (l, r))) (86, [some (.ref 432), some (ax_i (k : Nat)), some (ax_i s), some (ax_i (j : Nat))], [], S) := by
  have ho := h.1
  have r6 : ai_arr S 439 0 = some (2976, ax_f (F 6)) := h.2.1 6 (by decide)
  have r9 : ai_arr S 442 0 = some (192, ax_f (F 9)) := h.2.1 9 (by decide)
  have r10 : ai_arr S 443 0 = some (3, ax_f (F 10)) := h.2.1 10 (by decide)
  have zt := mwd_len h1 (by omega)
  have q24 := hq.2.1
  have c1 := cw_same (P := F 0) hq.2.2.1 (show cw (F 9) 0 l from fun i hi => by have := h0.2 i hi (by omega); rw [show 64 * 0 + i = 0 + i by omega] at this; exact this) kq.1 kl
  have c2 := cw_same (P := F 0) hq.2.2.2 (show cw (F 9) 64 r from fun i hi => h1.2 i hi (by omega)) kq.2 kr
  have kend : ∀ (s : Int) (j : Nat), bz s (q = (l, r)) → ai_aw L xs d ai_m139 (fun (o : ai_O) => ∃ v S', o = (.inl v, S') ∧ S' = S ∧ ∃ z, v = some (ax_i z) ∧ bz z (q = (l, r))) (138, [some (.ref 432), some (ax_i (k : Nat)), some (ax_i s), some (ax_i (j : Nat))], [], S) := by
    intro s j hs
    refine aw_loc at_139_138 rfl rfl ?_
    exact ax_retZ at_139_139 rfl hs.le ⟨_, _, rfl, rfl, s, rfl, hs⟩
  intro m
  induction m with
  | zero =>
    intro j s hj hs
    obtain rfl : j = r.length := by omega
    refine aw_loc at_139_86 rfl rfl ?_
    refine aw_loc at_139_87 rfl rfl ?_
    refine aw_get at_139_88 rfl fl_12_40 ho rfl ?_
    refine aw_pure (st' := ax_i (1) :: _) at_139_91 rfl rfl ?_
    refine ax_ild at_139_92 rfl r10 (k := 1) rfl (by decide) (by decide) ?_
    rw [zt]
    have hfin : (((q.1.length = l.length ∧ q.2.length = r.length) ∧ ∀ i, i < l.length → F 6 (48 * k + i) = F 9 (0 + i)) ∧ ∀ i, i < r.length → F 6 (48 * k + 24 + i) = F 9 (64 + i)) ↔ q = (l, r) := ⟨fun g => Prod.ext (c1.2 ⟨g.1.1.1, g.1.2⟩) (c2.2 ⟨g.1.1.2, g.2⟩), fun g => by have e1 : q.1 = l := congrArg Prod.fst g; have e2 : q.2 = r := congrArg Prod.snd g; exact ⟨⟨⟨congrArg List.length e1, congrArg List.length e2⟩, (c1.1 e1).2⟩, (c2.1 e2).2⟩⟩
    refine ax_icmp_ge at_139_93 ⟨by omega, by omega⟩ ⟨by omega, by omega⟩ (fun _ => kend s _ (hs.imp (fun g => ⟨g.1, fun g2 => g.2 (hfin.2 g2)⟩) (fun g => ⟨g.1, hfin.1 g.2⟩))) (fun z => absurd z (by omega))
  | succ m ih =>
    intro j s hj hs
    have hs9 := hs.le
    have x1 := hx6 (48 * k + 24 + j)
    have x2 := hx (64 + j)
    refine aw_loc at_139_86 rfl rfl ?_
    refine aw_loc at_139_87 rfl rfl ?_
    refine aw_get at_139_88 rfl fl_12_40 ho rfl ?_
    refine aw_pure (st' := ax_i (1) :: _) at_139_91 rfl rfl ?_
    refine ax_ild at_139_92 rfl r10 (k := 1) rfl (by decide) (by decide) ?_
    rw [zt]
    refine ax_icmp_ge at_139_93 ⟨by omega, by omega⟩ ⟨by omega, by omega⟩ (fun z => absurd z (by omega)) (fun _ => ?_)
    refine aw_loc at_139_96 rfl rfl ?_
    refine ax_if_eq at_139_97 ⟨by omega, by omega⟩ (fun z => kend s _ (Or.inl ⟨z, fun g => (hs.resolve_right (fun g => by have := g.1; omega)).2 (by have e1 : q.1 = l := congrArg Prod.fst g; have e2 : q.2 = r := congrArg Prod.snd g; exact ⟨⟨⟨congrArg List.length e1, congrArg List.length e2⟩, (c1.1 e1).2⟩, fun i hi => (c2.1 e2).2 i (by omega)⟩)⟩)) (fun z => ?_)
    have hp := (hs.resolve_left (fun g => z g.1)).2
    have knx : ∀ s' : Int, bz s' (((q.1.length = l.length ∧ q.2.length = r.length) ∧ ∀ i, i < l.length → F 6 (48 * k + i) = F 9 (0 + i)) ∧ ∀ i, i < (j + 1) → F 6 (48 * k + 24 + i) = F 9 (64 + i)) → ai_aw L xs d ai_m139 (fun (o : ai_O) => ∃ v S', o = (.inl v, S') ∧ S' = S ∧ ∃ z, v = some (ax_i z) ∧ bz z (q = (l, r))) (131, [some (.ref 432), some (ax_i (k : Nat)), some (ax_i s), some (ax_i (j : Nat))], [ax_i s'], S) := by
      intro s' hs'
      refine aw_loc at_139_131 rfl rfl ?_
      refine ax_inc at_139_132 rfl rfl rfl ?_
      refine aw_goto at_139_135 ?_
      have := ih (j + 1) s' (by omega) hs'
      rw [Int.natCast_add] at this
      exact this
    refine aw_loc at_139_100 rfl rfl ?_
    refine aw_get at_139_101 rfl fl_12_28 ho rfl ?_
    refine aw_pure (st' := ax_i (48) :: _) at_139_104 rfl rfl ?_
    refine aw_loc at_139_106 rfl rfl ?_
    refine ax_mul at_139_107 rfl ?_
    refine aw_pure (st' := ax_i (24) :: _) at_139_108 rfl rfl ?_
    refine ax_add at_139_110 rfl ?_
    refine aw_loc at_139_111 rfl rfl ?_
    refine ax_add at_139_112 rfl ?_
    refine ax_ild at_139_113 rfl r6 (k := 48 * k + 24 + j) (by omega) (by omega) (by decide) ?_
    refine aw_loc at_139_114 rfl rfl ?_
    refine aw_get at_139_115 rfl fl_12_37 ho rfl ?_
    refine aw_pure (st' := ax_i (64) :: _) at_139_118 rfl rfl ?_
    refine aw_loc at_139_120 rfl rfl ?_
    refine ax_add at_139_121 rfl ?_
    refine ax_ild at_139_122 rfl r9 (k := 64 + j) (by omega) (by omega) (by decide) ?_
    refine ax_icmp_ne at_139_123 ⟨by omega, by omega⟩ ⟨by omega, by omega⟩ (fun y => ?_) (fun y => ?_)
    · skip
      refine aw_pure (st' := ax_i (0) :: _) at_139_130 rfl rfl ?_
      exact knx 0 (Or.inl ⟨rfl, fun g => y (g.2 j (by omega))⟩)
    · skip
      refine aw_pure (st' := ax_i (1) :: _) at_139_126 rfl rfl ?_
      refine aw_goto at_139_127 ?_
      exact knx 1 (Or.inr ⟨rfl, hp.1, fun i hi => by by_cases e : i = j; rw [e]; exact y; exact hp.2 i (by omega)⟩)
set_option maxHeartbeats 8000000 in
theorem r_m_isP1 {k : Nat} {q : List Int × List Int} {l r : List Int} (h : mst S T D n rc wt kp sx sc F B) (hq : qsl (F 6) (F 7) (F 8) k q) (hk : k < 62) (kq : al (kn (F 0) 129) q.1 ∧ al (kn (F 0) 129) q.2) (h0 : mwd (F 9) (F 10) 0 l) (h1 : mwd (F 9) (F 10) 1 r) (hl : l.length ≤ 24) (hr : r.length ≤ 24) (kl : al (kn (F 0) 129) l) (kr : al (kn (F 0) 129) r) (hx : xr (F 9)) (hx6 : xr (F 6)) : ∀ (m j : Nat) (s : Int), j + m = l.length → bz s ((q.1.length = l.length ∧ q.2.length = r.length) ∧ ∀ i, i < j → F 6 (48 * k + i) = F 9 (0 + i)) → ai_aw L xs d ai_m139 (fun (o : ai_O) => ∃ v S', o = (.inl v, S') ∧ S' = S ∧ ∃ z, v = some (ax_i z) ∧ bz z (q = (l, r))) (38, [some (.ref 432), some (ax_i (k : Nat)), some (ax_i s), some (ax_i (j : Nat))], [], S) := by
  have ho := h.1
  have r6 : ai_arr S 439 0 = some (2976, ax_f (F 6)) := h.2.1 6 (by decide)
  have r9 : ai_arr S 442 0 = some (192, ax_f (F 9)) := h.2.1 9 (by decide)
  have r10 : ai_arr S 443 0 = some (3, ax_f (F 10)) := h.2.1 10 (by decide)
  have zt := mwd_len h0 (by omega)
  have q24 := hq.2.1
  have kend : ∀ (s : Int) (j : Nat), bz s ((q.1.length = l.length ∧ q.2.length = r.length) ∧ ∀ i, i < l.length → F 6 (48 * k + i) = F 9 (0 + i)) → ai_aw L xs d ai_m139 (fun (o : ai_O) => ∃ v S', o = (.inl v, S') ∧ S' = S ∧ ∃ z, v = some (ax_i z) ∧ bz z (q = (l, r))) (84, [some (.ref 432), some (ax_i (k : Nat)), some (ax_i s), some (ax_i (j : Nat))], [], S) := by
    intro s j hs
    refine aw_pure (st' := ax_i (0) :: _) at_139_84 rfl rfl ?_
    refine aw_loc at_139_85 rfl rfl ?_
    exact r_m_isP2 h hq hk kq h0 h1 hl hr kl kr hx hx6 r.length 0 s (by omega) (hs.imp (fun g => ⟨g.1, fun g2 => g.2 g2.1⟩) (fun g => ⟨g.1, g.2, fun i hi => by omega⟩))
  intro m
  induction m with
  | zero =>
    intro j s hj hs
    obtain rfl : j = l.length := by omega
    refine aw_loc at_139_38 rfl rfl ?_
    refine aw_loc at_139_39 rfl rfl ?_
    refine aw_get at_139_40 rfl fl_12_40 ho rfl ?_
    refine aw_pure (st' := ax_i (0) :: _) at_139_43 rfl rfl ?_
    refine ax_ild at_139_44 rfl r10 (k := 0) rfl (by decide) (by decide) ?_
    rw [zt]
    refine ax_icmp_ge at_139_45 ⟨by omega, by omega⟩ ⟨by omega, by omega⟩ (fun _ => kend s _ hs) (fun z => absurd z (by omega))
  | succ m ih =>
    intro j s hj hs
    have hs9 := hs.le
    have x1 := hx6 (48 * k + j)
    have x2 := hx (0 + j)
    refine aw_loc at_139_38 rfl rfl ?_
    refine aw_loc at_139_39 rfl rfl ?_
    refine aw_get at_139_40 rfl fl_12_40 ho rfl ?_
    refine aw_pure (st' := ax_i (0) :: _) at_139_43 rfl rfl ?_
    refine ax_ild at_139_44 rfl r10 (k := 0) rfl (by decide) (by decide) ?_
    rw [zt]
    refine ax_icmp_ge at_139_45 ⟨by omega, by omega⟩ ⟨by omega, by omega⟩ (fun z => absurd z (by omega)) (fun _ => ?_)
    refine aw_loc at_139_48 rfl rfl ?_
    refine ax_if_eq at_139_49 ⟨by omega, by omega⟩ (fun z => kend s _ (Or.inl ⟨z, fun g => (hs.resolve_right (fun g => by have := g.1; omega)).2 ⟨g.1, fun i hi => g.2 i (by omega)⟩⟩)) (fun z => ?_)
    have hp := (hs.resolve_left (fun g => z g.1)).2
    have knx : ∀ s' : Int, bz s' ((q.1.length = l.length ∧ q.2.length = r.length) ∧ ∀ i, i < (j + 1) → F 6 (48 * k + i) = F 9 (0 + i)) → ai_aw L xs d ai_m139 (fun (o : ai_O) => ∃ v S', o = (.inl v, S') ∧ S' = S ∧ ∃ z, v = some (ax_i z) ∧ bz z (q = (l, r))) (77, [some (.ref 432), some (ax_i (k : Nat)), some (ax_i s), some (ax_i (j : Nat))], [ax_i s'], S) := by
      intro s' hs'
      refine aw_loc at_139_77 rfl rfl ?_
      refine ax_inc at_139_78 rfl rfl rfl ?_
      refine aw_goto at_139_81 ?_
      have := ih (j + 1) s' (by omega) hs'
      rw [Int.natCast_add] at this
      exact this
    refine aw_loc at_139_52 rfl rfl ?_
    refine aw_get at_139_53 rfl fl_12_28 ho rfl ?_
    refine aw_pure (st' := ax_i (48) :: _) at_139_56 rfl rfl ?_
    refine aw_loc at_139_58 rfl rfl ?_
    refine ax_mul at_139_59 rfl ?_
    refine aw_loc at_139_60 rfl rfl ?_
    refine ax_add at_139_61 rfl ?_
    refine ax_ild at_139_62 rfl r6 (k := 48 * k + j) (by omega) (by omega) (by decide) ?_
    refine aw_loc at_139_63 rfl rfl ?_
    refine aw_get at_139_64 rfl fl_12_37 ho rfl ?_
    refine aw_loc at_139_67 rfl rfl ?_
    refine ax_ild at_139_68 rfl r9 (k := 0 + j) (by omega) (by omega) (by decide) ?_
    refine ax_icmp_ne at_139_69 ⟨by omega, by omega⟩ ⟨by omega, by omega⟩ (fun y => ?_) (fun y => ?_)
    · skip
      refine aw_pure (st' := ax_i (0) :: _) at_139_76 rfl rfl ?_
      exact knx 0 (Or.inl ⟨rfl, fun g => y (g.2 j (by omega))⟩)
    · skip
      refine aw_pure (st' := ax_i (1) :: _) at_139_72 rfl rfl ?_
      refine aw_goto at_139_73 ?_
      exact knx 1 (Or.inr ⟨rfl, hp.1, fun i hi => by by_cases e : i = j; rw [e]; exact y; exact hp.2 i (by omega)⟩)
set_option maxHeartbeats 8000000 in
theorem r_m_isP {k : Nat} {q : List Int × List Int} {l r : List Int} (h : mst S T D n rc wt kp sx sc F B) (hq : qsl (F 6) (F 7) (F 8) k q) (hk : k < 62) (kq : al (kn (F 0) 129) q.1 ∧ al (kn (F 0) 129) q.2) (h0 : mwd (F 9) (F 10) 0 l) (h1 : mwd (F 9) (F 10) 1 r) (hl : l.length ≤ 24) (hr : r.length ≤ 24) (kl : al (kn (F 0) 129) l) (kr : al (kn (F 0) 129) r) (hx : xr (F 9)) (hx6 : xr (F 6)) : ai_rn L xs (d + 1) 139 [.ref 432, ax_i (k : Nat)] S (fun v S' => S' = S ∧ ∃ z, v = some (ax_i z) ∧ bz z (q = (l, r))) := by
  have ho := h.1
  have r7 : ai_arr S 440 0 = some (62, ax_f (F 7)) := h.2.1 7 (by decide)
  have r8 : ai_arr S 441 0 = some (62, ax_f (F 8)) := h.2.1 8 (by decide)
  have r10 : ai_arr S 443 0 = some (3, ax_f (F 10)) := h.2.1 10 (by decide)
  have z0 := mwd_len h0 (by omega)
  have z1 := mwd_len h1 (by omega)
  have q24 := hq.2.1
  have kin : ∀ s : Int, bz s (q.1.length = l.length ∧ q.2.length = r.length) → ai_aw L xs d ai_m139 (fun (o : ai_O) => ∃ v S', o = (.inl v, S') ∧ S' = S ∧ ∃ z, v = some (ax_i z) ∧ bz z (q = (l, r))) (35, [some (.ref 432), some (ax_i (k : Nat)), none, none], [ax_i s], S) := by
    intro s hs
    refine aw_loc at_139_35 rfl rfl ?_
    refine aw_pure (st' := ax_i (0) :: _) at_139_36 rfl rfl ?_
    refine aw_loc at_139_37 rfl rfl ?_
    exact r_m_isP1 h hq hk kq h0 h1 hl hr kl kr hx hx6 l.length 0 s (by omega) (hs.imp (fun g => ⟨g.1, fun g2 => g.2 g2.1⟩) (fun g => ⟨g.1, g.2, fun i hi => by omega⟩))
  refine ai_rn_of (M := ai_m139) rfl (by decide) (Nat.le_of_ble_eq_true rfl) ?_
  refine aw_loc at_139_0 rfl rfl ?_
  refine aw_get at_139_1 rfl fl_12_31 ho rfl ?_
  refine aw_loc at_139_4 rfl rfl ?_
  refine ax_ild at_139_5 rfl r7 (k := k) rfl hk (by decide) ?_
  refine aw_loc at_139_6 rfl rfl ?_
  refine aw_get at_139_7 rfl fl_12_40 ho rfl ?_
  refine aw_pure (st' := ax_i (0) :: _) at_139_10 rfl rfl ?_
  refine ax_ild at_139_11 rfl r10 (k := 0) rfl (by decide) (by decide) ?_
  rw [hq.1.1, z0]
  refine ax_icmp_ne at_139_12 ⟨by omega, by omega⟩ ⟨by omega, by omega⟩ (fun y => ?_) (fun y => ?_)
  · skip
    refine aw_pure (st' := ax_i (0) :: _) at_139_34 rfl rfl ?_
    exact kin 0 (Or.inl ⟨rfl, fun g => y (by rw [g.1])⟩)
  · skip
    refine aw_loc at_139_15 rfl rfl ?_
    refine aw_get at_139_16 rfl fl_12_34 ho rfl ?_
    refine aw_loc at_139_19 rfl rfl ?_
    refine ax_ild at_139_20 rfl r8 (k := k) rfl hk (by decide) ?_
    refine aw_loc at_139_21 rfl rfl ?_
    refine aw_get at_139_22 rfl fl_12_40 ho rfl ?_
    refine aw_pure (st' := ax_i (1) :: _) at_139_25 rfl rfl ?_
    refine ax_ild at_139_26 rfl r10 (k := 1) rfl (by decide) (by decide) ?_
    rw [hq.1.2, z1]
    refine ax_icmp_ne at_139_27 ⟨by omega, by omega⟩ ⟨by omega, by omega⟩ (fun u => ?_) (fun u => ?_)
    · skip
      refine aw_pure (st' := ax_i (0) :: _) at_139_34 rfl rfl ?_
      exact kin 0 (Or.inl ⟨rfl, fun g => u (by rw [g.2])⟩)
    · skip
      refine aw_pure (st' := ax_i (1) :: _) at_139_30 rfl rfl ?_
      refine aw_goto at_139_31 ?_
      exact kin 1 (Or.inr ⟨rfl, by omega, by omega⟩)
set_option maxHeartbeats 8000000 in
theorem r_m_isW1 {l r : List Int} (h : mst S T D n rc wt kp sx sc F B) (hv : mpl F Vs) (hwt : wt = (Vs.length : Int)) (h48 : Vs.length ≤ 48) (hV : ∀ q, q ∈ Vs → okv A (F 0) q) (h0 : mwd (F 9) (F 10) 0 l) (h1 : mwd (F 9) (F 10) 1 r) (hl : l.length ≤ 24) (hr : r.length ≤ 24) (kl : al (kn (F 0) 129) l) (kr : al (kn (F 0) 129) r) (hx : xr (F 9)) (hx6 : xr (F 6)) : ∀ (m j : Nat) (s : Int), j + m = Vs.length → bz s (∃ i, i < j ∧ Vs.getD i ([], []) = (l, r)) → ai_aw L xs (d + 1) ai_m138 (fun (o : ai_O) => ∃ v S', o = (.inl v, S') ∧ S' = S ∧ ∃ z, v = some (ax_i z) ∧ bz z ((l, r) ∈ Vs)) (4, [some (.ref 432), some (ax_i s), some (ax_i (j : Nat))], [], S) := by
  have ho := h.1
  intro m
  induction m with
  | zero =>
    intro j s hj hs
    obtain rfl : j = Vs.length := by omega
    have hs9 := hs.le
    refine aw_loc at_138_4 rfl rfl ?_
    refine aw_loc at_138_5 rfl rfl ?_
    refine aw_get at_138_6 rfl fl_12_106 ho rfl ?_
    refine ax_icmp_ge at_138_9 ⟨by omega, by omega⟩ ⟨by omega, by omega⟩ (fun _ => ?_) (fun z => absurd z (by omega))
    show ai_aw L xs (d + 1) ai_m138 _ (36, _, _, _)
    refine aw_loc at_138_36 rfl rfl ?_
    exact ax_retZ at_138_37 rfl hs9 ⟨_, _, rfl, rfl, s, rfl, hs.imp (fun g => ⟨g.1, fun g2 => g.2 (mem_getD.1 g2)⟩) (fun g => ⟨g.1, mem_getD.2 g.2⟩)⟩
  | succ m ih =>
    intro j s hj hs
    have hs9 := hs.le
    have hok := hV _ (mem_getD.2 ⟨j, show j < Vs.length by omega, rfl⟩)
    have knx : ∀ s' : Int, bz s' (∃ i, i < j + 1 ∧ Vs.getD i ([], []) = (l, r)) → ai_aw L xs (d + 1) ai_m138 (fun (o : ai_O) => ∃ v S', o = (.inl v, S') ∧ S' = S ∧ ∃ z, v = some (ax_i z) ∧ bz z ((l, r) ∈ Vs)) (29, [some (.ref 432), some (ax_i s), some (ax_i (j : Nat))], [ax_i s'], S) := by
      intro s' hs'
      refine aw_loc at_138_29 rfl rfl ?_
      refine ax_inc at_138_30 rfl rfl rfl ?_
      refine aw_goto at_138_33 ?_
      have := ih (j + 1) s' (by omega) hs'
      rw [Int.natCast_add] at this
      exact this
    refine aw_loc at_138_4 rfl rfl ?_
    refine aw_loc at_138_5 rfl rfl ?_
    refine aw_get at_138_6 rfl fl_12_106 ho rfl ?_
    refine ax_icmp_ge at_138_9 ⟨by omega, by omega⟩ ⟨by omega, by omega⟩ (fun z => absurd z (by omega)) (fun _ => ?_)
    refine aw_loc at_138_12 rfl rfl ?_
    refine ax_if_ne at_138_13 ⟨by omega, by omega⟩ (fun y => ?_) (fun y => ?_)
    · skip
      obtain ⟨i, hi, e⟩ := (hs.resolve_left (fun g => y g.1)).2
      refine aw_pure (st' := ax_i (1) :: _) at_138_24 rfl rfl ?_
      refine aw_goto at_138_25 ?_
      exact knx 1 (Or.inr ⟨rfl, i, by omega, e⟩)
    · skip
      have hno := (hs.resolve_right (fun g => by have := g.1; omega)).2
      refine aw_loc at_138_16 rfl rfl ?_
      refine aw_loc at_138_17 rfl rfl ?_
      refine aw_cv (a := 432) [ax_i (j : Nat)] [] at_138_18 mt_12_109 (Or.inl rfl) rfl rfl (Nat.le_of_ble_eq_true rfl) ⟨_, ho⟩ ((r_m_isP h (hv j (by omega)) (by omega) ⟨al_kn (by decide) hok.2.2.1.1, al_kn (by decide) hok.2.2.1.2⟩ h0 h1 hl hr kl kr hx hx6).mono ?_)
      rintro v S0 ⟨hS, z2, rfl, hz2⟩
      have hS2 := hS.symm
      subst hS2
      have hz29 := hz2.le
      refine ax_if_eq at_138_21 ⟨by omega, by omega⟩ (fun u => ?_) (fun u => ?_)
      · skip
        have hn2 := (hz2.resolve_right (fun g => by have := g.1; omega)).2
        refine aw_pure (st' := ax_i (0) :: _) at_138_28 rfl rfl ?_
        exact knx 0 (Or.inl ⟨rfl, fun ⟨i, hi, e⟩ => by by_cases e2 : i = j; rw [e2] at e; exact hn2 e; exact hno ⟨i, by omega, e⟩⟩)
      · skip
        refine aw_pure (st' := ax_i (1) :: _) at_138_24 rfl rfl ?_
        refine aw_goto at_138_25 ?_
        exact knx 1 (Or.inr ⟨rfl, j, by omega, (hz2.resolve_left (fun g => u g.1)).2⟩)
theorem r_m_isW {l r : List Int} (h : mst S T D n rc wt kp sx sc F B) (hv : mpl F Vs) (hwt : wt = (Vs.length : Int)) (h48 : Vs.length ≤ 48) (hV : ∀ q, q ∈ Vs → okv A (F 0) q) (h0 : mwd (F 9) (F 10) 0 l) (h1 : mwd (F 9) (F 10) 1 r) (hl : l.length ≤ 24) (hr : r.length ≤ 24) (kl : al (kn (F 0) 129) l) (kr : al (kn (F 0) 129) r) (hx : xr (F 9)) (hx6 : xr (F 6)) : ai_rn L xs (d + 2) 138 [.ref 432] S (fun v S' => S' = S ∧ ∃ z, v = some (ax_i z) ∧ bz z ((l, r) ∈ Vs)) := by
  refine ai_rn_of (M := ai_m138) rfl (by decide) (Nat.le_of_ble_eq_true rfl) ?_
  refine aw_pure (st' := ax_i (0) :: _) at_138_0 rfl rfl ?_
  refine aw_loc at_138_1 rfl rfl ?_
  refine aw_pure (st' := ax_i (0) :: _) at_138_2 rfl rfl ?_
  refine aw_loc at_138_3 rfl rfl ?_
  exact r_m_isW1 h hv hwt h48 hV h0 h1 hl hr kl kr hx hx6 Vs.length 0 0 (by omega) (Or.inl ⟨rfl, fun ⟨i, hi, _⟩ => by omega⟩)
/-- rows that adding leaves -/
def eqa (F F' : Nat → Nat → Int) : Prop := ∀ i, i ≠ 6 → i ≠ 7 → i ≠ 8 → i ≠ 9 → i ≠ 10 → i ≠ 11 → i ≠ 12 → i ≠ 17 → F' i = F i
theorem eqa.tr {F F' F'' : Nat → Nat → Int} (h1 : eqa F F') (h2 : eqa F' F'') : eqa F F'' := fun i a b c e f g k l => (h2 i a b c e f g k l).trans (h1 i a b c e f g k l)
theorem eqx.a {F F' : Nat → Nat → Int} (h : eqx F F') : eqa F F' := fun i _ _ _ a b c e _ => h i a b c e
theorem eqa_ren {F : Nat → Nat → Int} {X NA : Nat → Int} : eqa F (fup (fup F 9 X) 17 NA) := fun i _ _ _ a _ _ _ b => (fup_ne b).trans (fup_ne a)
theorem eqa_xz {F : Nat → Nat → Int} {X Z : Nat → Int} : eqa F (fup (fup F 9 X) 10 Z) := fun i _ _ _ a b _ _ _ => (fup_ne b).trans (fup_ne a)
/-- the kept pairs, and that the rows' numbers are small -/
def kpt (F F' : Nat → Nat → Int) : Prop := ∀ j q, 48 ≤ j → qsl (F 6) (F 7) (F 8) j q → qsl (F' 6) (F' 7) (F' 8) j q
set_option maxHeartbeats 40000000 in
theorem r_m_add {l r : List Int} (h : mst S T D n rc wt kp sx sc F B) (hpk : mpk A F) (hrc : rc = (Rs.length : Int)) (hRl : Rs.length ≤ 14) (hrl : mrl F Rs) (hR : ∀ q, q ∈ Rs → okr A (F 0) q) (hv : mpl F Vs) (hwt : wt = (Vs.length : Int)) (h48 : Vs.length ≤ 48) (hV : ∀ q, q ∈ Vs → okv A (F 0) q) (hx : xr (F 9)) (hx6 : xr (F 6)) (h0 : mwl (F 9) (F 10) 0 l) (h1r : mwl (F 9) (F 10) 1 r) (hl : ts A 1 l) (hr : ts A 1 r) (kl : al (kn (F 0) 129) l) (kr : al (kn (F 0) 129) r) : ai_rn L xs (d + 6) 137 [.ref 432] S (fun v S' => v = none ∧ fr 432 452 S S' ∧ ∃ F', eqa F F' ∧ xr (F' 9) ∧ xr (F' 6) ∧ kpt F F' ∧ ((ah A Rs Vs l r = none ∧ mst S' T D n rc wt kp 3 sc F' B ∧ mpl F' Vs) ∨ ∃ V, ah A Rs Vs l r = some V ∧ mst S' T D n rc (V.length : Int) kp sx sc F' B ∧ mpl F' V)) := by
  have hA := hpk.2.2
  have ho := h.1
  subst hwt
  refine ai_rn_of (M := ai_m137) rfl (by decide) (Nat.le_of_ble_eq_true rfl) ?_
  refine aw_loc at_137_0 rfl rfl ?_
  refine aw_pure (st' := ax_i (0) :: _) at_137_1 rfl rfl ?_
  refine aw_cv (a := 432) [ax_i ((0 : Nat) : Int)] [] at_137_2 mt_12_147 (Or.inl rfl) rfl rfl (Nat.le_of_ble_eq_true rfl) ⟨_, ho⟩ ((r_m_norm (t := 0) h hpk (by decide) hrc hRl hrl hR hx h0 kl hl).mono ?_)
  rintro v S1 ⟨f1, F1, h1, x1, xr1, o1, z1, rfl, hz1⟩
  have ho := h1.1
  have a0 : F1 0 = F 0 := x1 0 (by decide) (by decide) (by decide) (by decide)
  have a3 : F1 3 = F 3 := x1 3 (by decide) (by decide) (by decide) (by decide)
  have a4 : F1 4 = F 4 := x1 4 (by decide) (by decide) (by decide) (by decide)
  have a5 : F1 5 = F 5 := x1 5 (by decide) (by decide) (by decide) (by decide)
  have a6 : F1 6 = F 6 := x1 6 (by decide) (by decide) (by decide) (by decide)
  have a7 : F1 7 = F 7 := x1 7 (by decide) (by decide) (by decide) (by decide)
  have a8 : F1 8 = F 8 := x1 8 (by decide) (by decide) (by decide) (by decide)
  have v1 : mpl F1 Vs := fun k hk => by rw [a6, a7, a8]; exact hv k hk
  have k1 : kpt F F1 := fun j q _ hq => by rw [a6, a7, a8]; exact hq
  have kbad : ∀ (S9 : ai_S) (F9 : Nat → Nat → Int) (x1 x2 : Option Value) (pc9 : Nat), (pc9 = 16 ∨ pc9 = 41 ∨ pc9 = 101) → fr 432 452 S S9 → mst S9 T D n rc (Vs.length : Int) kp sx sc F9 B → eqa F F9 → xr (F9 9) → xr (F9 6) → kpt F F9 → mpl F9 Vs → ah A Rs Vs l r = none → ai_aw L xs (d + 5) ai_m137 (fun (o : ai_O) => ∃ v S', o = (.inl v, S') ∧ v = none ∧ fr 432 452 S S' ∧ ∃ F', eqa F F' ∧ xr (F' 9) ∧ xr (F' 6) ∧ kpt F F' ∧ ((ah A Rs Vs l r = none ∧ mst S' T D n rc (Vs.length : Int) kp 3 sc F' B ∧ mpl F' Vs) ∨ ∃ V, ah A Rs Vs l r = some V ∧ mst S' T D n rc (V.length : Int) kp sx sc F' B ∧ mpl F' V)) (pc9, [some (.ref 432), x1, x2], [], S9) := by
    intro S9 F9 y1 y2 pc9 hpc9 b1 b2 b3 b4 b5 b6 b7 b8
    have ho := b2.1
    rcases hpc9 with rfl | rfl | rfl
    · skip
      refine aw_loc at_137_16 rfl rfl ?_
      refine aw_pure (st' := ax_i (3) :: _) at_137_17 rfl rfl ?_
      refine aw_put at_137_18 rfl fl_12_150 ho (Nat.le_of_ble_eq_true rfl) rfl (by decide +kernel) ?_
      exact aw_vret at_137_21 rfl ⟨_, _, rfl, rfl, b1.tr (fr_md (by decide) (by decide)), F9, b3, b4, b5, b6, Or.inl ⟨b8, mst_fl b2, b7⟩⟩
    · skip
      refine aw_loc at_137_41 rfl rfl ?_
      refine aw_pure (st' := ax_i (3) :: _) at_137_42 rfl rfl ?_
      refine aw_put at_137_43 rfl fl_12_150 ho (Nat.le_of_ble_eq_true rfl) rfl (by decide +kernel) ?_
      exact aw_vret at_137_46 rfl ⟨_, _, rfl, rfl, b1.tr (fr_md (by decide) (by decide)), F9, b3, b4, b5, b6, Or.inl ⟨b8, mst_fl b2, b7⟩⟩
    · skip
      refine aw_loc at_137_101 rfl rfl ?_
      refine aw_pure (st' := ax_i (3) :: _) at_137_102 rfl rfl ?_
      refine aw_put at_137_103 rfl fl_12_150 ho (Nat.le_of_ble_eq_true rfl) rfl (by decide +kernel) ?_
      exact aw_vret at_137_106 rfl ⟨_, _, rfl, rfl, b1.tr (fr_md (by decide) (by decide)), F9, b3, b4, b5, b6, Or.inl ⟨b8, mst_fl b2, b7⟩⟩
  rcases hz1 with ⟨n1, m1, w1⟩ | ⟨qa, n1, m1, w1⟩
  · skip
    refine ax_if_lt at_137_5 ⟨by omega, by omega⟩ (fun _ => ?_) (fun y => absurd y (by omega))
    exact kbad S1 F1 _ _ 16 (Or.inl rfl) f1 h1 x1.a xr1 (by rw [a6]; exact hx6) k1 v1 (by unfold ah; rw [n1])
  · skip
    have la := nf_le hA (Rs := Rs) 40 l n1
    have ka := nf_kn hA hR hl kl (show nf A Rs 40 l = some (qa.1, qa.2) from n1)
    refine ax_if_lt at_137_5 ⟨by omega, by omega⟩ (fun y => absurd y (by omega)) (fun _ => ?_)
    have hr1 := o1.mwl (s := 1) (by decide) (by decide) h1r
    refine aw_loc at_137_8 rfl rfl ?_
    refine aw_pure (st' := ax_i (1) :: _) at_137_9 rfl rfl ?_
    refine aw_cv (a := 432) [ax_i ((1 : Nat) : Int)] [] at_137_10 mt_12_147 (Or.inl rfl) rfl rfl (Nat.le_of_ble_eq_true rfl) ⟨_, ho⟩ ((r_m_norm (t := 1) h1 ⟨by rw [a0]; exact hpk.1, by rw [a0]; exact hpk.2⟩ (by decide) hrc hRl (fun k hk => by rw [a3, a4, a5]; exact hrl k hk) (by rw [a0]; exact hR) xr1 hr1 (by rw [a0]; exact kr) hr).mono ?_)
    rintro v S2 ⟨f2, F2, h2, x2, xr2, o2, z2, rfl, hz2⟩
    have ho := h2.1
    have f12 := f1.tr f2
    have x12 := eqx.tr x1 x2
    have b0 : F2 0 = F 0 := x12 0 (by decide) (by decide) (by decide) (by decide)
    have b3 : F2 3 = F 3 := x12 3 (by decide) (by decide) (by decide) (by decide)
    have b4 : F2 4 = F 4 := x12 4 (by decide) (by decide) (by decide) (by decide)
    have b5 : F2 5 = F 5 := x12 5 (by decide) (by decide) (by decide) (by decide)
    have b6 : F2 6 = F 6 := x12 6 (by decide) (by decide) (by decide) (by decide)
    have b7 : F2 7 = F 7 := x12 7 (by decide) (by decide) (by decide) (by decide)
    have b8 : F2 8 = F 8 := x12 8 (by decide) (by decide) (by decide) (by decide)
    have v2 : mpl F2 Vs := fun k hk => by rw [b6, b7, b8]; exact hv k hk
    have k2 : kpt F F2 := fun j q _ hq => by rw [b6, b7, b8]; exact hq
    have x62 : xr (F2 6) := by rw [b6]; exact hx6
    rcases hz2 with ⟨n2, m2, w2⟩ | ⟨qb, n2, m2, w2⟩
    · skip
      refine ax_if_ge at_137_13 ⟨by omega, by omega⟩ (fun y => absurd y (by omega)) (fun _ => ?_)
      exact kbad S2 F2 _ _ 16 (Or.inl rfl) f12 h2 x12.a xr2 x62 k2 v2 (by unfold ah; rw [n1, n2])
    · skip
      have lb := nf_le hA (Rs := Rs) 40 r n2
      have kb := nf_kn hA hR hr kr (show nf A Rs 40 r = some (qb.1, qb.2) from n2)
      refine ax_if_ge at_137_13 ⟨by omega, by omega⟩ (fun _ => ?_) (fun y => absurd y (by omega))
      show ai_aw L xs (d + 5) ai_m137 _ (22, _, _, _)
      have hah : ah A Rs Vs l r = (if qa.1 = qb.1 then some Vs else if 6 < rnc qa.1 qb.1 then none else if rnp qa.1 qb.1 ∈ Vs ∨ rnp (rnp qa.1 qb.1).2 (rnp qa.1 qb.1).1 ∈ Vs then some Vs else if 48 ≤ Vs.length then none else some (Vs ++ [rnp qa.1 qb.1])) := by unfold ah; rw [n1, n2]
      have wa := (o2 0 (by decide) (by decide)).2 _ w1
      have r9 : ai_arr S2 442 0 = some (192, ax_f (F2 9)) := h2.2.1 9 (by decide)
      have r10 : ai_arr S2 443 0 = some (3, ax_f (F2 10)) := h2.2.1 10 (by decide)
      have za := mwd_len wa (by omega)
      have zb := mwd_len w2 (by omega)
      have ksame : ∀ (S9 : ai_S) (F9 : Nat → Nat → Int) (y1 y2 : Option Value) (pc9 : Nat), (pc9 = 31 ∨ pc9 = 91) → fr 432 452 S S9 → mst S9 T D n rc (Vs.length : Int) kp sx sc F9 B → eqa F F9 → xr (F9 9) → xr (F9 6) → kpt F F9 → mpl F9 Vs → ah A Rs Vs l r = some Vs → ai_aw L xs (d + 5) ai_m137 (fun (o : ai_O) => ∃ v S', o = (.inl v, S') ∧ v = none ∧ fr 432 452 S S' ∧ ∃ F', eqa F F' ∧ xr (F' 9) ∧ xr (F' 6) ∧ kpt F F' ∧ ((ah A Rs Vs l r = none ∧ mst S' T D n rc (Vs.length : Int) kp 3 sc F' B ∧ mpl F' Vs) ∨ ∃ V, ah A Rs Vs l r = some V ∧ mst S' T D n rc (V.length : Int) kp sx sc F' B ∧ mpl F' V)) (pc9, [some (.ref 432), y1, y2], [], S9) := by
        intro S9 F9 y1 y2 pc9 hpc9 c1 c2 c3 c4 c5 c6 c7 c8
        rcases hpc9 with rfl | rfl
        · exact aw_vret at_137_31 rfl ⟨_, _, rfl, rfl, c1, F9, c3, c4, c5, c6, Or.inr ⟨Vs, c8, c2, c7⟩⟩
        · exact aw_vret at_137_91 rfl ⟨_, _, rfl, rfl, c1, F9, c3, c4, c5, c6, Or.inr ⟨Vs, c8, c2, c7⟩⟩
      refine aw_loc at_137_22 rfl rfl ?_
      refine aw_pure (st' := ax_i (0) :: _) at_137_23 rfl rfl ?_
      refine aw_pure (st' := ax_i (1) :: _) at_137_24 rfl rfl ?_
      refine aw_cv (a := 432) [ax_i ((0 : Nat) : Int), ax_i ((1 : Nat) : Int)] [] at_137_25 mt_12_153 (Or.inl rfl) rfl rfl (Nat.le_of_ble_eq_true rfl) ⟨_, ho⟩ ((r_m_alike ho r9 xr2 r10 (by decide) (by decide) za zb (by omega) (by omega)).mono ?_)
      rintro v S0 ⟨hS, z3, rfl, hz3⟩
      have hS2 := hS.symm
      subst hS2
      have hz39 := hz3.le
      have hal : qa.1 = qb.1 ↔ (qa.1.length = qb.1.length ∧ ∀ i, i < qa.1.length → F2 9 (64 * 0 + i) = F2 9 (64 * 1 + i)) := by have := cw_same (P := F 0) (mwd_cw wa (by omega)) (mwd_cw w2 (by omega)) ka.2.1 kb.2.1; exact this.trans ⟨fun g => ⟨g.1, fun i hi => g.2 i (by omega)⟩, fun g => ⟨g.1, fun i hi => g.2 i (by omega)⟩⟩
      refine ax_if_eq at_137_28 ⟨by omega, by omega⟩ (fun y => ?_) (fun y => ksame S2 F2 _ _ 31 (Or.inl rfl) f12 h2 x12.a xr2 x62 k2 v2 (by rw [hah, if_pos (hal.2 (hz3.resolve_left (fun g => y g.1)).2)]))
      have hne : ¬ qa.1 = qb.1 := fun g => (hz3.resolve_right (fun g => by have := g.1; omega)).2 (hal.1 g)
      rw [if_neg hne] at hah
      show ai_aw L xs (d + 5) ai_m137 _ (32, _, _, _)
      refine aw_loc at_137_32 rfl rfl ?_
      refine aw_cv (a := 432) [] [] at_137_33 mt_12_157 (Or.inl rfl) rfl rfl (Nat.le_of_ble_eq_true rfl) ⟨_, ho⟩ ((r_m_ren (d := d + 4) h2 wa w2 ka.2.2 kb.2.2 (by rw [b0]; exact ka.2.1) (by rw [b0]; exact kb.2.1) xr2).mono ?_)
      rintro v S3 ⟨f3, rfl, X3, N3, h3, u1, u2, xr3⟩
      have f13 := f12.tr f3
      have c3 : eqa F (fup (fup F2 9 X3) 17 N3) := x12.a.tr eqa_ren
      have e9 : fup (fup F2 9 X3) 17 N3 9 = X3 := (fup_ne (by decide)).trans (fup_get _ _ _)
      have e10 : fup (fup F2 9 X3) 17 N3 10 = F2 10 := (fup_ne (by decide)).trans (fup_ne (by decide))
      have e0 : fup (fup F2 9 X3) 17 N3 0 = F 0 := ((fup_ne (by decide)).trans (fup_ne (by decide))).trans b0
      have e6 : fup (fup F2 9 X3) 17 N3 6 = F 6 := ((fup_ne (by decide)).trans (fup_ne (by decide))).trans b6
      have e7 : fup (fup F2 9 X3) 17 N3 7 = F 7 := ((fup_ne (by decide)).trans (fup_ne (by decide))).trans b7
      have e8 : fup (fup F2 9 X3) 17 N3 8 = F 8 := ((fup_ne (by decide)).trans (fup_ne (by decide))).trans b8
      rw [← e9, ← e10] at u1 u2
      rw [← e9] at xr3
      generalize hF3 : fup (fup F2 9 X3) 17 N3 = F3 at *
      have ho := h3.1
      have v3 : mpl F3 Vs := fun k hk => by rw [e6, e7, e8]; exact hv k hk
      have k3 : kpt F F3 := fun j q _ hq => by rw [e6, e7, e8]; exact hq
      have x63 : xr (F3 6) := by rw [e6]; exact hx6
      have hcn := rnc_in qa.1 qb.1 ka.2.1 kb.2.1
      refine aw_pure (st' := ax_i (6) :: _) at_137_36 rfl rfl ?_
      refine ax_icmp_le at_137_38 ⟨by omega, by omega⟩ ⟨by omega, by omega⟩ (fun y => ?_) (fun y => kbad S3 F3 _ _ 41 (Or.inr (Or.inl rfl)) f13 h3 c3 xr3 x63 k3 v3 (by rw [hah, if_pos (by omega)]))
      rw [if_neg (by omega)] at hah
      show ai_aw L xs (d + 5) ai_m137 _ (47, _, _, _)
      have kk := rnp_okv hA ka.1 kb.1 ka.2.2 kb.2.2 ka.2.1 kb.2.1 (show rnc qa.1 qb.1 ≤ 6 by omega)
      have hid := (rnp_idem qa.1 qb.1).1
      generalize hX : rnp qa.1 qb.1 = X at *
      have kx1 := al_kn (M := 129) (by decide) kk.2.2.1.1
      have kx2 := al_kn (M := 129) (by decide) kk.2.2.1.2
      refine aw_loc at_137_47 rfl rfl ?_
      refine aw_cv (a := 432) [] [] at_137_48 mt_12_161 (Or.inl rfl) rfl rfl (Nat.le_of_ble_eq_true rfl) ⟨_, ho⟩ ((r_m_isW (d := d + 3) (A := A) h3 v3 rfl h48 (by rw [e0]; exact hV) u1 u2 kk.2.1.1 kk.2.1.2 (by rw [e0]; exact kx1) (by rw [e0]; exact kx2) xr3 x63).mono ?_)
      rintro v S0 ⟨hS, z4, rfl, hz4⟩
      have hS2 := hS.symm
      subst hS2
      have hz49 := hz4.le
      refine aw_loc at_137_51 rfl rfl ?_
      refine aw_loc at_137_52 rfl rfl ?_
      refine aw_cv (a := 432) [] [] at_137_53 mt_12_165 (Or.inl rfl) rfl rfl (Nat.le_of_ble_eq_true rfl) ⟨_, ho⟩ ((r_m_exch (d := d + 3) h3 u1 u2 kk.2.1.1 kk.2.1.2 xr3).mono ?_)
      rintro v S4 ⟨rfl, f4, X4, Z4, h4, t1, t2, xr4⟩
      have f14 := f13.tr f4
      have c4 : eqa F (fup (fup F3 9 X4) 10 Z4) := c3.tr eqa_xz
      have g9 : fup (fup F3 9 X4) 10 Z4 9 = X4 := (fup_ne (by decide)).trans (fup_get _ _ _)
      have g10 : fup (fup F3 9 X4) 10 Z4 10 = Z4 := fup_get _ _ _
      have g0 : fup (fup F3 9 X4) 10 Z4 0 = F 0 := ((fup_ne (by decide)).trans (fup_ne (by decide))).trans e0
      have g6 : fup (fup F3 9 X4) 10 Z4 6 = F 6 := ((fup_ne (by decide)).trans (fup_ne (by decide))).trans e6
      have g7 : fup (fup F3 9 X4) 10 Z4 7 = F 7 := ((fup_ne (by decide)).trans (fup_ne (by decide))).trans e7
      have g8 : fup (fup F3 9 X4) 10 Z4 8 = F 8 := ((fup_ne (by decide)).trans (fup_ne (by decide))).trans e8
      have t1 : mwd (fup (fup F3 9 X4) 10 Z4 9) (fup (fup F3 9 X4) 10 Z4 10) 0 X.2 := by rw [g9, g10]; exact t1
      have t2 : mwd (fup (fup F3 9 X4) 10 Z4 9) (fup (fup F3 9 X4) 10 Z4 10) 1 X.1 := by rw [g9, g10]; exact t2
      rw [← g9] at xr4
      generalize hF4 : fup (fup F3 9 X4) 10 Z4 = F4 at *
      have ho := h4.1
      refine aw_loc at_137_56 rfl rfl ?_
      refine aw_cv (a := 432) [] [] at_137_57 mt_12_157 (Or.inl rfl) rfl rfl (Nat.le_of_ble_eq_true rfl) ⟨_, ho⟩ ((r_m_ren (d := d + 4) h4 t1 t2 kk.2.1.2 kk.2.1.1 (by rw [g0]; exact kx2) (by rw [g0]; exact kx1) xr4).mono ?_)
      rintro v S5 ⟨f5, rfl, X5, N5, h5, s1, s2, xr5⟩
      have f15 := f14.tr f5
      have c5 : eqa F (fup (fup F4 9 X5) 17 N5) := c4.tr eqa_ren
      have i9 : fup (fup F4 9 X5) 17 N5 9 = X5 := (fup_ne (by decide)).trans (fup_get _ _ _)
      have i10 : fup (fup F4 9 X5) 17 N5 10 = F4 10 := (fup_ne (by decide)).trans (fup_ne (by decide))
      have i0 : fup (fup F4 9 X5) 17 N5 0 = F 0 := ((fup_ne (by decide)).trans (fup_ne (by decide))).trans g0
      have i6 : fup (fup F4 9 X5) 17 N5 6 = F 6 := ((fup_ne (by decide)).trans (fup_ne (by decide))).trans g6
      have i7 : fup (fup F4 9 X5) 17 N5 7 = F 7 := ((fup_ne (by decide)).trans (fup_ne (by decide))).trans g7
      have i8 : fup (fup F4 9 X5) 17 N5 8 = F 8 := ((fup_ne (by decide)).trans (fup_ne (by decide))).trans g8
      rw [← i9, ← i10] at s1 s2
      rw [← i9] at xr5
      generalize hF5 : fup (fup F4 9 X5) 17 N5 = F5 at *
      have ho := h5.1
      have v5 : mpl F5 Vs := fun k hk => by rw [i6, i7, i8]; exact hv k hk
      have x65 : xr (F5 6) := by rw [i6]; exact hx6
      have yk := rnp_okv hA kk.1.2 kk.1.1 kk.2.1.2 kk.2.1.1 kx2 kx1 (kn_few kk.2.2.1.2 kk.2.2.1.1)
      have ysw := rnp_swap X.1 X.2 (by rw [hid])
      generalize hYd : rnp X.2 X.1 = Y at *
      have ky1 := al_kn (M := 129) (by decide) yk.2.2.1.1
      have ky2 := al_kn (M := 129) (by decide) yk.2.2.1.2
      have kback : ∀ b9 : Int, bz b9 (X ∈ Vs ∨ Y ∈ Vs) → ai_aw L xs (d + 5) ai_m137 (fun (o : ai_O) => ∃ v S', o = (.inl v, S') ∧ v = none ∧ fr 432 452 S S' ∧ ∃ F', eqa F F' ∧ xr (F' 9) ∧ xr (F' 6) ∧ kpt F F' ∧ ((ah A Rs Vs l r = none ∧ mst S' T D n rc (Vs.length : Int) kp 3 sc F' B ∧ mpl F' Vs) ∨ ∃ V, ah A Rs Vs l r = some V ∧ mst S' T D n rc (V.length : Int) kp sx sc F' B ∧ mpl F' V)) (77, [some (.ref 432), some (ax_i z4), some (ax_i (rnc X.2 X.1))], [ax_i b9], S5) := by
        intro b9 hb9
        have hb99 := hb9.le
        refine aw_loc at_137_77 rfl rfl ?_
        refine aw_loc at_137_78 rfl rfl ?_
        refine aw_cv (a := 432) [] [] at_137_79 mt_12_165 (Or.inl rfl) rfl rfl (Nat.le_of_ble_eq_true rfl) ⟨_, ho⟩ ((r_m_exch (d := d + 3) h5 s1 s2 yk.2.1.1 yk.2.1.2 xr5).mono ?_)
        rintro v S6 ⟨rfl, f6, X6, Z6, h6, p1, p2, xr6⟩
        have f16 := f15.tr f6
        have c6 : eqa F (fup (fup F5 9 X6) 10 Z6) := c5.tr eqa_xz
        have j9 : fup (fup F5 9 X6) 10 Z6 9 = X6 := (fup_ne (by decide)).trans (fup_get _ _ _)
        have j10 : fup (fup F5 9 X6) 10 Z6 10 = Z6 := fup_get _ _ _
        have j0 : fup (fup F5 9 X6) 10 Z6 0 = F 0 := ((fup_ne (by decide)).trans (fup_ne (by decide))).trans i0
        have j6 : fup (fup F5 9 X6) 10 Z6 6 = F 6 := ((fup_ne (by decide)).trans (fup_ne (by decide))).trans i6
        have j7 : fup (fup F5 9 X6) 10 Z6 7 = F 7 := ((fup_ne (by decide)).trans (fup_ne (by decide))).trans i7
        have j8 : fup (fup F5 9 X6) 10 Z6 8 = F 8 := ((fup_ne (by decide)).trans (fup_ne (by decide))).trans i8
        have p1 : mwd (fup (fup F5 9 X6) 10 Z6 9) (fup (fup F5 9 X6) 10 Z6 10) 0 Y.2 := by rw [j9, j10]; exact p1
        have p2 : mwd (fup (fup F5 9 X6) 10 Z6 9) (fup (fup F5 9 X6) 10 Z6 10) 1 Y.1 := by rw [j9, j10]; exact p2
        rw [← j9] at xr6
        generalize hF6 : fup (fup F5 9 X6) 10 Z6 = F6 at *
        have ho := h6.1
        refine aw_loc at_137_82 rfl rfl ?_
        refine aw_cv (a := 432) [] [] at_137_83 mt_12_157 (Or.inl rfl) rfl rfl (Nat.le_of_ble_eq_true rfl) ⟨_, ho⟩ ((r_m_ren (d := d + 4) h6 p1 p2 yk.2.1.2 yk.2.1.1 (by rw [j0]; exact ky2) (by rw [j0]; exact ky1) xr6).mono ?_)
        rintro v S7 ⟨f7, rfl, X7, N7, h7, q1, q2, xr7⟩
        rw [ysw] at q1 q2
        have f17 := f16.tr f7
        have c7 : eqa F (fup (fup F6 9 X7) 17 N7) := c6.tr eqa_ren
        have l9 : fup (fup F6 9 X7) 17 N7 9 = X7 := (fup_ne (by decide)).trans (fup_get _ _ _)
        have l10 : fup (fup F6 9 X7) 17 N7 10 = F6 10 := (fup_ne (by decide)).trans (fup_ne (by decide))
        have l0 : fup (fup F6 9 X7) 17 N7 0 = F 0 := ((fup_ne (by decide)).trans (fup_ne (by decide))).trans j0
        have l6 : fup (fup F6 9 X7) 17 N7 6 = F 6 := ((fup_ne (by decide)).trans (fup_ne (by decide))).trans j6
        have l7 : fup (fup F6 9 X7) 17 N7 7 = F 7 := ((fup_ne (by decide)).trans (fup_ne (by decide))).trans j7
        have l8 : fup (fup F6 9 X7) 17 N7 8 = F 8 := ((fup_ne (by decide)).trans (fup_ne (by decide))).trans j8
        rw [← l9, ← l10] at q1 q2
        rw [← l9] at xr7
        generalize hF7 : fup (fup F6 9 X7) 17 N7 = F7 at *
        have ho := h7.1
        have v7 : mpl F7 Vs := fun k hk => by rw [l6, l7, l8]; exact hv k hk
        have k7 : kpt F F7 := fun j q _ hq => by rw [l6, l7, l8]; exact hq
        have x67 : xr (F7 6) := by rw [l6]; exact hx6
        refine aw_loc at_137_86 rfl rfl ?_
        refine aw_loc at_137_87 rfl rfl ?_
        refine ax_if_eq at_137_88 ⟨by omega, by omega⟩ (fun y => ?_) (fun y => ksame S7 F7 _ _ 91 (Or.inr rfl) f17 h7 c7 xr7 x67 k7 v7 (by rw [hah, if_pos (hb9.resolve_left (fun g => y g.1)).2]))
        rw [if_neg (hb9.resolve_right (fun g => by have := g.1; omega)).2] at hah
        show ai_aw L xs (d + 5) ai_m137 _ (92, _, _, _)
        refine aw_loc at_137_92 rfl rfl ?_
        refine aw_get at_137_93 rfl fl_12_106 ho rfl ?_
        refine aw_pure (st' := ax_i (48) :: _) at_137_96 rfl rfl ?_
        refine ax_icmp_ne at_137_98 ⟨by omega, by omega⟩ ⟨by omega, by omega⟩ (fun y => ?_) (fun y => kbad S7 F7 _ _ 101 (Or.inr (Or.inr rfl)) f17 h7 c7 xr7 x67 k7 v7 (by rw [hah, if_pos (by omega)]))
        rw [if_neg (by omega)] at hah
        show ai_aw L xs (d + 5) ai_m137 _ (107, _, _, _)
        refine aw_loc at_137_107 rfl rfl ?_
        refine aw_loc at_137_108 rfl rfl ?_
        refine aw_get at_137_109 rfl fl_12_106 ho rfl ?_
        refine aw_cv (a := 432) [ax_i (Vs.length : Nat)] [] at_137_112 mt_12_168 (Or.inl rfl) rfl rfl (Nat.le_of_ble_eq_true rfl) ⟨_, ho⟩ ((r_m_setP (P := F 0) (d := d + 4) h7 q1 q2 kk.2.1.1 kk.2.1.2 (by omega)).mono ?_)
        rintro v S8 ⟨rfl, f8, F8, h8, w3, w4, w5, w6⟩
        have ho := h8.1
        refine aw_loc at_137_115 rfl rfl ?_
        refine aw_pure at_137_116 rfl rfl ?_
        refine aw_get at_137_117 rfl fl_12_106 ho rfl ?_
        refine aw_pure (st' := ax_i (1) :: _) at_137_120 rfl rfl ?_
        refine ax_add at_137_121 rfl ?_
        refine aw_put at_137_122 rfl fl_12_106 ho (Nat.le_of_ble_eq_true rfl) rfl (by decide +kernel) ?_
        have e9' : F8 9 = F7 9 := w3 9 (by decide) (by decide) (by decide)
        refine aw_vret at_137_125 rfl ⟨_, _, rfl, rfl, (f17.tr f8).tr (fr_md (by decide) (by decide)), F8, fun i a1 a2 a3 a4 a5 a6 a7 a8 => (w3 i a1 a2 a3).trans (c7 i a1 a2 a3 a4 a5 a6 a7 a8), by rw [e9']; exact xr7, ?_, fun j q hj hq => w5 j q (by omega) (k7 j q hj hq), Or.inr ⟨_, hah, ?_, fun k hk => ?_⟩⟩
        · exact w6 x67 kx1 kx2
        · rw [show (((Vs ++ [X]).length : Nat) : Int) = (Vs.length : Int) + 1 by rw [List.length_append, List.length_singleton]; omega]; exact mst_fl h8
        · by_cases e : k = Vs.length
          · rw [e, getD_mid Vs X []]; exact w4
          · rw [List.length_append, List.length_singleton] at hk
            rw [show (Vs ++ [X]).getD k q_no = Vs.getD k q_no by rw [List.getD_eq_getElem?_getD, List.getD_eq_getElem?_getD, List.getElem?_append_left (by omega)]]
            exact w5 k _ e (v7 k (by omega))
      refine aw_loc at_137_60 rfl rfl ?_
      refine aw_loc at_137_61 rfl rfl ?_
      refine ax_if_ne at_137_62 ⟨by omega, by omega⟩ (fun y => ?_) (fun y => ?_)
      · skip
        refine aw_pure (st' := ax_i (1) :: _) at_137_72 rfl rfl ?_
        refine aw_goto at_137_73 ?_
        exact kback 1 (Or.inr ⟨rfl, Or.inl (hz4.resolve_left (fun g => y g.1)).2⟩)
      · skip
        have hno := (hz4.resolve_right (fun g => by have := g.1; omega)).2
        refine aw_loc at_137_65 rfl rfl ?_
        refine aw_cv (a := 432) [] [] at_137_66 mt_12_161 (Or.inl rfl) rfl rfl (Nat.le_of_ble_eq_true rfl) ⟨_, ho⟩ ((r_m_isW (d := d + 3) (A := A) h5 v5 rfl h48 (by rw [i0]; exact hV) s1 s2 yk.2.1.1 yk.2.1.2 (by rw [i0]; exact ky1) (by rw [i0]; exact ky2) xr5 x65).mono ?_)
        rintro v S0 ⟨hS, z5, rfl, hz5⟩
        have hS2 := hS.symm
        subst hS2
        have hz59 := hz5.le
        refine ax_if_eq at_137_69 ⟨by omega, by omega⟩ (fun u => ?_) (fun u => ?_)
        · skip
          refine aw_pure (st' := ax_i (0) :: _) at_137_76 rfl rfl ?_
          exact kback 0 (Or.inl ⟨rfl, fun g => g.elim hno (hz5.resolve_right (fun g => by have := g.1; omega)).2⟩)
        · skip
          refine aw_pure (st' := ax_i (1) :: _) at_137_72 rfl rfl ?_
          refine aw_goto at_137_73 ?_
          exact kback 1 (Or.inr ⟨rfl, Or.inr (hz5.resolve_left (fun g => u g.1)).2⟩)
end MA

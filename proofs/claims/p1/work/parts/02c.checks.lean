/-! What the tables say is so: by decision. -/
/-- how long an instruction is -/
def ai_len (i : Instr) : Nat := match i with
  | .bipush _ | .iload _ | .aload _ | .lload _ | .istore _ | .astore _ | .ldc _ | .newarray _ => 2
  | .sipush _ | .iinc _ _ | .goto _ | .ifCond _ _ | .if_icmp _ _ | .getfield _ | .putfield _ | .new _ | .anewarray _ | .invokevirtual _ | .invokestatic _ | .invokespecial _ | .ldc2_w _ => 3
  | _ => 1
def ai_tgt (x : Nat × Instr × Nat) : Bool := match x.2.1 with
  | .goto off => decide (0 ≤ (x.1 : Int) + off)
  | .ifCond _ off => decide (0 ≤ (x.1 : Int) + off)
  | .if_icmp _ off => decide (0 ≤ (x.1 : Int) + off)
  | .tableswitch d _ _ offs => decide (0 ≤ (x.1 : Int) + d) && offs.toList.all fun o => decide (0 ≤ (x.1 : Int) + o)
  | _ => true
def ai_isSw (i : Instr) : Bool := match i with
  | .tableswitch .. => true
  | _ => false
def ai_chk (M : ai_M) : Bool := (ai_code M).all fun x => decide (decode (ai_cc M) x.1 = .ok x.2) && (ai_isSw x.2.1 || x.2.2 == ai_len x.2.1) && ai_tgt x
/-- the room of a method is enough for what it calls -/
def ai_rck (M : ai_M) : Bool := (ai_code M).all fun x => match ai_ivk x.2.1 with
  | none => true
  | some z => (match ai_mth (ai_oi M) z with
      | some q => (match ai_MT[q.2.1]? with
        | some M' => decide (ai_Fr M' + 1 ≤ ai_Fr M) && decide (19 + ai_nL M' + ai_Lc M' ≤ ai_Lc M)
        | none => false)
      | none => true) && (!(ai_isObj (ai_oi M) z) || (decide (1 ≤ ai_Fr M) && decide (20 ≤ ai_Lc M))) && (!(ai_isCpy (ai_oi M) z) || (decide (1 ≤ ai_Fr M) && decide (26 ≤ ai_Lc M)))
set_option maxRecDepth 100000 in
theorem ck_0 : ai_chk ai_m0 = true := by decide +kernel
set_option maxRecDepth 100000 in
theorem ck_1 : ai_chk ai_m1 = true := by decide +kernel
set_option maxRecDepth 100000 in
theorem ck_2 : ai_chk ai_m2 = true := by decide +kernel
set_option maxRecDepth 100000 in
theorem ck_3 : ai_chk ai_m3 = true := by decide +kernel
set_option maxRecDepth 100000 in
theorem ck_4 : ai_chk ai_m4 = true := by decide +kernel
set_option maxRecDepth 100000 in
theorem ck_5 : ai_chk ai_m5 = true := by decide +kernel
set_option maxRecDepth 100000 in
theorem ck_6 : ai_chk ai_m6 = true := by decide +kernel
set_option maxRecDepth 100000 in
theorem ck_7 : ai_chk ai_m7 = true := by decide +kernel
set_option maxRecDepth 100000 in
theorem ck_8 : ai_chk ai_m8 = true := by decide +kernel
set_option maxRecDepth 100000 in
theorem ck_9 : ai_chk ai_m9 = true := by decide +kernel
set_option maxRecDepth 100000 in
theorem ck_10 : ai_chk ai_m10 = true := by decide +kernel
set_option maxRecDepth 100000 in
theorem ck_11 : ai_chk ai_m11 = true := by decide +kernel
set_option maxRecDepth 100000 in
theorem ck_12 : ai_chk ai_m12 = true := by decide +kernel
set_option maxRecDepth 100000 in
theorem ck_13 : ai_chk ai_m13 = true := by decide +kernel
set_option maxRecDepth 100000 in
theorem ck_14 : ai_chk ai_m14 = true := by decide +kernel
set_option maxRecDepth 100000 in
theorem ck_15 : ai_chk ai_m15 = true := by decide +kernel
set_option maxRecDepth 100000 in
theorem ck_16 : ai_chk ai_m16 = true := by decide +kernel
set_option maxRecDepth 100000 in
theorem ck_17 : ai_chk ai_m17 = true := by decide +kernel
set_option maxRecDepth 100000 in
theorem ck_18 : ai_chk ai_m18 = true := by decide +kernel
set_option maxRecDepth 100000 in
theorem ck_19 : ai_chk ai_m19 = true := by decide +kernel
set_option maxRecDepth 100000 in
theorem ck_20 : ai_chk ai_m20 = true := by decide +kernel
set_option maxRecDepth 100000 in
theorem ck_21 : ai_chk ai_m21 = true := by decide +kernel
set_option maxRecDepth 100000 in
theorem ck_22 : ai_chk ai_m22 = true := by decide +kernel
set_option maxRecDepth 100000 in
theorem ck_23 : ai_chk ai_m23 = true := by decide +kernel
set_option maxRecDepth 100000 in
theorem ck_24 : ai_chk ai_m24 = true := by decide +kernel
set_option maxRecDepth 100000 in
theorem ck_25 : ai_chk ai_m25 = true := by decide +kernel
set_option maxRecDepth 100000 in
theorem ck_26 : ai_chk ai_m26 = true := by decide +kernel
set_option maxRecDepth 100000 in
theorem ck_27 : ai_chk ai_m27 = true := by decide +kernel
set_option maxRecDepth 100000 in
theorem ck_28 : ai_chk ai_m28 = true := by decide +kernel
set_option maxRecDepth 100000 in
theorem ck_29 : ai_chk ai_m29 = true := by decide +kernel
set_option maxRecDepth 100000 in
theorem ck_30 : ai_chk ai_m30 = true := by decide +kernel
set_option maxRecDepth 100000 in
theorem ck_31 : ai_chk ai_m31 = true := by decide +kernel
set_option maxRecDepth 100000 in
theorem ck_32 : ai_chk ai_m32 = true := by decide +kernel
set_option maxRecDepth 100000 in
theorem ck_33 : ai_chk ai_m33 = true := by decide +kernel
set_option maxRecDepth 100000 in
theorem ck_34 : ai_chk ai_m34 = true := by decide +kernel
set_option maxRecDepth 100000 in
theorem ck_35 : ai_chk ai_m35 = true := by decide +kernel
set_option maxRecDepth 100000 in
theorem ck_36 : ai_chk ai_m36 = true := by decide +kernel
set_option maxRecDepth 100000 in
theorem ck_37 : ai_chk ai_m37 = true := by decide +kernel
set_option maxRecDepth 100000 in
theorem ck_38 : ai_chk ai_m38 = true := by decide +kernel
set_option maxRecDepth 100000 in
theorem ck_39 : ai_chk ai_m39 = true := by decide +kernel
set_option maxRecDepth 100000 in
theorem ck_40 : ai_chk ai_m40 = true := by decide +kernel
set_option maxRecDepth 100000 in
theorem ck_41 : ai_chk ai_m41 = true := by decide +kernel
set_option maxRecDepth 100000 in
theorem ck_42 : ai_chk ai_m42 = true := by decide +kernel
set_option maxRecDepth 100000 in
theorem ck_43 : ai_chk ai_m43 = true := by decide +kernel
set_option maxRecDepth 100000 in
theorem ck_44 : ai_chk ai_m44 = true := by decide +kernel
set_option maxRecDepth 100000 in
theorem ck_45 : ai_chk ai_m45 = true := by decide +kernel
set_option maxRecDepth 100000 in
theorem ck_46 : ai_chk ai_m46 = true := by decide +kernel
set_option maxRecDepth 100000 in
theorem ck_47 : ai_chk ai_m47 = true := by decide +kernel
set_option maxRecDepth 100000 in
theorem ck_48 : ai_chk ai_m48 = true := by decide +kernel
set_option maxRecDepth 100000 in
theorem ck_49 : ai_chk ai_m49 = true := by decide +kernel
set_option maxRecDepth 100000 in
theorem ck_50 : ai_chk ai_m50 = true := by decide +kernel
set_option maxRecDepth 100000 in
theorem ck_51 : ai_chk ai_m51 = true := by decide +kernel
set_option maxRecDepth 100000 in
theorem ck_52 : ai_chk ai_m52 = true := by decide +kernel
set_option maxRecDepth 100000 in
theorem ck_53 : ai_chk ai_m53 = true := by decide +kernel
set_option maxRecDepth 100000 in
theorem ck_54 : ai_chk ai_m54 = true := by decide +kernel
set_option maxRecDepth 100000 in
theorem ck_55 : ai_chk ai_m55 = true := by decide +kernel
set_option maxRecDepth 100000 in
theorem ck_56 : ai_chk ai_m56 = true := by decide +kernel
set_option maxRecDepth 100000 in
theorem ck_57 : ai_chk ai_m57 = true := by decide +kernel
set_option maxRecDepth 100000 in
theorem ck_58 : ai_chk ai_m58 = true := by decide +kernel
set_option maxRecDepth 100000 in
theorem ck_59 : ai_chk ai_m59 = true := by decide +kernel
set_option maxRecDepth 100000 in
theorem ck_60 : ai_chk ai_m60 = true := by decide +kernel
set_option maxRecDepth 100000 in
theorem ck_61 : ai_chk ai_m61 = true := by decide +kernel
set_option maxRecDepth 100000 in
theorem ck_62 : ai_chk ai_m62 = true := by decide +kernel
set_option maxRecDepth 100000 in
theorem ck_63 : ai_chk ai_m63 = true := by decide +kernel
set_option maxRecDepth 100000 in
theorem ck_64 : ai_chk ai_m64 = true := by decide +kernel
set_option maxRecDepth 100000 in
theorem ck_65 : ai_chk ai_m65 = true := by decide +kernel
set_option maxRecDepth 100000 in
theorem ck_66 : ai_chk ai_m66 = true := by decide +kernel
set_option maxRecDepth 100000 in
theorem ck_67 : ai_chk ai_m67 = true := by decide +kernel
set_option maxRecDepth 100000 in
theorem ck_68 : ai_chk ai_m68 = true := by decide +kernel
set_option maxRecDepth 100000 in
theorem ck_69 : ai_chk ai_m69 = true := by decide +kernel
set_option maxRecDepth 100000 in
theorem ck_70 : ai_chk ai_m70 = true := by decide +kernel
set_option maxRecDepth 100000 in
theorem ck_71 : ai_chk ai_m71 = true := by decide +kernel
set_option maxRecDepth 100000 in
theorem ck_72 : ai_chk ai_m72 = true := by decide +kernel
set_option maxRecDepth 100000 in
theorem ck_73 : ai_chk ai_m73 = true := by decide +kernel
set_option maxRecDepth 100000 in
theorem ck_74 : ai_chk ai_m74 = true := by decide +kernel
set_option maxRecDepth 100000 in
theorem ck_75 : ai_chk ai_m75 = true := by decide +kernel
set_option maxRecDepth 100000 in
theorem ck_76 : ai_chk ai_m76 = true := by decide +kernel
set_option maxRecDepth 100000 in
theorem ck_77 : ai_chk ai_m77 = true := by decide +kernel
set_option maxRecDepth 100000 in
theorem ck_78 : ai_chk ai_m78 = true := by decide +kernel
set_option maxRecDepth 100000 in
theorem ck_79 : ai_chk ai_m79 = true := by decide +kernel
set_option maxRecDepth 100000 in
theorem ck_80 : ai_chk ai_m80 = true := by decide +kernel
set_option maxRecDepth 100000 in
theorem ck_81 : ai_chk ai_m81 = true := by decide +kernel
set_option maxRecDepth 100000 in
theorem ck_82 : ai_chk ai_m82 = true := by decide +kernel
set_option maxRecDepth 100000 in
theorem ck_83 : ai_chk ai_m83 = true := by decide +kernel
set_option maxRecDepth 100000 in
theorem ck_84 : ai_chk ai_m84 = true := by decide +kernel
set_option maxRecDepth 100000 in
theorem ck_85 : ai_chk ai_m85 = true := by decide +kernel
set_option maxRecDepth 100000 in
theorem ck_86 : ai_chk ai_m86 = true := by decide +kernel
set_option maxRecDepth 100000 in
theorem ck_87 : ai_chk ai_m87 = true := by decide +kernel
set_option maxRecDepth 100000 in
theorem ck_88 : ai_chk ai_m88 = true := by decide +kernel
set_option maxRecDepth 100000 in
theorem ck_89 : ai_chk ai_m89 = true := by decide +kernel
set_option maxRecDepth 100000 in
theorem ck_90 : ai_chk ai_m90 = true := by decide +kernel
set_option maxRecDepth 100000 in
theorem ck_91 : ai_chk ai_m91 = true := by decide +kernel
set_option maxRecDepth 100000 in
theorem ck_92 : ai_chk ai_m92 = true := by decide +kernel
set_option maxRecDepth 100000 in
theorem ck_93 : ai_chk ai_m93 = true := by decide +kernel
set_option maxRecDepth 100000 in
theorem ck_94 : ai_chk ai_m94 = true := by decide +kernel
set_option maxRecDepth 100000 in
theorem ck_95 : ai_chk ai_m95 = true := by decide +kernel
set_option maxRecDepth 100000 in
theorem ck_96 : ai_chk ai_m96 = true := by decide +kernel
set_option maxRecDepth 100000 in
theorem ck_97 : ai_chk ai_m97 = true := by decide +kernel
set_option maxRecDepth 100000 in
theorem ck_98 : ai_chk ai_m98 = true := by decide +kernel
set_option maxRecDepth 100000 in
theorem ck_99 : ai_chk ai_m99 = true := by decide +kernel
set_option maxRecDepth 100000 in
theorem ck_100 : ai_chk ai_m100 = true := by decide +kernel
set_option maxRecDepth 100000 in
theorem ck_101 : ai_chk ai_m101 = true := by decide +kernel
set_option maxRecDepth 100000 in
theorem ck_102 : ai_chk ai_m102 = true := by decide +kernel
set_option maxRecDepth 100000 in
theorem ck_103 : ai_chk ai_m103 = true := by decide +kernel
set_option maxRecDepth 100000 in
theorem ck_104 : ai_chk ai_m104 = true := by decide +kernel
set_option maxRecDepth 100000 in
theorem ck_105 : ai_chk ai_m105 = true := by decide +kernel
set_option maxRecDepth 100000 in
theorem ck_106 : ai_chk ai_m106 = true := by decide +kernel
set_option maxRecDepth 100000 in
theorem ck_107 : ai_chk ai_m107 = true := by decide +kernel
set_option maxRecDepth 100000 in
theorem ck_108 : ai_chk ai_m108 = true := by decide +kernel
set_option maxRecDepth 100000 in
theorem ck_109 : ai_chk ai_m109 = true := by decide +kernel
set_option maxRecDepth 100000 in
theorem ck_110 : ai_chk ai_m110 = true := by decide +kernel
set_option maxRecDepth 100000 in
theorem ck_111 : ai_chk ai_m111 = true := by decide +kernel
set_option maxRecDepth 100000 in
theorem ck_112 : ai_chk ai_m112 = true := by decide +kernel
set_option maxRecDepth 100000 in
theorem ck_113 : ai_chk ai_m113 = true := by decide +kernel
set_option maxRecDepth 100000 in
theorem ck_114 : ai_chk ai_m114 = true := by decide +kernel
set_option maxRecDepth 100000 in
theorem ck_115 : ai_chk ai_m115 = true := by decide +kernel
set_option maxRecDepth 100000 in
theorem ck_116 : ai_chk ai_m116 = true := by decide +kernel
set_option maxRecDepth 100000 in
theorem ck_117 : ai_chk ai_m117 = true := by decide +kernel
set_option maxRecDepth 100000 in
theorem ck_118 : ai_chk ai_m118 = true := by decide +kernel
set_option maxRecDepth 100000 in
theorem ck_119 : ai_chk ai_m119 = true := by decide +kernel
set_option maxRecDepth 100000 in
theorem ck_120 : ai_chk ai_m120 = true := by decide +kernel
set_option maxRecDepth 100000 in
theorem ck_121 : ai_chk ai_m121 = true := by decide +kernel
set_option maxRecDepth 100000 in
theorem ck_122 : ai_chk ai_m122 = true := by decide +kernel
set_option maxRecDepth 100000 in
theorem ck_123 : ai_chk ai_m123 = true := by decide +kernel
set_option maxRecDepth 100000 in
theorem ck_124 : ai_chk ai_m124 = true := by decide +kernel
set_option maxRecDepth 100000 in
theorem ck_125 : ai_chk ai_m125 = true := by decide +kernel
set_option maxRecDepth 100000 in
theorem ck_126 : ai_chk ai_m126 = true := by decide +kernel
set_option maxRecDepth 100000 in
theorem ck_127 : ai_chk ai_m127 = true := by decide +kernel
set_option maxRecDepth 100000 in
theorem ck_128 : ai_chk ai_m128 = true := by decide +kernel
set_option maxRecDepth 100000 in
theorem ck_129 : ai_chk ai_m129 = true := by decide +kernel
set_option maxRecDepth 100000 in
theorem ck_130 : ai_chk ai_m130 = true := by decide +kernel
set_option maxRecDepth 100000 in
theorem ck_131 : ai_chk ai_m131 = true := by decide +kernel
set_option maxRecDepth 100000 in
theorem ck_132 : ai_chk ai_m132 = true := by decide +kernel
set_option maxRecDepth 100000 in
theorem ck_133 : ai_chk ai_m133 = true := by decide +kernel
set_option maxRecDepth 100000 in
theorem ck_134 : ai_chk ai_m134 = true := by decide +kernel
set_option maxRecDepth 100000 in
theorem ck_135 : ai_chk ai_m135 = true := by decide +kernel
set_option maxRecDepth 100000 in
theorem ck_136 : ai_chk ai_m136 = true := by decide +kernel
set_option maxRecDepth 100000 in
theorem ck_137 : ai_chk ai_m137 = true := by decide +kernel
set_option maxRecDepth 100000 in
theorem ck_138 : ai_chk ai_m138 = true := by decide +kernel
set_option maxRecDepth 100000 in
theorem ck_139 : ai_chk ai_m139 = true := by decide +kernel
set_option maxRecDepth 100000 in
theorem ck_140 : ai_chk ai_m140 = true := by decide +kernel
set_option maxRecDepth 100000 in
theorem ck_141 : ai_chk ai_m141 = true := by decide +kernel
set_option maxRecDepth 100000 in
theorem ck_142 : ai_chk ai_m142 = true := by decide +kernel
set_option maxRecDepth 100000 in
theorem ck_143 : ai_chk ai_m143 = true := by decide +kernel
set_option maxRecDepth 100000 in
theorem ck_144 : ai_chk ai_m144 = true := by decide +kernel
set_option maxRecDepth 100000 in
theorem ck_145 : ai_chk ai_m145 = true := by decide +kernel
set_option maxRecDepth 100000 in
theorem ck_146 : ai_chk ai_m146 = true := by decide +kernel
set_option maxRecDepth 100000 in
theorem ck_147 : ai_chk ai_m147 = true := by decide +kernel
set_option maxRecDepth 100000 in
theorem ck_148 : ai_chk ai_m148 = true := by decide +kernel
set_option maxRecDepth 100000 in
theorem ck_149 : ai_chk ai_m149 = true := by decide +kernel
set_option maxRecDepth 100000 in
theorem ck_150 : ai_chk ai_m150 = true := by decide +kernel
set_option maxRecDepth 100000 in
theorem ck_151 : ai_chk ai_m151 = true := by decide +kernel
set_option maxRecDepth 100000 in
theorem ck_152 : ai_chk ai_m152 = true := by decide +kernel
set_option maxRecDepth 100000 in
theorem ck_153 : ai_chk ai_m153 = true := by decide +kernel
set_option maxRecDepth 100000 in
theorem ck_154 : ai_chk ai_m154 = true := by decide +kernel
set_option maxRecDepth 100000 in
theorem ck_155 : ai_chk ai_m155 = true := by decide +kernel
set_option maxRecDepth 100000 in
theorem ck_156 : ai_chk ai_m156 = true := by decide +kernel
set_option maxRecDepth 100000 in
theorem ck_157 : ai_chk ai_m157 = true := by decide +kernel
set_option maxRecDepth 100000 in
theorem ck_158 : ai_chk ai_m158 = true := by decide +kernel
set_option maxRecDepth 100000 in
theorem ck_159 : ai_chk ai_m159 = true := by decide +kernel
set_option maxRecDepth 100000 in
theorem ai_chks : ∀ M ∈ ai_MT, ai_chk M = true := List.forall_mem_cons.mpr ⟨ck_0, List.forall_mem_cons.mpr ⟨ck_1, List.forall_mem_cons.mpr ⟨ck_2, List.forall_mem_cons.mpr ⟨ck_3, List.forall_mem_cons.mpr ⟨ck_4, List.forall_mem_cons.mpr ⟨ck_5, List.forall_mem_cons.mpr ⟨ck_6, List.forall_mem_cons.mpr ⟨ck_7, List.forall_mem_cons.mpr ⟨ck_8, List.forall_mem_cons.mpr ⟨ck_9, List.forall_mem_cons.mpr ⟨ck_10, List.forall_mem_cons.mpr ⟨ck_11, List.forall_mem_cons.mpr ⟨ck_12, List.forall_mem_cons.mpr ⟨ck_13, List.forall_mem_cons.mpr ⟨ck_14, List.forall_mem_cons.mpr ⟨ck_15, List.forall_mem_cons.mpr ⟨ck_16, List.forall_mem_cons.mpr ⟨ck_17, List.forall_mem_cons.mpr ⟨ck_18, List.forall_mem_cons.mpr ⟨ck_19, List.forall_mem_cons.mpr ⟨ck_20, List.forall_mem_cons.mpr ⟨ck_21, List.forall_mem_cons.mpr ⟨ck_22, List.forall_mem_cons.mpr ⟨ck_23, List.forall_mem_cons.mpr ⟨ck_24, List.forall_mem_cons.mpr ⟨ck_25, List.forall_mem_cons.mpr ⟨ck_26, List.forall_mem_cons.mpr ⟨ck_27, List.forall_mem_cons.mpr ⟨ck_28, List.forall_mem_cons.mpr ⟨ck_29, List.forall_mem_cons.mpr ⟨ck_30, List.forall_mem_cons.mpr ⟨ck_31, List.forall_mem_cons.mpr ⟨ck_32, List.forall_mem_cons.mpr ⟨ck_33, List.forall_mem_cons.mpr ⟨ck_34, List.forall_mem_cons.mpr ⟨ck_35, List.forall_mem_cons.mpr ⟨ck_36, List.forall_mem_cons.mpr ⟨ck_37, List.forall_mem_cons.mpr ⟨ck_38, List.forall_mem_cons.mpr ⟨ck_39, List.forall_mem_cons.mpr ⟨ck_40, List.forall_mem_cons.mpr ⟨ck_41, List.forall_mem_cons.mpr ⟨ck_42, List.forall_mem_cons.mpr ⟨ck_43, List.forall_mem_cons.mpr ⟨ck_44, List.forall_mem_cons.mpr ⟨ck_45, List.forall_mem_cons.mpr ⟨ck_46, List.forall_mem_cons.mpr ⟨ck_47, List.forall_mem_cons.mpr ⟨ck_48, List.forall_mem_cons.mpr ⟨ck_49, List.forall_mem_cons.mpr ⟨ck_50, List.forall_mem_cons.mpr ⟨ck_51, List.forall_mem_cons.mpr ⟨ck_52, List.forall_mem_cons.mpr ⟨ck_53, List.forall_mem_cons.mpr ⟨ck_54, List.forall_mem_cons.mpr ⟨ck_55, List.forall_mem_cons.mpr ⟨ck_56, List.forall_mem_cons.mpr ⟨ck_57, List.forall_mem_cons.mpr ⟨ck_58, List.forall_mem_cons.mpr ⟨ck_59, List.forall_mem_cons.mpr ⟨ck_60, List.forall_mem_cons.mpr ⟨ck_61, List.forall_mem_cons.mpr ⟨ck_62, List.forall_mem_cons.mpr ⟨ck_63, List.forall_mem_cons.mpr ⟨ck_64, List.forall_mem_cons.mpr ⟨ck_65, List.forall_mem_cons.mpr ⟨ck_66, List.forall_mem_cons.mpr ⟨ck_67, List.forall_mem_cons.mpr ⟨ck_68, List.forall_mem_cons.mpr ⟨ck_69, List.forall_mem_cons.mpr ⟨ck_70, List.forall_mem_cons.mpr ⟨ck_71, List.forall_mem_cons.mpr ⟨ck_72, List.forall_mem_cons.mpr ⟨ck_73, List.forall_mem_cons.mpr ⟨ck_74, List.forall_mem_cons.mpr ⟨ck_75, List.forall_mem_cons.mpr ⟨ck_76, List.forall_mem_cons.mpr ⟨ck_77, List.forall_mem_cons.mpr ⟨ck_78, List.forall_mem_cons.mpr ⟨ck_79, List.forall_mem_cons.mpr ⟨ck_80, List.forall_mem_cons.mpr ⟨ck_81, List.forall_mem_cons.mpr ⟨ck_82, List.forall_mem_cons.mpr ⟨ck_83, List.forall_mem_cons.mpr ⟨ck_84, List.forall_mem_cons.mpr ⟨ck_85, List.forall_mem_cons.mpr ⟨ck_86, List.forall_mem_cons.mpr ⟨ck_87, List.forall_mem_cons.mpr ⟨ck_88, List.forall_mem_cons.mpr ⟨ck_89, List.forall_mem_cons.mpr ⟨ck_90, List.forall_mem_cons.mpr ⟨ck_91, List.forall_mem_cons.mpr ⟨ck_92, List.forall_mem_cons.mpr ⟨ck_93, List.forall_mem_cons.mpr ⟨ck_94, List.forall_mem_cons.mpr ⟨ck_95, List.forall_mem_cons.mpr ⟨ck_96, List.forall_mem_cons.mpr ⟨ck_97, List.forall_mem_cons.mpr ⟨ck_98, List.forall_mem_cons.mpr ⟨ck_99, List.forall_mem_cons.mpr ⟨ck_100, List.forall_mem_cons.mpr ⟨ck_101, List.forall_mem_cons.mpr ⟨ck_102, List.forall_mem_cons.mpr ⟨ck_103, List.forall_mem_cons.mpr ⟨ck_104, List.forall_mem_cons.mpr ⟨ck_105, List.forall_mem_cons.mpr ⟨ck_106, List.forall_mem_cons.mpr ⟨ck_107, List.forall_mem_cons.mpr ⟨ck_108, List.forall_mem_cons.mpr ⟨ck_109, List.forall_mem_cons.mpr ⟨ck_110, List.forall_mem_cons.mpr ⟨ck_111, List.forall_mem_cons.mpr ⟨ck_112, List.forall_mem_cons.mpr ⟨ck_113, List.forall_mem_cons.mpr ⟨ck_114, List.forall_mem_cons.mpr ⟨ck_115, List.forall_mem_cons.mpr ⟨ck_116, List.forall_mem_cons.mpr ⟨ck_117, List.forall_mem_cons.mpr ⟨ck_118, List.forall_mem_cons.mpr ⟨ck_119, List.forall_mem_cons.mpr ⟨ck_120, List.forall_mem_cons.mpr ⟨ck_121, List.forall_mem_cons.mpr ⟨ck_122, List.forall_mem_cons.mpr ⟨ck_123, List.forall_mem_cons.mpr ⟨ck_124, List.forall_mem_cons.mpr ⟨ck_125, List.forall_mem_cons.mpr ⟨ck_126, List.forall_mem_cons.mpr ⟨ck_127, List.forall_mem_cons.mpr ⟨ck_128, List.forall_mem_cons.mpr ⟨ck_129, List.forall_mem_cons.mpr ⟨ck_130, List.forall_mem_cons.mpr ⟨ck_131, List.forall_mem_cons.mpr ⟨ck_132, List.forall_mem_cons.mpr ⟨ck_133, List.forall_mem_cons.mpr ⟨ck_134, List.forall_mem_cons.mpr ⟨ck_135, List.forall_mem_cons.mpr ⟨ck_136, List.forall_mem_cons.mpr ⟨ck_137, List.forall_mem_cons.mpr ⟨ck_138, List.forall_mem_cons.mpr ⟨ck_139, List.forall_mem_cons.mpr ⟨ck_140, List.forall_mem_cons.mpr ⟨ck_141, List.forall_mem_cons.mpr ⟨ck_142, List.forall_mem_cons.mpr ⟨ck_143, List.forall_mem_cons.mpr ⟨ck_144, List.forall_mem_cons.mpr ⟨ck_145, List.forall_mem_cons.mpr ⟨ck_146, List.forall_mem_cons.mpr ⟨ck_147, List.forall_mem_cons.mpr ⟨ck_148, List.forall_mem_cons.mpr ⟨ck_149, List.forall_mem_cons.mpr ⟨ck_150, List.forall_mem_cons.mpr ⟨ck_151, List.forall_mem_cons.mpr ⟨ck_152, List.forall_mem_cons.mpr ⟨ck_153, List.forall_mem_cons.mpr ⟨ck_154, List.forall_mem_cons.mpr ⟨ck_155, List.forall_mem_cons.mpr ⟨ck_156, List.forall_mem_cons.mpr ⟨ck_157, List.forall_mem_cons.mpr ⟨ck_158, List.forall_mem_cons.mpr ⟨ck_159, fun _ h => absurd h List.not_mem_nil⟩⟩⟩⟩⟩⟩⟩⟩⟩⟩⟩⟩⟩⟩⟩⟩⟩⟩⟩⟩⟩⟩⟩⟩⟩⟩⟩⟩⟩⟩⟩⟩⟩⟩⟩⟩⟩⟩⟩⟩⟩⟩⟩⟩⟩⟩⟩⟩⟩⟩⟩⟩⟩⟩⟩⟩⟩⟩⟩⟩⟩⟩⟩⟩⟩⟩⟩⟩⟩⟩⟩⟩⟩⟩⟩⟩⟩⟩⟩⟩⟩⟩⟩⟩⟩⟩⟩⟩⟩⟩⟩⟩⟩⟩⟩⟩⟩⟩⟩⟩⟩⟩⟩⟩⟩⟩⟩⟩⟩⟩⟩⟩⟩⟩⟩⟩⟩⟩⟩⟩⟩⟩⟩⟩⟩⟩⟩⟩⟩⟩⟩⟩⟩⟩⟩⟩⟩⟩⟩⟩⟩⟩⟩⟩⟩⟩⟩⟩⟩⟩⟩⟩⟩⟩⟩⟩⟩⟩⟩⟩
set_option maxRecDepth 100000 in
theorem ai_rcks : ai_MT.all ai_rck = true := by decide +kernel
